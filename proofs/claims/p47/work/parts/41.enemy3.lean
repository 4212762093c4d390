section ZEA
abbrev amB (g : zB) (i k : Nat) : Prop := ¬ bf g k 7 = 2 ∧ ¬ bf g k 0 = bf g i 0 ∧ bf g k 1 = bf g i 1
def diB (g : zB) (i k : Nat) : Int32 := (bf g k 2 - bf g i 2) * wayB g i
/-- the nearest enemy and its distance, among the first lines -/
def eaP (g : zB) (i : Nat) : Nat → Int32 × Int32
  | 0 => (-1, 10)
  | k + 1 => if amB g i k ∧ 0 < diB g i k ∧ diB g i k < (eaP g i k).2 then (nI k, diB g i k) else eaP g i k
theorem di_1 : ∀ b, b < 10 → ∀ z, z < 10 → (0 < (nI z - nI b) * (1 : Int32) → b < z ∧ (nI z - nI b) * 1 = nI (z - b) ∧ nI z = nI b + nI (z - b) * 1) := by decide +kernel
theorem di_2 : ∀ b, b < 10 → ∀ z, z < 10 → (0 < (nI z - nI b) * (-1 : Int32) → z < b ∧ (nI z - nI b) * -1 = nI (b - z) ∧ nI z = nI b + nI (b - z) * -1) := by decide +kernel
theorem dj_1 : ∀ b, b < 10 → ∀ d, d < 10 → (nI b + nI d * 1 - nI b) * (1 : Int32) = nI d := by decide +kernel
theorem dj_2 : ∀ b, b < 10 → ∀ d, d < 10 → (nI b + nI d * -1 - nI b) * (-1 : Int32) = nI d := by decide +kernel
theorem di_d {g : zB} {i j : Nat} (hi : lineW g i) (hj : lineW g j) (h : 0 < diB g i j) : ∃ d, 1 ≤ d ∧ d ≤ 9 ∧ diB g i j = nI d ∧ bf g j 2 = posB g i d := by
  obtain ⟨b, hb, eb⟩ := hi.2.2.1
  obtain ⟨z, hz, ez⟩ := hj.2.2.1
  unfold diB at h ⊢
  unfold posB
  rw [eb, ez] at h ⊢
  rcases way_or g i with w | w <;> rw [w] at h ⊢
  · obtain ⟨h1, h2, h3⟩ := di_1 b hb z hz h
    exact ⟨z - b, by omega, by omega, h2, h3⟩
  · obtain ⟨h1, h2, h3⟩ := di_2 b hb z hz h
    exact ⟨b - z, by omega, by omega, h2, h3⟩
theorem dj_d {g : zB} {i j d : Nat} (hi : lineW g i) (hd : d ≤ 9) (h : bf g j 2 = posB g i d) : diB g i j = nI d := by
  obtain ⟨b, hb, eb⟩ := hi.2.2.1
  unfold diB
  rw [h]
  unfold posB
  rw [eb]
  rcases way_or g i with w | w <;> rw [w]
  · exact dj_1 b hb d (by omega)
  · exact dj_2 b hb d (by omega)
theorem eaP_of {g : zB} {i : Nat} (hW : batW g) (hlt : i < bn g) : ∀ k, k ≤ bn g → (eaP g i k = (-1, 10) ∧ ∀ j, j < k → amB g i j → ¬ 0 < diB g i j) ∨ ∃ j d, j < k ∧ 1 ≤ d ∧ d ≤ 9 ∧ amB g i j ∧ bf g j 2 = posB g i d ∧ eaP g i k = (nI j, nI d) ∧ ∀ j' d', j' < k → amB g i j' → 1 ≤ d' → d' ≤ 9 → bf g j' 2 = posB g i d' → d ≤ d'
  | 0, _ => Or.inl ⟨rfl, fun _ h => absurd h (Nat.not_lt_zero _)⟩
  | k + 1, hk => by
    have hi := hW.2.2.1 i hlt
    have hkL := hW.2.2.1 k (by omega)
    rw [eaP]
    rcases eaP_of hW hlt k (by omega) with ⟨e, h⟩ | ⟨j, d, h1, h2, h3, h4, h5, e, h6⟩
    · rw [e]
      by_cases c1 : amB g i k ∧ 0 < diB g i k
      · obtain ⟨d, q1, q2, q3, q4⟩ := di_d hi hkL c1.2
        refine Or.inr ⟨k, d, by omega, q1, q2, c1.1, q4, ?_, fun j' d' hj' ha' p1 p2 p3 => ?_⟩
        · rw [if_pos ⟨c1.1, c1.2, by rw [q3]; exact lt_i (b := 10) (by omega) (by decide)⟩, q3]
        · by_cases ej : j' = k
          · subst ej
            have := nI_inj2 (by omega) (by omega) (q3.symm.trans (dj_d hi p2 p3))
            omega
          · exact absurd (show 0 < diB g i j' by rw [dj_d hi p2 p3]; exact lt_i (a := 0) (by omega) (by omega)) (h j' (by omega) ha')
      · refine Or.inl ⟨if_neg (fun q => c1 ⟨q.1, q.2.1⟩), fun j hj ha hd => ?_⟩
        by_cases ej : j = k
        · subst ej; exact c1 ⟨ha, hd⟩
        · exact h j (by omega) ha hd
    · rw [e]
      by_cases c1 : amB g i k ∧ 0 < diB g i k ∧ diB g i k < nI d
      · obtain ⟨d2, q1, q2, q3, q4⟩ := di_d hi hkL c1.2.1
        have hdd : d2 < d := Nat.lt_of_not_le (fun q => absurd c1.2.2 (by rw [q3]; exact Int32.not_lt.mpr (le_i q (by omega))))
        refine Or.inr ⟨k, d2, by omega, q1, q2, c1.1, q4, ?_, fun j' d' hj' ha' p1 p2 p3 => ?_⟩
        · rw [if_pos c1, q3]
        · by_cases ej : j' = k
          · subst ej
            have := nI_inj2 (by omega) (by omega) (q3.symm.trans (dj_d hi p2 p3))
            omega
          · have := h6 j' d' (by omega) ha' p1 p2 p3
            omega
      · refine Or.inr ⟨j, d, by omega, h2, h3, h4, h5, if_neg c1, fun j' d' hj' ha' p1 p2 p3 => ?_⟩
        by_cases ej : j' = k
        · subst ej
          have hz := dj_d hi p2 p3
          exact Nat.le_of_not_lt (fun q => c1 ⟨ha', by rw [hz]; exact lt_i (a := 0) (by omega) (by omega), by rw [hz]; exact lt_i q (by omega)⟩)
        · exact h6 j' d' (by omega) ha' p1 p2 p3
abbrev noE (g : zB) (i d : Nat) : Prop := ∀ j, occB g (bf g i 1) (posB g i d) = some j → bf g j 0 = bf g i 0
theorem enS_none {g : zB} {i : Nat} : ∀ n d, (∀ d', d ≤ d' → d' < d + n → noE g i d') → enS g i n d = -1
  | 0, _, _ => rfl
  | n + 1, d, h => by
    have hr := enS_none n (d + 1) (fun d' h1 h2 => h d' (by omega) (by omega))
    rcases ho : occB g (bf g i 1) (posB g i d) with _ | j
    · rw [enS_n ho]; exact hr
    · rw [enS_f ho (h d (by omega) (by omega) j ho)]; exact hr
theorem enS_hit {g : zB} {i d0 j : Nat} (h0 : occB g (bf g i 1) (posB g i d0) = some j) (h1 : ¬ bf g j 0 = bf g i 0) : ∀ n d, d ≤ d0 → d0 < d + n → (∀ d', d ≤ d' → d' < d0 → noE g i d') → enS g i n d = nI j
  | 0, _, h2, h3, _ => absurd h3 (by omega)
  | n + 1, d, h2, h3, h => by
    by_cases e : d = d0
    · subst e; exact enS_e h0 h1
    · have hr := enS_hit h0 h1 n (d + 1) (by omega) (by omega) (fun d' q1 q2 => h d' (by omega) q2)
      rcases ho : occB g (bf g i 1) (posB g i d) with _ | j2
      · rw [enS_n ho]; exact hr
      · rw [enS_f ho (h d (by omega) (by omega) j2 ho)]; exact hr
theorem occ_line {g : zB} {j : Nat} (hW : batW g) (hj : j < bn g) (h7 : ¬ bf g j 7 = 2) : occB g (bf g j 1) (bf g j 2) = some j := by
  have hL := hW.2.2.1 j hj
  have hn := hW.1
  obtain ⟨a, ha, ea⟩ := hL.2.1
  obtain ⟨b, hb, eb⟩ := hL.2.2.1
  have hc := cellB_at (x := bf g j 1) (y := bf g j 2) hW.2.2.2 hj h7 rfl rfl
  unfold occB
  rw [hc, ea, eb, if_pos ⟨⟨ge_i (by omega), lt_i (b := 3) ha (by decide)⟩, ⟨ge_i (by omega), le_i (b := 9) (by omega) (by decide)⟩, ge_i (by have := hn.1; omega)⟩, nI_clamp (by have := hn.1; omega)]
theorem ea_en {g : zB} {i : Nat} (hW : batW g) (hlt : i < bn g) : (eaP g i (bn g)).1 = enB g i := by
  have hi := hW.2.2.1 i hlt
  have key : ∀ d' j', 1 ≤ d' → d' ≤ 9 → occB g (bf g i 1) (posB g i d') = some j' → ¬ bf g j' 0 = bf g i 0 → j' < bn g ∧ amB g i j' ∧ bf g j' 2 = posB g i d' := fun d' j' _ _ ho hs => by
    obtain ⟨q1, q2, q3, q4, q5, -⟩ := occ_some hW.1.1 ho
    exact ⟨q1, ⟨q3, hs, q4⟩, q5⟩
  rcases eaP_of hW hlt (bn g) (Nat.le_refl _) with ⟨e, h⟩ | ⟨j, d, h1, h2, h3, h4, h5, e, h6⟩
  · rw [e]
    refine (enS_none 9 1 (fun d' p1 p2 j' ho => Classical.byContradiction (fun hs => ?_))).symm
    obtain ⟨q1, q2, q3⟩ := key d' j' p1 (by omega) ho hs
    exact h j' q1 q2 (by rw [dj_d hi (by omega) q3]; exact lt_i (a := 0) (by omega) (by omega))
  · rw [e]
    refine (enS_hit (d0 := d) (j := j) ?_ h4.2.1 9 1 h2 (by omega) (fun d' p1 p2 j' ho => Classical.byContradiction (fun hs => ?_))).symm
    · rw [← h5, ← h4.2.2]; exact occ_line hW h1 h4.1
    · obtain ⟨q1, q2, q3⟩ := key d' j' p1 (by omega) ho hs
      have := h6 j' d' q1 q2 p1 (by omega) q3
      omega
set_option maxHeartbeats 4000000 in
set_option maxRecDepth 100000 in
theorem ok_X1_enemyAmongLines (l : Launch) {g : zG} {κ : zKp} {μ : zMu} {ω : zOm} {f : Nat} {gb cb : Nat → Int32} (hf : f < 11) {i : Nat} (hW : batW gb) (hlt : i < bn gb) : zM l g yX1_enemyAmongLines cX1_enemyAmongLines 7 (some .int) 3 0 [.ref (gA g 6 f 0), .ref (gA g 9 f i)] (zF κ f gb cb) μ ω (zF κ f gb cb) μ ω (some (.int (enB gb i))) := by
  have hn := hW.1
  refine zM_of (by decide) (Nat.le_of_ble_eq_true rfl) (fun p e R s m args below meth c hX => ?_)
  show zZ p l e R s m args below meth c g 7 _ _ _ _ 0 0 [(0, .ref (gA g 6 f 0)), (1, .ref (gA g 9 f i))] []
  refine z_iconst (v := -1) hX dX1_enemyAmongLines_0 (by decide) ?_
  refine z_istore_n (lv' := [(2, _), (0, _), (1, _)]) hX dX1_enemyAmongLines_1 (by decide) rfl ?_
  refine z_bipush (v := 10) hX dX1_enemyAmongLines_2 (by decide) ?_
  refine z_istore_n (lv' := [(3, _), (2, _), (0, _), (1, _)]) hX dX1_enemyAmongLines_4 (by decide) rfl ?_
  refine z_iconst (v := 0) hX dX1_enemyAmongLines_5 (by decide) ?_
  refine z_istore (lv' := [(4, _), (3, _), (2, _), (0, _), (1, _)]) hX dX1_enemyAmongLines_6 (by decide) rfl ?_
  have hL : ∀ (dz : Nat) (k : Nat) (sv tv : Int32), bn gb - k = dz → k ≤ bn gb → sv = (eaP gb i k).1 → tv = (eaP gb i k).2 → zZ p l e R s m args below meth c g 7 (zQ g (zF κ f gb cb) μ ω (some (.int (enB gb i))) below args s 0) (zF κ f gb cb) μ ω 0 8 [(0, .ref (gA g 6 f 0)), (1, .ref (gA g 9 f i)), (2, .int sv), (3, .int tv), (4, .int (nI k))] [] := by
    intro dz
    induction dz with
    | zero =>
      intro k sv tv hd hk hs ht
      have hkn : k = bn gb := by omega
      refine z_iload hX dX1_enemyAmongLines_8 4 rfl ?_
      refine z_aload_n hX dX1_enemyAmongLines_10 0 rfl ?_
      refine zg_X1_count hX hf  fl_RX1_21 dX1_enemyAmongLines_11 ?_
      refine z_icmp_ge (tgt := 102) hX dX1_enemyAmongLines_14 (by decide) (fun h14 => ?_) (fun h14 => absurd h14 (Classical.not_not.mpr (by rw [hkn]; exact cnt_le hn)))
      refine z_iload_n hX dX1_enemyAmongLines_102 2 rfl ?_
      exact z_iretI hX dX1_enemyAmongLines_103 (by decide) (by rw [hs, hkn, ea_en hW hlt]) (fun _ h => h)
    | succ dz ih =>
      intro k sv tv hd hk hs ht
      have hkn : k < bn gb := by omega
      refine z_iload hX dX1_enemyAmongLines_8 4 rfl ?_
      refine z_aload_n hX dX1_enemyAmongLines_10 0 rfl ?_
      refine zg_X1_count hX hf  fl_RX1_21 dX1_enemyAmongLines_11 ?_
      refine z_icmp_ge (tgt := 102) hX dX1_enemyAmongLines_14 (by decide) (fun h14 => absurd h14 (cnt_gt hn hkn)) (fun h14 => ?_)
      refine z_aload_n hX dX1_enemyAmongLines_17 0 rfl ?_
      refine z_iload hX dX1_enemyAmongLines_18 4 rfl ?_
      refine z_callV1 hX (ok_line_in l hf hn hkn) cv_RX1_57 (zRc6 hf) dX1_enemyAmongLines_20 (by decide) rfl rfl (Nat.le_of_ble_eq_true rfl) ?_
      refine z_astore (lv' := [(5, _), (0, _), (1, _), (2, _), (3, _), (4, _)]) hX dX1_enemyAmongLines_23 (by decide) rfl ?_
      refine z_aload hX dX1_enemyAmongLines_25 0 rfl ?_
      refine z_ifnull hX dX1_enemyAmongLines_27 ?_
      refine z_aload hX dX1_enemyAmongLines_30 0 rfl ?_
      refine z_callV1 hX (ok_X3_hasFallen l hf (lt12 hn hkn) hkn) cv_RX1_172 (zRc9 hf (lt12 hn hkn)) dX1_enemyAmongLines_32 (by decide) rfl rfl (Nat.le_of_ble_eq_true rfl) ?_
      refine z_if_neB (tgt := 96) hX dX1_enemyAmongLines_35 (by decide) (fun h35 => ?_) (fun h35 => ?_)
      · skip
        refine z_iinc (v := nI (k + 1)) (lv' := [(4, _), (5, _), (0, _), (1, _), (2, _), (3, _)]) hX dX1_enemyAmongLines_96 5 rfl (nI_1 k) (by decide) rfl ?_
        refine z_goto (tgt := 8) hX dX1_enemyAmongLines_99 (by decide) ?_
        refine z_sub [2, 3, 4, 5, 0] rfl ?_
        exact ih (k + 1) _ _ (by omega) hkn (by rw [eaP, if_neg (fun q => q.1.1 h35)]; exact hs) (by rw [eaP, if_neg (fun q => q.1.1 h35)]; exact ht)
      · skip
        refine z_aload hX dX1_enemyAmongLines_38 0 rfl ?_
        refine zg_X3_side hX hf (lt12 hn hkn) hkn  fl_RX1_79 dX1_enemyAmongLines_40 ?_
        refine z_aload_n hX dX1_enemyAmongLines_43 2 rfl ?_
        refine zg_X3_side hX hf (lt12 hn hlt) hlt  fl_RX1_79 dX1_enemyAmongLines_44 ?_
        refine z_icmp_eq (tgt := 96) hX dX1_enemyAmongLines_47 (by decide) (fun h47 => ?_) (fun h47 => ?_)
        · skip
          refine z_iinc (v := nI (k + 1)) (lv' := [(4, _), (5, _), (0, _), (1, _), (2, _), (3, _)]) hX dX1_enemyAmongLines_96 5 rfl (nI_1 k) (by decide) rfl ?_
          refine z_goto (tgt := 8) hX dX1_enemyAmongLines_99 (by decide) ?_
          refine z_sub [2, 3, 4, 5, 0] rfl ?_
          exact ih (k + 1) _ _ (by omega) hkn (by rw [eaP, if_neg (fun q => q.1.2.1 h47)]; exact hs) (by rw [eaP, if_neg (fun q => q.1.2.1 h47)]; exact ht)
        · skip
          refine z_aload hX dX1_enemyAmongLines_50 0 rfl ?_
          refine zg_X3_lane hX hf (lt12 hn hkn) hkn  fl_RX1_82 dX1_enemyAmongLines_52 ?_
          refine z_aload_n hX dX1_enemyAmongLines_55 2 rfl ?_
          refine zg_X3_lane hX hf (lt12 hn hlt) hlt  fl_RX1_82 dX1_enemyAmongLines_56 ?_
          refine z_icmp_ne (tgt := 96) hX dX1_enemyAmongLines_59 (by decide) (fun h59 => ?_) (fun h59 => ?_)
          · skip
            refine z_iinc (v := nI (k + 1)) (lv' := [(4, _), (5, _), (0, _), (1, _), (2, _), (3, _)]) hX dX1_enemyAmongLines_96 5 rfl (nI_1 k) (by decide) rfl ?_
            refine z_goto (tgt := 8) hX dX1_enemyAmongLines_99 (by decide) ?_
            refine z_sub [2, 3, 4, 5, 0] rfl ?_
            exact ih (k + 1) _ _ (by omega) hkn (by rw [eaP, if_neg (fun q => h59 q.1.2.2)]; exact hs) (by rw [eaP, if_neg (fun q => h59 q.1.2.2)]; exact ht)
          · skip
            refine z_aload hX dX1_enemyAmongLines_62 0 rfl ?_
            refine zg_X3_column hX hf (lt12 hn hkn) hkn  fl_RX1_85 dX1_enemyAmongLines_64 ?_
            refine z_aload_n hX dX1_enemyAmongLines_67 2 rfl ?_
            refine zg_X3_column hX hf (lt12 hn hlt) hlt  fl_RX1_85 dX1_enemyAmongLines_68 ?_
            refine z_isub hX dX1_enemyAmongLines_71 ?_
            refine z_aload_n hX dX1_enemyAmongLines_72 2 rfl ?_
            refine z_callV1 hX (ok_X3_forward l hf (lt12 hn hlt) hlt) cv_RX1_135 (zRc9 hf (lt12 hn hlt)) dX1_enemyAmongLines_73 (by decide) rfl rfl (Nat.le_of_ble_eq_true rfl) ?_
            refine z_imul hX dX1_enemyAmongLines_76 ?_
            refine z_istore (lv' := [(6, _), (5, _), (0, _), (1, _), (2, _), (3, _), (4, _)]) hX dX1_enemyAmongLines_77 (by decide) rfl ?_
            refine z_iload hX dX1_enemyAmongLines_79 0 rfl ?_
            refine z_if_le (tgt := 96) hX dX1_enemyAmongLines_81 (by decide) (fun h81 => ?_) (fun h81 => ?_)
            · skip
              refine z_iinc (v := nI (k + 1)) (lv' := [(4, _), (6, _), (5, _), (0, _), (1, _), (2, _), (3, _)]) hX dX1_enemyAmongLines_96 6 rfl (nI_1 k) (by decide) rfl ?_
              refine z_goto (tgt := 8) hX dX1_enemyAmongLines_99 (by decide) ?_
              refine z_sub [3, 4, 5, 6, 0] rfl ?_
              exact ih (k + 1) _ _ (by omega) hkn (by rw [eaP, if_neg (fun q => absurd q.2.1 (Int32.not_lt.mpr h81))]; exact hs) (by rw [eaP, if_neg (fun q => absurd q.2.1 (Int32.not_lt.mpr h81))]; exact ht)
            · skip
              refine z_iload hX dX1_enemyAmongLines_84 0 rfl ?_
              refine z_iload_n hX dX1_enemyAmongLines_86 5 rfl ?_
              refine z_icmp_ge (tgt := 96) hX dX1_enemyAmongLines_87 (by decide) (fun h87 => ?_) (fun h87 => ?_)
              · skip
                refine z_iinc (v := nI (k + 1)) (lv' := [(4, _), (6, _), (5, _), (0, _), (1, _), (2, _), (3, _)]) hX dX1_enemyAmongLines_96 6 rfl (nI_1 k) (by decide) rfl ?_
                refine z_goto (tgt := 8) hX dX1_enemyAmongLines_99 (by decide) ?_
                refine z_sub [3, 4, 5, 6, 0] rfl ?_
                exact ih (k + 1) _ _ (by omega) hkn (by rw [eaP, if_neg (fun q => absurd q.2.2 (by rw [← ht]; exact Int32.not_lt.mpr h87))]; exact hs) (by rw [eaP, if_neg (fun q => absurd q.2.2 (by rw [← ht]; exact Int32.not_lt.mpr h87))]; exact ht)
              · skip
                refine z_iload hX dX1_enemyAmongLines_90 6 rfl ?_
                refine z_istore_n (lv' := [(2, _), (6, _), (5, _), (0, _), (1, _), (3, _), (4, _)]) hX dX1_enemyAmongLines_92 (by decide) rfl ?_
                refine z_iload hX dX1_enemyAmongLines_93 1 rfl ?_
                refine z_istore_n (lv' := [(3, _), (2, _), (6, _), (5, _), (0, _), (1, _), (4, _)]) hX dX1_enemyAmongLines_95 (by decide) rfl ?_
                refine z_iinc (v := nI (k + 1)) (lv' := [(4, _), (3, _), (2, _), (6, _), (5, _), (0, _), (1, _)]) hX dX1_enemyAmongLines_96 6 rfl (nI_1 k) (by decide) rfl ?_
                refine z_goto (tgt := 8) hX dX1_enemyAmongLines_99 (by decide) ?_
                refine z_sub [5, 6, 2, 1, 0] rfl ?_
                exact ih (k + 1) _ _ (by omega) hkn (by rw [eaP, if_pos ⟨⟨h35, h47, h59⟩, Int32.not_le.mp h81, by rw [← ht]; exact Int32.not_le.mp h87⟩]) (by rw [eaP, if_pos ⟨⟨h35, h47, h59⟩, Int32.not_le.mp h81, by rw [← ht]; exact Int32.not_le.mp h87⟩]; rfl)
  refine z_sub [3, 4, 2, 1, 0] rfl ?_
  exact hL (bn gb) 0 (-1) 10 (Nat.sub_zero _) (Nat.zero_le _) rfl rfl
set_option maxHeartbeats 4000000 in
set_option maxRecDepth 100000 in
theorem ok_X4_enemyByDistances (l : Launch) {g : zG} {κ : zKp} {μ : zMu} {ω : zOm} {gb cb : Nat → Int32} {i : Nat} (hW : batW gb) (hlt : i < bn gb) (h7 : ¬ bf gb i 7 = 2) (h0 : ¬ enB gb i = -1) : zM l g yX4_enemyByDistances cX4_enemyByDistances 3 (some .int) 4 0 [.ref (gA g 0 0 0), .int (nI i)] (zF κ 0 gb cb) μ ω (zF κ 0 gb cb) μ ω (some (.int (enB gb i))) := by
  have hn := hW.1
  refine zM_of (by decide) (Nat.le_of_ble_eq_true rfl) (fun p e R s m args below meth c hX => ?_)
  show zZ p l e R s m args below meth c g 3 _ _ _ _ 0 0 [(0, .ref (gA g 0 0 0)), (1, .int (nI i))] []
  refine z_aload_n hX dX4_enemyByDistances_0 0 rfl ?_
  refine zg_X4_field hX   fl_RX4_10 dX4_enemyByDistances_1 ?_
  refine z_aload_n hX dX4_enemyByDistances_4 0 rfl ?_
  refine z_iload_n hX dX4_enemyByDistances_5 1 rfl ?_
  refine z_callV1 hX (ok_X4_unfallen l hn hlt h7) cv_RX4_126 zRc0 dX4_enemyByDistances_6 (by decide) rfl rfl (Nat.le_of_ble_eq_true rfl) ?_
  refine z_callV1 hX (ok_X1_enemyAmongLines l z0lt hW hlt) cv_RX4_198 (zRc6 z0lt) dX4_enemyByDistances_9 (by decide) rfl rfl (Nat.le_of_ble_eq_true rfl) ?_
  refine z_istore_n (lv' := [(2, _), (0, _), (1, _)]) hX dX4_enemyByDistances_12 (by decide) rfl ?_
  refine z_iload_n hX dX4_enemyByDistances_13 0 rfl ?_
  refine z_iconst (v := -1) hX dX4_enemyByDistances_14 (by decide) ?_
  refine z_icmp_ne (tgt := 28) hX dX4_enemyByDistances_15 (by decide) (fun h15 => ?_) (fun h15 => absurd h15 h0)
  refine z_iload_n hX dX4_enemyByDistances_28 0 rfl ?_
  exact z_iretI hX dX4_enemyByDistances_29 (by decide) rfl (fun _ h => h)
set_option maxHeartbeats 4000000 in
set_option maxRecDepth 100000 in
theorem em_X4_enemyByDistances (l : Launch) (hl0 : l.stackTraces = false) {g : zG} {κ : zKp} {μ : zMu} {ω : zOm} {gb cb : Nat → Int32} {i : Nat} (hW : batW gb) (hlt : i < bn gb) (h7 : ¬ bf gb i 7 = 2) (h0 : enB gb i = -1) : zMx l g yX4_enemyByDistances cX4_enemyByDistances 3 (some .int) 6 1 [.ref (gA g 0 0 0), .int (nI i)] (zF κ 0 gb cb) μ ω (zF κ 0 gb cb) μ ω (.error xNSE) := by
  have hn := hW.1
  refine zMx_of (by decide) (Nat.le_of_ble_eq_true rfl) (fun p e R s m args below meth c hX hT => ?_)
  show zZ p l e R s m args below meth c g 3 _ _ _ _ 0 0 [(0, .ref (gA g 0 0 0)), (1, .int (nI i))] []
  refine z_aload_n hX dX4_enemyByDistances_0 0 rfl ?_
  refine zg_X4_field hX   fl_RX4_10 dX4_enemyByDistances_1 ?_
  refine z_aload_n hX dX4_enemyByDistances_4 0 rfl ?_
  refine z_iload_n hX dX4_enemyByDistances_5 1 rfl ?_
  refine z_callV1 hX (ok_X4_unfallen l hn hlt h7) cv_RX4_126 zRc0 dX4_enemyByDistances_6 (by decide) rfl rfl (Nat.le_of_ble_eq_true rfl) ?_
  refine z_callV1 hX (ok_X1_enemyAmongLines l z0lt hW hlt) cv_RX4_198 (zRc6 z0lt) dX4_enemyByDistances_9 (by decide) rfl rfl (Nat.le_of_ble_eq_true rfl) ?_
  refine z_istore_n (lv' := [(2, _), (0, _), (1, _)]) hX dX4_enemyByDistances_12 (by decide) rfl ?_
  refine z_iload_n hX dX4_enemyByDistances_13 0 rfl ?_
  refine z_iconst (v := -1) hX dX4_enemyByDistances_14 (by decide) ?_
  refine z_icmp_ne (tgt := 28) hX dX4_enemyByDistances_15 (by decide) (fun h15 => absurd h15 (fun q => q h0)) (fun h15 => ?_)
  exact z_throwN hX hT hl0 (i := 13) rfl dX4_enemyByDistances_18 dX4_enemyByDistances_21 dX4_enemyByDistances_22 dX4_enemyByDistances_24 dX4_enemyByDistances_27 (by decide) (Nat.le_of_ble_eq_true rfl) rfl (fun _ h => h)
end ZEA
