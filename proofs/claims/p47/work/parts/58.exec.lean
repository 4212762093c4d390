section ZEX
theorem zF_T {κ : zKp} {x y gb cb : Nat → Int32} {f : Nat} : zF (zT κ x y) f gb cb = zT (zF κ f gb cb) x y := by
  funext t f'
  unfold zF zT
  by_cases h2 : t = 2
  · subst h2; simp
  · by_cases h3 : t = 3
    · subst h3; simp
    · simp [h2, h3]
theorem zCp_T {κ : zKp} {x y : Nat → Int32} {f f2 : Nat} : zCp (zT κ x y) f f2 = zT (zCp κ f f2) x y := by
  funext t f'
  unfold zCp zT
  by_cases h2 : t = 2
  · subst h2; simp
  · by_cases h3 : t = 3
    · subst h3; simp
    · simp [h2, h3]
theorem zRow_T {κ : zKp} {x y r : Nat → Int32} : zRow (zT κ x y) 0 0 r = zT (zRow κ 0 0 r) x y := by
  funext t f'
  unfold zRow zT
  by_cases h2 : t = 2
  · subst h2; simp
  · by_cases h3 : t = 3
    · subst h3; simp
    · simp [h2, h3]
theorem zL_T {κ : zKp} {x y : Nat → Int32} {f i w : Nat} : zL (zT κ x y) f i w = zL κ f i w := rfl
theorem zL_Fo {κ : zKp} {gb cb : Nat → Int32} {f f2 i w : Nat} (h : ¬ f2 = f) : zL (zF κ f gb cb) f2 i w = zL κ f2 i w := by
  unfold zL zF
  simp [h]
theorem W_xT {g : zG} {κ : zKp} {μ : zMu} {ω : zOm} {x y : Nat → Int32} {n0 p0 : Nat} {H : Heap} (h0 : x 0 = nI n0) (h1 : x 1 = nI p0) (h : WW g (zT κ x y) μ ω H) : WW g (zT κ (xT n0 p0 (x 2) (x 3) (x 4) (x 5) (x 6)) y) μ ω H := WW.eq h (fun t f i hv => by
  by_cases h2 : t = 2
  · subst h2
    rw [zV_f0 hv (by omega), zV_i0 hv (by omega), zE2, zE2, h0, h1]; rfl
  · exact zE_T hv (fun q => absurd q h2) (fun _ => rfl))
theorem W_cl {g : zG} {κ : zKp} {μ : zMu} {ω : zOm} {y : Nat → Int32} {n0 p0 : Nat} {x1 x2 x3 x4 x5 : Int32} {H : Heap} (h : WW g (zT κ (upd (xT n0 p0 x1 x2 x3 x4 x5) 0 0) y) μ ω H) : WW g (zT κ (xT 0 p0 x1 x2 x3 x4 x5) y) μ ω H := by
  rw [show upd (xT n0 p0 x1 x2 x3 x4 x5) 0 0 = xT 0 p0 x1 x2 x3 x4 x5 from xT_0 (q := 0)] at h
  exact h
theorem per_ind {gb : zB} {r r0 : zC7} (h : indP r r0) (hok : r0.1 = true) : perB gb r.2.2.1 r.2.2.2.1 r.2.2.2.2.1 r.2.2.2.2.2.1 r.2.2.2.2.2.2 = perB gb r0.2.2.1 r0.2.2.2.1 r0.2.2.2.2.1 r0.2.2.2.2.2.1 r0.2.2.2.2.2.2 := by
  obtain ⟨-, -, h⟩ := h
  obtain ⟨hk, h1, h2, h3⟩ := h hok
  unfold perB
  rw [hk]
  by_cases k1 : r0.2.2.1 = 108
  · rw [h1 k1]
  · by_cases k2 : r0.2.2.1 = 111
    · rw [if_neg k1, if_neg k1, if_pos k2, if_pos k2, h2 k2]
    · by_cases k3 : r0.2.2.1 = 114
      · rw [if_neg k1, if_neg k1, if_neg k2, if_neg k2, if_pos k3, if_pos k3, h3 k3]
      · rw [if_neg k1, if_neg k1, if_neg k2, if_neg k2, if_neg k3, if_neg k3]
/-- the numbers of a text's row -/
def x7 (x : Nat → Int32) : zC7 := (true, 0, x 2, x 3, x 4, x 5, x 6)
/-- the text's numbers after j commands were read -/
def flB (y : Nat → Int32) (n0 : Nat) (z0 : zC7) : Nat → zC7
  | 0 => z0
  | j + 1 => comB y n0 (stB y n0 j) (flB y n0 z0 j).2.2.2.1 (flB y n0 z0 j).2.2.2.2.1 (flB y n0 z0 j).2.2.2.2.2.1 (flB y n0 z0 j).2.2.2.2.2.2
/-- where the reader stands ahead of command j -/
def pjB (y : Nat → Int32) (n0 : Nat) : Nat → Nat
  | 0 => 0
  | j + 1 => enC y n0 (stB y n0 j)
theorem fl_ind {y : Nat → Int32} {n0 j : Nat} {z0 : zC7} : indP (flB y n0 z0 (j + 1)) (comB y n0 (stB y n0 j) 0 0 0 0) := com_ind
theorem fl_en {y : Nat → Int32} {n0 j : Nat} {z0 : zC7} : (flB y n0 z0 (j + 1)).2.1 = enC y n0 (stB y n0 j) := com_ind.2.1
theorem fl_ok {y : Nat → Int32} {n0 j : Nat} {z0 : zC7} : (flB y n0 z0 (j + 1)).1 = (comB y n0 (stB y n0 j) 0 0 0 0).1 := com_ind.1
set_option maxHeartbeats 4000000 in
set_option maxRecDepth 100000 in
theorem ok_count (l : Launch) {g : zG} {κ : zKp} {μ : zMu} {ω : zOm} {x y : Nat → Int32} {n0 K : Nat} (hx0 : x 0 = nI n0) (hn : n0 ≤ 60) (hy : txW y n0) (hg : godN y n0 K) (hend : fitT y n0 K)  : zM l g yX0_countCommands cX0_countCommands 2 (some .int) 7 0 [.ref (gA g 2 0 0)] (zT κ x y) μ ω (zT κ (xT n0 (enC y n0 (stB y n0 (K))) ((flB y n0 (x7 x) (K + 1)).2.2.1) ((flB y n0 (x7 x) (K + 1)).2.2.2.1) ((flB y n0 (x7 x) (K + 1)).2.2.2.2.1) ((flB y n0 (x7 x) (K + 1)).2.2.2.2.2.1) ((flB y n0 (x7 x) (K + 1)).2.2.2.2.2.2)) y) μ ω (some (.int (nI (K + 1)))) := by
  have hbK := stB_b K hg
  have hbE := enC_b (y := y) hbK.2
  refine zM_of (by decide) (Nat.le_of_ble_eq_true rfl) (fun p e R s m args below meth c hX => ?_)
  show zZ p l e R s m args below meth c g 2 _ _ _ _ 0 0 [(0, .ref (gA g 2 0 0))] []
  refine z_aload_n hX dX0_countCommands_0 0 rfl ?_
  refine z_callV0 hX (ok_X0_rewind l) cv_RX0_38 zRc2 dX0_countCommands_1 (by decide) rfl rfl (Nat.le_of_ble_eq_true rfl) ?_
  refine z_world (κ' := zT κ (xT n0 0 (x 2) (x 3) (x 4) (x 5) (x 6)) y) (fun _ h => W_xT (x := upd x 1 0) (n0 := n0) (p0 := 0) hx0 rfl h) ?_
  refine z_iconst (v := 1) hX dX0_countCommands_4 (by decide) ?_
  refine z_istore_n (lv' := [(1, _), (0, _)]) hX dX0_countCommands_5 (by decide) rfl ?_
  have hL : ∀ (dz : Nat) (j : Nat), K - j = dz → j ≤ K → zZ p l e R s m args below meth c g 2 (zQ g (zT κ (xT n0 (enC y n0 (stB y n0 (K))) ((flB y n0 (x7 x) (K + 1)).2.2.1) ((flB y n0 (x7 x) (K + 1)).2.2.2.1) ((flB y n0 (x7 x) (K + 1)).2.2.2.2.1) ((flB y n0 (x7 x) (K + 1)).2.2.2.2.2.1) ((flB y n0 (x7 x) (K + 1)).2.2.2.2.2.2)) y) μ ω (some (.int (nI (K + 1)))) below args s 0) (zT κ (xT n0 (stB y n0 (j)) ((flB y n0 (x7 x) (j)).2.2.1) ((flB y n0 (x7 x) (j)).2.2.2.1) ((flB y n0 (x7 x) (j)).2.2.2.2.1) ((flB y n0 (x7 x) (j)).2.2.2.2.2.1) ((flB y n0 (x7 x) (j)).2.2.2.2.2.2)) y) μ ω 0 6 [(0, .ref (gA g 2 0 0)), (1, .int (nI (j + 1)))] [] := by
    intro dz
    induction dz with
    | zero =>
      intro j hd hj
      have hjk : j = K := by omega
      refine z_iload_n hX dX0_countCommands_6 1 rfl ?_
      refine z_bipush (v := 60) hX dX0_countCommands_7 (by decide) ?_
      refine z_icmp_gt (tgt := 51) hX dX0_countCommands_9 (by decide) (fun h9 => absurd h9 (nI_nlt (a := 60) (b := j + 1) (by omega) (by decide))) (fun h9 => ?_)
      refine z_aload_n hX dX0_countCommands_12 0 rfl ?_
      refine z_callV1 hX (ok_readCommand l hn hy (stB_b j (fun w hw => hg w (by omega))).2) cv_RX0_41 zRc2 dX0_countCommands_13 (by decide) rfl rfl (Nat.le_of_ble_eq_true rfl) ?_
      refine z_world (κ' := zT κ (xT n0 (enC y n0 (stB y n0 (j))) ((flB y n0 (x7 x) (j + 1)).2.2.1) ((flB y n0 (x7 x) (j + 1)).2.2.2.1) ((flB y n0 (x7 x) (j + 1)).2.2.2.2.1) ((flB y n0 (x7 x) (j + 1)).2.2.2.2.2.1) ((flB y n0 (x7 x) (j + 1)).2.2.2.2.2.2)) y) (fun _ h => by rw [← fl_en (z0 := x7 x)]; exact h) ?_
      refine z_isv (show _ = (if (comB y n0 (stB y n0 (j)) 0 0 0 0).1 = true then (1 : Int32) else 0) from by rw [← fl_ok (z0 := x7 x)]; rfl) ?_
      refine z_if_neB (tgt := 21) hX dX0_countCommands_16 (by decide) (fun h16 => ?_) (fun h16 => absurd h16 (fun q => q (by rw [hjk]; exact hend.1)))
      refine z_aload_n hX dX0_countCommands_21 0 rfl ?_
      refine zg_X0_position hX fl_RX0_19 dX0_countCommands_22 ?_
      refine z_isv (show _ = nI (enC y n0 (stB y n0 (j))) from rfl) ?_
      refine z_aload_n hX dX0_countCommands_25 0 rfl ?_
      refine zg_X0_length hX fl_RX0_15 dX0_countCommands_26 ?_
      refine z_isv (show _ = nI (n0) from rfl) ?_
      refine z_icmp_lt (tgt := 34) hX dX0_countCommands_29 (by decide) (fun h29 => absurd h29 (nI_nlt (by rw [hjk]; exact hend.2) (by rw [hjk]; have := hbE.1; omega))) (fun h29 => ?_)
      refine z_iload_n hX dX0_countCommands_32 1 rfl ?_
      exact z_iretI hX dX0_countCommands_33 (by decide) (by rw [hjk]) (fun _ h => by rw [hjk] at h; exact h)
    | succ dz ih =>
      intro j hd hj
      have hjk : j < K := by omega
      obtain ⟨hok, hch⟩ := hg j hjk
      refine z_iload_n hX dX0_countCommands_6 1 rfl ?_
      refine z_bipush (v := 60) hX dX0_countCommands_7 (by decide) ?_
      refine z_icmp_gt (tgt := 51) hX dX0_countCommands_9 (by decide) (fun h9 => absurd h9 (nI_nlt (a := 60) (b := j + 1) (by omega) (by decide))) (fun h9 => ?_)
      refine z_aload_n hX dX0_countCommands_12 0 rfl ?_
      refine z_callV1 hX (ok_readCommand l hn hy (stB_b j (fun w hw => hg w (by omega))).2) cv_RX0_41 zRc2 dX0_countCommands_13 (by decide) rfl rfl (Nat.le_of_ble_eq_true rfl) ?_
      refine z_world (κ' := zT κ (xT n0 (enC y n0 (stB y n0 (j))) ((flB y n0 (x7 x) (j + 1)).2.2.1) ((flB y n0 (x7 x) (j + 1)).2.2.2.1) ((flB y n0 (x7 x) (j + 1)).2.2.2.2.1) ((flB y n0 (x7 x) (j + 1)).2.2.2.2.2.1) ((flB y n0 (x7 x) (j + 1)).2.2.2.2.2.2)) y) (fun _ h => by rw [← fl_en (z0 := x7 x)]; exact h) ?_
      refine z_isv (show _ = (if (comB y n0 (stB y n0 (j)) 0 0 0 0).1 = true then (1 : Int32) else 0) from by rw [← fl_ok (z0 := x7 x)]; rfl) ?_
      refine z_if_neB (tgt := 21) hX dX0_countCommands_16 (by decide) (fun h16 => ?_) (fun h16 => absurd h16 (fun q => q hok))
      refine z_aload_n hX dX0_countCommands_21 0 rfl ?_
      refine zg_X0_position hX fl_RX0_19 dX0_countCommands_22 ?_
      refine z_isv (show _ = nI (enC y n0 (stB y n0 (j))) from rfl) ?_
      refine z_aload_n hX dX0_countCommands_25 0 rfl ?_
      refine zg_X0_length hX fl_RX0_15 dX0_countCommands_26 ?_
      refine z_isv (show _ = nI (n0) from rfl) ?_
      refine z_icmp_lt (tgt := 34) hX dX0_countCommands_29 (by decide) (fun h29 => ?_) (fun h29 => absurd h29 (Classical.not_not.mpr (lt_i hch.1 (by omega))))
      refine z_aload_n hX dX0_countCommands_34 0 rfl ?_
      refine z_bipush (v := 59) hX dX0_countCommands_35 (by decide) ?_
      refine z_callV1 hX (ok_take l hn hy (Nat.le_of_lt hch.1) hch) cv_RX0_45 zRc2 dX0_countCommands_37 (by decide) rfl rfl (Nat.le_of_ble_eq_true rfl) ?_
      refine z_if_ne (tgt := 45) hX dX0_countCommands_40 (by decide) (fun h40 => ?_) (fun h40 => absurd h40 (by decide))
      refine z_iinc (v := nI (j + 1 + 1)) (lv' := [(1, _), (0, _)]) hX dX0_countCommands_45 1 rfl (nI_1 (j + 1)) (by decide) rfl ?_
      refine z_goto (tgt := 6) hX dX0_countCommands_48 (by decide) ?_
      refine z_sub [1, 0] rfl ?_
      exact ih (j + 1) (by omega) (by omega)
  refine z_sub [1, 0] rfl ?_
  exact hL K 0 (Nat.sub_zero _) (Nat.zero_le _)
set_option maxHeartbeats 4000000 in
set_option maxRecDepth 100000 in
theorem no_count (l : Launch) {g : zG} {κ : zKp} {μ : zMu} {ω : zOm} {x y : Nat → Int32} {n0 K : Nat} (hx0 : x 0 = nI n0) (hn : n0 ≤ 60) (hy : txW y n0) (hg : godN y n0 K) (hend : badT y n0 K)  : zM l g yX0_countCommands cX0_countCommands 2 (some .int) 7 0 [.ref (gA g 2 0 0)] (zT κ x y) μ ω (zT κ (xT n0 (enC y n0 (stB y n0 (K))) ((flB y n0 (x7 x) (K + 1)).2.2.1) ((flB y n0 (x7 x) (K + 1)).2.2.2.1) ((flB y n0 (x7 x) (K + 1)).2.2.2.2.1) ((flB y n0 (x7 x) (K + 1)).2.2.2.2.2.1) ((flB y n0 (x7 x) (K + 1)).2.2.2.2.2.2)) y) μ ω (some (.int (-1))) := by
  have hbK := stB_b K hg
  have hbE := enC_b (y := y) hbK.2
  refine zM_of (by decide) (Nat.le_of_ble_eq_true rfl) (fun p e R s m args below meth c hX => ?_)
  show zZ p l e R s m args below meth c g 2 _ _ _ _ 0 0 [(0, .ref (gA g 2 0 0))] []
  refine z_aload_n hX dX0_countCommands_0 0 rfl ?_
  refine z_callV0 hX (ok_X0_rewind l) cv_RX0_38 zRc2 dX0_countCommands_1 (by decide) rfl rfl (Nat.le_of_ble_eq_true rfl) ?_
  refine z_world (κ' := zT κ (xT n0 0 (x 2) (x 3) (x 4) (x 5) (x 6)) y) (fun _ h => W_xT (x := upd x 1 0) (n0 := n0) (p0 := 0) hx0 rfl h) ?_
  refine z_iconst (v := 1) hX dX0_countCommands_4 (by decide) ?_
  refine z_istore_n (lv' := [(1, _), (0, _)]) hX dX0_countCommands_5 (by decide) rfl ?_
  have hL : ∀ (dz : Nat) (j : Nat), K - j = dz → j ≤ K → zZ p l e R s m args below meth c g 2 (zQ g (zT κ (xT n0 (enC y n0 (stB y n0 (K))) ((flB y n0 (x7 x) (K + 1)).2.2.1) ((flB y n0 (x7 x) (K + 1)).2.2.2.1) ((flB y n0 (x7 x) (K + 1)).2.2.2.2.1) ((flB y n0 (x7 x) (K + 1)).2.2.2.2.2.1) ((flB y n0 (x7 x) (K + 1)).2.2.2.2.2.2)) y) μ ω (some (.int (-1))) below args s 0) (zT κ (xT n0 (stB y n0 (j)) ((flB y n0 (x7 x) (j)).2.2.1) ((flB y n0 (x7 x) (j)).2.2.2.1) ((flB y n0 (x7 x) (j)).2.2.2.2.1) ((flB y n0 (x7 x) (j)).2.2.2.2.2.1) ((flB y n0 (x7 x) (j)).2.2.2.2.2.2)) y) μ ω 0 6 [(0, .ref (gA g 2 0 0)), (1, .int (nI (j + 1)))] [] := by
    intro dz
    induction dz with
    | zero =>
      intro j hd hj
      have hjk : j = K := by omega
      refine z_iload_n hX dX0_countCommands_6 1 rfl ?_
      refine z_bipush (v := 60) hX dX0_countCommands_7 (by decide) ?_
      refine z_icmp_gt (tgt := 51) hX dX0_countCommands_9 (by decide) (fun h9 => absurd h9 (nI_nlt (a := 60) (b := j + 1) (by omega) (by decide))) (fun h9 => ?_)
      rcases hend with hb1 | ⟨hb1, hb2, hb3⟩
      · rw [← hjk] at hb1
        refine z_aload_n hX dX0_countCommands_12 0 rfl ?_
        refine z_callV1 hX (ok_readCommand l hn hy (stB_b j (fun w hw => hg w (by omega))).2) cv_RX0_41 zRc2 dX0_countCommands_13 (by decide) rfl rfl (Nat.le_of_ble_eq_true rfl) ?_
        refine z_world (κ' := zT κ (xT n0 (enC y n0 (stB y n0 (j))) ((flB y n0 (x7 x) (j + 1)).2.2.1) ((flB y n0 (x7 x) (j + 1)).2.2.2.1) ((flB y n0 (x7 x) (j + 1)).2.2.2.2.1) ((flB y n0 (x7 x) (j + 1)).2.2.2.2.2.1) ((flB y n0 (x7 x) (j + 1)).2.2.2.2.2.2)) y) (fun _ h => by rw [← fl_en (z0 := x7 x)]; exact h) ?_
        refine z_isv (show _ = (if (comB y n0 (stB y n0 (j)) 0 0 0 0).1 = true then (1 : Int32) else 0) from by rw [← fl_ok (z0 := x7 x)]; rfl) ?_
        refine z_if_neB (tgt := 21) hX dX0_countCommands_16 (by decide) (fun h16 => absurd h16 hb1) (fun h16 => ?_)
        refine z_iconst (v := -1) hX dX0_countCommands_19 (by decide) ?_
        exact z_iretI hX dX0_countCommands_20 (by decide) rfl (fun _ h => by rw [hjk] at h; exact h)
      · rw [← hjk] at hb1 hb2 hb3
        refine z_aload_n hX dX0_countCommands_12 0 rfl ?_
        refine z_callV1 hX (ok_readCommand l hn hy (stB_b j (fun w hw => hg w (by omega))).2) cv_RX0_41 zRc2 dX0_countCommands_13 (by decide) rfl rfl (Nat.le_of_ble_eq_true rfl) ?_
        refine z_world (κ' := zT κ (xT n0 (enC y n0 (stB y n0 (j))) ((flB y n0 (x7 x) (j + 1)).2.2.1) ((flB y n0 (x7 x) (j + 1)).2.2.2.1) ((flB y n0 (x7 x) (j + 1)).2.2.2.2.1) ((flB y n0 (x7 x) (j + 1)).2.2.2.2.2.1) ((flB y n0 (x7 x) (j + 1)).2.2.2.2.2.2)) y) (fun _ h => by rw [← fl_en (z0 := x7 x)]; exact h) ?_
        refine z_isv (show _ = (if (comB y n0 (stB y n0 (j)) 0 0 0 0).1 = true then (1 : Int32) else 0) from by rw [← fl_ok (z0 := x7 x)]; rfl) ?_
        refine z_if_neB (tgt := 21) hX dX0_countCommands_16 (by decide) (fun h16 => ?_) (fun h16 => absurd h16 (fun q => q hb1))
        refine z_aload_n hX dX0_countCommands_21 0 rfl ?_
        refine zg_X0_position hX fl_RX0_19 dX0_countCommands_22 ?_
        refine z_isv (show _ = nI (enC y n0 (stB y n0 (j))) from rfl) ?_
        refine z_aload_n hX dX0_countCommands_25 0 rfl ?_
        refine zg_X0_length hX fl_RX0_15 dX0_countCommands_26 ?_
        refine z_isv (show _ = nI (n0) from rfl) ?_
        refine z_icmp_lt (tgt := 34) hX dX0_countCommands_29 (by decide) (fun h29 => ?_) (fun h29 => absurd h29 (Classical.not_not.mpr (lt_i hb2 (by omega))))
        refine z_aload_n hX dX0_countCommands_34 0 rfl ?_
        refine z_bipush (v := 59) hX dX0_countCommands_35 (by decide) ?_
        refine z_callV1 hX (no_take l hn hy (Nat.le_of_lt hb2) (fun q => hb3 q.2) (by decide)) cv_RX0_45 zRc2 dX0_countCommands_37 (by decide) rfl rfl (Nat.le_of_ble_eq_true rfl) ?_
        refine z_if_ne (tgt := 45) hX dX0_countCommands_40 (by decide) (fun h40 => absurd h40 (by decide)) (fun h40 => ?_)
        refine z_iconst (v := -1) hX dX0_countCommands_43 (by decide) ?_
        exact z_iretI hX dX0_countCommands_44 (by decide) rfl (fun _ h => by rw [hjk] at h; exact h)
    | succ dz ih =>
      intro j hd hj
      have hjk : j < K := by omega
      obtain ⟨hok, hch⟩ := hg j hjk
      refine z_iload_n hX dX0_countCommands_6 1 rfl ?_
      refine z_bipush (v := 60) hX dX0_countCommands_7 (by decide) ?_
      refine z_icmp_gt (tgt := 51) hX dX0_countCommands_9 (by decide) (fun h9 => absurd h9 (nI_nlt (a := 60) (b := j + 1) (by omega) (by decide))) (fun h9 => ?_)
      refine z_aload_n hX dX0_countCommands_12 0 rfl ?_
      refine z_callV1 hX (ok_readCommand l hn hy (stB_b j (fun w hw => hg w (by omega))).2) cv_RX0_41 zRc2 dX0_countCommands_13 (by decide) rfl rfl (Nat.le_of_ble_eq_true rfl) ?_
      refine z_world (κ' := zT κ (xT n0 (enC y n0 (stB y n0 (j))) ((flB y n0 (x7 x) (j + 1)).2.2.1) ((flB y n0 (x7 x) (j + 1)).2.2.2.1) ((flB y n0 (x7 x) (j + 1)).2.2.2.2.1) ((flB y n0 (x7 x) (j + 1)).2.2.2.2.2.1) ((flB y n0 (x7 x) (j + 1)).2.2.2.2.2.2)) y) (fun _ h => by rw [← fl_en (z0 := x7 x)]; exact h) ?_
      refine z_isv (show _ = (if (comB y n0 (stB y n0 (j)) 0 0 0 0).1 = true then (1 : Int32) else 0) from by rw [← fl_ok (z0 := x7 x)]; rfl) ?_
      refine z_if_neB (tgt := 21) hX dX0_countCommands_16 (by decide) (fun h16 => ?_) (fun h16 => absurd h16 (fun q => q hok))
      refine z_aload_n hX dX0_countCommands_21 0 rfl ?_
      refine zg_X0_position hX fl_RX0_19 dX0_countCommands_22 ?_
      refine z_isv (show _ = nI (enC y n0 (stB y n0 (j))) from rfl) ?_
      refine z_aload_n hX dX0_countCommands_25 0 rfl ?_
      refine zg_X0_length hX fl_RX0_15 dX0_countCommands_26 ?_
      refine z_isv (show _ = nI (n0) from rfl) ?_
      refine z_icmp_lt (tgt := 34) hX dX0_countCommands_29 (by decide) (fun h29 => ?_) (fun h29 => absurd h29 (Classical.not_not.mpr (lt_i hch.1 (by omega))))
      refine z_aload_n hX dX0_countCommands_34 0 rfl ?_
      refine z_bipush (v := 59) hX dX0_countCommands_35 (by decide) ?_
      refine z_callV1 hX (ok_take l hn hy (Nat.le_of_lt hch.1) hch) cv_RX0_45 zRc2 dX0_countCommands_37 (by decide) rfl rfl (Nat.le_of_ble_eq_true rfl) ?_
      refine z_if_ne (tgt := 45) hX dX0_countCommands_40 (by decide) (fun h40 => ?_) (fun h40 => absurd h40 (by decide))
      refine z_iinc (v := nI (j + 1 + 1)) (lv' := [(1, _), (0, _)]) hX dX0_countCommands_45 1 rfl (nI_1 (j + 1)) (by decide) rfl ?_
      refine z_goto (tgt := 6) hX dX0_countCommands_48 (by decide) ?_
      refine z_sub [1, 0] rfl ?_
      exact ih (j + 1) (by omega) (by omega)
  refine z_sub [1, 0] rfl ?_
  exact hL K 0 (Nat.sub_zero _) (Nat.zero_le _)
set_option maxHeartbeats 4000000 in
set_option maxRecDepth 100000 in
theorem next_0 (l : Launch) {g : zG} {κ : zKp} {μ : zMu} {ω : zOm} {n0 p0 : Nat} {xi xf xs xc xv : Int32} {y : Nat → Int32} (hn : n0 ≤ 60) (hy : txW y n0) (hp : p0 ≤ n0) (hok : (comB y n0 (0) xf xs xc xv).1 = true)  : zM l g yX0_readNext cX0_readNext 1 (some .boolean) 7 0 [.ref (gA g 2 0 0)] (zT κ (xT n0 0 xi xf xs xc xv) y) μ ω (zT κ (xT n0 ((comB y n0 (0) xf xs xc xv).2.1) ((comB y n0 (0) xf xs xc xv).2.2.1) ((comB y n0 (0) xf xs xc xv).2.2.2.1) ((comB y n0 (0) xf xs xc xv).2.2.2.2.1) ((comB y n0 (0) xf xs xc xv).2.2.2.2.2.1) ((comB y n0 (0) xf xs xc xv).2.2.2.2.2.2)) y) μ ω (some (.int 1)) := by
  refine zM_of (by decide) (Nat.le_of_ble_eq_true rfl) (fun p e R s m args below meth c hX => ?_)
  show zZ p l e R s m args below meth c g 1 _ _ _ _ 0 0 [(0, .ref (gA g 2 0 0))] []
  refine z_aload_n hX dX0_readNext_0 0 rfl ?_
  refine zg_X0_position hX fl_RX0_19 dX0_readNext_1 ?_
  refine z_isv (show _ = nI (0) from rfl) ?_
  refine z_if_eq (tgt := 16) hX dX0_readNext_4 (by decide) (fun h4 => ?_) (fun h4 => absurd h4 (fun q => q rfl))
  refine z_aload_n hX dX0_readNext_16 0 rfl ?_
  refine z_callV1 hX (ok_readCommand l hn hy (Nat.zero_le n0)) cv_RX0_41 zRc2 dX0_readNext_17 (by decide) rfl rfl (Nat.le_of_ble_eq_true rfl) ?_
  refine z_isv (if_pos hok) ?_
  refine z_if_eq (tgt := 27) hX dX0_readNext_20 (by decide) (fun h20 => absurd h20 (by decide)) (fun h20 => ?_)
  refine z_iconst (v := 1) hX dX0_readNext_23 (by decide) ?_
  refine z_goto (tgt := 28) hX dX0_readNext_24 (by decide) ?_
  exact z_iret hX dX0_readNext_28 (by decide) rfl rfl (fun _ h => h)
set_option maxHeartbeats 4000000 in
set_option maxRecDepth 100000 in
theorem next_1 (l : Launch) {g : zG} {κ : zKp} {μ : zMu} {ω : zOm} {n0 p0 : Nat} {xi xf xs xc xv : Int32} {y : Nat → Int32} (hn : n0 ≤ 60) (hy : txW y n0) (hp : p0 ≤ n0) (h0 : 0 < p0) (hq : chAt y n0 p0 59) (hok : (comB y n0 (p0 + 1) xf xs xc xv).1 = true)  : zM l g yX0_readNext cX0_readNext 1 (some .boolean) 7 0 [.ref (gA g 2 0 0)] (zT κ (xT n0 p0 xi xf xs xc xv) y) μ ω (zT κ (xT n0 ((comB y n0 (p0 + 1) xf xs xc xv).2.1) ((comB y n0 (p0 + 1) xf xs xc xv).2.2.1) ((comB y n0 (p0 + 1) xf xs xc xv).2.2.2.1) ((comB y n0 (p0 + 1) xf xs xc xv).2.2.2.2.1) ((comB y n0 (p0 + 1) xf xs xc xv).2.2.2.2.2.1) ((comB y n0 (p0 + 1) xf xs xc xv).2.2.2.2.2.2)) y) μ ω (some (.int 1)) := by
  refine zM_of (by decide) (Nat.le_of_ble_eq_true rfl) (fun p e R s m args below meth c hX => ?_)
  show zZ p l e R s m args below meth c g 1 _ _ _ _ 0 0 [(0, .ref (gA g 2 0 0))] []
  refine z_aload_n hX dX0_readNext_0 0 rfl ?_
  refine zg_X0_position hX fl_RX0_19 dX0_readNext_1 ?_
  refine z_isv (show _ = nI (p0) from rfl) ?_
  refine z_if_eq (tgt := 16) hX dX0_readNext_4 (by decide) (fun h4 => absurd h4 (nI_ne0 h0 (by omega))) (fun h4 => ?_)
  refine z_aload_n hX dX0_readNext_7 0 rfl ?_
  refine z_bipush (v := 59) hX dX0_readNext_8 (by decide) ?_
  refine z_callV1 hX (ok_take l hn hy hp hq) cv_RX0_45 zRc2 dX0_readNext_10 (by decide) rfl rfl (Nat.le_of_ble_eq_true rfl) ?_
  refine z_if_eq (tgt := 27) hX dX0_readNext_13 (by decide) (fun h13 => absurd h13 (by decide)) (fun h13 => ?_)
  refine z_aload_n hX dX0_readNext_16 0 rfl ?_
  refine z_callV1 hX (ok_readCommand l hn hy hq.1) cv_RX0_41 zRc2 dX0_readNext_17 (by decide) rfl rfl (Nat.le_of_ble_eq_true rfl) ?_
  refine z_isv (if_pos hok) ?_
  refine z_if_eq (tgt := 27) hX dX0_readNext_20 (by decide) (fun h20 => absurd h20 (by decide)) (fun h20 => ?_)
  refine z_iconst (v := 1) hX dX0_readNext_23 (by decide) ?_
  refine z_goto (tgt := 28) hX dX0_readNext_24 (by decide) ?_
  exact z_iret hX dX0_readNext_28 (by decide) rfl rfl (fun _ h => h)
theorem ok_next (l : Launch) {g : zG} {κ : zKp} {μ : zMu} {ω : zOm} {y : Nat → Int32} {n0 K : Nat} {z0 : zC7} (hn : n0 ≤ 60) (hy : txW y n0) (hg : godN y n0 K) (hend : okC y n0 (stB y n0 K)) : ∀ j, j ≤ K → zM l g yX0_readNext cX0_readNext 1 (some .boolean) 7 0 [.ref (gA g 2 0 0)] (zT κ (xT n0 (pjB y n0 j) ((flB y n0 z0 (j)).2.2.1) ((flB y n0 z0 (j)).2.2.2.1) ((flB y n0 z0 (j)).2.2.2.2.1) ((flB y n0 z0 (j)).2.2.2.2.2.1) ((flB y n0 z0 (j)).2.2.2.2.2.2)) y) μ ω (zT κ (xT n0 (enC y n0 (stB y n0 (j))) ((flB y n0 z0 (j + 1)).2.2.1) ((flB y n0 z0 (j + 1)).2.2.2.1) ((flB y n0 z0 (j + 1)).2.2.2.2.1) ((flB y n0 z0 (j + 1)).2.2.2.2.2.1) ((flB y n0 z0 (j + 1)).2.2.2.2.2.2)) y) μ ω (some (.int 1))
  | 0, _ => by
    have hok : (comB y n0 (stB y n0 0) 0 0 0 0).1 = true := by
      rcases Nat.eq_zero_or_pos K with q | q
      · rw [q] at hend; exact hend
      · exact (hg 0 q).1
    rw [← fl_en (z0 := z0)]
    exact next_0 l hn hy (Nat.zero_le n0) (fl_ok.trans hok)
  | j + 1, hj => by
    have hok : (comB y n0 (stB y n0 (j + 1)) 0 0 0 0).1 = true := by
      rcases Nat.eq_or_lt_of_le hj with q | q
      · rw [q]; exact hend
      · exact (hg _ q).1
    obtain ⟨h1, h2⟩ := hg j hj
    have hb := stB_b j (fun w hw => hg w (by omega))
    have he := (enC_b (y := y) hb.2).2 h1
    rw [← fl_en (z0 := z0)]
    exact next_1 l hn hy (Nat.le_of_lt h2.1) (show 0 < enC y n0 (stB y n0 j) by omega) h2 (fl_ok.trans hok)
theorem pf_yes (l : Launch) {g : zG} {κ : zKp} {μ : zMu} {ω : zOm} {gb g2 : Nat → Int32} (hI : batI gb) (h : perB gb (κ 2 0 2) (κ 2 0 3) (κ 2 0 4) (κ 2 0 5) (κ 2 0 6) = some g2) : zM l g yX4_perform cX4_perform 1 (some .boolean) 9 0 [.ref (gA g 0 0 0)] (zF κ 0 gb (cellsOf gb)) μ ω (zF κ 0 g2 (cellsOf g2)) μ ω (some (.int 1)) := by
  rcases ok_perform l (g := g) (κ := κ) (μ := μ) (ω := ω) hI with ⟨g', h1, h2⟩ | ⟨h1, -⟩
  · cases h.symm.trans h1; exact h2
  · cases h.symm.trans h1
theorem pf_no (l : Launch) {g : zG} {κ : zKp} {μ : zMu} {ω : zOm} {gb : Nat → Int32} (hI : batI gb) (h : perB gb (κ 2 0 2) (κ 2 0 3) (κ 2 0 4) (κ 2 0 5) (κ 2 0 6) = none) : zM l g yX4_perform cX4_perform 1 (some .boolean) 9 0 [.ref (gA g 0 0 0)] (zF κ 0 gb (cellsOf gb)) μ ω (zF κ 0 gb (cellsOf gb)) μ ω (some (.int 0)) := by
  rcases ok_perform l (g := g) (κ := κ) (μ := μ) (ω := ω) hI with ⟨g', h1, -⟩ | ⟨-, h2⟩
  · cases h.symm.trans h1
  · exact h2
/-- the battles of a text's commands -/
def runB (y : Nat → Int32) (n0 : Nat) (bt : Nat → zB) (J : Nat) : Prop := ∀ j, j < J → perB (bt j) (comB y n0 (stB y n0 j) 0 0 0 0).2.2.1 (comB y n0 (stB y n0 j) 0 0 0 0).2.2.2.1 (comB y n0 (stB y n0 j) 0 0 0 0).2.2.2.2.1 (comB y n0 (stB y n0 j) 0 0 0 0).2.2.2.2.2.1 (comB y n0 (stB y n0 j) 0 0 0 0).2.2.2.2.2.2 = some (bt (j + 1))
theorem run_I {y : Nat → Int32} {n0 : Nat} {bt : Nat → zB} {J : Nat} (h0 : batI (bt 0)) (h : runB y n0 bt J) : ∀ j, j ≤ J → batI (bt j)
  | 0, _ => h0
  | j + 1, hj => per_keep (run_I h0 h j (by omega)) (h j hj)
theorem all_ok {y : Nat → Int32} {n0 K : Nat} (hg : godN y n0 K) (hend : okC y n0 (stB y n0 K)) {j : Nat} (hj : j ≤ K) : (comB y n0 (stB y n0 j) 0 0 0 0).1 = true := by
  rcases Nat.eq_or_lt_of_le hj with q | q
  · rw [q]; exact hend
  · exact (hg j q).1
set_option maxHeartbeats 4000000 in
set_option maxRecDepth 100000 in
theorem ok_X4_execute (l : Launch) {g : zG} {κ : zKp} {μ : zMu} {ω : zOm} {x y : Nat → Int32} {n0 K : Nat} (hx2 : κ 2 0 = x) (hx3 : κ 3 0 = y) (hx0 : x 0 = nI n0) (hn : n0 ≤ 60) (hy : txW y n0) (hg : godN y n0 K) {gb : zB} {bt : Nat → zB} (h6 : κ 6 0 = gb) (h8 : κ 8 0 = cellsOf gb) (hI : batI gb) (hch : ∀ i, i < 12 → chW (zL κ 0 i 3) ∧ chW (zL κ 0 i 6)) (hb0 : bt 0 = gb) (hend : fitT y n0 K) (hbt : runB y n0 bt (K + 1)) {k0 d : Nat} (hk : k0 < 8) (hw : κ 4 0 0 = nI k0) (hdp : κ 4 0 1 = nI d) (hd8 : d ≤ 8)  : zM l g yX4_execute cX4_execute 3 (some .int) 10 0 [.ref (gA g 0 0 0)] κ μ ω (zCp (zHi (zT ((zF (zCp κ 2 0) 0 (bt (K + 1)) (cellsOf (bt (K + 1))))) (xT 0 (pjB y n0 (K + 1)) ((flB y n0 (flB y n0 (x7 x) (K + 1)) (K + 1)).2.2.1) ((flB y n0 (flB y n0 (x7 x) (K + 1)) (K + 1)).2.2.2.1) ((flB y n0 (flB y n0 (x7 x) (K + 1)) (K + 1)).2.2.2.2.1) ((flB y n0 (flB y n0 (x7 x) (K + 1)) (K + 1)).2.2.2.2.2.1) ((flB y n0 (flB y n0 (x7 x) (K + 1)) (K + 1)).2.2.2.2.2.2)) y) (nI ((k0 + 1) % 8)) (nI (mor d))) (3 + (k0 + 1) % 8) 2) μ ω (some (.int (nI (K + 1)))) := by
  have hbK := stB_b K hg
  have hbE := enC_b (y := y) hbK.2
  have E1 : (zF (zCp κ 2 0) 0 (bt (0)) (cellsOf (bt (0)))) = (zCp κ 2 0) := by rw [hb0]; exact zF_at (κ := κ) ((zCp_o (by decide)).trans h6) ((zCp_o (by decide)).trans h8)
  have hbI := run_I (by rw [hb0]; exact hI) hbt
  refine zM_of (by decide) (Nat.le_of_ble_eq_true rfl) (fun p e R s m args below meth c hX => ?_)
  show zZ p l e R s m args below meth c g 3 _ _ _ _ 0 0 [(0, .ref (gA g 0 0 0))] []
  refine z_world (κ' := zT κ x y) (fun _ h => by rw [← hx2, ← hx3, zT_self]; exact h) ?_
  refine z_aload_n hX dX4_execute_0 0 rfl ?_
  refine zg_X4_text hX   fl_RX4_32 dX4_execute_1 ?_
  refine z_callV1 hX (ok_count l hx0 hn hy hg hend) cv_RX4_288 zRc2 dX4_execute_4 (by decide) rfl rfl (Nat.le_of_ble_eq_true rfl) ?_
  refine z_istore_n (lv' := [(1, _), (0, _)]) hX dX4_execute_7 (by decide) rfl ?_
  refine z_iload_n hX dX4_execute_8 0 rfl ?_
  refine z_iconst (v := -1) hX dX4_execute_9 (by decide) ?_
  refine z_icmp_ne (tgt := 42) hX dX4_execute_10 (by decide) (fun h10 => ?_) (fun h10 => absurd h10 (nI_ne_m1 (by omega)))
  refine z_aload_n hX dX4_execute_42 1 rfl ?_
  refine zg_X4_scratch hX   fl_RX4_19 dX4_execute_43 ?_
  refine z_aload_n hX dX4_execute_46 1 rfl ?_
  refine zg_X4_field hX   fl_RX4_10 dX4_execute_47 ?_
  refine z_callV0 hX (ok_X1_copyFrom l z2lt z0lt (by decide) (fun i hi => by rw [zL_T, zL_T]; exact hch i hi)) cv_RX4_204 (zRc6 z2lt) dX4_execute_50 (by decide) rfl rfl (Nat.le_of_ble_eq_true rfl) ?_
  refine z_world (κ' := zT ((zCp κ 2 0)) (xT n0 (enC y n0 (stB y n0 (K))) ((flB y n0 (x7 x) (K + 1)).2.2.1) ((flB y n0 (x7 x) (K + 1)).2.2.2.1) ((flB y n0 (x7 x) (K + 1)).2.2.2.2.1) ((flB y n0 (x7 x) (K + 1)).2.2.2.2.2.1) ((flB y n0 (x7 x) (K + 1)).2.2.2.2.2.2)) y) (fun _ h => by rw [zCp_T] at h; exact h) ?_
  refine z_aload_n hX dX4_execute_53 1 rfl ?_
  refine zg_X4_text hX   fl_RX4_32 dX4_execute_54 ?_
  refine z_callV0 hX (ok_X0_rewind l) cv_RX4_299 zRc2 dX4_execute_57 (by decide) rfl rfl (Nat.le_of_ble_eq_true rfl) ?_
  refine z_world (κ' := zT ((zF (zCp κ 2 0) 0 (bt (0)) (cellsOf (bt (0))))) (xT n0 (pjB y n0 0) ((flB y n0 (flB y n0 (x7 x) (K + 1)) (0)).2.2.1) ((flB y n0 (flB y n0 (x7 x) (K + 1)) (0)).2.2.2.1) ((flB y n0 (flB y n0 (x7 x) (K + 1)) (0)).2.2.2.2.1) ((flB y n0 (flB y n0 (x7 x) (K + 1)) (0)).2.2.2.2.2.1) ((flB y n0 (flB y n0 (x7 x) (K + 1)) (0)).2.2.2.2.2.2)) y) (fun _ h => by rw [E1]; exact W_xT (n0 := n0) (p0 := 0) rfl rfl h) ?_
  refine z_iconst (v := 0) hX dX4_execute_60 (by decide) ?_
  refine z_istore_n (lv' := [(2, _), (1, _), (0, _)]) hX dX4_execute_61 (by decide) rfl ?_
  have hL : ∀ (dz : Nat) (j : Nat), (K + 1) - j = dz → j ≤ (K + 1) → zZ p l e R s m args below meth c g 3 (zQ g (zCp (zHi (zT ((zF (zCp κ 2 0) 0 (bt (K + 1)) (cellsOf (bt (K + 1))))) (xT 0 (pjB y n0 (K + 1)) ((flB y n0 (flB y n0 (x7 x) (K + 1)) (K + 1)).2.2.1) ((flB y n0 (flB y n0 (x7 x) (K + 1)) (K + 1)).2.2.2.1) ((flB y n0 (flB y n0 (x7 x) (K + 1)) (K + 1)).2.2.2.2.1) ((flB y n0 (flB y n0 (x7 x) (K + 1)) (K + 1)).2.2.2.2.2.1) ((flB y n0 (flB y n0 (x7 x) (K + 1)) (K + 1)).2.2.2.2.2.2)) y) (nI ((k0 + 1) % 8)) (nI (mor d))) (3 + (k0 + 1) % 8) 2) μ ω (some (.int (nI (K + 1)))) below args s 0) (zT ((zF (zCp κ 2 0) 0 (bt (j)) (cellsOf (bt (j))))) (xT n0 (pjB y n0 j) ((flB y n0 (flB y n0 (x7 x) (K + 1)) (j)).2.2.1) ((flB y n0 (flB y n0 (x7 x) (K + 1)) (j)).2.2.2.1) ((flB y n0 (flB y n0 (x7 x) (K + 1)) (j)).2.2.2.2.1) ((flB y n0 (flB y n0 (x7 x) (K + 1)) (j)).2.2.2.2.2.1) ((flB y n0 (flB y n0 (x7 x) (K + 1)) (j)).2.2.2.2.2.2)) y) μ ω 0 62 [(0, .ref (gA g 0 0 0)), (1, .int (nI (K + 1))), (2, .int (nI j))] [] := by
    intro dz
    induction dz with
    | zero =>
      intro j hd hj
      have hjk : j = (K + 1) := by omega
      refine z_iload_n hX dX4_execute_62 2 rfl ?_
      refine z_iload_n hX dX4_execute_63 1 rfl ?_
      refine z_icmp_ge (tgt := 90) hX dX4_execute_64 (by decide) (fun h64 => ?_) (fun h64 => absurd h64 (Classical.not_not.mpr (by rw [hjk]; exact Int32.le_refl _)))
      subst hjk
      refine z_aload_n hX dX4_execute_90 0 rfl ?_
      refine zg_X4_text hX   fl_RX4_32 dX4_execute_91 ?_
      refine z_callV0 hX (ok_X0_clear l) cv_RX4_294 zRc2 dX4_execute_94 (by decide) rfl rfl (Nat.le_of_ble_eq_true rfl) ?_
      refine z_world (κ' := zT ((zF (zCp κ 2 0) 0 (bt (K + 1)) (cellsOf (bt (K + 1))))) (xT 0 (pjB y n0 (K + 1)) ((flB y n0 (flB y n0 (x7 x) (K + 1)) (K + 1)).2.2.1) ((flB y n0 (flB y n0 (x7 x) (K + 1)) (K + 1)).2.2.2.1) ((flB y n0 (flB y n0 (x7 x) (K + 1)) (K + 1)).2.2.2.2.1) ((flB y n0 (flB y n0 (x7 x) (K + 1)) (K + 1)).2.2.2.2.2.1) ((flB y n0 (flB y n0 (x7 x) (K + 1)) (K + 1)).2.2.2.2.2.2)) y) (fun _ h => W_cl h) ?_
      refine z_iload_n hX dX4_execute_97 2 rfl ?_
      refine z_iload_n hX dX4_execute_98 1 rfl ?_
      refine z_icmp_ge (tgt := 129) hX dX4_execute_99 (by decide) (fun h99 => ?_) (fun h99 => absurd h99 (Classical.not_not.mpr (Int32.le_refl _)))
      refine z_aload_n hX dX4_execute_129 0 rfl ?_
      refine zg_X4_history hX   fl_RX4_25 dX4_execute_130 ?_
      refine z_aload_n hX dX4_execute_133 0 rfl ?_
      refine zg_X4_scratch hX   fl_RX4_19 dX4_execute_134 ?_
      refine z_callV0 hX (ok_X2_keep l (f2 := 2) (by decide) hk hw hdp hd8 (fun i hi => by rw [zL_T, zL_T, zL_Fo (by decide), zL_Fo (by decide), zL_Cp, zL_Cp]; exact hch i hi)) cv_RX4_75 zRc4 dX4_execute_137 (by decide) rfl rfl (Nat.le_of_ble_eq_true rfl) ?_
      refine z_iload_n hX dX4_execute_140 1 rfl ?_
      exact z_iretI hX dX4_execute_141 (by decide) rfl (fun _ h => h)
    | succ dz ih =>
      intro j hd hj
      have hjk : j < (K + 1) := by omega
      refine z_iload_n hX dX4_execute_62 2 rfl ?_
      refine z_iload_n hX dX4_execute_63 1 rfl ?_
      refine z_icmp_ge (tgt := 90) hX dX4_execute_64 (by decide) (fun h64 => absurd h64 (nle_i (by omega) (by omega))) (fun h64 => ?_)
      refine z_aload_n hX dX4_execute_67 0 rfl ?_
      refine zg_X4_text hX   fl_RX4_32 dX4_execute_68 ?_
      refine z_callV1 hX (ok_next l hn hy hg hend.1 j (by omega)) cv_RX4_302 zRc2 dX4_execute_71 (by decide) rfl rfl (Nat.le_of_ble_eq_true rfl) ?_
      refine z_if_eq (tgt := 90) hX dX4_execute_74 (by decide) (fun h74 => absurd h74 (by decide)) (fun h74 => ?_)
      refine z_world (κ' := zF (zT ((zCp κ 2 0)) (xT n0 (enC y n0 (stB y n0 (j))) ((flB y n0 (flB y n0 (x7 x) (K + 1)) (j + 1)).2.2.1) ((flB y n0 (flB y n0 (x7 x) (K + 1)) (j + 1)).2.2.2.1) ((flB y n0 (flB y n0 (x7 x) (K + 1)) (j + 1)).2.2.2.2.1) ((flB y n0 (flB y n0 (x7 x) (K + 1)) (j + 1)).2.2.2.2.2.1) ((flB y n0 (flB y n0 (x7 x) (K + 1)) (j + 1)).2.2.2.2.2.2)) y) 0 (bt j) (cellsOf (bt j))) (fun _ h => by rw [zF_T]; exact h) ?_
      refine z_aload_n hX dX4_execute_77 0 rfl ?_
      refine z_callV1 hX (pf_yes l (hbI j (by omega)) ((per_ind fl_ind (all_ok hg hend.1 (by omega))).trans (hbt j (by omega)))) cv_RX4_305 zRc0 dX4_execute_78 (by decide) rfl rfl (Nat.le_of_ble_eq_true rfl) ?_
      refine z_world (κ' := zT ((zF (zCp κ 2 0) 0 (bt (j + 1)) (cellsOf (bt (j + 1))))) (xT n0 (enC y n0 (stB y n0 (j))) ((flB y n0 (flB y n0 (x7 x) (K + 1)) (j + 1)).2.2.1) ((flB y n0 (flB y n0 (x7 x) (K + 1)) (j + 1)).2.2.2.1) ((flB y n0 (flB y n0 (x7 x) (K + 1)) (j + 1)).2.2.2.2.1) ((flB y n0 (flB y n0 (x7 x) (K + 1)) (j + 1)).2.2.2.2.2.1) ((flB y n0 (flB y n0 (x7 x) (K + 1)) (j + 1)).2.2.2.2.2.2)) y) (fun _ h => by rw [zF_T] at h; exact h) ?_
      refine z_if_eq (tgt := 90) hX dX4_execute_81 (by decide) (fun h81 => absurd h81 (by decide)) (fun h81 => ?_)
      refine z_iinc (v := nI (j + 1)) (lv' := [(2, _), (0, _), (1, _)]) hX dX4_execute_84 2 rfl (nI_1 j) (by decide) rfl ?_
      refine z_goto (tgt := 62) hX dX4_execute_87 (by decide) ?_
      refine z_sub [1, 2, 0] rfl ?_
      exact ih (j + 1) (by omega) (by omega)
  refine z_sub [2, 1, 0] rfl ?_
  exact hL ((K + 1)) 0 (Nat.sub_zero _) (Nat.zero_le _)
set_option maxHeartbeats 4000000 in
set_option maxRecDepth 100000 in
theorem no2_X4_execute (l : Launch) (hl0 : l.stackTraces = false) {g : zG} {κ : zKp} {μ : zMu} {ω : zOm} {x y : Nat → Int32} {n0 K : Nat} (hx2 : κ 2 0 = x) (hx3 : κ 3 0 = y) (hx0 : x 0 = nI n0) (hn : n0 ≤ 60) (hy : txW y n0) (hg : godN y n0 K) {gb : zB} {bt : Nat → zB} (h6 : κ 6 0 = gb) (h8 : κ 8 0 = cellsOf gb) (hI : batI gb) (hch : ∀ i, i < 12 → chW (zL κ 0 i 3) ∧ chW (zL κ 0 i 6)) (hb0 : bt 0 = gb) (hend : fitT y n0 K) {J : Nat} (hJ : J ≤ K) (hbt : runB y n0 bt J) (hno : perB (bt J) (comB y n0 (stB y n0 J) 0 0 0 0).2.2.1 (comB y n0 (stB y n0 J) 0 0 0 0).2.2.2.1 (comB y n0 (stB y n0 J) 0 0 0 0).2.2.2.2.1 (comB y n0 (stB y n0 J) 0 0 0 0).2.2.2.2.2.1 (comB y n0 (stB y n0 J) 0 0 0 0).2.2.2.2.2.2 = none)  : zMx l g yX4_execute cX4_execute 3 (some .int) 10 1 [.ref (gA g 0 0 0)] κ μ ω (zRow (zCp (zT ((zF (zCp κ 2 0) 0 (bt (J)) (cellsOf (bt (J))))) (xT 0 (enC y n0 (stB y n0 (J))) ((flB y n0 (flB y n0 (x7 x) (K + 1)) (J + 1)).2.2.1) ((flB y n0 (flB y n0 (x7 x) (K + 1)) (J + 1)).2.2.2.1) ((flB y n0 (flB y n0 (x7 x) (K + 1)) (J + 1)).2.2.2.2.1) ((flB y n0 (flB y n0 (x7 x) (K + 1)) (J + 1)).2.2.2.2.2.1) ((flB y n0 (flB y n0 (x7 x) (K + 1)) (J + 1)).2.2.2.2.2.2)) y) 0 2) 0 0 (upd ((zCp (zT ((zF (zCp κ 2 0) 0 (bt (J)) (cellsOf (bt (J))))) (xT 0 (enC y n0 (stB y n0 (J))) ((flB y n0 (flB y n0 (x7 x) (K + 1)) (J + 1)).2.2.1) ((flB y n0 (flB y n0 (x7 x) (K + 1)) (J + 1)).2.2.2.1) ((flB y n0 (flB y n0 (x7 x) (K + 1)) (J + 1)).2.2.2.2.1) ((flB y n0 (flB y n0 (x7 x) (K + 1)) (J + 1)).2.2.2.2.2.1) ((flB y n0 (flB y n0 (x7 x) (K + 1)) (J + 1)).2.2.2.2.2.2)) y) 0 2) 0 0) 3 (nI J))) μ ω (.error xISE) := by
  have hbK := stB_b K hg
  have hbE := enC_b (y := y) hbK.2
  have E1 : (zF (zCp κ 2 0) 0 (bt (0)) (cellsOf (bt (0)))) = (zCp κ 2 0) := by rw [hb0]; exact zF_at (κ := κ) ((zCp_o (by decide)).trans h6) ((zCp_o (by decide)).trans h8)
  have hbI := run_I (by rw [hb0]; exact hI) hbt
  refine zMx_of (by decide) (Nat.le_of_ble_eq_true rfl) (fun p e R s m args below meth c hX hT => ?_)
  show zZ p l e R s m args below meth c g 3 _ _ _ _ 0 0 [(0, .ref (gA g 0 0 0))] []
  refine z_world (κ' := zT κ x y) (fun _ h => by rw [← hx2, ← hx3, zT_self]; exact h) ?_
  refine z_aload_n hX dX4_execute_0 0 rfl ?_
  refine zg_X4_text hX   fl_RX4_32 dX4_execute_1 ?_
  refine z_callV1 hX (ok_count l hx0 hn hy hg hend) cv_RX4_288 zRc2 dX4_execute_4 (by decide) rfl rfl (Nat.le_of_ble_eq_true rfl) ?_
  refine z_istore_n (lv' := [(1, _), (0, _)]) hX dX4_execute_7 (by decide) rfl ?_
  refine z_iload_n hX dX4_execute_8 0 rfl ?_
  refine z_iconst (v := -1) hX dX4_execute_9 (by decide) ?_
  refine z_icmp_ne (tgt := 42) hX dX4_execute_10 (by decide) (fun h10 => ?_) (fun h10 => absurd h10 (nI_ne_m1 (by omega)))
  refine z_aload_n hX dX4_execute_42 1 rfl ?_
  refine zg_X4_scratch hX   fl_RX4_19 dX4_execute_43 ?_
  refine z_aload_n hX dX4_execute_46 1 rfl ?_
  refine zg_X4_field hX   fl_RX4_10 dX4_execute_47 ?_
  refine z_callV0 hX (ok_X1_copyFrom l z2lt z0lt (by decide) (fun i hi => by rw [zL_T, zL_T]; exact hch i hi)) cv_RX4_204 (zRc6 z2lt) dX4_execute_50 (by decide) rfl rfl (Nat.le_of_ble_eq_true rfl) ?_
  refine z_world (κ' := zT ((zCp κ 2 0)) (xT n0 (enC y n0 (stB y n0 (K))) ((flB y n0 (x7 x) (K + 1)).2.2.1) ((flB y n0 (x7 x) (K + 1)).2.2.2.1) ((flB y n0 (x7 x) (K + 1)).2.2.2.2.1) ((flB y n0 (x7 x) (K + 1)).2.2.2.2.2.1) ((flB y n0 (x7 x) (K + 1)).2.2.2.2.2.2)) y) (fun _ h => by rw [zCp_T] at h; exact h) ?_
  refine z_aload_n hX dX4_execute_53 1 rfl ?_
  refine zg_X4_text hX   fl_RX4_32 dX4_execute_54 ?_
  refine z_callV0 hX (ok_X0_rewind l) cv_RX4_299 zRc2 dX4_execute_57 (by decide) rfl rfl (Nat.le_of_ble_eq_true rfl) ?_
  refine z_world (κ' := zT ((zF (zCp κ 2 0) 0 (bt (0)) (cellsOf (bt (0))))) (xT n0 (pjB y n0 0) ((flB y n0 (flB y n0 (x7 x) (K + 1)) (0)).2.2.1) ((flB y n0 (flB y n0 (x7 x) (K + 1)) (0)).2.2.2.1) ((flB y n0 (flB y n0 (x7 x) (K + 1)) (0)).2.2.2.2.1) ((flB y n0 (flB y n0 (x7 x) (K + 1)) (0)).2.2.2.2.2.1) ((flB y n0 (flB y n0 (x7 x) (K + 1)) (0)).2.2.2.2.2.2)) y) (fun _ h => by rw [E1]; exact W_xT (n0 := n0) (p0 := 0) rfl rfl h) ?_
  refine z_iconst (v := 0) hX dX4_execute_60 (by decide) ?_
  refine z_istore_n (lv' := [(2, _), (1, _), (0, _)]) hX dX4_execute_61 (by decide) rfl ?_
  have hL : ∀ (dz : Nat) (j : Nat), J - j = dz → j ≤ J → zZ p l e R s m args below meth c g 3 (zQx g (zRow (zCp (zT ((zF (zCp κ 2 0) 0 (bt (J)) (cellsOf (bt (J))))) (xT 0 (enC y n0 (stB y n0 (J))) ((flB y n0 (flB y n0 (x7 x) (K + 1)) (J + 1)).2.2.1) ((flB y n0 (flB y n0 (x7 x) (K + 1)) (J + 1)).2.2.2.1) ((flB y n0 (flB y n0 (x7 x) (K + 1)) (J + 1)).2.2.2.2.1) ((flB y n0 (flB y n0 (x7 x) (K + 1)) (J + 1)).2.2.2.2.2.1) ((flB y n0 (flB y n0 (x7 x) (K + 1)) (J + 1)).2.2.2.2.2.2)) y) 0 2) 0 0 (upd ((zCp (zT ((zF (zCp κ 2 0) 0 (bt (J)) (cellsOf (bt (J))))) (xT 0 (enC y n0 (stB y n0 (J))) ((flB y n0 (flB y n0 (x7 x) (K + 1)) (J + 1)).2.2.1) ((flB y n0 (flB y n0 (x7 x) (K + 1)) (J + 1)).2.2.2.1) ((flB y n0 (flB y n0 (x7 x) (K + 1)) (J + 1)).2.2.2.2.1) ((flB y n0 (flB y n0 (x7 x) (K + 1)) (J + 1)).2.2.2.2.2.1) ((flB y n0 (flB y n0 (x7 x) (K + 1)) (J + 1)).2.2.2.2.2.2)) y) 0 2) 0 0) 3 (nI J))) μ ω (.error xISE) below args s 1) (zT ((zF (zCp κ 2 0) 0 (bt (j)) (cellsOf (bt (j))))) (xT n0 (pjB y n0 j) ((flB y n0 (flB y n0 (x7 x) (K + 1)) (j)).2.2.1) ((flB y n0 (flB y n0 (x7 x) (K + 1)) (j)).2.2.2.1) ((flB y n0 (flB y n0 (x7 x) (K + 1)) (j)).2.2.2.2.1) ((flB y n0 (flB y n0 (x7 x) (K + 1)) (j)).2.2.2.2.2.1) ((flB y n0 (flB y n0 (x7 x) (K + 1)) (j)).2.2.2.2.2.2)) y) μ ω 0 62 [(0, .ref (gA g 0 0 0)), (1, .int (nI (K + 1))), (2, .int (nI j))] [] := by
    intro dz
    induction dz with
    | zero =>
      intro j hd hj
      have hjk : j = J := by omega
      refine z_iload_n hX dX4_execute_62 2 rfl ?_
      refine z_iload_n hX dX4_execute_63 1 rfl ?_
      refine z_icmp_ge (tgt := 90) hX dX4_execute_64 (by decide) (fun h64 => absurd h64 (nle_i (by omega) (by omega))) (fun h64 => ?_)
      refine z_aload_n hX dX4_execute_67 0 rfl ?_
      refine zg_X4_text hX   fl_RX4_32 dX4_execute_68 ?_
      refine z_callV1 hX (ok_next l hn hy hg hend.1 j (by omega)) cv_RX4_302 zRc2 dX4_execute_71 (by decide) rfl rfl (Nat.le_of_ble_eq_true rfl) ?_
      refine z_if_eq (tgt := 90) hX dX4_execute_74 (by decide) (fun h74 => absurd h74 (by decide)) (fun h74 => ?_)
      refine z_world (κ' := zF (zT ((zCp κ 2 0)) (xT n0 (enC y n0 (stB y n0 (j))) ((flB y n0 (flB y n0 (x7 x) (K + 1)) (j + 1)).2.2.1) ((flB y n0 (flB y n0 (x7 x) (K + 1)) (j + 1)).2.2.2.1) ((flB y n0 (flB y n0 (x7 x) (K + 1)) (j + 1)).2.2.2.2.1) ((flB y n0 (flB y n0 (x7 x) (K + 1)) (j + 1)).2.2.2.2.2.1) ((flB y n0 (flB y n0 (x7 x) (K + 1)) (j + 1)).2.2.2.2.2.2)) y) 0 (bt j) (cellsOf (bt j))) (fun _ h => by rw [zF_T]; exact h) ?_
      refine z_aload_n hX dX4_execute_77 0 rfl ?_
      refine z_callV1 hX (pf_no l (hbI j (by omega)) ((per_ind fl_ind (all_ok hg hend.1 (by omega))).trans (by rw [hjk]; exact hno))) cv_RX4_305 zRc0 dX4_execute_78 (by decide) rfl rfl (Nat.le_of_ble_eq_true rfl) ?_
      refine z_world (κ' := zT ((zF (zCp κ 2 0) 0 (bt (j)) (cellsOf (bt (j))))) (xT n0 (enC y n0 (stB y n0 (j))) ((flB y n0 (flB y n0 (x7 x) (K + 1)) (j + 1)).2.2.1) ((flB y n0 (flB y n0 (x7 x) (K + 1)) (j + 1)).2.2.2.1) ((flB y n0 (flB y n0 (x7 x) (K + 1)) (j + 1)).2.2.2.2.1) ((flB y n0 (flB y n0 (x7 x) (K + 1)) (j + 1)).2.2.2.2.2.1) ((flB y n0 (flB y n0 (x7 x) (K + 1)) (j + 1)).2.2.2.2.2.2)) y) (fun _ h => by rw [zF_T] at h; exact h) ?_
      refine z_if_eq (tgt := 90) hX dX4_execute_81 (by decide) (fun h81 => ?_) (fun h81 => absurd h81 (by decide))
      subst hjk
      refine z_aload_n hX dX4_execute_90 0 rfl ?_
      refine zg_X4_text hX   fl_RX4_32 dX4_execute_91 ?_
      refine z_callV0 hX (ok_X0_clear l) cv_RX4_294 zRc2 dX4_execute_94 (by decide) rfl rfl (Nat.le_of_ble_eq_true rfl) ?_
      refine z_world (κ' := zT ((zF (zCp κ 2 0) 0 (bt (j)) (cellsOf (bt (j))))) (xT 0 (enC y n0 (stB y n0 (j))) ((flB y n0 (flB y n0 (x7 x) (K + 1)) (j + 1)).2.2.1) ((flB y n0 (flB y n0 (x7 x) (K + 1)) (j + 1)).2.2.2.1) ((flB y n0 (flB y n0 (x7 x) (K + 1)) (j + 1)).2.2.2.2.1) ((flB y n0 (flB y n0 (x7 x) (K + 1)) (j + 1)).2.2.2.2.2.1) ((flB y n0 (flB y n0 (x7 x) (K + 1)) (j + 1)).2.2.2.2.2.2)) y) (fun _ h => W_cl h) ?_
      refine z_iload_n hX dX4_execute_97 2 rfl ?_
      refine z_iload_n hX dX4_execute_98 1 rfl ?_
      refine z_icmp_ge (tgt := 129) hX dX4_execute_99 (by decide) (fun h99 => absurd h99 (nle_i (by omega) (by omega))) (fun h99 => ?_)
      refine z_aload_n hX dX4_execute_102 0 rfl ?_
      refine zg_X4_field hX   fl_RX4_10 dX4_execute_103 ?_
      refine z_aload_n hX dX4_execute_106 0 rfl ?_
      refine zg_X4_scratch hX   fl_RX4_19 dX4_execute_107 ?_
      refine z_callV0 hX (ok_X1_copyFrom l z0lt z2lt (by decide) (fun i hi => by rw [zL_T, zL_T, zL_Fo (by decide), zL_Fo (by decide), zL_Cp, zL_Cp]; exact hch i hi)) cv_RX4_204 (zRc6 z0lt) dX4_execute_110 (by decide) rfl rfl (Nat.le_of_ble_eq_true rfl) ?_
      refine z_aload_n hX dX4_execute_113 0 rfl ?_
      refine z_iload_n hX dX4_execute_114 2 rfl ?_
      refine zp_X4_lastFailedCommand hX   fl_RX4_51 dX4_execute_115 ?_
      exact z_throwW hX hT hl0 (i := 33) ft_ISE zN2_fit cl_ISE in_ISE rfl (zhat h1_ISE h2_ISE hX) go_ISE dX4_execute_118 dX4_execute_121 dX4_execute_122 dX4_execute_125 dX4_execute_128 (by decide) (Nat.le_of_ble_eq_true rfl) rfl (fun _ h => h)
    | succ dz ih =>
      intro j hd hj
      have hjk : j < J := by omega
      refine z_iload_n hX dX4_execute_62 2 rfl ?_
      refine z_iload_n hX dX4_execute_63 1 rfl ?_
      refine z_icmp_ge (tgt := 90) hX dX4_execute_64 (by decide) (fun h64 => absurd h64 (nle_i (by omega) (by omega))) (fun h64 => ?_)
      refine z_aload_n hX dX4_execute_67 0 rfl ?_
      refine zg_X4_text hX   fl_RX4_32 dX4_execute_68 ?_
      refine z_callV1 hX (ok_next l hn hy hg hend.1 j (by omega)) cv_RX4_302 zRc2 dX4_execute_71 (by decide) rfl rfl (Nat.le_of_ble_eq_true rfl) ?_
      refine z_if_eq (tgt := 90) hX dX4_execute_74 (by decide) (fun h74 => absurd h74 (by decide)) (fun h74 => ?_)
      refine z_world (κ' := zF (zT ((zCp κ 2 0)) (xT n0 (enC y n0 (stB y n0 (j))) ((flB y n0 (flB y n0 (x7 x) (K + 1)) (j + 1)).2.2.1) ((flB y n0 (flB y n0 (x7 x) (K + 1)) (j + 1)).2.2.2.1) ((flB y n0 (flB y n0 (x7 x) (K + 1)) (j + 1)).2.2.2.2.1) ((flB y n0 (flB y n0 (x7 x) (K + 1)) (j + 1)).2.2.2.2.2.1) ((flB y n0 (flB y n0 (x7 x) (K + 1)) (j + 1)).2.2.2.2.2.2)) y) 0 (bt j) (cellsOf (bt j))) (fun _ h => by rw [zF_T]; exact h) ?_
      refine z_aload_n hX dX4_execute_77 0 rfl ?_
      refine z_callV1 hX (pf_yes l (hbI j (by omega)) ((per_ind fl_ind (all_ok hg hend.1 (by omega))).trans (hbt j (by omega)))) cv_RX4_305 zRc0 dX4_execute_78 (by decide) rfl rfl (Nat.le_of_ble_eq_true rfl) ?_
      refine z_world (κ' := zT ((zF (zCp κ 2 0) 0 (bt (j + 1)) (cellsOf (bt (j + 1))))) (xT n0 (enC y n0 (stB y n0 (j))) ((flB y n0 (flB y n0 (x7 x) (K + 1)) (j + 1)).2.2.1) ((flB y n0 (flB y n0 (x7 x) (K + 1)) (j + 1)).2.2.2.1) ((flB y n0 (flB y n0 (x7 x) (K + 1)) (j + 1)).2.2.2.2.1) ((flB y n0 (flB y n0 (x7 x) (K + 1)) (j + 1)).2.2.2.2.2.1) ((flB y n0 (flB y n0 (x7 x) (K + 1)) (j + 1)).2.2.2.2.2.2)) y) (fun _ h => by rw [zF_T] at h; exact h) ?_
      refine z_if_eq (tgt := 90) hX dX4_execute_81 (by decide) (fun h81 => absurd h81 (by decide)) (fun h81 => ?_)
      refine z_iinc (v := nI (j + 1)) (lv' := [(2, _), (0, _), (1, _)]) hX dX4_execute_84 2 rfl (nI_1 j) (by decide) rfl ?_
      refine z_goto (tgt := 62) hX dX4_execute_87 (by decide) ?_
      refine z_sub [1, 2, 0] rfl ?_
      exact ih (j + 1) (by omega) (by omega)
  refine z_sub [2, 1, 0] rfl ?_
  exact hL (J) 0 (Nat.sub_zero _) (Nat.zero_le _)
set_option maxHeartbeats 4000000 in
set_option maxRecDepth 100000 in
theorem no1_X4_execute (l : Launch) (hl0 : l.stackTraces = false) {g : zG} {κ : zKp} {μ : zMu} {ω : zOm} {x y : Nat → Int32} {n0 K : Nat} (hx2 : κ 2 0 = x) (hx3 : κ 3 0 = y) (hx0 : x 0 = nI n0) (hn : n0 ≤ 60) (hy : txW y n0) (hg : godN y n0 K) (hend : badT y n0 K)  : zMx l g yX4_execute cX4_execute 3 (some .int) 10 1 [.ref (gA g 0 0 0)] κ μ ω (zT (zRow κ 0 0 (upd (κ 0 0) 2 (nI (enC y n0 (stB y n0 (K)))))) (xT 0 (enC y n0 (stB y n0 (K))) ((flB y n0 (x7 x) (K + 1)).2.2.1) ((flB y n0 (x7 x) (K + 1)).2.2.2.1) ((flB y n0 (x7 x) (K + 1)).2.2.2.2.1) ((flB y n0 (x7 x) (K + 1)).2.2.2.2.2.1) ((flB y n0 (x7 x) (K + 1)).2.2.2.2.2.2)) y) μ ω (.error xIAE) := by
  refine zMx_of (by decide) (Nat.le_of_ble_eq_true rfl) (fun p e R s m args below meth c hX hT => ?_)
  show zZ p l e R s m args below meth c g 3 _ _ _ _ 0 0 [(0, .ref (gA g 0 0 0))] []
  refine z_world (κ' := zT κ x y) (fun _ h => by rw [← hx2, ← hx3, zT_self]; exact h) ?_
  refine z_aload_n hX dX4_execute_0 0 rfl ?_
  refine zg_X4_text hX   fl_RX4_32 dX4_execute_1 ?_
  refine z_callV1 hX (no_count l hx0 hn hy hg hend) cv_RX4_288 zRc2 dX4_execute_4 (by decide) rfl rfl (Nat.le_of_ble_eq_true rfl) ?_
  refine z_istore_n (lv' := [(1, _), (0, _)]) hX dX4_execute_7 (by decide) rfl ?_
  refine z_iload_n hX dX4_execute_8 0 rfl ?_
  refine z_iconst (v := -1) hX dX4_execute_9 (by decide) ?_
  refine z_icmp_ne (tgt := 42) hX dX4_execute_10 (by decide) (fun h10 => absurd h10 (fun q => q rfl)) (fun h10 => ?_)
  refine z_aload_n hX dX4_execute_13 1 rfl ?_
  refine z_aload_n hX dX4_execute_14 1 rfl ?_
  refine zg_X4_text hX   fl_RX4_32 dX4_execute_15 ?_
  refine zg_X0_position hX fl_RX4_291 dX4_execute_18 ?_
  refine z_isv (show _ = nI (enC y n0 (stB y n0 (K))) from rfl) ?_
  refine zp_X4_lastErrorPosition hX fl_RX4_48 dX4_execute_21 ?_
  refine z_world (κ' := zT (zRow κ 0 0 (upd (κ 0 0) 2 (nI (enC y n0 (stB y n0 (K)))))) (xT n0 (enC y n0 (stB y n0 (K))) ((flB y n0 (x7 x) (K + 1)).2.2.1) ((flB y n0 (x7 x) (K + 1)).2.2.2.1) ((flB y n0 (x7 x) (K + 1)).2.2.2.2.1) ((flB y n0 (x7 x) (K + 1)).2.2.2.2.2.1) ((flB y n0 (x7 x) (K + 1)).2.2.2.2.2.2)) y) (fun _ h => by rw [zRow_T] at h; exact h) ?_
  refine z_aload_n hX dX4_execute_24 1 rfl ?_
  refine zg_X4_text hX   fl_RX4_32 dX4_execute_25 ?_
  refine z_callV0 hX (ok_X0_clear l) cv_RX4_294 zRc2 dX4_execute_28 (by decide) rfl rfl (Nat.le_of_ble_eq_true rfl) ?_
  refine z_world (κ' := zT (zRow κ 0 0 (upd (κ 0 0) 2 (nI (enC y n0 (stB y n0 (K)))))) (xT 0 (enC y n0 (stB y n0 (K))) ((flB y n0 (x7 x) (K + 1)).2.2.1) ((flB y n0 (x7 x) (K + 1)).2.2.2.1) ((flB y n0 (x7 x) (K + 1)).2.2.2.2.1) ((flB y n0 (x7 x) (K + 1)).2.2.2.2.2.1) ((flB y n0 (x7 x) (K + 1)).2.2.2.2.2.2)) y) (fun _ h => W_cl h) ?_
  exact z_throwW hX hT hl0 (i := 32) ft_IAE zN2_fit cl_IAE in_IAE rfl (zhat h1_IAE h2_IAE hX) go_IAE dX4_execute_31 dX4_execute_34 dX4_execute_35 dX4_execute_38 dX4_execute_41 (by decide) (Nat.le_of_ble_eq_true rfl) rfl (fun _ h => h)
end ZEX
