section ZRX
theorem zRm_2 {μ : zMu} {r : Nat} {x z : Nat → Int32} : zRm (zRm μ r x) r z = zRm μ r z := by
  funext w
  unfold zRm
  by_cases h : w = r
  · rw [if_pos h, if_pos h]
  · rw [if_neg h, if_neg h, if_neg h]
theorem zRm_self {μ : zMu} {r : Nat} : zRm μ r (μ r) = μ := by
  funext w
  unfold zRm
  by_cases h : w = r
  · rw [if_pos h, h]
  · rw [if_neg h]
theorem rT_c {a : Nat → Int32} {q p0 m0 : Nat} {xw v : Int32} (h : ¬ q = 5 ∧ ¬ q = 6 ∧ ¬ q = 9) : upd (rT a p0 xw m0) q v = rT (upd a q v) p0 xw m0 := by
  unfold rT
  rw [upd_c (by omega : ¬ 9 = q), upd_c (by omega : ¬ 6 = q), upd_c (by omega : ¬ 5 = q)]
theorem rT_ini {a : Nat → Int32} : upd (upd (upd a 5 0) 6 0) 9 0 = rT a 0 0 0 := by
  unfold rT
  rw [nI_0]
theorem wr_0 {x : Bool} (h : x = true) : wrB x = 0 := if_pos h
theorem wr_1 {x : Bool} (h : ¬ x = true) : wrB x = 1 := if_neg h
/-- a step of the reference's reading -/
def stpC (l : Launch) (g : zG) (κ : zKp) (μ : zMu) (ω : zOm) (a b y : Nat → Int32) (n0 j : Nat) (C C' : Nat → Int32) : Prop := (∀ q, q < 5 * j → C' q = C q) ∧ ((comB y n0 (stB y n0 j) 0 0 0 0).1 = true → cmO C' (5 * j) (comB y n0 (stB y n0 j) 0 0 0 0)) ∧ zM l g yX5_readCommand cX5_readCommand 3 none 7 0 [.ref (gA g 10 0 0)] κ (zN (zRm μ 8 C) (rT a (stB y n0 j) 0 j) b) ω κ (zN (zRm μ 8 C') (rT a (enC y n0 (stB y n0 j)) (wrB (comB y n0 (stB y n0 j) 0 0 0 0).1) (j + 1)) b) ω none
theorem seqC (l : Launch) {g : zG} {κ : zKp} {μ : zMu} {ω : zOm} {a b y : Nat → Int32} {n0 K : Nat} (hY : μ 7 = y) (hn : n0 ≤ 60) (ha4 : a 4 = nI n0) (hg : godN y n0 K) : ∃ Cs : Nat → Nat → Int32, Cs 0 = μ 8 ∧ ∀ j, j ≤ K → stpC l g κ μ ω a b y n0 j (Cs j) (Cs (j + 1)) := by
  have hx : ∀ q : Nat × (Nat → Int32), ∃ C' : Nat → Int32, q.1 ≤ K → stpC l g κ μ ω a b y n0 q.1 q.2 C' := by
    intro q
    by_cases hq : q.1 ≤ K
    · have hb := stB_b q.1 (fun w hw => hg w (by omega))
      obtain ⟨C', h1, h2, h3⟩ := ok_rc l (g := g) (κ := κ) (μ := zRm μ 8 q.2) (ω := ω) (n0 := n0) (p0 := stB y n0 q.1) (m0 := q.1) (a := a) (b := b) (y := y) hY hn ha4 hb.2 (by omega)
      rw [zRm_2] at h3
      exact ⟨C', fun _ => ⟨fun w hw => h1 w hw, h2, h3⟩⟩
    · exact ⟨q.2, fun h => absurd h hq⟩
  obtain ⟨nx, h⟩ := Classical.axiomOfChoice hx
  exact ⟨fun j => Nat.rec (μ 8) (fun j C => nx (j, C)) j, rfl, fun j hj => h (j, _) hj⟩
theorem cmO_at {C C' : Nat → Int32} {q : Nat} {r : zC7} (h : ∀ w, w < q + 5 → C' w = C w) (hr : cmO C q r) : cmO C' q r := by
  unfold cmO at *
  rw [h q (by omega), h (q + 1) (by omega), h (q + 2) (by omega), h (q + 3) (by omega), h (q + 4) (by omega)]
  exact hr
theorem cs_keep {l : Launch} {g : zG} {κ : zKp} {μ : zMu} {ω : zOm} {a b y : Nat → Int32} {n0 K : Nat} {Cs : Nat → Nat → Int32} (hs : ∀ j, j ≤ K → stpC l g κ μ ω a b y n0 j (Cs j) (Cs (j + 1))) {j : Nat} : ∀ d, j + d ≤ K → ∀ q, q < 5 * (j + 1) → Cs (j + 1 + d) q = Cs (j + 1) q
  | 0, _, _, _ => rfl
  | d + 1, h, q, hq => by
    have h1 := (hs (j + 1 + d) (by omega)).1 q (by omega)
    exact h1.trans (cs_keep hs d (by omega) q hq)
theorem cs_ok {l : Launch} {g : zG} {κ : zKp} {μ : zMu} {ω : zOm} {a b y : Nat → Int32} {n0 K : Nat} {Cs : Nat → Nat → Int32} (hs : ∀ j, j ≤ K → stpC l g κ μ ω a b y n0 j (Cs j) (Cs (j + 1))) {j : Nat} (hj : j ≤ K) (hok : (comB y n0 (stB y n0 j) 0 0 0 0).1 = true) : cmO (Cs (K + 1)) (5 * j) (comB y n0 (stB y n0 j) 0 0 0 0) := by
  refine cmO_at (fun w hw => ?_) ((hs j hj).2.1 hok)
  have h := cs_keep hs (j := j) (K - j) (by omega) w (by omega)
  rw [show j + 1 + (K - j) = K + 1 by omega] at h
  exact h
theorem dy_yes (l : Launch) {g : zG} {κ : zKp} {μ : zMu} {ω : zOm} {a b b2 : Nat → Int32} {m0 : Nat} {r : zC7} (hm : 5 * m0 + 4 < 300) (hI : batI b) (hr : cmO (μ 8) (5 * m0) r) (h : perB b r.2.2.1 r.2.2.2.1 r.2.2.2.2.1 r.2.2.2.2.2.1 r.2.2.2.2.2.2 = some b2) : zM l g yX5_does cX5_does 5 none 8 0 [.ref (gA g 10 0 0), .int (nI m0)] κ (zN μ a b) ω κ (zN μ a b2) ω none := by
  rcases ok_does l (g := g) (κ := κ) (μ := μ) (ω := ω) (a := a) hm hI hr with ⟨b', h1, h2⟩ | ⟨h1, -⟩
  · cases h.symm.trans h1; exact h2
  · cases h.symm.trans h1
theorem dy_no (l : Launch) {g : zG} {κ : zKp} {μ : zMu} {ω : zOm} {a b : Nat → Int32} {m0 : Nat} {r : zC7} (hm : 5 * m0 + 4 < 300) (hI : batI b) (hr : cmO (μ 8) (5 * m0) r) (h : perB b r.2.2.1 r.2.2.2.1 r.2.2.2.2.1 r.2.2.2.2.2.1 r.2.2.2.2.2.2 = none) : ∃ v : Int32, 0 < v ∧ zM l g yX5_does cX5_does 5 none 8 0 [.ref (gA g 10 0 0), .int (nI m0)] κ (zN μ a b) ω κ (zN μ (upd a 2 v) b) ω none := by
  rcases ok_does l (g := g) (κ := κ) (μ := μ) (ω := ω) (a := a) hm hI hr with ⟨b', h1, -⟩ | ⟨-, h2⟩
  · cases h.symm.trans h1
  · exact h2
theorem upd_3 {a : Nat → Int32} {v z w : Int32} : upd (upd (upd a 2 v) 8 z) 2 w = upd (upd a 8 z) 2 w := by
  rw [upd_c (by decide : ¬ 8 = 2), upd_2, ← upd_c (by decide : ¬ 8 = 2)]
set_option maxHeartbeats 4000000 in
set_option maxRecDepth 100000 in
theorem rx_b1 (l : Launch) {g : zG} {κ : zKp} {μ : zMu} {ω : zOm} {a b y : Nat → Int32} {n0 K : Nat} (hY : μ 7 = y) (hn : n0 ≤ 60) (ha4 : a 4 = nI n0) (hy : txW y n0) (hg : godN y n0 K) {Cs : Nat → Nat → Int32} (hc0 : Cs 0 = μ 8) (hs : ∀ j, j ≤ K → stpC l g κ μ ω a b y n0 j (Cs j) (Cs (j + 1))) (hb1 : ¬ (comB y n0 (stB y n0 (K)) 0 0 0 0).1 = true)  : zM l g yX5_execute cX5_execute 2 (some .int) 10 0 [.ref (gA g 10 0 0)] κ (zN μ a b) ω κ (zN (zRm μ 8 (Cs (K + 1))) (upd (rT (upd (upd a 7 (nI (enC y n0 (stB y n0 (K))))) 4 0) (enC y n0 (stB y n0 (K))) 1 (K + 1)) 2 1) b) ω (some (.int 0)) := by
  have hbK := stB_b K hg
  have hbE := enC_b (y := y) hbK.2
  have hpj : ∀ j, j ≤ K → enC y n0 (stB y n0 j) ≤ n0 := fun j hj => (enC_b (y := y) (stB_b j (fun w hw => hg w (by omega))).2).1
  refine zM_of (by decide) (Nat.le_of_ble_eq_true rfl) (fun p e R s m args below meth c hX => ?_)
  show zZ p l e R s m args below meth c g 2 _ _ _ _ 0 0 [(0, .ref (gA g 10 0 0))] []
  refine z_aload_n hX dX5_execute_0 0 rfl ?_
  refine z_iconst (v := 0) hX dX5_execute_1 (by decide) ?_
  refine zp_X5_at hX fl_RX5_200 dX5_execute_2 ?_
  refine z_aload_n hX dX5_execute_5 0 rfl ?_
  refine z_iconst (v := 0) hX dX5_execute_6 (by decide) ?_
  refine zp_X5_isWrong hX rfl rfl fl_RX5_207 dX5_execute_7 ?_
  refine z_aload_n hX dX5_execute_10 0 rfl ?_
  refine z_iconst (v := 0) hX dX5_execute_11 (by decide) ?_
  refine zp_X5_commandMany hX fl_RX5_228 dX5_execute_12 ?_
  refine z_aload_n hX dX5_execute_15 0 rfl ?_
  refine z_world (μ' := zN (zRm μ 8 (Cs (0))) (rT a (stB y n0 0) 0 0) b) (fun _ h => by rw [rT_ini] at h; rw [hc0, zRm_self]; exact h) ?_
  refine z_callV0 hX (hs 0 (Nat.zero_le _)).2.2 cv_RX5_246 zRc10 dX5_execute_16 (by decide) rfl rfl (Nat.le_of_ble_eq_true rfl) ?_
  have hL : ∀ (dz : Nat) (j : Nat), K - j = dz → j ≤ K → zZ p l e R s m args below meth c g 2 (zQ g κ (zN (zRm μ 8 (Cs (K + 1))) (upd (rT (upd (upd a 7 (nI (enC y n0 (stB y n0 (K))))) 4 0) (enC y n0 (stB y n0 (K))) 1 (K + 1)) 2 1) b) ω (some (.int 0)) below args s 0) κ (zN (zRm μ 8 (Cs (j + 1))) (rT a (enC y n0 (stB y n0 (j))) (wrB (comB y n0 (stB y n0 (j)) 0 0 0 0).1) (j + 1)) b) ω 0 19 [(0, .ref (gA g 10 0 0))] [] := by
    intro dz
    induction dz with
    | zero =>
      intro j hd hj
      have hjk : j = K := by omega
      rw [← hjk] at hb1
      refine z_world (μ' := zN (zRm μ 8 (Cs (j + 1))) (rT a (enC y n0 (stB y n0 (j))) 1 (j + 1)) b) (fun _ h => by rw [wr_1 hb1] at h; exact h) ?_
      refine z_aload_n hX dX5_execute_19 0 rfl ?_
      refine zg_X5_isWrong hX fl_RX5_207 dX5_execute_20 ?_
      refine z_isv (show _ = 1 from rfl) ?_
      refine z_if_ne (tgt := 52) hX dX5_execute_23 (by decide) (fun h23 => ?_) (fun h23 => absurd h23 (by decide))
      refine z_aload_n hX dX5_execute_52 0 rfl ?_
      refine z_aload_n hX dX5_execute_53 0 rfl ?_
      refine zg_X5_isWrong hX fl_RX5_207 dX5_execute_54 ?_
      refine z_isv (show _ = 1 from rfl) ?_
      refine z_if_ne (tgt := 71) hX dX5_execute_57 (by decide) (fun h57 => ?_) (fun h57 => absurd h57 (by decide))
      refine z_iconst (v := 1) hX dX5_execute_71 (by decide) ?_
      refine z_goto (tgt := 76) hX dX5_execute_72 (by decide) ?_
      refine zp_X5_isWrong hX rfl rfl fl_RX5_207 dX5_execute_76 ?_
      rw [rT_6]
      refine z_aload_n hX dX5_execute_79 0 rfl ?_
      refine z_aload_n hX dX5_execute_80 0 rfl ?_
      refine zg_X5_isWrong hX fl_RX5_207 dX5_execute_81 ?_
      refine z_isv (show _ = 1 from rfl) ?_
      refine z_if_eq (tgt := 94) hX dX5_execute_84 (by decide) (fun h84 => absurd h84 (by decide)) (fun h84 => ?_)
      refine z_aload_n hX dX5_execute_87 0 rfl ?_
      refine zg_X5_at hX fl_RX5_200 dX5_execute_88 ?_
      refine z_isv (show _ = nI (enC y n0 (stB y n0 (j))) from rfl) ?_
      refine z_goto (tgt := 98) hX dX5_execute_91 (by decide) ?_
      refine zp_X5_errorAt hX fl_RX5_32 dX5_execute_98 ?_
      rw [rT_c (q := 7) (by decide)]
      refine z_aload_n hX dX5_execute_101 0 rfl ?_
      refine z_iconst (v := 0) hX dX5_execute_102 (by decide) ?_
      refine zp_X5_length hX fl_RX5_197 dX5_execute_103 ?_
      rw [rT_c (q := 4) (by decide)]
      refine z_aload_n hX dX5_execute_106 0 rfl ?_
      refine zg_X5_isWrong hX fl_RX5_207 dX5_execute_107 ?_
      refine z_isv (show _ = 1 from rfl) ?_
      refine z_if_eq (tgt := 119) hX dX5_execute_110 (by decide) (fun h110 => absurd h110 (by decide)) (fun h110 => ?_)
      refine z_aload_n hX dX5_execute_113 0 rfl ?_
      refine z_iconst (v := 1) hX dX5_execute_114 (by decide) ?_
      refine z_callV1 hX (ok_X5_fails l) cv_RX5_140 zRc10 dX5_execute_115 (by decide) rfl rfl (Nat.le_of_ble_eq_true rfl) ?_
      exact z_iretI hX dX5_execute_118 (by decide) rfl (fun _ h => by rw [hjk] at h; exact h)
    | succ dz ih =>
      intro j hd hj
      have hjk : j < K := by omega
      obtain ⟨hok, hch⟩ := hg j hjk
      refine z_world (μ' := zN (zRm μ 8 (Cs (j + 1))) (rT a (enC y n0 (stB y n0 (j))) 0 (j + 1)) b) (fun _ h => by rw [wr_0 hok] at h; exact h) ?_
      refine z_aload_n hX dX5_execute_19 0 rfl ?_
      refine zg_X5_isWrong hX fl_RX5_207 dX5_execute_20 ?_
      refine z_isv (show _ = 0 from rfl) ?_
      refine z_if_ne (tgt := 52) hX dX5_execute_23 (by decide) (fun h23 => absurd h23 (by decide)) (fun h23 => ?_)
      refine z_aload_n hX dX5_execute_26 0 rfl ?_
      refine z_callV1 hX (ok_behind l (y := y) (by exact hY) hn ha4 (hpj j hj)) cv_RX5_211 zRc10 dX5_execute_27 (by decide) rfl rfl (Nat.le_of_ble_eq_true rfl) ?_
      refine z_bipush (v := 59) hX dX5_execute_30 (by decide) ?_
      refine z_icmp_ne (tgt := 52) hX dX5_execute_32 (by decide) (fun h32 => absurd h32 (Classical.not_not.mpr (bh_yes hch))) (fun h32 => ?_)
      refine z_aload_n hX dX5_execute_35 0 rfl ?_
      refine z_dup hX dX5_execute_36 rfl ?_
      refine zg_X5_at hX fl_RX5_200 dX5_execute_37 ?_
      refine z_isv (show _ = nI (enC y n0 (stB y n0 (j))) from rfl) ?_
      refine z_iconst (v := 1) hX dX5_execute_40 (by decide) ?_
      refine z_iadd hX dX5_execute_41 ?_
      refine z_isv (nI_1 (enC y n0 (stB y n0 (j)))) ?_
      refine zp_X5_at hX  fl_RX5_200 dX5_execute_42 ?_
      rw [rT_5]
      refine z_aload_n hX dX5_execute_45 0 rfl ?_
      refine z_callV0 hX (hs (j + 1) hjk).2.2 cv_RX5_246 zRc10 dX5_execute_46 (by decide) rfl rfl (Nat.le_of_ble_eq_true rfl) ?_
      refine z_goto (tgt := 19) hX dX5_execute_49 (by decide) ?_
      refine z_sub [0] rfl ?_
      exact ih (j + 1) (by omega) (by omega)
  refine z_sub [0] rfl ?_
  exact hL K 0 (Nat.sub_zero _) (Nat.zero_le _)
set_option maxHeartbeats 4000000 in
set_option maxRecDepth 100000 in
theorem rx_b2 (l : Launch) {g : zG} {κ : zKp} {μ : zMu} {ω : zOm} {a b y : Nat → Int32} {n0 K : Nat} (hY : μ 7 = y) (hn : n0 ≤ 60) (ha4 : a 4 = nI n0) (hy : txW y n0) (hg : godN y n0 K) {Cs : Nat → Nat → Int32} (hc0 : Cs 0 = μ 8) (hs : ∀ j, j ≤ K → stpC l g κ μ ω a b y n0 j (Cs j) (Cs (j + 1))) (hb1 : (comB y n0 (stB y n0 (K)) 0 0 0 0).1 = true) (hb2 : enC y n0 (stB y n0 (K)) < n0) (hb3 : ¬ y (enC y n0 (stB y n0 (K))) = 59)  : zM l g yX5_execute cX5_execute 2 (some .int) 10 0 [.ref (gA g 10 0 0)] κ (zN μ a b) ω κ (zN (zRm μ 8 (Cs (K + 1))) (upd (rT (upd (upd a 7 (nI (enC y n0 (stB y n0 (K))))) 4 0) (enC y n0 (stB y n0 (K))) 1 (K + 1)) 2 1) b) ω (some (.int 0)) := by
  have hbK := stB_b K hg
  have hbE := enC_b (y := y) hbK.2
  have hpj : ∀ j, j ≤ K → enC y n0 (stB y n0 j) ≤ n0 := fun j hj => (enC_b (y := y) (stB_b j (fun w hw => hg w (by omega))).2).1
  refine zM_of (by decide) (Nat.le_of_ble_eq_true rfl) (fun p e R s m args below meth c hX => ?_)
  show zZ p l e R s m args below meth c g 2 _ _ _ _ 0 0 [(0, .ref (gA g 10 0 0))] []
  refine z_aload_n hX dX5_execute_0 0 rfl ?_
  refine z_iconst (v := 0) hX dX5_execute_1 (by decide) ?_
  refine zp_X5_at hX fl_RX5_200 dX5_execute_2 ?_
  refine z_aload_n hX dX5_execute_5 0 rfl ?_
  refine z_iconst (v := 0) hX dX5_execute_6 (by decide) ?_
  refine zp_X5_isWrong hX rfl rfl fl_RX5_207 dX5_execute_7 ?_
  refine z_aload_n hX dX5_execute_10 0 rfl ?_
  refine z_iconst (v := 0) hX dX5_execute_11 (by decide) ?_
  refine zp_X5_commandMany hX fl_RX5_228 dX5_execute_12 ?_
  refine z_aload_n hX dX5_execute_15 0 rfl ?_
  refine z_world (μ' := zN (zRm μ 8 (Cs (0))) (rT a (stB y n0 0) 0 0) b) (fun _ h => by rw [rT_ini] at h; rw [hc0, zRm_self]; exact h) ?_
  refine z_callV0 hX (hs 0 (Nat.zero_le _)).2.2 cv_RX5_246 zRc10 dX5_execute_16 (by decide) rfl rfl (Nat.le_of_ble_eq_true rfl) ?_
  have hL : ∀ (dz : Nat) (j : Nat), K - j = dz → j ≤ K → zZ p l e R s m args below meth c g 2 (zQ g κ (zN (zRm μ 8 (Cs (K + 1))) (upd (rT (upd (upd a 7 (nI (enC y n0 (stB y n0 (K))))) 4 0) (enC y n0 (stB y n0 (K))) 1 (K + 1)) 2 1) b) ω (some (.int 0)) below args s 0) κ (zN (zRm μ 8 (Cs (j + 1))) (rT a (enC y n0 (stB y n0 (j))) (wrB (comB y n0 (stB y n0 (j)) 0 0 0 0).1) (j + 1)) b) ω 0 19 [(0, .ref (gA g 10 0 0))] [] := by
    intro dz
    induction dz with
    | zero =>
      intro j hd hj
      have hjk : j = K := by omega
      rw [← hjk] at hb1 hb2 hb3
      refine z_world (μ' := zN (zRm μ 8 (Cs (j + 1))) (rT a (enC y n0 (stB y n0 (j))) 0 (j + 1)) b) (fun _ h => by rw [wr_0 hb1] at h; exact h) ?_
      refine z_aload_n hX dX5_execute_19 0 rfl ?_
      refine zg_X5_isWrong hX fl_RX5_207 dX5_execute_20 ?_
      refine z_isv (show _ = 0 from rfl) ?_
      refine z_if_ne (tgt := 52) hX dX5_execute_23 (by decide) (fun h23 => absurd h23 (by decide)) (fun h23 => ?_)
      refine z_aload_n hX dX5_execute_26 0 rfl ?_
      refine z_callV1 hX (ok_behind l (y := y) (by exact hY) hn ha4 (hpj j hj)) cv_RX5_211 zRc10 dX5_execute_27 (by decide) rfl rfl (Nat.le_of_ble_eq_true rfl) ?_
      refine z_bipush (v := 59) hX dX5_execute_30 (by decide) ?_
      refine z_icmp_ne (tgt := 52) hX dX5_execute_32 (by decide) (fun h32 => ?_) (fun h32 => absurd h32 (bh_no (fun q => hb3 q.2) (by decide)))
      refine z_aload_n hX dX5_execute_52 0 rfl ?_
      refine z_aload_n hX dX5_execute_53 0 rfl ?_
      refine zg_X5_isWrong hX fl_RX5_207 dX5_execute_54 ?_
      refine z_isv (show _ = 0 from rfl) ?_
      refine z_if_ne (tgt := 71) hX dX5_execute_57 (by decide) (fun h57 => absurd h57 (by decide)) (fun h57 => ?_)
      refine z_aload_n hX dX5_execute_60 0 rfl ?_
      refine zg_X5_at hX fl_RX5_200 dX5_execute_61 ?_
      refine z_isv (show _ = nI (enC y n0 (stB y n0 (j))) from rfl) ?_
      refine z_aload_n hX dX5_execute_64 0 rfl ?_
      refine zg_X5_length hX fl_RX5_197 dX5_execute_65 ?_
      refine z_isv (show _ = nI (n0) from ha4) ?_
      refine z_icmp_ge (tgt := 75) hX dX5_execute_68 (by decide) (fun h68 => absurd h68 (nle_i hb2 (by omega))) (fun h68 => ?_)
      refine z_iconst (v := 1) hX dX5_execute_71 (by decide) ?_
      refine z_goto (tgt := 76) hX dX5_execute_72 (by decide) ?_
      refine zp_X5_isWrong hX rfl rfl fl_RX5_207 dX5_execute_76 ?_
      rw [rT_6]
      refine z_aload_n hX dX5_execute_79 0 rfl ?_
      refine z_aload_n hX dX5_execute_80 0 rfl ?_
      refine zg_X5_isWrong hX fl_RX5_207 dX5_execute_81 ?_
      refine z_isv (show _ = 1 from rfl) ?_
      refine z_if_eq (tgt := 94) hX dX5_execute_84 (by decide) (fun h84 => absurd h84 (by decide)) (fun h84 => ?_)
      refine z_aload_n hX dX5_execute_87 0 rfl ?_
      refine zg_X5_at hX fl_RX5_200 dX5_execute_88 ?_
      refine z_isv (show _ = nI (enC y n0 (stB y n0 (j))) from rfl) ?_
      refine z_goto (tgt := 98) hX dX5_execute_91 (by decide) ?_
      refine zp_X5_errorAt hX fl_RX5_32 dX5_execute_98 ?_
      rw [rT_c (q := 7) (by decide)]
      refine z_aload_n hX dX5_execute_101 0 rfl ?_
      refine z_iconst (v := 0) hX dX5_execute_102 (by decide) ?_
      refine zp_X5_length hX fl_RX5_197 dX5_execute_103 ?_
      rw [rT_c (q := 4) (by decide)]
      refine z_aload_n hX dX5_execute_106 0 rfl ?_
      refine zg_X5_isWrong hX fl_RX5_207 dX5_execute_107 ?_
      refine z_isv (show _ = 1 from rfl) ?_
      refine z_if_eq (tgt := 119) hX dX5_execute_110 (by decide) (fun h110 => absurd h110 (by decide)) (fun h110 => ?_)
      refine z_aload_n hX dX5_execute_113 0 rfl ?_
      refine z_iconst (v := 1) hX dX5_execute_114 (by decide) ?_
      refine z_callV1 hX (ok_X5_fails l) cv_RX5_140 zRc10 dX5_execute_115 (by decide) rfl rfl (Nat.le_of_ble_eq_true rfl) ?_
      exact z_iretI hX dX5_execute_118 (by decide) rfl (fun _ h => by rw [hjk] at h; exact h)
    | succ dz ih =>
      intro j hd hj
      have hjk : j < K := by omega
      obtain ⟨hok, hch⟩ := hg j hjk
      refine z_world (μ' := zN (zRm μ 8 (Cs (j + 1))) (rT a (enC y n0 (stB y n0 (j))) 0 (j + 1)) b) (fun _ h => by rw [wr_0 hok] at h; exact h) ?_
      refine z_aload_n hX dX5_execute_19 0 rfl ?_
      refine zg_X5_isWrong hX fl_RX5_207 dX5_execute_20 ?_
      refine z_isv (show _ = 0 from rfl) ?_
      refine z_if_ne (tgt := 52) hX dX5_execute_23 (by decide) (fun h23 => absurd h23 (by decide)) (fun h23 => ?_)
      refine z_aload_n hX dX5_execute_26 0 rfl ?_
      refine z_callV1 hX (ok_behind l (y := y) (by exact hY) hn ha4 (hpj j hj)) cv_RX5_211 zRc10 dX5_execute_27 (by decide) rfl rfl (Nat.le_of_ble_eq_true rfl) ?_
      refine z_bipush (v := 59) hX dX5_execute_30 (by decide) ?_
      refine z_icmp_ne (tgt := 52) hX dX5_execute_32 (by decide) (fun h32 => absurd h32 (Classical.not_not.mpr (bh_yes hch))) (fun h32 => ?_)
      refine z_aload_n hX dX5_execute_35 0 rfl ?_
      refine z_dup hX dX5_execute_36 rfl ?_
      refine zg_X5_at hX fl_RX5_200 dX5_execute_37 ?_
      refine z_isv (show _ = nI (enC y n0 (stB y n0 (j))) from rfl) ?_
      refine z_iconst (v := 1) hX dX5_execute_40 (by decide) ?_
      refine z_iadd hX dX5_execute_41 ?_
      refine z_isv (nI_1 (enC y n0 (stB y n0 (j)))) ?_
      refine zp_X5_at hX  fl_RX5_200 dX5_execute_42 ?_
      rw [rT_5]
      refine z_aload_n hX dX5_execute_45 0 rfl ?_
      refine z_callV0 hX (hs (j + 1) hjk).2.2 cv_RX5_246 zRc10 dX5_execute_46 (by decide) rfl rfl (Nat.le_of_ble_eq_true rfl) ?_
      refine z_goto (tgt := 19) hX dX5_execute_49 (by decide) ?_
      refine z_sub [0] rfl ?_
      exact ih (j + 1) (by omega) (by omega)
  refine z_sub [0] rfl ?_
  exact hL K 0 (Nat.sub_zero _) (Nat.zero_le _)
set_option maxHeartbeats 4000000 in
set_option maxRecDepth 100000 in
theorem rx_ok (l : Launch) {g : zG} {κ : zKp} {μ : zMu} {ω : zOm} {a b y : Nat → Int32} {n0 K : Nat} (hY : μ 7 = y) (hn : n0 ≤ 60) (ha4 : a 4 = nI n0) (hy : txW y n0) (hg : godN y n0 K) {Cs : Nat → Nat → Int32} (hc0 : Cs 0 = μ 8) (hs : ∀ j, j ≤ K → stpC l g κ μ ω a b y n0 j (Cs j) (Cs (j + 1))) {bt : Nat → zB} (hend : fitT y n0 K) (hI : batI b) (hb0 : bt 0 = b) (hbt : runB y n0 bt (K + 1)) {k0 : Nat} (hk0 : k0 ≤ 8) (hp1 : a 1 = nI k0)  : zM l g yX5_execute cX5_execute 2 (some .int) 10 0 [.ref (gA g 10 0 0)] κ (zN μ a b) ω κ (zN (zPu (zRm (zRm μ 8 (Cs (K + 1))) 2 b) k0 b) (upd (rT (upd (upd a 4 0) 2 0) (enC y n0 (stB y n0 (K))) 0 (K + 1)) 1 (nI (mor k0))) (bt (K + 1))) ω (some (.int (nI (K + 1)))) := by
  have hbK := stB_b K hg
  have hbE := enC_b (y := y) hbK.2
  have hpj : ∀ j, j ≤ K → enC y n0 (stB y n0 j) ≤ n0 := fun j hj => (enC_b (y := y) (stB_b j (fun w hw => hg w (by omega))).2).1
  have hbI := run_I (by rw [hb0]; exact hI) hbt
  refine zM_of (by decide) (Nat.le_of_ble_eq_true rfl) (fun p e R s m args below meth c hX => ?_)
  show zZ p l e R s m args below meth c g 2 _ _ _ _ 0 0 [(0, .ref (gA g 10 0 0))] []
  refine z_aload_n hX dX5_execute_0 0 rfl ?_
  refine z_iconst (v := 0) hX dX5_execute_1 (by decide) ?_
  refine zp_X5_at hX fl_RX5_200 dX5_execute_2 ?_
  refine z_aload_n hX dX5_execute_5 0 rfl ?_
  refine z_iconst (v := 0) hX dX5_execute_6 (by decide) ?_
  refine zp_X5_isWrong hX rfl rfl fl_RX5_207 dX5_execute_7 ?_
  refine z_aload_n hX dX5_execute_10 0 rfl ?_
  refine z_iconst (v := 0) hX dX5_execute_11 (by decide) ?_
  refine zp_X5_commandMany hX fl_RX5_228 dX5_execute_12 ?_
  refine z_aload_n hX dX5_execute_15 0 rfl ?_
  refine z_world (μ' := zN (zRm μ 8 (Cs (0))) (rT a (stB y n0 0) 0 0) b) (fun _ h => by rw [rT_ini] at h; rw [hc0, zRm_self]; exact h) ?_
  refine z_callV0 hX (hs 0 (Nat.zero_le _)).2.2 cv_RX5_246 zRc10 dX5_execute_16 (by decide) rfl rfl (Nat.le_of_ble_eq_true rfl) ?_
  have hL : ∀ (dz : Nat) (j : Nat), K - j = dz → j ≤ K → zZ p l e R s m args below meth c g 2 (zQ g κ (zN (zPu (zRm (zRm μ 8 (Cs (K + 1))) 2 b) k0 b) (upd (rT (upd (upd a 4 0) 2 0) (enC y n0 (stB y n0 (K))) 0 (K + 1)) 1 (nI (mor k0))) (bt (K + 1))) ω (some (.int (nI (K + 1)))) below args s 0) κ (zN (zRm μ 8 (Cs (j + 1))) (rT a (enC y n0 (stB y n0 (j))) (wrB (comB y n0 (stB y n0 (j)) 0 0 0 0).1) (j + 1)) b) ω 0 19 [(0, .ref (gA g 10 0 0))] [] := by
    intro dz
    induction dz with
    | zero =>
      intro j hd hj
      have hjk : j = K := by omega
      have hok : (comB y n0 (stB y n0 (j)) 0 0 0 0).1 = true := by rw [hjk]; exact hend.1
      refine z_world (μ' := zN (zRm μ 8 (Cs (j + 1))) (rT a (enC y n0 (stB y n0 (j))) 0 (j + 1)) b) (fun _ h => by rw [wr_0 hok] at h; exact h) ?_
      refine z_aload_n hX dX5_execute_19 0 rfl ?_
      refine zg_X5_isWrong hX fl_RX5_207 dX5_execute_20 ?_
      refine z_isv (show _ = 0 from rfl) ?_
      refine z_if_ne (tgt := 52) hX dX5_execute_23 (by decide) (fun h23 => absurd h23 (by decide)) (fun h23 => ?_)
      refine z_aload_n hX dX5_execute_26 0 rfl ?_
      refine z_callV1 hX (ok_behind l (y := y) (by exact hY) hn ha4 (hpj j hj)) cv_RX5_211 zRc10 dX5_execute_27 (by decide) rfl rfl (Nat.le_of_ble_eq_true rfl) ?_
      refine z_bipush (v := 59) hX dX5_execute_30 (by decide) ?_
      refine z_icmp_ne (tgt := 52) hX dX5_execute_32 (by decide) (fun h32 => ?_) (fun h32 => absurd h32 (bh_no (fun q => absurd q.1 (by rw [hjk]; have := hend.2; omega)) (by decide)))
      refine z_aload_n hX dX5_execute_52 0 rfl ?_
      refine z_aload_n hX dX5_execute_53 0 rfl ?_
      refine zg_X5_isWrong hX fl_RX5_207 dX5_execute_54 ?_
      refine z_isv (show _ = 0 from rfl) ?_
      refine z_if_ne (tgt := 71) hX dX5_execute_57 (by decide) (fun h57 => absurd h57 (by decide)) (fun h57 => ?_)
      refine z_aload_n hX dX5_execute_60 0 rfl ?_
      refine zg_X5_at hX fl_RX5_200 dX5_execute_61 ?_
      refine z_isv (show _ = nI (enC y n0 (stB y n0 (j))) from rfl) ?_
      refine z_aload_n hX dX5_execute_64 0 rfl ?_
      refine zg_X5_length hX fl_RX5_197 dX5_execute_65 ?_
      refine z_isv (show _ = nI (n0) from ha4) ?_
      refine z_icmp_ge (tgt := 75) hX dX5_execute_68 (by decide) (fun h68 => ?_) (fun h68 => absurd h68 (Classical.not_not.mpr (le_i (by rw [hjk]; exact hend.2) (by rw [hjk]; have := hbE.1; omega))))
      refine z_iconst (v := 0) hX dX5_execute_75 (by decide) ?_
      refine zp_X5_isWrong hX rfl rfl fl_RX5_207 dX5_execute_76 ?_
      rw [rT_6]
      refine z_aload_n hX dX5_execute_79 0 rfl ?_
      refine z_aload_n hX dX5_execute_80 0 rfl ?_
      refine zg_X5_isWrong hX fl_RX5_207 dX5_execute_81 ?_
      refine z_isv (show _ = 0 from rfl) ?_
      refine z_if_eq (tgt := 94) hX dX5_execute_84 (by decide) (fun h84 => ?_) (fun h84 => absurd h84 (by decide))
      refine z_aload_n hX dX5_execute_94 0 rfl ?_
      refine zg_X5_errorAt hX   fl_RX5_32 dX5_execute_95 ?_
      refine z_isv (show _ = a 7 from rfl) ?_
      refine zp_X5_errorAt hX fl_RX5_32 dX5_execute_98 ?_
      rw [rT_c (q := 7) (by decide), upd_eq (a := a) (q := 7) rfl]
      refine z_aload_n hX dX5_execute_101 0 rfl ?_
      refine z_iconst (v := 0) hX dX5_execute_102 (by decide) ?_
      refine zp_X5_length hX fl_RX5_197 dX5_execute_103 ?_
      rw [rT_c (q := 4) (by decide)]
      refine z_aload_n hX dX5_execute_106 0 rfl ?_
      refine zg_X5_isWrong hX fl_RX5_207 dX5_execute_107 ?_
      refine z_isv (show _ = 0 from rfl) ?_
      refine z_if_eq (tgt := 119) hX dX5_execute_110 (by decide) (fun h110 => ?_) (fun h110 => absurd h110 (by decide))
      refine z_aload_n hX dX5_execute_119 0 rfl ?_
      refine z_callV0 hX (ok_X5_keep l) cv_RX5_143 zRc10 dX5_execute_120 (by decide) rfl rfl (Nat.le_of_ble_eq_true rfl) ?_
      rw [rT_c (q := 2) (by decide)]
      have hkj : K = j := hjk.symm
      subst hkj
      refine z_world (μ' := zN (zRm (zRm μ 8 (Cs (K + 1))) 2 b) (rT ((upd (upd a 4 0) 2 0)) (enC y n0 (stB y n0 (K))) 0 (K + 1)) (bt 0)) (fun _ h => by rw [hb0]; exact h) ?_
      refine z_iconst (v := 0) hX dX5_execute_123 (by decide) ?_
      refine z_istore_n (lv' := [(1, _), (0, _)]) hX dX5_execute_124 (by decide) rfl ?_
      have hL2 : ∀ (dz : Nat) (w : Nat), (K + 1) - w = dz → w ≤ (K + 1) → zZ p l e R s m args below meth c g 2 (zQ g κ (zN (zPu (zRm (zRm μ 8 (Cs (K + 1))) 2 b) k0 b) (upd (rT (upd (upd a 4 0) 2 0) (enC y n0 (stB y n0 (K))) 0 (K + 1)) 1 (nI (mor k0))) (bt (K + 1))) ω (some (.int (nI (K + 1)))) below args s 0) κ (zN (zRm (zRm μ 8 (Cs (K + 1))) 2 b) (rT ((upd (upd a 4 0) 2 0)) (enC y n0 (stB y n0 (K))) 0 (K + 1)) (bt w)) ω 0 125 [(0, .ref (gA g 10 0 0)), (1, .int (nI w))] [] := by
        intro dz
        induction dz with
        | zero =>
          intro w hd hw9
          have hwk : w = (K + 1) := by omega
          refine z_iload_n hX dX5_execute_125 1 rfl ?_
          refine z_aload_n hX dX5_execute_126 0 rfl ?_
          refine zg_X5_commandMany hX fl_RX5_228 dX5_execute_127 ?_
          refine z_isv (show _ = nI (K + 1) from rfl) ?_
          refine z_icmp_ge (tgt := 166) hX dX5_execute_130 (by decide) (fun h130 => ?_) (fun h130 => absurd h130 (Classical.not_not.mpr (by rw [hwk]; exact Int32.le_refl _)))
          refine z_aload_n hX dX5_execute_166 0 rfl ?_
          refine z_aload_n hX dX5_execute_167 0 rfl ?_
          refine zg_X5_commandMany hX fl_RX5_228 dX5_execute_168 ?_
          refine z_isv (show _ = nI (K + 1) from rfl) ?_
          refine z_callV1 hX (ok_end l hk0 (show (0 : Int32) ≤ 0 from Int32.le_refl _) hp1) cv_RX5_150 zRc10 dX5_execute_171 (by decide) rfl rfl (Nat.le_of_ble_eq_true rfl) ?_
          exact z_iretI hX dX5_execute_174 (by decide) rfl (fun _ h => by rw [hwk, zRm_s] at h; exact h)
        | succ dz ih =>
          intro w hd hw9
          have hwk : w < (K + 1) := by omega
          refine z_iload_n hX dX5_execute_125 1 rfl ?_
          refine z_aload_n hX dX5_execute_126 0 rfl ?_
          refine zg_X5_commandMany hX fl_RX5_228 dX5_execute_127 ?_
          refine z_isv (show _ = nI (K + 1) from rfl) ?_
          refine z_icmp_ge (tgt := 166) hX dX5_execute_130 (by decide) (fun h130 => absurd h130 (nle_i (by omega) (by omega))) (fun h130 => ?_)
          refine z_aload_n hX dX5_execute_133 0 rfl ?_
          refine z_iload_n hX dX5_execute_134 1 rfl ?_
          refine z_callV0 hX (dy_yes l (by omega) (hbI w (by omega)) (show cmO (Cs (K + 1)) (5 * w) (comB y n0 (stB y n0 w) 0 0 0 0) from cs_ok hs (by omega) (all_ok hg hend.1 (by omega))) (hbt w (by omega))) cv_RX5_249 zRc10 dX5_execute_135 (by decide) rfl rfl (Nat.le_of_ble_eq_true rfl) ?_
          refine z_aload_n hX dX5_execute_138 0 rfl ?_
          refine zg_X5_thrown hX   fl_RX5_42 dX5_execute_139 ?_
          refine z_isv (show _ = (0 : Int32) from rfl) ?_
          refine z_if_le (tgt := 160) hX dX5_execute_142 (by decide) (fun h142 => ?_) (fun h142 => absurd h142 (fun q => q (Int32.le_refl _)))
          refine z_iinc (v := nI (w + 1)) (lv' := [(1, _), (0, _)]) hX dX5_execute_160 1 rfl (nI_1 w) (by decide) rfl ?_
          refine z_goto (tgt := 125) hX dX5_execute_163 (by decide) ?_
          refine z_sub [1, 0] rfl ?_
          exact ih (w + 1) (by omega) (by omega)
      refine z_sub [1, 0] rfl ?_
      exact hL2 ((K + 1)) 0 (Nat.sub_zero _) (Nat.zero_le _)
    | succ dz ih =>
      intro j hd hj
      have hjk : j < K := by omega
      obtain ⟨hok, hch⟩ := hg j hjk
      refine z_world (μ' := zN (zRm μ 8 (Cs (j + 1))) (rT a (enC y n0 (stB y n0 (j))) 0 (j + 1)) b) (fun _ h => by rw [wr_0 hok] at h; exact h) ?_
      refine z_aload_n hX dX5_execute_19 0 rfl ?_
      refine zg_X5_isWrong hX fl_RX5_207 dX5_execute_20 ?_
      refine z_isv (show _ = 0 from rfl) ?_
      refine z_if_ne (tgt := 52) hX dX5_execute_23 (by decide) (fun h23 => absurd h23 (by decide)) (fun h23 => ?_)
      refine z_aload_n hX dX5_execute_26 0 rfl ?_
      refine z_callV1 hX (ok_behind l (y := y) (by exact hY) hn ha4 (hpj j hj)) cv_RX5_211 zRc10 dX5_execute_27 (by decide) rfl rfl (Nat.le_of_ble_eq_true rfl) ?_
      refine z_bipush (v := 59) hX dX5_execute_30 (by decide) ?_
      refine z_icmp_ne (tgt := 52) hX dX5_execute_32 (by decide) (fun h32 => absurd h32 (Classical.not_not.mpr (bh_yes hch))) (fun h32 => ?_)
      refine z_aload_n hX dX5_execute_35 0 rfl ?_
      refine z_dup hX dX5_execute_36 rfl ?_
      refine zg_X5_at hX fl_RX5_200 dX5_execute_37 ?_
      refine z_isv (show _ = nI (enC y n0 (stB y n0 (j))) from rfl) ?_
      refine z_iconst (v := 1) hX dX5_execute_40 (by decide) ?_
      refine z_iadd hX dX5_execute_41 ?_
      refine z_isv (nI_1 (enC y n0 (stB y n0 (j)))) ?_
      refine zp_X5_at hX  fl_RX5_200 dX5_execute_42 ?_
      rw [rT_5]
      refine z_aload_n hX dX5_execute_45 0 rfl ?_
      refine z_callV0 hX (hs (j + 1) hjk).2.2 cv_RX5_246 zRc10 dX5_execute_46 (by decide) rfl rfl (Nat.le_of_ble_eq_true rfl) ?_
      refine z_goto (tgt := 19) hX dX5_execute_49 (by decide) ?_
      refine z_sub [0] rfl ?_
      exact ih (j + 1) (by omega) (by omega)
  refine z_sub [0] rfl ?_
  exact hL K 0 (Nat.sub_zero _) (Nat.zero_le _)
set_option maxHeartbeats 4000000 in
set_option maxRecDepth 100000 in
theorem rx_no (l : Launch) {g : zG} {κ : zKp} {μ : zMu} {ω : zOm} {a b y : Nat → Int32} {n0 K : Nat} (hY : μ 7 = y) (hn : n0 ≤ 60) (ha4 : a 4 = nI n0) (hy : txW y n0) (hg : godN y n0 K) {Cs : Nat → Nat → Int32} (hc0 : Cs 0 = μ 8) (hs : ∀ j, j ≤ K → stpC l g κ μ ω a b y n0 j (Cs j) (Cs (j + 1))) {bt : Nat → zB} (hend : fitT y n0 K) (hI : batI b) (hb0 : bt 0 = b) {J : Nat} (hJ : J ≤ K) (hbt : runB y n0 bt J) (hno : perB (bt J) (comB y n0 (stB y n0 (J)) 0 0 0 0).2.2.1 (comB y n0 (stB y n0 (J)) 0 0 0 0).2.2.2.1 (comB y n0 (stB y n0 (J)) 0 0 0 0).2.2.2.2.1 (comB y n0 (stB y n0 (J)) 0 0 0 0).2.2.2.2.2.1 (comB y n0 (stB y n0 (J)) 0 0 0 0).2.2.2.2.2.2 = none)  : zM l g yX5_execute cX5_execute 2 (some .int) 10 0 [.ref (gA g 10 0 0)] κ (zN μ a b) ω κ (zN (zRm (zRm μ 8 (Cs (K + 1))) 2 b) (upd (upd (rT (upd (upd a 4 0) 2 0) (enC y n0 (stB y n0 (K))) 0 (K + 1)) 8 (nI J)) 2 2) b) ω (some (.int 0)) := by
  have hbK := stB_b K hg
  have hbE := enC_b (y := y) hbK.2
  have hpj : ∀ j, j ≤ K → enC y n0 (stB y n0 j) ≤ n0 := fun j hj => (enC_b (y := y) (stB_b j (fun w hw => hg w (by omega))).2).1
  have hbI := run_I (by rw [hb0]; exact hI) hbt
  refine zM_of (by decide) (Nat.le_of_ble_eq_true rfl) (fun p e R s m args below meth c hX => ?_)
  show zZ p l e R s m args below meth c g 2 _ _ _ _ 0 0 [(0, .ref (gA g 10 0 0))] []
  refine z_aload_n hX dX5_execute_0 0 rfl ?_
  refine z_iconst (v := 0) hX dX5_execute_1 (by decide) ?_
  refine zp_X5_at hX fl_RX5_200 dX5_execute_2 ?_
  refine z_aload_n hX dX5_execute_5 0 rfl ?_
  refine z_iconst (v := 0) hX dX5_execute_6 (by decide) ?_
  refine zp_X5_isWrong hX rfl rfl fl_RX5_207 dX5_execute_7 ?_
  refine z_aload_n hX dX5_execute_10 0 rfl ?_
  refine z_iconst (v := 0) hX dX5_execute_11 (by decide) ?_
  refine zp_X5_commandMany hX fl_RX5_228 dX5_execute_12 ?_
  refine z_aload_n hX dX5_execute_15 0 rfl ?_
  refine z_world (μ' := zN (zRm μ 8 (Cs (0))) (rT a (stB y n0 0) 0 0) b) (fun _ h => by rw [rT_ini] at h; rw [hc0, zRm_self]; exact h) ?_
  refine z_callV0 hX (hs 0 (Nat.zero_le _)).2.2 cv_RX5_246 zRc10 dX5_execute_16 (by decide) rfl rfl (Nat.le_of_ble_eq_true rfl) ?_
  have hL : ∀ (dz : Nat) (j : Nat), K - j = dz → j ≤ K → zZ p l e R s m args below meth c g 2 (zQ g κ (zN (zRm (zRm μ 8 (Cs (K + 1))) 2 b) (upd (upd (rT (upd (upd a 4 0) 2 0) (enC y n0 (stB y n0 (K))) 0 (K + 1)) 8 (nI J)) 2 2) b) ω (some (.int 0)) below args s 0) κ (zN (zRm μ 8 (Cs (j + 1))) (rT a (enC y n0 (stB y n0 (j))) (wrB (comB y n0 (stB y n0 (j)) 0 0 0 0).1) (j + 1)) b) ω 0 19 [(0, .ref (gA g 10 0 0))] [] := by
    intro dz
    induction dz with
    | zero =>
      intro j hd hj
      have hjk : j = K := by omega
      have hok : (comB y n0 (stB y n0 (j)) 0 0 0 0).1 = true := by rw [hjk]; exact hend.1
      refine z_world (μ' := zN (zRm μ 8 (Cs (j + 1))) (rT a (enC y n0 (stB y n0 (j))) 0 (j + 1)) b) (fun _ h => by rw [wr_0 hok] at h; exact h) ?_
      refine z_aload_n hX dX5_execute_19 0 rfl ?_
      refine zg_X5_isWrong hX fl_RX5_207 dX5_execute_20 ?_
      refine z_isv (show _ = 0 from rfl) ?_
      refine z_if_ne (tgt := 52) hX dX5_execute_23 (by decide) (fun h23 => absurd h23 (by decide)) (fun h23 => ?_)
      refine z_aload_n hX dX5_execute_26 0 rfl ?_
      refine z_callV1 hX (ok_behind l (y := y) (by exact hY) hn ha4 (hpj j hj)) cv_RX5_211 zRc10 dX5_execute_27 (by decide) rfl rfl (Nat.le_of_ble_eq_true rfl) ?_
      refine z_bipush (v := 59) hX dX5_execute_30 (by decide) ?_
      refine z_icmp_ne (tgt := 52) hX dX5_execute_32 (by decide) (fun h32 => ?_) (fun h32 => absurd h32 (bh_no (fun q => absurd q.1 (by rw [hjk]; have := hend.2; omega)) (by decide)))
      refine z_aload_n hX dX5_execute_52 0 rfl ?_
      refine z_aload_n hX dX5_execute_53 0 rfl ?_
      refine zg_X5_isWrong hX fl_RX5_207 dX5_execute_54 ?_
      refine z_isv (show _ = 0 from rfl) ?_
      refine z_if_ne (tgt := 71) hX dX5_execute_57 (by decide) (fun h57 => absurd h57 (by decide)) (fun h57 => ?_)
      refine z_aload_n hX dX5_execute_60 0 rfl ?_
      refine zg_X5_at hX fl_RX5_200 dX5_execute_61 ?_
      refine z_isv (show _ = nI (enC y n0 (stB y n0 (j))) from rfl) ?_
      refine z_aload_n hX dX5_execute_64 0 rfl ?_
      refine zg_X5_length hX fl_RX5_197 dX5_execute_65 ?_
      refine z_isv (show _ = nI (n0) from ha4) ?_
      refine z_icmp_ge (tgt := 75) hX dX5_execute_68 (by decide) (fun h68 => ?_) (fun h68 => absurd h68 (Classical.not_not.mpr (le_i (by rw [hjk]; exact hend.2) (by rw [hjk]; have := hbE.1; omega))))
      refine z_iconst (v := 0) hX dX5_execute_75 (by decide) ?_
      refine zp_X5_isWrong hX rfl rfl fl_RX5_207 dX5_execute_76 ?_
      rw [rT_6]
      refine z_aload_n hX dX5_execute_79 0 rfl ?_
      refine z_aload_n hX dX5_execute_80 0 rfl ?_
      refine zg_X5_isWrong hX fl_RX5_207 dX5_execute_81 ?_
      refine z_isv (show _ = 0 from rfl) ?_
      refine z_if_eq (tgt := 94) hX dX5_execute_84 (by decide) (fun h84 => ?_) (fun h84 => absurd h84 (by decide))
      refine z_aload_n hX dX5_execute_94 0 rfl ?_
      refine zg_X5_errorAt hX   fl_RX5_32 dX5_execute_95 ?_
      refine z_isv (show _ = a 7 from rfl) ?_
      refine zp_X5_errorAt hX fl_RX5_32 dX5_execute_98 ?_
      rw [rT_c (q := 7) (by decide), upd_eq (a := a) (q := 7) rfl]
      refine z_aload_n hX dX5_execute_101 0 rfl ?_
      refine z_iconst (v := 0) hX dX5_execute_102 (by decide) ?_
      refine zp_X5_length hX fl_RX5_197 dX5_execute_103 ?_
      rw [rT_c (q := 4) (by decide)]
      refine z_aload_n hX dX5_execute_106 0 rfl ?_
      refine zg_X5_isWrong hX fl_RX5_207 dX5_execute_107 ?_
      refine z_isv (show _ = 0 from rfl) ?_
      refine z_if_eq (tgt := 119) hX dX5_execute_110 (by decide) (fun h110 => ?_) (fun h110 => absurd h110 (by decide))
      refine z_aload_n hX dX5_execute_119 0 rfl ?_
      refine z_callV0 hX (ok_X5_keep l) cv_RX5_143 zRc10 dX5_execute_120 (by decide) rfl rfl (Nat.le_of_ble_eq_true rfl) ?_
      rw [rT_c (q := 2) (by decide)]
      have hkj : K = j := hjk.symm
      subst hkj
      refine z_world (μ' := zN (zRm (zRm μ 8 (Cs (K + 1))) 2 b) (rT ((upd (upd a 4 0) 2 0)) (enC y n0 (stB y n0 (K))) 0 (K + 1)) (bt 0)) (fun _ h => by rw [hb0]; exact h) ?_
      refine z_iconst (v := 0) hX dX5_execute_123 (by decide) ?_
      refine z_istore_n (lv' := [(1, _), (0, _)]) hX dX5_execute_124 (by decide) rfl ?_
      have hL2 : ∀ (dz : Nat) (w : Nat), J - w = dz → w ≤ J → zZ p l e R s m args below meth c g 2 (zQ g κ (zN (zRm (zRm μ 8 (Cs (K + 1))) 2 b) (upd (upd (rT (upd (upd a 4 0) 2 0) (enC y n0 (stB y n0 (K))) 0 (K + 1)) 8 (nI J)) 2 2) b) ω (some (.int 0)) below args s 0) κ (zN (zRm (zRm μ 8 (Cs (K + 1))) 2 b) (rT ((upd (upd a 4 0) 2 0)) (enC y n0 (stB y n0 (K))) 0 (K + 1)) (bt w)) ω 0 125 [(0, .ref (gA g 10 0 0)), (1, .int (nI w))] [] := by
        intro dz
        induction dz with
        | zero =>
          intro w hd hw9
          have hwk : w = J := by omega
          refine z_iload_n hX dX5_execute_125 1 rfl ?_
          refine z_aload_n hX dX5_execute_126 0 rfl ?_
          refine zg_X5_commandMany hX fl_RX5_228 dX5_execute_127 ?_
          refine z_isv (show _ = nI (K + 1) from rfl) ?_
          refine z_icmp_ge (tgt := 166) hX dX5_execute_130 (by decide) (fun h130 => absurd h130 (nle_i (by omega) (by omega))) (fun h130 => ?_)
          refine z_aload_n hX dX5_execute_133 0 rfl ?_
          refine z_iload_n hX dX5_execute_134 1 rfl ?_
          obtain ⟨v, hv, hV⟩ := dy_no l (g := g) (κ := κ) (μ := zRm (zRm μ 8 (Cs (K + 1))) 2 b) (ω := ω) (a := rT (upd (upd a 4 0) 2 0) (enC y n0 (stB y n0 (K))) 0 (K + 1)) (b := bt w) (m0 := w) (by omega) (hbI w (by omega)) (show cmO (Cs (K + 1)) (5 * w) (comB y n0 (stB y n0 w) 0 0 0 0) from cs_ok hs (by omega) (all_ok hg hend.1 (by omega))) (by rw [hwk]; exact hno)
          refine z_callV0 hX hV cv_RX5_249 zRc10 dX5_execute_135 (by decide) rfl rfl (Nat.le_of_ble_eq_true rfl) ?_
          refine z_aload_n hX dX5_execute_138 0 rfl ?_
          refine zg_X5_thrown hX   fl_RX5_42 dX5_execute_139 ?_
          refine z_isv (show _ = v from rfl) ?_
          refine z_if_le (tgt := 160) hX dX5_execute_142 (by decide) (fun h142 => absurd h142 (Int32.not_le.mpr hv)) (fun h142 => ?_)
          refine z_aload_n hX dX5_execute_145 0 rfl ?_
          refine z_iload_n hX dX5_execute_146 1 rfl ?_
          refine zp_X5_failedAt hX   fl_RX5_36 dX5_execute_147 ?_
          refine z_aload_n hX dX5_execute_150 0 rfl ?_
          refine z_aload_n hX dX5_execute_151 0 rfl ?_
          refine z_iconst (v := 2) hX dX5_execute_152 (by decide) ?_
          refine z_callV1 hX (ok_X5_fails l) cv_RX5_140 zRc10 dX5_execute_153 (by decide) rfl rfl (Nat.le_of_ble_eq_true rfl) ?_
          refine z_callV1 hX (no_ends l (show ¬ (2 : Int32) ≤ 0 by decide)) cv_RX5_150 zRc10 dX5_execute_156 (by decide) rfl rfl (Nat.le_of_ble_eq_true rfl) ?_
          exact z_iretI hX dX5_execute_159 (by decide) rfl (fun _ h => by rw [hwk, zRm_s, upd_3] at h; exact h)
        | succ dz ih =>
          intro w hd hw9
          have hwk : w < J := by omega
          refine z_iload_n hX dX5_execute_125 1 rfl ?_
          refine z_aload_n hX dX5_execute_126 0 rfl ?_
          refine zg_X5_commandMany hX fl_RX5_228 dX5_execute_127 ?_
          refine z_isv (show _ = nI (K + 1) from rfl) ?_
          refine z_icmp_ge (tgt := 166) hX dX5_execute_130 (by decide) (fun h130 => absurd h130 (nle_i (by omega) (by omega))) (fun h130 => ?_)
          refine z_aload_n hX dX5_execute_133 0 rfl ?_
          refine z_iload_n hX dX5_execute_134 1 rfl ?_
          refine z_callV0 hX (dy_yes l (by omega) (hbI w (by omega)) (show cmO (Cs (K + 1)) (5 * w) (comB y n0 (stB y n0 w) 0 0 0 0) from cs_ok hs (by omega) (all_ok hg hend.1 (by omega))) (hbt w (by omega))) cv_RX5_249 zRc10 dX5_execute_135 (by decide) rfl rfl (Nat.le_of_ble_eq_true rfl) ?_
          refine z_aload_n hX dX5_execute_138 0 rfl ?_
          refine zg_X5_thrown hX   fl_RX5_42 dX5_execute_139 ?_
          refine z_isv (show _ = (0 : Int32) from rfl) ?_
          refine z_if_le (tgt := 160) hX dX5_execute_142 (by decide) (fun h142 => ?_) (fun h142 => absurd h142 (fun q => q (Int32.le_refl _)))
          refine z_iinc (v := nI (w + 1)) (lv' := [(1, _), (0, _)]) hX dX5_execute_160 1 rfl (nI_1 w) (by decide) rfl ?_
          refine z_goto (tgt := 125) hX dX5_execute_163 (by decide) ?_
          refine z_sub [1, 0] rfl ?_
          exact ih (w + 1) (by omega) (by omega)
      refine z_sub [1, 0] rfl ?_
      exact hL2 (J) 0 (Nat.sub_zero _) (Nat.zero_le _)
    | succ dz ih =>
      intro j hd hj
      have hjk : j < K := by omega
      obtain ⟨hok, hch⟩ := hg j hjk
      refine z_world (μ' := zN (zRm μ 8 (Cs (j + 1))) (rT a (enC y n0 (stB y n0 (j))) 0 (j + 1)) b) (fun _ h => by rw [wr_0 hok] at h; exact h) ?_
      refine z_aload_n hX dX5_execute_19 0 rfl ?_
      refine zg_X5_isWrong hX fl_RX5_207 dX5_execute_20 ?_
      refine z_isv (show _ = 0 from rfl) ?_
      refine z_if_ne (tgt := 52) hX dX5_execute_23 (by decide) (fun h23 => absurd h23 (by decide)) (fun h23 => ?_)
      refine z_aload_n hX dX5_execute_26 0 rfl ?_
      refine z_callV1 hX (ok_behind l (y := y) (by exact hY) hn ha4 (hpj j hj)) cv_RX5_211 zRc10 dX5_execute_27 (by decide) rfl rfl (Nat.le_of_ble_eq_true rfl) ?_
      refine z_bipush (v := 59) hX dX5_execute_30 (by decide) ?_
      refine z_icmp_ne (tgt := 52) hX dX5_execute_32 (by decide) (fun h32 => absurd h32 (Classical.not_not.mpr (bh_yes hch))) (fun h32 => ?_)
      refine z_aload_n hX dX5_execute_35 0 rfl ?_
      refine z_dup hX dX5_execute_36 rfl ?_
      refine zg_X5_at hX fl_RX5_200 dX5_execute_37 ?_
      refine z_isv (show _ = nI (enC y n0 (stB y n0 (j))) from rfl) ?_
      refine z_iconst (v := 1) hX dX5_execute_40 (by decide) ?_
      refine z_iadd hX dX5_execute_41 ?_
      refine z_isv (nI_1 (enC y n0 (stB y n0 (j)))) ?_
      refine zp_X5_at hX  fl_RX5_200 dX5_execute_42 ?_
      rw [rT_5]
      refine z_aload_n hX dX5_execute_45 0 rfl ?_
      refine z_callV0 hX (hs (j + 1) hjk).2.2 cv_RX5_246 zRc10 dX5_execute_46 (by decide) rfl rfl (Nat.le_of_ble_eq_true rfl) ?_
      refine z_goto (tgt := 19) hX dX5_execute_49 (by decide) ?_
      refine z_sub [0] rfl ?_
      exact ih (j + 1) (by omega) (by omega)
  refine z_sub [0] rfl ?_
  exact hL K 0 (Nat.sub_zero _) (Nat.zero_le _)
end ZRX
