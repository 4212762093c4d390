section ZOP
theorem RR.execM {κ : zKp} {μ : zMu} (h : RR κ μ) {X C a' : Nat → Int32} {J : Nat} (hJ : J < 100000) (hX : X 0 = nI 0) (a0 : a' 0 = μ 0 0) (a1 : a' 1 = μ 0 1) (a3 : a' 3 = μ 0 3) (a4 : a' 4 = nI 0) (a7 : a' 7 = nI J) (a8 : a' 8 = μ 0 8) : RR (zT (zRow κ 0 0 (upd (κ 0 0) 2 (nI J))) X (μ 7)) (zN (zRm μ 8 C) a' (μ 1)) := by
  have hK : ∀ {t f : Nat}, ¬ (f = 0 ∧ (t = 0 ∨ t = 2 ∨ t = 3)) → zT (zRow κ 0 0 (upd (κ 0 0) 2 (nI J))) X (μ 7) t f = κ t f := fun {t f} h0 => (if_neg (by omega)).trans ((if_neg (by omega)).trans (zRow_o (by omega)))
  have hmu : ∀ {r : Nat}, 2 < r → ¬ r = 8 → zN (zRm μ 8 C) a' (μ 1) r = μ r := fun {r} h1 h2 => (zN_o (by omega)).trans (zRm_o h2)
  refine ⟨⟨h.ba.1, h.bI, h.ba.2.2⟩, h.ch.keep (fun f hf => ⟨f, hf, hK (by omega)⟩), h.sv.keep rfl rfl rfl a0 rfl, h.hs.keep rfl (fun q _ => hK (by omega)) (fun q _ => hK (by omega)) a1 (fun r h1 _ => hmu (by omega) (by omega)), h.wr.keep rfl rfl rfl a3, ⟨rfl, 0, by decide, hX, a4, fun q hq => absurd hq (Nat.not_lt_zero q)⟩, ⟨⟨a7.symm, Or.inr (by rw [show zN (zRm μ 8 C) a' (μ 1) 0 7 = nI J from a7]; exact ge_i hJ)⟩, ⟨h.er.2.1.trans a8.symm, by rw [show zN (zRm μ 8 C) a' (μ 1) 0 8 = μ 0 8 from a8]; exact h.er.2.2⟩⟩⟩
/-- the newest states of the past -/
def preH (μ : zMu) (L : List zB) : Prop := ∃ d : Nat, μ 0 1 = nI d ∧ d ≤ 8 ∧ L.length ≤ d ∧ ∀ (j : Nat) (hj : j < L.length), μ (10 + (d - 1 - j)) = L[j]
theorem preH.keep {μ μ' : zMu} {L : List zB} (h : preH μ L) (m1 : μ' 0 1 = μ 0 1) (mr : ∀ r, 10 ≤ r → r < 18 → μ' r = μ r) : preH μ' L := by
  obtain ⟨d, h1, h2, h3, h4⟩ := h
  exact ⟨d, by rw [m1]; exact h1, h2, h3, fun j hj => by rw [mr _ (by omega) (by omega)]; exact h4 j hj⟩
theorem preH.push {μ M : zMu} {L : List zB} {d : Nat} {a' : Nat → Int32} {nb : zB} (h : preH μ L) (hm : μ 0 1 = nI d) (hd8 : d ≤ 8) (hL : L.length < 8) (a1 : a' 1 = nI (mor d)) (mr : ∀ r, 10 ≤ r → r < 18 → M r = μ r) : preH (zN (zPu M d (μ 1)) a' nb) (μ 1 :: L) := by
  obtain ⟨d0, h1, h2, h3, h4⟩ := h
  have e0 : d0 = d := nI_inj2 (by omega) (by omega) (h1.symm.trans hm)
  subst e0
  have hmo := mor_8 hd8
  refine ⟨mor d0, a1, hmo.1, by show L.length + 1 ≤ mor d0; omega, fun j hj => ?_⟩
  have hj2 : j < L.length + 1 := hj
  rw [zN_o (by omega)]
  cases j with
  | zero =>
    show zPu M d0 (μ 1) (10 + (mor d0 - 1 - 0)) = μ 1
    unfold zPu
    by_cases q : d0 = 8
    · rw [if_pos q, show 10 + (mor d0 - 1 - 0) = 17 by omega, zRm_s]
    · rw [if_neg q, show 10 + (mor d0 - 1 - 0) = 10 + d0 by omega, zRm_s]
  | succ j =>
    show zPu M d0 (μ 1) (10 + (mor d0 - 1 - (j + 1))) = L[j]
    rw [← h4 j (by omega)]
    unfold zPu
    by_cases q : d0 = 8
    · rw [if_pos q, zRm_o (by omega), zSh_i (by omega), show 11 + (mor d0 - 1 - (j + 1)) = 10 + (d0 - 1 - j) by omega, mr _ (by omega) (by omega)]
    · rw [if_neg q, zRm_o (by omega), show mor d0 - 1 - (j + 1) = d0 - 1 - j by omega, mr _ (by omega) (by omega)]
/-- a command: it fails and the battle stays, or the battle before it is the past's newest -/
def OpR (μ : zMu) (κ' : zKp) (μ' : zMu) (v : Int32) : Prop := RR κ' μ' ∧ (μ 0 4 = nI 0 → μ' 0 4 = nI 0) ∧ ((v < 0 ∧ μ' 1 = μ 1 ∧ ∀ L, preH μ L → preH μ' L) ∨ (¬ v < 0 ∧ ∀ L, L.length < 8 → preH μ L → preH μ' (μ 1 :: L)))
theorem op_no {κ : zKp} {μ : zMu} (h : RR κ μ) {v : Int32} (hv : v < 0) : OpR μ κ μ v := ⟨h, fun q => q, Or.inl ⟨hv, rfl, fun _ q => q⟩⟩
theorem op_push {κ : zKp} {μ : zMu} (h : RR κ μ) {nb : zB} (hI : batI nb) {k0 d : Nat} (hk : k0 < 8) (hd8 : d ≤ 8) (hm : μ 0 1 = nI d) (ho : hsO κ μ k0 d) {v : Int32} (hv : ¬ v < 0) : OpR μ (zF (zKe κ k0 d) 0 nb (cellsOf nb)) (zN (zPu (zRm μ 2 (μ 1)) d (μ 1)) (upd (upd (μ 0) 2 0) 1 (nI (mor d))) nb) v := ⟨h.push hI hk hd8 ho, fun q => q, Or.inr ⟨hv, fun L hL hp => hp.push hm hd8 hL rfl (fun r h1 _ => zRm_o (by omega))⟩⟩
/-- what the drawing needs too -/
def OpD (μ μ' : zMu) : Prop := (rouW (μ 1) → rouW (μ' 1)) ∧ bn (μ 1) ≤ bn (μ' 1)
abbrev zAd (l : Launch) (g : zG) (ν : zMu) (ω : zOm) (κ κ' : zKp) (x y z v r : Int32) : Prop := zMW l g yL_addLine cL_addLine 6 hh_addLine 20 1 [.ref (gA g 0 0 0), .int x, .int y, .int z, .int v] κ ν ω κ' ν ω r
theorem op_addLine (l : Launch) (hl0 : l.stackTraces = false) {g : zG} {κ : zKp} {μ ν : zMu} {ω : zOm} (h : RR κ μ) (x y z v : Int32) : ∃ (κ' : zKp) (μ' : zMu) (r : Int32), zAd l g ν ω κ κ' x y z v r ∧ OpR μ κ' μ' r ∧ OpD μ μ' ∧ (okA x y z v → ¬ r = -1) ∧ (∀ u a : Nat, x = nI u → y = nI a → u < 2 → a < 3 → okA x y z v → bn (μ 1) < 12 → occB (μ 1) (nI a) (nI (9 * u)) = none → ¬ r < 0 ∧ μ' 1 = addB (μ 1) x y z v) := by
  obtain ⟨k0, d, hk, hd8, hw, hd, hm, ho⟩ := h.hs
  rcases add_c h.bI x y z v with ⟨nf, nA⟩ | ⟨u, a, hu, ha, rfl, rfl, hF, hA, ⟨e1, e2⟩ | ⟨e1, e2, ⟨j, hj⟩, e3⟩ | ⟨e1, e2, ho', e3⟩⟩
  · have c := no1_X4_addLine l hl0 (g := g) (κ := κ) (μ := ν) (ω := ω) (gb := μ 1) (cb := cellsOf (μ 1)) nA
    rw [h.eqF] at c
    exact ⟨κ, μ, -1, he_addLine_IAE l (by decide) c, op_no h (by decide), ⟨fun q => q, Nat.le_refl _⟩, fun q => absurd q nA, fun _ _ _ _ _ _ q => absurd q nA⟩
  · have c := no2_X4_addLine l hl0 (g := g) (κ := κ) (μ := ν) (ω := ω) (gb := μ 1) (cb := cellsOf (μ 1)) hA h.n e1
    rw [h.eqF] at c
    exact ⟨κ, μ, -2, he_addLine_ISE l (by decide) c, op_no h (by decide), ⟨fun q => q, Nat.le_refl _⟩, fun _ => by decide, fun _ _ _ _ _ _ _ q => absurd q (by omega)⟩
  · have c := no3_X4_addLine l hl0 (g := g) (κ := κ) (μ := ν) (ω := ω) (gb := μ 1) (cb := cellsOf (μ 1)) hA h.n hu rfl e1 hj
    rw [h.eqF] at c
    refine ⟨κ, μ, -3, he_addLine_UOE l (by decide) c, op_no h (by decide), ⟨fun q => q, Nat.le_refl _⟩, fun _ => by decide, fun u2 a2 q1 q2 h1 h2 _ _ q => ?_⟩
    have e5 := nI_inj2 (by omega) (by omega) q1
    have e6 := nI_inj2 (by omega) (by omega) q2
    subst e5 e6
    rw [q] at hj
    exact absurd hj (by simp)
  · have c := ok_X4_addLine l (g := g) (κ := κ) (μ := ν) (ω := ω) hk hw hd hd8 h.ch0 h.ba.1 h.ba.2.2 hA h.n hu ha rfl e1 ho'
    rw [← cells_add h.bI e1 hF hu ha e3] at c
    exact ⟨_, _, _, hk_addLine l (by decide) c, op_push h (batI_add h.bI e1 hF e3) hk hd8 hm ho (nI_pos (by omega)), ⟨fun q => rou_add h.n q, by show bn (μ 1) ≤ bn (addB (μ 1) _ _ _ _); rw [bn_addB h.n]; omega⟩, fun _ => nI_ne_m1 (by omega), fun _ _ _ _ _ _ _ _ _ => ⟨nI_pos (by omega), rfl⟩⟩
theorem op_setOrder (l : Launch) (hl0 : l.stackTraces = false) {g : zG} {κ : zKp} {μ ν : zMu} {ω : zOm} (h : RR κ μ) (x z : Int32) : ∃ (κ' : zKp) (μ' : zMu) (r : Int32), zMW l g yL_setOrder cL_setOrder 4 hh_setOrder 20 1 [.ref (gA g 0 0 0), .int x, .int z] κ ν ω κ' ν ω r ∧ OpR μ κ' μ' r ∧ OpD μ μ' ∧ ((0 ≤ x ∧ x ≤ μ 1 0 - 1) → ¬ r = -1) := by
  obtain ⟨k0, d, hk, hd8, hw, hd, hm, ho⟩ := h.hs
  rcases num_c h.bI x with ⟨h1, h2⟩ | ⟨i, hlt, rfl, -, -, hL⟩
  · have c := no1_X4_setOrder l hl0 (g := g) (κ := κ) (μ := ν) (ω := ω) (gb := μ 1) (cb := cellsOf (μ 1)) h1 (z := z)
    rw [h.eqF] at c
    exact ⟨κ, μ, -1, he_setOrder_IOE l (by decide) c, op_no h (by decide), ⟨fun q => q, Nat.le_refl _⟩, fun q => absurd q h2⟩
  · by_cases hz : ordO z
    · by_cases h7 : bf (μ 1) i 7 = 0
      · have c := ok_X4_setOrder l (g := g) (κ := κ) (μ := ν) (ω := ω) hk hw hd hd8 h.ch0 h.ba.1 h.ba.2.2 h.n hlt hL hz h7
        rw [← cells_ord (g := μ 1) (i := i) (x := z)] at c
        have hp : ¬ bf (μ 1) i 6 < 0 := by rcases hL.2.2.2.2.2.2.1 with q | q | q <;> rw [q] <;> decide
        exact ⟨_, _, _, hk_setOrder l (by decide) c, op_push h (batI_6 h.bI hz) hk hd8 hm ho hp, ⟨fun q => rou_ord q, Nat.le_of_eq bn_bs.symm⟩, fun _ q => hp (by rw [q]; decide)⟩
      · have c := no3_X4_setOrder l hl0 (g := g) (κ := κ) (μ := ν) (ω := ω) (gb := μ 1) (cb := cellsOf (μ 1)) h.n hlt hz h7
        rw [h.eqF] at c
        exact ⟨κ, μ, -3, he_setOrder_ISE l (by decide) c, op_no h (by decide), ⟨fun q => q, Nat.le_refl _⟩, fun _ => by decide⟩
    · have c := no2_X4_setOrder l hl0 (g := g) (κ := κ) (μ := ν) (ω := ω) (gb := μ 1) (cb := cellsOf (μ 1)) h.n hlt hz
      rw [h.eqF] at c
      exact ⟨κ, μ, -2, he_setOrder_IAE l (by decide) c, op_no h (by decide), ⟨fun q => q, Nat.le_refl _⟩, fun _ => by decide⟩
theorem op_rally (l : Launch) (hl0 : l.stackTraces = false) {g : zG} {κ : zKp} {μ ν : zMu} {ω : zOm} (h : RR κ μ) (x : Int32) : ∃ (κ' : zKp) (μ' : zMu) (r : Int32), zMW l g yL_rally cL_rally 3 hh_rally 20 1 [.ref (gA g 0 0 0), .int x] κ ν ω κ' ν ω r ∧ OpR μ κ' μ' r ∧ OpD μ μ' ∧ ((0 ≤ x ∧ x ≤ μ 1 0 - 1) → ¬ r = -1) := by
  obtain ⟨k0, d, hk, hd8, hw, hd, hm, ho⟩ := h.hs
  rcases num_c h.bI x with ⟨h1, h2⟩ | ⟨i, hlt, rfl, -, -, hL⟩
  · have c := no1_X4_rally l hl0 (g := g) (κ := κ) (μ := ν) (ω := ω) (gb := μ 1) (cb := cellsOf (μ 1)) h1
    rw [h.eqF] at c
    exact ⟨κ, μ, -1, he_rally_IOE l (by decide) c, op_no h (by decide), ⟨fun q => q, Nat.le_refl _⟩, fun q => absurd q h2⟩
  · by_cases h7 : bf (μ 1) i 7 = 1
    · rcases gl_jar (i := i) h.bI with ⟨j1, j2⟩ | ⟨j1, j2, j3⟩
      · have c := no3_X4_rally l hl0 (g := g) (κ := κ) (μ := ν) (ω := ω) (gb := μ 1) (cb := cellsOf (μ 1)) h.n hlt h7 j1
        rw [h.eqF] at c
        exact ⟨κ, μ, -3, he_rally_UOE l (by decide) c, op_no h (by decide), ⟨fun q => q, Nat.le_refl _⟩, fun _ => by decide⟩
      · have c := ok_X4_rally l (g := g) (κ := κ) (μ := ν) (ω := ω) hk hw hd hd8 h.ch0 h.ba.1 h.ba.2.2 h.n hlt h7 j1
        rw [← cells_ral (g := μ 1) (i := i) (n2_q h7)] at c
        have hI := batI_ral h.bI hlt (n2_q h7) j3
        have hp : ¬ bf (ralB (μ 1) i) i 5 < 0 := by
          obtain ⟨a, ha, ea⟩ := (hI.1.2.2.1 i (by rw [bn_ral]; exact hlt)).2.2.2.2.2.1
          rw [ea]; exact nI_pos (by omega)
        exact ⟨_, _, _, hk_rally l (by decide) c, op_push h hI hk hd8 hm ho hp, ⟨fun q => rou_ral q, Nat.le_of_eq bn_ral.symm⟩, fun _ q => hp (by rw [q]; decide)⟩
    · have c := no2_X4_rally l hl0 (g := g) (κ := κ) (μ := ν) (ω := ω) (gb := μ 1) (cb := cellsOf (μ 1)) h.n hlt h7
      rw [h.eqF] at c
      exact ⟨κ, μ, -2, he_rally_ISE l (by decide) c, op_no h (by decide), ⟨fun q => q, Nat.le_refl _⟩, fun _ => by decide⟩
theorem op_turn (l : Launch) {g : zG} {κ : zKp} {μ ν : zMu} {ω : zOm} (h : RR κ μ) : ∃ (κ' : zKp) (μ' : zMu) (r : Int32), zM l g yX4_turn cX4_turn 1 (some .int) 7 0 [.ref (gA g 0 0 0)] κ ν ω κ' ν ω (some (.int r)) ∧ OpR μ κ' μ' r ∧ OpD μ μ' ∧ ¬ r = -1 := by
  obtain ⟨k0, d, hk, hd8, hw, hd, hm, ho⟩ := h.hs
  have h12 := h.n.1
  obtain ⟨a, ha, ea⟩ := pass_2 (g := μ 1)
  have er : passB (μ 1) 2 - μ 1 2 = nI a := by rw [ea, Int32.add_comm]; exact Int32.add_sub_cancel _ _
  have c := ok_X4_turn l (g := g) (κ := κ) (μ := ν) (ω := ω) hk hw hd hd8 h.ch0 h.ba.1 h.ba.2.2 h.bI rfl
  rw [er] at c
  exact ⟨_, _, _, c, op_push h (batI_pass h.bI) hk hd8 hm ho (nI_pos (by omega)), ⟨fun q => rou_pass h.bI q, Nat.le_of_eq bn_passB.symm⟩, nI_ne_m1 (by omega)⟩
theorem op_executes (l : Launch) (hl0 : l.stackTraces = false) {g : zG} {κ : zKp} {μ ν : zMu} {ω : zOm} (h : RR κ μ) : ∃ (κ' : zKp) (μ' : zMu) (r : Int32), zMW l g yL_executes cL_executes 2 hh_executes 20 1 [.ref (gA g 0 0 0)] κ ν ω κ' ν ω r ∧ RR κ' μ' ∧ μ' 0 4 = nI 0 ∧ ((r < 0 ∧ μ' 1 = μ 1 ∧ ∀ L, preH μ L → preH μ' L) ∨ (¬ r < 0 ∧ ∀ L, L.length < 8 → preH μ L → preH μ' (μ 1 :: L))) := by
  obtain ⟨e3, n0, hn, k2, m4, hy⟩ := h.tx
  obtain ⟨k0, d, hk, hd8, hw, hd, hm, ho⟩ := h.hs
  obtain ⟨K, hg, hend⟩ := seq_K (μ 7) n0
  have hE : ∀ j, j ≤ K → enC (μ 7) n0 (stB (μ 7) n0 j) < 100000 := fun j hj => by
    have h1 := (enC_b (y := μ 7) (n0 := n0) (stB_b j (fun w hw => hg w (by omega))).2).1
    omega
  have hK60 : ∀ j, j ≤ K → j < 100000 - 1 := fun j hj => by
    have h1 := (stB_b (y := μ 7) (n0 := n0) j (fun w hw => hg w (by omega))).1
    have h2 := (stB_b (y := μ 7) (n0 := n0) j (fun w hw => hg w (by omega))).2
    omega
  have hK := hK60 K (Nat.le_refl _)
  rcases hend with hend | hend
  · obtain ⟨bt, hb0, hbt | ⟨J, hJ, hbt, hno⟩⟩ := run_ex (μ 7) n0 (μ 1) K
    · have hbI := run_I (by rw [hb0]; exact h.bI) hbt (K + 1) (Nat.le_refl _)
      have c := ok_X4_execute l (g := g) (κ := κ) (μ := ν) (ω := ω) (x := κ 2 0) (y := μ 7) rfl e3 k2 hn hy hg h.ba.1 h.ba.2.2 h.bI h.ch0 hb0 hend hbt hk hw hd hd8
      exact ⟨_, _, _, hk_executes l (by decide) c, h.exec (C := fun _ => 0) (a' := upd (upd (μ 0) 4 (nI 0)) 1 (nI (mor d))) hbI hk hd8 ho rfl rfl rfl rfl rfl rfl rfl, rfl, Or.inr ⟨nI_pos (by omega), fun L hL hp => hp.push hm hd8 hL rfl (fun r h1 _ => (zRm_o (by omega)).trans (zRm_o (by omega)))⟩⟩
    · have c := no2_X4_execute l hl0 (g := g) (κ := κ) (μ := ν) (ω := ω) (x := κ 2 0) (y := μ 7) rfl e3 k2 hn hy hg h.ba.1 h.ba.2.2 h.bI h.ch0 hb0 hend hJ hbt hno
      have hJ2 := hK60 J hJ
      exact ⟨_, _, _, he_executes_ISE l (by decide) c, h.execF (C := fun _ => 0) (J := J) (a' := upd (upd (μ 0) 4 (nI 0)) 8 (nI J)) (by omega) rfl rfl rfl rfl rfl rfl rfl, rfl, Or.inl ⟨by decide, rfl, fun L hp => hp.keep rfl (fun r h1 _ => (zN_o (by omega)).trans ((zRm_o (by omega)).trans (zRm_o (by omega))))⟩⟩
  · have c := no1_X4_execute l hl0 (g := g) (κ := κ) (μ := ν) (ω := ω) (x := κ 2 0) (y := μ 7) rfl e3 k2 hn hy hg hend
    exact ⟨_, _, _, he_executes_IAE l (by decide) c, h.execM (C := fun _ => 0) (a' := upd (upd (μ 0) 4 (nI 0)) 7 (nI (enC (μ 7) n0 (stB (μ 7) n0 K)))) (hE K (Nat.le_refl _)) rfl rfl rfl rfl rfl rfl rfl, rfl, Or.inl ⟨by decide, rfl, fun L hp => hp.keep rfl (fun r h1 _ => (zN_o (by omega)).trans (zRm_o (by omega)))⟩⟩
theorem op_undo (l : Launch) {g : zG} {κ : zKp} {μ ν : zMu} {ω : zOm} (h : RR κ μ) {b : zB} {L : List zB} (hp : preH μ (b :: L)) : ∃ (κ' : zKp) (μ' : zMu) (r : Int32), zMW l g yL_undo cL_undo 2 hh_undo 20 1 [.ref (gA g 0 0 0)] κ ν ω κ' ν ω r ∧ ¬ r < 0 ∧ RR κ' μ' ∧ μ' 1 = b ∧ preH μ' L := by
  obtain ⟨k0, d, hk, hd8, hw, hd, hm, ho⟩ := h.hs
  obtain ⟨d0, p1, p2, p3, p4⟩ := hp
  have e0 : d0 = d := nI_inj2 (by omega) (by omega) (p1.symm.trans hm)
  subst e0
  have p3' : L.length + 1 ≤ d0 := p3
  obtain ⟨e, rfl⟩ : ∃ e, d0 = e + 1 := ⟨d0 - 1, by omega⟩
  obtain ⟨q1, q2, q3⟩ := ho 0 (by omega)
  rw [show (k0 + 8 - 0) % 8 = k0 by omega] at q1
  have c := ok_X4_undo l (g := g) (κ := κ) (μ := ν) (ω := ω) hk hw hd (by omega) (chL (by omega) h.ch (by rw [q1]; exact q2))
  have hb : μ (10 + e) = b := p4 0 (Nat.succ_pos _)
  refine ⟨_, _, _, hk_undo l (by decide) c, nI_pos (by omega), h.undo hk (by omega) ho, hb, ⟨e, rfl, by omega, by omega, fun j hj => ?_⟩⟩
  rw [zN_o (by omega)]
  have q := p4 (j + 1) (Nat.succ_lt_succ hj)
  rw [show e + 1 - 1 - (j + 1) = e - 1 - j by omega] at q
  exact q
/-- typing -/
theorem op_type (l : Launch) {g : zG} {κ : zKp} {μ ν : zMu} {ω : zOm} (h : RR κ μ) {n0 b : Nat} (hm : μ 0 4 = nI n0) (hn : n0 < 60) (hb : 32 ≤ b ∧ b < 127) : ∃ (κ' : zKp) (μ' : zMu), zMW l g yL_type cL_type 3 hh_type 20 1 [.ref (gA g 0 0 0), .int (nI b)] κ ν ω κ' ν ω (nI (n0 + 1)) ∧ RR κ' μ' ∧ μ' 0 4 = nI (n0 + 1) ∧ μ' 1 = μ 1 ∧ ∀ L, preH μ L → preH μ' L := by
  obtain ⟨e3, n1, hn1, k2, m4, hy⟩ := h.tx
  have e0 : n1 = n0 := nI_inj2 (by omega) (by omega) (m4.symm.trans hm)
  subst e0
  have hv : vp_nar .char (nI b) = nI b := vp_of (pk_charN (by omega)).1
  have c := ok_X4_type l (g := g) (κ := κ) (μ := ν) (ω := ω) (x := κ 2 0) (y := κ 3 0) hn k2 hv ⟨le_i (a := 32) hb.1 (by omega), le_i (b := 126) (by omega) (by decide)⟩
  rw [e3] at c
  have eT : zT κ (κ 2 0) (μ 7) = κ := by
    funext t f
    unfold zT
    by_cases q : t = 2 ∧ f = 0
    · rw [if_pos q, q.1, q.2]
    · rw [if_neg q]
      by_cases q3 : t = 3 ∧ f = 0
      · rw [if_pos q3, q3.1, q3.2]; exact e3.symm
      · rw [if_neg q3]
  rw [eT] at c
  exact ⟨_, _, hk_type l (by decide) c, h.type hn hy hb, rfl, rfl, fun L hp => hp.keep rfl (fun r h1 _ => (zN_o (by omega)).trans (zRm_o (by omega)))⟩
end ZOP
