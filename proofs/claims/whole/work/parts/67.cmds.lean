section ZCM
/-- only the number thrown, the reference's own copies and its list of commands differ -/
theorem RR.side {κ : zKp} {μ μ' : zMu} (h : RR κ μ) (m1 : μ' 1 = μ 1) (m0 : ∀ q, q = 0 ∨ q = 1 ∨ q = 3 ∨ q = 4 ∨ q = 7 ∨ q = 8 → μ' 0 q = μ 0 q) (mr : ∀ r, r = 4 ∨ r = 6 ∨ r = 7 ∨ (10 ≤ r ∧ r < 18) → μ' r = μ r) : RR κ μ' :=
  ⟨by unfold baP; rw [m1]; exact h.ba, h.ch, h.sv.keep rfl rfl rfl (m0 0 (by omega)) (mr 4 (by omega)), h.hs.keep rfl (fun _ _ => rfl) (fun _ _ => rfl) (m0 1 (by omega)) (fun r h1 h2 => mr r (by omega)), h.wr.keep rfl rfl (mr 6 (by omega)) (m0 3 (by omega)), h.tx.keep rfl rfl (mr 7 (by omega)) (m0 4 (by omega)), h.er.keep rfl rfl (m0 7 (by omega)) (m0 8 (by omega))⟩
theorem RR.thr2 {κ : zKp} {μ : zMu} (h : RR κ μ) (v : Int32) : RR κ (zN (zRm μ 2 (μ 1)) (upd (upd (μ 0) 2 0) 2 v) (μ 1)) :=
  h.side rfl (fun q hq => by
    show (if q = 2 then v else if q = 2 then 0 else μ 0 q) = μ 0 q
    rw [if_neg (by omega), if_neg (by omega)]) (fun r hr => (zN_o (by omega)).trans (zRm_o (by omega)))
theorem sm_addLine (l : Launch) (hl0 : l.stackTraces = false) {g : zG} {κ : zKp} {μ : zMu} {ω : zOm} (h : RR κ μ) (x y z v : Int32) : Sim l g yL_addLine cL_addLine 7 hh_addLine [.ref (gA g 0 0 0), .int x, .int y, .int z, .int v, .ref (gA g 19 0 0)] yX5_addLine cX5_addLine 5 (some .int) [.ref (gA g 10 0 0), .int x, .int y, .int z, .int v] κ μ ω Int32.toInt64 := by
  obtain ⟨k0, d, hk, hd8, hw, hd, hm, ho⟩ := h.hs
  rcases add_c h.bI x y z v with ⟨nf, nA⟩ | ⟨u, a, hu, ha, rfl, rfl, hF, hA, ⟨e1, e2⟩ | ⟨e1, e2, ⟨j, hj⟩, e3⟩ | ⟨e1, e2, ho', e3⟩⟩
  · have c := no1_X4_addLine l hl0 (g := g) (κ := κ) (μ := μ) (ω := ω) (gb := μ 1) (cb := cellsOf (μ 1)) nA
    rw [h.eqF] at c
    exact sim_nx (k := 1) (h.thr2 1) (by decide) (by decide) rfl (he_addLine_IAE l (by decide) c) (no1_addLine l nf)
  · have c := no2_X4_addLine l hl0 (g := g) (κ := κ) (μ := μ) (ω := ω) (gb := μ 1) (cb := cellsOf (μ 1)) hA h.n e1
    rw [h.eqF] at c
    exact sim_nx (k := 2) (h.thr2 2) (by decide) (by decide) rfl (he_addLine_ISE l (by decide) c) (no2_addLine l hF e2)
  · have c := no3_X4_addLine l hl0 (g := g) (κ := κ) (μ := μ) (ω := ω) (gb := μ 1) (cb := cellsOf (μ 1)) hA h.n hu rfl e1 hj
    rw [h.eqF] at c
    exact sim_nx (k := 3) (h.thr2 3) (by decide) (by decide) rfl (he_addLine_UOE l (by decide) c) (no3_addLine l hF h.n e2 e3)
  · have c := ok_X4_addLine l (g := g) (κ := κ) (μ := μ) (ω := ω) hk hw hd hd8 h.ch0 h.ba.1 h.ba.2.2 hA h.n hu ha rfl e1 ho'
    rw [← cells_add h.bI e1 hF hu ha e3] at c
    exact sim_go (h.push (batI_add h.bI e1 hF e3) hk hd8 ho) (by decide) rfl rfl (hk_addLine l (by decide) c) (fun _ => ok_X5_addLine l hF h.n e1 e3 hd8 hm)
theorem sm_setOrder (l : Launch) (hl0 : l.stackTraces = false) {g : zG} {κ : zKp} {μ : zMu} {ω : zOm} (h : RR κ μ) (x z : Int32) : Sim l g yL_setOrder cL_setOrder 5 hh_setOrder [.ref (gA g 0 0 0), .int x, .int z, .ref (gA g 19 0 0)] yX5_setOrder cX5_setOrder 4 (some .char) [.ref (gA g 10 0 0), .int x, .int z] κ μ ω Int32.toInt64 := by
  obtain ⟨k0, d, hk, hd8, hw, hd, hm, ho⟩ := h.hs
  rcases num_c h.bI x with ⟨h1, h2⟩ | ⟨i, hlt, rfl, -, -, hL⟩
  · have c := no1_X4_setOrder l hl0 (g := g) (κ := κ) (μ := μ) (ω := ω) (gb := μ 1) (cb := cellsOf (μ 1)) h1 (z := z)
    rw [h.eqF] at c
    exact sim_nx (k := 1) (h.thr2 1) (by decide) (by decide) rfl (he_setOrder_IOE l (by decide) c) (no1_setOrder l h2)
  · by_cases hz : ordO z
    · by_cases h7 : bf (μ 1) i 7 = 0
      · have c := ok_X4_setOrder l (g := g) (κ := κ) (μ := μ) (ω := ω) hk hw hd hd8 h.ch0 h.ba.1 h.ba.2.2 h.n hlt hL hz h7
        rw [← cells_ord (g := μ 1) (i := i) (x := z)] at c
        exact sim_go (h.push (batI_6 h.bI hz) hk hd8 ho) (by decide) rfl rfl (hk_setOrder l (by decide) c) (fun _ => ok_X5_setOrder l h.n hlt hz h7 hL hd8 hm)
      · have c := no3_X4_setOrder l hl0 (g := g) (κ := κ) (μ := μ) (ω := ω) (gb := μ 1) (cb := cellsOf (μ 1)) h.n hlt hz h7
        rw [h.eqF] at c
        exact sim_nx (k := 3) (h.thr2 3) (by decide) (by decide) rfl (he_setOrder_ISE l (by decide) c) (no3_setOrder l h.n hlt hz h7)
    · have c := no2_X4_setOrder l hl0 (g := g) (κ := κ) (μ := μ) (ω := ω) (gb := μ 1) (cb := cellsOf (μ 1)) h.n hlt hz
      rw [h.eqF] at c
      exact sim_nx (k := 2) (h.thr2 2) (by decide) (by decide) rfl (he_setOrder_IAE l (by decide) c) (no2_setOrder l h.n hlt hz)
theorem sm_rally (l : Launch) (hl0 : l.stackTraces = false) {g : zG} {κ : zKp} {μ : zMu} {ω : zOm} (h : RR κ μ) (x : Int32) : Sim l g yL_rally cL_rally 4 hh_rally [.ref (gA g 0 0 0), .int x, .ref (gA g 19 0 0)] yX5_rally cX5_rally 2 (some .int) [.ref (gA g 10 0 0), .int x] κ μ ω Int32.toInt64 := by
  obtain ⟨k0, d, hk, hd8, hw, hd, hm, ho⟩ := h.hs
  rcases num_c h.bI x with ⟨h1, h2⟩ | ⟨i, hlt, rfl, -, -, hL⟩
  · have c := no1_X4_rally l hl0 (g := g) (κ := κ) (μ := μ) (ω := ω) (gb := μ 1) (cb := cellsOf (μ 1)) h1
    rw [h.eqF] at c
    exact sim_nx (k := 1) (h.thr2 1) (by decide) (by decide) rfl (he_rally_IOE l (by decide) c) (no1_rally l h2)
  · by_cases h7 : bf (μ 1) i 7 = 1
    · rcases gl_jar (i := i) h.bI with ⟨j1, j2⟩ | ⟨j1, j2, j3⟩
      · have c := no3_X4_rally l hl0 (g := g) (κ := κ) (μ := μ) (ω := ω) (gb := μ 1) (cb := cellsOf (μ 1)) h.n hlt h7 j1
        rw [h.eqF] at c
        exact sim_nx (k := 3) (h.thr2 3) (by decide) (by decide) rfl (he_rally_UOE l (by decide) c) (no3_rally l h.n hlt h7 hL j2)
      · have c := ok_X4_rally l (g := g) (κ := κ) (μ := μ) (ω := ω) hk hw hd hd8 h.ch0 h.ba.1 h.ba.2.2 h.n hlt h7 j1
        rw [← cells_ral (g := μ 1) (i := i) (n2_q h7)] at c
        exact sim_go (h.push (batI_ral h.bI hlt (n2_q h7) j3) hk hd8 ho) (by decide) rfl rfl (hk_rally l (by decide) c) (fun _ => ok_X5_rally l h.n hlt h7 hL j2 hd8 hm)
    · have c := no2_X4_rally l hl0 (g := g) (κ := κ) (μ := μ) (ω := ω) (gb := μ 1) (cb := cellsOf (μ 1)) h.n hlt h7
      rw [h.eqF] at c
      exact sim_nx (k := 2) (h.thr2 2) (by decide) (by decide) rfl (he_rally_ISE l (by decide) c) (no2_rally l h.n hlt h7)
/-- two calls that can't throw: the same answer -/
def SimB (l : Launch) (g : zG) (yX : MethodName) (cX : ByteArray) (nX1 : Nat) (retX : Option FieldType) (yM : MethodName) (cM : ByteArray) (nM : Nat) (retM : Option FieldType) (κ : zKp) (μ : zMu) (ω : zOm) : Prop :=
  ∃ (κ' : zKp) (μ' : zMu) (b : Int32) (lx lm : Nat), lx ≤ 19 ∧ lm ≤ 19 ∧ RR κ' μ' ∧ zM l g yX cX nX1 retX lx 0 [.ref (gA g 0 0 0)] κ μ ω κ' μ ω (some (.int b)) ∧ zM l g yM cM nM retM lm 0 [.ref (gA g 10 0 0)] κ' μ ω κ' μ' ω (some (.int b))
theorem sb_turn (l : Launch) {g : zG} {κ : zKp} {μ : zMu} {ω : zOm} (h : RR κ μ) : SimB l g yX4_turn cX4_turn 1 (some .int) yX5_turn cX5_turn 1 (some .int) κ μ ω := by
  obtain ⟨k0, d, hk, hd8, hw, hd, hm, ho⟩ := h.hs
  have c := ok_X5_turn l (g := g) (κ := zF (zKe κ k0 d) 0 (passB (μ 1)) (cellsOf (passB (μ 1)))) (μ := μ) (ω := ω) (a := μ 0) (b := μ 1) h.bI hd8 hm
  rw [zN_self] at c
  exact ⟨_, _, _, _, _, by decide, by decide, h.push (batI_pass h.bI) hk hd8 ho, ok_X4_turn l hk hw hd hd8 h.ch0 h.ba.1 h.ba.2.2 h.bI rfl, c⟩
theorem sb_lineCount (l : Launch) {g : zG} {κ : zKp} {μ : zMu} {ω : zOm} (h : RR κ μ) : SimB l g yX4_lineCount cX4_lineCount 1 (some .int) yX5_lineCount cX5_lineCount 1 (some .int) κ μ ω := by
  have c1 := ok_X4_lineCount l (g := g) (κ := κ) (μ := μ) (ω := ω) (gb := μ 1) (cb := cellsOf (μ 1))
  rw [h.eqF] at c1
  have c := ok_X5_lineCount l (g := g) (κ := κ) (μ := μ) (ω := ω) (a := μ 0) (b := μ 1)
  rw [zN_self] at c
  exact ⟨_, _, _, _, _, by decide, by decide, h.thr 0, c1, c⟩
theorem sb_fightCount (l : Launch) {g : zG} {κ : zKp} {μ : zMu} {ω : zOm} (h : RR κ μ) : SimB l g yX4_fightCount cX4_fightCount 1 (some .int) yX5_fightCount cX5_fightCount 1 (some .int) κ μ ω := by
  have c1 := ok_X4_fightCount l (g := g) (κ := κ) (μ := μ) (ω := ω) (gb := μ 1) (cb := cellsOf (μ 1))
  rw [h.eqF] at c1
  have c := ok_X5_fightCount l (g := g) (κ := κ) (μ := μ) (ω := ω) (a := μ 0) (b := μ 1)
  rw [zN_self] at c
  exact ⟨_, _, _, _, _, by decide, by decide, h.thr 0, c1, c⟩
theorem sb_turnCount (l : Launch) {g : zG} {κ : zKp} {μ : zMu} {ω : zOm} (h : RR κ μ) : SimB l g yX4_turnCount cX4_turnCount 1 (some .int) yX5_turnCount cX5_turnCount 1 (some .int) κ μ ω := by
  have c1 := ok_X4_turnCount l (g := g) (κ := κ) (μ := μ) (ω := ω) (gb := μ 1) (cb := cellsOf (μ 1))
  rw [h.eqF] at c1
  have c := ok_X5_turnCount l (g := g) (κ := κ) (μ := μ) (ω := ω) (a := μ 0) (b := μ 1)
  rw [zN_self] at c
  exact ⟨_, _, _, _, _, by decide, by decide, h.thr 0, c1, c⟩
theorem sb_isConsistent (l : Launch) {g : zG} {κ : zKp} {μ : zMu} {ω : zOm} (h : RR κ μ) : SimB l g yX4_isConsistent cX4_isConsistent 1 (some .boolean) yX5_isConsistent cX5_isConsistent 1 (some .boolean) κ μ ω := by
  have c1 := ok_X4_isConsistent l (g := g) (κ := κ) (μ := μ) (ω := ω) (gb := μ 1) (cb := cellsOf (μ 1)) h.bI rfl
  rw [h.eqF] at c1
  have c := ok_X5_isConsistent l (g := g) (κ := κ) (μ := μ) (ω := ω) (a := μ 0) (b := μ 1)
  rw [zN_self] at c
  exact ⟨_, _, _, _, _, by decide, by decide, h.thr 0, c1, c⟩
theorem RR.save {κ : zKp} {μ : zMu} (h : RR κ μ) : RR (zRow (zCp κ 1 0) 0 0 (upd ((zCp κ 1 0) 0 0) 1 1)) (zN (zRm μ 4 (μ 1)) (upd (upd (μ 0) 2 0) 0 1) (μ 1)) := by
  refine ⟨h.ba, h.ch.keep (fun f hf => ?_), Or.inr ⟨rfl, rfl, h.ba.1, h.bI, h.ba.2.2⟩, h.hs.keep rfl (fun q _ => ?_) (fun q _ => ?_) rfl (fun r h1 _ => ?_), h.wr.keep rfl rfl rfl rfl, h.tx.keep rfl rfl rfl rfl, h.er.keep rfl rfl rfl rfl⟩
  · by_cases hq : f = 1
    · subst hq
      exact ⟨0, by decide, rfl⟩
    · exact ⟨f, hf, (zRow_o (by omega)).trans (zCp_o hq)⟩
  · exact (zRow_o (by omega)).trans (zCp_o (by omega))
  · exact (zRow_o (by omega)).trans (zCp_o (by omega))
  · exact (zN_o (by omega)).trans (zRm_o (by omega))
theorem sb_save (l : Launch) {g : zG} {κ : zKp} {μ : zMu} {ω : zOm} (h : RR κ μ) : SimB l g yX4_save cX4_save 1 (some .int) yX5_save cX5_save 1 (some .int) κ μ ω := by
  have c1 := ok_X4_save l (g := g) (κ := κ) (μ := μ) (ω := ω) h.ch0
  rw [h.ba.1] at c1
  have c := ok_X5_save l (g := g) (κ := zRow (zCp κ 1 0) 0 0 (upd ((zCp κ 1 0) 0 0) 1 1)) (μ := μ) (ω := ω) (a := μ 0) (b := μ 1)
  rw [zN_self] at c
  exact ⟨_, _, _, _, _, by decide, by decide, h.save, c1, c⟩
theorem RR.restore {κ : zKp} {μ : zMu} (h : RR κ μ) (h1 : κ 0 0 1 = 1) (h2 : μ 0 0 = 1) (h3 : κ 6 1 = μ 4) (h4 : batI (μ 4)) (h5 : κ 8 1 = cellsOf (μ 4)) : RR (zRow (zCp κ 0 1) 4 0 (upd ((zCp κ 0 1) 4 0) 1 0)) (zN μ (upd (upd (μ 0) 2 0) 1 0) (μ 4)) := by
  obtain ⟨k0, d, hk, hd8, hw, hd, hm, ho⟩ := h.hs
  refine ⟨⟨h3, h4, h5⟩, h.ch.keep (fun f hf => ?_), Or.inr ⟨h1, h2, h3, h4, h5⟩, ⟨k0, 0, hk, by decide, hw, rfl, rfl, fun j hj => absurd hj (Nat.not_lt_zero j)⟩, h.wr.keep rfl rfl rfl rfl, h.tx.keep rfl rfl rfl rfl, h.er.keep rfl rfl rfl rfl⟩
  by_cases hq : f = 0
  · subst hq
    exact ⟨1, by decide, rfl⟩
  · exact ⟨f, hf, (zRow_o (by omega)).trans (zCp_o hq)⟩
theorem sm_restore (l : Launch) (hl0 : l.stackTraces = false) {g : zG} {κ : zKp} {μ : zMu} {ω : zOm} (h : RR κ μ) : Sim l g yL_restore cL_restore 3 hh_restore [.ref (gA g 0 0 0), .ref (gA g 19 0 0)] yX5_restore cX5_restore 1 (some .int) [.ref (gA g 10 0 0)] κ μ ω Int32.toInt64 := by
  rcases h.sv with ⟨h1, h2⟩ | ⟨h1, h2, h3, h4, h5⟩
  · have c := no_X4_restore l hl0 (g := g) (κ := κ) (μ := μ) (ω := ω) h1
    exact sim_no h (by decide) (by decide) (he_restore_ISE l (by decide) c) (no_X5_restore l h2)
  · have c := ok_X4_restore l (g := g) (κ := κ) (μ := μ) (ω := ω) h1 (chL (by decide) h.ch (by rw [h3]; exact h4))
    rw [h3] at c
    exact sim_go (h.restore h1 h2 h3 h4 h5) (by decide) rfl rfl (hk_restore l (by decide) c) (fun _ => ok_X5_restore l h2)
theorem RR.undo {κ : zKp} {μ : zMu} (h : RR κ μ) {k0 d : Nat} (hk : k0 < 8) (hd8 : d < 8) (ho : hsO κ μ k0 (d + 1)) : RR (zHi (zCp κ 0 (3 + k0)) (nI ((k0 + 7) % 8)) (nI d)) (zN μ (upd (upd (μ 0) 2 0) 1 (nI d)) (μ (10 + d))) := by
  obtain ⟨q1, q2, q3⟩ := ho 0 (by omega)
  rw [show (k0 + 8 - 0) % 8 = k0 by omega, show d + 1 - 1 - 0 = d by omega] at q1 q3
  rw [show d + 1 - 1 - 0 = d by omega] at q2
  refine ⟨⟨?_, q2, ?_⟩, h.ch.keep (fun f hf => ?_), h.sv.keep rfl rfl rfl rfl rfl, hsP.pop hk hd8 ho ?_ ?_ rfl (fun q _ => ?_) (fun q _ => ?_) (fun r h1 _ => zN_o (by omega)), h.wr.keep rfl rfl rfl rfl, h.tx.keep rfl rfl rfl rfl, h.er.keep rfl rfl rfl rfl⟩
  · exact ((zHi_6 (by decide)).trans (zCp_s (by decide))).trans q1
  · exact ((zHi_6 (by decide)).trans (zCp_s (by decide))).trans q3
  · by_cases hq : f = 0
    · subst hq
      exact ⟨3 + k0, by omega, (zHi_6 (by decide)).trans (zCp_s (by decide))⟩
    · exact ⟨f, hf, (zHi_6 (by decide)).trans (zCp_o hq)⟩
  · rfl
  · rfl
  · exact (zHi_6 (by decide)).trans (zCp_o (by omega))
  · exact (zHi_6 (by decide)).trans (zCp_o (by omega))
theorem sm_undo (l : Launch) (hl0 : l.stackTraces = false) {g : zG} {κ : zKp} {μ : zMu} {ω : zOm} (h : RR κ μ) : Sim l g yL_undo cL_undo 3 hh_undo [.ref (gA g 0 0 0), .ref (gA g 19 0 0)] yX5_undo cX5_undo 1 (some .int) [.ref (gA g 10 0 0)] κ μ ω Int32.toInt64 := by
  obtain ⟨k0, d, hk, hd8, hw, hd, hm, ho⟩ := h.hs
  cases d with
  | zero =>
    have c := no_X4_undo l hl0 (g := g) (κ := κ) (μ := μ) (ω := ω) hk hw hd
    exact sim_no h (by decide) (by decide) (he_undo_ISE l (by decide) c) (no_X5_undo l hm)
  | succ d =>
    obtain ⟨q1, q2, q3⟩ := ho 0 (by omega)
    rw [show (k0 + 8 - 0) % 8 = k0 by omega] at q1
    have c := ok_X4_undo l (g := g) (κ := κ) (μ := μ) (ω := ω) hk hw hd (by omega) (chL (by omega) h.ch (by rw [q1]; exact q2))
    exact sim_go (h.undo hk (by omega) ho) (by decide) rfl rfl (hk_undo l (by decide) c) (fun _ => ok_X5_undo l (by omega) hm)
end ZCM
