section ZCX
theorem sim_ex {l : Launch} {g : zG} {yH : MethodName} {cH : ByteArray} {nH : Nat} {hh : List (Nat × Nat × Nat × Nat)} {AsH : List Value} {yM : MethodName} {cM : ByteArray} {nM : Nat} {retM : Option FieldType} {AsM : List Value} {κ κ' : zKp} {μ : zMu} {ω ω' : zOm} {cv : Int32 → Int64} {kc b : Int32} {lv : Nat} (M : (Nat → Int32) → zMu) (hlv : lv ≤ 19) (hW : zMW l g yH cH nH hh 20 1 AsH κ μ ω κ' μ ω' kc) (hR : ∀ C, RR κ' (M C)) (hM : ∃ C, zM l g yM cM nM retM lv 0 AsM κ' μ ω' κ' (M C) ω' (some (.int b))) (h2 : ∀ C, M C 0 2 = kc) (hv : kc = 0 → ω'.1 = cv b) : Sim l g yH cH nH hh AsH yM cM nM retM AsM κ μ ω cv := by
  obtain ⟨C, c⟩ := hM
  exact ⟨κ', M C, ω', kc, b, lv, hlv, hR C, hW, c, h2 C, hv⟩
set_option maxHeartbeats 400000 in
theorem sm_execute (l : Launch) (hl0 : l.stackTraces = false) {g : zG} {κ : zKp} {μ : zMu} {ω : zOm} (h : RR κ μ) : Sim l g yL_execute cL_execute 3 hh_execute [.ref (gA g 0 0 0), .ref (gA g 19 0 0)] yX5_execute cX5_execute 2 (some .int) [.ref (gA g 10 0 0)] κ μ ω Int32.toInt64 := by
  obtain ⟨e3, n0, hn, k2, m4, hy⟩ := h.tx
  obtain ⟨k0, d, hk, hd8, hw, hd, hm, ho⟩ := h.hs
  obtain ⟨K, hg, hend⟩ := seq_K (μ 7) n0
  have hE : ∀ j, j ≤ K → enC (μ 7) n0 (stB (μ 7) n0 j) < 100000 := fun j hj => by
    have h1 := (enC_b (y := μ 7) (n0 := n0) (stB_b j (fun w hw => hg w (by omega))).2).1
    omega
  have hK60 : ∀ j, j ≤ K → j < 100000 := fun j hj => by
    have h1 := (stB_b (y := μ 7) (n0 := n0) j (fun w hw => hg w (by omega))).1
    have h2 := (stB_b (y := μ 7) (n0 := n0) j (fun w hw => hg w (by omega))).2
    omega
  rcases hend with hend | hend
  · obtain ⟨bt, hb0, hbt | ⟨J, hJ, hbt, hno⟩⟩ := run_ex (μ 7) n0 (μ 1) K
    · have hbI := run_I (by rw [hb0]; exact h.bI) hbt (K + 1) (Nat.le_refl _)
      have key : ∀ (κ' : zKp) (w : zOm), ∃ C : Nat → Int32, zM l g yX5_execute cX5_execute 2 (some .int) 10 0 [.ref (gA g 10 0 0)] κ' μ w κ' (zN (zPu (zRm (zRm μ 8 C) 2 (μ 1)) d (μ 1)) (upd (rT (upd (upd (μ 0) 4 0) 2 0) (enC (μ 7) n0 (stB (μ 7) n0 K)) 0 (K + 1)) 1 (nI (mor d))) (bt (K + 1))) w (some (.int (nI (K + 1)))) := fun κ' w => by
        obtain ⟨Cs, hc0, hs⟩ := seqC l (g := g) (κ := κ') (μ := μ) (ω := w) (a := μ 0) (b := μ 1) (y := μ 7) rfl hn m4 hg
        have c3 := rx_ok l (g := g) (κ := κ') (μ := μ) (ω := w) (a := μ 0) (b := μ 1) (y := μ 7) rfl hn m4 hy hg hc0 hs hend h.bI hb0 hbt hd8 hm
        rw [zN_self] at c3
        exact ⟨Cs (K + 1), c3⟩
      have c := ok_X4_execute l (g := g) (κ := κ) (μ := μ) (ω := ω) (x := κ 2 0) (y := μ 7) rfl e3 k2 hn hy hg h.ba.1 h.ba.2.2 h.bI h.ch0 hb0 hend hbt hk hw hd hd8
      exact sim_ex (fun C => zN (zPu (zRm (zRm μ 8 C) 2 (μ 1)) d (μ 1)) (upd (rT (upd (upd (μ 0) 4 0) 2 0) (enC (μ 7) n0 (stB (μ 7) n0 K)) 0 (K + 1)) 1 (nI (mor d))) (bt (K + 1))) (by decide) (hk_execute l (by decide) c) (fun C => h.exec hbI hk hd8 ho rfl rfl rfl rfl rfl rfl rfl) (key _ _) (fun C => rfl) (fun _ => rfl)
    · have key : ∀ (κ' : zKp) (w : zOm), ∃ C : Nat → Int32, zM l g yX5_execute cX5_execute 2 (some .int) 10 0 [.ref (gA g 10 0 0)] κ' μ w κ' (zN (zRm (zRm μ 8 C) 2 (μ 1)) (upd (upd (rT (upd (upd (μ 0) 4 0) 2 0) (enC (μ 7) n0 (stB (μ 7) n0 K)) 0 (K + 1)) 8 (nI J)) 2 2) (μ 1)) w (some (.int 0)) := fun κ' w => by
        obtain ⟨Cs, hc0, hs⟩ := seqC l (g := g) (κ := κ') (μ := μ) (ω := w) (a := μ 0) (b := μ 1) (y := μ 7) rfl hn m4 hg
        have c3 := rx_no l (g := g) (κ := κ') (μ := μ) (ω := w) (a := μ 0) (b := μ 1) (y := μ 7) rfl hn m4 hy hg hc0 hs hend h.bI hb0 hJ hbt hno
        rw [zN_self] at c3
        exact ⟨Cs (K + 1), c3⟩
      have c := no2_X4_execute l hl0 (g := g) (κ := κ) (μ := μ) (ω := ω) (x := κ 2 0) (y := μ 7) rfl e3 k2 hn hy hg h.ba.1 h.ba.2.2 h.bI h.ch0 hb0 hend hJ hbt hno
      exact sim_ex (fun C => zN (zRm (zRm μ 8 C) 2 (μ 1)) (upd (upd (rT (upd (upd (μ 0) 4 0) 2 0) (enC (μ 7) n0 (stB (μ 7) n0 K)) 0 (K + 1)) 8 (nI J)) 2 2) (μ 1)) (by decide) (he_execute_ISE l (by decide) c) (fun C => h.execF (hK60 J hJ) rfl rfl rfl rfl rfl rfl rfl) (key _ _) (fun C => rfl) (fun q => absurd q (by decide))
  · have key : ∀ (κ' : zKp) (w : zOm), ∃ C : Nat → Int32, zM l g yX5_execute cX5_execute 2 (some .int) 10 0 [.ref (gA g 10 0 0)] κ' μ w κ' (zN (zRm μ 8 C) (upd (rT (upd (upd (μ 0) 7 (nI (enC (μ 7) n0 (stB (μ 7) n0 K)))) 4 0) (enC (μ 7) n0 (stB (μ 7) n0 K)) 1 (K + 1)) 2 1) (μ 1)) w (some (.int 0)) := fun κ' w => by
      obtain ⟨Cs, hc0, hs⟩ := seqC l (g := g) (κ := κ') (μ := μ) (ω := w) (a := μ 0) (b := μ 1) (y := μ 7) rfl hn m4 hg
      rcases hend with hb | ⟨hb1, hb2, hb3⟩
      · have c3 := rx_b1 l (g := g) (κ := κ') (μ := μ) (ω := w) (a := μ 0) (b := μ 1) (y := μ 7) rfl hn m4 hy hg hc0 hs hb
        rw [zN_self] at c3
        exact ⟨Cs (K + 1), c3⟩
      · have c3 := rx_b2 l (g := g) (κ := κ') (μ := μ) (ω := w) (a := μ 0) (b := μ 1) (y := μ 7) rfl hn m4 hy hg hc0 hs hb1 hb2 hb3
        rw [zN_self] at c3
        exact ⟨Cs (K + 1), c3⟩
    have c := no1_X4_execute l hl0 (g := g) (κ := κ) (μ := μ) (ω := ω) (x := κ 2 0) (y := μ 7) rfl e3 k2 hn hy hg hend
    exact sim_ex (fun C => zN (zRm μ 8 C) (upd (rT (upd (upd (μ 0) 7 (nI (enC (μ 7) n0 (stB (μ 7) n0 K)))) 4 0) (enC (μ 7) n0 (stB (μ 7) n0 K)) 1 (K + 1)) 2 1) (μ 1)) (by decide) (he_execute_IAE l (by decide) c) (fun C => h.execM (hE K (Nat.le_refl _)) rfl rfl rfl rfl rfl rfl rfl) (key _ _) (fun C => rfl) (fun q => absurd q (by decide))
end ZCX
