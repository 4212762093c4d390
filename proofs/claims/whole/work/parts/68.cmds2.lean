section ZCN
theorem ln_ch {g : zB} (hI : batI g) {a : Nat} (ha : a < 3) {W0 : Nat → Int32} : ∀ k, k ≤ 10 → ∀ q, q < (lnS g a W0 k).1 → ∃ b : Nat, b < 127 ∧ (lnS g a W0 k).2 q = nI b
  | 0, _, q, hq => absurd hq (Nat.not_lt_zero q)
  | k + 1, hk, q, hq => by
    have ih := ln_ch hI ha (W0 := W0) k (by omega)
    have hin : inCol (nI k) := ⟨ge_i (by omega), le_i (b := 9) (by omega) (by decide)⟩
    have h12 := hI.1.1.1
    rcases occ_c hI.1.1 (x := nI a) (y := nI k) ⟨a, ha, rfl⟩ hin with ⟨-, e⟩ | ⟨j, hj, -, e⟩
    · rw [ln_n (by rw [e]; decide)] at hq ⊢
      have hq2 : q < (lnS g a W0 k).1 + 1 := hq
      show ∃ b : Nat, b < 127 ∧ (if q = (lnS g a W0 k).1 then 46 else (lnS g a W0 k).2 q) = nI b
      by_cases h1 : q = (lnS g a W0 k).1
      · rw [if_pos h1]; exact ⟨46, by decide, rfl⟩
      · rw [if_neg h1]; exact ih q (by omega)
    · obtain ⟨b9, hb9, eb9⟩ := lt_of (hI.1.2.2.1 j hj)
      by_cases h7 : bf g j 7 = 1
      · rw [ln_r (by omega) e h7] at hq ⊢
        have hq2 : q < (lnS g a W0 k).1 + 1 + 1 := hq
        show ∃ b : Nat, b < 127 ∧ (if q = (lnS g a W0 k).1 + 1 then 33 else if q = (lnS g a W0 k).1 then ltB g j else (lnS g a W0 k).2 q) = nI b
        by_cases h2 : q = (lnS g a W0 k).1 + 1
        · rw [if_pos h2]; exact ⟨33, by decide, rfl⟩
        · rw [if_neg h2]
          by_cases h1 : q = (lnS g a W0 k).1
          · rw [if_pos h1]; exact ⟨b9, hb9, eb9⟩
          · rw [if_neg h1]; exact ih q (by omega)
      · rw [ln_s (by omega) e h7] at hq ⊢
        have hq2 : q < (lnS g a W0 k).1 + 1 := hq
        show ∃ b : Nat, b < 127 ∧ (if q = (lnS g a W0 k).1 then ltB g j else (lnS g a W0 k).2 q) = nI b
        by_cases h1 : q = (lnS g a W0 k).1
        · rw [if_pos h1]; exact ⟨b9, hb9, eb9⟩
        · rw [if_neg h1]; exact ih q (by omega)
theorem RR.write {κ : zKp} {μ : zMu} (h : RR κ μ) {n : Nat} {W : Nat → Int32} (hn : n ≤ 20) (hW : ∀ q, q < n → ∃ b : Nat, b < 127 ∧ W q = nI b) : RR (zWr κ n W) (zN (zRm μ 6 W) (upd (upd (μ 0) 2 0) 3 (nI n)) (μ 1)) := by
  have hk : ∀ {t f : Nat}, ¬ (t = 0 ∧ f = 0) → ¬ (t = 1 ∧ f = 0) → zWr κ n W t f = κ t f := fun {t f} h0 h1 => (zRow_o h1).trans (zRow_o h0)
  refine ⟨h.ba, h.ch.keep (fun f hf => ⟨f, hf, hk (by omega) (by omega)⟩), h.sv.keep rfl rfl rfl rfl rfl, h.hs.keep rfl (fun q _ => hk (by omega) (by omega)) (fun q _ => hk (by omega) (by omega)) rfl (fun r h1 _ => (zN_o (by omega)).trans (zRm_o (by omega))), ⟨rfl, n, hn, rfl, rfl, hW⟩, h.tx.keep rfl rfl rfl rfl, h.er.keep rfl rfl rfl rfl⟩
theorem sm_writeLane (l : Launch) (hl0 : l.stackTraces = false) {g : zG} {κ : zKp} {μ : zMu} {ω : zOm} (h : RR κ μ) (x : Int32) : Sim l g yL_writeLane cL_writeLane 4 hh_writeLane [.ref (gA g 0 0 0), .int x, .ref (gA g 19 0 0)] yX5_writeLane cX5_writeLane 4 (some .int) [.ref (gA g 10 0 0), .int x] κ μ ω Int32.toInt64 := by
  by_cases hx : 0 ≤ x ∧ x < 3
  · obtain ⟨a0, ha0, rfl⟩ := in3 hx
    have c := ok_X4_writeLane l (g := g) (κ := κ) (μ := μ) (ω := ω) h.ba.1 h.ba.2.2 h.bI rfl ha0
    rw [h.wr.1] at c
    exact sim_go (h.write (by have := ln_le (g := μ 1) (a := a0) (W0 := μ 6) 10; omega) (ln_ch h.bI ha0 10 (Nat.le_refl _))) (by decide) rfl rfl (hk_writeLane l (by decide) c) (fun _ => ok_X5_writeLane l h.bI ha0)
  · have c := no_X4_writeLane l hl0 (g := g) (κ := κ) (μ := μ) (ω := ω) hx
    exact sim_no h (by decide) (by decide) (he_writeLane_IOE l (by decide) c) (no_X5_writeLane l (fun q => hx (gl_lane.mpr q)))
theorem RR.type {κ : zKp} {μ : zMu} (h : RR κ μ) {n0 b : Nat} (hn : n0 < 60) (hy : txW (μ 7) n0) (hb : 32 ≤ b ∧ b < 127) : RR (zT κ (upd (κ 2 0) 0 (nI (n0 + 1))) (upd (μ 7) n0 (nI b))) (zN (zRm μ 7 (upd (μ 7) n0 (nI b))) (upd (upd (μ 0) 2 0) 4 (nI (n0 + 1))) (μ 1)) := by
  have hk : ∀ {t f : Nat}, ¬ (t = 2 ∧ f = 0) → ¬ (t = 3 ∧ f = 0) → zT κ (upd (κ 2 0) 0 (nI (n0 + 1))) (upd (μ 7) n0 (nI b)) t f = κ t f := fun {t f} h0 h1 => (if_neg h0).trans (if_neg h1)
  refine ⟨h.ba, h.ch.keep (fun f hf => ⟨f, hf, hk (by omega) (by omega)⟩), h.sv.keep rfl rfl rfl rfl rfl, h.hs.keep rfl (fun q _ => hk (by omega) (by omega)) (fun q _ => hk (by omega) (by omega)) rfl (fun r h1 _ => (zN_o (by omega)).trans (zRm_o (by omega))), h.wr.keep rfl rfl rfl rfl, ⟨rfl, n0 + 1, by omega, rfl, rfl, fun q hq => ?_⟩, h.er.keep rfl rfl rfl rfl⟩
  show ∃ b2 : Nat, 32 ≤ b2 ∧ b2 < 127 ∧ (if q = n0 then nI b else μ 7 q) = nI b2
  by_cases h1 : q = n0
  · rw [if_pos h1]; exact ⟨b, hb.1, hb.2, rfl⟩
  · rw [if_neg h1]; exact hy q (by omega)
theorem ch_of {v : Int32} (h : 32 ≤ v ∧ v ≤ 126) : ∃ b : Nat, 32 ≤ b ∧ b < 127 ∧ v = nI b := by
  have h0 : 0 ≤ v := Int32.le_trans (by decide) h.1
  have h2 : v < 127 := Int32.lt_of_le_of_lt h.2 (by decide)
  obtain ⟨b, hb, rfl⟩ := in_of (M := 127) (n := 127) rfl (by decide) h0 h2
  refine ⟨b, ?_, hb, rfl⟩
  by_cases q : 32 ≤ b
  · exact q
  · exact absurd h.1 (nle_i (a := b) (b := 32) (by omega) (by decide))
theorem sm_type (l : Launch) (hl0 : l.stackTraces = false) {g : zG} {κ : zKp} {μ : zMu} {ω : zOm} (h : RR κ μ) (v : Int32) : Sim l g yL_type cL_type 4 hh_type [.ref (gA g 0 0 0), .int v, .ref (gA g 19 0 0)] yX5_type cX5_type 2 (some .int) [.ref (gA g 10 0 0), .int v] κ μ ω Int32.toInt64 := by
  obtain ⟨e3, n0, hn, k2, m4, hy⟩ := h.tx
  by_cases hv : 32 ≤ v ∧ v ≤ 126
  · obtain ⟨b, h32, h127, rfl⟩ := ch_of hv
    by_cases h60 : n0 < 60
    · have hc : vp_nar .char (nI b) = nI b := vp_of (pk_charN (by omega)).1
      have c := ok_X4_type l (g := g) (κ := κ) (μ := μ) (ω := ω) (x := κ 2 0) (y := κ 3 0) h60 k2 hc hv
      rw [zT_self, e3] at c
      exact sim_go (h.type h60 hy ⟨h32, h127⟩) (by decide) rfl rfl (hk_type l (by decide) c) (fun _ => ok_X5_type l h60 m4 hc hv)
    · have e60 : n0 = 60 := by omega
      subst e60
      have c := no2_X4_type l hl0 (g := g) (κ := κ) (μ := μ) (ω := ω) (x := κ 2 0) (y := κ 3 0) k2 hv
      rw [zT_self] at c
      exact sim_no h (by decide) (by decide) (he_type_ISE l (by decide) c) (no2_X5_type l m4 hv)
  · have c := no1_X4_type l hl0 (g := g) (κ := κ) (μ := μ) (ω := ω) (x := κ 2 0) (y := κ 3 0) hv
    rw [zT_self] at c
    exact sim_no h (by decide) (by decide) (he_type_IAE l (by decide) c) (no1_X5_type l hv)
theorem RR.ah {κ : zKp} {μ : zMu} (h : RR κ μ) (k : Nat) (v : Int32) : RR (zAh κ (μ 1) (cellsOf (μ 1)) k) (zN (zRm μ 3 (μ 1)) (upd (μ 0) 2 v) (μ 1)) := by
  have hk : ∀ {t f : Nat}, ¬ f = 2 → zAh κ (μ 1) (cellsOf (μ 1)) k t f = κ t f := fun {t f} h0 => (zF_o (by omega)).trans (zCp_o h0)
  refine ⟨⟨(hk (by decide)).trans h.ba.1, h.bI, (hk (by decide)).trans h.ba.2.2⟩, h.ch.keep (fun f hf => ?_), h.sv.keep ?_ (hk (by decide)) (hk (by decide)) rfl rfl, h.hs.keep (hk (by decide)) (fun q _ => hk (by omega)) (fun q _ => hk (by omega)) rfl (fun r h1 _ => (zN_o (by omega)).trans (zRm_o (by omega))), h.wr.keep (hk (by decide)) ?_ rfl rfl, h.tx.keep (hk (by decide)) ?_ rfl rfl, h.er.keep ?_ ?_ rfl rfl⟩
  · by_cases hq : f = 2
    · subst hq
      exact ⟨0, by decide, (zF_o (by decide)).trans (zCp_s (by decide))⟩
    · exact ⟨f, hf, hk hq⟩
  · rw [hk (by decide)]
  · rw [hk (by decide)]
  · rw [hk (by decide)]
  · rw [hk (by decide)]
  · rw [hk (by decide)]
theorem sm_turnsUntilFight (l : Launch) (hl0 : l.stackTraces = false) {g : zG} {κ : zKp} {μ : zMu} {ω : zOm} (h : RR κ μ) : Sim l g yL_turnsUntilFight cL_turnsUntilFight 3 hh_turnsUntilFight [.ref (gA g 0 0 0), .ref (gA g 19 0 0)] yX5_turnsUntilFight cX5_turnsUntilFight 3 (some .int) [.ref (gA g 10 0 0)] κ μ ω Int32.toInt64 := by
  have hfi : ∀ j, ¬ 0 < fiB (μ 1) j → fiB (μ 1) j = 0 := fun j hj => (fi_or h.n.1 j).resolve_right hj
  rcases gl_dec (fun k => 0 < fiB (μ 1) k) 20 with hz | ⟨k, hk, hp, hz⟩
  · have c := no_X4_turnsUntilFight l hl0 (g := g) (κ := κ) (μ := μ) (ω := ω) h.ba.1 h.ba.2.2 h.bI rfl h.ch0 (fun j hj => hfi j (hz j hj))
    exact sim_nx (k := 1) (h.ah 20 1) (by decide) (by decide) rfl (he_turnsUntilFight_NSE l (by decide) c) (no_X5_turnsUntilFight l h.bI (fun j hj => hfi j (hz j hj)))
  · have c := ok_X4_turnsUntilFight l (g := g) (κ := κ) (μ := μ) (ω := ω) h.ba.1 h.ba.2.2 h.bI rfl h.ch0 hk (fun j hj => hfi j (hz j hj)) hp
    exact sim_go (h.ah (k + 1) 0) (by decide) rfl rfl (hk_turnsUntilFight l (by decide) c) (fun _ => ok_X5_turnsUntilFight l h.bI hk (fun j hj => hfi j (hz j hj)) hp)
/-- a list of commands comes to its end, or to the first that fails -/
theorem run_ex (y : Nat → Int32) (n0 : Nat) (b0 : zB) (K : Nat) : ∃ bt : Nat → zB, bt 0 = b0 ∧ (runB y n0 bt (K + 1) ∨ ∃ J, J ≤ K ∧ runB y n0 bt J ∧ perB (bt J) (comB y n0 (stB y n0 J) 0 0 0 0).2.2.1 (comB y n0 (stB y n0 J) 0 0 0 0).2.2.2.1 (comB y n0 (stB y n0 J) 0 0 0 0).2.2.2.2.1 (comB y n0 (stB y n0 J) 0 0 0 0).2.2.2.2.2.1 (comB y n0 (stB y n0 J) 0 0 0 0).2.2.2.2.2.2 = none) := by
  let st : Nat → zB → Option zB := fun j u => perB u (comB y n0 (stB y n0 j) 0 0 0 0).2.2.1 (comB y n0 (stB y n0 j) 0 0 0 0).2.2.2.1 (comB y n0 (stB y n0 j) 0 0 0 0).2.2.2.2.1 (comB y n0 (stB y n0 j) 0 0 0 0).2.2.2.2.2.1 (comB y n0 (stB y n0 j) 0 0 0 0).2.2.2.2.2.2
  let bt : Nat → zB := fun j => Nat.rec b0 (fun i u => (st i u).getD u) j
  have hst : ∀ j, ¬ st j (bt j) = none → st j (bt j) = some (bt (j + 1)) := fun j hj => by
    have e : bt (j + 1) = (st j (bt j)).getD (bt j) := rfl
    cases hq : st j (bt j) with
    | none => exact absurd hq hj
    | some z => rw [e, hq]; rfl
  refine ⟨bt, rfl, ?_⟩
  haveI : DecidablePred (fun j => st j (bt j) = none) := fun j => Classical.propDecidable _
  rcases gl_dec (fun j => st j (bt j) = none) (K + 1) with hz | ⟨J, hJ, hp, hz⟩
  · exact Or.inl (fun j hj => hst j (hz j hj))
  · exact Or.inr ⟨J, by omega, fun j hj => hst j (hz j hj), hp⟩
theorem RR.exec {κ : zKp} {μ : zMu} (h : RR κ μ) {nb : zB} (hI : batI nb) {k0 d : Nat} (hk : k0 < 8) (hd8 : d ≤ 8) (ho : hsO κ μ k0 d) {X C a' : Nat → Int32} (hX : X 0 = nI 0) (a0 : a' 0 = μ 0 0) (a1 : a' 1 = nI (mor d)) (a3 : a' 3 = μ 0 3) (a4 : a' 4 = nI 0) (a7 : a' 7 = μ 0 7) (a8 : a' 8 = μ 0 8) : RR (zCp (zHi (zT (zF (zCp κ 2 0) 0 nb (cellsOf nb)) X (μ 7)) (nI ((k0 + 1) % 8)) (nI (mor d))) (3 + (k0 + 1) % 8) 2) (zN (zPu (zRm (zRm μ 8 C) 2 (μ 1)) d (μ 1)) a' nb) := by
  generalize hM : zHi (zT (zF (zCp κ 2 0) 0 nb (cellsOf nb)) X (μ 7)) (nI ((k0 + 1) % 8)) (nI (mor d)) = K1
  have hT : ∀ {t f : Nat}, ¬ t = 4 → ¬ (t = 2 ∧ f = 0) → ¬ (t = 3 ∧ f = 0) → K1 t f = zF (zCp κ 2 0) 0 nb (cellsOf nb) t f := fun {t f} h0 h1 h2 => by rw [← hM]; exact (zHi_6 h0).trans ((if_neg h1).trans (if_neg h2))
  have hK : ∀ {t f : Nat}, ¬ t = 4 → ¬ (t = 2 ∧ f = 0) → ¬ (t = 3 ∧ f = 0) → ¬ (f = 0 ∧ (t = 6 ∨ t = 8)) → ¬ f = 2 → K1 t f = κ t f := fun {t f} h0 h1 h2 h3 h4 => (hT h0 h1 h2).trans ((zF_o (by omega)).trans (zCp_o h4))
  have h2c : ∀ {t : Nat}, t = 6 ∨ t = 8 ∨ t = 9 → K1 t 2 = κ t 0 := fun {t} h0 => (hT (by omega) (by omega) (by omega)).trans ((zF_o (by omega)).trans (zCp_s h0))
  have e4 : K1 4 0 = upd (upd (κ 4 0) 0 (nI ((k0 + 1) % 8))) 1 (nI (mor d)) := by rw [← hM]; rfl
  have e2 : K1 2 0 = X := by rw [← hM]; rfl
  have e3 : K1 3 0 = μ 7 := by rw [← hM]; rfl
  have hmu : ∀ {r : Nat}, 2 < r → r < 8 → zN (zPu (zRm (zRm μ 8 C) 2 (μ 1)) d (μ 1)) a' nb r = μ r := fun {r} h1 h2 => ((zN_o (by omega)).trans (zPu_o hd8 (by omega))).trans ((zRm_o (by omega)).trans (zRm_o (by omega)))
  have ho0 : ∀ {t : Nat}, zCp K1 (3 + (k0 + 1) % 8) 2 t 0 = K1 t 0 := fun {t} => zCp_o (by omega)
  have ho1 : ∀ {t : Nat}, zCp K1 (3 + (k0 + 1) % 8) 2 t 1 = K1 t 1 := fun {t} => zCp_o (by omega)
  refine ⟨⟨?_, hI, ?_⟩, h.ch.keep (fun f hf => ?_), h.sv.keep ?_ ?_ ?_ a0 ?_, hsP.push hk hd8 ho h.ba ?_ ?_ a1 ?_ ?_ ?_ ?_ ?_, h.wr.keep ?_ ?_ ?_ a3, ⟨?_, 0, by decide, ?_, a4, fun q hq => absurd hq (Nat.not_lt_zero q)⟩, h.er.keep ?_ ?_ a7 a8⟩
  · exact ho0.trans ((hT (by decide) (by decide) (by decide)).trans zF_6)
  · exact ho0.trans ((hT (by decide) (by decide) (by decide)).trans zF_8)
  · by_cases hq : f = 3 + (k0 + 1) % 8
    · subst hq
      exact ⟨0, by decide, (zCp_s (by decide)).trans (h2c (by decide))⟩
    · by_cases hq2 : f = 2
      · subst hq2
        exact ⟨0, by decide, (zCp_o hq).trans (h2c (by decide))⟩
      · exact ⟨f, hf, (zCp_o hq).trans (hK (by decide) (by omega) (by omega) (by omega) hq2)⟩
  · rw [ho0, hK (by decide) (by decide) (by decide) (by decide) (by decide)]
  · exact ho1.trans (hK (by decide) (by decide) (by decide) (by decide) (by decide))
  · exact ho1.trans (hK (by decide) (by decide) (by decide) (by decide) (by decide))
  · exact hmu (by decide) (by decide)
  · rw [ho0, e4]; rfl
  · rw [ho0, e4]; rfl
  · exact ((zCp_s (by decide)).trans (h2c (by decide))).trans h.ba.1
  · exact ((zCp_s (by decide)).trans (h2c (by decide))).trans h.ba.2.2
  · exact fun q hq hn => (zCp_o (by omega)).trans (hK (by decide) (by omega) (by omega) (by omega) (by omega))
  · exact fun q hq hn => (zCp_o (by omega)).trans (hK (by decide) (by omega) (by omega) (by omega) (by omega))
  · exact fun r h1 _ => (zN_o (by omega)).trans ((zPu_r h1 (by decide)).trans (zPu_r h1 (by decide)))
  · exact ho0.trans (hK (by decide) (by decide) (by decide) (by decide) (by decide))
  · rw [ho0, hK (by decide) (by decide) (by decide) (by decide) (by decide)]
  · exact hmu (by decide) (by decide)
  · exact (ho0.trans e3).trans (hmu (by decide) (by decide)).symm
  · rw [ho0, e2]; exact hX
  · rw [ho0, hK (by decide) (by decide) (by decide) (by decide) (by decide)]
  · rw [ho0, hK (by decide) (by decide) (by decide) (by decide) (by decide)]
theorem RR.execF {κ : zKp} {μ : zMu} (h : RR κ μ) {nb : zB} {X C a' : Nat → Int32} {J : Nat} (hJ : J < 100000) (hX : X 0 = nI 0) (a0 : a' 0 = μ 0 0) (a1 : a' 1 = μ 0 1) (a3 : a' 3 = μ 0 3) (a4 : a' 4 = nI 0) (a7 : a' 7 = μ 0 7) (a8 : a' 8 = nI J) : RR (zRow (zCp (zT (zF (zCp κ 2 0) 0 nb (cellsOf nb)) X (μ 7)) 0 2) 0 0 (upd ((zCp (zT (zF (zCp κ 2 0) 0 nb (cellsOf nb)) X (μ 7)) 0 2) 0 0) 3 (nI J))) (zN (zRm (zRm μ 8 C) 2 (μ 1)) a' (μ 1)) := by
  have hK : ∀ {t f : Nat}, ¬ f = 0 → ¬ f = 2 → zRow (zCp (zT (zF (zCp κ 2 0) 0 nb (cellsOf nb)) X (μ 7)) 0 2) 0 0 (upd ((zCp (zT (zF (zCp κ 2 0) 0 nb (cellsOf nb)) X (μ 7)) 0 2) 0 0) 3 (nI J)) t f = κ t f := fun {t f} h0 h2 => (zRow_o (by omega)).trans ((zCp_o h0).trans ((if_neg (by omega)).trans ((if_neg (by omega)).trans ((zF_o (by omega)).trans (zCp_o h2)))))
  have hmu : ∀ {r : Nat}, 2 < r → ¬ r = 8 → zN (zRm (zRm μ 8 C) 2 (μ 1)) a' (μ 1) r = μ r := fun {r} h1 h2 => (zN_o (by omega)).trans ((zRm_o (by omega)).trans (zRm_o h2))
  refine ⟨⟨h.ba.1, h.bI, h.ba.2.2⟩, h.ch.keep (fun f hf => ?_), h.sv.keep rfl rfl rfl a0 rfl, h.hs.keep rfl (fun q _ => hK (by omega) (by omega)) (fun q _ => hK (by omega) (by omega)) a1 (fun r h1 _ => hmu (by omega) (by omega)), h.wr.keep rfl rfl rfl a3, ⟨rfl, 0, by decide, hX, a4, fun q hq => absurd hq (Nat.not_lt_zero q)⟩, ⟨⟨h.er.1.1.trans a7.symm, by rw [show zN (zRm (zRm μ 8 C) 2 (μ 1)) a' (μ 1) 0 7 = μ 0 7 from a7]; exact h.er.1.2⟩, ⟨a8.symm, Or.inr (by rw [show zN (zRm (zRm μ 8 C) 2 (μ 1)) a' (μ 1) 0 8 = nI J from a8]; exact ge_i hJ)⟩⟩⟩
  by_cases hq : f = 0
  · subst hq
    exact ⟨0, by decide, rfl⟩
  · by_cases hq2 : f = 2
    · subst hq2
      exact ⟨0, by decide, rfl⟩
    · exact ⟨f, hf, hK hq hq2⟩
theorem RR.execM {κ : zKp} {μ : zMu} (h : RR κ μ) {X C a' : Nat → Int32} {J : Nat} (hJ : J < 100000) (hX : X 0 = nI 0) (a0 : a' 0 = μ 0 0) (a1 : a' 1 = μ 0 1) (a3 : a' 3 = μ 0 3) (a4 : a' 4 = nI 0) (a7 : a' 7 = nI J) (a8 : a' 8 = μ 0 8) : RR (zT (zRow κ 0 0 (upd (κ 0 0) 2 (nI J))) X (μ 7)) (zN (zRm μ 8 C) a' (μ 1)) := by
  have hK : ∀ {t f : Nat}, ¬ (f = 0 ∧ (t = 0 ∨ t = 2 ∨ t = 3)) → zT (zRow κ 0 0 (upd (κ 0 0) 2 (nI J))) X (μ 7) t f = κ t f := fun {t f} h0 => (if_neg (by omega)).trans ((if_neg (by omega)).trans (zRow_o (by omega)))
  have hmu : ∀ {r : Nat}, 2 < r → ¬ r = 8 → zN (zRm μ 8 C) a' (μ 1) r = μ r := fun {r} h1 h2 => (zN_o (by omega)).trans (zRm_o h2)
  refine ⟨⟨h.ba.1, h.bI, h.ba.2.2⟩, h.ch.keep (fun f hf => ⟨f, hf, hK (by omega)⟩), h.sv.keep rfl rfl rfl a0 rfl, h.hs.keep rfl (fun q _ => hK (by omega)) (fun q _ => hK (by omega)) a1 (fun r h1 _ => hmu (by omega) (by omega)), h.wr.keep rfl rfl rfl a3, ⟨rfl, 0, by decide, hX, a4, fun q hq => absurd hq (Nat.not_lt_zero q)⟩, ⟨⟨a7.symm, Or.inr (by rw [show zN (zRm μ 8 C) a' (μ 1) 0 7 = nI J from a7]; exact ge_i hJ)⟩, ⟨h.er.2.1.trans a8.symm, by rw [show zN (zRm μ 8 C) a' (μ 1) 0 8 = μ 0 8 from a8]; exact h.er.2.2⟩⟩⟩
end ZCN
