section ZAN
variable {g : zG} {κ : zKp} {μ ν : zMu} {ω : zOm}
theorem in_sideOf (l : Launch) (hl0 : l.stackTraces = false) (h : RR κ μ) {i : Nat} (hlt : i < bn (μ 1)) : zMW l g yL_sideOf cL_sideOf 3 hh_sideOf 20 1 [.ref (gA g 0 0 0), .int (nI i)] κ ν ω κ ν ω (bf (μ 1) i 0) := by
  have c := ok_X4_sideOf l (g := g) (κ := κ) (μ := ν) (ω := ω) (gb := μ 1) (cb := cellsOf (μ 1)) h.n hlt
  rw [h.eqF] at c
  exact hk_sideOf l (by decide) c
theorem in_strength (l : Launch) (hl0 : l.stackTraces = false) (h : RR κ μ) {i : Nat} (hlt : i < bn (μ 1)) : zMW l g yL_strength cL_strength 3 hh_strength 20 1 [.ref (gA g 0 0 0), .int (nI i)] κ ν ω κ ν ω (bf (μ 1) i 4) := by
  have c := ok_X4_strengthOf l (g := g) (κ := κ) (μ := ν) (ω := ω) (gb := μ 1) (cb := cellsOf (μ 1)) h.n hlt
  rw [h.eqF] at c
  exact hk_strength l (by decide) c
theorem in_morale (l : Launch) (hl0 : l.stackTraces = false) (h : RR κ μ) {i : Nat} (hlt : i < bn (μ 1)) : zMW l g yL_morale cL_morale 3 hh_morale 20 1 [.ref (gA g 0 0 0), .int (nI i)] κ ν ω κ ν ω (bf (μ 1) i 5) := by
  have c := ok_X4_moraleOf l (g := g) (κ := κ) (μ := ν) (ω := ω) (gb := μ 1) (cb := cellsOf (μ 1)) h.n hlt
  rw [h.eqF] at c
  exact hk_morale l (by decide) c
theorem in_routed (l : Launch) (hl0 : l.stackTraces = false) (h : RR κ μ) {i : Nat} (hlt : i < bn (μ 1)) : zMW l g yL_routed cL_routed 3 hh_routed 20 1 [.ref (gA g 0 0 0), .int (nI i)] κ ν ω κ ν ω (bf (μ 1) i 8) := by
  have c := ok_X4_routedTurns l (g := g) (κ := κ) (μ := ν) (ω := ω) (gb := μ 1) (cb := cellsOf (μ 1)) h.n hlt
  rw [h.eqF] at c
  exact hk_routed l (by decide) c
theorem in_kindOf (l : Launch) (hl0 : l.stackTraces = false) (h : RR κ μ) {i : Nat} (hlt : i < bn (μ 1)) : zMW l g yL_kindOf cL_kindOf 3 hh_kindOf 20 1 [.ref (gA g 0 0 0), .int (nI i)] κ ν ω κ ν ω (bf (μ 1) i 3) := by
  have c := ok_X4_kindOf l (g := g) (κ := κ) (μ := ν) (ω := ω) (gb := μ 1) (cb := cellsOf (μ 1)) h.n hlt (h.bI.1.2.2.1 i hlt)
  rw [h.eqF] at c
  exact hk_kindOf l (by decide) c
theorem in_attack (l : Launch) (hl0 : l.stackTraces = false) (h : RR κ μ) {i : Nat} (hlt : i < bn (μ 1)) : zMW l g yL_attack cL_attack 3 hh_attack 20 1 [.ref (gA g 0 0 0), .int (nI i)] κ ν ω κ ν ω (attB (μ 1) i) := by
  have c := ok_X4_attackOf l (g := g) (κ := κ) (μ := ν) (ω := ω) (gb := μ 1) (cb := cellsOf (μ 1)) h.n hlt
  rw [h.eqF] at c
  exact hk_attack l (by decide) c
theorem in_counter (l : Launch) (hl0 : l.stackTraces = false) (h : RR κ μ) {i : Nat} (hlt : i < bn (μ 1)) : zMW l g yL_counter cL_counter 3 hh_counter 20 1 [.ref (gA g 0 0 0), .int (nI i)] κ ν ω κ ν ω (cntB (μ 1) i) := by
  have c := ok_X4_counterOf l (g := g) (κ := κ) (μ := ν) (ω := ω) (gb := μ 1) (cb := cellsOf (μ 1)) h.n hlt
  rw [h.eqF] at c
  exact hk_counter l (by decide) c
theorem in_isStanding (l : Launch) (hl0 : l.stackTraces = false) (h : RR κ μ) {i : Nat} (hlt : i < bn (μ 1)) : zMW l g yL_isStanding cL_isStanding 3 hh_isStanding 20 1 [.ref (gA g 0 0 0), .int (nI i)] κ ν ω κ ν ω (if bf (μ 1) i 7 = 0 then 1 else 0) := by
  have c := ok_X4_isStanding l (g := g) (κ := κ) (μ := ν) (ω := ω) (gb := μ 1) (cb := cellsOf (μ 1)) h.n hlt
  rw [h.eqF] at c
  have c2 := hk_isStanding l (by decide) c
  by_cases q : bf (μ 1) i 7 = 0
  · rw [if_pos q] at c2 ⊢; exact c2
  · rw [if_neg q] at c2 ⊢; exact c2
theorem in_isRouted (l : Launch) (hl0 : l.stackTraces = false) (h : RR κ μ) {i : Nat} (hlt : i < bn (μ 1)) : zMW l g yL_isRouted cL_isRouted 3 hh_isRouted 20 1 [.ref (gA g 0 0 0), .int (nI i)] κ ν ω κ ν ω (if bf (μ 1) i 7 = 1 then 1 else 0) := by
  have c := ok_X4_isRouted l (g := g) (κ := κ) (μ := ν) (ω := ω) (gb := μ 1) (cb := cellsOf (μ 1)) h.n hlt
  rw [h.eqF] at c
  have c2 := hk_isRouted l (by decide) c
  by_cases q : bf (μ 1) i 7 = 1
  · rw [if_pos q] at c2 ⊢; exact c2
  · rw [if_neg q] at c2 ⊢; exact c2
theorem out_sideOf (l : Launch) (hl0 : l.stackTraces = false) (h : RR κ μ) {x : Int32} (hx : x < 0 ∨ μ 1 0 ≤ x) : zMW l g yL_sideOf cL_sideOf 3 hh_sideOf 20 1 [.ref (gA g 0 0 0), .int x] κ ν ω κ ν ω (-11) := by
  have c := no_X4_sideOf l hl0 (g := g) (κ := κ) (μ := ν) (ω := ω) (gb := μ 1) (cb := cellsOf (μ 1)) hx
  rw [h.eqF] at c
  exact he_sideOf_IOE l (by decide) c
theorem out_strength (l : Launch) (hl0 : l.stackTraces = false) (h : RR κ μ) {x : Int32} (hx : x < 0 ∨ μ 1 0 ≤ x) : zMW l g yL_strength cL_strength 3 hh_strength 20 1 [.ref (gA g 0 0 0), .int x] κ ν ω κ ν ω (-11) := by
  have c := no_X4_strengthOf l hl0 (g := g) (κ := κ) (μ := ν) (ω := ω) (gb := μ 1) (cb := cellsOf (μ 1)) hx
  rw [h.eqF] at c
  exact he_strength_IOE l (by decide) c
theorem out_morale (l : Launch) (hl0 : l.stackTraces = false) (h : RR κ μ) {x : Int32} (hx : x < 0 ∨ μ 1 0 ≤ x) : zMW l g yL_morale cL_morale 3 hh_morale 20 1 [.ref (gA g 0 0 0), .int x] κ ν ω κ ν ω (-11) := by
  have c := no_X4_moraleOf l hl0 (g := g) (κ := κ) (μ := ν) (ω := ω) (gb := μ 1) (cb := cellsOf (μ 1)) hx
  rw [h.eqF] at c
  exact he_morale_IOE l (by decide) c
theorem out_routed (l : Launch) (hl0 : l.stackTraces = false) (h : RR κ μ) {x : Int32} (hx : x < 0 ∨ μ 1 0 ≤ x) : zMW l g yL_routed cL_routed 3 hh_routed 20 1 [.ref (gA g 0 0 0), .int x] κ ν ω κ ν ω (-11) := by
  have c := no_X4_routedTurns l hl0 (g := g) (κ := κ) (μ := ν) (ω := ω) (gb := μ 1) (cb := cellsOf (μ 1)) hx
  rw [h.eqF] at c
  exact he_routed_IOE l (by decide) c
theorem out_kindOf (l : Launch) (hl0 : l.stackTraces = false) (h : RR κ μ) {x : Int32} (hx : x < 0 ∨ μ 1 0 ≤ x) : zMW l g yL_kindOf cL_kindOf 3 hh_kindOf 20 1 [.ref (gA g 0 0 0), .int x] κ ν ω κ ν ω (-11) := by
  have c := no_X4_kindOf l hl0 (g := g) (κ := κ) (μ := ν) (ω := ω) (gb := μ 1) (cb := cellsOf (μ 1)) hx
  rw [h.eqF] at c
  exact he_kindOf_IOE l (by decide) c
theorem out_attack (l : Launch) (hl0 : l.stackTraces = false) (h : RR κ μ) {x : Int32} (hx : x < 0 ∨ μ 1 0 ≤ x) : zMW l g yL_attack cL_attack 3 hh_attack 20 1 [.ref (gA g 0 0 0), .int x] κ ν ω κ ν ω (-11) := by
  have c := no_X4_attackOf l hl0 (g := g) (κ := κ) (μ := ν) (ω := ω) (gb := μ 1) (cb := cellsOf (μ 1)) hx
  rw [h.eqF] at c
  exact he_attack_IOE l (by decide) c
theorem out_counter (l : Launch) (hl0 : l.stackTraces = false) (h : RR κ μ) {x : Int32} (hx : x < 0 ∨ μ 1 0 ≤ x) : zMW l g yL_counter cL_counter 3 hh_counter 20 1 [.ref (gA g 0 0 0), .int x] κ ν ω κ ν ω (-11) := by
  have c := no_X4_counterOf l hl0 (g := g) (κ := κ) (μ := ν) (ω := ω) (gb := μ 1) (cb := cellsOf (μ 1)) hx
  rw [h.eqF] at c
  exact he_counter_IOE l (by decide) c
theorem out_isStanding (l : Launch) (hl0 : l.stackTraces = false) (h : RR κ μ) {x : Int32} (hx : x < 0 ∨ μ 1 0 ≤ x) : zMW l g yL_isStanding cL_isStanding 3 hh_isStanding 20 1 [.ref (gA g 0 0 0), .int x] κ ν ω κ ν ω (-11) := by
  have c := no_X4_isStanding l hl0 (g := g) (κ := κ) (μ := ν) (ω := ω) (gb := μ 1) (cb := cellsOf (μ 1)) hx
  rw [h.eqF] at c
  exact he_isStanding_IOE l (by decide) c
theorem out_isRouted (l : Launch) (hl0 : l.stackTraces = false) (h : RR κ μ) {x : Int32} (hx : x < 0 ∨ μ 1 0 ≤ x) : zMW l g yL_isRouted cL_isRouted 3 hh_isRouted 20 1 [.ref (gA g 0 0 0), .int x] κ ν ω κ ν ω (-11) := by
  have c := no_X4_isRouted l hl0 (g := g) (κ := κ) (μ := ν) (ω := ω) (gb := μ 1) (cb := cellsOf (μ 1)) hx
  rw [h.eqF] at c
  exact he_isRouted_IOE l (by decide) c
theorem out_laneOf (l : Launch) (hl0 : l.stackTraces = false) (h : RR κ μ) {x : Int32} (hx : x < 0 ∨ μ 1 0 ≤ x) : zMW l g yL_laneOf cL_laneOf 3 hh_laneOf 20 1 [.ref (gA g 0 0 0), .int x] κ ν ω κ ν ω (-11) := by
  have c := no_X4_laneOf l hl0 (g := g) (κ := κ) (μ := ν) (ω := ω) (gb := μ 1) (cb := cellsOf (μ 1)) hx
  rw [h.eqF] at c
  exact he_laneOf_IOE l (by decide) c
theorem out_columnOf (l : Launch) (hl0 : l.stackTraces = false) (h : RR κ μ) {x : Int32} (hx : x < 0 ∨ μ 1 0 ≤ x) : zMW l g yL_columnOf cL_columnOf 3 hh_columnOf 20 1 [.ref (gA g 0 0 0), .int x] κ ν ω κ ν ω (-11) := by
  have c := no_X4_columnOf l hl0 (g := g) (κ := κ) (μ := ν) (ω := ω) (gb := μ 1) (cb := cellsOf (μ 1)) hx
  rw [h.eqF] at c
  exact he_columnOf_IOE l (by decide) c
theorem out_orderOf (l : Launch) (hl0 : l.stackTraces = false) (h : RR κ μ) {x : Int32} (hx : x < 0 ∨ μ 1 0 ≤ x) : zMW l g yL_orderOf cL_orderOf 3 hh_orderOf 20 1 [.ref (gA g 0 0 0), .int x] κ ν ω κ ν ω (-11) := by
  have c := no_X4_orderOf l hl0 (g := g) (κ := κ) (μ := ν) (ω := ω) (gb := μ 1) (cb := cellsOf (μ 1)) hx
  rw [h.eqF] at c
  exact he_orderOf_IOE l (by decide) c
theorem out_support (l : Launch) (hl0 : l.stackTraces = false) (h : RR κ μ) {x : Int32} (hx : x < 0 ∨ μ 1 0 ≤ x) : zMW l g yL_support cL_support 3 hh_support 20 1 [.ref (gA g 0 0 0), .int x] κ ν ω κ ν ω (-11) := by
  have c := no_X4_supportOf l hl0 (g := g) (κ := κ) (μ := ν) (ω := ω) (gb := μ 1) (cb := cellsOf (μ 1)) hx
  rw [h.eqF] at c
  exact he_support_IOE l (by decide) c
theorem out_byLines (l : Launch) (hl0 : l.stackTraces = false) (h : RR κ μ) {x : Int32} (hx : x < 0 ∨ μ 1 0 ≤ x) : zMW l g yL_byLines cL_byLines 3 hh_byLines 20 1 [.ref (gA g 0 0 0), .int x] κ ν ω κ ν ω (-11) := by
  have c := no_X4_supportByLines l hl0 (g := g) (κ := κ) (μ := ν) (ω := ω) (gb := μ 1) (cb := cellsOf (μ 1)) hx
  rw [h.eqF] at c
  exact he_byLines_IOE l (by decide) c
theorem out_ahead (l : Launch) (hl0 : l.stackTraces = false) (h : RR κ μ) {x : Int32} (hx : x < 0 ∨ μ 1 0 ≤ x) : zMW l g yL_ahead cL_ahead 3 hh_ahead 20 1 [.ref (gA g 0 0 0), .int x] κ ν ω κ ν ω (-11) := by
  have c := no_X4_enemyAhead l hl0 (g := g) (κ := κ) (μ := ν) (ω := ω) (gb := μ 1) (cb := cellsOf (μ 1)) hx
  rw [h.eqF] at c
  exact he_ahead_IOE l (by decide) c
theorem out_byDistances (l : Launch) (hl0 : l.stackTraces = false) (h : RR κ μ) {x : Int32} (hx : x < 0 ∨ μ 1 0 ≤ x) : zMW l g yL_byDistances cL_byDistances 3 hh_byDistances 20 1 [.ref (gA g 0 0 0), .int x] κ ν ω κ ν ω (-11) := by
  have c := no_X4_enemyByDistances l hl0 (g := g) (κ := κ) (μ := ν) (ω := ω) (gb := μ 1) (cb := cellsOf (μ 1)) hx
  rw [h.eqF] at c
  exact he_byDistances_IOE l (by decide) c
theorem in_laneOf (l : Launch) (hl0 : l.stackTraces = false) (h : RR κ μ) {i : Nat} (hlt : i < bn (μ 1)) (h7 : ¬ bf (μ 1) i 7 = 2) : zMW l g yL_laneOf cL_laneOf 3 hh_laneOf 20 1 [.ref (gA g 0 0 0), .int (nI i)] κ ν ω κ ν ω (bf (μ 1) i 1) := by
  have c := ok_X4_laneOf l (g := g) (κ := κ) (μ := ν) (ω := ω) (gb := μ 1) (cb := cellsOf (μ 1)) h.n hlt h7
  rw [h.eqF] at c
  exact hk_laneOf l (by decide) c
theorem go_laneOf (l : Launch) (hl0 : l.stackTraces = false) (h : RR κ μ) {i : Nat} (hlt : i < bn (μ 1)) (h7 : bf (μ 1) i 7 = 2) : zMW l g yL_laneOf cL_laneOf 3 hh_laneOf 20 1 [.ref (gA g 0 0 0), .int (nI i)] κ ν ω κ ν ω (-13) := by
  have c := go_X4_laneOf l hl0 (g := g) (κ := κ) (μ := ν) (ω := ω) (gb := μ 1) (cb := cellsOf (μ 1)) h.n hlt h7
  rw [h.eqF] at c
  exact he_laneOf_NSE l (by decide) c
theorem in_columnOf (l : Launch) (hl0 : l.stackTraces = false) (h : RR κ μ) {i : Nat} (hlt : i < bn (μ 1)) (h7 : ¬ bf (μ 1) i 7 = 2) : zMW l g yL_columnOf cL_columnOf 3 hh_columnOf 20 1 [.ref (gA g 0 0 0), .int (nI i)] κ ν ω κ ν ω (bf (μ 1) i 2) := by
  have c := ok_X4_columnOf l (g := g) (κ := κ) (μ := ν) (ω := ω) (gb := μ 1) (cb := cellsOf (μ 1)) h.n hlt h7
  rw [h.eqF] at c
  exact hk_columnOf l (by decide) c
theorem go_columnOf (l : Launch) (hl0 : l.stackTraces = false) (h : RR κ μ) {i : Nat} (hlt : i < bn (μ 1)) (h7 : bf (μ 1) i 7 = 2) : zMW l g yL_columnOf cL_columnOf 3 hh_columnOf 20 1 [.ref (gA g 0 0 0), .int (nI i)] κ ν ω κ ν ω (-13) := by
  have c := go_X4_columnOf l hl0 (g := g) (κ := κ) (μ := ν) (ω := ω) (gb := μ 1) (cb := cellsOf (μ 1)) h.n hlt h7
  rw [h.eqF] at c
  exact he_columnOf_NSE l (by decide) c
theorem in_orderOf (l : Launch) (hl0 : l.stackTraces = false) (h : RR κ μ) {i : Nat} (hlt : i < bn (μ 1)) (h7 : bf (μ 1) i 7 = 0) : zMW l g yL_orderOf cL_orderOf 3 hh_orderOf 20 1 [.ref (gA g 0 0 0), .int (nI i)] κ ν ω κ ν ω (bf (μ 1) i 6) := by
  have c := ok_X4_orderOf l (g := g) (κ := κ) (μ := ν) (ω := ω) (gb := μ 1) (cb := cellsOf (μ 1)) h.n hlt h7 (h.bI.1.2.2.1 i hlt)
  rw [h.eqF] at c
  exact hk_orderOf l (by decide) c
theorem go_orderOf (l : Launch) (hl0 : l.stackTraces = false) (h : RR κ μ) {i : Nat} (hlt : i < bn (μ 1)) (h7 : ¬ bf (μ 1) i 7 = 0) : zMW l g yL_orderOf cL_orderOf 3 hh_orderOf 20 1 [.ref (gA g 0 0 0), .int (nI i)] κ ν ω κ ν ω (-14) := by
  have c := go_X4_orderOf l hl0 (g := g) (κ := κ) (μ := ν) (ω := ω) (gb := μ 1) (cb := cellsOf (μ 1)) h.n hlt h7
  rw [h.eqF] at c
  exact he_orderOf_ISE l (by decide) c
theorem in_support (l : Launch) (hl0 : l.stackTraces = false) (h : RR κ μ) {i : Nat} (hlt : i < bn (μ 1)) (h7 : ¬ bf (μ 1) i 7 = 2) : zMW l g yL_support cL_support 3 hh_support 20 1 [.ref (gA g 0 0 0), .int (nI i)] κ ν ω κ ν ω (supB (μ 1) i) := by
  have c := ok_X4_supportOf l (g := g) (κ := κ) (μ := ν) (ω := ω) (gb := μ 1) (cb := cellsOf (μ 1)) h.bI.1 rfl hlt h7
  rw [h.eqF] at c
  exact hk_support l (by decide) c
theorem go_support (l : Launch) (hl0 : l.stackTraces = false) (h : RR κ μ) {i : Nat} (hlt : i < bn (μ 1)) (h7 : bf (μ 1) i 7 = 2) : zMW l g yL_support cL_support 3 hh_support 20 1 [.ref (gA g 0 0 0), .int (nI i)] κ ν ω κ ν ω (-13) := by
  have c := go_X4_supportOf l hl0 (g := g) (κ := κ) (μ := ν) (ω := ω) (gb := μ 1) (cb := cellsOf (μ 1)) h.n hlt h7
  rw [h.eqF] at c
  exact he_support_NSE l (by decide) c
theorem in_byLines (l : Launch) (hl0 : l.stackTraces = false) (h : RR κ μ) {i : Nat} (hlt : i < bn (μ 1)) (h7 : ¬ bf (μ 1) i 7 = 2) : zMW l g yL_byLines cL_byLines 3 hh_byLines 20 1 [.ref (gA g 0 0 0), .int (nI i)] κ ν ω κ ν ω (supB (μ 1) i) := by
  have c := ok_X4_supportByLines l (g := g) (κ := κ) (μ := ν) (ω := ω) (gb := μ 1) (cb := cellsOf (μ 1)) h.bI.1 hlt h7
  rw [h.eqF] at c
  exact hk_byLines l (by decide) c
theorem go_byLines (l : Launch) (hl0 : l.stackTraces = false) (h : RR κ μ) {i : Nat} (hlt : i < bn (μ 1)) (h7 : bf (μ 1) i 7 = 2) : zMW l g yL_byLines cL_byLines 3 hh_byLines 20 1 [.ref (gA g 0 0 0), .int (nI i)] κ ν ω κ ν ω (-13) := by
  have c := go_X4_supportByLines l hl0 (g := g) (κ := κ) (μ := ν) (ω := ω) (gb := μ 1) (cb := cellsOf (μ 1)) h.n hlt h7
  rw [h.eqF] at c
  exact he_byLines_NSE l (by decide) c
theorem in_ahead (l : Launch) (hl0 : l.stackTraces = false) (h : RR κ μ) {i : Nat} (hlt : i < bn (μ 1)) (h7 : ¬ bf (μ 1) i 7 = 2) (h0 : ¬ enB (μ 1) i = -1) : zMW l g yL_ahead cL_ahead 3 hh_ahead 20 1 [.ref (gA g 0 0 0), .int (nI i)] κ ν ω κ ν ω (enB (μ 1) i) := by
  have c := ok_X4_enemyAhead l (g := g) (κ := κ) (μ := ν) (ω := ω) (gb := μ 1) (cb := cellsOf (μ 1)) h.n rfl hlt h7 h0
  rw [h.eqF] at c
  exact hk_ahead l (by decide) c
theorem em_ahead (l : Launch) (hl0 : l.stackTraces = false) (h : RR κ μ) {i : Nat} (hlt : i < bn (μ 1)) (h7 : ¬ bf (μ 1) i 7 = 2) (h0 : enB (μ 1) i = -1) : zMW l g yL_ahead cL_ahead 3 hh_ahead 20 1 [.ref (gA g 0 0 0), .int (nI i)] κ ν ω κ ν ω (-13) := by
  have c := em_X4_enemyAhead l hl0 (g := g) (κ := κ) (μ := ν) (ω := ω) (gb := μ 1) (cb := cellsOf (μ 1)) h.n rfl hlt h7 h0
  rw [h.eqF] at c
  exact he_ahead_NSE l (by decide) c
theorem go_ahead (l : Launch) (hl0 : l.stackTraces = false) (h : RR κ μ) {i : Nat} (hlt : i < bn (μ 1)) (h7 : bf (μ 1) i 7 = 2) : zMW l g yL_ahead cL_ahead 3 hh_ahead 20 1 [.ref (gA g 0 0 0), .int (nI i)] κ ν ω κ ν ω (-13) := by
  have c := go_X4_enemyAhead l hl0 (g := g) (κ := κ) (μ := ν) (ω := ω) (gb := μ 1) (cb := cellsOf (μ 1)) h.n hlt h7
  rw [h.eqF] at c
  exact he_ahead_NSE l (by decide) c
theorem in_byDistances (l : Launch) (hl0 : l.stackTraces = false) (h : RR κ μ) {i : Nat} (hlt : i < bn (μ 1)) (h7 : ¬ bf (μ 1) i 7 = 2) (h0 : ¬ enB (μ 1) i = -1) : zMW l g yL_byDistances cL_byDistances 3 hh_byDistances 20 1 [.ref (gA g 0 0 0), .int (nI i)] κ ν ω κ ν ω (enB (μ 1) i) := by
  have c := ok_X4_enemyByDistances l (g := g) (κ := κ) (μ := ν) (ω := ω) (gb := μ 1) (cb := cellsOf (μ 1)) h.bI.1 hlt h7 h0
  rw [h.eqF] at c
  exact hk_byDistances l (by decide) c
theorem em_byDistances (l : Launch) (hl0 : l.stackTraces = false) (h : RR κ μ) {i : Nat} (hlt : i < bn (μ 1)) (h7 : ¬ bf (μ 1) i 7 = 2) (h0 : enB (μ 1) i = -1) : zMW l g yL_byDistances cL_byDistances 3 hh_byDistances 20 1 [.ref (gA g 0 0 0), .int (nI i)] κ ν ω κ ν ω (-13) := by
  have c := em_X4_enemyByDistances l hl0 (g := g) (κ := κ) (μ := ν) (ω := ω) (gb := μ 1) (cb := cellsOf (μ 1)) h.bI.1 hlt h7 h0
  rw [h.eqF] at c
  exact he_byDistances_NSE l (by decide) c
theorem go_byDistances (l : Launch) (hl0 : l.stackTraces = false) (h : RR κ μ) {i : Nat} (hlt : i < bn (μ 1)) (h7 : bf (μ 1) i 7 = 2) : zMW l g yL_byDistances cL_byDistances 3 hh_byDistances 20 1 [.ref (gA g 0 0 0), .int (nI i)] κ ν ω κ ν ω (-13) := by
  have c := go_X4_enemyByDistances l hl0 (g := g) (κ := κ) (μ := ν) (ω := ω) (gb := μ 1) (cb := cellsOf (μ 1)) h.n hlt h7
  rw [h.eqF] at c
  exact he_byDistances_NSE l (by decide) c
theorem in_jars (l : Launch) (hl0 : l.stackTraces = false) (h : RR κ μ) {x : Int32} (hx : 0 ≤ x ∧ x < 2) : zMW l g yL_jars cL_jars 3 hh_jars 20 1 [.ref (gA g 0 0 0), .int x] κ ν ω κ ν ω (if x = 0 then μ 1 3 else μ 1 4) := by
  have c := ok_X4_jarsOf l (g := g) (κ := κ) (μ := ν) (ω := ω) (gb := μ 1) (cb := cellsOf (μ 1)) h.n hx
  rw [h.eqF] at c
  exact hk_jars l (by decide) c
theorem out_jars (l : Launch) (hl0 : l.stackTraces = false) (h : RR κ μ) {x : Int32} (hx : ¬ (0 ≤ x ∧ x < 2)) : zMW l g yL_jars cL_jars 3 hh_jars 20 1 [.ref (gA g 0 0 0), .int x] κ ν ω κ ν ω (-12) := by
  have c := no_X4_jarsOf l hl0 (g := g) (κ := κ) (μ := ν) (ω := ω) (gb := μ 1) (cb := cellsOf (μ 1)) hx
  rw [h.eqF] at c
  exact he_jars_IAE l (by decide) c
theorem in_sumOf (l : Launch) (hl0 : l.stackTraces = false) (h : RR κ μ) {x : Int32} (hx : 0 ≤ x ∧ x < 2) : zMW l g yL_sumOf cL_sumOf 3 hh_sumOf 20 1 [.ref (gA g 0 0 0), .int x] κ ν ω κ ν ω (sumB (μ 1) x) := by
  have c := ok_X4_strengthOfSide l (g := g) (κ := κ) (μ := ν) (ω := ω) (gb := μ 1) (cb := cellsOf (μ 1)) h.n hx
  rw [h.eqF] at c
  exact hk_sumOf l (by decide) c
theorem out_sumOf (l : Launch) (hl0 : l.stackTraces = false) (h : RR κ μ) {x : Int32} (hx : ¬ (0 ≤ x ∧ x < 2)) : zMW l g yL_sumOf cL_sumOf 3 hh_sumOf 20 1 [.ref (gA g 0 0 0), .int x] κ ν ω κ ν ω (-12) := by
  have c := no_X4_strengthOfSide l hl0 (g := g) (κ := κ) (μ := ν) (ω := ω) (gb := μ 1) (cb := cellsOf (μ 1)) hx
  rw [h.eqF] at c
  exact he_sumOf_IAE l (by decide) c
theorem in_byCells (l : Launch) (hl0 : l.stackTraces = false) (h : RR κ μ) {x : Int32} (hx : 0 ≤ x ∧ x < 2) : zMW l g yL_byCells cL_byCells 3 hh_byCells 20 1 [.ref (gA g 0 0 0), .int x] κ ν ω κ ν ω (sumB (μ 1) x) := by
  have c := ok_X4_strengthByCells l (g := g) (κ := κ) (μ := ν) (ω := ω) (gb := μ 1) (cb := cellsOf (μ 1)) h.bI rfl hx
  rw [h.eqF] at c
  exact hk_byCells l (by decide) c
theorem out_byCells (l : Launch) (hl0 : l.stackTraces = false) (h : RR κ μ) {x : Int32} (hx : ¬ (0 ≤ x ∧ x < 2)) : zMW l g yL_byCells cL_byCells 3 hh_byCells 20 1 [.ref (gA g 0 0 0), .int x] κ ν ω κ ν ω (-12) := by
  have c := no_X4_strengthByCells l hl0 (g := g) (κ := κ) (μ := ν) (ω := ω) (gb := μ 1) (cb := cellsOf (μ 1)) hx
  rw [h.eqF] at c
  exact he_byCells_IAE l (by decide) c
theorem in_fallen (l : Launch) (hl0 : l.stackTraces = false) (h : RR κ μ) {x : Int32} (hx : 0 ≤ x ∧ x < 2) : zMW l g yL_fallen cL_fallen 3 hh_fallen 20 1 [.ref (gA g 0 0 0), .int x] κ ν ω κ ν ω (falB (μ 1) x) := by
  have c := ok_X4_fallenOf l (g := g) (κ := κ) (μ := ν) (ω := ω) (gb := μ 1) (cb := cellsOf (μ 1)) h.n hx
  rw [h.eqF] at c
  exact hk_fallen l (by decide) c
theorem out_fallen (l : Launch) (hl0 : l.stackTraces = false) (h : RR κ μ) {x : Int32} (hx : ¬ (0 ≤ x ∧ x < 2)) : zMW l g yL_fallen cL_fallen 3 hh_fallen 20 1 [.ref (gA g 0 0 0), .int x] κ ν ω κ ν ω (-12) := by
  have c := no_X4_fallenOf l hl0 (g := g) (κ := κ) (μ := ν) (ω := ω) (gb := μ 1) (cb := cellsOf (μ 1)) hx
  rw [h.eqF] at c
  exact he_fallen_IAE l (by decide) c
theorem in_lineIn (l : Launch) (hl0 : l.stackTraces = false) (h : RR κ μ) {x y : Int32} (hx : (0 ≤ x ∧ x < 3) ∧ (0 ≤ y ∧ y < 10)) {j : Nat} (ho : occB (μ 1) x y = some j) : zMW l g yL_lineIn cL_lineIn 4 hh_lineIn 20 1 [.ref (gA g 0 0 0), .int x, .int y] κ ν ω κ ν ω (nI j) := by
  have c := ok_X4_lineIn l (g := g) (κ := κ) (μ := ν) (ω := ω) (gb := μ 1) (cb := cellsOf (μ 1)) h.n rfl hx.1 hx.2 ho
  rw [h.eqF] at c
  exact hk_lineIn l (by decide) c
theorem go_lineIn (l : Launch) (hl0 : l.stackTraces = false) (h : RR κ μ) {x y : Int32} (hx : (0 ≤ x ∧ x < 3) ∧ (0 ≤ y ∧ y < 10)) (ho : occB (μ 1) x y = none) : zMW l g yL_lineIn cL_lineIn 4 hh_lineIn 20 1 [.ref (gA g 0 0 0), .int x, .int y] κ ν ω κ ν ω (-13) := by
  have c := go_X4_lineIn l hl0 (g := g) (κ := κ) (μ := ν) (ω := ω) (gb := μ 1) (cb := cellsOf (μ 1)) h.n rfl hx.1 hx.2 ho
  rw [h.eqF] at c
  exact he_lineIn_NSE l (by decide) c
theorem out_lineIn (l : Launch) (hl0 : l.stackTraces = false) (h : RR κ μ) {x y : Int32} (hx : ¬ ((0 ≤ x ∧ x < 3) ∧ (0 ≤ y ∧ y < 10))) : zMW l g yL_lineIn cL_lineIn 4 hh_lineIn 20 1 [.ref (gA g 0 0 0), .int x, .int y] κ ν ω κ ν ω (-11) := by
  have c := no_X4_lineIn l hl0 (g := g) (κ := κ) (μ := ν) (ω := ω) (gb := μ 1) (cb := cellsOf (μ 1)) hx
  rw [h.eqF] at c
  exact he_lineIn_IOE l (by decide) c
theorem in_front (l : Launch) (hl0 : l.stackTraces = false) (h : RR κ μ) {x y : Int32} (hx : (0 ≤ x ∧ x < 2) ∧ (0 ≤ y ∧ y < 3)) (h0 : ¬ froN (μ 1) x y 10 = -1) : zMW l g yL_front cL_front 4 hh_front 20 1 [.ref (gA g 0 0 0), .int x, .int y] κ ν ω κ ν ω (froN (μ 1) x y 10) := by
  have c := ok_X4_frontOf l (g := g) (κ := κ) (μ := ν) (ω := ω) (gb := μ 1) (cb := cellsOf (μ 1)) h.n rfl hx.1 hx.2 h0
  rw [h.eqF] at c
  exact hk_front l (by decide) c
theorem go_front (l : Launch) (hl0 : l.stackTraces = false) (h : RR κ μ) {x y : Int32} (hx : (0 ≤ x ∧ x < 2) ∧ (0 ≤ y ∧ y < 3)) (h0 : froN (μ 1) x y 10 = -1) : zMW l g yL_front cL_front 4 hh_front 20 1 [.ref (gA g 0 0 0), .int x, .int y] κ ν ω κ ν ω (-13) := by
  have c := go_X4_frontOf l hl0 (g := g) (κ := κ) (μ := ν) (ω := ω) (gb := μ 1) (cb := cellsOf (μ 1)) h.n rfl hx.1 hx.2 h0
  rw [h.eqF] at c
  exact he_front_NSE l (by decide) c
theorem out_front (l : Launch) (hl0 : l.stackTraces = false) (h : RR κ μ) {x y : Int32} (hx : ¬ ((0 ≤ x ∧ x < 2) ∧ (0 ≤ y ∧ y < 3))) : zMW l g yL_front cL_front 4 hh_front 20 1 [.ref (gA g 0 0 0), .int x, .int y] κ ν ω κ ν ω (-12) := by
  have c := no_X4_frontOf l hl0 (g := g) (κ := κ) (μ := ν) (ω := ω) (gb := μ 1) (cb := cellsOf (μ 1)) hx
  rw [h.eqF] at c
  exact he_front_IAE l (by decide) c
theorem in_leader (l : Launch) (hl0 : l.stackTraces = false) (h : RR κ μ) (h0 : ¬ sumB (μ 1) 0 - sumB (μ 1) 1 = 0) : zMW l g yL_leader cL_leader 2 hh_leader 20 1 [.ref (gA g 0 0 0)] κ ν ω κ ν ω (if 0 < sumB (μ 1) 0 - sumB (μ 1) 1 then 0 else 1) := by
  have c := ok_X4_leader l (g := g) (κ := κ) (μ := ν) (ω := ω) (gb := μ 1) (cb := cellsOf (μ 1)) h.n h0
  rw [h.eqF] at c
  exact hk_leader l (by decide) c
theorem go_leader (l : Launch) (hl0 : l.stackTraces = false) (h : RR κ μ) (h0 : sumB (μ 1) 0 - sumB (μ 1) 1 = 0) : zMW l g yL_leader cL_leader 2 hh_leader 20 1 [.ref (gA g 0 0 0)] κ ν ω κ ν ω (-13) := by
  have c := no_X4_leader l hl0 (g := g) (κ := κ) (μ := ν) (ω := ω) (gb := μ 1) (cb := cellsOf (μ 1)) h.n h0
  rw [h.eqF] at c
  exact he_leader_NSE l (by decide) c
theorem in_byStrength (l : Launch) (hl0 : l.stackTraces = false) (h : RR κ μ) {r i : Nat} (hi : i < bn (μ 1)) (he : rankB (μ 1) i = nI r) (hne : ∀ j, j < bn (μ 1) → ¬ j = i → ¬ rankB (μ 1) j = nI r) : zMW l g yL_byStrength cL_byStrength 3 hh_byStrength 20 1 [.ref (gA g 0 0 0), .int (nI r)] κ ν ω κ ν ω (nI i) := by
  have c := ok_X4_lineByStrength l (g := g) (κ := κ) (μ := ν) (ω := ω) (gb := μ 1) (cb := cellsOf (μ 1)) h.n hi he (fun j hj => hne j (by omega) (by omega))
  rw [h.eqF] at c
  exact hk_byStrength l (by decide) c
theorem out_byStrength (l : Launch) (hl0 : l.stackTraces = false) (h : RR κ μ) {x : Int32} (hx : ¬ (0 ≤ x ∧ x ≤ μ 1 0 - 1)) : zMW l g yL_byStrength cL_byStrength 3 hh_byStrength 20 1 [.ref (gA g 0 0 0), .int x] κ ν ω κ ν ω (-13) := by
  have c := no_X4_lineByStrength l hl0 (g := g) (κ := κ) (μ := ν) (ω := ω) (gb := μ 1) (cb := cellsOf (μ 1)) h.n (rk_no h.bI hx)
  rw [h.eqF] at c
  exact he_byStrength_NSE l (by decide) c
theorem in_writtenAt (l : Launch) (hl0 : l.stackTraces = false) (h : RR κ μ) {q w b : Nat} (hq : q < w) (hw : w ≤ 20) (k0 : κ 0 0 0 = nI w) (hb : b < 127) (eb : κ 1 0 q = nI b) : zMW l g yL_writtenAt cL_writtenAt 3 hh_writtenAt 20 1 [.ref (gA g 0 0 0), .int (nI q)] κ ν ω κ ν ω (nI b) := by
  have c := ok_X4_writtenAt l (g := g) (κ := κ) (μ := ν) (ω := ω) hq hw k0 (by rw [eb]; exact (pk_charN (by omega)).1)
  rw [eb] at c
  exact hk_writtenAt l (by decide) c
theorem out_writtenAt (l : Launch) (hl0 : l.stackTraces = false) (h : RR κ μ) {x : Int32} {w : Nat} (hw : w ≤ 20) (k0 : κ 0 0 0 = nI w) (hx : x < 0 ∨ nI w ≤ x) : zMW l g yL_writtenAt cL_writtenAt 3 hh_writtenAt 20 1 [.ref (gA g 0 0 0), .int x] κ ν ω κ ν ω (-11) := by
  have c := no_X4_writtenAt l hl0 (g := g) (κ := κ) (μ := ν) (ω := ω) hw k0 hx
  exact he_writtenAt_IOE l (by decide) c
theorem out_writeLane (l : Launch) (hl0 : l.stackTraces = false) (h : RR κ μ) {x : Int32} (hx : ¬ (0 ≤ x ∧ x < 3)) : zMW l g yL_writeLane cL_writeLane 3 hh_writeLane 20 1 [.ref (gA g 0 0 0), .int x] κ ν ω κ ν ω (-11) := by
  have c := no_X4_writeLane l hl0 (g := g) (κ := κ) (μ := ν) (ω := ω) hx
  exact he_writeLane_IOE l (by decide) c
theorem dm_sideOf (l : Launch) (h : RR κ μ) {i : Nat} (hlt : i < bn (μ 1)) : zM l g yX4_sideOf cX4_sideOf 2 (some .int) 3 0 [.ref (gA g 0 0 0), .int (nI i)] κ ν ω κ ν ω (some (.int (bf (μ 1) i 0))) := by
  have c := ok_X4_sideOf l (g := g) (κ := κ) (μ := ν) (ω := ω) (gb := μ 1) (cb := cellsOf (μ 1)) h.n hlt
  rw [h.eqF] at c
  exact c
theorem dm_strengthOf (l : Launch) (h : RR κ μ) {i : Nat} (hlt : i < bn (μ 1)) : zM l g yX4_strengthOf cX4_strengthOf 2 (some .int) 3 0 [.ref (gA g 0 0 0), .int (nI i)] κ ν ω κ ν ω (some (.int (bf (μ 1) i 4))) := by
  have c := ok_X4_strengthOf l (g := g) (κ := κ) (μ := ν) (ω := ω) (gb := μ 1) (cb := cellsOf (μ 1)) h.n hlt
  rw [h.eqF] at c
  exact c
theorem dm_moraleOf (l : Launch) (h : RR κ μ) {i : Nat} (hlt : i < bn (μ 1)) : zM l g yX4_moraleOf cX4_moraleOf 2 (some .int) 3 0 [.ref (gA g 0 0 0), .int (nI i)] κ ν ω κ ν ω (some (.int (bf (μ 1) i 5))) := by
  have c := ok_X4_moraleOf l (g := g) (κ := κ) (μ := ν) (ω := ω) (gb := μ 1) (cb := cellsOf (μ 1)) h.n hlt
  rw [h.eqF] at c
  exact c
theorem dm_routedTurns (l : Launch) (h : RR κ μ) {i : Nat} (hlt : i < bn (μ 1)) : zM l g yX4_routedTurns cX4_routedTurns 2 (some .int) 3 0 [.ref (gA g 0 0 0), .int (nI i)] κ ν ω κ ν ω (some (.int (bf (μ 1) i 8))) := by
  have c := ok_X4_routedTurns l (g := g) (κ := κ) (μ := ν) (ω := ω) (gb := μ 1) (cb := cellsOf (μ 1)) h.n hlt
  rw [h.eqF] at c
  exact c
theorem dm_kindOf (l : Launch) (h : RR κ μ) {i : Nat} (hlt : i < bn (μ 1)) : zM l g yX4_kindOf cX4_kindOf 2 (some .char) 3 0 [.ref (gA g 0 0 0), .int (nI i)] κ ν ω κ ν ω (some (.int (bf (μ 1) i 3))) := by
  have c := ok_X4_kindOf l (g := g) (κ := κ) (μ := ν) (ω := ω) (gb := μ 1) (cb := cellsOf (μ 1)) h.n hlt (h.bI.1.2.2.1 i hlt)
  rw [h.eqF] at c
  exact c
theorem dm_isStanding (l : Launch) (h : RR κ μ) {i : Nat} (hlt : i < bn (μ 1)) : zM l g yX4_isStanding cX4_isStanding 2 (some .boolean) 3 0 [.ref (gA g 0 0 0), .int (nI i)] κ ν ω κ ν ω (some (.int (if bf (μ 1) i 7 = 0 then 1 else 0))) := by
  have c := ok_X4_isStanding l (g := g) (κ := κ) (μ := ν) (ω := ω) (gb := μ 1) (cb := cellsOf (μ 1)) h.n hlt
  rw [h.eqF] at c
  exact c
theorem dm_isRouted (l : Launch) (h : RR κ μ) {i : Nat} (hlt : i < bn (μ 1)) : zM l g yX4_isRouted cX4_isRouted 2 (some .boolean) 3 0 [.ref (gA g 0 0 0), .int (nI i)] κ ν ω κ ν ω (some (.int (if bf (μ 1) i 7 = 1 then 1 else 0))) := by
  have c := ok_X4_isRouted l (g := g) (κ := κ) (μ := ν) (ω := ω) (gb := μ 1) (cb := cellsOf (μ 1)) h.n hlt
  rw [h.eqF] at c
  exact c
theorem dm_laneOf (l : Launch) (h : RR κ μ) {i : Nat} (hlt : i < bn (μ 1)) (h7 : ¬ bf (μ 1) i 7 = 2) : zM l g yX4_laneOf cX4_laneOf 2 (some .int) 4 0 [.ref (gA g 0 0 0), .int (nI i)] κ ν ω κ ν ω (some (.int (bf (μ 1) i 1))) := by
  have c := ok_X4_laneOf l (g := g) (κ := κ) (μ := ν) (ω := ω) (gb := μ 1) (cb := cellsOf (μ 1)) h.n hlt h7
  rw [h.eqF] at c
  exact c
theorem dm_columnOf (l : Launch) (h : RR κ μ) {i : Nat} (hlt : i < bn (μ 1)) (h7 : ¬ bf (μ 1) i 7 = 2) : zM l g yX4_columnOf cX4_columnOf 2 (some .int) 4 0 [.ref (gA g 0 0 0), .int (nI i)] κ ν ω κ ν ω (some (.int (bf (μ 1) i 2))) := by
  have c := ok_X4_columnOf l (g := g) (κ := κ) (μ := ν) (ω := ω) (gb := μ 1) (cb := cellsOf (μ 1)) h.n hlt h7
  rw [h.eqF] at c
  exact c
theorem dm_lineCount (l : Launch) (h : RR κ μ) : zM l g yX4_lineCount cX4_lineCount 1 (some .int) 1 0 [.ref (gA g 0 0 0)] κ ν ω κ ν ω (some (.int (μ 1 0))) := by
  have c := ok_X4_lineCount l (g := g) (κ := κ) (μ := ν) (ω := ω) (gb := μ 1) (cb := cellsOf (μ 1)) 
  rw [h.eqF] at c
  exact c
theorem dm_turnCount (l : Launch) (h : RR κ μ) : zM l g yX4_turnCount cX4_turnCount 1 (some .int) 1 0 [.ref (gA g 0 0 0)] κ ν ω κ ν ω (some (.int (μ 1 1))) := by
  have c := ok_X4_turnCount l (g := g) (κ := κ) (μ := ν) (ω := ω) (gb := μ 1) (cb := cellsOf (μ 1)) 
  rw [h.eqF] at c
  exact c
theorem dm_fightCount (l : Launch) (h : RR κ μ) : zM l g yX4_fightCount cX4_fightCount 1 (some .int) 1 0 [.ref (gA g 0 0 0)] κ ν ω κ ν ω (some (.int (μ 1 2))) := by
  have c := ok_X4_fightCount l (g := g) (κ := κ) (μ := ν) (ω := ω) (gb := μ 1) (cb := cellsOf (μ 1)) 
  rw [h.eqF] at c
  exact c
theorem dm_isConsistent (l : Launch) (h : RR κ μ) : zM l g yX4_isConsistent cX4_isConsistent 1 (some .boolean) 5 0 [.ref (gA g 0 0 0)] κ ν ω κ ν ω (some (.int 1)) := by
  have c := ok_X4_isConsistent l (g := g) (κ := κ) (μ := ν) (ω := ω) (gb := μ 1) (cb := cellsOf (μ 1)) h.bI rfl
  rw [h.eqF] at c
  exact c
theorem dm_meanMorale (l : Launch) (h : RR κ μ) (h0 : ¬ aliB (μ 1) = 0) : zM l g yX4_meanMorale cX4_meanMorale 2 (some .double) 4 0 [.ref (gA g 0 0 0)] κ ν ω κ ν ω (some (.double (FP.ddiv (FP.i2d (morB (μ 1))) (FP.i2d (aliB (μ 1)))))) := by
  have c := ok_X4_meanMorale l (g := g) (κ := κ) (μ := ν) (ω := ω) (gb := μ 1) (cb := cellsOf (μ 1)) h.bI h0
  rw [h.eqF] at c
  exact c
theorem dm_standingShare (l : Launch) (h : RR κ μ) (h0 : ¬ μ 1 0 = 0) : zM l g yX4_standingShare cX4_standingShare 2 (some .float) 4 0 [.ref (gA g 0 0 0)] κ ν ω κ ν ω (some (.float (FP.fdiv (FP.i2f (staB (μ 1))) (FP.i2f (μ 1 0))))) := by
  have c := ok_X4_standingShare l (g := g) (κ := κ) (μ := ν) (ω := ω) (gb := μ 1) (cb := cellsOf (μ 1)) h.bI h0
  rw [h.eqF] at c
  exact c
theorem dm_jarsOf (l : Launch) (h : RR κ μ) {x : Int32} (hx : 0 ≤ x ∧ x < 2) : zM l g yX4_jarsOf cX4_jarsOf 2 (some .int) 3 0 [.ref (gA g 0 0 0), .int x] κ ν ω κ ν ω (some (.int (if x = 0 then μ 1 3 else μ 1 4))) := by
  have c := ok_X4_jarsOf l (g := g) (κ := κ) (μ := ν) (ω := ω) (gb := μ 1) (cb := cellsOf (μ 1)) h.n hx
  rw [h.eqF] at c
  exact c
end ZAN
