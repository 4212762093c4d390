section ZSM
/-- a helper's call and the reference's: the same number, the same answer -/
def Sim (l : Launch) (g : zG) (yH : MethodName) (cH : ByteArray) (nH : Nat) (hh : List (Nat × Nat × Nat × Nat)) (AsH : List Value) (yM : MethodName) (cM : ByteArray) (nM : Nat) (retM : Option FieldType) (AsM : List Value) (κ : zKp) (μ : zMu) (ω : zOm) (cv : Int32 → Int64) : Prop :=
  ∃ (κ' : zKp) (μ' : zMu) (ω' : zOm) (kc b : Int32) (lv : Nat), lv ≤ 19 ∧ RR κ' μ' ∧ zMW l g yH cH nH hh 20 1 AsH κ μ ω κ' μ ω' kc ∧ zM l g yM cM nM retM lv 0 AsM κ' μ ω' κ' μ' ω' (some (.int b)) ∧ μ' 0 2 = kc ∧ (kc = 0 → ω'.1 = cv b)
section
variable {l : Launch} {g : zG} {yH : MethodName} {cH : ByteArray} {nH : Nat} {hh : List (Nat × Nat × Nat × Nat)} {AsH : List Value} {yM : MethodName} {cM : ByteArray} {nM : Nat} {retM : Option FieldType} {AsM : List Value} {κ : zKp} {μ : zMu} {ω : zOm} {cv : Int32 → Int64}
theorem sim_ok (h : RR κ μ) {v : Int32} {w : Int64} {lv : Nat} (hlv : lv ≤ 19) (hw : w = cv v) (hW : zMW l g yH cH nH hh 20 1 AsH κ μ ω κ μ (w, ω.2) 0) (hM : ∀ ω : zOm, zM l g yM cM nM retM lv 0 AsM κ (zN μ (μ 0) (μ 1)) ω κ (zN μ (upd (μ 0) 2 0) (μ 1)) ω (some (.int v))) : Sim l g yH cH nH hh AsH yM cM nM retM AsM κ μ ω cv :=
  ⟨κ, zN μ (upd (μ 0) 2 0) (μ 1), (w, ω.2), 0, v, lv, hlv, h.thr 0, hW, by have c := hM (w, ω.2); rw [zN_self] at c; exact c, rfl, fun _ => hw⟩
theorem sim_no (h : RR κ μ) {k b : Int32} {lv : Nat} (hk : ¬ k = 0) (hlv : lv ≤ 19) (hW : zMW l g yH cH nH hh 20 1 AsH κ μ ω κ μ ω k) (hM : zM l g yM cM nM retM lv 0 AsM κ (zN μ (μ 0) (μ 1)) ω κ (zN μ (upd (μ 0) 2 k) (μ 1)) ω (some (.int b))) : Sim l g yH cH nH hh AsH yM cM nM retM AsM κ μ ω cv :=
  ⟨κ, zN μ (upd (μ 0) 2 k) (μ 1), ω, k, b, lv, hlv, h.thr k, hW, by rw [zN_self] at hM; exact hM, rfl, fun q => absurd q hk⟩
/-- a command: both go on -/
theorem sim_go {κ' : zKp} {μ' : zMu} (h : RR κ' μ') {v : Int32} {w : Int64} {lv : Nat} (hlv : lv ≤ 19) (hw : w = cv v) (h2 : μ' 0 2 = 0) (hW : zMW l g yH cH nH hh 20 1 AsH κ μ ω κ' μ (w, ω.2) 0) (hM : ∀ ω : zOm, zM l g yM cM nM retM lv 0 AsM κ' (zN μ (μ 0) (μ 1)) ω κ' μ' ω (some (.int v))) : Sim l g yH cH nH hh AsH yM cM nM retM AsM κ μ ω cv :=
  ⟨κ', μ', (w, ω.2), 0, v, lv, hlv, h, hW, by have c := hM (w, ω.2); rw [zN_self] at c; exact c, h2, fun _ => hw⟩
theorem sim_nx {κ' : zKp} {μ' : zMu} (h : RR κ' μ') {k b : Int32} {lv : Nat} (hk : ¬ k = 0) (hlv : lv ≤ 19) (h2 : μ' 0 2 = k) (hW : zMW l g yH cH nH hh 20 1 AsH κ μ ω κ' μ ω k) (hM : zM l g yM cM nM retM lv 0 AsM κ' (zN μ (μ 0) (μ 1)) ω κ' μ' ω (some (.int b))) : Sim l g yH cH nH hh AsH yM cM nM retM AsM κ μ ω cv :=
  ⟨κ', μ', ω, k, b, lv, hlv, h, hW, by rw [zN_self] at hM; exact hM, h2, fun q => absurd q hk⟩
end
abbrev cvB : Int32 → Int64 := fun b => if b = 0 then 0 else 1
theorem num_n {n : Nat} (hn : n < 100000) (x : Int32) : ((x < 0 ∨ nI n ≤ x) ∧ ¬ (0 ≤ x ∧ x ≤ nI n - 1)) ∨ ∃ i, i < n ∧ x = nI i := by
  by_cases h : 0 ≤ x ∧ x < nI n
  · exact Or.inr (in_of rfl hn h.1 h.2)
  · refine Or.inl ⟨?_, fun q => h ⟨q.1, ?_⟩⟩
    · by_cases h0 : 0 ≤ x
      · exact Or.inr (Int32.not_lt.mp (fun q => h ⟨h0, q⟩))
      · exact Or.inl (Int32.not_le.mp h0)
    · cases n with
      | zero => exact absurd (Int32.le_trans q.1 q.2) (by decide)
      | succ n =>
        have e : nI (n + 1) - 1 = nI n := by rw [← nI_1 n]; exact Int32.add_sub_cancel _ _
        have q2 := q.2
        rw [e] at q2
        exact Int32.lt_of_le_of_lt q2 (lt_i (by omega) (by omega))
theorem sm_sideOf (l : Launch) (hl0 : l.stackTraces = false) {g : zG} {κ : zKp} {μ : zMu} {ω : zOm} (h : RR κ μ) (x : Int32) : Sim l g yL_sideOf cL_sideOf 4 hh_sideOf [.ref (gA g 0 0 0), .int x, .ref (gA g 19 0 0)] yX5_sideOf cX5_sideOf 2 (some .int) [.ref (gA g 10 0 0), .int x] κ μ ω Int32.toInt64 := by
  rcases num_c h.bI x with ⟨h1, h2⟩ | ⟨i, hlt, rfl, -, -, hL⟩
  · have c := no_X4_sideOf l hl0 (g := g) (κ := κ) (μ := μ) (ω := ω) (gb := μ 1) (cb := cellsOf (μ 1)) h1
    rw [h.eqF] at c
    exact sim_no h (by decide) (by decide) (he_sideOf_IOE l (by decide) c) (no_X5_sideOf l h2)
  · have c := ok_X4_sideOf l (g := g) (κ := κ) (μ := μ) (ω := ω) (gb := μ 1) (cb := cellsOf (μ 1)) h.n hlt
    rw [h.eqF] at c
    exact sim_ok h (by decide) rfl (hk_sideOf l (by decide) c) (fun _ => ok_X5_sideOf l h.n hlt)
theorem sm_strengthOf (l : Launch) (hl0 : l.stackTraces = false) {g : zG} {κ : zKp} {μ : zMu} {ω : zOm} (h : RR κ μ) (x : Int32) : Sim l g yL_strengthOf cL_strengthOf 4 hh_strengthOf [.ref (gA g 0 0 0), .int x, .ref (gA g 19 0 0)] yX5_strengthOf cX5_strengthOf 2 (some .int) [.ref (gA g 10 0 0), .int x] κ μ ω Int32.toInt64 := by
  rcases num_c h.bI x with ⟨h1, h2⟩ | ⟨i, hlt, rfl, -, -, hL⟩
  · have c := no_X4_strengthOf l hl0 (g := g) (κ := κ) (μ := μ) (ω := ω) (gb := μ 1) (cb := cellsOf (μ 1)) h1
    rw [h.eqF] at c
    exact sim_no h (by decide) (by decide) (he_strengthOf_IOE l (by decide) c) (no_X5_strengthOf l h2)
  · have c := ok_X4_strengthOf l (g := g) (κ := κ) (μ := μ) (ω := ω) (gb := μ 1) (cb := cellsOf (μ 1)) h.n hlt
    rw [h.eqF] at c
    exact sim_ok h (by decide) rfl (hk_strengthOf l (by decide) c) (fun _ => ok_X5_strengthOf l h.n hlt)
theorem sm_moraleOf (l : Launch) (hl0 : l.stackTraces = false) {g : zG} {κ : zKp} {μ : zMu} {ω : zOm} (h : RR κ μ) (x : Int32) : Sim l g yL_moraleOf cL_moraleOf 4 hh_moraleOf [.ref (gA g 0 0 0), .int x, .ref (gA g 19 0 0)] yX5_moraleOf cX5_moraleOf 2 (some .int) [.ref (gA g 10 0 0), .int x] κ μ ω Int32.toInt64 := by
  rcases num_c h.bI x with ⟨h1, h2⟩ | ⟨i, hlt, rfl, -, -, hL⟩
  · have c := no_X4_moraleOf l hl0 (g := g) (κ := κ) (μ := μ) (ω := ω) (gb := μ 1) (cb := cellsOf (μ 1)) h1
    rw [h.eqF] at c
    exact sim_no h (by decide) (by decide) (he_moraleOf_IOE l (by decide) c) (no_X5_moraleOf l h2)
  · have c := ok_X4_moraleOf l (g := g) (κ := κ) (μ := μ) (ω := ω) (gb := μ 1) (cb := cellsOf (μ 1)) h.n hlt
    rw [h.eqF] at c
    exact sim_ok h (by decide) rfl (hk_moraleOf l (by decide) c) (fun _ => ok_X5_moraleOf l h.n hlt)
theorem sm_routedTurns (l : Launch) (hl0 : l.stackTraces = false) {g : zG} {κ : zKp} {μ : zMu} {ω : zOm} (h : RR κ μ) (x : Int32) : Sim l g yL_routedTurns cL_routedTurns 4 hh_routedTurns [.ref (gA g 0 0 0), .int x, .ref (gA g 19 0 0)] yX5_routedTurns cX5_routedTurns 2 (some .int) [.ref (gA g 10 0 0), .int x] κ μ ω Int32.toInt64 := by
  rcases num_c h.bI x with ⟨h1, h2⟩ | ⟨i, hlt, rfl, -, -, hL⟩
  · have c := no_X4_routedTurns l hl0 (g := g) (κ := κ) (μ := μ) (ω := ω) (gb := μ 1) (cb := cellsOf (μ 1)) h1
    rw [h.eqF] at c
    exact sim_no h (by decide) (by decide) (he_routedTurns_IOE l (by decide) c) (no_X5_routedTurns l h2)
  · have c := ok_X4_routedTurns l (g := g) (κ := κ) (μ := μ) (ω := ω) (gb := μ 1) (cb := cellsOf (μ 1)) h.n hlt
    rw [h.eqF] at c
    exact sim_ok h (by decide) rfl (hk_routedTurns l (by decide) c) (fun _ => ok_X5_routedTurns l h.n hlt)
theorem sm_kindOf (l : Launch) (hl0 : l.stackTraces = false) {g : zG} {κ : zKp} {μ : zMu} {ω : zOm} (h : RR κ μ) (x : Int32) : Sim l g yL_kindOf cL_kindOf 4 hh_kindOf [.ref (gA g 0 0 0), .int x, .ref (gA g 19 0 0)] yX5_kindOf cX5_kindOf 3 (some .char) [.ref (gA g 10 0 0), .int x] κ μ ω Int32.toInt64 := by
  rcases num_c h.bI x with ⟨h1, h2⟩ | ⟨i, hlt, rfl, -, -, hL⟩
  · have c := no_X4_kindOf l hl0 (g := g) (κ := κ) (μ := μ) (ω := ω) (gb := μ 1) (cb := cellsOf (μ 1)) h1
    rw [h.eqF] at c
    exact sim_no h (by decide) (by decide) (he_kindOf_IOE l (by decide) c) (no_X5_kindOf l h2)
  · have c := ok_X4_kindOf l (g := g) (κ := κ) (μ := μ) (ω := ω) (gb := μ 1) (cb := cellsOf (μ 1)) h.n hlt hL
    rw [h.eqF] at c
    exact sim_ok h (by decide) rfl (hk_kindOf l (by decide) c) (fun _ => ok_X5_kindOf l h.n hlt hL)
theorem sm_isStanding (l : Launch) (hl0 : l.stackTraces = false) {g : zG} {κ : zKp} {μ : zMu} {ω : zOm} (h : RR κ μ) (x : Int32) : Sim l g yL_isStanding cL_isStanding 4 hh_isStanding [.ref (gA g 0 0 0), .int x, .ref (gA g 19 0 0)] yX5_isStanding cX5_isStanding 2 (some .boolean) [.ref (gA g 10 0 0), .int x] κ μ ω cvB := by
  rcases num_c h.bI x with ⟨h1, h2⟩ | ⟨i, hlt, rfl, -, -, hL⟩
  · have c := no_X4_isStanding l hl0 (g := g) (κ := κ) (μ := μ) (ω := ω) (gb := μ 1) (cb := cellsOf (μ 1)) h1
    rw [h.eqF] at c
    exact sim_no h (by decide) (by decide) (he_isStanding_IOE l (by decide) c) (no_X5_isStanding l h2)
  · have c := ok_X4_isStanding l (g := g) (κ := κ) (μ := μ) (ω := ω) (gb := μ 1) (cb := cellsOf (μ 1)) h.n hlt
    rw [h.eqF] at c
    exact sim_ok h (by decide) rfl (hk_isStanding l (by decide) c) (fun _ => ok_X5_isStanding l h.n hlt)
theorem sm_isRouted (l : Launch) (hl0 : l.stackTraces = false) {g : zG} {κ : zKp} {μ : zMu} {ω : zOm} (h : RR κ μ) (x : Int32) : Sim l g yL_isRouted cL_isRouted 4 hh_isRouted [.ref (gA g 0 0 0), .int x, .ref (gA g 19 0 0)] yX5_isRouted cX5_isRouted 2 (some .boolean) [.ref (gA g 10 0 0), .int x] κ μ ω cvB := by
  rcases num_c h.bI x with ⟨h1, h2⟩ | ⟨i, hlt, rfl, -, -, hL⟩
  · have c := no_X4_isRouted l hl0 (g := g) (κ := κ) (μ := μ) (ω := ω) (gb := μ 1) (cb := cellsOf (μ 1)) h1
    rw [h.eqF] at c
    exact sim_no h (by decide) (by decide) (he_isRouted_IOE l (by decide) c) (no_X5_isRouted l h2)
  · have c := ok_X4_isRouted l (g := g) (κ := κ) (μ := μ) (ω := ω) (gb := μ 1) (cb := cellsOf (μ 1)) h.n hlt
    rw [h.eqF] at c
    exact sim_ok h (by decide) rfl (hk_isRouted l (by decide) c) (fun _ => ok_X5_isRouted l h.n hlt)
theorem sm_attackOf (l : Launch) (hl0 : l.stackTraces = false) {g : zG} {κ : zKp} {μ : zMu} {ω : zOm} (h : RR κ μ) (x : Int32) : Sim l g yL_attackOf cL_attackOf 4 hh_attackOf [.ref (gA g 0 0 0), .int x, .ref (gA g 19 0 0)] yX5_attackOf cX5_attackOf 2 (some .int) [.ref (gA g 10 0 0), .int x] κ μ ω Int32.toInt64 := by
  rcases num_c h.bI x with ⟨h1, h2⟩ | ⟨i, hlt, rfl, -, -, hL⟩
  · have c := no_X4_attackOf l hl0 (g := g) (κ := κ) (μ := μ) (ω := ω) (gb := μ 1) (cb := cellsOf (μ 1)) h1
    rw [h.eqF] at c
    exact sim_no h (by decide) (by decide) (he_attackOf_IOE l (by decide) c) (no_X5_attackOf l h2)
  · have c := ok_X4_attackOf l (g := g) (κ := κ) (μ := μ) (ω := ω) (gb := μ 1) (cb := cellsOf (μ 1)) h.n hlt
    rw [h.eqF] at c
    exact sim_ok h (by decide) rfl (hk_attackOf l (by decide) c) (fun _ => ok_X5_attackOf l h.n hlt hL)
theorem sm_counterOf (l : Launch) (hl0 : l.stackTraces = false) {g : zG} {κ : zKp} {μ : zMu} {ω : zOm} (h : RR κ μ) (x : Int32) : Sim l g yL_counterOf cL_counterOf 4 hh_counterOf [.ref (gA g 0 0 0), .int x, .ref (gA g 19 0 0)] yX5_counterOf cX5_counterOf 2 (some .int) [.ref (gA g 10 0 0), .int x] κ μ ω Int32.toInt64 := by
  rcases num_c h.bI x with ⟨h1, h2⟩ | ⟨i, hlt, rfl, -, -, hL⟩
  · have c := no_X4_counterOf l hl0 (g := g) (κ := κ) (μ := μ) (ω := ω) (gb := μ 1) (cb := cellsOf (μ 1)) h1
    rw [h.eqF] at c
    exact sim_no h (by decide) (by decide) (he_counterOf_IOE l (by decide) c) (no_X5_counterOf l h2)
  · have c := ok_X4_counterOf l (g := g) (κ := κ) (μ := μ) (ω := ω) (gb := μ 1) (cb := cellsOf (μ 1)) h.n hlt
    rw [h.eqF] at c
    exact sim_ok h (by decide) rfl (hk_counterOf l (by decide) c) (fun _ => ok_X5_counterOf l h.n hlt)
theorem sm_laneOf (l : Launch) (hl0 : l.stackTraces = false) {g : zG} {κ : zKp} {μ : zMu} {ω : zOm} (h : RR κ μ) (x : Int32) : Sim l g yL_laneOf cL_laneOf 4 hh_laneOf [.ref (gA g 0 0 0), .int x, .ref (gA g 19 0 0)] yX5_laneOf cX5_laneOf 2 (some .int) [.ref (gA g 10 0 0), .int x] κ μ ω Int32.toInt64 := by
  rcases num_c h.bI x with ⟨h1, h2⟩ | ⟨i, hlt, rfl, -, -, hL⟩
  · have c := no_X4_laneOf l hl0 (g := g) (κ := κ) (μ := μ) (ω := ω) (gb := μ 1) (cb := cellsOf (μ 1)) h1
    rw [h.eqF] at c
    exact sim_no h (by decide) (by decide) (he_laneOf_IOE l (by decide) c) (no_X5_laneOf l h2)
  · by_cases h7 : bf (μ 1) i 7 = 2
    · have c := go_X4_laneOf l hl0 (g := g) (κ := κ) (μ := μ) (ω := ω) (gb := μ 1) (cb := cellsOf (μ 1)) h.n hlt h7
      rw [h.eqF] at c
      exact sim_no h (by decide) (by decide) (he_laneOf_NSE l (by decide) c) (go_X5_laneOf l h.n hlt h7)
    · have c := ok_X4_laneOf l (g := g) (κ := κ) (μ := μ) (ω := ω) (gb := μ 1) (cb := cellsOf (μ 1)) h.n hlt h7
      rw [h.eqF] at c
      exact sim_ok h (by decide) rfl (hk_laneOf l (by decide) c) (fun _ => ok_X5_laneOf l h.n hlt h7)
theorem sm_columnOf (l : Launch) (hl0 : l.stackTraces = false) {g : zG} {κ : zKp} {μ : zMu} {ω : zOm} (h : RR κ μ) (x : Int32) : Sim l g yL_columnOf cL_columnOf 4 hh_columnOf [.ref (gA g 0 0 0), .int x, .ref (gA g 19 0 0)] yX5_columnOf cX5_columnOf 2 (some .int) [.ref (gA g 10 0 0), .int x] κ μ ω Int32.toInt64 := by
  rcases num_c h.bI x with ⟨h1, h2⟩ | ⟨i, hlt, rfl, -, -, hL⟩
  · have c := no_X4_columnOf l hl0 (g := g) (κ := κ) (μ := μ) (ω := ω) (gb := μ 1) (cb := cellsOf (μ 1)) h1
    rw [h.eqF] at c
    exact sim_no h (by decide) (by decide) (he_columnOf_IOE l (by decide) c) (no_X5_columnOf l h2)
  · by_cases h7 : bf (μ 1) i 7 = 2
    · have c := go_X4_columnOf l hl0 (g := g) (κ := κ) (μ := μ) (ω := ω) (gb := μ 1) (cb := cellsOf (μ 1)) h.n hlt h7
      rw [h.eqF] at c
      exact sim_no h (by decide) (by decide) (he_columnOf_NSE l (by decide) c) (go_X5_columnOf l h.n hlt h7)
    · have c := ok_X4_columnOf l (g := g) (κ := κ) (μ := μ) (ω := ω) (gb := μ 1) (cb := cellsOf (μ 1)) h.n hlt h7
      rw [h.eqF] at c
      exact sim_ok h (by decide) rfl (hk_columnOf l (by decide) c) (fun _ => ok_X5_columnOf l h.n hlt h7)
theorem sm_supportByLines (l : Launch) (hl0 : l.stackTraces = false) {g : zG} {κ : zKp} {μ : zMu} {ω : zOm} (h : RR κ μ) (x : Int32) : Sim l g yL_supportByLines cL_supportByLines 4 hh_supportByLines [.ref (gA g 0 0 0), .int x, .ref (gA g 19 0 0)] yX5_supportByLines cX5_supportByLines 2 (some .int) [.ref (gA g 10 0 0), .int x] κ μ ω Int32.toInt64 := by
  rcases num_c h.bI x with ⟨h1, h2⟩ | ⟨i, hlt, rfl, -, -, hL⟩
  · have c := no_X4_supportByLines l hl0 (g := g) (κ := κ) (μ := μ) (ω := ω) (gb := μ 1) (cb := cellsOf (μ 1)) h1
    rw [h.eqF] at c
    exact sim_no h (by decide) (by decide) (he_supportByLines_IOE l (by decide) c) (no_X5_supportByLines l h2)
  · by_cases h7 : bf (μ 1) i 7 = 2
    · have c := go_X4_supportByLines l hl0 (g := g) (κ := κ) (μ := μ) (ω := ω) (gb := μ 1) (cb := cellsOf (μ 1)) h.n hlt h7
      rw [h.eqF] at c
      exact sim_no h (by decide) (by decide) (he_supportByLines_NSE l (by decide) c) (go_X5_supportByLines l h.n hlt h7)
    · have c := ok_X4_supportByLines l (g := g) (κ := κ) (μ := μ) (ω := ω) (gb := μ 1) (cb := cellsOf (μ 1)) h.bI.1 hlt h7
      rw [h.eqF] at c
      exact sim_ok h (by decide) rfl (hk_supportByLines l (by decide) c) (fun _ => ok_X5_supportByLines l h.n hlt h7)
theorem sm_supportOf (l : Launch) (hl0 : l.stackTraces = false) {g : zG} {κ : zKp} {μ : zMu} {ω : zOm} (h : RR κ μ) (x : Int32) : Sim l g yL_supportOf cL_supportOf 4 hh_supportOf [.ref (gA g 0 0 0), .int x, .ref (gA g 19 0 0)] yX5_supportOf cX5_supportOf 2 (some .int) [.ref (gA g 10 0 0), .int x] κ μ ω Int32.toInt64 := by
  rcases num_c h.bI x with ⟨h1, h2⟩ | ⟨i, hlt, rfl, -, -, hL⟩
  · have c := no_X4_supportOf l hl0 (g := g) (κ := κ) (μ := μ) (ω := ω) (gb := μ 1) (cb := cellsOf (μ 1)) h1
    rw [h.eqF] at c
    exact sim_no h (by decide) (by decide) (he_supportOf_IOE l (by decide) c) (no_X5_supportOf l h2)
  · by_cases h7 : bf (μ 1) i 7 = 2
    · have c := go_X4_supportOf l hl0 (g := g) (κ := κ) (μ := μ) (ω := ω) (gb := μ 1) (cb := cellsOf (μ 1)) h.n hlt h7
      rw [h.eqF] at c
      exact sim_no h (by decide) (by decide) (he_supportOf_NSE l (by decide) c) (go_X5_supportOf l h.n hlt h7)
    · have c := ok_X4_supportOf l (g := g) (κ := κ) (μ := μ) (ω := ω) (gb := μ 1) (cb := cellsOf (μ 1)) h.bI.1 rfl hlt h7
      rw [h.eqF] at c
      exact sim_ok h (by decide) rfl (hk_supportOf l (by decide) c) (fun _ => ok_X5_supportOf l h.n hlt h7)
theorem sm_orderOf (l : Launch) (hl0 : l.stackTraces = false) {g : zG} {κ : zKp} {μ : zMu} {ω : zOm} (h : RR κ μ) (x : Int32) : Sim l g yL_orderOf cL_orderOf 4 hh_orderOf [.ref (gA g 0 0 0), .int x, .ref (gA g 19 0 0)] yX5_orderOf cX5_orderOf 2 (some .char) [.ref (gA g 10 0 0), .int x] κ μ ω Int32.toInt64 := by
  rcases num_c h.bI x with ⟨h1, h2⟩ | ⟨i, hlt, rfl, -, -, hL⟩
  · have c := no_X4_orderOf l hl0 (g := g) (κ := κ) (μ := μ) (ω := ω) (gb := μ 1) (cb := cellsOf (μ 1)) h1
    rw [h.eqF] at c
    exact sim_no h (by decide) (by decide) (he_orderOf_IOE l (by decide) c) (no_X5_orderOf l h2)
  · by_cases h7 : ¬ bf (μ 1) i 7 = 0
    · have c := go_X4_orderOf l hl0 (g := g) (κ := κ) (μ := μ) (ω := ω) (gb := μ 1) (cb := cellsOf (μ 1)) h.n hlt h7
      rw [h.eqF] at c
      exact sim_no h (by decide) (by decide) (he_orderOf_ISE l (by decide) c) (go_X5_orderOf l h.n hlt h7)
    · have c := ok_X4_orderOf l (g := g) (κ := κ) (μ := μ) (ω := ω) (gb := μ 1) (cb := cellsOf (μ 1)) h.n hlt (Classical.not_not.mp h7) hL
      rw [h.eqF] at c
      exact sim_ok h (by decide) rfl (hk_orderOf l (by decide) c) (fun _ => ok_X5_orderOf l h.n hlt (Classical.not_not.mp h7) hL)
theorem sm_enemyAhead (l : Launch) (hl0 : l.stackTraces = false) {g : zG} {κ : zKp} {μ : zMu} {ω : zOm} (h : RR κ μ) (x : Int32) : Sim l g yL_enemyAhead cL_enemyAhead 4 hh_enemyAhead [.ref (gA g 0 0 0), .int x, .ref (gA g 19 0 0)] yX5_enemyAhead cX5_enemyAhead 6 (some .int) [.ref (gA g 10 0 0), .int x] κ μ ω Int32.toInt64 := by
  rcases num_c h.bI x with ⟨h1, h2⟩ | ⟨i, hlt, rfl, -, -, hL⟩
  · have c := no_X4_enemyAhead l hl0 (g := g) (κ := κ) (μ := μ) (ω := ω) (gb := μ 1) (cb := cellsOf (μ 1)) h1
    rw [h.eqF] at c
    exact sim_no h (by decide) (by decide) (he_enemyAhead_IOE l (by decide) c) (no_X5_enemyAhead l h2)
  · by_cases h7 : bf (μ 1) i 7 = 2
    · have c := go_X4_enemyAhead l hl0 (g := g) (κ := κ) (μ := μ) (ω := ω) (gb := μ 1) (cb := cellsOf (μ 1)) h.n hlt h7
      rw [h.eqF] at c
      exact sim_no h (by decide) (by decide) (he_enemyAhead_NSE l (by decide) c) (go_X5_enemyAhead l h.n hlt h7)
    · rcases gl_en (g := μ 1) (i := i) h.n.1 with h0 | h0
      · have c := em_X4_enemyAhead l hl0 (g := g) (κ := κ) (μ := μ) (ω := ω) (gb := μ 1) (cb := cellsOf (μ 1)) h.n rfl hlt h7 h0
        rw [h.eqF] at c
        exact sim_no h (by decide) (by decide) (he_enemyAhead_NSE l (by decide) c) (em_X5_enemyAhead l h.bI.1 hlt h7 (by rw [h0]; decide))
      · have c := ok_X4_enemyAhead l (g := g) (κ := κ) (μ := μ) (ω := ω) (gb := μ 1) (cb := cellsOf (μ 1)) h.n rfl hlt h7 (fun q => by rw [q] at h0; exact absurd h0 (by decide))
        rw [h.eqF] at c
        exact sim_ok h (by decide) rfl (hk_enemyAhead l (by decide) c) (fun _ => ok_X5_enemyAhead l h.bI.1 hlt h7 h0)
theorem sm_enemyByDistances (l : Launch) (hl0 : l.stackTraces = false) {g : zG} {κ : zKp} {μ : zMu} {ω : zOm} (h : RR κ μ) (x : Int32) : Sim l g yL_enemyByDistances cL_enemyByDistances 4 hh_enemyByDistances [.ref (gA g 0 0 0), .int x, .ref (gA g 19 0 0)] yX5_enemyByDistances cX5_enemyByDistances 2 (some .int) [.ref (gA g 10 0 0), .int x] κ μ ω Int32.toInt64 := by
  rcases num_c h.bI x with ⟨h1, h2⟩ | ⟨i, hlt, rfl, -, -, hL⟩
  · have c := no_X4_enemyByDistances l hl0 (g := g) (κ := κ) (μ := μ) (ω := ω) (gb := μ 1) (cb := cellsOf (μ 1)) h1
    rw [h.eqF] at c
    exact sim_no h (by decide) (by decide) (he_enemyByDistances_IOE l (by decide) c) (no_X5_enemyByDistances l h2)
  · by_cases h7 : bf (μ 1) i 7 = 2
    · have c := go_X4_enemyByDistances l hl0 (g := g) (κ := κ) (μ := μ) (ω := ω) (gb := μ 1) (cb := cellsOf (μ 1)) h.n hlt h7
      rw [h.eqF] at c
      exact sim_no h (by decide) (by decide) (he_enemyByDistances_NSE l (by decide) c) (go_X5_enemyByDistances l h.n hlt h7)
    · rcases gl_en (g := μ 1) (i := i) h.n.1 with h0 | h0
      · have c := em_X4_enemyByDistances l hl0 (g := g) (κ := κ) (μ := μ) (ω := ω) (gb := μ 1) (cb := cellsOf (μ 1)) h.bI.1 hlt h7 h0
        rw [h.eqF] at c
        exact sim_no h (by decide) (by decide) (he_enemyByDistances_NSE l (by decide) c) (em_X5_enemyByDistances l h.bI.1 hlt h7 (by rw [h0]; decide))
      · have c := ok_X4_enemyByDistances l (g := g) (κ := κ) (μ := μ) (ω := ω) (gb := μ 1) (cb := cellsOf (μ 1)) h.bI.1 hlt h7 (fun q => by rw [q] at h0; exact absurd h0 (by decide))
        rw [h.eqF] at c
        exact sim_ok h (by decide) rfl (hk_enemyByDistances l (by decide) c) (fun _ => ok_X5_enemyByDistances l h.bI.1 hlt h7 h0)
theorem sm_jarsOf (l : Launch) (hl0 : l.stackTraces = false) {g : zG} {κ : zKp} {μ : zMu} {ω : zOm} (h : RR κ μ) (x : Int32) : Sim l g yL_jarsOf cL_jarsOf 4 hh_jarsOf [.ref (gA g 0 0 0), .int x, .ref (gA g 19 0 0)] yX5_jarsOf cX5_jarsOf 2 (some .int) [.ref (gA g 10 0 0), .int x] κ μ ω Int32.toInt64 := by
  by_cases hx : 0 ≤ x ∧ x < 2
  · have c := ok_X4_jarsOf l (g := g) (κ := κ) (μ := μ) (ω := ω) (gb := μ 1) (cb := cellsOf (μ 1)) h.n hx
    rw [h.eqF] at c
    exact sim_ok h (by decide) rfl (hk_jarsOf l (by decide) c) (fun _ => ok_X5_jarsOf l (gl_side.mp hx))
  · have c := no_X4_jarsOf l hl0 (g := g) (κ := κ) (μ := μ) (ω := ω) (gb := μ 1) (cb := cellsOf (μ 1)) hx
    rw [h.eqF] at c
    exact sim_no h (by decide) (by decide) (he_jarsOf_IAE l (by decide) c) (no_X5_jarsOf l (fun q => hx (gl_side.mpr q)))
theorem sm_strengthOfSide (l : Launch) (hl0 : l.stackTraces = false) {g : zG} {κ : zKp} {μ : zMu} {ω : zOm} (h : RR κ μ) (x : Int32) : Sim l g yL_strengthOfSide cL_strengthOfSide 4 hh_strengthOfSide [.ref (gA g 0 0 0), .int x, .ref (gA g 19 0 0)] yX5_strengthOfSide cX5_strengthOfSide 2 (some .int) [.ref (gA g 10 0 0), .int x] κ μ ω Int32.toInt64 := by
  by_cases hx : 0 ≤ x ∧ x < 2
  · have c := ok_X4_strengthOfSide l (g := g) (κ := κ) (μ := μ) (ω := ω) (gb := μ 1) (cb := cellsOf (μ 1)) h.n hx
    rw [h.eqF] at c
    exact sim_ok h (by decide) rfl (hk_strengthOfSide l (by decide) c) (fun _ => ok_X5_strengthOfSide l (gl_side.mp hx) h.n)
  · have c := no_X4_strengthOfSide l hl0 (g := g) (κ := κ) (μ := μ) (ω := ω) (gb := μ 1) (cb := cellsOf (μ 1)) hx
    rw [h.eqF] at c
    exact sim_no h (by decide) (by decide) (he_strengthOfSide_IAE l (by decide) c) (no_X5_strengthOfSide l (fun q => hx (gl_side.mpr q)))
theorem sm_strengthByCells (l : Launch) (hl0 : l.stackTraces = false) {g : zG} {κ : zKp} {μ : zMu} {ω : zOm} (h : RR κ μ) (x : Int32) : Sim l g yL_strengthByCells cL_strengthByCells 4 hh_strengthByCells [.ref (gA g 0 0 0), .int x, .ref (gA g 19 0 0)] yX5_strengthByCells cX5_strengthByCells 2 (some .int) [.ref (gA g 10 0 0), .int x] κ μ ω Int32.toInt64 := by
  by_cases hx : 0 ≤ x ∧ x < 2
  · have c := ok_X4_strengthByCells l (g := g) (κ := κ) (μ := μ) (ω := ω) (gb := μ 1) (cb := cellsOf (μ 1)) h.bI rfl hx
    rw [h.eqF] at c
    exact sim_ok h (by decide) rfl (hk_strengthByCells l (by decide) c) (fun _ => ok_X5_strengthByCells l (gl_side.mp hx) h.n)
  · have c := no_X4_strengthByCells l hl0 (g := g) (κ := κ) (μ := μ) (ω := ω) (gb := μ 1) (cb := cellsOf (μ 1)) hx
    rw [h.eqF] at c
    exact sim_no h (by decide) (by decide) (he_strengthByCells_IAE l (by decide) c) (no_X5_strengthByCells l (fun q => hx (gl_side.mpr q)))
theorem sm_fallenOf (l : Launch) (hl0 : l.stackTraces = false) {g : zG} {κ : zKp} {μ : zMu} {ω : zOm} (h : RR κ μ) (x : Int32) : Sim l g yL_fallenOf cL_fallenOf 4 hh_fallenOf [.ref (gA g 0 0 0), .int x, .ref (gA g 19 0 0)] yX5_fallenOf cX5_fallenOf 5 (some .int) [.ref (gA g 10 0 0), .int x] κ μ ω Int32.toInt64 := by
  by_cases hx : 0 ≤ x ∧ x < 2
  · have c := ok_X4_fallenOf l (g := g) (κ := κ) (μ := μ) (ω := ω) (gb := μ 1) (cb := cellsOf (μ 1)) h.n hx
    rw [h.eqF] at c
    exact sim_ok h (by decide) rfl (hk_fallenOf l (by decide) c) (fun _ => ok_X5_fallenOf l (gl_side.mp hx) h.n)
  · have c := no_X4_fallenOf l hl0 (g := g) (κ := κ) (μ := μ) (ω := ω) (gb := μ 1) (cb := cellsOf (μ 1)) hx
    rw [h.eqF] at c
    exact sim_no h (by decide) (by decide) (he_fallenOf_IAE l (by decide) c) (no_X5_fallenOf l (fun q => hx (gl_side.mpr q)))
theorem sm_lineIn (l : Launch) (hl0 : l.stackTraces = false) {g : zG} {κ : zKp} {μ : zMu} {ω : zOm} (h : RR κ μ) (x y : Int32) : Sim l g yL_lineIn cL_lineIn 5 hh_lineIn [.ref (gA g 0 0 0), .int x, .int y, .ref (gA g 19 0 0)] yX5_lineIn cX5_lineIn 4 (some .int) [.ref (gA g 10 0 0), .int x, .int y] κ μ ω Int32.toInt64 := by
  by_cases hx : (0 ≤ x ∧ x < 3) ∧ (0 ≤ y ∧ y < 10)
  · rcases gl_occ (g := μ 1) h.n.1 hx.1 (gl_col.mp hx.2) with ⟨ho, hc0⟩ | ⟨j, ho, hc0, e⟩
    · have c := go_X4_lineIn l hl0 (g := g) (κ := κ) (μ := μ) (ω := ω) (gb := μ 1) (cb := cellsOf (μ 1)) h.n rfl hx.1 hx.2 ho
      rw [h.eqF] at c
      exact sim_no h (by decide) (by decide) (he_lineIn_NSE l (by decide) c) (go_X5_lineIn l h.n (gl_lane.mp hx.1) (gl_col.mp hx.2) hc0)
    · have c := ok_X4_lineIn l (g := g) (κ := κ) (μ := μ) (ω := ω) (gb := μ 1) (cb := cellsOf (μ 1)) h.n rfl hx.1 hx.2 ho
      rw [h.eqF] at c
      exact sim_ok (lv := 4) h (by decide) rfl (hk_lineIn l (by decide) c) (fun w => by have c2 := ok_X5_lineIn l (g := g) (κ := κ) (μ := μ) (ω := w) (a := μ 0) (b := μ 1) h.n (gl_lane.mp hx.1) (gl_col.mp hx.2) hc0; rw [e] at c2; exact c2)
  · have c := no_X4_lineIn l hl0 (g := g) (κ := κ) (μ := μ) (ω := ω) (gb := μ 1) (cb := cellsOf (μ 1)) hx
    rw [h.eqF] at c
    exact sim_no h (by decide) (by decide) (he_lineIn_IOE l (by decide) c) (no_X5_lineIn l h.n (fun q => hx ⟨gl_lane.mpr q.1, gl_col.mpr q.2⟩))
theorem sm_frontOf (l : Launch) (hl0 : l.stackTraces = false) {g : zG} {κ : zKp} {μ : zMu} {ω : zOm} (h : RR κ μ) (x y : Int32) : Sim l g yL_frontOf cL_frontOf 5 hh_frontOf [.ref (gA g 0 0 0), .int x, .int y, .ref (gA g 19 0 0)] yX5_frontOf cX5_frontOf 8 (some .int) [.ref (gA g 10 0 0), .int x, .int y] κ μ ω Int32.toInt64 := by
  by_cases hx : (0 ≤ x ∧ x < 2) ∧ (0 ≤ y ∧ y < 3)
  · rcases gl_fro (g := μ 1) (x := x) (y := y) 10 (Nat.le_refl _) with h0 | h0
    · have c := go_X4_frontOf l hl0 (g := g) (κ := κ) (μ := μ) (ω := ω) (gb := μ 1) (cb := cellsOf (μ 1)) h.n rfl hx.1 hx.2 h0
      rw [h.eqF] at c
      exact sim_no h (by decide) (by decide) (he_frontOf_NSE l (by decide) c) (go_X5_frontOf l h.n (gl_side.mp hx.1) (gl_lane.mp hx.2) (by rw [h0]; decide))
    · have c := ok_X4_frontOf l (g := g) (κ := κ) (μ := μ) (ω := ω) (gb := μ 1) (cb := cellsOf (μ 1)) h.n rfl hx.1 hx.2 (fun q => by rw [q] at h0; exact absurd h0 (by decide))
      rw [h.eqF] at c
      exact sim_ok h (by decide) rfl (hk_frontOf l (by decide) c) (fun _ => ok_X5_frontOf l h.n (gl_side.mp hx.1) (gl_lane.mp hx.2) h0)
  · have c := no_X4_frontOf l hl0 (g := g) (κ := κ) (μ := μ) (ω := ω) (gb := μ 1) (cb := cellsOf (μ 1)) hx
    rw [h.eqF] at c
    exact sim_no h (by decide) (by decide) (he_frontOf_IAE l (by decide) c) (no_X5_frontOf l (fun q => hx ⟨gl_side.mpr q.1, gl_lane.mpr q.2⟩))
theorem sm_leader (l : Launch) (hl0 : l.stackTraces = false) {g : zG} {κ : zKp} {μ : zMu} {ω : zOm} (h : RR κ μ) : Sim l g yL_leader cL_leader 3 hh_leader [.ref (gA g 0 0 0), .ref (gA g 19 0 0)] yX5_leader cX5_leader 2 (some .int) [.ref (gA g 10 0 0)] κ μ ω Int32.toInt64 := by
  by_cases h0 : sumB (μ 1) 0 - sumB (μ 1) 1 = 0
  · have c := no_X4_leader l hl0 (g := g) (κ := κ) (μ := μ) (ω := ω) (gb := μ 1) (cb := cellsOf (μ 1)) h.n h0
    rw [h.eqF] at c
    exact sim_no h (by decide) (by decide) (he_leader_NSE l (by decide) c) (no_X5_leader l h.n h0)
  · have e : (if sumB (μ 1) 0 - sumB (μ 1) 1 < 0 then (1 : Int32) else 0) = if 0 < sumB (μ 1) 0 - sumB (μ 1) 1 then 0 else 1 := by
      by_cases q : sumB (μ 1) 0 - sumB (μ 1) 1 < 0
      · rw [if_pos q, if_neg (Int32.lt_asymm q)]
      · rw [if_neg q, if_pos (Int32.lt_of_le_of_ne (Int32.not_lt.mp q) (Ne.symm h0))]
    have c := ok_X4_leader l (g := g) (κ := κ) (μ := μ) (ω := ω) (gb := μ 1) (cb := cellsOf (μ 1)) h.n h0
    rw [h.eqF] at c
    exact sim_ok (lv := 4) h (by decide) rfl (hk_leader l (by decide) c) (fun w => by have c2 := ok_X5_leader l (g := g) (κ := κ) (μ := μ) (ω := w) (a := μ 0) (b := μ 1) h.n h0; rw [e] at c2; exact c2)
theorem sm_lineByStrength (l : Launch) (hl0 : l.stackTraces = false) {g : zG} {κ : zKp} {μ : zMu} {ω : zOm} (h : RR κ μ) (x : Int32) : Sim l g yL_lineByStrength cL_lineByStrength 4 hh_lineByStrength [.ref (gA g 0 0 0), .int x, .ref (gA g 19 0 0)] yX5_lineByStrength cX5_lineByStrength 8 (some .int) [.ref (gA g 10 0 0), .int x] κ μ ω Int32.toInt64 := by
  rcases num_c h.bI x with ⟨h1, h2⟩ | ⟨r, hr, rfl, -, h2, -⟩
  · have c := no_X4_lineByStrength l hl0 (g := g) (κ := κ) (μ := μ) (ω := ω) (gb := μ 1) (cb := cellsOf (μ 1)) h.n (rk_no h.bI h2)
    rw [h.eqF] at c
    exact sim_no h (by decide) (by decide) (he_lineByStrength_NSE l (by decide) c) (no_X5_lineByStrength l h.bI h2)
  · obtain ⟨i, hi, he, hne⟩ := rk_yes h.bI hr
    have c := ok_X4_lineByStrength l (g := g) (κ := κ) (μ := μ) (ω := ω) (gb := μ 1) (cb := cellsOf (μ 1)) h.n hi he (fun j hj => hne j (by omega) (by omega))
    rw [h.eqF] at c
    exact sim_ok h (by decide) rfl (hk_lineByStrength l (by decide) c) (fun _ => ok_X5_lineByStrength l h.bI hi h2 he hne)
theorem sm_writtenAt (l : Launch) (hl0 : l.stackTraces = false) {g : zG} {κ : zKp} {μ : zMu} {ω : zOm} (h : RR κ μ) (x : Int32) : Sim l g yL_writtenAt cL_writtenAt 4 hh_writtenAt [.ref (gA g 0 0 0), .int x, .ref (gA g 19 0 0)] yX5_writtenAt cX5_writtenAt 2 (some .char) [.ref (gA g 10 0 0), .int x] κ μ ω Int32.toInt64 := by
  obtain ⟨e1, w, hw, k0, m3, hch⟩ := h.wr
  rcases num_n (n := w) (by omega) x with ⟨h1, h2⟩ | ⟨q, hq, rfl⟩
  · have c := no_X4_writtenAt l hl0 (g := g) (κ := κ) (μ := μ) (ω := ω) hw k0 h1
    exact sim_no h (by decide) (by decide) (he_writtenAt_IOE l (by decide) c) (no_X5_writtenAt l (by rw [m3]; exact h2))
  · obtain ⟨b, hb, eb⟩ := hch q hq
    have hc : narrow .char (.int (μ 6 q)) = .int (μ 6 q) := by rw [eb]; exact (pk_charN (by omega)).1
    have c := ok_X4_writtenAt l (g := g) (κ := κ) (μ := μ) (ω := ω) hq hw k0 (by rw [e1]; exact hc)
    rw [e1] at c
    exact sim_ok h (by decide) rfl (hk_writtenAt l (by decide) c) (fun _ => ok_X5_writtenAt l hq (by omega) m3 hc)
theorem sm_errorPosition (l : Launch) (hl0 : l.stackTraces = false) {g : zG} {κ : zKp} {μ : zMu} {ω : zOm} (h : RR κ μ) : Sim l g yL_errorPosition cL_errorPosition 3 hh_errorPosition [.ref (gA g 0 0 0), .ref (gA g 19 0 0)] yX5_errorPosition cX5_errorPosition 1 (some .int) [.ref (gA g 10 0 0)] κ μ ω Int32.toInt64 := by
  obtain ⟨e, h0⟩ := h.er.1
  rcases h0 with h0 | h0
  · have c := no_X4_errorPosition l hl0 (g := g) (κ := κ) (μ := μ) (ω := ω) (by rw [e]; exact h0)
    exact sim_no h (by decide) (by decide) (he_errorPosition_NSE l (by decide) c) (no_X5_errorPosition l (by rw [h0]; decide))
  · have c := ok_X4_errorPosition l (g := g) (κ := κ) (μ := μ) (ω := ω) (gb := μ 1) (cb := μ 1) (by rw [e]; intro q; rw [q] at h0; exact absurd h0 (by decide))
    rw [e] at c
    exact sim_ok h (by decide) rfl (hk_errorPosition l (by decide) c) (fun _ => ok_X5_errorPosition l h0)
theorem sm_failedCommand (l : Launch) (hl0 : l.stackTraces = false) {g : zG} {κ : zKp} {μ : zMu} {ω : zOm} (h : RR κ μ) : Sim l g yL_failedCommand cL_failedCommand 3 hh_failedCommand [.ref (gA g 0 0 0), .ref (gA g 19 0 0)] yX5_failedCommand cX5_failedCommand 1 (some .int) [.ref (gA g 10 0 0)] κ μ ω Int32.toInt64 := by
  obtain ⟨e, h0⟩ := h.er.2
  rcases h0 with h0 | h0
  · have c := no_X4_failedCommand l hl0 (g := g) (κ := κ) (μ := μ) (ω := ω) (by rw [e]; exact h0)
    exact sim_no h (by decide) (by decide) (he_failedCommand_NSE l (by decide) c) (no_X5_failedCommand l (by rw [h0]; decide))
  · have c := ok_X4_failedCommand l (g := g) (κ := κ) (μ := μ) (ω := ω) (gb := μ 1) (cb := μ 1) (by rw [e]; intro q; rw [q] at h0; exact absurd h0 (by decide))
    rw [e] at c
    exact sim_ok h (by decide) rfl (hk_failedCommand l (by decide) c) (fun _ => ok_X5_failedCommand l h0)
end ZSM
