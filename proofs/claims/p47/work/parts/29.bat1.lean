section ZB1
theorem z0lt : (0 : Nat) < 11 := by decide
theorem z1lt : (1 : Nat) < 11 := by decide
theorem z2lt : (2 : Nat) < 11 := by decide
set_option maxHeartbeats 4000000 in
set_option maxRecDepth 100000 in
theorem ok_X4_known (l : Launch) {g : zG} {κ : zKp} {μ : zMu} {ω : zOm} {gb cb : Nat → Int32} {i : Nat} (hn : bnI gb) (hlt : i < bn gb)  : zM l g yX4_known cX4_known 3 (some (.object "LineBattle$Line")) 2 0 [.ref (gA g 0 0 0), .int (nI i)] (zF κ 0 gb cb) μ ω (zF κ 0 gb cb) μ ω (some (.ref (gA g 9 0 i))) := by
  refine zM_of (by decide) (Nat.le_of_ble_eq_true rfl) (fun p e R s m args below meth c hX => ?_)
  show zZ p l e R s m args below meth c g 3 _ _ _ _ 0 0 [(0, .ref (gA g 0 0 0)), (1, .int (nI i))] []
  refine z_aload_n hX dX4_known_0 0 rfl ?_
  refine zg_X4_field hX   fl_RX4_10 dX4_known_1 ?_
  refine z_iload_n hX dX4_known_4 1 rfl ?_
  refine z_callV1 hX (ok_line_in l z0lt hn hlt) cv_RX4_330 (zRc6 z0lt) dX4_known_5 (by decide) rfl rfl (Nat.le_of_ble_eq_true rfl) ?_
  refine z_astore_n (lv' := [(2, _), (0, _), (1, _)]) hX dX4_known_8 (by decide) rfl ?_
  refine z_aload_n hX dX4_known_9 0 rfl ?_
  refine z_ifnonnull (tgt := 23) hX dX4_known_10 (by decide) ?_
  refine z_aload_n hX dX4_known_23 0 rfl ?_
  exact z_aret hX dX4_known_24 (by decide) (Or.inr ⟨_, rfl⟩) rfl (fun _ h => h)
set_option maxHeartbeats 4000000 in
set_option maxRecDepth 100000 in
theorem no_X4_known (l : Launch) (hl0 : l.stackTraces = false) {g : zG} {κ : zKp} {μ : zMu} {ω : zOm} {gb cb : Nat → Int32} {x : Int32} (hx : x < 0 ∨ gb 0 ≤ x)  : zMx l g yX4_known cX4_known 3 (some (.object "LineBattle$Line")) 6 1 [.ref (gA g 0 0 0), .int x] (zF κ 0 gb cb) μ ω (zF κ 0 gb cb) μ ω (.error xIOE) := by
  refine zMx_of (by decide) (Nat.le_of_ble_eq_true rfl) (fun p e R s m args below meth c hX hT => ?_)
  show zZ p l e R s m args below meth c g 3 _ _ _ _ 0 0 [(0, .ref (gA g 0 0 0)), (1, .int x)] []
  refine z_aload_n hX dX4_known_0 0 rfl ?_
  refine zg_X4_field hX   fl_RX4_10 dX4_known_1 ?_
  refine z_iload_n hX dX4_known_4 1 rfl ?_
  refine z_callV1 hX (ok_line_out l z0lt hx) cv_RX4_330 (zRc6 z0lt) dX4_known_5 (by decide) rfl rfl (Nat.le_of_ble_eq_true rfl) ?_
  refine z_nstore_n (lv' := [(2, _), (0, _), (1, _)]) hX dX4_known_8 (by decide) rfl ?_
  refine z_nload_n hX dX4_known_9 0 rfl ?_
  refine z_ifnonnullN hX dX4_known_10 ?_
  exact z_throw hX hT hl0 (i := 5) ft_IOE zN2_fit cl_IOE in_IOE rfl (zhat h1_IOE h2_IOE hX) go_IOE dX4_known_13 dX4_known_16 dX4_known_17 dX4_known_19 dX4_known_22 (by decide) (Nat.le_of_ble_eq_true rfl) rfl (fun _ h => h)
set_option maxHeartbeats 4000000 in
set_option maxRecDepth 100000 in
theorem ok_X4_unfallen (l : Launch) {g : zG} {κ : zKp} {μ : zMu} {ω : zOm} {gb cb : Nat → Int32} {i : Nat} (hn : bnI gb) (hlt : i < bn gb) (h7 : ¬ bf gb i 7 = 2)  : zM l g yX4_unfallen cX4_unfallen 3 (some (.object "LineBattle$Line")) 3 0 [.ref (gA g 0 0 0), .int (nI i)] (zF κ 0 gb cb) μ ω (zF κ 0 gb cb) μ ω (some (.ref (gA g 9 0 i))) := by
  refine zM_of (by decide) (Nat.le_of_ble_eq_true rfl) (fun p e R s m args below meth c hX => ?_)
  show zZ p l e R s m args below meth c g 3 _ _ _ _ 0 0 [(0, .ref (gA g 0 0 0)), (1, .int (nI i))] []
  refine z_aload_n hX dX4_unfallen_0 0 rfl ?_
  refine z_iload_n hX dX4_unfallen_1 1 rfl ?_
  refine z_callV1 hX (ok_X4_known l hn hlt) cv_RX4_117 zRc0 dX4_unfallen_2 (by decide) rfl rfl (Nat.le_of_ble_eq_true rfl) ?_
  refine z_astore_n (lv' := [(2, _), (0, _), (1, _)]) hX dX4_unfallen_5 (by decide) rfl ?_
  refine z_aload_n hX dX4_unfallen_6 0 rfl ?_
  refine z_callV1 hX (ok_X3_hasFallen l z0lt (lt12 hn hlt) hlt) cv_RX4_333 (zRc9 z0lt (lt12 hn hlt)) dX4_unfallen_7 (by decide) rfl rfl (Nat.le_of_ble_eq_true rfl) ?_
  refine z_if_eqB (tgt := 24) hX dX4_unfallen_10 (by decide) (fun h10 => ?_) (fun h10 => absurd h10 h7)
  refine z_aload_n hX dX4_unfallen_24 0 rfl ?_
  exact z_aret hX dX4_unfallen_25 (by decide) (Or.inr ⟨_, rfl⟩) rfl (fun _ h => h)
set_option maxHeartbeats 4000000 in
set_option maxRecDepth 100000 in
theorem no_X4_unfallen (l : Launch) (hl0 : l.stackTraces = false) {g : zG} {κ : zKp} {μ : zMu} {ω : zOm} {gb cb : Nat → Int32} {x : Int32} (hx : x < 0 ∨ gb 0 ≤ x)  : zMx l g yX4_unfallen cX4_unfallen 3 (some (.object "LineBattle$Line")) 7 1 [.ref (gA g 0 0 0), .int x] (zF κ 0 gb cb) μ ω (zF κ 0 gb cb) μ ω (.error xIOE) := by
  refine zMx_of (by decide) (Nat.le_of_ble_eq_true rfl) (fun p e R s m args below meth c hX hT => ?_)
  show zZ p l e R s m args below meth c g 3 _ _ _ _ 0 0 [(0, .ref (gA g 0 0 0)), (1, .int x)] []
  refine z_aload_n hX dX4_unfallen_0 0 rfl ?_
  refine z_iload_n hX dX4_unfallen_1 1 rfl ?_
  exact zx_callVE hX hT (no_X4_known l hl0 hx) cv_RX4_117 zRc0 dX4_unfallen_2 (by decide) rfl rfl (Nat.le_of_ble_eq_true rfl) rfl (fun _ h => h)
set_option maxHeartbeats 4000000 in
set_option maxRecDepth 100000 in
theorem go_X4_unfallen (l : Launch) (hl0 : l.stackTraces = false) {g : zG} {κ : zKp} {μ : zMu} {ω : zOm} {gb cb : Nat → Int32} {i : Nat} (hn : bnI gb) (hlt : i < bn gb) (h7 : bf gb i 7 = 2)  : zMx l g yX4_unfallen cX4_unfallen 3 (some (.object "LineBattle$Line")) 6 1 [.ref (gA g 0 0 0), .int (nI i)] (zF κ 0 gb cb) μ ω (zF κ 0 gb cb) μ ω (.error xNSE) := by
  refine zMx_of (by decide) (Nat.le_of_ble_eq_true rfl) (fun p e R s m args below meth c hX hT => ?_)
  show zZ p l e R s m args below meth c g 3 _ _ _ _ 0 0 [(0, .ref (gA g 0 0 0)), (1, .int (nI i))] []
  refine z_aload_n hX dX4_unfallen_0 0 rfl ?_
  refine z_iload_n hX dX4_unfallen_1 1 rfl ?_
  refine z_callV1 hX (ok_X4_known l hn hlt) cv_RX4_117 zRc0 dX4_unfallen_2 (by decide) rfl rfl (Nat.le_of_ble_eq_true rfl) ?_
  refine z_astore_n (lv' := [(2, _), (0, _), (1, _)]) hX dX4_unfallen_5 (by decide) rfl ?_
  refine z_aload_n hX dX4_unfallen_6 0 rfl ?_
  refine z_callV1 hX (ok_X3_hasFallen l z0lt (lt12 hn hlt) hlt) cv_RX4_333 (zRc9 z0lt (lt12 hn hlt)) dX4_unfallen_7 (by decide) rfl rfl (Nat.le_of_ble_eq_true rfl) ?_
  refine z_if_eqB (tgt := 24) hX dX4_unfallen_10 (by decide) (fun h10 => absurd h10 (Classical.not_not.mpr h7)) (fun h10 => ?_)
  exact z_throwWN hX hT hl0 (i := 10) rfl dX4_unfallen_13 dX4_unfallen_16 dX4_unfallen_17 dX4_unfallen_20 dX4_unfallen_23 (by decide) (Nat.le_of_ble_eq_true rfl) rfl (fun _ h => h)
set_option maxHeartbeats 4000000 in
set_option maxRecDepth 100000 in
theorem ok_X4_sideOf (l : Launch) {g : zG} {κ : zKp} {μ : zMu} {ω : zOm} {gb cb : Nat → Int32} {i : Nat} (hn : bnI gb) (hlt : i < bn gb)  : zM l g yX4_sideOf cX4_sideOf 2 (some .int) 3 0 [.ref (gA g 0 0 0), .int (nI i)] (zF κ 0 gb cb) μ ω (zF κ 0 gb cb) μ ω (some (.int (bf gb i 0))) := by
  refine zM_of (by decide) (Nat.le_of_ble_eq_true rfl) (fun p e R s m args below meth c hX => ?_)
  show zZ p l e R s m args below meth c g 2 _ _ _ _ 0 0 [(0, .ref (gA g 0 0 0)), (1, .int (nI i))] []
  refine z_aload_n hX dX4_sideOf_0 0 rfl ?_
  refine z_iload_n hX dX4_sideOf_1 1 rfl ?_
  refine z_callV1 hX (ok_X4_known l hn hlt) cv_RX4_117 zRc0 dX4_sideOf_2 (by decide) rfl rfl (Nat.le_of_ble_eq_true rfl) ?_
  refine zg_X3_side hX z0lt (lt12 hn hlt) hlt  fl_RX4_121 dX4_sideOf_5 ?_
  exact z_iretI hX dX4_sideOf_8 (by decide) rfl (fun _ h => h)
set_option maxHeartbeats 4000000 in
set_option maxRecDepth 100000 in
theorem no_X4_sideOf (l : Launch) (hl0 : l.stackTraces = false) {g : zG} {κ : zKp} {μ : zMu} {ω : zOm} {gb cb : Nat → Int32} {x : Int32} (hx : x < 0 ∨ gb 0 ≤ x)  : zMx l g yX4_sideOf cX4_sideOf 2 (some .int) 7 1 [.ref (gA g 0 0 0), .int x] (zF κ 0 gb cb) μ ω (zF κ 0 gb cb) μ ω (.error xIOE) := by
  refine zMx_of (by decide) (Nat.le_of_ble_eq_true rfl) (fun p e R s m args below meth c hX hT => ?_)
  show zZ p l e R s m args below meth c g 2 _ _ _ _ 0 0 [(0, .ref (gA g 0 0 0)), (1, .int x)] []
  refine z_aload_n hX dX4_sideOf_0 0 rfl ?_
  refine z_iload_n hX dX4_sideOf_1 1 rfl ?_
  exact zx_callVE hX hT (no_X4_known l hl0 hx) cv_RX4_117 zRc0 dX4_sideOf_2 (by decide) rfl rfl (Nat.le_of_ble_eq_true rfl) rfl (fun _ h => h)
set_option maxHeartbeats 4000000 in
set_option maxRecDepth 100000 in
theorem ok_X4_strengthOf (l : Launch) {g : zG} {κ : zKp} {μ : zMu} {ω : zOm} {gb cb : Nat → Int32} {i : Nat} (hn : bnI gb) (hlt : i < bn gb)  : zM l g yX4_strengthOf cX4_strengthOf 2 (some .int) 3 0 [.ref (gA g 0 0 0), .int (nI i)] (zF κ 0 gb cb) μ ω (zF κ 0 gb cb) μ ω (some (.int (bf gb i 4))) := by
  refine zM_of (by decide) (Nat.le_of_ble_eq_true rfl) (fun p e R s m args below meth c hX => ?_)
  show zZ p l e R s m args below meth c g 2 _ _ _ _ 0 0 [(0, .ref (gA g 0 0 0)), (1, .int (nI i))] []
  refine z_aload_n hX dX4_strengthOf_0 0 rfl ?_
  refine z_iload_n hX dX4_strengthOf_1 1 rfl ?_
  refine z_callV1 hX (ok_X4_known l hn hlt) cv_RX4_117 zRc0 dX4_strengthOf_2 (by decide) rfl rfl (Nat.le_of_ble_eq_true rfl) ?_
  refine zg_X3_strength hX z0lt (lt12 hn hlt) hlt  fl_RX4_139 dX4_strengthOf_5 ?_
  exact z_iretI hX dX4_strengthOf_8 (by decide) rfl (fun _ h => h)
set_option maxHeartbeats 4000000 in
set_option maxRecDepth 100000 in
theorem no_X4_strengthOf (l : Launch) (hl0 : l.stackTraces = false) {g : zG} {κ : zKp} {μ : zMu} {ω : zOm} {gb cb : Nat → Int32} {x : Int32} (hx : x < 0 ∨ gb 0 ≤ x)  : zMx l g yX4_strengthOf cX4_strengthOf 2 (some .int) 7 1 [.ref (gA g 0 0 0), .int x] (zF κ 0 gb cb) μ ω (zF κ 0 gb cb) μ ω (.error xIOE) := by
  refine zMx_of (by decide) (Nat.le_of_ble_eq_true rfl) (fun p e R s m args below meth c hX hT => ?_)
  show zZ p l e R s m args below meth c g 2 _ _ _ _ 0 0 [(0, .ref (gA g 0 0 0)), (1, .int x)] []
  refine z_aload_n hX dX4_strengthOf_0 0 rfl ?_
  refine z_iload_n hX dX4_strengthOf_1 1 rfl ?_
  exact zx_callVE hX hT (no_X4_known l hl0 hx) cv_RX4_117 zRc0 dX4_strengthOf_2 (by decide) rfl rfl (Nat.le_of_ble_eq_true rfl) rfl (fun _ h => h)
set_option maxHeartbeats 4000000 in
set_option maxRecDepth 100000 in
theorem ok_X4_moraleOf (l : Launch) {g : zG} {κ : zKp} {μ : zMu} {ω : zOm} {gb cb : Nat → Int32} {i : Nat} (hn : bnI gb) (hlt : i < bn gb)  : zM l g yX4_moraleOf cX4_moraleOf 2 (some .int) 3 0 [.ref (gA g 0 0 0), .int (nI i)] (zF κ 0 gb cb) μ ω (zF κ 0 gb cb) μ ω (some (.int (bf gb i 5))) := by
  refine zM_of (by decide) (Nat.le_of_ble_eq_true rfl) (fun p e R s m args below meth c hX => ?_)
  show zZ p l e R s m args below meth c g 2 _ _ _ _ 0 0 [(0, .ref (gA g 0 0 0)), (1, .int (nI i))] []
  refine z_aload_n hX dX4_moraleOf_0 0 rfl ?_
  refine z_iload_n hX dX4_moraleOf_1 1 rfl ?_
  refine z_callV1 hX (ok_X4_known l hn hlt) cv_RX4_117 zRc0 dX4_moraleOf_2 (by decide) rfl rfl (Nat.le_of_ble_eq_true rfl) ?_
  refine zg_X3_morale hX z0lt (lt12 hn hlt) hlt  fl_RX4_142 dX4_moraleOf_5 ?_
  exact z_iretI hX dX4_moraleOf_8 (by decide) rfl (fun _ h => h)
set_option maxHeartbeats 4000000 in
set_option maxRecDepth 100000 in
theorem no_X4_moraleOf (l : Launch) (hl0 : l.stackTraces = false) {g : zG} {κ : zKp} {μ : zMu} {ω : zOm} {gb cb : Nat → Int32} {x : Int32} (hx : x < 0 ∨ gb 0 ≤ x)  : zMx l g yX4_moraleOf cX4_moraleOf 2 (some .int) 7 1 [.ref (gA g 0 0 0), .int x] (zF κ 0 gb cb) μ ω (zF κ 0 gb cb) μ ω (.error xIOE) := by
  refine zMx_of (by decide) (Nat.le_of_ble_eq_true rfl) (fun p e R s m args below meth c hX hT => ?_)
  show zZ p l e R s m args below meth c g 2 _ _ _ _ 0 0 [(0, .ref (gA g 0 0 0)), (1, .int x)] []
  refine z_aload_n hX dX4_moraleOf_0 0 rfl ?_
  refine z_iload_n hX dX4_moraleOf_1 1 rfl ?_
  exact zx_callVE hX hT (no_X4_known l hl0 hx) cv_RX4_117 zRc0 dX4_moraleOf_2 (by decide) rfl rfl (Nat.le_of_ble_eq_true rfl) rfl (fun _ h => h)
set_option maxHeartbeats 4000000 in
set_option maxRecDepth 100000 in
theorem ok_X4_routedTurns (l : Launch) {g : zG} {κ : zKp} {μ : zMu} {ω : zOm} {gb cb : Nat → Int32} {i : Nat} (hn : bnI gb) (hlt : i < bn gb)  : zM l g yX4_routedTurns cX4_routedTurns 2 (some .int) 3 0 [.ref (gA g 0 0 0), .int (nI i)] (zF κ 0 gb cb) μ ω (zF κ 0 gb cb) μ ω (some (.int (bf gb i 8))) := by
  refine zM_of (by decide) (Nat.le_of_ble_eq_true rfl) (fun p e R s m args below meth c hX => ?_)
  show zZ p l e R s m args below meth c g 2 _ _ _ _ 0 0 [(0, .ref (gA g 0 0 0)), (1, .int (nI i))] []
  refine z_aload_n hX dX4_routedTurns_0 0 rfl ?_
  refine z_iload_n hX dX4_routedTurns_1 1 rfl ?_
  refine z_callV1 hX (ok_X4_known l hn hlt) cv_RX4_117 zRc0 dX4_routedTurns_2 (by decide) rfl rfl (Nat.le_of_ble_eq_true rfl) ?_
  refine zg_X3_turnsRouted hX z0lt (lt12 hn hlt) hlt  fl_RX4_155 dX4_routedTurns_5 ?_
  exact z_iretI hX dX4_routedTurns_8 (by decide) rfl (fun _ h => h)
set_option maxHeartbeats 4000000 in
set_option maxRecDepth 100000 in
theorem no_X4_routedTurns (l : Launch) (hl0 : l.stackTraces = false) {g : zG} {κ : zKp} {μ : zMu} {ω : zOm} {gb cb : Nat → Int32} {x : Int32} (hx : x < 0 ∨ gb 0 ≤ x)  : zMx l g yX4_routedTurns cX4_routedTurns 2 (some .int) 7 1 [.ref (gA g 0 0 0), .int x] (zF κ 0 gb cb) μ ω (zF κ 0 gb cb) μ ω (.error xIOE) := by
  refine zMx_of (by decide) (Nat.le_of_ble_eq_true rfl) (fun p e R s m args below meth c hX hT => ?_)
  show zZ p l e R s m args below meth c g 2 _ _ _ _ 0 0 [(0, .ref (gA g 0 0 0)), (1, .int x)] []
  refine z_aload_n hX dX4_routedTurns_0 0 rfl ?_
  refine z_iload_n hX dX4_routedTurns_1 1 rfl ?_
  exact zx_callVE hX hT (no_X4_known l hl0 hx) cv_RX4_117 zRc0 dX4_routedTurns_2 (by decide) rfl rfl (Nat.le_of_ble_eq_true rfl) rfl (fun _ h => h)
set_option maxHeartbeats 4000000 in
set_option maxRecDepth 100000 in
theorem ok_X4_laneOf (l : Launch) {g : zG} {κ : zKp} {μ : zMu} {ω : zOm} {gb cb : Nat → Int32} {i : Nat} (hn : bnI gb) (hlt : i < bn gb) (h7 : ¬ bf gb i 7 = 2)  : zM l g yX4_laneOf cX4_laneOf 2 (some .int) 4 0 [.ref (gA g 0 0 0), .int (nI i)] (zF κ 0 gb cb) μ ω (zF κ 0 gb cb) μ ω (some (.int (bf gb i 1))) := by
  refine zM_of (by decide) (Nat.le_of_ble_eq_true rfl) (fun p e R s m args below meth c hX => ?_)
  show zZ p l e R s m args below meth c g 2 _ _ _ _ 0 0 [(0, .ref (gA g 0 0 0)), (1, .int (nI i))] []
  refine z_aload_n hX dX4_laneOf_0 0 rfl ?_
  refine z_iload_n hX dX4_laneOf_1 1 rfl ?_
  refine z_callV1 hX (ok_X4_unfallen l hn hlt h7) cv_RX4_126 zRc0 dX4_laneOf_2 (by decide) rfl rfl (Nat.le_of_ble_eq_true rfl) ?_
  refine zg_X3_lane hX z0lt (lt12 hn hlt) hlt  fl_RX4_129 dX4_laneOf_5 ?_
  exact z_iretI hX dX4_laneOf_8 (by decide) rfl (fun _ h => h)
set_option maxHeartbeats 4000000 in
set_option maxRecDepth 100000 in
theorem no_X4_laneOf (l : Launch) (hl0 : l.stackTraces = false) {g : zG} {κ : zKp} {μ : zMu} {ω : zOm} {gb cb : Nat → Int32} {x : Int32} (hx : x < 0 ∨ gb 0 ≤ x)  : zMx l g yX4_laneOf cX4_laneOf 2 (some .int) 8 1 [.ref (gA g 0 0 0), .int x] (zF κ 0 gb cb) μ ω (zF κ 0 gb cb) μ ω (.error xIOE) := by
  refine zMx_of (by decide) (Nat.le_of_ble_eq_true rfl) (fun p e R s m args below meth c hX hT => ?_)
  show zZ p l e R s m args below meth c g 2 _ _ _ _ 0 0 [(0, .ref (gA g 0 0 0)), (1, .int x)] []
  refine z_aload_n hX dX4_laneOf_0 0 rfl ?_
  refine z_iload_n hX dX4_laneOf_1 1 rfl ?_
  exact zx_callVE hX hT (no_X4_unfallen l hl0 hx) cv_RX4_126 zRc0 dX4_laneOf_2 (by decide) rfl rfl (Nat.le_of_ble_eq_true rfl) rfl (fun _ h => h)
set_option maxHeartbeats 4000000 in
set_option maxRecDepth 100000 in
theorem go_X4_laneOf (l : Launch) (hl0 : l.stackTraces = false) {g : zG} {κ : zKp} {μ : zMu} {ω : zOm} {gb cb : Nat → Int32} {i : Nat} (hn : bnI gb) (hlt : i < bn gb) (h7 : bf gb i 7 = 2)  : zMx l g yX4_laneOf cX4_laneOf 2 (some .int) 7 1 [.ref (gA g 0 0 0), .int (nI i)] (zF κ 0 gb cb) μ ω (zF κ 0 gb cb) μ ω (.error xNSE) := by
  refine zMx_of (by decide) (Nat.le_of_ble_eq_true rfl) (fun p e R s m args below meth c hX hT => ?_)
  show zZ p l e R s m args below meth c g 2 _ _ _ _ 0 0 [(0, .ref (gA g 0 0 0)), (1, .int (nI i))] []
  refine z_aload_n hX dX4_laneOf_0 0 rfl ?_
  refine z_iload_n hX dX4_laneOf_1 1 rfl ?_
  exact zx_callVE hX hT (go_X4_unfallen l hl0 hn hlt h7) cv_RX4_126 zRc0 dX4_laneOf_2 (by decide) rfl rfl (Nat.le_of_ble_eq_true rfl) rfl (fun _ h => h)
set_option maxHeartbeats 4000000 in
set_option maxRecDepth 100000 in
theorem ok_X4_columnOf (l : Launch) {g : zG} {κ : zKp} {μ : zMu} {ω : zOm} {gb cb : Nat → Int32} {i : Nat} (hn : bnI gb) (hlt : i < bn gb) (h7 : ¬ bf gb i 7 = 2)  : zM l g yX4_columnOf cX4_columnOf 2 (some .int) 4 0 [.ref (gA g 0 0 0), .int (nI i)] (zF κ 0 gb cb) μ ω (zF κ 0 gb cb) μ ω (some (.int (bf gb i 2))) := by
  refine zM_of (by decide) (Nat.le_of_ble_eq_true rfl) (fun p e R s m args below meth c hX => ?_)
  show zZ p l e R s m args below meth c g 2 _ _ _ _ 0 0 [(0, .ref (gA g 0 0 0)), (1, .int (nI i))] []
  refine z_aload_n hX dX4_columnOf_0 0 rfl ?_
  refine z_iload_n hX dX4_columnOf_1 1 rfl ?_
  refine z_callV1 hX (ok_X4_unfallen l hn hlt h7) cv_RX4_126 zRc0 dX4_columnOf_2 (by decide) rfl rfl (Nat.le_of_ble_eq_true rfl) ?_
  refine zg_X3_column hX z0lt (lt12 hn hlt) hlt  fl_RX4_132 dX4_columnOf_5 ?_
  exact z_iretI hX dX4_columnOf_8 (by decide) rfl (fun _ h => h)
set_option maxHeartbeats 4000000 in
set_option maxRecDepth 100000 in
theorem no_X4_columnOf (l : Launch) (hl0 : l.stackTraces = false) {g : zG} {κ : zKp} {μ : zMu} {ω : zOm} {gb cb : Nat → Int32} {x : Int32} (hx : x < 0 ∨ gb 0 ≤ x)  : zMx l g yX4_columnOf cX4_columnOf 2 (some .int) 8 1 [.ref (gA g 0 0 0), .int x] (zF κ 0 gb cb) μ ω (zF κ 0 gb cb) μ ω (.error xIOE) := by
  refine zMx_of (by decide) (Nat.le_of_ble_eq_true rfl) (fun p e R s m args below meth c hX hT => ?_)
  show zZ p l e R s m args below meth c g 2 _ _ _ _ 0 0 [(0, .ref (gA g 0 0 0)), (1, .int x)] []
  refine z_aload_n hX dX4_columnOf_0 0 rfl ?_
  refine z_iload_n hX dX4_columnOf_1 1 rfl ?_
  exact zx_callVE hX hT (no_X4_unfallen l hl0 hx) cv_RX4_126 zRc0 dX4_columnOf_2 (by decide) rfl rfl (Nat.le_of_ble_eq_true rfl) rfl (fun _ h => h)
set_option maxHeartbeats 4000000 in
set_option maxRecDepth 100000 in
theorem go_X4_columnOf (l : Launch) (hl0 : l.stackTraces = false) {g : zG} {κ : zKp} {μ : zMu} {ω : zOm} {gb cb : Nat → Int32} {i : Nat} (hn : bnI gb) (hlt : i < bn gb) (h7 : bf gb i 7 = 2)  : zMx l g yX4_columnOf cX4_columnOf 2 (some .int) 7 1 [.ref (gA g 0 0 0), .int (nI i)] (zF κ 0 gb cb) μ ω (zF κ 0 gb cb) μ ω (.error xNSE) := by
  refine zMx_of (by decide) (Nat.le_of_ble_eq_true rfl) (fun p e R s m args below meth c hX hT => ?_)
  show zZ p l e R s m args below meth c g 2 _ _ _ _ 0 0 [(0, .ref (gA g 0 0 0)), (1, .int (nI i))] []
  refine z_aload_n hX dX4_columnOf_0 0 rfl ?_
  refine z_iload_n hX dX4_columnOf_1 1 rfl ?_
  exact zx_callVE hX hT (go_X4_unfallen l hl0 hn hlt h7) cv_RX4_126 zRc0 dX4_columnOf_2 (by decide) rfl rfl (Nat.le_of_ble_eq_true rfl) rfl (fun _ h => h)
set_option maxHeartbeats 4000000 in
set_option maxRecDepth 100000 in
theorem ok_X4_kindOf (l : Launch) {g : zG} {κ : zKp} {μ : zMu} {ω : zOm} {gb cb : Nat → Int32} {i : Nat} (hn : bnI gb) (hlt : i < bn gb) (hL : lineW gb i) : zM l g yX4_kindOf cX4_kindOf 2 (some .char) 3 0 [.ref (gA g 0 0 0), .int (nI i)] (zF κ 0 gb cb) μ ω (zF κ 0 gb cb) μ ω (some (.int (bf gb i 3))) := by
  refine zM_of (by decide) (Nat.le_of_ble_eq_true rfl) (fun p e R s m args below meth c hX => ?_)
  show zZ p l e R s m args below meth c g 2 _ _ _ _ 0 0 [(0, .ref (gA g 0 0 0)), (1, .int (nI i))] []
  refine z_aload_n hX dX4_kindOf_0 0 rfl ?_
  refine z_iload_n hX dX4_kindOf_1 1 rfl ?_
  refine z_callV1 hX (ok_X4_known l hn hlt) cv_RX4_117 zRc0 dX4_kindOf_2 (by decide) rfl rfl (Nat.le_of_ble_eq_true rfl) ?_
  refine zg_X3_kind hX z0lt (lt12 hn hlt) hlt  fl_RX4_135 dX4_kindOf_5 ?_
  exact z_iret hX dX4_kindOf_8 (by decide) (char_k hL.2.2.2.1) rfl (fun _ h => h)
set_option maxHeartbeats 4000000 in
set_option maxRecDepth 100000 in
theorem no_X4_kindOf (l : Launch) (hl0 : l.stackTraces = false) {g : zG} {κ : zKp} {μ : zMu} {ω : zOm} {gb cb : Nat → Int32} {x : Int32} (hx : x < 0 ∨ gb 0 ≤ x)  : zMx l g yX4_kindOf cX4_kindOf 2 (some .char) 7 1 [.ref (gA g 0 0 0), .int x] (zF κ 0 gb cb) μ ω (zF κ 0 gb cb) μ ω (.error xIOE) := by
  refine zMx_of (by decide) (Nat.le_of_ble_eq_true rfl) (fun p e R s m args below meth c hX hT => ?_)
  show zZ p l e R s m args below meth c g 2 _ _ _ _ 0 0 [(0, .ref (gA g 0 0 0)), (1, .int x)] []
  refine z_aload_n hX dX4_kindOf_0 0 rfl ?_
  refine z_iload_n hX dX4_kindOf_1 1 rfl ?_
  exact zx_callVE hX hT (no_X4_known l hl0 hx) cv_RX4_117 zRc0 dX4_kindOf_2 (by decide) rfl rfl (Nat.le_of_ble_eq_true rfl) rfl (fun _ h => h)
set_option maxHeartbeats 4000000 in
set_option maxRecDepth 100000 in
theorem ok_X4_orderOf (l : Launch) {g : zG} {κ : zKp} {μ : zMu} {ω : zOm} {gb cb : Nat → Int32} {i : Nat} (hn : bnI gb) (hlt : i < bn gb) (h7 : bf gb i 7 = 0) (hL : lineW gb i) : zM l g yX4_orderOf cX4_orderOf 3 (some .char) 3 0 [.ref (gA g 0 0 0), .int (nI i)] (zF κ 0 gb cb) μ ω (zF κ 0 gb cb) μ ω (some (.int (bf gb i 6))) := by
  refine zM_of (by decide) (Nat.le_of_ble_eq_true rfl) (fun p e R s m args below meth c hX => ?_)
  show zZ p l e R s m args below meth c g 3 _ _ _ _ 0 0 [(0, .ref (gA g 0 0 0)), (1, .int (nI i))] []
  refine z_aload_n hX dX4_orderOf_0 0 rfl ?_
  refine z_iload_n hX dX4_orderOf_1 1 rfl ?_
  refine z_callV1 hX (ok_X4_known l hn hlt) cv_RX4_117 zRc0 dX4_orderOf_2 (by decide) rfl rfl (Nat.le_of_ble_eq_true rfl) ?_
  refine z_astore_n (lv' := [(2, _), (0, _), (1, _)]) hX dX4_orderOf_5 (by decide) rfl ?_
  refine z_aload_n hX dX4_orderOf_6 0 rfl ?_
  refine z_callV1 hX (ok_X3_stands l z0lt (lt12 hn hlt) hlt) cv_RX4_145 (zRc9 z0lt (lt12 hn hlt)) dX4_orderOf_7 (by decide) rfl rfl (Nat.le_of_ble_eq_true rfl) ?_
  refine z_if_neB (tgt := 23) hX dX4_orderOf_10 (by decide) (fun h10 => ?_) (fun h10 => absurd h10 (Classical.not_not.mpr h7))
  refine z_aload_n hX dX4_orderOf_23 0 rfl ?_
  refine zg_X3_order hX z0lt (lt12 hn hlt) hlt  fl_RX4_149 dX4_orderOf_24 ?_
  exact z_iret hX dX4_orderOf_27 (by decide) (char_o hL.2.2.2.2.2.2.1) rfl (fun _ h => h)
set_option maxHeartbeats 4000000 in
set_option maxRecDepth 100000 in
theorem no_X4_orderOf (l : Launch) (hl0 : l.stackTraces = false) {g : zG} {κ : zKp} {μ : zMu} {ω : zOm} {gb cb : Nat → Int32} {x : Int32} (hx : x < 0 ∨ gb 0 ≤ x)  : zMx l g yX4_orderOf cX4_orderOf 3 (some .char) 7 1 [.ref (gA g 0 0 0), .int x] (zF κ 0 gb cb) μ ω (zF κ 0 gb cb) μ ω (.error xIOE) := by
  refine zMx_of (by decide) (Nat.le_of_ble_eq_true rfl) (fun p e R s m args below meth c hX hT => ?_)
  show zZ p l e R s m args below meth c g 3 _ _ _ _ 0 0 [(0, .ref (gA g 0 0 0)), (1, .int x)] []
  refine z_aload_n hX dX4_orderOf_0 0 rfl ?_
  refine z_iload_n hX dX4_orderOf_1 1 rfl ?_
  exact zx_callVE hX hT (no_X4_known l hl0 hx) cv_RX4_117 zRc0 dX4_orderOf_2 (by decide) rfl rfl (Nat.le_of_ble_eq_true rfl) rfl (fun _ h => h)
set_option maxHeartbeats 4000000 in
set_option maxRecDepth 100000 in
theorem go_X4_orderOf (l : Launch) (hl0 : l.stackTraces = false) {g : zG} {κ : zKp} {μ : zMu} {ω : zOm} {gb cb : Nat → Int32} {i : Nat} (hn : bnI gb) (hlt : i < bn gb) (h7 : ¬ bf gb i 7 = 0)  : zMx l g yX4_orderOf cX4_orderOf 3 (some .char) 6 1 [.ref (gA g 0 0 0), .int (nI i)] (zF κ 0 gb cb) μ ω (zF κ 0 gb cb) μ ω (.error xISE) := by
  refine zMx_of (by decide) (Nat.le_of_ble_eq_true rfl) (fun p e R s m args below meth c hX hT => ?_)
  show zZ p l e R s m args below meth c g 3 _ _ _ _ 0 0 [(0, .ref (gA g 0 0 0)), (1, .int (nI i))] []
  refine z_aload_n hX dX4_orderOf_0 0 rfl ?_
  refine z_iload_n hX dX4_orderOf_1 1 rfl ?_
  refine z_callV1 hX (ok_X4_known l hn hlt) cv_RX4_117 zRc0 dX4_orderOf_2 (by decide) rfl rfl (Nat.le_of_ble_eq_true rfl) ?_
  refine z_astore_n (lv' := [(2, _), (0, _), (1, _)]) hX dX4_orderOf_5 (by decide) rfl ?_
  refine z_aload_n hX dX4_orderOf_6 0 rfl ?_
  refine z_callV1 hX (ok_X3_stands l z0lt (lt12 hn hlt) hlt) cv_RX4_145 (zRc9 z0lt (lt12 hn hlt)) dX4_orderOf_7 (by decide) rfl rfl (Nat.le_of_ble_eq_true rfl) ?_
  refine z_if_neB (tgt := 23) hX dX4_orderOf_10 (by decide) (fun h10 => absurd h10 h7) (fun h10 => ?_)
  exact z_throw hX hT hl0 (i := 7) ft_ISE zN2_fit cl_ISE in_ISE rfl (zhat h1_ISE h2_ISE hX) go_ISE dX4_orderOf_13 dX4_orderOf_16 dX4_orderOf_17 dX4_orderOf_19 dX4_orderOf_22 (by decide) (Nat.le_of_ble_eq_true rfl) rfl (fun _ h => h)
set_option maxHeartbeats 4000000 in
set_option maxRecDepth 100000 in
theorem ok_X4_isStanding (l : Launch) {g : zG} {κ : zKp} {μ : zMu} {ω : zOm} {gb cb : Nat → Int32} {i : Nat} (hn : bnI gb) (hlt : i < bn gb)  : zM l g yX4_isStanding cX4_isStanding 2 (some .boolean) 3 0 [.ref (gA g 0 0 0), .int (nI i)] (zF κ 0 gb cb) μ ω (zF κ 0 gb cb) μ ω (some (.int (if bf gb i 7 = 0 then 1 else 0))) := by
  refine zM_of (by decide) (Nat.le_of_ble_eq_true rfl) (fun p e R s m args below meth c hX => ?_)
  show zZ p l e R s m args below meth c g 2 _ _ _ _ 0 0 [(0, .ref (gA g 0 0 0)), (1, .int (nI i))] []
  refine z_aload_n hX dX4_isStanding_0 0 rfl ?_
  refine z_iload_n hX dX4_isStanding_1 1 rfl ?_
  refine z_callV1 hX (ok_X4_known l hn hlt) cv_RX4_117 zRc0 dX4_isStanding_2 (by decide) rfl rfl (Nat.le_of_ble_eq_true rfl) ?_
  refine z_callV1 hX (ok_X3_stands l z0lt (lt12 hn hlt) hlt) cv_RX4_145 (zRc9 z0lt (lt12 hn hlt)) dX4_isStanding_5 (by decide) rfl rfl (Nat.le_of_ble_eq_true rfl) ?_
  exact z_iret hX dX4_isStanding_8 (by decide) (by split <;> rfl) rfl (fun _ h => h)
set_option maxHeartbeats 4000000 in
set_option maxRecDepth 100000 in
theorem no_X4_isStanding (l : Launch) (hl0 : l.stackTraces = false) {g : zG} {κ : zKp} {μ : zMu} {ω : zOm} {gb cb : Nat → Int32} {x : Int32} (hx : x < 0 ∨ gb 0 ≤ x)  : zMx l g yX4_isStanding cX4_isStanding 2 (some .boolean) 7 1 [.ref (gA g 0 0 0), .int x] (zF κ 0 gb cb) μ ω (zF κ 0 gb cb) μ ω (.error xIOE) := by
  refine zMx_of (by decide) (Nat.le_of_ble_eq_true rfl) (fun p e R s m args below meth c hX hT => ?_)
  show zZ p l e R s m args below meth c g 2 _ _ _ _ 0 0 [(0, .ref (gA g 0 0 0)), (1, .int x)] []
  refine z_aload_n hX dX4_isStanding_0 0 rfl ?_
  refine z_iload_n hX dX4_isStanding_1 1 rfl ?_
  exact zx_callVE hX hT (no_X4_known l hl0 hx) cv_RX4_117 zRc0 dX4_isStanding_2 (by decide) rfl rfl (Nat.le_of_ble_eq_true rfl) rfl (fun _ h => h)
set_option maxHeartbeats 4000000 in
set_option maxRecDepth 100000 in
theorem ok_X4_isRouted (l : Launch) {g : zG} {κ : zKp} {μ : zMu} {ω : zOm} {gb cb : Nat → Int32} {i : Nat} (hn : bnI gb) (hlt : i < bn gb)  : zM l g yX4_isRouted cX4_isRouted 2 (some .boolean) 3 0 [.ref (gA g 0 0 0), .int (nI i)] (zF κ 0 gb cb) μ ω (zF κ 0 gb cb) μ ω (some (.int (if bf gb i 7 = 1 then 1 else 0))) := by
  refine zM_of (by decide) (Nat.le_of_ble_eq_true rfl) (fun p e R s m args below meth c hX => ?_)
  show zZ p l e R s m args below meth c g 2 _ _ _ _ 0 0 [(0, .ref (gA g 0 0 0)), (1, .int (nI i))] []
  refine z_aload_n hX dX4_isRouted_0 0 rfl ?_
  refine z_iload_n hX dX4_isRouted_1 1 rfl ?_
  refine z_callV1 hX (ok_X4_known l hn hlt) cv_RX4_117 zRc0 dX4_isRouted_2 (by decide) rfl rfl (Nat.le_of_ble_eq_true rfl) ?_
  refine z_callV1 hX (ok_X3_routed l z0lt (lt12 hn hlt) hlt) cv_RX4_152 (zRc9 z0lt (lt12 hn hlt)) dX4_isRouted_5 (by decide) rfl rfl (Nat.le_of_ble_eq_true rfl) ?_
  exact z_iret hX dX4_isRouted_8 (by decide) (by split <;> rfl) rfl (fun _ h => h)
set_option maxHeartbeats 4000000 in
set_option maxRecDepth 100000 in
theorem no_X4_isRouted (l : Launch) (hl0 : l.stackTraces = false) {g : zG} {κ : zKp} {μ : zMu} {ω : zOm} {gb cb : Nat → Int32} {x : Int32} (hx : x < 0 ∨ gb 0 ≤ x)  : zMx l g yX4_isRouted cX4_isRouted 2 (some .boolean) 7 1 [.ref (gA g 0 0 0), .int x] (zF κ 0 gb cb) μ ω (zF κ 0 gb cb) μ ω (.error xIOE) := by
  refine zMx_of (by decide) (Nat.le_of_ble_eq_true rfl) (fun p e R s m args below meth c hX hT => ?_)
  show zZ p l e R s m args below meth c g 2 _ _ _ _ 0 0 [(0, .ref (gA g 0 0 0)), (1, .int x)] []
  refine z_aload_n hX dX4_isRouted_0 0 rfl ?_
  refine z_iload_n hX dX4_isRouted_1 1 rfl ?_
  exact zx_callVE hX hT (no_X4_known l hl0 hx) cv_RX4_117 zRc0 dX4_isRouted_2 (by decide) rfl rfl (Nat.le_of_ble_eq_true rfl) rfl (fun _ h => h)
theorem attC_0 {g : zB} {i : Nat} : attC g i 0 = attB g i := by
  unfold attC attB
  rw [if_pos (rfl : (0 : Int32) = 0), Int32.add_zero]
set_option maxHeartbeats 4000000 in
set_option maxRecDepth 100000 in
theorem ok_X4_attackOf (l : Launch) {g : zG} {κ : zKp} {μ : zMu} {ω : zOm} {gb cb : Nat → Int32} {i : Nat} (hn : bnI gb) (hlt : i < bn gb)  : zM l g yX4_attackOf cX4_attackOf 2 (some .int) 3 0 [.ref (gA g 0 0 0), .int (nI i)] (zF κ 0 gb cb) μ ω (zF κ 0 gb cb) μ ω (some (.int (attB gb i))) := by
  refine zM_of (by decide) (Nat.le_of_ble_eq_true rfl) (fun p e R s m args below meth c hX => ?_)
  show zZ p l e R s m args below meth c g 2 _ _ _ _ 0 0 [(0, .ref (gA g 0 0 0)), (1, .int (nI i))] []
  refine z_aload_n hX dX4_attackOf_0 0 rfl ?_
  refine z_iload_n hX dX4_attackOf_1 1 rfl ?_
  refine z_callV1 hX (ok_X4_known l hn hlt) cv_RX4_117 zRc0 dX4_attackOf_2 (by decide) rfl rfl (Nat.le_of_ble_eq_true rfl) ?_
  refine z_iconst (v := 0) hX dX4_attackOf_5 (by decide) ?_
  refine z_callV1 hX (ok_X3_attack l z0lt (lt12 hn hlt) hlt) cv_RX4_179 (zRc9 z0lt (lt12 hn hlt)) dX4_attackOf_6 (by decide) rfl rfl (Nat.le_of_ble_eq_true rfl) ?_
  exact z_iretI hX dX4_attackOf_9 (by decide) (by rw [attC_0]) (fun _ h => h)
set_option maxHeartbeats 4000000 in
set_option maxRecDepth 100000 in
theorem no_X4_attackOf (l : Launch) (hl0 : l.stackTraces = false) {g : zG} {κ : zKp} {μ : zMu} {ω : zOm} {gb cb : Nat → Int32} {x : Int32} (hx : x < 0 ∨ gb 0 ≤ x)  : zMx l g yX4_attackOf cX4_attackOf 2 (some .int) 7 1 [.ref (gA g 0 0 0), .int x] (zF κ 0 gb cb) μ ω (zF κ 0 gb cb) μ ω (.error xIOE) := by
  refine zMx_of (by decide) (Nat.le_of_ble_eq_true rfl) (fun p e R s m args below meth c hX hT => ?_)
  show zZ p l e R s m args below meth c g 2 _ _ _ _ 0 0 [(0, .ref (gA g 0 0 0)), (1, .int x)] []
  refine z_aload_n hX dX4_attackOf_0 0 rfl ?_
  refine z_iload_n hX dX4_attackOf_1 1 rfl ?_
  exact zx_callVE hX hT (no_X4_known l hl0 hx) cv_RX4_117 zRc0 dX4_attackOf_2 (by decide) rfl rfl (Nat.le_of_ble_eq_true rfl) rfl (fun _ h => h)
set_option maxHeartbeats 4000000 in
set_option maxRecDepth 100000 in
theorem ok_X4_counterOf (l : Launch) {g : zG} {κ : zKp} {μ : zMu} {ω : zOm} {gb cb : Nat → Int32} {i : Nat} (hn : bnI gb) (hlt : i < bn gb)  : zM l g yX4_counterOf cX4_counterOf 2 (some .int) 3 0 [.ref (gA g 0 0 0), .int (nI i)] (zF κ 0 gb cb) μ ω (zF κ 0 gb cb) μ ω (some (.int (cntB gb i))) := by
  refine zM_of (by decide) (Nat.le_of_ble_eq_true rfl) (fun p e R s m args below meth c hX => ?_)
  show zZ p l e R s m args below meth c g 2 _ _ _ _ 0 0 [(0, .ref (gA g 0 0 0)), (1, .int (nI i))] []
  refine z_aload_n hX dX4_counterOf_0 0 rfl ?_
  refine z_iload_n hX dX4_counterOf_1 1 rfl ?_
  refine z_callV1 hX (ok_X4_known l hn hlt) cv_RX4_117 zRc0 dX4_counterOf_2 (by decide) rfl rfl (Nat.le_of_ble_eq_true rfl) ?_
  refine z_callV1 hX (ok_X3_counter l z0lt (lt12 hn hlt) hlt) cv_RX4_183 (zRc9 z0lt (lt12 hn hlt)) dX4_counterOf_5 (by decide) rfl rfl (Nat.le_of_ble_eq_true rfl) ?_
  exact z_iretI hX dX4_counterOf_8 (by decide) rfl (fun _ h => h)
set_option maxHeartbeats 4000000 in
set_option maxRecDepth 100000 in
theorem no_X4_counterOf (l : Launch) (hl0 : l.stackTraces = false) {g : zG} {κ : zKp} {μ : zMu} {ω : zOm} {gb cb : Nat → Int32} {x : Int32} (hx : x < 0 ∨ gb 0 ≤ x)  : zMx l g yX4_counterOf cX4_counterOf 2 (some .int) 7 1 [.ref (gA g 0 0 0), .int x] (zF κ 0 gb cb) μ ω (zF κ 0 gb cb) μ ω (.error xIOE) := by
  refine zMx_of (by decide) (Nat.le_of_ble_eq_true rfl) (fun p e R s m args below meth c hX hT => ?_)
  show zZ p l e R s m args below meth c g 2 _ _ _ _ 0 0 [(0, .ref (gA g 0 0 0)), (1, .int x)] []
  refine z_aload_n hX dX4_counterOf_0 0 rfl ?_
  refine z_iload_n hX dX4_counterOf_1 1 rfl ?_
  exact zx_callVE hX hT (no_X4_known l hl0 hx) cv_RX4_117 zRc0 dX4_counterOf_2 (by decide) rfl rfl (Nat.le_of_ble_eq_true rfl) rfl (fun _ h => h)
set_option maxHeartbeats 4000000 in
set_option maxRecDepth 100000 in
theorem ok_X4_supportByLines (l : Launch) {g : zG} {κ : zKp} {μ : zMu} {ω : zOm} {gb cb : Nat → Int32} {i : Nat} (hW : batW gb) (hlt : i < bn gb) (h7 : ¬ bf gb i 7 = 2)  : zM l g yX4_supportByLines cX4_supportByLines 2 (some .int) 4 0 [.ref (gA g 0 0 0), .int (nI i)] (zF κ 0 gb cb) μ ω (zF κ 0 gb cb) μ ω (some (.int (supB gb i))) := by
  have hn := hW.1
  refine zM_of (by decide) (Nat.le_of_ble_eq_true rfl) (fun p e R s m args below meth c hX => ?_)
  show zZ p l e R s m args below meth c g 2 _ _ _ _ 0 0 [(0, .ref (gA g 0 0 0)), (1, .int (nI i))] []
  refine z_aload_n hX dX4_supportByLines_0 0 rfl ?_
  refine zg_X4_field hX   fl_RX4_10 dX4_supportByLines_1 ?_
  refine z_aload_n hX dX4_supportByLines_4 0 rfl ?_
  refine z_iload_n hX dX4_supportByLines_5 1 rfl ?_
  refine z_callV1 hX (ok_X4_unfallen l hn hlt h7) cv_RX4_126 zRc0 dX4_supportByLines_6 (by decide) rfl rfl (Nat.le_of_ble_eq_true rfl) ?_
  refine z_callV1 hX (ok_X1_supportAmongLines l z0lt hW hlt) cv_RX4_190 (zRc6 z0lt) dX4_supportByLines_9 (by decide) rfl rfl (Nat.le_of_ble_eq_true rfl) ?_
  exact z_iretI hX dX4_supportByLines_12 (by decide) rfl (fun _ h => h)
set_option maxHeartbeats 4000000 in
set_option maxRecDepth 100000 in
theorem no_X4_supportByLines (l : Launch) (hl0 : l.stackTraces = false) {g : zG} {κ : zKp} {μ : zMu} {ω : zOm} {gb cb : Nat → Int32} {x : Int32} (hx : x < 0 ∨ gb 0 ≤ x)  : zMx l g yX4_supportByLines cX4_supportByLines 2 (some .int) 8 1 [.ref (gA g 0 0 0), .int x] (zF κ 0 gb cb) μ ω (zF κ 0 gb cb) μ ω (.error xIOE) := by
  refine zMx_of (by decide) (Nat.le_of_ble_eq_true rfl) (fun p e R s m args below meth c hX hT => ?_)
  show zZ p l e R s m args below meth c g 2 _ _ _ _ 0 0 [(0, .ref (gA g 0 0 0)), (1, .int x)] []
  refine z_aload_n hX dX4_supportByLines_0 0 rfl ?_
  refine zg_X4_field hX   fl_RX4_10 dX4_supportByLines_1 ?_
  refine z_aload_n hX dX4_supportByLines_4 0 rfl ?_
  refine z_iload_n hX dX4_supportByLines_5 1 rfl ?_
  exact zx_callVE hX hT (no_X4_unfallen l hl0 hx) cv_RX4_126 zRc0 dX4_supportByLines_6 (by decide) rfl rfl (Nat.le_of_ble_eq_true rfl) rfl (fun _ h => h)
set_option maxHeartbeats 4000000 in
set_option maxRecDepth 100000 in
theorem go_X4_supportByLines (l : Launch) (hl0 : l.stackTraces = false) {g : zG} {κ : zKp} {μ : zMu} {ω : zOm} {gb cb : Nat → Int32} {i : Nat} (hn : bnI gb) (hlt : i < bn gb) (h7 : bf gb i 7 = 2)  : zMx l g yX4_supportByLines cX4_supportByLines 2 (some .int) 7 1 [.ref (gA g 0 0 0), .int (nI i)] (zF κ 0 gb cb) μ ω (zF κ 0 gb cb) μ ω (.error xNSE) := by
  refine zMx_of (by decide) (Nat.le_of_ble_eq_true rfl) (fun p e R s m args below meth c hX hT => ?_)
  show zZ p l e R s m args below meth c g 2 _ _ _ _ 0 0 [(0, .ref (gA g 0 0 0)), (1, .int (nI i))] []
  refine z_aload_n hX dX4_supportByLines_0 0 rfl ?_
  refine zg_X4_field hX   fl_RX4_10 dX4_supportByLines_1 ?_
  refine z_aload_n hX dX4_supportByLines_4 0 rfl ?_
  refine z_iload_n hX dX4_supportByLines_5 1 rfl ?_
  exact zx_callVE hX hT (go_X4_unfallen l hl0 hn hlt h7) cv_RX4_126 zRc0 dX4_supportByLines_6 (by decide) rfl rfl (Nat.le_of_ble_eq_true rfl) rfl (fun _ h => h)
set_option maxHeartbeats 4000000 in
set_option maxRecDepth 100000 in
theorem no_X4_supportOf (l : Launch) (hl0 : l.stackTraces = false) {g : zG} {κ : zKp} {μ : zMu} {ω : zOm} {gb cb : Nat → Int32} {x : Int32} (hx : x < 0 ∨ gb 0 ≤ x)  : zMx l g yX4_supportOf cX4_supportOf 2 (some .int) 8 1 [.ref (gA g 0 0 0), .int x] (zF κ 0 gb cb) μ ω (zF κ 0 gb cb) μ ω (.error xIOE) := by
  refine zMx_of (by decide) (Nat.le_of_ble_eq_true rfl) (fun p e R s m args below meth c hX hT => ?_)
  show zZ p l e R s m args below meth c g 2 _ _ _ _ 0 0 [(0, .ref (gA g 0 0 0)), (1, .int x)] []
  refine z_aload_n hX dX4_supportOf_0 0 rfl ?_
  refine zg_X4_field hX   fl_RX4_10 dX4_supportOf_1 ?_
  refine z_aload_n hX dX4_supportOf_4 0 rfl ?_
  refine z_iload_n hX dX4_supportOf_5 1 rfl ?_
  exact zx_callVE hX hT (no_X4_unfallen l hl0 hx) cv_RX4_126 zRc0 dX4_supportOf_6 (by decide) rfl rfl (Nat.le_of_ble_eq_true rfl) rfl (fun _ h => h)
set_option maxHeartbeats 4000000 in
set_option maxRecDepth 100000 in
theorem go_X4_supportOf (l : Launch) (hl0 : l.stackTraces = false) {g : zG} {κ : zKp} {μ : zMu} {ω : zOm} {gb cb : Nat → Int32} {i : Nat} (hn : bnI gb) (hlt : i < bn gb) (h7 : bf gb i 7 = 2)  : zMx l g yX4_supportOf cX4_supportOf 2 (some .int) 7 1 [.ref (gA g 0 0 0), .int (nI i)] (zF κ 0 gb cb) μ ω (zF κ 0 gb cb) μ ω (.error xNSE) := by
  refine zMx_of (by decide) (Nat.le_of_ble_eq_true rfl) (fun p e R s m args below meth c hX hT => ?_)
  show zZ p l e R s m args below meth c g 2 _ _ _ _ 0 0 [(0, .ref (gA g 0 0 0)), (1, .int (nI i))] []
  refine z_aload_n hX dX4_supportOf_0 0 rfl ?_
  refine zg_X4_field hX   fl_RX4_10 dX4_supportOf_1 ?_
  refine z_aload_n hX dX4_supportOf_4 0 rfl ?_
  refine z_iload_n hX dX4_supportOf_5 1 rfl ?_
  exact zx_callVE hX hT (go_X4_unfallen l hl0 hn hlt h7) cv_RX4_126 zRc0 dX4_supportOf_6 (by decide) rfl rfl (Nat.le_of_ble_eq_true rfl) rfl (fun _ h => h)
set_option maxHeartbeats 4000000 in
set_option maxRecDepth 100000 in
theorem no_X4_enemyAhead (l : Launch) (hl0 : l.stackTraces = false) {g : zG} {κ : zKp} {μ : zMu} {ω : zOm} {gb cb : Nat → Int32} {x : Int32} (hx : x < 0 ∨ gb 0 ≤ x)  : zMx l g yX4_enemyAhead cX4_enemyAhead 3 (some .int) 8 1 [.ref (gA g 0 0 0), .int x] (zF κ 0 gb cb) μ ω (zF κ 0 gb cb) μ ω (.error xIOE) := by
  refine zMx_of (by decide) (Nat.le_of_ble_eq_true rfl) (fun p e R s m args below meth c hX hT => ?_)
  show zZ p l e R s m args below meth c g 3 _ _ _ _ 0 0 [(0, .ref (gA g 0 0 0)), (1, .int x)] []
  refine z_aload_n hX dX4_enemyAhead_0 0 rfl ?_
  refine zg_X4_field hX   fl_RX4_10 dX4_enemyAhead_1 ?_
  refine z_aload_n hX dX4_enemyAhead_4 0 rfl ?_
  refine z_iload_n hX dX4_enemyAhead_5 1 rfl ?_
  exact zx_callVE hX hT (no_X4_unfallen l hl0 hx) cv_RX4_126 zRc0 dX4_enemyAhead_6 (by decide) rfl rfl (Nat.le_of_ble_eq_true rfl) rfl (fun _ h => h)
set_option maxHeartbeats 4000000 in
set_option maxRecDepth 100000 in
theorem go_X4_enemyAhead (l : Launch) (hl0 : l.stackTraces = false) {g : zG} {κ : zKp} {μ : zMu} {ω : zOm} {gb cb : Nat → Int32} {i : Nat} (hn : bnI gb) (hlt : i < bn gb) (h7 : bf gb i 7 = 2)  : zMx l g yX4_enemyAhead cX4_enemyAhead 3 (some .int) 7 1 [.ref (gA g 0 0 0), .int (nI i)] (zF κ 0 gb cb) μ ω (zF κ 0 gb cb) μ ω (.error xNSE) := by
  refine zMx_of (by decide) (Nat.le_of_ble_eq_true rfl) (fun p e R s m args below meth c hX hT => ?_)
  show zZ p l e R s m args below meth c g 3 _ _ _ _ 0 0 [(0, .ref (gA g 0 0 0)), (1, .int (nI i))] []
  refine z_aload_n hX dX4_enemyAhead_0 0 rfl ?_
  refine zg_X4_field hX   fl_RX4_10 dX4_enemyAhead_1 ?_
  refine z_aload_n hX dX4_enemyAhead_4 0 rfl ?_
  refine z_iload_n hX dX4_enemyAhead_5 1 rfl ?_
  exact zx_callVE hX hT (go_X4_unfallen l hl0 hn hlt h7) cv_RX4_126 zRc0 dX4_enemyAhead_6 (by decide) rfl rfl (Nat.le_of_ble_eq_true rfl) rfl (fun _ h => h)
set_option maxHeartbeats 4000000 in
set_option maxRecDepth 100000 in
theorem no_X4_enemyByDistances (l : Launch) (hl0 : l.stackTraces = false) {g : zG} {κ : zKp} {μ : zMu} {ω : zOm} {gb cb : Nat → Int32} {x : Int32} (hx : x < 0 ∨ gb 0 ≤ x)  : zMx l g yX4_enemyByDistances cX4_enemyByDistances 3 (some .int) 8 1 [.ref (gA g 0 0 0), .int x] (zF κ 0 gb cb) μ ω (zF κ 0 gb cb) μ ω (.error xIOE) := by
  refine zMx_of (by decide) (Nat.le_of_ble_eq_true rfl) (fun p e R s m args below meth c hX hT => ?_)
  show zZ p l e R s m args below meth c g 3 _ _ _ _ 0 0 [(0, .ref (gA g 0 0 0)), (1, .int x)] []
  refine z_aload_n hX dX4_enemyByDistances_0 0 rfl ?_
  refine zg_X4_field hX   fl_RX4_10 dX4_enemyByDistances_1 ?_
  refine z_aload_n hX dX4_enemyByDistances_4 0 rfl ?_
  refine z_iload_n hX dX4_enemyByDistances_5 1 rfl ?_
  exact zx_callVE hX hT (no_X4_unfallen l hl0 hx) cv_RX4_126 zRc0 dX4_enemyByDistances_6 (by decide) rfl rfl (Nat.le_of_ble_eq_true rfl) rfl (fun _ h => h)
set_option maxHeartbeats 4000000 in
set_option maxRecDepth 100000 in
theorem go_X4_enemyByDistances (l : Launch) (hl0 : l.stackTraces = false) {g : zG} {κ : zKp} {μ : zMu} {ω : zOm} {gb cb : Nat → Int32} {i : Nat} (hn : bnI gb) (hlt : i < bn gb) (h7 : bf gb i 7 = 2)  : zMx l g yX4_enemyByDistances cX4_enemyByDistances 3 (some .int) 7 1 [.ref (gA g 0 0 0), .int (nI i)] (zF κ 0 gb cb) μ ω (zF κ 0 gb cb) μ ω (.error xNSE) := by
  refine zMx_of (by decide) (Nat.le_of_ble_eq_true rfl) (fun p e R s m args below meth c hX hT => ?_)
  show zZ p l e R s m args below meth c g 3 _ _ _ _ 0 0 [(0, .ref (gA g 0 0 0)), (1, .int (nI i))] []
  refine z_aload_n hX dX4_enemyByDistances_0 0 rfl ?_
  refine zg_X4_field hX   fl_RX4_10 dX4_enemyByDistances_1 ?_
  refine z_aload_n hX dX4_enemyByDistances_4 0 rfl ?_
  refine z_iload_n hX dX4_enemyByDistances_5 1 rfl ?_
  exact zx_callVE hX hT (go_X4_unfallen l hl0 hn hlt h7) cv_RX4_126 zRc0 dX4_enemyByDistances_6 (by decide) rfl rfl (Nat.le_of_ble_eq_true rfl) rfl (fun _ h => h)
set_option maxHeartbeats 4000000 in
set_option maxRecDepth 100000 in
theorem ok_X4_lineCount (l : Launch) {g : zG} {κ : zKp} {μ : zMu} {ω : zOm} {gb cb : Nat → Int32}  : zM l g yX4_lineCount cX4_lineCount 1 (some .int) 1 0 [.ref (gA g 0 0 0)] (zF κ 0 gb cb) μ ω (zF κ 0 gb cb) μ ω (some (.int (gb 0))) := by
  refine zM_of (by decide) (Nat.le_of_ble_eq_true rfl) (fun p e R s m args below meth c hX => ?_)
  show zZ p l e R s m args below meth c g 1 _ _ _ _ 0 0 [(0, .ref (gA g 0 0 0))] []
  refine z_aload_n hX dX4_lineCount_0 0 rfl ?_
  refine zg_X4_field hX   fl_RX4_10 dX4_lineCount_1 ?_
  refine zg_X1_count hX z0lt  fl_RX4_114 dX4_lineCount_4 ?_
  exact z_iretI hX dX4_lineCount_7 (by decide) rfl (fun _ h => h)
set_option maxHeartbeats 4000000 in
set_option maxRecDepth 100000 in
theorem ok_X4_turnCount (l : Launch) {g : zG} {κ : zKp} {μ : zMu} {ω : zOm} {gb cb : Nat → Int32}  : zM l g yX4_turnCount cX4_turnCount 1 (some .int) 1 0 [.ref (gA g 0 0 0)] (zF κ 0 gb cb) μ ω (zF κ 0 gb cb) μ ω (some (.int (gb 1))) := by
  refine zM_of (by decide) (Nat.le_of_ble_eq_true rfl) (fun p e R s m args below meth c hX => ?_)
  show zZ p l e R s m args below meth c g 1 _ _ _ _ 0 0 [(0, .ref (gA g 0 0 0))] []
  refine z_aload_n hX dX4_turnCount_0 0 rfl ?_
  refine zg_X4_field hX   fl_RX4_10 dX4_turnCount_1 ?_
  refine zg_X1_turns hX z0lt  fl_RX4_243 dX4_turnCount_4 ?_
  exact z_iretI hX dX4_turnCount_7 (by decide) rfl (fun _ h => h)
set_option maxHeartbeats 4000000 in
set_option maxRecDepth 100000 in
theorem ok_X4_fightCount (l : Launch) {g : zG} {κ : zKp} {μ : zMu} {ω : zOm} {gb cb : Nat → Int32}  : zM l g yX4_fightCount cX4_fightCount 1 (some .int) 1 0 [.ref (gA g 0 0 0)] (zF κ 0 gb cb) μ ω (zF κ 0 gb cb) μ ω (some (.int (gb 2))) := by
  refine zM_of (by decide) (Nat.le_of_ble_eq_true rfl) (fun p e R s m args below meth c hX => ?_)
  show zZ p l e R s m args below meth c g 1 _ _ _ _ 0 0 [(0, .ref (gA g 0 0 0))] []
  refine z_aload_n hX dX4_fightCount_0 0 rfl ?_
  refine zg_X4_field hX   fl_RX4_10 dX4_fightCount_1 ?_
  refine zg_X1_fights hX z0lt  fl_RX4_201 dX4_fightCount_4 ?_
  exact z_iretI hX dX4_fightCount_7 (by decide) rfl (fun _ h => h)
set_option maxHeartbeats 4000000 in
set_option maxRecDepth 100000 in
theorem ok_X4_lineIn (l : Launch) {g : zG} {κ : zKp} {μ : zMu} {ω : zOm} {gb cb : Nat → Int32} {x y : Int32} {j : Nat} (hn : bnI gb) (hc : cb = cellsOf gb) (h1 : 0 ≤ x ∧ x < 3) (h2 : 0 ≤ y ∧ y < 10) (ho : occB gb x y = some j) : zM l g yX4_lineIn cX4_lineIn 4 (some .int) 3 0 [.ref (gA g 0 0 0), .int x, .int y] (zF κ 0 gb cb) μ ω (zF κ 0 gb cb) μ ω (some (.int (nI j))) := by
  refine zM_of (by decide) (Nat.le_of_ble_eq_true rfl) (fun p e R s m args below meth c hX => ?_)
  show zZ p l e R s m args below meth c g 4 _ _ _ _ 0 0 [(0, .ref (gA g 0 0 0)), (1, .int x), (2, .int y)] []
  refine z_iload_n hX dX4_lineIn_0 1 rfl ?_
  refine z_callS1 hX (ok_X4_isLane l) cs_RX4_158 dX4_lineIn_1 (by decide) rfl rfl (Nat.le_of_ble_eq_true rfl) ?_
  refine z_if_eqB (tgt := 14) hX dX4_lineIn_4 (by decide) (fun h4 => absurd h4 (Classical.not_not.mpr h1)) (fun h4 => ?_)
  refine z_iload_n hX dX4_lineIn_7 2 rfl ?_
  refine z_callS1 hX (ok_X4_isColumn l) cs_RX4_162 dX4_lineIn_8 (by decide) rfl rfl (Nat.le_of_ble_eq_true rfl) ?_
  refine z_if_neB (tgt := 24) hX dX4_lineIn_11 (by decide) (fun h11 => ?_) (fun h11 => absurd h11 (Classical.not_not.mpr h2))
  refine z_aload_n hX dX4_lineIn_24 0 rfl ?_
  refine zg_X4_field hX   fl_RX4_10 dX4_lineIn_25 ?_
  refine z_iload_n hX dX4_lineIn_28 1 rfl ?_
  refine z_iload_n hX dX4_lineIn_29 2 rfl ?_
  refine z_callV1 hX (ok_occ_s l z0lt hn hc ho) cv_RX4_167 (zRc6 z0lt) dX4_lineIn_30 (by decide) rfl rfl (Nat.le_of_ble_eq_true rfl) ?_
  refine z_astore_n (lv' := [(3, _), (0, _), (1, _), (2, _)]) hX dX4_lineIn_33 (by decide) rfl ?_
  refine z_aload_n hX dX4_lineIn_34 0 rfl ?_
  refine z_ifnonnull (tgt := 48) hX dX4_lineIn_35 (by decide) ?_
  refine z_aload_n hX dX4_lineIn_48 0 rfl ?_
  refine zg_X3_number hX z0lt (lt12 hn (occ_some hn.1 ho).1) (occ_some hn.1 ho).1  fl_RX4_176 dX4_lineIn_49 ?_
  exact z_iretI hX dX4_lineIn_52 (by decide) rfl (fun _ h => h)
set_option maxHeartbeats 4000000 in
set_option maxRecDepth 100000 in
theorem go_X4_lineIn (l : Launch) (hl0 : l.stackTraces = false) {g : zG} {κ : zKp} {μ : zMu} {ω : zOm} {gb cb : Nat → Int32} {x y : Int32} (hn : bnI gb) (hc : cb = cellsOf gb) (h1 : 0 ≤ x ∧ x < 3) (h2 : 0 ≤ y ∧ y < 10) (ho : occB gb x y = none) : zMx l g yX4_lineIn cX4_lineIn 4 (some .int) 6 1 [.ref (gA g 0 0 0), .int x, .int y] (zF κ 0 gb cb) μ ω (zF κ 0 gb cb) μ ω (.error xNSE) := by
  refine zMx_of (by decide) (Nat.le_of_ble_eq_true rfl) (fun p e R s m args below meth c hX hT => ?_)
  show zZ p l e R s m args below meth c g 4 _ _ _ _ 0 0 [(0, .ref (gA g 0 0 0)), (1, .int x), (2, .int y)] []
  refine z_iload_n hX dX4_lineIn_0 1 rfl ?_
  refine z_callS1 hX (ok_X4_isLane l) cs_RX4_158 dX4_lineIn_1 (by decide) rfl rfl (Nat.le_of_ble_eq_true rfl) ?_
  refine z_if_eqB (tgt := 14) hX dX4_lineIn_4 (by decide) (fun h4 => absurd h4 (Classical.not_not.mpr h1)) (fun h4 => ?_)
  refine z_iload_n hX dX4_lineIn_7 2 rfl ?_
  refine z_callS1 hX (ok_X4_isColumn l) cs_RX4_162 dX4_lineIn_8 (by decide) rfl rfl (Nat.le_of_ble_eq_true rfl) ?_
  refine z_if_neB (tgt := 24) hX dX4_lineIn_11 (by decide) (fun h11 => ?_) (fun h11 => absurd h11 (Classical.not_not.mpr h2))
  refine z_aload_n hX dX4_lineIn_24 0 rfl ?_
  refine zg_X4_field hX   fl_RX4_10 dX4_lineIn_25 ?_
  refine z_iload_n hX dX4_lineIn_28 1 rfl ?_
  refine z_iload_n hX dX4_lineIn_29 2 rfl ?_
  refine z_callV1 hX (ok_occ_n l z0lt hn hc ho) cv_RX4_167 (zRc6 z0lt) dX4_lineIn_30 (by decide) rfl rfl (Nat.le_of_ble_eq_true rfl) ?_
  refine z_nstore_n (lv' := [(3, _), (0, _), (1, _), (2, _)]) hX dX4_lineIn_33 (by decide) rfl ?_
  refine z_nload_n hX dX4_lineIn_34 0 rfl ?_
  refine z_ifnonnullN hX dX4_lineIn_35 ?_
  exact z_throwN hX hT hl0 (i := 12) rfl dX4_lineIn_38 dX4_lineIn_41 dX4_lineIn_42 dX4_lineIn_44 dX4_lineIn_47 (by decide) (Nat.le_of_ble_eq_true rfl) rfl (fun _ h => h)
set_option maxHeartbeats 4000000 in
set_option maxRecDepth 100000 in
theorem no_X4_lineIn (l : Launch) (hl0 : l.stackTraces = false) {g : zG} {κ : zKp} {μ : zMu} {ω : zOm} {gb cb : Nat → Int32} {x y : Int32} (hx : ¬ ((0 ≤ x ∧ x < 3) ∧ (0 ≤ y ∧ y < 10))) : zMx l g yX4_lineIn cX4_lineIn 4 (some .int) 6 1 [.ref (gA g 0 0 0), .int x, .int y] (zF κ 0 gb cb) μ ω (zF κ 0 gb cb) μ ω (.error xIOE) := by
  refine zMx_of (by decide) (Nat.le_of_ble_eq_true rfl) (fun p e R s m args below meth c hX hT => ?_)
  show zZ p l e R s m args below meth c g 4 _ _ _ _ 0 0 [(0, .ref (gA g 0 0 0)), (1, .int x), (2, .int y)] []
  refine z_iload_n hX dX4_lineIn_0 1 rfl ?_
  refine z_callS1 hX (ok_X4_isLane l) cs_RX4_158 dX4_lineIn_1 (by decide) rfl rfl (Nat.le_of_ble_eq_true rfl) ?_
  refine z_if_eqB (tgt := 14) hX dX4_lineIn_4 (by decide) (fun h4 => ?_) (fun h4 => ?_)
  · skip
    exact z_throw hX hT hl0 (i := 11) ft_IOE zN2_fit cl_IOE in_IOE rfl (zhat h1_IOE h2_IOE hX) go_IOE dX4_lineIn_14 dX4_lineIn_17 dX4_lineIn_18 dX4_lineIn_20 dX4_lineIn_23 (by decide) (Nat.le_of_ble_eq_true rfl) rfl (fun _ h => h)
  · skip
    refine z_iload_n hX dX4_lineIn_7 2 rfl ?_
    refine z_callS1 hX (ok_X4_isColumn l) cs_RX4_162 dX4_lineIn_8 (by decide) rfl rfl (Nat.le_of_ble_eq_true rfl) ?_
    refine z_if_neB (tgt := 24) hX dX4_lineIn_11 (by decide) (fun h11 => absurd h11 (fun q => hx ⟨h4, q⟩)) (fun h11 => ?_)
    exact z_throw hX hT hl0 (i := 11) ft_IOE zN2_fit cl_IOE in_IOE rfl (zhat h1_IOE h2_IOE hX) go_IOE dX4_lineIn_14 dX4_lineIn_17 dX4_lineIn_18 dX4_lineIn_20 dX4_lineIn_23 (by decide) (Nat.le_of_ble_eq_true rfl) rfl (fun _ h => h)
set_option maxHeartbeats 4000000 in
set_option maxRecDepth 100000 in
theorem ok_X4_requireSide (l : Launch) {g : zG} {κ : zKp} {μ : zMu} {ω : zOm} {gb cb : Nat → Int32} {x : Int32} (hx : 0 ≤ x ∧ x < 2) : zM l g yX4_requireSide cX4_requireSide 1 none 2 0 [.int x] (zF κ 0 gb cb) μ ω (zF κ 0 gb cb) μ ω none := by
  refine zM_of (by decide) (Nat.le_of_ble_eq_true rfl) (fun p e R s m args below meth c hX => ?_)
  show zZ p l e R s m args below meth c g 1 _ _ _ _ 0 0 [(0, .int x)] []
  refine z_iload_n hX dX4_requireSide_0 0 rfl ?_
  refine z_callS1 hX (ok_X4_isSide l) cs_RX4_225 dX4_requireSide_1 (by decide) rfl rfl (Nat.le_of_ble_eq_true rfl) ?_
  refine z_if_neB (tgt := 18) hX dX4_requireSide_4 (by decide) (fun h4 => ?_) (fun h4 => absurd h4 (Classical.not_not.mpr hx))
  exact z_vret hX dX4_requireSide_18 (by decide) (fun _ h => h)
set_option maxHeartbeats 4000000 in
set_option maxRecDepth 100000 in
theorem no_X4_requireSide (l : Launch) (hl0 : l.stackTraces = false) {g : zG} {κ : zKp} {μ : zMu} {ω : zOm} {gb cb : Nat → Int32} {x : Int32} (hx : ¬ (0 ≤ x ∧ x < 2)) : zMx l g yX4_requireSide cX4_requireSide 1 none 6 1 [.int x] (zF κ 0 gb cb) μ ω (zF κ 0 gb cb) μ ω (.error xIAE) := by
  refine zMx_of (by decide) (Nat.le_of_ble_eq_true rfl) (fun p e R s m args below meth c hX hT => ?_)
  show zZ p l e R s m args below meth c g 1 _ _ _ _ 0 0 [(0, .int x)] []
  refine z_iload_n hX dX4_requireSide_0 0 rfl ?_
  refine z_callS1 hX (ok_X4_isSide l) cs_RX4_225 dX4_requireSide_1 (by decide) rfl rfl (Nat.le_of_ble_eq_true rfl) ?_
  refine z_if_neB (tgt := 18) hX dX4_requireSide_4 (by decide) (fun h4 => absurd h4 hx) (fun h4 => ?_)
  exact z_throwW hX hT hl0 (i := 15) ft_IAE zN2_fit cl_IAE in_IAE rfl (zhat h1_IAE h2_IAE hX) go_IAE dX4_requireSide_7 dX4_requireSide_10 dX4_requireSide_11 dX4_requireSide_14 dX4_requireSide_17 (by decide) (Nat.le_of_ble_eq_true rfl) rfl (fun _ h => h)
set_option maxHeartbeats 4000000 in
set_option maxRecDepth 100000 in
theorem ok_X4_jarsOf (l : Launch) {g : zG} {κ : zKp} {μ : zMu} {ω : zOm} {gb cb : Nat → Int32} {x : Int32} (hn : bnI gb) (hx : 0 ≤ x ∧ x < 2)  : zM l g yX4_jarsOf cX4_jarsOf 2 (some .int) 3 0 [.ref (gA g 0 0 0), .int x] (zF κ 0 gb cb) μ ω (zF κ 0 gb cb) μ ω (some (.int (if x = 0 then gb 3 else gb 4))) := by
  refine zM_of (by decide) (Nat.le_of_ble_eq_true rfl) (fun p e R s m args below meth c hX => ?_)
  show zZ p l e R s m args below meth c g 2 _ _ _ _ 0 0 [(0, .ref (gA g 0 0 0)), (1, .int x)] []
  refine z_iload_n hX dX4_jarsOf_0 1 rfl ?_
  refine z_callS0 hX (ok_X4_requireSide l hx) cs_RX4_209 dX4_jarsOf_1 (by decide) rfl rfl (Nat.le_of_ble_eq_true rfl) ?_
  refine z_aload_n hX dX4_jarsOf_4 0 rfl ?_
  refine zg_X4_field hX   fl_RX4_10 dX4_jarsOf_5 ?_
  refine z_iload_n hX dX4_jarsOf_8 1 rfl ?_
  refine z_callV1 hX (ok_X1_jars l z0lt) cv_RX4_213 (zRc6 z0lt) dX4_jarsOf_9 (by decide) rfl rfl (Nat.le_of_ble_eq_true rfl) ?_
  exact z_iretI hX dX4_jarsOf_12 (by decide) rfl (fun _ h => h)
set_option maxHeartbeats 4000000 in
set_option maxRecDepth 100000 in
theorem ok_X4_strengthOfSide (l : Launch) {g : zG} {κ : zKp} {μ : zMu} {ω : zOm} {gb cb : Nat → Int32} {x : Int32} (hn : bnI gb) (hx : 0 ≤ x ∧ x < 2)  : zM l g yX4_strengthOfSide cX4_strengthOfSide 2 (some .int) 3 0 [.ref (gA g 0 0 0), .int x] (zF κ 0 gb cb) μ ω (zF κ 0 gb cb) μ ω (some (.int (sumB gb x))) := by
  refine zM_of (by decide) (Nat.le_of_ble_eq_true rfl) (fun p e R s m args below meth c hX => ?_)
  show zZ p l e R s m args below meth c g 2 _ _ _ _ 0 0 [(0, .ref (gA g 0 0 0)), (1, .int x)] []
  refine z_iload_n hX dX4_strengthOfSide_0 1 rfl ?_
  refine z_callS0 hX (ok_X4_requireSide l hx) cs_RX4_209 dX4_strengthOfSide_1 (by decide) rfl rfl (Nat.le_of_ble_eq_true rfl) ?_
  refine z_aload_n hX dX4_strengthOfSide_4 0 rfl ?_
  refine zg_X4_field hX   fl_RX4_10 dX4_strengthOfSide_5 ?_
  refine z_iload_n hX dX4_strengthOfSide_8 1 rfl ?_
  refine z_callV1 hX (ok_X1_strengthAmongLines l z0lt hn) cv_RX4_216 (zRc6 z0lt) dX4_strengthOfSide_9 (by decide) rfl rfl (Nat.le_of_ble_eq_true rfl) ?_
  exact z_iretI hX dX4_strengthOfSide_12 (by decide) rfl (fun _ h => h)
set_option maxHeartbeats 4000000 in
set_option maxRecDepth 100000 in
theorem ok_X4_fallenOf (l : Launch) {g : zG} {κ : zKp} {μ : zMu} {ω : zOm} {gb cb : Nat → Int32} {x : Int32} (hn : bnI gb) (hx : 0 ≤ x ∧ x < 2)  : zM l g yX4_fallenOf cX4_fallenOf 2 (some .int) 3 0 [.ref (gA g 0 0 0), .int x] (zF κ 0 gb cb) μ ω (zF κ 0 gb cb) μ ω (some (.int (falB gb x))) := by
  refine zM_of (by decide) (Nat.le_of_ble_eq_true rfl) (fun p e R s m args below meth c hX => ?_)
  show zZ p l e R s m args below meth c g 2 _ _ _ _ 0 0 [(0, .ref (gA g 0 0 0)), (1, .int x)] []
  refine z_iload_n hX dX4_fallenOf_0 1 rfl ?_
  refine z_callS0 hX (ok_X4_requireSide l hx) cs_RX4_209 dX4_fallenOf_1 (by decide) rfl rfl (Nat.le_of_ble_eq_true rfl) ?_
  refine z_aload_n hX dX4_fallenOf_4 0 rfl ?_
  refine zg_X4_field hX   fl_RX4_10 dX4_fallenOf_5 ?_
  refine z_iload_n hX dX4_fallenOf_8 1 rfl ?_
  refine z_callV1 hX (ok_X1_fallen l z0lt hn) cv_RX4_222 (zRc6 z0lt) dX4_fallenOf_9 (by decide) rfl rfl (Nat.le_of_ble_eq_true rfl) ?_
  exact z_iretI hX dX4_fallenOf_12 (by decide) rfl (fun _ h => h)
set_option maxHeartbeats 4000000 in
set_option maxRecDepth 100000 in
theorem no_X4_jarsOf (l : Launch) (hl0 : l.stackTraces = false) {g : zG} {κ : zKp} {μ : zMu} {ω : zOm} {gb cb : Nat → Int32} {x : Int32} (hx : ¬ (0 ≤ x ∧ x < 2))  : zMx l g yX4_jarsOf cX4_jarsOf 2 (some .int) 7 1 [.ref (gA g 0 0 0), .int x] (zF κ 0 gb cb) μ ω (zF κ 0 gb cb) μ ω (.error xIAE) := by
  refine zMx_of (by decide) (Nat.le_of_ble_eq_true rfl) (fun p e R s m args below meth c hX hT => ?_)
  show zZ p l e R s m args below meth c g 2 _ _ _ _ 0 0 [(0, .ref (gA g 0 0 0)), (1, .int x)] []
  refine z_iload_n hX dX4_jarsOf_0 1 rfl ?_
  exact zx_callSE hX hT (no_X4_requireSide l hl0 hx) cs_RX4_209 dX4_jarsOf_1 (by decide) rfl rfl (Nat.le_of_ble_eq_true rfl) rfl (fun _ h => h)
set_option maxHeartbeats 4000000 in
set_option maxRecDepth 100000 in
theorem no_X4_strengthOfSide (l : Launch) (hl0 : l.stackTraces = false) {g : zG} {κ : zKp} {μ : zMu} {ω : zOm} {gb cb : Nat → Int32} {x : Int32} (hx : ¬ (0 ≤ x ∧ x < 2))  : zMx l g yX4_strengthOfSide cX4_strengthOfSide 2 (some .int) 7 1 [.ref (gA g 0 0 0), .int x] (zF κ 0 gb cb) μ ω (zF κ 0 gb cb) μ ω (.error xIAE) := by
  refine zMx_of (by decide) (Nat.le_of_ble_eq_true rfl) (fun p e R s m args below meth c hX hT => ?_)
  show zZ p l e R s m args below meth c g 2 _ _ _ _ 0 0 [(0, .ref (gA g 0 0 0)), (1, .int x)] []
  refine z_iload_n hX dX4_strengthOfSide_0 1 rfl ?_
  exact zx_callSE hX hT (no_X4_requireSide l hl0 hx) cs_RX4_209 dX4_strengthOfSide_1 (by decide) rfl rfl (Nat.le_of_ble_eq_true rfl) rfl (fun _ h => h)
set_option maxHeartbeats 4000000 in
set_option maxRecDepth 100000 in
theorem no_X4_fallenOf (l : Launch) (hl0 : l.stackTraces = false) {g : zG} {κ : zKp} {μ : zMu} {ω : zOm} {gb cb : Nat → Int32} {x : Int32} (hx : ¬ (0 ≤ x ∧ x < 2))  : zMx l g yX4_fallenOf cX4_fallenOf 2 (some .int) 7 1 [.ref (gA g 0 0 0), .int x] (zF κ 0 gb cb) μ ω (zF κ 0 gb cb) μ ω (.error xIAE) := by
  refine zMx_of (by decide) (Nat.le_of_ble_eq_true rfl) (fun p e R s m args below meth c hX hT => ?_)
  show zZ p l e R s m args below meth c g 2 _ _ _ _ 0 0 [(0, .ref (gA g 0 0 0)), (1, .int x)] []
  refine z_iload_n hX dX4_fallenOf_0 1 rfl ?_
  exact zx_callSE hX hT (no_X4_requireSide l hl0 hx) cs_RX4_209 dX4_fallenOf_1 (by decide) rfl rfl (Nat.le_of_ble_eq_true rfl) rfl (fun _ h => h)
set_option maxHeartbeats 4000000 in
set_option maxRecDepth 100000 in
theorem no_X4_strengthByCells (l : Launch) (hl0 : l.stackTraces = false) {g : zG} {κ : zKp} {μ : zMu} {ω : zOm} {gb cb : Nat → Int32} {x : Int32} (hx : ¬ (0 ≤ x ∧ x < 2))  : zMx l g yX4_strengthByCells cX4_strengthByCells 2 (some .int) 7 1 [.ref (gA g 0 0 0), .int x] (zF κ 0 gb cb) μ ω (zF κ 0 gb cb) μ ω (.error xIAE) := by
  refine zMx_of (by decide) (Nat.le_of_ble_eq_true rfl) (fun p e R s m args below meth c hX hT => ?_)
  show zZ p l e R s m args below meth c g 2 _ _ _ _ 0 0 [(0, .ref (gA g 0 0 0)), (1, .int x)] []
  refine z_iload_n hX dX4_strengthByCells_0 1 rfl ?_
  exact zx_callSE hX hT (no_X4_requireSide l hl0 hx) cs_RX4_209 dX4_strengthByCells_1 (by decide) rfl rfl (Nat.le_of_ble_eq_true rfl) rfl (fun _ h => h)
set_option maxHeartbeats 4000000 in
set_option maxRecDepth 100000 in
theorem ok_X4_frontOf (l : Launch) {g : zG} {κ : zKp} {μ : zMu} {ω : zOm} {gb cb : Nat → Int32} {x y : Int32} (hn : bnI gb) (hc : cb = cellsOf gb) (hx : 0 ≤ x ∧ x < 2) (hy : 0 ≤ y ∧ y < 3) (h0 : ¬ froN gb x y 10 = -1) : zM l g yX4_frontOf cX4_frontOf 4 (some .int) 4 0 [.ref (gA g 0 0 0), .int x, .int y] (zF κ 0 gb cb) μ ω (zF κ 0 gb cb) μ ω (some (.int (froN gb x y 10))) := by
  refine zM_of (by decide) (Nat.le_of_ble_eq_true rfl) (fun p e R s m args below meth c hX => ?_)
  show zZ p l e R s m args below meth c g 4 _ _ _ _ 0 0 [(0, .ref (gA g 0 0 0)), (1, .int x), (2, .int y)] []
  refine z_iload_n hX dX4_frontOf_0 1 rfl ?_
  refine z_callS1 hX (ok_X4_isSide l) cs_RX4_225 dX4_frontOf_1 (by decide) rfl rfl (Nat.le_of_ble_eq_true rfl) ?_
  refine z_if_eqB (tgt := 14) hX dX4_frontOf_4 (by decide) (fun h4 => absurd h4 (Classical.not_not.mpr hx)) (fun h4 => ?_)
  refine z_iload_n hX dX4_frontOf_7 2 rfl ?_
  refine z_callS1 hX (ok_X4_isLane l) cs_RX4_158 dX4_frontOf_8 (by decide) rfl rfl (Nat.le_of_ble_eq_true rfl) ?_
  refine z_if_neB (tgt := 24) hX dX4_frontOf_11 (by decide) (fun h11 => ?_) (fun h11 => absurd h11 (Classical.not_not.mpr hy))
  refine z_aload_n hX dX4_frontOf_24 0 rfl ?_
  refine zg_X4_field hX   fl_RX4_10 dX4_frontOf_25 ?_
  refine z_iload_n hX dX4_frontOf_28 1 rfl ?_
  refine z_iload_n hX dX4_frontOf_29 2 rfl ?_
  refine z_callV1 hX (ok_X1_front l z0lt hn hc hy) cv_RX4_230 (zRc6 z0lt) dX4_frontOf_30 (by decide) rfl rfl (Nat.le_of_ble_eq_true rfl) ?_
  refine z_istore_n (lv' := [(3, _), (0, _), (1, _), (2, _)]) hX dX4_frontOf_33 (by decide) rfl ?_
  refine z_iload_n hX dX4_frontOf_34 0 rfl ?_
  refine z_iconst (v := -1) hX dX4_frontOf_35 (by decide) ?_
  refine z_icmp_ne (tgt := 49) hX dX4_frontOf_36 (by decide) (fun h36 => ?_) (fun h36 => absurd h36 h0)
  refine z_iload_n hX dX4_frontOf_49 0 rfl ?_
  exact z_iretI hX dX4_frontOf_50 (by decide) rfl (fun _ h => h)
set_option maxHeartbeats 4000000 in
set_option maxRecDepth 100000 in
theorem go_X4_frontOf (l : Launch) (hl0 : l.stackTraces = false) {g : zG} {κ : zKp} {μ : zMu} {ω : zOm} {gb cb : Nat → Int32} {x y : Int32} (hn : bnI gb) (hc : cb = cellsOf gb) (hx : 0 ≤ x ∧ x < 2) (hy : 0 ≤ y ∧ y < 3) (h0 : froN gb x y 10 = -1) : zMx l g yX4_frontOf cX4_frontOf 4 (some .int) 6 1 [.ref (gA g 0 0 0), .int x, .int y] (zF κ 0 gb cb) μ ω (zF κ 0 gb cb) μ ω (.error xNSE) := by
  refine zMx_of (by decide) (Nat.le_of_ble_eq_true rfl) (fun p e R s m args below meth c hX hT => ?_)
  show zZ p l e R s m args below meth c g 4 _ _ _ _ 0 0 [(0, .ref (gA g 0 0 0)), (1, .int x), (2, .int y)] []
  refine z_iload_n hX dX4_frontOf_0 1 rfl ?_
  refine z_callS1 hX (ok_X4_isSide l) cs_RX4_225 dX4_frontOf_1 (by decide) rfl rfl (Nat.le_of_ble_eq_true rfl) ?_
  refine z_if_eqB (tgt := 14) hX dX4_frontOf_4 (by decide) (fun h4 => absurd h4 (Classical.not_not.mpr hx)) (fun h4 => ?_)
  refine z_iload_n hX dX4_frontOf_7 2 rfl ?_
  refine z_callS1 hX (ok_X4_isLane l) cs_RX4_158 dX4_frontOf_8 (by decide) rfl rfl (Nat.le_of_ble_eq_true rfl) ?_
  refine z_if_neB (tgt := 24) hX dX4_frontOf_11 (by decide) (fun h11 => ?_) (fun h11 => absurd h11 (Classical.not_not.mpr hy))
  refine z_aload_n hX dX4_frontOf_24 0 rfl ?_
  refine zg_X4_field hX   fl_RX4_10 dX4_frontOf_25 ?_
  refine z_iload_n hX dX4_frontOf_28 1 rfl ?_
  refine z_iload_n hX dX4_frontOf_29 2 rfl ?_
  refine z_callV1 hX (ok_X1_front l z0lt hn hc hy) cv_RX4_230 (zRc6 z0lt) dX4_frontOf_30 (by decide) rfl rfl (Nat.le_of_ble_eq_true rfl) ?_
  refine z_istore_n (lv' := [(3, _), (0, _), (1, _), (2, _)]) hX dX4_frontOf_33 (by decide) rfl ?_
  refine z_iload_n hX dX4_frontOf_34 0 rfl ?_
  refine z_iconst (v := -1) hX dX4_frontOf_35 (by decide) ?_
  refine z_icmp_ne (tgt := 49) hX dX4_frontOf_36 (by decide) (fun h36 => absurd h36 (Classical.not_not.mpr h0)) (fun h36 => ?_)
  exact z_throwN hX hT hl0 (i := 17) rfl dX4_frontOf_39 dX4_frontOf_42 dX4_frontOf_43 dX4_frontOf_45 dX4_frontOf_48 (by decide) (Nat.le_of_ble_eq_true rfl) rfl (fun _ h => h)
set_option maxHeartbeats 4000000 in
set_option maxRecDepth 100000 in
theorem no_X4_frontOf (l : Launch) (hl0 : l.stackTraces = false) {g : zG} {κ : zKp} {μ : zMu} {ω : zOm} {gb cb : Nat → Int32} {x y : Int32} (hx : ¬ ((0 ≤ x ∧ x < 2) ∧ (0 ≤ y ∧ y < 3))) : zMx l g yX4_frontOf cX4_frontOf 4 (some .int) 6 1 [.ref (gA g 0 0 0), .int x, .int y] (zF κ 0 gb cb) μ ω (zF κ 0 gb cb) μ ω (.error xIAE) := by
  refine zMx_of (by decide) (Nat.le_of_ble_eq_true rfl) (fun p e R s m args below meth c hX hT => ?_)
  show zZ p l e R s m args below meth c g 4 _ _ _ _ 0 0 [(0, .ref (gA g 0 0 0)), (1, .int x), (2, .int y)] []
  refine z_iload_n hX dX4_frontOf_0 1 rfl ?_
  refine z_callS1 hX (ok_X4_isSide l) cs_RX4_225 dX4_frontOf_1 (by decide) rfl rfl (Nat.le_of_ble_eq_true rfl) ?_
  refine z_if_eqB (tgt := 14) hX dX4_frontOf_4 (by decide) (fun h4 => ?_) (fun h4 => ?_)
  · skip
    exact z_throw hX hT hl0 (i := 16) ft_IAE zN2_fit cl_IAE in_IAE rfl (zhat h1_IAE h2_IAE hX) go_IAE dX4_frontOf_14 dX4_frontOf_17 dX4_frontOf_18 dX4_frontOf_20 dX4_frontOf_23 (by decide) (Nat.le_of_ble_eq_true rfl) rfl (fun _ h => h)
  · skip
    refine z_iload_n hX dX4_frontOf_7 2 rfl ?_
    refine z_callS1 hX (ok_X4_isLane l) cs_RX4_158 dX4_frontOf_8 (by decide) rfl rfl (Nat.le_of_ble_eq_true rfl) ?_
    refine z_if_neB (tgt := 24) hX dX4_frontOf_11 (by decide) (fun h11 => absurd h11 (fun q => hx ⟨h4, q⟩)) (fun h11 => ?_)
    exact z_throw hX hT hl0 (i := 16) ft_IAE zN2_fit cl_IAE in_IAE rfl (zhat h1_IAE h2_IAE hX) go_IAE dX4_frontOf_14 dX4_frontOf_17 dX4_frontOf_18 dX4_frontOf_20 dX4_frontOf_23 (by decide) (Nat.le_of_ble_eq_true rfl) rfl (fun _ h => h)
set_option maxHeartbeats 4000000 in
set_option maxRecDepth 100000 in
theorem ok_X4_leader (l : Launch) {g : zG} {κ : zKp} {μ : zMu} {ω : zOm} {gb cb : Nat → Int32} (hn : bnI gb) (h0 : ¬ sumB gb 0 - sumB gb 1 = 0) : zM l g yX4_leader cX4_leader 2 (some .int) 3 0 [.ref (gA g 0 0 0)] (zF κ 0 gb cb) μ ω (zF κ 0 gb cb) μ ω (some (.int (if 0 < sumB gb 0 - sumB gb 1 then 0 else 1))) := by
  refine zM_of (by decide) (Nat.le_of_ble_eq_true rfl) (fun p e R s m args below meth c hX => ?_)
  show zZ p l e R s m args below meth c g 2 _ _ _ _ 0 0 [(0, .ref (gA g 0 0 0))] []
  refine z_aload_n hX dX4_leader_0 0 rfl ?_
  refine zg_X4_field hX   fl_RX4_10 dX4_leader_1 ?_
  refine z_iconst (v := 0) hX dX4_leader_4 (by decide) ?_
  refine z_callV1 hX (ok_X1_strengthAmongLines l z0lt hn) cv_RX4_216 (zRc6 z0lt) dX4_leader_5 (by decide) rfl rfl (Nat.le_of_ble_eq_true rfl) ?_
  refine z_aload_n hX dX4_leader_8 0 rfl ?_
  refine zg_X4_field hX   fl_RX4_10 dX4_leader_9 ?_
  refine z_iconst (v := 1) hX dX4_leader_12 (by decide) ?_
  refine z_callV1 hX (ok_X1_strengthAmongLines l z0lt hn) cv_RX4_216 (zRc6 z0lt) dX4_leader_13 (by decide) rfl rfl (Nat.le_of_ble_eq_true rfl) ?_
  refine z_isub hX dX4_leader_16 ?_
  refine z_istore_n (lv' := [(1, _), (0, _)]) hX dX4_leader_17 (by decide) rfl ?_
  refine z_iload_n hX dX4_leader_18 0 rfl ?_
  refine z_if_ne (tgt := 32) hX dX4_leader_19 (by decide) (fun h19 => ?_) (fun h19 => absurd h19 h0)
  refine z_iload_n hX dX4_leader_32 0 rfl ?_
  refine z_if_le (tgt := 40) hX dX4_leader_33 (by decide) (fun h33 => ?_) (fun h33 => ?_)
  · skip
    refine z_iconst (v := 1) hX dX4_leader_40 (by decide) ?_
    exact z_iretI hX dX4_leader_41 (by decide) (by rw [if_neg (show ¬ 0 < sumB gb 0 - sumB gb 1 from Int32.not_lt.mpr h33)]) (fun _ h => h)
  · skip
    refine z_iconst (v := 0) hX dX4_leader_36 (by decide) ?_
    refine z_goto (tgt := 41) hX dX4_leader_37 (by decide) ?_
    exact z_iretI hX dX4_leader_41 (by decide) (by rw [if_pos (show 0 < sumB gb 0 - sumB gb 1 from Int32.not_le.mp h33)]) (fun _ h => h)
set_option maxHeartbeats 4000000 in
set_option maxRecDepth 100000 in
theorem no_X4_leader (l : Launch) (hl0 : l.stackTraces = false) {g : zG} {κ : zKp} {μ : zMu} {ω : zOm} {gb cb : Nat → Int32} (hn : bnI gb) (h0 : sumB gb 0 - sumB gb 1 = 0) : zMx l g yX4_leader cX4_leader 2 (some .int) 6 1 [.ref (gA g 0 0 0)] (zF κ 0 gb cb) μ ω (zF κ 0 gb cb) μ ω (.error xNSE) := by
  refine zMx_of (by decide) (Nat.le_of_ble_eq_true rfl) (fun p e R s m args below meth c hX hT => ?_)
  show zZ p l e R s m args below meth c g 2 _ _ _ _ 0 0 [(0, .ref (gA g 0 0 0))] []
  refine z_aload_n hX dX4_leader_0 0 rfl ?_
  refine zg_X4_field hX   fl_RX4_10 dX4_leader_1 ?_
  refine z_iconst (v := 0) hX dX4_leader_4 (by decide) ?_
  refine z_callV1 hX (ok_X1_strengthAmongLines l z0lt hn) cv_RX4_216 (zRc6 z0lt) dX4_leader_5 (by decide) rfl rfl (Nat.le_of_ble_eq_true rfl) ?_
  refine z_aload_n hX dX4_leader_8 0 rfl ?_
  refine zg_X4_field hX   fl_RX4_10 dX4_leader_9 ?_
  refine z_iconst (v := 1) hX dX4_leader_12 (by decide) ?_
  refine z_callV1 hX (ok_X1_strengthAmongLines l z0lt hn) cv_RX4_216 (zRc6 z0lt) dX4_leader_13 (by decide) rfl rfl (Nat.le_of_ble_eq_true rfl) ?_
  refine z_isub hX dX4_leader_16 ?_
  refine z_istore_n (lv' := [(1, _), (0, _)]) hX dX4_leader_17 (by decide) rfl ?_
  refine z_iload_n hX dX4_leader_18 0 rfl ?_
  refine z_if_ne (tgt := 32) hX dX4_leader_19 (by decide) (fun h19 => absurd h19 (Classical.not_not.mpr h0)) (fun h19 => ?_)
  exact z_throwN hX hT hl0 (i := 18) rfl dX4_leader_22 dX4_leader_25 dX4_leader_26 dX4_leader_28 dX4_leader_31 (by decide) (Nat.le_of_ble_eq_true rfl) rfl (fun _ h => h)
set_option maxHeartbeats 4000000 in
set_option maxRecDepth 100000 in
theorem ok_X4_lineByStrength (l : Launch) {g : zG} {κ : zKp} {μ : zMu} {ω : zOm} {gb cb : Nat → Int32} {x : Int32} {i : Nat} (hn : bnI gb) (hlt : i < bn gb) (hx : rankB gb i = x) (hx2 : ∀ j, j < i → ¬ rankB gb j = x) : zM l g yX4_lineByStrength cX4_lineByStrength 3 (some .int) 4 0 [.ref (gA g 0 0 0), .int x] (zF κ 0 gb cb) μ ω (zF κ 0 gb cb) μ ω (some (.int (nI i))) := by
  refine zM_of (by decide) (Nat.le_of_ble_eq_true rfl) (fun p e R s m args below meth c hX => ?_)
  show zZ p l e R s m args below meth c g 3 _ _ _ _ 0 0 [(0, .ref (gA g 0 0 0)), (1, .int x)] []
  refine z_aload_n hX dX4_lineByStrength_0 0 rfl ?_
  refine zg_X4_field hX   fl_RX4_10 dX4_lineByStrength_1 ?_
  refine z_iload_n hX dX4_lineByStrength_4 1 rfl ?_
  refine z_callV1 hX (ok_rank_yes l z0lt hn hlt hx hx2) cv_RX4_238 (zRc6 z0lt) dX4_lineByStrength_5 (by decide) rfl rfl (Nat.le_of_ble_eq_true rfl) ?_
  refine z_istore_n (lv' := [(2, _), (0, _), (1, _)]) hX dX4_lineByStrength_8 (by decide) rfl ?_
  refine z_iload_n hX dX4_lineByStrength_9 0 rfl ?_
  refine z_iconst (v := -1) hX dX4_lineByStrength_10 (by decide) ?_
  refine z_icmp_ne (tgt := 24) hX dX4_lineByStrength_11 (by decide) (fun h11 => ?_) (fun h11 => absurd h11 (nI_ne_m1 (by have := hn.1; omega)))
  refine z_iload_n hX dX4_lineByStrength_24 0 rfl ?_
  exact z_iretI hX dX4_lineByStrength_25 (by decide) rfl (fun _ h => h)
set_option maxHeartbeats 4000000 in
set_option maxRecDepth 100000 in
theorem no_X4_lineByStrength (l : Launch) (hl0 : l.stackTraces = false) {g : zG} {κ : zKp} {μ : zMu} {ω : zOm} {gb cb : Nat → Int32} {x : Int32} (hn : bnI gb) (hx : ∀ j, j < bn gb → ¬ rankB gb j = x) : zMx l g yX4_lineByStrength cX4_lineByStrength 3 (some .int) 6 1 [.ref (gA g 0 0 0), .int x] (zF κ 0 gb cb) μ ω (zF κ 0 gb cb) μ ω (.error xNSE) := by
  refine zMx_of (by decide) (Nat.le_of_ble_eq_true rfl) (fun p e R s m args below meth c hX hT => ?_)
  show zZ p l e R s m args below meth c g 3 _ _ _ _ 0 0 [(0, .ref (gA g 0 0 0)), (1, .int x)] []
  refine z_aload_n hX dX4_lineByStrength_0 0 rfl ?_
  refine zg_X4_field hX   fl_RX4_10 dX4_lineByStrength_1 ?_
  refine z_iload_n hX dX4_lineByStrength_4 1 rfl ?_
  refine z_callV1 hX (ok_rank_no l z0lt hn hx) cv_RX4_238 (zRc6 z0lt) dX4_lineByStrength_5 (by decide) rfl rfl (Nat.le_of_ble_eq_true rfl) ?_
  refine z_istore_n (lv' := [(2, _), (0, _), (1, _)]) hX dX4_lineByStrength_8 (by decide) rfl ?_
  refine z_iload_n hX dX4_lineByStrength_9 0 rfl ?_
  refine z_iconst (v := -1) hX dX4_lineByStrength_10 (by decide) ?_
  refine z_icmp_ne (tgt := 24) hX dX4_lineByStrength_11 (by decide) (fun h11 => absurd h11 (Classical.not_not.mpr rfl)) (fun h11 => ?_)
  exact z_throwN hX hT hl0 (i := 19) rfl dX4_lineByStrength_14 dX4_lineByStrength_17 dX4_lineByStrength_18 dX4_lineByStrength_20 dX4_lineByStrength_23 (by decide) (Nat.le_of_ble_eq_true rfl) rfl (fun _ h => h)




end ZB1
