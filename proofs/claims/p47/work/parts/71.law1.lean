section ZLA
section
variable {p : Program} {l : Launch} {e : Env} {R : Room} {s : State} {m : MethodId} {args : Array Value} {below : List Frame} {meth : Method} {c : Code} {Q : State → Prop} {g : zG} {own : String} {cc : ByteArray} {n lvl mc : Nat} {ret : Option FieldType} {κ κ' : zKp} {μ μ' : zMu} {ω ω' : zOm} {k pc : Nat} {lv lv' : List (Nat × Value)} {st : List Value}
/-- the script's length and its cells -/
theorem z_xlen (hX : zX p l s m args meth c R g own cc n ret lvl mc) (d : decode cc pc = .ok (.arraylength, 1)) (kk : zZ p l e R s m args below meth c g n Q κ μ ω k (pc + 1) lv (.int (nI (gA g 11 1 0)) :: st)) : zZ p l e R s m args below meth c g n Q κ μ ω k pc lv (.ref (gA g 11 0 0) :: st) := fun H ls locs hl hS hW => va_tlen hX.1 hX.2.1 hX.sc.1 hS rfl d (kk H ls locs hl hS hW)
theorem z_xld (hX : zX p l s m args meth c R g own cc n ret lvl mc) {q : Nat} (hq : q < gA g 11 1 0) (d : decode cc pc = .ok (.iaload, 1)) (kk : zZ p l e R s m args below meth c g n Q κ μ ω k (pc + 1) lv (.int (nI (gA g 11 2 q)) :: st)) : zZ p l e R s m args below meth c g n Q κ μ ω k pc lv (.int (nI q) :: .ref (gA g 11 0 0) :: st) := fun H ls locs hl hS hW => by
  have h2 := hX.sc.2
  exact va_ti hX.1 hX.2.1 hX.sc.1 hS (vp_in_nI hq (by omega)) (by rw [nI_clamp (by omega)]) d (kk H ls locs hl hS hW)
end
/-- the script's cell, or the rest -/
def scB (g : zG) (q : Nat) : Int32 := if q < gA g 11 1 0 then nI (gA g 11 2 q) else 40503 * nI q
def akB (z v : Int32) : Int32 := if z = 112 then v / 4 else if z = 110 then v / 5 + 2 else if z = 99 then v / 3 else v / 6 + 1
def ckB (z v : Int32) : Int32 := if z = 112 then v / 8 else if z = 110 then v / 4 else if z = 99 then v / 10 else v / 6
theorem w_40503 : Cond.constant RL 7 40503 ∈ gW := gW_I 225 (by decide +kernel) rfl
set_option maxHeartbeats 4000000 in
set_option maxRecDepth 100000 in
theorem lw_cell (l : Launch) (hl0 : l.stackTraces = false) {g : zG} {κ : zKp} {μ ν : zMu} {ω : zOm} {q : Nat} (hq : q < 2560) (hL : gA g 11 1 0 ≤ 2560) : zM l g yL_cell cL_cell 2 (some .int) 1 0 [.ref (gA g 11 0 0), .int (nI q)] κ ν ω κ ν ω (some (.int (scB g q))) := by
  refine zM_of (by decide) (Nat.le_of_ble_eq_true rfl) (fun p e R s m args below meth c hX => ?_)
  show zZ p l e R s m args below meth c g 2 _ _ _ _ 0 0 [(0, .ref (gA g 11 0 0)), (1, .int (nI q))] []
  refine z_iload_n hX dL_cell_0 1 rfl ?_
  refine z_aload_n hX dL_cell_1 0 rfl ?_
  refine z_xlen hX dL_cell_2 ?_
  refine z_icmp_ge (tgt := 12) hX dL_cell_3 (by decide) (fun h3 => ?_) (fun h3 => ?_)
  · have h3 : ¬ q < gA g 11 1 0 := fun w => nle_i (a := q) (b := gA g 11 1 0) w (by omega) h3
    refine z_ldcI hX w_40503 dL_cell_12 ?_
    refine z_iload_n hX dL_cell_14 1 rfl ?_
    refine z_imul hX dL_cell_15 ?_
    exact z_iretI hX dL_cell_16 (by omega) (by unfold scB; rw [if_neg h3]) (fun _ h => h)
  · have h3 : q < gA g 11 1 0 := Nat.lt_of_not_le (fun w => h3 (le_i w (by omega)))
    refine z_aload_n hX dL_cell_6 0 rfl ?_
    refine z_iload_n hX dL_cell_7 1 rfl ?_
    refine z_xld hX h3 dL_cell_8 ?_
    refine z_goto (tgt := 16) hX dL_cell_9 (by decide) ?_
    exact z_iretI hX dL_cell_16 (by omega) (by unfold scB; rw [if_pos h3]) (fun _ h => h)
set_option maxRecDepth 100000 in
theorem lw_isFallen (l : Launch) (hl0 : l.stackTraces = false) {g : zG} {κ : zKp} {μ ν : zMu} {ω : zOm} (h : RR κ μ) {i : Nat} (hlt : i < bn (μ 1)) : zM l g yL_isFallen cL_isFallen 2 (some .boolean) 4 0 [.ref (gA g 0 0 0), .int (nI i)] κ ν ω κ ν ω (some (.int (if bf (μ 1) i 7 = 2 then 1 else 0))) := by
  have h8 := (h.bI.1.2.2.1 i hlt).2.2.2.2.2.2.2
  have e1 := dm_isStanding l (g := g) (ν := ν) (ω := ω) h hlt
  have e2 := dm_isRouted l (g := g) (ν := ν) (ω := ω) h hlt
  refine zM_of (by decide) (Nat.le_of_ble_eq_true rfl) (fun p e R s m args below meth c hX => ?_)
  show zZ p l e R s m args below meth c g 2 _ _ _ _ 0 0 [(0, .ref (gA g 0 0 0)), (1, .int (nI i))] []
  refine z_aload_n hX dL_isFallen_0 0 rfl ?_
  refine z_iload_n hX dL_isFallen_1 1 rfl ?_
  refine z_callV1 hX e1 cv_RL_54 zRc0 dL_isFallen_2 ⟨by omega, by decide, by omega⟩ rfl rfl (Nat.le_of_ble_eq_true rfl) ?_
  rcases h8 with q | q | q
  · rw [if_pos q, if_neg (by rw [q]; decide)]
    refine z_if_ne (tgt := 20) hX dL_isFallen_5 (by decide) (fun _ => ?_) (fun w => absurd w (by decide))
    refine z_iconst (v := 0) hX dL_isFallen_20 (by decide) ?_
    exact z_iret hX dL_isFallen_21 (by omega) rfl rfl (fun _ h => h)
  · rw [if_neg (by rw [q]; decide), if_neg (by rw [q]; decide)]
    refine z_if_ne (tgt := 20) hX dL_isFallen_5 (by decide) (fun w => absurd rfl w) (fun _ => ?_)
    refine z_aload_n hX dL_isFallen_8 0 rfl ?_
    refine z_iload_n hX dL_isFallen_9 1 rfl ?_
    refine z_callV1 hX e2 cv_RL_58 zRc0 dL_isFallen_10 ⟨by omega, by decide, by omega⟩ rfl rfl (Nat.le_of_ble_eq_true rfl) ?_
    rw [if_pos q]
    refine z_if_ne (tgt := 20) hX dL_isFallen_13 (by decide) (fun _ => ?_) (fun w => absurd w (by decide))
    refine z_iconst (v := 0) hX dL_isFallen_20 (by decide) ?_
    exact z_iret hX dL_isFallen_21 (by omega) rfl rfl (fun _ h => h)
  · rw [if_pos q, if_neg (by rw [q]; decide)]
    refine z_if_ne (tgt := 20) hX dL_isFallen_5 (by decide) (fun w => absurd rfl w) (fun _ => ?_)
    refine z_aload_n hX dL_isFallen_8 0 rfl ?_
    refine z_iload_n hX dL_isFallen_9 1 rfl ?_
    refine z_callV1 hX e2 cv_RL_58 zRc0 dL_isFallen_10 ⟨by omega, by decide, by omega⟩ rfl rfl (Nat.le_of_ble_eq_true rfl) ?_
    rw [if_neg (by rw [q]; decide)]
    refine z_if_ne (tgt := 20) hX dL_isFallen_13 (by decide) (fun w => absurd rfl w) (fun _ => ?_)
    refine z_iconst (v := 1) hX dL_isFallen_16 (by decide) ?_
    refine z_goto (tgt := 21) hX dL_isFallen_17 (by decide) ?_
    exact z_iret hX dL_isFallen_21 (by omega) rfl rfl (fun _ h => h)
set_option maxHeartbeats 4000000 in
set_option maxRecDepth 100000 in
theorem lw_way (l : Launch) (hl0 : l.stackTraces = false) {g : zG} {κ : zKp} {μ ν : zMu} {ω : zOm} (h : RR κ μ) {i : Nat} (hlt : i < bn (μ 1)) : zM l g yL_way cL_way 2 (some .int) 4 0 [.ref (gA g 0 0 0), .int (nI i)] κ ν ω κ ν ω (some (.int (wayB (μ 1) i))) := by
  refine zM_of (by decide) (Nat.le_of_ble_eq_true rfl) (fun p e R s m args below meth c hX => ?_)
  show zZ p l e R s m args below meth c g 2 _ _ _ _ 0 0 [(0, .ref (gA g 0 0 0)), (1, .int (nI i))] []
  refine z_aload_n hX dL_way_0 0 rfl ?_
  refine z_iload_n hX dL_way_1 1 rfl ?_
  refine z_callV1 hX (dm_sideOf l h hlt) cv_RL_30 zRc0 dL_way_2 ⟨by omega, by decide, by omega⟩ rfl rfl (Nat.le_of_ble_eq_true rfl) ?_
  refine z_if_ne (tgt := 12) hX dL_way_5 (by decide) (fun h5 => ?_) (fun h5 => ?_)
  · skip
    refine z_iconst (v := -1) hX dL_way_12 (by decide) ?_
    exact z_iretI hX dL_way_13 (by omega) (by unfold wayB; rw [if_neg h5]) (fun _ h => h)
  · skip
    refine z_iconst (v := 1) hX dL_way_8 (by decide) ?_
    refine z_goto (tgt := 13) hX dL_way_9 (by decide) ?_
    exact z_iretI hX dL_way_13 (by omega) (by unfold wayB; rw [if_pos h5]) (fun _ h => h)
set_option maxHeartbeats 4000000 in
set_option maxRecDepth 100000 in
theorem lw_attackBy (l : Launch) (hl0 : l.stackTraces = false) {g : zG} {κ : zKp} {μ ν : zMu} {ω : zOm} {z v : Int32} : zM l g yL_attackBy cL_attackBy 2 (some .int) 1 0 [.int z, .int v] κ ν ω κ ν ω (some (.int (akB z v))) := by
  refine zM_of (by decide) (Nat.le_of_ble_eq_true rfl) (fun p e R s m args below meth c hX => ?_)
  show zZ p l e R s m args below meth c g 2 _ _ _ _ 0 0 [(0, .int z), (1, .int v)] []
  refine z_iload_n hX dL_attackBy_0 0 rfl ?_
  refine z_bipush (v := 112) hX dL_attackBy_1 (by decide) ?_
  refine z_icmp_ne (tgt := 12) hX dL_attackBy_3 (by decide) (fun h3 => ?_) (fun h3 => ?_)
  · skip
    refine z_iload_n hX dL_attackBy_12 0 rfl ?_
    refine z_bipush (v := 110) hX dL_attackBy_13 (by decide) ?_
    refine z_icmp_ne (tgt := 26) hX dL_attackBy_15 (by decide) (fun h15 => ?_) (fun h15 => ?_)
    · skip
      refine z_iload_n hX dL_attackBy_26 0 rfl ?_
      refine z_bipush (v := 99) hX dL_attackBy_27 (by decide) ?_
      refine z_icmp_ne (tgt := 38) hX dL_attackBy_29 (by decide) (fun h29 => ?_) (fun h29 => ?_)
      · skip
        refine z_iload_n hX dL_attackBy_38 1 rfl ?_
        refine z_bipush (v := 6) hX dL_attackBy_39 (by decide) ?_
        refine z_idiv hX dL_attackBy_41 (by decide) ?_
        refine z_iconst (v := 1) hX dL_attackBy_42 (by decide) ?_
        refine z_iadd hX dL_attackBy_43 ?_
        exact z_iretI hX dL_attackBy_44 (by omega) (by unfold akB; rw [if_neg h3, if_neg h15, if_neg h29]) (fun _ h => h)
      · skip
        refine z_iload_n hX dL_attackBy_32 1 rfl ?_
        refine z_iconst (v := 3) hX dL_attackBy_33 (by decide) ?_
        refine z_idiv hX dL_attackBy_34 (by decide) ?_
        refine z_goto (tgt := 44) hX dL_attackBy_35 (by decide) ?_
        exact z_iretI hX dL_attackBy_44 (by omega) (by unfold akB; rw [if_neg h3, if_neg h15, if_pos h29]) (fun _ h => h)
    · skip
      refine z_iload_n hX dL_attackBy_18 1 rfl ?_
      refine z_iconst (v := 5) hX dL_attackBy_19 (by decide) ?_
      refine z_idiv hX dL_attackBy_20 (by decide) ?_
      refine z_iconst (v := 2) hX dL_attackBy_21 (by decide) ?_
      refine z_iadd hX dL_attackBy_22 ?_
      refine z_goto (tgt := 44) hX dL_attackBy_23 (by decide) ?_
      exact z_iretI hX dL_attackBy_44 (by omega) (by unfold akB; rw [if_neg h3, if_pos h15]) (fun _ h => h)
  · skip
    refine z_iload_n hX dL_attackBy_6 1 rfl ?_
    refine z_iconst (v := 4) hX dL_attackBy_7 (by decide) ?_
    refine z_idiv hX dL_attackBy_8 (by decide) ?_
    refine z_goto (tgt := 44) hX dL_attackBy_9 (by decide) ?_
    exact z_iretI hX dL_attackBy_44 (by omega) (by unfold akB; rw [if_pos h3]) (fun _ h => h)
set_option maxHeartbeats 4000000 in
set_option maxRecDepth 100000 in
theorem lw_counterBy (l : Launch) (hl0 : l.stackTraces = false) {g : zG} {κ : zKp} {μ ν : zMu} {ω : zOm} {z v : Int32} : zM l g yL_counterBy cL_counterBy 2 (some .int) 1 0 [.int z, .int v] κ ν ω κ ν ω (some (.int (ckB z v))) := by
  refine zM_of (by decide) (Nat.le_of_ble_eq_true rfl) (fun p e R s m args below meth c hX => ?_)
  show zZ p l e R s m args below meth c g 2 _ _ _ _ 0 0 [(0, .int z), (1, .int v)] []
  refine z_iload_n hX dL_counterBy_0 0 rfl ?_
  refine z_bipush (v := 112) hX dL_counterBy_1 (by decide) ?_
  refine z_icmp_ne (tgt := 13) hX dL_counterBy_3 (by decide) (fun h3 => ?_) (fun h3 => ?_)
  · skip
    refine z_iload_n hX dL_counterBy_13 0 rfl ?_
    refine z_bipush (v := 110) hX dL_counterBy_14 (by decide) ?_
    refine z_icmp_ne (tgt := 25) hX dL_counterBy_16 (by decide) (fun h16 => ?_) (fun h16 => ?_)
    · skip
      refine z_iload_n hX dL_counterBy_25 0 rfl ?_
      refine z_bipush (v := 99) hX dL_counterBy_26 (by decide) ?_
      refine z_icmp_ne (tgt := 38) hX dL_counterBy_28 (by decide) (fun h28 => ?_) (fun h28 => ?_)
      · skip
        refine z_iload_n hX dL_counterBy_38 1 rfl ?_
        refine z_bipush (v := 6) hX dL_counterBy_39 (by decide) ?_
        refine z_idiv hX dL_counterBy_41 (by decide) ?_
        exact z_iretI hX dL_counterBy_42 (by omega) (by unfold ckB; rw [if_neg h3, if_neg h16, if_neg h28]) (fun _ h => h)
      · skip
        refine z_iload_n hX dL_counterBy_31 1 rfl ?_
        refine z_bipush (v := 10) hX dL_counterBy_32 (by decide) ?_
        refine z_idiv hX dL_counterBy_34 (by decide) ?_
        refine z_goto (tgt := 42) hX dL_counterBy_35 (by decide) ?_
        exact z_iretI hX dL_counterBy_42 (by omega) (by unfold ckB; rw [if_neg h3, if_neg h16, if_pos h28]) (fun _ h => h)
    · skip
      refine z_iload_n hX dL_counterBy_19 1 rfl ?_
      refine z_iconst (v := 4) hX dL_counterBy_20 (by decide) ?_
      refine z_idiv hX dL_counterBy_21 (by decide) ?_
      refine z_goto (tgt := 42) hX dL_counterBy_22 (by decide) ?_
      exact z_iretI hX dL_counterBy_42 (by omega) (by unfold ckB; rw [if_neg h3, if_pos h16]) (fun _ h => h)
  · skip
    refine z_iload_n hX dL_counterBy_6 1 rfl ?_
    refine z_bipush (v := 8) hX dL_counterBy_7 (by decide) ?_
    refine z_idiv hX dL_counterBy_9 (by decide) ?_
    refine z_goto (tgt := 42) hX dL_counterBy_10 (by decide) ?_
    exact z_iretI hX dL_counterBy_42 (by omega) (by unfold ckB; rw [if_pos h3]) (fun _ h => h)
theorem lane_m1 (x : Int32) : x + -1 = x - 1 + nI (2 * 0) := by rw [Int32.sub_eq_add_neg]; exact (Int32.add_zero _).symm
theorem lane_p1 (x : Int32) : x + 1 = x - 1 + nI (2 * 1) := by rw [Int32.sub_eq_add_neg, Int32.add_assoc]; rfl
theorem col_in {b : zB} {i : Nat} (hL : lineW b i) : inCol (bf b i 2) := by
  obtain ⟨a, ha, e⟩ := hL.2.2.1
  rw [e]; exact ⟨ge_i (by omega), le_i (b := 9) (by omega) (by decide)⟩
theorem oc_out {b : zB} {x y : Int32} (h : ¬ (0 ≤ x ∧ x < 3)) : occB b x y = none := if_neg (fun q => h q.1)
theorem oc_out2 {b : zB} {x y : Int32} (h : ¬ inCol y) : occB b x y = none := if_neg (fun q => h q.2.1)
set_option maxHeartbeats 4000000 in
set_option maxRecDepth 100000 in
theorem sb_turn {p : Program} {l : Launch} {e : Env} {R : Room} {s : State} {m : MethodId} {args : Array Value} {below : List Frame} {meth : Method} {c : Code} {Q : State → Prop} {g : zG} {mc lvl : Nat} {κ : zKp} {μ ν : zMu} {ω : zOm} {k : Nat} (hX : zX p l s m args meth c R g RL cL_supportBy 5 (some .int) lvl mc) (hlv : 20 < lvl) (hl0 : l.stackTraces = false) (h : RR κ μ) {i : Nat} (hlt : i < bn (μ 1)) (h7 : ¬ bf (μ 1) i 7 = 2) {x y v : Int32} (hy : bf (μ 1) i 1 + x = y) (hk : k + 1 ≤ mc) (kk : ∀ w : Int32, zZ p l e R s m args below meth c g 5 Q κ ν ω (k + 1) 63 [(2, .int (v + scT (μ 1) i y)), (4, .int w), (3, .int x), (0, .ref (gA g 0 0 0)), (1, .int (nI i))] []) : zZ p l e R s m args below meth c g 5 Q κ ν ω k 9 [(0, .ref (gA g 0 0 0)), (1, .int (nI i)), (2, .int v), (3, .int x)] [] := by
  have hL := h.bI.1.2.2.1 i hlt
  have hcol := gl_col.mpr (col_in hL)
  refine z_aload_n hX dL_supportBy_9 0 rfl ?_
  refine z_aload_n hX dL_supportBy_10 0 rfl ?_
  refine z_iload_n hX dL_supportBy_11 1 rfl ?_
  refine z_callV1 hX (dm_laneOf l h hlt h7) cv_RL_33 zRc0 dL_supportBy_12 ⟨by omega, by decide, by omega⟩ rfl rfl (Nat.le_of_ble_eq_true rfl) ?_
  refine z_iload_n hX dL_supportBy_15 3 rfl ?_
  refine z_iadd hX dL_supportBy_16 ?_
  refine z_isv hy ?_
  refine z_aload_n hX dL_supportBy_17 0 rfl ?_
  refine z_iload_n hX dL_supportBy_18 1 rfl ?_
  refine z_callV1 hX (dm_columnOf l h hlt h7) cv_RL_38 zRc0 dL_supportBy_19 ⟨by omega, by decide, by omega⟩ rfl rfl (Nat.le_of_ble_eq_true rfl) ?_
  have hnone : ∀ w : Int32, w < 0 → scT (μ 1) i y = 0 → zZ p l e R s m args below meth c g 5 Q κ ν ω (k + 1) 25 [(0, .ref (gA g 0 0 0)), (1, .int (nI i)), (2, .int v), (3, .int x)] [.int w] := by
    intro w hw he
    refine z_istore (lv' := [(4, _), (0, _), (1, _), (2, _), (3, _)]) hX dL_supportBy_25 (by decide) rfl ?_
    refine z_iload_n hX dL_supportBy_27 3 rfl ?_
    refine z_iload hX dL_supportBy_28 0 rfl ?_
    refine z_if_lt (tgt := 60) hX dL_supportBy_30 (by decide) (fun _ => ?_) (fun q => absurd hw q)
    refine z_iconst (v := 0) hX dL_supportBy_60 (by decide) ?_
    refine z_iadd hX dL_supportBy_61 ?_
    refine z_istore_n (lv' := [(2, _), (4, _), (0, _), (1, _), (3, _)]) hX dL_supportBy_62 (by decide) rfl ?_
    have k2 := kk w
    rw [he] at k2
    refine z_sub [0, 1, 4, 2, 3] rfl ?_
    exact k2
  by_cases hy3 : 0 ≤ y ∧ y < 3
  · rcases ho : occB (μ 1) y (bf (μ 1) i 2) with _ | j
    · refine z_callW hX (go_lineIn l hl0 h ⟨hy3, hcol⟩ ho) cc_174 dL_supportBy_22 ⟨by omega, by decide, by omega⟩ rfl rfl (Nat.le_of_ble_eq_true rfl) ?_
      exact hnone _ (by decide) (by unfold scT; rw [ho])
    · obtain ⟨j1, -, j7, -⟩ := occ_some h.n.1 ho
      have hj12 := h.n.1
      have hT : scT (μ 1) i y = if bf (μ 1) j 0 = bf (μ 1) i 0 ∧ bf (μ 1) j 7 = 0 then 1 else 0 := by unfold scT; rw [ho]
      refine z_callW hX (in_lineIn l hl0 h ⟨hy3, hcol⟩ ho) cc_174 dL_supportBy_22 ⟨by omega, by decide, by omega⟩ rfl rfl (Nat.le_of_ble_eq_true rfl) ?_
      refine z_istore (lv' := [(4, _), (0, _), (1, _), (2, _), (3, _)]) hX dL_supportBy_25 (by decide) rfl ?_
      refine z_iload_n hX dL_supportBy_27 3 rfl ?_
      refine z_iload hX dL_supportBy_28 0 rfl ?_
      refine z_if_lt (tgt := 60) hX dL_supportBy_30 (by decide) (fun q => absurd q (nI_pos (by omega))) (fun _ => ?_)
      refine z_aload_n hX dL_supportBy_33 1 rfl ?_
      refine z_iload hX dL_supportBy_34 0 rfl ?_
      refine z_callV1 hX (dm_isStanding l h j1) cv_RL_54 zRc0 dL_supportBy_36 ⟨by omega, by decide, by omega⟩ rfl rfl (Nat.le_of_ble_eq_true rfl) ?_
      have hzero : ∀ q : ¬ (bf (μ 1) j 0 = bf (μ 1) i 0 ∧ bf (μ 1) j 7 = 0), zZ p l e R s m args below meth c g 5 Q κ ν ω (k + 1) 60 [(4, .int (nI j)), (0, .ref (gA g 0 0 0)), (1, .int (nI i)), (2, .int v), (3, .int x)] [.int v] := fun q => by
        refine z_iconst (v := 0) hX dL_supportBy_60 (by decide) ?_
        refine z_iadd hX dL_supportBy_61 ?_
        refine z_istore_n (lv' := [(2, _), (4, _), (0, _), (1, _), (3, _)]) hX dL_supportBy_62 (by decide) rfl ?_
        have k2 := kk (nI j)
        rw [hT, if_neg q] at k2
        refine z_sub [0, 1, 4, 2, 3] rfl ?_
        exact k2
      refine z_if_eqB (tgt := 60) hX dL_supportBy_39 (by decide) (fun q => hzero (fun w => q w.2)) (fun q7 => ?_)
      refine z_aload_n hX dL_supportBy_42 1 rfl ?_
      refine z_iload hX dL_supportBy_43 0 rfl ?_
      refine z_callV1 hX (dm_sideOf l h j1) cv_RL_30 zRc0 dL_supportBy_45 ⟨by omega, by decide, by omega⟩ rfl rfl (Nat.le_of_ble_eq_true rfl) ?_
      refine z_aload_n hX dL_supportBy_48 1 rfl ?_
      refine z_iload_n hX dL_supportBy_49 2 rfl ?_
      refine z_callV1 hX (dm_sideOf l h hlt) cv_RL_30 zRc0 dL_supportBy_50 ⟨by omega, by decide, by omega⟩ rfl rfl (Nat.le_of_ble_eq_true rfl) ?_
      refine z_icmp_ne (tgt := 60) hX dL_supportBy_53 (by decide) (fun q => hzero (fun w => q w.1)) (fun q0 => ?_)
      refine z_iconst (v := 1) hX dL_supportBy_56 (by decide) ?_
      refine z_goto (tgt := 61) hX dL_supportBy_57 (by decide) ?_
      refine z_iadd hX dL_supportBy_61 ?_
      refine z_istore_n (lv' := [(2, _), (4, _), (0, _), (1, _), (3, _)]) hX dL_supportBy_62 (by decide) rfl ?_
      have k2 := kk (nI j)
      rw [hT, if_pos ⟨q0, q7⟩] at k2
      refine z_sub [0, 1, 4, 2, 3] rfl ?_
      exact k2
  · refine z_callW hX (out_lineIn l hl0 h (fun q => hy3 q.1)) cc_174 dL_supportBy_22 ⟨by omega, by decide, by omega⟩ rfl rfl (Nat.le_of_ble_eq_true rfl) ?_
    exact hnone _ (by decide) (by unfold scT; rw [oc_out hy3])
set_option maxHeartbeats 4000000 in
set_option maxRecDepth 100000 in
theorem lw_supportBy (l : Launch) (hl0 : l.stackTraces = false) {g : zG} {κ : zKp} {μ ν : zMu} {ω : zOm} (h : RR κ μ) {i : Nat} (hlt : i < bn (μ 1)) (h7 : ¬ bf (μ 1) i 7 = 2) : zM l g yL_supportBy cL_supportBy 5 (some .int) 21 2 [.ref (gA g 0 0 0), .int (nI i)] κ ν ω κ ν ω (some (.int (supB (μ 1) i))) := by
  refine zM_of (by decide) (Nat.le_of_ble_eq_true rfl) (fun p e R s m args below meth c hX => ?_)
  show zZ p l e R s m args below meth c g 5 _ _ _ _ 0 0 [(0, .ref (gA g 0 0 0)), (1, .int (nI i))] []
  refine z_iconst (v := 0) hX dL_supportBy_0 (by decide) ?_
  refine z_istore_n (lv' := [(2, _), (0, _), (1, _)]) hX dL_supportBy_1 (by decide) rfl ?_
  refine z_iconst (v := -1) hX dL_supportBy_2 (by decide) ?_
  refine z_istore_n (lv' := [(3, _), (2, _), (0, _), (1, _)]) hX dL_supportBy_3 (by decide) rfl ?_
  refine z_iload_n hX dL_supportBy_4 0 rfl ?_
  refine z_iconst (v := 2) hX dL_supportBy_5 (by decide) ?_
  refine z_icmp_ge (tgt := 69) hX dL_supportBy_6 (by decide) (fun q => absurd q (by decide)) (fun _ => ?_)
  refine z_sub [2, 3, 1, 0] rfl ?_
  refine sb_turn hX (by decide) hl0 h hlt h7 (lane_m1 _) (by omega) (fun w => ?_)
  refine z_iinc (v := 1) (lv' := [(3, _), (2, _), (4, _), (0, _), (1, _)]) hX dL_supportBy_63 2 rfl rfl (by decide) rfl ?_
  refine z_goto (tgt := 4) hX dL_supportBy_66 (by decide) ?_
  refine z_iload_n hX dL_supportBy_4 0 rfl ?_
  refine z_iconst (v := 2) hX dL_supportBy_5 (by decide) ?_
  refine z_icmp_ge (tgt := 69) hX dL_supportBy_6 (by decide) (fun q => absurd q (by decide)) (fun _ => ?_)
  refine z_sub [3, 4, 1, 0] rfl ?_
  refine sb_turn hX (by decide) hl0 h hlt h7 (lane_p1 _) (by omega) (fun w => ?_)
  refine z_iinc (v := 3) (lv' := [(3, _), (2, _), (4, _), (0, _), (1, _)]) hX dL_supportBy_63 2 rfl rfl (by decide) rfl ?_
  refine z_goto (tgt := 4) hX dL_supportBy_66 (by decide) ?_
  refine z_iload_n hX dL_supportBy_4 0 rfl ?_
  refine z_iconst (v := 2) hX dL_supportBy_5 (by decide) ?_
  refine z_icmp_ge (tgt := 69) hX dL_supportBy_6 (by decide) (fun _ => ?_) (fun q => absurd (by decide) q)
  refine z_iload_n hX dL_supportBy_69 1 rfl ?_
  exact z_iretI hX dL_supportBy_70 (by omega) (by rw [← sup_cells h.bI.1 hlt]; rfl) (fun _ h => h)
end ZLA
