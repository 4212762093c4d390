section ZSM
theorem w2_315 : Cond.constantLong RL 315 7 ∈ gW := gW_I 1231 (by decide +kernel) rfl
theorem w2_320 : Cond.constantLong RL 320 31 ∈ gW := gW_I 1236 (by decide +kernel) rfl
theorem w2_325 : Cond.constantLong RL 325 37 ∈ gW := gW_I 1241 (by decide +kernel) rfl
theorem w2_327 : Cond.constantLong RL 327 41 ∈ gW := gW_I 1242 (by decide +kernel) rfl
theorem w2_329 : Cond.constantLong RL 329 43 ∈ gW := gW_I 1243 (by decide +kernel) rfl
theorem w2_331 : Cond.constantLong RL 331 47 ∈ gW := gW_I 1244 (by decide +kernel) rfl
def laneA (b : zB) (i : Nat) : Int32 := if bf b i 7 = 2 then -13 else bf b i 1
def colA (b : zB) (i : Nat) : Int32 := if bf b i 7 = 2 then -13 else bf b i 2
def ordA (b : zB) (i : Nat) : Int32 := if bf b i 7 = 0 then bf b i 6 else -14
def suB (b : zB) : Nat → Int64
  | 0 => 31 * (31 * (7 + (b 1).toInt64) + (b 2).toInt64) + (10 * b 3).toInt64 + (b 4).toInt64
  | i + 1 => 47 * (43 * (41 * (37 * suB b i + (100 * laneA b i).toInt64 + (colA b i).toInt64) + (100 * bf b i 4).toInt64 + (bf b i 5).toInt64) + (200 * ordA b i).toInt64 + (bf b i 8).toInt64) + (2 * bf b i 3).toInt64 + (bf b i 0).toInt64
/-- the law's sum: it says what the battle is alone -/
def sumL (b : zB) : Int64 := suB b (bn b)
theorem an_laneOf (l : Launch) (hl0 : l.stackTraces = false) {g : zG} {κ : zKp} {μ ν : zMu} {ω : zOm} (h : RR κ μ) {i : Nat} (hlt : i < bn (μ 1)) : zMW l g yL_laneOf cL_laneOf 3 hh_laneOf 20 1 [.ref (gA g 0 0 0), .int (nI i)] κ ν ω κ ν ω (laneA (μ 1) i) := by
  unfold laneA
  by_cases h7 : bf (μ 1) i 7 = 2
  · rw [if_pos h7]; exact go_laneOf l hl0 h hlt h7
  · rw [if_neg h7]; exact in_laneOf l hl0 h hlt h7
theorem an_columnOf (l : Launch) (hl0 : l.stackTraces = false) {g : zG} {κ : zKp} {μ ν : zMu} {ω : zOm} (h : RR κ μ) {i : Nat} (hlt : i < bn (μ 1)) : zMW l g yL_columnOf cL_columnOf 3 hh_columnOf 20 1 [.ref (gA g 0 0 0), .int (nI i)] κ ν ω κ ν ω (colA (μ 1) i) := by
  unfold colA
  by_cases h7 : bf (μ 1) i 7 = 2
  · rw [if_pos h7]; exact go_columnOf l hl0 h hlt h7
  · rw [if_neg h7]; exact in_columnOf l hl0 h hlt h7
theorem an_orderOf (l : Launch) (hl0 : l.stackTraces = false) {g : zG} {κ : zKp} {μ ν : zMu} {ω : zOm} (h : RR κ μ) {i : Nat} (hlt : i < bn (μ 1)) : zMW l g yL_orderOf cL_orderOf 3 hh_orderOf 20 1 [.ref (gA g 0 0 0), .int (nI i)] κ ν ω κ ν ω (ordA (μ 1) i) := by
  unfold ordA
  by_cases h7 : bf (μ 1) i 7 = 0
  · rw [if_pos h7]; exact in_orderOf l hl0 h hlt h7
  · rw [if_neg h7]; exact go_orderOf l hl0 h hlt h7
set_option maxHeartbeats 4000000 in
set_option maxRecDepth 100000 in
theorem lw_sum (l : Launch) (hl0 : l.stackTraces = false) {g : zG} {κ : zKp} {μ ν : zMu} {ω : zOm} (h : RR κ μ) : zM l g yL_sum cL_sum 4 (some .long) 21 40 [.ref (gA g 0 0 0)] κ ν ω κ ν ω (some (.long (sumL (μ 1)))) := by
  have h12 := h.n.1
  refine zM_of (by decide) (Nat.le_of_ble_eq_true rfl) (fun p e R s m args below meth c hX => ?_)
  show zZ p l e R s m args below meth c g 4 _ _ _ _ 0 0 [(0, .ref (gA g 0 0 0))] []
  refine z_ldc2 hX w2_315 dL_sum_0 ?_
  refine z_aload_n hX dL_sum_3 0 rfl ?_
  refine z_callV1 hX (dm_turnCount l h) cv_RL_317 zRc0 dL_sum_4 ⟨by omega, by decide, by omega⟩ rfl rfl (Nat.le_of_ble_eq_true rfl) ?_
  refine z_i2l hX dL_sum_7 ?_
  refine z_ladd hX dL_sum_8 ?_
  refine z_lstore_n (lv' := [(1, _), (0, _)]) hX dL_sum_9 (by decide) rfl ?_
  refine z_ldc2 hX w2_320 dL_sum_10 ?_
  refine z_lload_n hX dL_sum_13 0 rfl ?_
  refine z_lmul hX dL_sum_14 ?_
  refine z_aload_n hX dL_sum_15 1 rfl ?_
  refine z_callV1 hX (dm_fightCount l h) cv_RL_322 zRc0 dL_sum_16 ⟨by omega, by decide, by omega⟩ rfl rfl (Nat.le_of_ble_eq_true rfl) ?_
  refine z_i2l hX dL_sum_19 ?_
  refine z_ladd hX dL_sum_20 ?_
  refine z_lstore_n (lv' := [(1, _), (0, _)]) hX dL_sum_21 (by decide) rfl ?_
  refine z_ldc2 hX w2_320 dL_sum_22 ?_
  refine z_lload_n hX dL_sum_25 0 rfl ?_
  refine z_lmul hX dL_sum_26 ?_
  refine z_bipush (v := 10) hX dL_sum_27 (by decide) ?_
  refine z_aload_n hX dL_sum_29 1 rfl ?_
  refine z_iconst (v := 0) hX dL_sum_30 (by decide) ?_
  refine z_callV1 hX (dm_jarsOf l h (by decide)) cv_RL_90 zRc0 dL_sum_31 ⟨by omega, by decide, by omega⟩ rfl rfl (Nat.le_of_ble_eq_true rfl) ?_
  refine z_isv (if_pos rfl) ?_
  refine z_imul hX dL_sum_34 ?_
  refine z_i2l hX dL_sum_35 ?_
  refine z_ladd hX dL_sum_36 ?_
  refine z_aload_n hX dL_sum_37 1 rfl ?_
  refine z_iconst (v := 1) hX dL_sum_38 (by decide) ?_
  refine z_callV1 hX (dm_jarsOf l h (by decide)) cv_RL_90 zRc0 dL_sum_39 ⟨by omega, by decide, by omega⟩ rfl rfl (Nat.le_of_ble_eq_true rfl) ?_
  refine z_isv (if_neg (by decide)) ?_
  refine z_i2l hX dL_sum_42 ?_
  refine z_ladd hX dL_sum_43 ?_
  refine z_lstore_n (lv' := [(1, _), (0, _)]) hX dL_sum_44 (by decide) rfl ?_
  refine z_iconst (v := 0) hX dL_sum_45 (by decide) ?_
  refine z_istore_n (lv' := [(3, _), (1, _), (0, _)]) hX dL_sum_46 (by decide) rfl ?_
  refine z_widen (k2 := 3 * 0) (by omega) ?_
  have hS : ∀ (dz : Nat) (i : Nat) (v : Int64), bn (μ 1) - i = dz → i ≤ bn (μ 1) → v = suB (μ 1) i → zZ p l e R s m args below meth c g 4 (zQ g κ ν ω (some (.long (sumL (μ 1)))) below args s 40) κ ν ω (3 * i) 47 [(0, .ref (gA g 0 0 0)), (1, .long v), (3, .int (nI i))] [] := by
    intro dz
    induction dz with
    | zero =>
      intro i v hd hi hv
      have hin : i = bn (μ 1) := by omega
      refine z_iload_n hX dL_sum_47 2 rfl ?_
      refine z_aload_n hX dL_sum_48 0 rfl ?_
      refine z_callV1 hX (dm_lineCount l h) cv_RL_160 zRc0 dL_sum_49 ⟨by omega, by decide, by omega⟩ rfl rfl (Nat.le_of_ble_eq_true rfl) ?_
      refine z_icmp_ge (tgt := 153) hX dL_sum_52 (by decide) (fun h52 => ?_) (fun h52 => absurd h52 (fun q => q (by rw [hin, h.n.2]; exact Int32.le_refl _)))
      refine z_lload_n hX dL_sum_153 1 rfl ?_
      exact z_lret hX dL_sum_154 (by omega) (by rw [hv, hin]; rfl) (fun _ h => h)
    | succ dz ih =>
      intro i v hd hi hv
      have hlt : i < bn (μ 1) := by omega
      refine z_iload_n hX dL_sum_47 2 rfl ?_
      refine z_aload_n hX dL_sum_48 0 rfl ?_
      refine z_callV1 hX (dm_lineCount l h) cv_RL_160 zRc0 dL_sum_49 ⟨by omega, by decide, by omega⟩ rfl rfl (Nat.le_of_ble_eq_true rfl) ?_
      refine z_icmp_ge (tgt := 153) hX dL_sum_52 (by decide) (fun h52 => absurd h52 (by rw [h.n.2]; exact nle_i hlt (by omega))) (fun h52 => ?_)
      refine z_ldc2 hX w2_325 dL_sum_55 ?_
      refine z_lload_n hX dL_sum_58 1 rfl ?_
      refine z_lmul hX dL_sum_59 ?_
      refine z_bipush (v := 100) hX dL_sum_60 (by decide) ?_
      refine z_aload_n hX dL_sum_62 0 rfl ?_
      refine z_iload_n hX dL_sum_63 2 rfl ?_
      refine z_callW hX (an_laneOf l hl0 h hlt) cc_195 dL_sum_64 ⟨by omega, by decide, by omega⟩ rfl rfl (Nat.le_of_ble_eq_true rfl) ?_
      refine z_imul hX dL_sum_67 ?_
      refine z_i2l hX dL_sum_68 ?_
      refine z_ladd hX dL_sum_69 ?_
      refine z_aload_n hX dL_sum_70 0 rfl ?_
      refine z_iload_n hX dL_sum_71 2 rfl ?_
      refine z_callW hX (an_columnOf l hl0 h hlt) cc_197 dL_sum_72 ⟨by omega, by decide, by omega⟩ rfl rfl (Nat.le_of_ble_eq_true rfl) ?_
      refine z_i2l hX dL_sum_75 ?_
      refine z_ladd hX dL_sum_76 ?_
      refine z_lstore_n (lv' := [(1, _), (0, _), (3, _)]) hX dL_sum_77 (by decide) rfl ?_
      refine z_ldc2 hX w2_327 dL_sum_78 ?_
      refine z_lload_n hX dL_sum_81 0 rfl ?_
      refine z_lmul hX dL_sum_82 ?_
      refine z_bipush (v := 100) hX dL_sum_83 (by decide) ?_
      refine z_aload_n hX dL_sum_85 1 rfl ?_
      refine z_iload_n hX dL_sum_86 2 rfl ?_
      refine z_callV1 hX (dm_strengthOf l h hlt) cv_RL_45 zRc0 dL_sum_87 ⟨by omega, by decide, by omega⟩ rfl rfl (Nat.le_of_ble_eq_true rfl) ?_
      refine z_imul hX dL_sum_90 ?_
      refine z_i2l hX dL_sum_91 ?_
      refine z_ladd hX dL_sum_92 ?_
      refine z_aload_n hX dL_sum_93 1 rfl ?_
      refine z_iload_n hX dL_sum_94 2 rfl ?_
      refine z_callV1 hX (dm_moraleOf l h hlt) cv_RL_48 zRc0 dL_sum_95 ⟨by omega, by decide, by omega⟩ rfl rfl (Nat.le_of_ble_eq_true rfl) ?_
      refine z_i2l hX dL_sum_98 ?_
      refine z_ladd hX dL_sum_99 ?_
      refine z_lstore_n (lv' := [(1, _), (0, _), (3, _)]) hX dL_sum_100 (by decide) rfl ?_
      refine z_ldc2 hX w2_329 dL_sum_101 ?_
      refine z_lload_n hX dL_sum_104 0 rfl ?_
      refine z_lmul hX dL_sum_105 ?_
      refine z_sipush (v := 200) hX dL_sum_106 (by decide) ?_
      refine z_aload_n hX dL_sum_109 1 rfl ?_
      refine z_iload_n hX dL_sum_110 2 rfl ?_
      refine z_callW hX (an_orderOf l hl0 h hlt) cc_215 dL_sum_111 ⟨by omega, by decide, by omega⟩ rfl rfl (Nat.le_of_ble_eq_true rfl) ?_
      refine z_imul hX dL_sum_114 ?_
      refine z_i2l hX dL_sum_115 ?_
      refine z_ladd hX dL_sum_116 ?_
      refine z_aload_n hX dL_sum_117 1 rfl ?_
      refine z_iload_n hX dL_sum_118 2 rfl ?_
      refine z_callV1 hX (dm_routedTurns l h hlt) cv_RL_61 zRc0 dL_sum_119 ⟨by omega, by decide, by omega⟩ rfl rfl (Nat.le_of_ble_eq_true rfl) ?_
      refine z_i2l hX dL_sum_122 ?_
      refine z_ladd hX dL_sum_123 ?_
      refine z_lstore_n (lv' := [(1, _), (0, _), (3, _)]) hX dL_sum_124 (by decide) rfl ?_
      refine z_ldc2 hX w2_331 dL_sum_125 ?_
      refine z_lload_n hX dL_sum_128 0 rfl ?_
      refine z_lmul hX dL_sum_129 ?_
      refine z_iconst (v := 2) hX dL_sum_130 (by decide) ?_
      refine z_aload_n hX dL_sum_131 1 rfl ?_
      refine z_iload_n hX dL_sum_132 2 rfl ?_
      refine z_callV1 hX (dm_kindOf l h hlt) cv_RL_41 zRc0 dL_sum_133 ⟨by omega, by decide, by omega⟩ rfl rfl (Nat.le_of_ble_eq_true rfl) ?_
      refine z_imul hX dL_sum_136 ?_
      refine z_i2l hX dL_sum_137 ?_
      refine z_ladd hX dL_sum_138 ?_
      refine z_aload_n hX dL_sum_139 1 rfl ?_
      refine z_iload_n hX dL_sum_140 2 rfl ?_
      refine z_callV1 hX (dm_sideOf l h hlt) cv_RL_30 zRc0 dL_sum_141 ⟨by omega, by decide, by omega⟩ rfl rfl (Nat.le_of_ble_eq_true rfl) ?_
      refine z_i2l hX dL_sum_144 ?_
      refine z_ladd hX dL_sum_145 ?_
      refine z_lstore_n (lv' := [(1, _), (0, _), (3, _)]) hX dL_sum_146 (by decide) rfl ?_
      refine z_iinc (v := nI (i + 1)) (lv' := [(3, _), (1, _), (0, _)]) hX dL_sum_147 2 rfl (nI_1 i) (by decide) rfl ?_
      refine z_goto (tgt := 47) hX dL_sum_150 (by decide) ?_
      refine z_sub [2, 1, 0] rfl ?_
      exact (z_widen (k2 := 3 * (i + 1)) (by omega) (ih (i + 1) _ (by omega) (by omega) (by rw [hv]; rfl)))
  refine z_sub [2, 1, 0] rfl ?_
  exact (hS (bn (μ 1)) 0 _ (by omega) (by omega) rfl)
end ZSM
