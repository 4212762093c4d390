section ZLN
theorem cnt_no {b : zB} (hn : bnI b) : ¬ (0 ≤ b 0 ∧ b 0 ≤ b 0 - 1) := fun q => by
  obtain ⟨i, h1, h2⟩ := isl_of hn q
  have h12 := hn.1
  have h3 := nI_inj2 (a := bn b) (b := i) (by omega) (by omega) (hn.2.symm.trans h2)
  omega
theorem cn_some {b : zB} {a x j : Nat} (hx : x < 10) (ho : occB b (nI a) (nI x) = some j) : cnF b (10 * a + x) = 1 := by
  unfold cnF
  rw [show (10 * a + x) / 10 = a by omega, show (10 * a + x) % 10 = x by omega, ho]
theorem cn_none {b : zB} {a x : Nat} (hx : x < 10) (ho : occB b (nI a) (nI x) = none) : cnF b (10 * a + x) = 0 := by
  unfold cnF
  rw [show (10 * a + x) / 10 = a by omega, show (10 * a + x) % 10 = x by omega, ho]
def enA (b : zB) (i : Nat) : Int32 := if enB b i = -1 then -13 else enB b i
theorem pos_neg {b : zB} {i d : Nat} (hW : batW b) (hlt : i < bn b) (hd : d ≤ 10) (hs : enS b i (10 - d) d = enB b i) (hc : ¬ inCol (posB b i d)) : enA b i = -13 := by
  rw [enS_out (hW.2.2.1 i hlt) _ _ (by omega) hc] at hs
  exact if_pos hs.symm
set_option maxHeartbeats 4000000 in
set_option maxRecDepth 100000 in
theorem ln_tail {p : Program} {l : Launch} {e : Env} {R : Room} {s : State} {m : MethodId} {args : Array Value} {below : List Frame} {meth : Method} {c : Code} {Q : State → Prop} {g : zG} {mc lvl : Nat} {κ : zKp} {μ ν : zMu} {ω : zOm} {k : Nat} (hX : zX p l s m args meth c R g RL cL_lines 14 (some .boolean) lvl mc) (hlv : 22 < lvl) (hl0 : l.stackTraces = false) (h : RR κ μ) {x : Int32} (hk : k + 25 ≤ mc) : zZ p l e R s m args below meth c g 14 (zQ g κ ν ω (some (.int 1)) below args s mc) κ ν ω k 576 [(0, .ref (gA g 0 0 0)), (1, .int (μ 1 0)), (2, .int x), (3, .int x)] [] := by
  refine z_iload_n hX dL_lines_576 2 rfl ?_
  refine z_iload_n hX dL_lines_577 3 rfl ?_
  refine z_icmp_ne (tgt := 788) hX dL_lines_578 (by decide) (fun h578 => absurd h578 (fun q => q rfl)) (fun h578 => ?_)
  refine z_aload_n hX dL_lines_581 0 rfl ?_
  refine z_iload_n hX dL_lines_582 1 rfl ?_
  refine z_callW hX (out_byStrength l hl0 h (cnt_no h.n)) cc_249 dL_lines_583 ⟨by omega, by decide, by omega⟩ rfl rfl (Nat.le_of_ble_eq_true rfl) ?_
  refine z_bipush (v := -13) hX dL_lines_586 (by decide) ?_
  refine z_icmp_ne (tgt := 788) hX dL_lines_588 (by decide) (fun h588 => absurd h588 (by decide)) (fun h588 => ?_)
  refine z_aload_n hX dL_lines_591 0 rfl ?_
  refine z_iconst (v := -1) hX dL_lines_592 (by decide) ?_
  refine z_callW hX (out_byStrength l hl0 h (fun q => absurd q.1 (by decide))) cc_249 dL_lines_593 ⟨by omega, by decide, by omega⟩ rfl rfl (Nat.le_of_ble_eq_true rfl) ?_
  refine z_bipush (v := -13) hX dL_lines_596 (by decide) ?_
  refine z_icmp_ne (tgt := 788) hX dL_lines_598 (by decide) (fun h598 => absurd h598 (by decide)) (fun h598 => ?_)
  refine z_aload_n hX dL_lines_601 0 rfl ?_
  refine z_iload_n hX dL_lines_602 1 rfl ?_
  refine z_callW hX (out_sideOf l hl0 h (Or.inr (Int32.le_refl _))) cc_232 dL_lines_603 ⟨by omega, by decide, by omega⟩ rfl rfl (Nat.le_of_ble_eq_true rfl) ?_
  refine z_bipush (v := -11) hX dL_lines_606 (by decide) ?_
  refine z_icmp_ne (tgt := 788) hX dL_lines_608 (by decide) (fun h608 => absurd h608 (by decide)) (fun h608 => ?_)
  refine z_aload_n hX dL_lines_611 0 rfl ?_
  refine z_iload_n hX dL_lines_612 1 rfl ?_
  refine z_callW hX (out_laneOf l hl0 h (Or.inr (Int32.le_refl _))) cc_195 dL_lines_613 ⟨by omega, by decide, by omega⟩ rfl rfl (Nat.le_of_ble_eq_true rfl) ?_
  refine z_bipush (v := -11) hX dL_lines_616 (by decide) ?_
  refine z_icmp_ne (tgt := 788) hX dL_lines_618 (by decide) (fun h618 => absurd h618 (by decide)) (fun h618 => ?_)
  refine z_aload_n hX dL_lines_621 0 rfl ?_
  refine z_iload_n hX dL_lines_622 1 rfl ?_
  refine z_callW hX (out_columnOf l hl0 h (Or.inr (Int32.le_refl _))) cc_197 dL_lines_623 ⟨by omega, by decide, by omega⟩ rfl rfl (Nat.le_of_ble_eq_true rfl) ?_
  refine z_bipush (v := -11) hX dL_lines_626 (by decide) ?_
  refine z_icmp_ne (tgt := 788) hX dL_lines_628 (by decide) (fun h628 => absurd h628 (by decide)) (fun h628 => ?_)
  refine z_aload_n hX dL_lines_631 0 rfl ?_
  refine z_iload_n hX dL_lines_632 1 rfl ?_
  refine z_callW hX (out_kindOf l hl0 h (Or.inr (Int32.le_refl _))) cc_203 dL_lines_633 ⟨by omega, by decide, by omega⟩ rfl rfl (Nat.le_of_ble_eq_true rfl) ?_
  refine z_bipush (v := -11) hX dL_lines_636 (by decide) ?_
  refine z_icmp_ne (tgt := 788) hX dL_lines_638 (by decide) (fun h638 => absurd h638 (by decide)) (fun h638 => ?_)
  refine z_aload_n hX dL_lines_641 0 rfl ?_
  refine z_iconst (v := -1) hX dL_lines_642 (by decide) ?_
  refine z_callW hX (out_strength l hl0 h (Or.inl (by decide))) cc_205 dL_lines_643 ⟨by omega, by decide, by omega⟩ rfl rfl (Nat.le_of_ble_eq_true rfl) ?_
  refine z_bipush (v := -11) hX dL_lines_646 (by decide) ?_
  refine z_icmp_ne (tgt := 788) hX dL_lines_648 (by decide) (fun h648 => absurd h648 (by decide)) (fun h648 => ?_)
  refine z_aload_n hX dL_lines_651 0 rfl ?_
  refine z_iload_n hX dL_lines_652 1 rfl ?_
  refine z_callW hX (out_morale l hl0 h (Or.inr (Int32.le_refl _))) cc_208 dL_lines_653 ⟨by omega, by decide, by omega⟩ rfl rfl (Nat.le_of_ble_eq_true rfl) ?_
  refine z_bipush (v := -11) hX dL_lines_656 (by decide) ?_
  refine z_icmp_ne (tgt := 788) hX dL_lines_658 (by decide) (fun h658 => absurd h658 (by decide)) (fun h658 => ?_)
  refine z_aload_n hX dL_lines_661 0 rfl ?_
  refine z_iload_n hX dL_lines_662 1 rfl ?_
  refine z_callW hX (out_orderOf l hl0 h (Or.inr (Int32.le_refl _))) cc_215 dL_lines_663 ⟨by omega, by decide, by omega⟩ rfl rfl (Nat.le_of_ble_eq_true rfl) ?_
  refine z_bipush (v := -11) hX dL_lines_666 (by decide) ?_
  refine z_icmp_ne (tgt := 788) hX dL_lines_668 (by decide) (fun h668 => absurd h668 (by decide)) (fun h668 => ?_)
  refine z_aload_n hX dL_lines_671 0 rfl ?_
  refine z_iload_n hX dL_lines_672 1 rfl ?_
  refine z_callW hX (out_isStanding l hl0 h (Or.inr (Int32.le_refl _))) cc_211 dL_lines_673 ⟨by omega, by decide, by omega⟩ rfl rfl (Nat.le_of_ble_eq_true rfl) ?_
  refine z_bipush (v := -11) hX dL_lines_676 (by decide) ?_
  refine z_icmp_ne (tgt := 788) hX dL_lines_678 (by decide) (fun h678 => absurd h678 (by decide)) (fun h678 => ?_)
  refine z_aload_n hX dL_lines_681 0 rfl ?_
  refine z_iload_n hX dL_lines_682 1 rfl ?_
  refine z_callW hX (out_isRouted l hl0 h (Or.inr (Int32.le_refl _))) cc_213 dL_lines_683 ⟨by omega, by decide, by omega⟩ rfl rfl (Nat.le_of_ble_eq_true rfl) ?_
  refine z_bipush (v := -11) hX dL_lines_686 (by decide) ?_
  refine z_icmp_ne (tgt := 788) hX dL_lines_688 (by decide) (fun h688 => absurd h688 (by decide)) (fun h688 => ?_)
  refine z_aload_n hX dL_lines_691 0 rfl ?_
  refine z_iload_n hX dL_lines_692 1 rfl ?_
  refine z_callW hX (out_routed l hl0 h (Or.inr (Int32.le_refl _))) cc_252 dL_lines_693 ⟨by omega, by decide, by omega⟩ rfl rfl (Nat.le_of_ble_eq_true rfl) ?_
  refine z_bipush (v := -11) hX dL_lines_696 (by decide) ?_
  refine z_icmp_ne (tgt := 788) hX dL_lines_698 (by decide) (fun h698 => absurd h698 (by decide)) (fun h698 => ?_)
  refine z_aload_n hX dL_lines_701 0 rfl ?_
  refine z_iconst (v := 3) hX dL_lines_702 (by decide) ?_
  refine z_iconst (v := 0) hX dL_lines_703 (by decide) ?_
  refine z_callW hX (out_lineIn l hl0 h (by decide)) cc_174 dL_lines_704 ⟨by omega, by decide, by omega⟩ rfl rfl (Nat.le_of_ble_eq_true rfl) ?_
  refine z_bipush (v := -11) hX dL_lines_707 (by decide) ?_
  refine z_icmp_ne (tgt := 788) hX dL_lines_709 (by decide) (fun h709 => absurd h709 (by decide)) (fun h709 => ?_)
  refine z_aload_n hX dL_lines_712 0 rfl ?_
  refine z_iconst (v := 0) hX dL_lines_713 (by decide) ?_
  refine z_bipush (v := 10) hX dL_lines_714 (by decide) ?_
  refine z_callW hX (out_lineIn l hl0 h (by decide)) cc_174 dL_lines_716 ⟨by omega, by decide, by omega⟩ rfl rfl (Nat.le_of_ble_eq_true rfl) ?_
  refine z_bipush (v := -11) hX dL_lines_719 (by decide) ?_
  refine z_icmp_ne (tgt := 788) hX dL_lines_721 (by decide) (fun h721 => absurd h721 (by decide)) (fun h721 => ?_)
  refine z_aload_n hX dL_lines_724 0 rfl ?_
  refine z_iload_n hX dL_lines_725 1 rfl ?_
  refine z_callW hX (out_attack l hl0 h (Or.inr (Int32.le_refl _))) cc_217 dL_lines_726 ⟨by omega, by decide, by omega⟩ rfl rfl (Nat.le_of_ble_eq_true rfl) ?_
  refine z_bipush (v := -11) hX dL_lines_729 (by decide) ?_
  refine z_icmp_ne (tgt := 788) hX dL_lines_731 (by decide) (fun h731 => absurd h731 (by decide)) (fun h731 => ?_)
  refine z_aload_n hX dL_lines_734 0 rfl ?_
  refine z_iload_n hX dL_lines_735 1 rfl ?_
  refine z_callW hX (out_counter l hl0 h (Or.inr (Int32.le_refl _))) cc_223 dL_lines_736 ⟨by omega, by decide, by omega⟩ rfl rfl (Nat.le_of_ble_eq_true rfl) ?_
  refine z_bipush (v := -11) hX dL_lines_739 (by decide) ?_
  refine z_icmp_ne (tgt := 788) hX dL_lines_741 (by decide) (fun h741 => absurd h741 (by decide)) (fun h741 => ?_)
  refine z_aload_n hX dL_lines_744 0 rfl ?_
  refine z_iload_n hX dL_lines_745 1 rfl ?_
  refine z_callW hX (out_support l hl0 h (Or.inr (Int32.le_refl _))) cc_237 dL_lines_746 ⟨by omega, by decide, by omega⟩ rfl rfl (Nat.le_of_ble_eq_true rfl) ?_
  refine z_bipush (v := -11) hX dL_lines_749 (by decide) ?_
  refine z_icmp_ne (tgt := 788) hX dL_lines_751 (by decide) (fun h751 => absurd h751 (by decide)) (fun h751 => ?_)
  refine z_aload_n hX dL_lines_754 0 rfl ?_
  refine z_iconst (v := -1) hX dL_lines_755 (by decide) ?_
  refine z_callW hX (out_byLines l hl0 h (Or.inl (by decide))) cc_240 dL_lines_756 ⟨by omega, by decide, by omega⟩ rfl rfl (Nat.le_of_ble_eq_true rfl) ?_
  refine z_bipush (v := -11) hX dL_lines_759 (by decide) ?_
  refine z_icmp_ne (tgt := 788) hX dL_lines_761 (by decide) (fun h761 => absurd h761 (by decide)) (fun h761 => ?_)
  refine z_aload_n hX dL_lines_764 0 rfl ?_
  refine z_iload_n hX dL_lines_765 1 rfl ?_
  refine z_callW hX (out_ahead l hl0 h (Or.inr (Int32.le_refl _))) cc_243 dL_lines_766 ⟨by omega, by decide, by omega⟩ rfl rfl (Nat.le_of_ble_eq_true rfl) ?_
  refine z_bipush (v := -11) hX dL_lines_769 (by decide) ?_
  refine z_icmp_ne (tgt := 788) hX dL_lines_771 (by decide) (fun h771 => absurd h771 (by decide)) (fun h771 => ?_)
  refine z_aload_n hX dL_lines_774 0 rfl ?_
  refine z_iload_n hX dL_lines_775 1 rfl ?_
  refine z_callW hX (out_byDistances l hl0 h (Or.inr (Int32.le_refl _))) cc_246 dL_lines_776 ⟨by omega, by decide, by omega⟩ rfl rfl (Nat.le_of_ble_eq_true rfl) ?_
  refine z_bipush (v := -11) hX dL_lines_779 (by decide) ?_
  refine z_icmp_ne (tgt := 788) hX dL_lines_781 (by decide) (fun h781 => absurd h781 (by decide)) (fun h781 => ?_)
  refine z_iconst (v := 1) hX dL_lines_784 (by decide) ?_
  refine z_goto (tgt := 789) hX dL_lines_785 (by decide) ?_
  exact z_iret hX dL_lines_789 (by omega) rfl rfl (fun _ h => h)
theorem en_ahead (l : Launch) (hl0 : l.stackTraces = false) {g : zG} {κ : zKp} {μ ν : zMu} {ω : zOm} (h : RR κ μ) {i : Nat} (hlt : i < bn (μ 1)) (h7 : ¬ bf (μ 1) i 7 = 2) : zMW l g yL_ahead cL_ahead 3 hh_ahead 20 1 [.ref (gA g 0 0 0), .int (nI i)] κ ν ω κ ν ω (enA (μ 1) i) := by
  unfold enA
  by_cases h0 : enB (μ 1) i = -1
  · rw [if_pos h0]; exact em_ahead l hl0 h hlt h7 h0
  · rw [if_neg h0]; exact in_ahead l hl0 h hlt h7 h0
theorem en_byDistances (l : Launch) (hl0 : l.stackTraces = false) {g : zG} {κ : zKp} {μ ν : zMu} {ω : zOm} (h : RR κ μ) {i : Nat} (hlt : i < bn (μ 1)) (h7 : ¬ bf (μ 1) i 7 = 2) : zMW l g yL_byDistances cL_byDistances 3 hh_byDistances 20 1 [.ref (gA g 0 0 0), .int (nI i)] κ ν ω κ ν ω (enA (μ 1) i) := by
  unfold enA
  by_cases h0 : enB (μ 1) i = -1
  · rw [if_pos h0]; exact em_byDistances l hl0 h hlt h7 h0
  · rw [if_neg h0]; exact in_byDistances l hl0 h hlt h7 h0
set_option maxHeartbeats 4000000 in
set_option maxRecDepth 100000 in
theorem ln_s1 {p : Program} {l : Launch} {e : Env} {R : Room} {s : State} {m : MethodId} {args : Array Value} {below : List Frame} {meth : Method} {c : Code} {Q : State → Prop} {g : zG} {mc lvl : Nat} {κ : zKp} {μ ν : zMu} {ω : zOm} {k : Nat} (hX : zX p l s m args meth c R g RL cL_lines 14 (some .boolean) lvl mc) (hlv : 22 < lvl) (hl0 : l.stackTraces = false) (h : RR κ μ) {i : Nat} (hlt : i < bn (μ 1)) (h7 : bf (μ 1) i 7 = 0) {x v : Int32} (hk : k + 15 ≤ mc) (kk : zZ p l e R s m args below meth c g 14 Q κ ν ω (k + 15) 310 [(0, .ref (gA g 0 0 0)), (1, .int (μ 1 0)), (2, .int x), (3, .int (v + 1)), (4, .int (nI i)), (5, .int 0), (8, .int 1)] []) : zZ p l e R s m args below meth c g 14 Q κ ν ω k 97 [(0, .ref (gA g 0 0 0)), (1, .int (μ 1 0)), (2, .int x), (3, .int v), (4, .int (nI i))] [] := by
  have hL := h.bI.1.2.2.1 i hlt
  have hm0 : ¬ bf (μ 1) i 5 < 0 := by
    obtain ⟨z, hz, ez⟩ := hL.2.2.2.2.2.1
    rw [ez]; exact nI_pos (by omega)
  have hm20 : ¬ 20 < bf (μ 1) i 5 := by
    obtain ⟨z, hz, ez⟩ := hL.2.2.2.2.2.1
    rw [ez]; exact Int32.not_lt.mpr (le_i (b := 20) hz (by decide))
  have hi := h.bI.2 i hlt
  have hs0 : ¬ bf (μ 1) i 4 = 0 := fun q => absurd (hi.mpr q) (by rw [h7]; decide)
  have hop : 0 < bf (μ 1) i 6 := (by rcases hL.2.2.2.2.2.2.1 with q | q | q <;> rw [q] <;> decide)
  have hl13 : ¬ bf (μ 1) i 1 = -13 := by
    obtain ⟨z, hz, ez⟩ := hL.2.1
    rw [ez]; exact fun q => absurd (show nI z < 0 by rw [q]; decide) (nI_pos (by omega))
  have hc13 : ¬ bf (μ 1) i 2 = -13 := by
    obtain ⟨z, hz, ez⟩ := hL.2.2.1
    rw [ez]; exact fun q => absurd (show nI z < 0 by rw [q]; decide) (nI_pos (by omega))
  refine z_aload_n hX dL_lines_97 0 rfl ?_
  refine z_iload hX dL_lines_98 4 rfl ?_
  refine z_callS1 hX (lw_isFallen l hl0 h hlt) cs_RL_199 dL_lines_100 ⟨by omega, by decide, by omega⟩ rfl rfl (Nat.le_of_ble_eq_true rfl) ?_
  refine z_isv (if_neg (by rw [h7]; decide)) ?_
  refine z_istore (lv' := [(5, _), (0, _), (1, _), (2, _), (3, _), (4, _)]) hX dL_lines_103 (by decide) rfl ?_
  refine z_aload_n hX dL_lines_105 1 rfl ?_
  refine z_iload hX dL_lines_106 5 rfl ?_
  refine z_callW hX (in_kindOf l hl0 h hlt) cc_203 dL_lines_108 ⟨by omega, by decide, by omega⟩ rfl rfl (Nat.le_of_ble_eq_true rfl) ?_
  refine z_istore (lv' := [(6, _), (5, _), (0, _), (1, _), (2, _), (3, _), (4, _)]) hX dL_lines_111 (by decide) rfl ?_
  refine z_aload_n hX dL_lines_113 2 rfl ?_
  refine z_iload hX dL_lines_114 6 rfl ?_
  refine z_callW hX (in_strength l hl0 h hlt) cc_205 dL_lines_116 ⟨by omega, by decide, by omega⟩ rfl rfl (Nat.le_of_ble_eq_true rfl) ?_
  refine z_istore (lv' := [(7, _), (6, _), (5, _), (0, _), (1, _), (2, _), (3, _), (4, _)]) hX dL_lines_119 (by decide) rfl ?_
  refine z_iload_n hX dL_lines_121 6 rfl ?_
  refine z_iload hX dL_lines_122 2 rfl ?_
  refine z_if_eq (tgt := 131) hX dL_lines_124 (by decide) (fun h124 => ?_) (fun h124 => absurd h124 (by decide))
  refine z_iconst (v := 1) hX dL_lines_131 (by decide) ?_
  refine z_iadd hX dL_lines_132 ?_
  refine z_istore_n (lv' := [(3, _), (7, _), (6, _), (5, _), (0, _), (1, _), (2, _), (4, _)]) hX dL_lines_133 (by decide) rfl ?_
  refine z_iload hX dL_lines_134 3 rfl ?_
  refine z_iload hX dL_lines_136 1 rfl ?_
  refine z_if_ne (tgt := 145) hX dL_lines_138 (by decide) (fun h138 => ?_) (fun h138 => absurd h138 hs0)
  refine z_iconst (v := 0) hX dL_lines_145 (by decide) ?_
  refine z_icmp_ne (tgt := 243) hX dL_lines_146 (by decide) (fun h146 => absurd h146 (by decide)) (fun h146 => ?_)
  refine z_aload_n hX dL_lines_149 4 rfl ?_
  refine z_iload hX dL_lines_150 7 rfl ?_
  refine z_callW hX (in_morale l hl0 h hlt) cc_208 dL_lines_152 ⟨by omega, by decide, by omega⟩ rfl rfl (Nat.le_of_ble_eq_true rfl) ?_
  refine z_if_lt (tgt := 243) hX dL_lines_155 (by decide) (fun h155 => absurd h155 hm0) (fun h155 => ?_)
  refine z_aload_n hX dL_lines_158 4 rfl ?_
  refine z_iload hX dL_lines_159 7 rfl ?_
  refine z_callW hX (in_morale l hl0 h hlt) cc_208 dL_lines_161 ⟨by omega, by decide, by omega⟩ rfl rfl (Nat.le_of_ble_eq_true rfl) ?_
  refine z_bipush (v := 20) hX dL_lines_164 (by decide) ?_
  refine z_icmp_gt (tgt := 243) hX dL_lines_166 (by decide) (fun h166 => absurd h166 hm20) (fun h166 => ?_)
  refine z_aload_n hX dL_lines_169 4 rfl ?_
  refine z_iload hX dL_lines_170 7 rfl ?_
  refine z_callW hX (in_isStanding l hl0 h hlt) cc_211 dL_lines_172 ⟨by omega, by decide, by omega⟩ rfl rfl (Nat.le_of_ble_eq_true rfl) ?_
  refine z_isv (if_pos h7) ?_
  refine z_aload_n hX dL_lines_175 4 rfl ?_
  refine z_iload hX dL_lines_176 7 rfl ?_
  refine z_callW hX (in_isRouted l hl0 h hlt) cc_213 dL_lines_178 ⟨by omega, by decide, by omega⟩ rfl rfl (Nat.le_of_ble_eq_true rfl) ?_
  refine z_isv (if_neg (by rw [h7]; decide)) ?_
  refine z_iadd hX dL_lines_181 ?_
  refine z_isv (show _ = (1 : Int32) from rfl) ?_
  refine z_iconst (v := 2) hX dL_lines_182 (by decide) ?_
  refine z_icmp_ge (tgt := 243) hX dL_lines_183 (by decide) (fun h183 => absurd h183 (by decide)) (fun h183 => ?_)
  refine z_aload_n hX dL_lines_186 4 rfl ?_
  refine z_iload hX dL_lines_187 7 rfl ?_
  refine z_callW hX (in_isStanding l hl0 h hlt) cc_211 dL_lines_189 ⟨by omega, by decide, by omega⟩ rfl rfl (Nat.le_of_ble_eq_true rfl) ?_
  refine z_isv (if_pos h7) ?_
  refine z_iconst (v := 1) hX dL_lines_192 (by decide) ?_
  refine z_icmp_ne (tgt := 200) hX dL_lines_193 (by decide) (fun h193 => absurd h193 (by decide)) (fun h193 => ?_)
  refine z_iconst (v := 1) hX dL_lines_196 (by decide) ?_
  refine z_goto (tgt := 201) hX dL_lines_197 (by decide) ?_
  refine z_aload_n hX dL_lines_201 4 rfl ?_
  refine z_iload hX dL_lines_202 7 rfl ?_
  refine z_callW hX (in_orderOf l hl0 h hlt h7) cc_215 dL_lines_204 ⟨by omega, by decide, by omega⟩ rfl rfl (Nat.le_of_ble_eq_true rfl) ?_
  refine z_if_le (tgt := 214) hX dL_lines_207 (by decide) (fun h207 => absurd h207 (Int32.not_le.mpr hop)) (fun h207 => ?_)
  refine z_iconst (v := 1) hX dL_lines_210 (by decide) ?_
  refine z_goto (tgt := 215) hX dL_lines_211 (by decide) ?_
  refine z_icmp_ne (tgt := 243) hX dL_lines_215 (by decide) (fun h215 => absurd h215 (by decide)) (fun h215 => ?_)
  refine z_iload hX dL_lines_218 3 rfl ?_
  refine z_aload_n hX dL_lines_220 4 rfl ?_
  refine z_iload hX dL_lines_221 7 rfl ?_
  refine z_callW hX (in_laneOf l hl0 h hlt (by rw [h7]; decide)) cc_195 dL_lines_223 ⟨by omega, by decide, by omega⟩ rfl rfl (Nat.le_of_ble_eq_true rfl) ?_
  refine z_bipush (v := -13) hX dL_lines_226 (by decide) ?_
  refine z_icmp_ne (tgt := 235) hX dL_lines_228 (by decide) (fun h228 => ?_) (fun h228 => absurd h228 hl13)
  refine z_iconst (v := 0) hX dL_lines_235 (by decide) ?_
  refine z_icmp_ne (tgt := 243) hX dL_lines_236 (by decide) (fun h236 => absurd h236 (by decide)) (fun h236 => ?_)
  refine z_iconst (v := 1) hX dL_lines_239 (by decide) ?_
  refine z_goto (tgt := 244) hX dL_lines_240 (by decide) ?_
  refine z_istore (lv' := [(8, _), (3, _), (7, _), (6, _), (5, _), (0, _), (1, _), (2, _), (4, _)]) hX dL_lines_244 (by decide) rfl ?_
  refine z_iload hX dL_lines_246 0 rfl ?_
  refine z_if_eq (tgt := 307) hX dL_lines_248 (by decide) (fun h248 => absurd h248 (by decide)) (fun h248 => ?_)
  refine z_aload_n hX dL_lines_251 5 rfl ?_
  refine z_iload hX dL_lines_252 8 rfl ?_
  refine z_callW hX (in_attack l hl0 h hlt) cc_217 dL_lines_254 ⟨by omega, by decide, by omega⟩ rfl rfl (Nat.le_of_ble_eq_true rfl) ?_
  refine z_iload hX dL_lines_257 3 rfl ?_
  refine z_iload hX dL_lines_259 2 rfl ?_
  refine z_callS1 hX (lw_attackBy (μ := μ) l hl0) cs_RL_220 dL_lines_261 ⟨by omega, by decide, by omega⟩ rfl rfl (Nat.le_of_ble_eq_true rfl) ?_
  refine z_icmp_ne (tgt := 307) hX dL_lines_264 (by decide) (fun h264 => absurd h264 (fun q => q rfl)) (fun h264 => ?_)
  refine z_aload_n hX dL_lines_267 5 rfl ?_
  refine z_iload hX dL_lines_268 8 rfl ?_
  refine z_callW hX (in_counter l hl0 h hlt) cc_223 dL_lines_270 ⟨by omega, by decide, by omega⟩ rfl rfl (Nat.le_of_ble_eq_true rfl) ?_
  refine z_iload hX dL_lines_273 3 rfl ?_
  refine z_iload hX dL_lines_275 2 rfl ?_
  refine z_callS1 hX (lw_counterBy (μ := μ) l hl0) cs_RL_226 dL_lines_277 ⟨by omega, by decide, by omega⟩ rfl rfl (Nat.le_of_ble_eq_true rfl) ?_
  refine z_icmp_ne (tgt := 307) hX dL_lines_280 (by decide) (fun h280 => absurd h280 (fun q => q rfl)) (fun h280 => ?_)
  refine z_aload_n hX dL_lines_283 5 rfl ?_
  refine z_iload hX dL_lines_284 8 rfl ?_
  refine z_callW hX (in_isRouted l hl0 h hlt) cc_213 dL_lines_286 ⟨by omega, by decide, by omega⟩ rfl rfl (Nat.le_of_ble_eq_true rfl) ?_
  refine z_isv (if_neg (by rw [h7]; decide)) ?_
  refine z_if_eq (tgt := 303) hX dL_lines_289 (by decide) (fun h289 => ?_) (fun h289 => absurd h289 (by decide))
  refine z_iconst (v := 1) hX dL_lines_303 (by decide) ?_
  refine z_goto (tgt := 308) hX dL_lines_304 (by decide) ?_
  refine z_istore (lv' := [(8, _), (3, _), (7, _), (6, _), (5, _), (0, _), (1, _), (2, _), (4, _)]) hX dL_lines_308 (by decide) rfl ?_
  refine z_sub [5, 6, 7, 1, 8, 4, 0] rfl ?_
  exact z_widen (by omega) kk
set_option maxHeartbeats 4000000 in
set_option maxRecDepth 100000 in
theorem ln_s3 {p : Program} {l : Launch} {e : Env} {R : Room} {s : State} {m : MethodId} {args : Array Value} {below : List Frame} {meth : Method} {c : Code} {Q : State → Prop} {g : zG} {mc lvl : Nat} {κ : zKp} {μ ν : zMu} {ω : zOm} {k : Nat} (hX : zX p l s m args meth c R g RL cL_lines 14 (some .boolean) lvl mc) (hlv : 22 < lvl) (hl0 : l.stackTraces = false) (h : RR κ μ) {i : Nat} (hlt : i < bn (μ 1)) (h7 : bf (μ 1) i 7 = 0) {x v : Int32} (hk : k + 5 ≤ mc) (kk : zZ p l e R s m args below meth c g 14 Q κ ν ω (k + 5) 495 [(0, .ref (gA g 0 0 0)), (1, .int (μ 1 0)), (2, .int x), (3, .int v), (4, .int (nI i))] []) : zZ p l e R s m args below meth c g 14 Q κ ν ω k 423 [(0, .ref (gA g 0 0 0)), (1, .int (μ 1 0)), (2, .int x), (3, .int v), (4, .int (nI i)), (5, .int 0), (8, .int 1), (9, .int (supB (μ 1) i)), (10, .int (enA (μ 1) i))] [] := by
  have hL := h.bI.1.2.2.1 i hlt
  have hl13 : ¬ bf (μ 1) i 1 = -13 := by
    obtain ⟨z, hz, ez⟩ := hL.2.1
    rw [ez]; exact fun q => absurd (show nI z < 0 by rw [q]; decide) (nI_pos (by omega))
  have hc13 : ¬ bf (μ 1) i 2 = -13 := by
    obtain ⟨z, hz, ez⟩ := hL.2.2.1
    rw [ez]; exact fun q => absurd (show nI z < 0 by rw [q]; decide) (nI_pos (by omega))
  refine z_iload hX dL_lines_423 6 rfl ?_
  refine z_if_eq (tgt := 493) hX dL_lines_425 (by decide) (fun h425 => absurd h425 (by decide)) (fun h425 => ?_)
  refine z_aload_n hX dL_lines_428 0 rfl ?_
  refine z_iload hX dL_lines_429 4 rfl ?_
  refine z_callW hX (in_support l hl0 h hlt (by rw [h7]; decide)) cc_237 dL_lines_431 ⟨by omega, by decide, by omega⟩ rfl rfl (Nat.le_of_ble_eq_true rfl) ?_
  refine z_iload hX dL_lines_434 7 rfl ?_
  refine z_icmp_ne (tgt := 493) hX dL_lines_436 (by decide) (fun h436 => absurd h436 (fun q => q rfl)) (fun h436 => ?_)
  refine z_aload_n hX dL_lines_439 0 rfl ?_
  refine z_iload hX dL_lines_440 4 rfl ?_
  refine z_callW hX (in_byLines l hl0 h hlt (by rw [h7]; decide)) cc_240 dL_lines_442 ⟨by omega, by decide, by omega⟩ rfl rfl (Nat.le_of_ble_eq_true rfl) ?_
  refine z_iload hX dL_lines_445 7 rfl ?_
  refine z_icmp_ne (tgt := 493) hX dL_lines_447 (by decide) (fun h447 => absurd h447 (fun q => q rfl)) (fun h447 => ?_)
  refine z_aload_n hX dL_lines_450 0 rfl ?_
  refine z_iload hX dL_lines_451 4 rfl ?_
  refine z_callW hX (en_ahead l hl0 h hlt (by rw [h7]; decide)) cc_243 dL_lines_453 ⟨by omega, by decide, by omega⟩ rfl rfl (Nat.le_of_ble_eq_true rfl) ?_
  refine z_iload hX dL_lines_456 8 rfl ?_
  refine z_icmp_ne (tgt := 493) hX dL_lines_458 (by decide) (fun h458 => absurd h458 (fun q => q rfl)) (fun h458 => ?_)
  refine z_aload_n hX dL_lines_461 0 rfl ?_
  refine z_iload hX dL_lines_462 4 rfl ?_
  refine z_callW hX (en_byDistances l hl0 h hlt (by rw [h7]; decide)) cc_246 dL_lines_464 ⟨by omega, by decide, by omega⟩ rfl rfl (Nat.le_of_ble_eq_true rfl) ?_
  refine z_iload hX dL_lines_467 8 rfl ?_
  refine z_icmp_ne (tgt := 493) hX dL_lines_469 (by decide) (fun h469 => absurd h469 (fun q => q rfl)) (fun h469 => ?_)
  refine z_aload_n hX dL_lines_472 0 rfl ?_
  refine z_iload hX dL_lines_473 4 rfl ?_
  refine z_callW hX (in_columnOf l hl0 h hlt (by rw [h7]; decide)) cc_197 dL_lines_475 ⟨by omega, by decide, by omega⟩ rfl rfl (Nat.le_of_ble_eq_true rfl) ?_
  refine z_bipush (v := -13) hX dL_lines_478 (by decide) ?_
  refine z_icmp_ne (tgt := 487) hX dL_lines_480 (by decide) (fun h480 => ?_) (fun h480 => absurd h480 hc13)
  refine z_iconst (v := 0) hX dL_lines_487 (by decide) ?_
  refine z_iload hX dL_lines_488 5 rfl ?_
  refine z_icmp_eq (tgt := 495) hX dL_lines_490 (by decide) (fun h490 => ?_) (fun h490 => absurd h490 (by decide))
  refine z_sub [0, 1, 2, 3, 4] rfl ?_
  exact z_widen (by omega) kk
set_option maxHeartbeats 4000000 in
set_option maxRecDepth 100000 in
theorem ln_r1 {p : Program} {l : Launch} {e : Env} {R : Room} {s : State} {m : MethodId} {args : Array Value} {below : List Frame} {meth : Method} {c : Code} {Q : State → Prop} {g : zG} {mc lvl : Nat} {κ : zKp} {μ ν : zMu} {ω : zOm} {k : Nat} (hX : zX p l s m args meth c R g RL cL_lines 14 (some .boolean) lvl mc) (hlv : 22 < lvl) (hl0 : l.stackTraces = false) (h : RR κ μ) {i : Nat} (hlt : i < bn (μ 1)) (h7 : bf (μ 1) i 7 = 1) (h8 : bf (μ 1) i 5 < 8) {x v : Int32} (hk : k + 15 ≤ mc) (kk : zZ p l e R s m args below meth c g 14 Q κ ν ω (k + 15) 310 [(0, .ref (gA g 0 0 0)), (1, .int (μ 1 0)), (2, .int x), (3, .int (v + 1)), (4, .int (nI i)), (5, .int 0), (8, .int 1)] []) : zZ p l e R s m args below meth c g 14 Q κ ν ω k 97 [(0, .ref (gA g 0 0 0)), (1, .int (μ 1 0)), (2, .int x), (3, .int v), (4, .int (nI i))] [] := by
  have hL := h.bI.1.2.2.1 i hlt
  have hm0 : ¬ bf (μ 1) i 5 < 0 := by
    obtain ⟨z, hz, ez⟩ := hL.2.2.2.2.2.1
    rw [ez]; exact nI_pos (by omega)
  have hm20 : ¬ 20 < bf (μ 1) i 5 := by
    obtain ⟨z, hz, ez⟩ := hL.2.2.2.2.2.1
    rw [ez]; exact Int32.not_lt.mpr (le_i (b := 20) hz (by decide))
  have hi := h.bI.2 i hlt
  have hs0 : ¬ bf (μ 1) i 4 = 0 := fun q => absurd (hi.mpr q) (by rw [h7]; decide)
  have hl13 : ¬ bf (μ 1) i 1 = -13 := by
    obtain ⟨z, hz, ez⟩ := hL.2.1
    rw [ez]; exact fun q => absurd (show nI z < 0 by rw [q]; decide) (nI_pos (by omega))
  have hc13 : ¬ bf (μ 1) i 2 = -13 := by
    obtain ⟨z, hz, ez⟩ := hL.2.2.1
    rw [ez]; exact fun q => absurd (show nI z < 0 by rw [q]; decide) (nI_pos (by omega))
  refine z_aload_n hX dL_lines_97 0 rfl ?_
  refine z_iload hX dL_lines_98 4 rfl ?_
  refine z_callS1 hX (lw_isFallen l hl0 h hlt) cs_RL_199 dL_lines_100 ⟨by omega, by decide, by omega⟩ rfl rfl (Nat.le_of_ble_eq_true rfl) ?_
  refine z_isv (if_neg (by rw [h7]; decide)) ?_
  refine z_istore (lv' := [(5, _), (0, _), (1, _), (2, _), (3, _), (4, _)]) hX dL_lines_103 (by decide) rfl ?_
  refine z_aload_n hX dL_lines_105 1 rfl ?_
  refine z_iload hX dL_lines_106 5 rfl ?_
  refine z_callW hX (in_kindOf l hl0 h hlt) cc_203 dL_lines_108 ⟨by omega, by decide, by omega⟩ rfl rfl (Nat.le_of_ble_eq_true rfl) ?_
  refine z_istore (lv' := [(6, _), (5, _), (0, _), (1, _), (2, _), (3, _), (4, _)]) hX dL_lines_111 (by decide) rfl ?_
  refine z_aload_n hX dL_lines_113 2 rfl ?_
  refine z_iload hX dL_lines_114 6 rfl ?_
  refine z_callW hX (in_strength l hl0 h hlt) cc_205 dL_lines_116 ⟨by omega, by decide, by omega⟩ rfl rfl (Nat.le_of_ble_eq_true rfl) ?_
  refine z_istore (lv' := [(7, _), (6, _), (5, _), (0, _), (1, _), (2, _), (3, _), (4, _)]) hX dL_lines_119 (by decide) rfl ?_
  refine z_iload_n hX dL_lines_121 6 rfl ?_
  refine z_iload hX dL_lines_122 2 rfl ?_
  refine z_if_eq (tgt := 131) hX dL_lines_124 (by decide) (fun h124 => ?_) (fun h124 => absurd h124 (by decide))
  refine z_iconst (v := 1) hX dL_lines_131 (by decide) ?_
  refine z_iadd hX dL_lines_132 ?_
  refine z_istore_n (lv' := [(3, _), (7, _), (6, _), (5, _), (0, _), (1, _), (2, _), (4, _)]) hX dL_lines_133 (by decide) rfl ?_
  refine z_iload hX dL_lines_134 3 rfl ?_
  refine z_iload hX dL_lines_136 1 rfl ?_
  refine z_if_ne (tgt := 145) hX dL_lines_138 (by decide) (fun h138 => ?_) (fun h138 => absurd h138 hs0)
  refine z_iconst (v := 0) hX dL_lines_145 (by decide) ?_
  refine z_icmp_ne (tgt := 243) hX dL_lines_146 (by decide) (fun h146 => absurd h146 (by decide)) (fun h146 => ?_)
  refine z_aload_n hX dL_lines_149 4 rfl ?_
  refine z_iload hX dL_lines_150 7 rfl ?_
  refine z_callW hX (in_morale l hl0 h hlt) cc_208 dL_lines_152 ⟨by omega, by decide, by omega⟩ rfl rfl (Nat.le_of_ble_eq_true rfl) ?_
  refine z_if_lt (tgt := 243) hX dL_lines_155 (by decide) (fun h155 => absurd h155 hm0) (fun h155 => ?_)
  refine z_aload_n hX dL_lines_158 4 rfl ?_
  refine z_iload hX dL_lines_159 7 rfl ?_
  refine z_callW hX (in_morale l hl0 h hlt) cc_208 dL_lines_161 ⟨by omega, by decide, by omega⟩ rfl rfl (Nat.le_of_ble_eq_true rfl) ?_
  refine z_bipush (v := 20) hX dL_lines_164 (by decide) ?_
  refine z_icmp_gt (tgt := 243) hX dL_lines_166 (by decide) (fun h166 => absurd h166 hm20) (fun h166 => ?_)
  refine z_aload_n hX dL_lines_169 4 rfl ?_
  refine z_iload hX dL_lines_170 7 rfl ?_
  refine z_callW hX (in_isStanding l hl0 h hlt) cc_211 dL_lines_172 ⟨by omega, by decide, by omega⟩ rfl rfl (Nat.le_of_ble_eq_true rfl) ?_
  refine z_isv (if_neg (by rw [h7]; decide)) ?_
  refine z_aload_n hX dL_lines_175 4 rfl ?_
  refine z_iload hX dL_lines_176 7 rfl ?_
  refine z_callW hX (in_isRouted l hl0 h hlt) cc_213 dL_lines_178 ⟨by omega, by decide, by omega⟩ rfl rfl (Nat.le_of_ble_eq_true rfl) ?_
  refine z_isv (if_pos h7) ?_
  refine z_iadd hX dL_lines_181 ?_
  refine z_isv (show _ = (1 : Int32) from rfl) ?_
  refine z_iconst (v := 2) hX dL_lines_182 (by decide) ?_
  refine z_icmp_ge (tgt := 243) hX dL_lines_183 (by decide) (fun h183 => absurd h183 (by decide)) (fun h183 => ?_)
  refine z_aload_n hX dL_lines_186 4 rfl ?_
  refine z_iload hX dL_lines_187 7 rfl ?_
  refine z_callW hX (in_isStanding l hl0 h hlt) cc_211 dL_lines_189 ⟨by omega, by decide, by omega⟩ rfl rfl (Nat.le_of_ble_eq_true rfl) ?_
  refine z_isv (if_neg (by rw [h7]; decide)) ?_
  refine z_iconst (v := 1) hX dL_lines_192 (by decide) ?_
  refine z_icmp_ne (tgt := 200) hX dL_lines_193 (by decide) (fun h193 => ?_) (fun h193 => absurd h193 (by decide))
  refine z_iconst (v := 0) hX dL_lines_200 (by decide) ?_
  refine z_aload_n hX dL_lines_201 4 rfl ?_
  refine z_iload hX dL_lines_202 7 rfl ?_
  refine z_callW hX (go_orderOf l hl0 h hlt (by rw [h7]; decide)) cc_215 dL_lines_204 ⟨by omega, by decide, by omega⟩ rfl rfl (Nat.le_of_ble_eq_true rfl) ?_
  refine z_if_le (tgt := 214) hX dL_lines_207 (by decide) (fun h207 => ?_) (fun h207 => absurd h207 (by decide))
  refine z_iconst (v := 0) hX dL_lines_214 (by decide) ?_
  refine z_icmp_ne (tgt := 243) hX dL_lines_215 (by decide) (fun h215 => absurd h215 (by decide)) (fun h215 => ?_)
  refine z_iload hX dL_lines_218 3 rfl ?_
  refine z_aload_n hX dL_lines_220 4 rfl ?_
  refine z_iload hX dL_lines_221 7 rfl ?_
  refine z_callW hX (in_laneOf l hl0 h hlt (by rw [h7]; decide)) cc_195 dL_lines_223 ⟨by omega, by decide, by omega⟩ rfl rfl (Nat.le_of_ble_eq_true rfl) ?_
  refine z_bipush (v := -13) hX dL_lines_226 (by decide) ?_
  refine z_icmp_ne (tgt := 235) hX dL_lines_228 (by decide) (fun h228 => ?_) (fun h228 => absurd h228 hl13)
  refine z_iconst (v := 0) hX dL_lines_235 (by decide) ?_
  refine z_icmp_ne (tgt := 243) hX dL_lines_236 (by decide) (fun h236 => absurd h236 (by decide)) (fun h236 => ?_)
  refine z_iconst (v := 1) hX dL_lines_239 (by decide) ?_
  refine z_goto (tgt := 244) hX dL_lines_240 (by decide) ?_
  refine z_istore (lv' := [(8, _), (3, _), (7, _), (6, _), (5, _), (0, _), (1, _), (2, _), (4, _)]) hX dL_lines_244 (by decide) rfl ?_
  refine z_iload hX dL_lines_246 0 rfl ?_
  refine z_if_eq (tgt := 307) hX dL_lines_248 (by decide) (fun h248 => absurd h248 (by decide)) (fun h248 => ?_)
  refine z_aload_n hX dL_lines_251 5 rfl ?_
  refine z_iload hX dL_lines_252 8 rfl ?_
  refine z_callW hX (in_attack l hl0 h hlt) cc_217 dL_lines_254 ⟨by omega, by decide, by omega⟩ rfl rfl (Nat.le_of_ble_eq_true rfl) ?_
  refine z_iload hX dL_lines_257 3 rfl ?_
  refine z_iload hX dL_lines_259 2 rfl ?_
  refine z_callS1 hX (lw_attackBy (μ := μ) l hl0) cs_RL_220 dL_lines_261 ⟨by omega, by decide, by omega⟩ rfl rfl (Nat.le_of_ble_eq_true rfl) ?_
  refine z_icmp_ne (tgt := 307) hX dL_lines_264 (by decide) (fun h264 => absurd h264 (fun q => q rfl)) (fun h264 => ?_)
  refine z_aload_n hX dL_lines_267 5 rfl ?_
  refine z_iload hX dL_lines_268 8 rfl ?_
  refine z_callW hX (in_counter l hl0 h hlt) cc_223 dL_lines_270 ⟨by omega, by decide, by omega⟩ rfl rfl (Nat.le_of_ble_eq_true rfl) ?_
  refine z_iload hX dL_lines_273 3 rfl ?_
  refine z_iload hX dL_lines_275 2 rfl ?_
  refine z_callS1 hX (lw_counterBy (μ := μ) l hl0) cs_RL_226 dL_lines_277 ⟨by omega, by decide, by omega⟩ rfl rfl (Nat.le_of_ble_eq_true rfl) ?_
  refine z_icmp_ne (tgt := 307) hX dL_lines_280 (by decide) (fun h280 => absurd h280 (fun q => q rfl)) (fun h280 => ?_)
  refine z_aload_n hX dL_lines_283 5 rfl ?_
  refine z_iload hX dL_lines_284 8 rfl ?_
  refine z_callW hX (in_isRouted l hl0 h hlt) cc_213 dL_lines_286 ⟨by omega, by decide, by omega⟩ rfl rfl (Nat.le_of_ble_eq_true rfl) ?_
  refine z_isv (if_pos h7) ?_
  refine z_if_eq (tgt := 303) hX dL_lines_289 (by decide) (fun h289 => absurd h289 (by decide)) (fun h289 => ?_)
  refine z_aload_n hX dL_lines_292 5 rfl ?_
  refine z_iload hX dL_lines_293 8 rfl ?_
  refine z_callW hX (in_morale l hl0 h hlt) cc_208 dL_lines_295 ⟨by omega, by decide, by omega⟩ rfl rfl (Nat.le_of_ble_eq_true rfl) ?_
  refine z_bipush (v := 8) hX dL_lines_298 (by decide) ?_
  refine z_icmp_ge (tgt := 307) hX dL_lines_300 (by decide) (fun h300 => absurd h300 (Int32.not_le.mpr h8)) (fun h300 => ?_)
  refine z_iconst (v := 1) hX dL_lines_303 (by decide) ?_
  refine z_goto (tgt := 308) hX dL_lines_304 (by decide) ?_
  refine z_istore (lv' := [(8, _), (3, _), (7, _), (6, _), (5, _), (0, _), (1, _), (2, _), (4, _)]) hX dL_lines_308 (by decide) rfl ?_
  refine z_sub [5, 6, 7, 1, 8, 4, 0] rfl ?_
  exact z_widen (by omega) kk
set_option maxHeartbeats 4000000 in
set_option maxRecDepth 100000 in
theorem ln_r3 {p : Program} {l : Launch} {e : Env} {R : Room} {s : State} {m : MethodId} {args : Array Value} {below : List Frame} {meth : Method} {c : Code} {Q : State → Prop} {g : zG} {mc lvl : Nat} {κ : zKp} {μ ν : zMu} {ω : zOm} {k : Nat} (hX : zX p l s m args meth c R g RL cL_lines 14 (some .boolean) lvl mc) (hlv : 22 < lvl) (hl0 : l.stackTraces = false) (h : RR κ μ) {i : Nat} (hlt : i < bn (μ 1)) (h7 : bf (μ 1) i 7 = 1) (h8 : bf (μ 1) i 5 < 8) {x v : Int32} (hk : k + 5 ≤ mc) (kk : zZ p l e R s m args below meth c g 14 Q κ ν ω (k + 5) 495 [(0, .ref (gA g 0 0 0)), (1, .int (μ 1 0)), (2, .int x), (3, .int v), (4, .int (nI i))] []) : zZ p l e R s m args below meth c g 14 Q κ ν ω k 423 [(0, .ref (gA g 0 0 0)), (1, .int (μ 1 0)), (2, .int x), (3, .int v), (4, .int (nI i)), (5, .int 0), (8, .int 1), (9, .int (supB (μ 1) i)), (10, .int (enA (μ 1) i))] [] := by
  have hL := h.bI.1.2.2.1 i hlt
  have hl13 : ¬ bf (μ 1) i 1 = -13 := by
    obtain ⟨z, hz, ez⟩ := hL.2.1
    rw [ez]; exact fun q => absurd (show nI z < 0 by rw [q]; decide) (nI_pos (by omega))
  have hc13 : ¬ bf (μ 1) i 2 = -13 := by
    obtain ⟨z, hz, ez⟩ := hL.2.2.1
    rw [ez]; exact fun q => absurd (show nI z < 0 by rw [q]; decide) (nI_pos (by omega))
  refine z_iload hX dL_lines_423 6 rfl ?_
  refine z_if_eq (tgt := 493) hX dL_lines_425 (by decide) (fun h425 => absurd h425 (by decide)) (fun h425 => ?_)
  refine z_aload_n hX dL_lines_428 0 rfl ?_
  refine z_iload hX dL_lines_429 4 rfl ?_
  refine z_callW hX (in_support l hl0 h hlt (by rw [h7]; decide)) cc_237 dL_lines_431 ⟨by omega, by decide, by omega⟩ rfl rfl (Nat.le_of_ble_eq_true rfl) ?_
  refine z_iload hX dL_lines_434 7 rfl ?_
  refine z_icmp_ne (tgt := 493) hX dL_lines_436 (by decide) (fun h436 => absurd h436 (fun q => q rfl)) (fun h436 => ?_)
  refine z_aload_n hX dL_lines_439 0 rfl ?_
  refine z_iload hX dL_lines_440 4 rfl ?_
  refine z_callW hX (in_byLines l hl0 h hlt (by rw [h7]; decide)) cc_240 dL_lines_442 ⟨by omega, by decide, by omega⟩ rfl rfl (Nat.le_of_ble_eq_true rfl) ?_
  refine z_iload hX dL_lines_445 7 rfl ?_
  refine z_icmp_ne (tgt := 493) hX dL_lines_447 (by decide) (fun h447 => absurd h447 (fun q => q rfl)) (fun h447 => ?_)
  refine z_aload_n hX dL_lines_450 0 rfl ?_
  refine z_iload hX dL_lines_451 4 rfl ?_
  refine z_callW hX (en_ahead l hl0 h hlt (by rw [h7]; decide)) cc_243 dL_lines_453 ⟨by omega, by decide, by omega⟩ rfl rfl (Nat.le_of_ble_eq_true rfl) ?_
  refine z_iload hX dL_lines_456 8 rfl ?_
  refine z_icmp_ne (tgt := 493) hX dL_lines_458 (by decide) (fun h458 => absurd h458 (fun q => q rfl)) (fun h458 => ?_)
  refine z_aload_n hX dL_lines_461 0 rfl ?_
  refine z_iload hX dL_lines_462 4 rfl ?_
  refine z_callW hX (en_byDistances l hl0 h hlt (by rw [h7]; decide)) cc_246 dL_lines_464 ⟨by omega, by decide, by omega⟩ rfl rfl (Nat.le_of_ble_eq_true rfl) ?_
  refine z_iload hX dL_lines_467 8 rfl ?_
  refine z_icmp_ne (tgt := 493) hX dL_lines_469 (by decide) (fun h469 => absurd h469 (fun q => q rfl)) (fun h469 => ?_)
  refine z_aload_n hX dL_lines_472 0 rfl ?_
  refine z_iload hX dL_lines_473 4 rfl ?_
  refine z_callW hX (in_columnOf l hl0 h hlt (by rw [h7]; decide)) cc_197 dL_lines_475 ⟨by omega, by decide, by omega⟩ rfl rfl (Nat.le_of_ble_eq_true rfl) ?_
  refine z_bipush (v := -13) hX dL_lines_478 (by decide) ?_
  refine z_icmp_ne (tgt := 487) hX dL_lines_480 (by decide) (fun h480 => ?_) (fun h480 => absurd h480 hc13)
  refine z_iconst (v := 0) hX dL_lines_487 (by decide) ?_
  refine z_iload hX dL_lines_488 5 rfl ?_
  refine z_icmp_eq (tgt := 495) hX dL_lines_490 (by decide) (fun h490 => ?_) (fun h490 => absurd h490 (by decide))
  refine z_sub [0, 1, 2, 3, 4] rfl ?_
  exact z_widen (by omega) kk
set_option maxHeartbeats 4000000 in
set_option maxRecDepth 100000 in
theorem ln_f1 {p : Program} {l : Launch} {e : Env} {R : Room} {s : State} {m : MethodId} {args : Array Value} {below : List Frame} {meth : Method} {c : Code} {Q : State → Prop} {g : zG} {mc lvl : Nat} {κ : zKp} {μ ν : zMu} {ω : zOm} {k : Nat} (hX : zX p l s m args meth c R g RL cL_lines 14 (some .boolean) lvl mc) (hlv : 22 < lvl) (hl0 : l.stackTraces = false) (h : RR κ μ) {i : Nat} (hlt : i < bn (μ 1)) (h7 : bf (μ 1) i 7 = 2) {x v : Int32} (hk : k + 15 ≤ mc) (kk : zZ p l e R s m args below meth c g 14 Q κ ν ω (k + 15) 310 [(0, .ref (gA g 0 0 0)), (1, .int (μ 1 0)), (2, .int x), (3, .int (v + 0)), (4, .int (nI i)), (5, .int 1), (8, .int 1)] []) : zZ p l e R s m args below meth c g 14 Q κ ν ω k 97 [(0, .ref (gA g 0 0 0)), (1, .int (μ 1 0)), (2, .int x), (3, .int v), (4, .int (nI i))] [] := by
  have hL := h.bI.1.2.2.1 i hlt
  have hm0 : ¬ bf (μ 1) i 5 < 0 := by
    obtain ⟨z, hz, ez⟩ := hL.2.2.2.2.2.1
    rw [ez]; exact nI_pos (by omega)
  have hm20 : ¬ 20 < bf (μ 1) i 5 := by
    obtain ⟨z, hz, ez⟩ := hL.2.2.2.2.2.1
    rw [ez]; exact Int32.not_lt.mpr (le_i (b := 20) hz (by decide))
  have hi := h.bI.2 i hlt
  have hs0 : bf (μ 1) i 4 = 0 := hi.mp h7
  refine z_aload_n hX dL_lines_97 0 rfl ?_
  refine z_iload hX dL_lines_98 4 rfl ?_
  refine z_callS1 hX (lw_isFallen l hl0 h hlt) cs_RL_199 dL_lines_100 ⟨by omega, by decide, by omega⟩ rfl rfl (Nat.le_of_ble_eq_true rfl) ?_
  refine z_isv (if_pos h7) ?_
  refine z_istore (lv' := [(5, _), (0, _), (1, _), (2, _), (3, _), (4, _)]) hX dL_lines_103 (by decide) rfl ?_
  refine z_aload_n hX dL_lines_105 1 rfl ?_
  refine z_iload hX dL_lines_106 5 rfl ?_
  refine z_callW hX (in_kindOf l hl0 h hlt) cc_203 dL_lines_108 ⟨by omega, by decide, by omega⟩ rfl rfl (Nat.le_of_ble_eq_true rfl) ?_
  refine z_istore (lv' := [(6, _), (5, _), (0, _), (1, _), (2, _), (3, _), (4, _)]) hX dL_lines_111 (by decide) rfl ?_
  refine z_aload_n hX dL_lines_113 2 rfl ?_
  refine z_iload hX dL_lines_114 6 rfl ?_
  refine z_callW hX (in_strength l hl0 h hlt) cc_205 dL_lines_116 ⟨by omega, by decide, by omega⟩ rfl rfl (Nat.le_of_ble_eq_true rfl) ?_
  refine z_istore (lv' := [(7, _), (6, _), (5, _), (0, _), (1, _), (2, _), (3, _), (4, _)]) hX dL_lines_119 (by decide) rfl ?_
  refine z_iload_n hX dL_lines_121 6 rfl ?_
  refine z_iload hX dL_lines_122 2 rfl ?_
  refine z_if_eq (tgt := 131) hX dL_lines_124 (by decide) (fun h124 => absurd h124 (by decide)) (fun h124 => ?_)
  refine z_iconst (v := 0) hX dL_lines_127 (by decide) ?_
  refine z_goto (tgt := 132) hX dL_lines_128 (by decide) ?_
  refine z_iadd hX dL_lines_132 ?_
  refine z_istore_n (lv' := [(3, _), (7, _), (6, _), (5, _), (0, _), (1, _), (2, _), (4, _)]) hX dL_lines_133 (by decide) rfl ?_
  refine z_iload hX dL_lines_134 3 rfl ?_
  refine z_iload hX dL_lines_136 1 rfl ?_
  refine z_if_ne (tgt := 145) hX dL_lines_138 (by decide) (fun h138 => absurd h138 (fun q => q hs0)) (fun h138 => ?_)
  refine z_iconst (v := 1) hX dL_lines_141 (by decide) ?_
  refine z_goto (tgt := 146) hX dL_lines_142 (by decide) ?_
  refine z_icmp_ne (tgt := 243) hX dL_lines_146 (by decide) (fun h146 => absurd h146 (by decide)) (fun h146 => ?_)
  refine z_aload_n hX dL_lines_149 4 rfl ?_
  refine z_iload hX dL_lines_150 7 rfl ?_
  refine z_callW hX (in_morale l hl0 h hlt) cc_208 dL_lines_152 ⟨by omega, by decide, by omega⟩ rfl rfl (Nat.le_of_ble_eq_true rfl) ?_
  refine z_if_lt (tgt := 243) hX dL_lines_155 (by decide) (fun h155 => absurd h155 hm0) (fun h155 => ?_)
  refine z_aload_n hX dL_lines_158 4 rfl ?_
  refine z_iload hX dL_lines_159 7 rfl ?_
  refine z_callW hX (in_morale l hl0 h hlt) cc_208 dL_lines_161 ⟨by omega, by decide, by omega⟩ rfl rfl (Nat.le_of_ble_eq_true rfl) ?_
  refine z_bipush (v := 20) hX dL_lines_164 (by decide) ?_
  refine z_icmp_gt (tgt := 243) hX dL_lines_166 (by decide) (fun h166 => absurd h166 hm20) (fun h166 => ?_)
  refine z_aload_n hX dL_lines_169 4 rfl ?_
  refine z_iload hX dL_lines_170 7 rfl ?_
  refine z_callW hX (in_isStanding l hl0 h hlt) cc_211 dL_lines_172 ⟨by omega, by decide, by omega⟩ rfl rfl (Nat.le_of_ble_eq_true rfl) ?_
  refine z_isv (if_neg (by rw [h7]; decide)) ?_
  refine z_aload_n hX dL_lines_175 4 rfl ?_
  refine z_iload hX dL_lines_176 7 rfl ?_
  refine z_callW hX (in_isRouted l hl0 h hlt) cc_213 dL_lines_178 ⟨by omega, by decide, by omega⟩ rfl rfl (Nat.le_of_ble_eq_true rfl) ?_
  refine z_isv (if_neg (by rw [h7]; decide)) ?_
  refine z_iadd hX dL_lines_181 ?_
  refine z_isv (show _ = (0 : Int32) from rfl) ?_
  refine z_iconst (v := 2) hX dL_lines_182 (by decide) ?_
  refine z_icmp_ge (tgt := 243) hX dL_lines_183 (by decide) (fun h183 => absurd h183 (by decide)) (fun h183 => ?_)
  refine z_aload_n hX dL_lines_186 4 rfl ?_
  refine z_iload hX dL_lines_187 7 rfl ?_
  refine z_callW hX (in_isStanding l hl0 h hlt) cc_211 dL_lines_189 ⟨by omega, by decide, by omega⟩ rfl rfl (Nat.le_of_ble_eq_true rfl) ?_
  refine z_isv (if_neg (by rw [h7]; decide)) ?_
  refine z_iconst (v := 1) hX dL_lines_192 (by decide) ?_
  refine z_icmp_ne (tgt := 200) hX dL_lines_193 (by decide) (fun h193 => ?_) (fun h193 => absurd h193 (by decide))
  refine z_iconst (v := 0) hX dL_lines_200 (by decide) ?_
  refine z_aload_n hX dL_lines_201 4 rfl ?_
  refine z_iload hX dL_lines_202 7 rfl ?_
  refine z_callW hX (go_orderOf l hl0 h hlt (by rw [h7]; decide)) cc_215 dL_lines_204 ⟨by omega, by decide, by omega⟩ rfl rfl (Nat.le_of_ble_eq_true rfl) ?_
  refine z_if_le (tgt := 214) hX dL_lines_207 (by decide) (fun h207 => ?_) (fun h207 => absurd h207 (by decide))
  refine z_iconst (v := 0) hX dL_lines_214 (by decide) ?_
  refine z_icmp_ne (tgt := 243) hX dL_lines_215 (by decide) (fun h215 => absurd h215 (by decide)) (fun h215 => ?_)
  refine z_iload hX dL_lines_218 3 rfl ?_
  refine z_aload_n hX dL_lines_220 4 rfl ?_
  refine z_iload hX dL_lines_221 7 rfl ?_
  refine z_callW hX (go_laneOf l hl0 h hlt h7) cc_195 dL_lines_223 ⟨by omega, by decide, by omega⟩ rfl rfl (Nat.le_of_ble_eq_true rfl) ?_
  refine z_bipush (v := -13) hX dL_lines_226 (by decide) ?_
  refine z_icmp_ne (tgt := 235) hX dL_lines_228 (by decide) (fun h228 => absurd h228 (by decide)) (fun h228 => ?_)
  refine z_iconst (v := 1) hX dL_lines_231 (by decide) ?_
  refine z_goto (tgt := 236) hX dL_lines_232 (by decide) ?_
  refine z_icmp_ne (tgt := 243) hX dL_lines_236 (by decide) (fun h236 => absurd h236 (by decide)) (fun h236 => ?_)
  refine z_iconst (v := 1) hX dL_lines_239 (by decide) ?_
  refine z_goto (tgt := 244) hX dL_lines_240 (by decide) ?_
  refine z_istore (lv' := [(8, _), (3, _), (7, _), (6, _), (5, _), (0, _), (1, _), (2, _), (4, _)]) hX dL_lines_244 (by decide) rfl ?_
  refine z_iload hX dL_lines_246 0 rfl ?_
  refine z_if_eq (tgt := 307) hX dL_lines_248 (by decide) (fun h248 => absurd h248 (by decide)) (fun h248 => ?_)
  refine z_aload_n hX dL_lines_251 5 rfl ?_
  refine z_iload hX dL_lines_252 8 rfl ?_
  refine z_callW hX (in_attack l hl0 h hlt) cc_217 dL_lines_254 ⟨by omega, by decide, by omega⟩ rfl rfl (Nat.le_of_ble_eq_true rfl) ?_
  refine z_iload hX dL_lines_257 3 rfl ?_
  refine z_iload hX dL_lines_259 2 rfl ?_
  refine z_callS1 hX (lw_attackBy (μ := μ) l hl0) cs_RL_220 dL_lines_261 ⟨by omega, by decide, by omega⟩ rfl rfl (Nat.le_of_ble_eq_true rfl) ?_
  refine z_icmp_ne (tgt := 307) hX dL_lines_264 (by decide) (fun h264 => absurd h264 (fun q => q rfl)) (fun h264 => ?_)
  refine z_aload_n hX dL_lines_267 5 rfl ?_
  refine z_iload hX dL_lines_268 8 rfl ?_
  refine z_callW hX (in_counter l hl0 h hlt) cc_223 dL_lines_270 ⟨by omega, by decide, by omega⟩ rfl rfl (Nat.le_of_ble_eq_true rfl) ?_
  refine z_iload hX dL_lines_273 3 rfl ?_
  refine z_iload hX dL_lines_275 2 rfl ?_
  refine z_callS1 hX (lw_counterBy (μ := μ) l hl0) cs_RL_226 dL_lines_277 ⟨by omega, by decide, by omega⟩ rfl rfl (Nat.le_of_ble_eq_true rfl) ?_
  refine z_icmp_ne (tgt := 307) hX dL_lines_280 (by decide) (fun h280 => absurd h280 (fun q => q rfl)) (fun h280 => ?_)
  refine z_aload_n hX dL_lines_283 5 rfl ?_
  refine z_iload hX dL_lines_284 8 rfl ?_
  refine z_callW hX (in_isRouted l hl0 h hlt) cc_213 dL_lines_286 ⟨by omega, by decide, by omega⟩ rfl rfl (Nat.le_of_ble_eq_true rfl) ?_
  refine z_isv (if_neg (by rw [h7]; decide)) ?_
  refine z_if_eq (tgt := 303) hX dL_lines_289 (by decide) (fun h289 => ?_) (fun h289 => absurd h289 (by decide))
  refine z_iconst (v := 1) hX dL_lines_303 (by decide) ?_
  refine z_goto (tgt := 308) hX dL_lines_304 (by decide) ?_
  refine z_istore (lv' := [(8, _), (3, _), (7, _), (6, _), (5, _), (0, _), (1, _), (2, _), (4, _)]) hX dL_lines_308 (by decide) rfl ?_
  refine z_sub [5, 6, 7, 1, 8, 4, 0] rfl ?_
  exact z_widen (by omega) kk
set_option maxHeartbeats 4000000 in
set_option maxRecDepth 100000 in
theorem ln_f3 {p : Program} {l : Launch} {e : Env} {R : Room} {s : State} {m : MethodId} {args : Array Value} {below : List Frame} {meth : Method} {c : Code} {Q : State → Prop} {g : zG} {mc lvl : Nat} {κ : zKp} {μ ν : zMu} {ω : zOm} {k : Nat} (hX : zX p l s m args meth c R g RL cL_lines 14 (some .boolean) lvl mc) (hlv : 22 < lvl) (hl0 : l.stackTraces = false) (h : RR κ μ) {i : Nat} (hlt : i < bn (μ 1)) (h7 : bf (μ 1) i 7 = 2) {x v : Int32} (hk : k + 5 ≤ mc) (kk : zZ p l e R s m args below meth c g 14 Q κ ν ω (k + 5) 495 [(0, .ref (gA g 0 0 0)), (1, .int (μ 1 0)), (2, .int x), (3, .int v), (4, .int (nI i))] []) : zZ p l e R s m args below meth c g 14 Q κ ν ω k 423 [(0, .ref (gA g 0 0 0)), (1, .int (μ 1 0)), (2, .int x), (3, .int v), (4, .int (nI i)), (5, .int 1), (8, .int 1), (9, .int (-13)), (10, .int (-13))] [] := by
  refine z_iload hX dL_lines_423 6 rfl ?_
  refine z_if_eq (tgt := 493) hX dL_lines_425 (by decide) (fun h425 => absurd h425 (by decide)) (fun h425 => ?_)
  refine z_aload_n hX dL_lines_428 0 rfl ?_
  refine z_iload hX dL_lines_429 4 rfl ?_
  refine z_callW hX (go_support l hl0 h hlt h7) cc_237 dL_lines_431 ⟨by omega, by decide, by omega⟩ rfl rfl (Nat.le_of_ble_eq_true rfl) ?_
  refine z_iload hX dL_lines_434 7 rfl ?_
  refine z_icmp_ne (tgt := 493) hX dL_lines_436 (by decide) (fun h436 => absurd h436 (by decide)) (fun h436 => ?_)
  refine z_aload_n hX dL_lines_439 0 rfl ?_
  refine z_iload hX dL_lines_440 4 rfl ?_
  refine z_callW hX (go_byLines l hl0 h hlt h7) cc_240 dL_lines_442 ⟨by omega, by decide, by omega⟩ rfl rfl (Nat.le_of_ble_eq_true rfl) ?_
  refine z_iload hX dL_lines_445 7 rfl ?_
  refine z_icmp_ne (tgt := 493) hX dL_lines_447 (by decide) (fun h447 => absurd h447 (by decide)) (fun h447 => ?_)
  refine z_aload_n hX dL_lines_450 0 rfl ?_
  refine z_iload hX dL_lines_451 4 rfl ?_
  refine z_callW hX (go_ahead l hl0 h hlt h7) cc_243 dL_lines_453 ⟨by omega, by decide, by omega⟩ rfl rfl (Nat.le_of_ble_eq_true rfl) ?_
  refine z_iload hX dL_lines_456 8 rfl ?_
  refine z_icmp_ne (tgt := 493) hX dL_lines_458 (by decide) (fun h458 => absurd h458 (by decide)) (fun h458 => ?_)
  refine z_aload_n hX dL_lines_461 0 rfl ?_
  refine z_iload hX dL_lines_462 4 rfl ?_
  refine z_callW hX (go_byDistances l hl0 h hlt h7) cc_246 dL_lines_464 ⟨by omega, by decide, by omega⟩ rfl rfl (Nat.le_of_ble_eq_true rfl) ?_
  refine z_iload hX dL_lines_467 8 rfl ?_
  refine z_icmp_ne (tgt := 493) hX dL_lines_469 (by decide) (fun h469 => absurd h469 (by decide)) (fun h469 => ?_)
  refine z_aload_n hX dL_lines_472 0 rfl ?_
  refine z_iload hX dL_lines_473 4 rfl ?_
  refine z_callW hX (go_columnOf l hl0 h hlt h7) cc_197 dL_lines_475 ⟨by omega, by decide, by omega⟩ rfl rfl (Nat.le_of_ble_eq_true rfl) ?_
  refine z_bipush (v := -13) hX dL_lines_478 (by decide) ?_
  refine z_icmp_ne (tgt := 487) hX dL_lines_480 (by decide) (fun h480 => absurd h480 (by decide)) (fun h480 => ?_)
  refine z_iconst (v := 1) hX dL_lines_483 (by decide) ?_
  refine z_goto (tgt := 488) hX dL_lines_484 (by decide) ?_
  refine z_iload hX dL_lines_488 5 rfl ?_
  refine z_icmp_eq (tgt := 495) hX dL_lines_490 (by decide) (fun h490 => ?_) (fun h490 => absurd h490 (by decide))
  refine z_sub [0, 1, 2, 3, 4] rfl ?_
  exact z_widen (by omega) kk
set_option maxHeartbeats 4000000 in
set_option maxRecDepth 100000 in
theorem ln_f2 {p : Program} {l : Launch} {e : Env} {R : Room} {s : State} {m : MethodId} {args : Array Value} {below : List Frame} {meth : Method} {c : Code} {Q : State → Prop} {g : zG} {mc lvl : Nat} {κ : zKp} {μ ν : zMu} {ω : zOm} {k : Nat} (hX : zX p l s m args meth c R g RL cL_lines 14 (some .boolean) lvl mc) (hlv : 22 < lvl) (hl0 : l.stackTraces = false) (h : RR κ μ) {i : Nat} {x v : Int32} (kk : zZ p l e R s m args below meth c g 14 Q κ ν ω k 423 [(0, .ref (gA g 0 0 0)), (1, .int (μ 1 0)), (2, .int x), (3, .int v), (4, .int (nI i)), (5, .int 1), (8, .int 1), (9, .int (-13)), (10, .int (-13))] []) : zZ p l e R s m args below meth c g 14 Q κ ν ω k 310 [(0, .ref (gA g 0 0 0)), (1, .int (μ 1 0)), (2, .int x), (3, .int v), (4, .int (nI i)), (5, .int 1), (8, .int 1)] [] := by
  refine z_iload hX dL_lines_310 5 rfl ?_
  refine z_if_eq (tgt := 320) hX dL_lines_312 (by decide) (fun h312 => absurd h312 (by decide)) (fun h312 => ?_)
  refine z_bipush (v := -13) hX dL_lines_315 (by decide) ?_
  refine z_goto (tgt := 326) hX dL_lines_317 (by decide) ?_
  refine z_istore (lv' := [(9, _), (0, _), (1, _), (2, _), (3, _), (4, _), (5, _), (8, _)]) hX dL_lines_326 (by decide) rfl ?_
  refine z_bipush (v := -13) hX dL_lines_328 (by decide) ?_
  refine z_istore (lv' := [(10, _), (9, _), (0, _), (1, _), (2, _), (3, _), (4, _), (5, _), (8, _)]) hX dL_lines_330 (by decide) rfl ?_
  refine z_iload hX dL_lines_332 7 rfl ?_
  refine z_if_eq (tgt := 341) hX dL_lines_334 (by decide) (fun h334 => absurd h334 (by decide)) (fun h334 => ?_)
  refine z_iconst (v := -1) hX dL_lines_337 (by decide) ?_
  refine z_goto (tgt := 347) hX dL_lines_338 (by decide) ?_
  refine z_istore (lv' := [(11, _), (10, _), (9, _), (0, _), (1, _), (2, _), (3, _), (4, _), (5, _), (8, _)]) hX dL_lines_347 (by decide) rfl ?_
  refine z_iload hX dL_lines_349 0 rfl ?_
  refine z_if_lt (tgt := 423) hX dL_lines_351 (by decide) (fun h351 => ?_) (fun h351 => absurd h351 (by decide))
  refine z_sub [3, 4, 5, 6, 7, 8, 9, 2, 1] rfl ?_
  exact kk
set_option maxHeartbeats 4000000 in
set_option maxRecDepth 100000 in
theorem ln_o2 {p : Program} {l : Launch} {e : Env} {R : Room} {s : State} {m : MethodId} {args : Array Value} {below : List Frame} {meth : Method} {c : Code} {Q : State → Prop} {g : zG} {mc lvl : Nat} {κ : zKp} {μ ν : zMu} {ω : zOm} {k : Nat} (hX : zX p l s m args meth c R g RL cL_lines 14 (some .boolean) lvl mc) (hlv : 22 < lvl) (hl0 : l.stackTraces = false) (h : RR κ μ) {i : Nat} (hlt : i < bn (μ 1)) (h72 : ¬ bf (μ 1) i 7 = 2) {x v : Int32} (hk : k + 3 ≤ mc) (kk : zZ p l e R s m args below meth c g 14 Q κ ν ω (k + 3) 349 [(0, .ref (gA g 0 0 0)), (1, .int (μ 1 0)), (2, .int x), (3, .int v), (4, .int (nI i)), (5, .int 0), (8, .int 1), (9, .int (supB (μ 1) i)), (10, .int (-13)), (11, .int (bf (μ 1) i 2))] []) : zZ p l e R s m args below meth c g 14 Q κ ν ω k 310 [(0, .ref (gA g 0 0 0)), (1, .int (μ 1 0)), (2, .int x), (3, .int v), (4, .int (nI i)), (5, .int 0), (8, .int 1)] [] := by
  refine z_iload hX dL_lines_310 5 rfl ?_
  refine z_if_eq (tgt := 320) hX dL_lines_312 (by decide) (fun h312 => ?_) (fun h312 => absurd h312 (by decide))
  refine z_aload_n hX dL_lines_320 0 rfl ?_
  refine z_iload hX dL_lines_321 4 rfl ?_
  refine z_callS1 hX (lw_supportBy l hl0 h hlt h72) cs_RL_229 dL_lines_323 ⟨by omega, by decide, by omega⟩ rfl rfl (Nat.le_of_ble_eq_true rfl) ?_
  refine z_istore (lv' := [(9, _), (0, _), (1, _), (2, _), (3, _), (4, _), (5, _), (8, _)]) hX dL_lines_326 (by decide) rfl ?_
  refine z_bipush (v := -13) hX dL_lines_328 (by decide) ?_
  refine z_istore (lv' := [(10, _), (9, _), (0, _), (1, _), (2, _), (3, _), (4, _), (5, _), (8, _)]) hX dL_lines_330 (by decide) rfl ?_
  refine z_iload hX dL_lines_332 7 rfl ?_
  refine z_if_eq (tgt := 341) hX dL_lines_334 (by decide) (fun h334 => ?_) (fun h334 => absurd h334 (by decide))
  refine z_aload_n hX dL_lines_341 2 rfl ?_
  refine z_iload hX dL_lines_342 6 rfl ?_
  refine z_callW hX (in_columnOf l hl0 h hlt h72) cc_197 dL_lines_344 ⟨by omega, by decide, by omega⟩ rfl rfl (Nat.le_of_ble_eq_true rfl) ?_
  refine z_istore (lv' := [(11, _), (10, _), (9, _), (0, _), (1, _), (2, _), (3, _), (4, _), (5, _), (8, _)]) hX dL_lines_347 (by decide) rfl ?_
  refine z_sub [3, 4, 5, 6, 7, 8, 9, 2, 1, 0] rfl ?_
  exact z_widen (by omega) kk
set_option maxHeartbeats 4000000 in
set_option maxRecDepth 100000 in
theorem ln_x {p : Program} {l : Launch} {e : Env} {R : Room} {s : State} {m : MethodId} {args : Array Value} {below : List Frame} {meth : Method} {c : Code} {Q : State → Prop} {g : zG} {mc lvl : Nat} {κ : zKp} {μ ν : zMu} {ω : zOm} {k : Nat} (hX : zX p l s m args meth c R g RL cL_lines 14 (some .boolean) lvl mc) (hlv : 22 < lvl) {i : Nat} {x v y w : Int32} (hy : 0 ≤ y) (kk : zZ p l e R s m args below meth c g 14 Q κ ν ω k 423 [(0, .ref (gA g 0 0 0)), (1, .int (μ 1 0)), (2, .int x), (3, .int v), (4, .int (nI i)), (5, .int 0), (8, .int 1), (9, .int (supB (μ 1) i)), (10, .int y)] []) : zZ p l e R s m args below meth c g 14 Q κ ν ω k 349 [(0, .ref (gA g 0 0 0)), (1, .int (μ 1 0)), (2, .int x), (3, .int v), (4, .int (nI i)), (5, .int 0), (8, .int 1), (9, .int (supB (μ 1) i)), (10, .int y), (11, .int w)] [] := by
  refine z_iload hX dL_lines_349 9 rfl ?_
  refine z_if_lt (tgt := 423) hX dL_lines_351 (by decide) (fun h351 => ?_) (fun h351 => ?_)
  · skip
    refine z_sub [0, 1, 2, 3, 4, 5, 6, 7, 8] rfl ?_
    exact kk
  · skip
    refine z_iload hX dL_lines_354 9 rfl ?_
    refine z_bipush (v := 10) hX dL_lines_356 (by decide) ?_
    refine z_icmp_ge (tgt := 423) hX dL_lines_358 (by decide) (fun h358 => ?_) (fun h358 => ?_)
    · skip
      refine z_sub [0, 1, 2, 3, 4, 5, 6, 7, 8] rfl ?_
      exact kk
    · skip
      refine z_iload hX dL_lines_361 8 rfl ?_
      refine z_if_ge (tgt := 423) hX dL_lines_363 (by decide) (fun h363 => ?_) (fun h363 => absurd h363 (fun q => q hy))
      refine z_sub [0, 1, 2, 3, 4, 5, 6, 7, 8] rfl ?_
      exact kk
theorem lt9 {x : Int32} (h : x < 10) : x ≤ 9 := by
  have e := Int32.lt_iff_toInt_lt.mp h
  refine Int32.le_iff_toInt_le.mpr ?_
  rw [show (10 : Int32).toInt = 10 from rfl] at e
  rw [show (9 : Int32).toInt = 9 from rfl]
  omega
set_option maxHeartbeats 4000000 in
set_option maxRecDepth 100000 in
theorem ln_e {p : Program} {l : Launch} {e : Env} {R : Room} {s : State} {m : MethodId} {args : Array Value} {below : List Frame} {meth : Method} {c : Code} {Q : State → Prop} {g : zG} {mc lvl : Nat} {κ : zKp} {μ ν : zMu} {ω : zOm} {k : Nat} (hX : zX p l s m args meth c R g RL cL_lines 14 (some .boolean) lvl mc) (hlv : 22 < lvl) (hl0 : l.stackTraces = false) (h : RR κ μ) {i : Nat} (hlt : i < bn (μ 1)) (h72 : ¬ bf (μ 1) i 7 = 2) {x v : Int32} (hk : k + 44 ≤ mc) (kk : zZ p l e R s m args below meth c g 14 Q κ ν ω (k + 44) 423 [(0, .ref (gA g 0 0 0)), (1, .int (μ 1 0)), (2, .int x), (3, .int v), (4, .int (nI i)), (5, .int 0), (8, .int 1), (9, .int (supB (μ 1) i)), (10, .int (enA (μ 1) i))] []) : zZ p l e R s m args below meth c g 14 Q κ ν ω (k + 4 * 0) 349 [(0, .ref (gA g 0 0 0)), (1, .int (μ 1 0)), (2, .int x), (3, .int v), (4, .int (nI i)), (5, .int 0), (8, .int 1), (9, .int (supB (μ 1) i)), (10, .int (-13)), (11, .int (posB (μ 1) i 0))] [] := by
  have hL := h.bI.1.2.2.1 i hlt
  have hl3 : 0 ≤ bf (μ 1) i 1 ∧ bf (μ 1) i 1 < 3 := by
    obtain ⟨z, hz, ez⟩ := hL.2.1
    rw [ez]; exact ⟨ge_i (by omega), lt_i (b := 3) hz (by decide)⟩
  have hE : ∀ (dz : Nat) (d : Nat), 10 - d = dz → d ≤ 10 → enS (μ 1) i (10 - d) d = enB (μ 1) i → zZ p l e R s m args below meth c g 14 Q κ ν ω (k + 4 * d) 349 [(0, .ref (gA g 0 0 0)), (1, .int (μ 1 0)), (2, .int x), (3, .int v), (4, .int (nI i)), (5, .int 0), (8, .int 1), (9, .int (supB (μ 1) i)), (10, .int (-13)), (11, .int (posB (μ 1) i d))] [] := by
    intro dz
    induction dz with
    | zero =>
      intro d hd hd2 hs
      have h10 : d = 10 := by omega
      subst h10
      have hout := pos_10 (h.bI.1.2.2.1 i hlt)
      refine z_iload hX dL_lines_349 9 rfl ?_
      refine z_if_lt (tgt := 423) hX dL_lines_351 (by decide) (fun h351 => ?_) (fun h351 => ?_)
      · skip
        refine z_sub [0, 1, 2, 3, 4, 5, 6, 7, 8] rfl ?_
        exact z_widen (k2 := k + 44) (by omega) (by have e13 : enA (μ 1) i = -13 := pos_neg h.bI.1 hlt (by omega) hs (fun q => absurd h351 (Int32.not_lt.mpr q.1)); rw [e13] at kk; exact kk)
      · skip
        refine z_iload hX dL_lines_354 9 rfl ?_
        refine z_bipush (v := 10) hX dL_lines_356 (by decide) ?_
        refine z_icmp_ge (tgt := 423) hX dL_lines_358 (by decide) (fun h358 => ?_) (fun h358 => absurd h358 (fun q => hout ⟨Int32.not_lt.mp h351, lt9 (Int32.not_le.mp q)⟩))
        refine z_sub [0, 1, 2, 3, 4, 5, 6, 7, 8] rfl ?_
        exact z_widen (k2 := k + 44) (by omega) (by have e13 : enA (μ 1) i = -13 := pos_neg h.bI.1 hlt (by omega) hs (fun q => absurd h358 (Int32.not_le.mpr (Int32.lt_of_le_of_lt q.2 (by decide)))); rw [e13] at kk; exact kk)
    | succ dz ih =>
      intro d hd hd2 hs
      refine z_iload hX dL_lines_349 9 rfl ?_
      refine z_if_lt (tgt := 423) hX dL_lines_351 (by decide) (fun h351 => ?_) (fun h351 => ?_)
      · skip
        refine z_sub [0, 1, 2, 3, 4, 5, 6, 7, 8] rfl ?_
        exact z_widen (k2 := k + 44) (by omega) (by have e13 : enA (μ 1) i = -13 := pos_neg h.bI.1 hlt (by omega) hs (fun q => absurd h351 (Int32.not_lt.mpr q.1)); rw [e13] at kk; exact kk)
      · skip
        refine z_iload hX dL_lines_354 9 rfl ?_
        refine z_bipush (v := 10) hX dL_lines_356 (by decide) ?_
        refine z_icmp_ge (tgt := 423) hX dL_lines_358 (by decide) (fun h358 => ?_) (fun h358 => ?_)
        · skip
          refine z_sub [0, 1, 2, 3, 4, 5, 6, 7, 8] rfl ?_
          exact z_widen (k2 := k + 44) (by omega) (by have e13 : enA (μ 1) i = -13 := pos_neg h.bI.1 hlt (by omega) hs (fun q => absurd h358 (Int32.not_le.mpr (Int32.lt_of_le_of_lt q.2 (by decide)))); rw [e13] at kk; exact kk)
        · have hc : inCol (posB (μ 1) i d) := ⟨Int32.not_lt.mp h351, lt9 (Int32.not_le.mp h358)⟩
          refine z_iload hX dL_lines_361 8 rfl ?_
          refine z_if_ge (tgt := 423) hX dL_lines_363 (by decide) (fun h363 => absurd h363 (by decide)) (fun h363 => ?_)
          refine z_aload_n hX dL_lines_366 0 rfl ?_
          refine z_aload_n hX dL_lines_367 0 rfl ?_
          refine z_iload hX dL_lines_368 4 rfl ?_
          refine z_callW hX (in_laneOf l hl0 h hlt h72) cc_195 dL_lines_370 ⟨by omega, by decide, by omega⟩ rfl rfl (Nat.le_of_ble_eq_true rfl) ?_
          refine z_iload hX dL_lines_373 9 rfl ?_
          rcases ho : occB (μ 1) (bf (μ 1) i 1) (posB (μ 1) i d) with _ | j
          · skip
            refine z_callW hX (go_lineIn l hl0 h ⟨hl3, gl_col.mpr hc⟩ ho) cc_174 dL_lines_375 ⟨by omega, by decide, by omega⟩ rfl rfl (Nat.le_of_ble_eq_true rfl) ?_
            refine z_istore (lv' := [(12, _), (0, _), (1, _), (2, _), (3, _), (4, _), (5, _), (8, _), (9, _), (10, _), (11, _)]) hX dL_lines_378 (by decide) rfl ?_
            refine z_iload hX dL_lines_380 0 rfl ?_
            refine z_if_lt (tgt := 405) hX dL_lines_382 (by decide) (fun h382 => ?_) (fun h382 => absurd h382 (by decide))
            refine z_bipush (v := -13) hX dL_lines_405 (by decide) ?_
            refine z_istore (lv' := [(10, _), (12, _), (0, _), (1, _), (2, _), (3, _), (4, _), (5, _), (8, _), (9, _), (11, _)]) hX dL_lines_407 (by decide) rfl ?_
            refine z_iload hX dL_lines_409 10 rfl ?_
            refine z_aload_n hX dL_lines_411 2 rfl ?_
            refine z_iload hX dL_lines_412 6 rfl ?_
            refine z_callS1 hX (lw_way l hl0 h hlt) cs_RL_234 dL_lines_414 ⟨by omega, by decide, by omega⟩ rfl rfl (Nat.le_of_ble_eq_true rfl) ?_
            refine z_iadd hX dL_lines_417 ?_
            refine z_isv (pos_nx (by omega)) ?_
            refine z_istore (lv' := [(11, _), (10, _), (12, _), (0, _), (1, _), (2, _), (3, _), (4, _), (5, _), (8, _), (9, _)]) hX dL_lines_418 (by decide) rfl ?_
            refine z_goto (tgt := 349) hX dL_lines_420 (by decide) ?_
            refine z_sub [3, 4, 5, 6, 7, 8, 9, 10, 1, 0] rfl ?_
            exact (z_widen (k2 := k + 4 * (d + 1)) (by omega) (ih (d + 1) (by omega) (by omega) (by rw [show 10 - (d + 1) = dz by omega]; rw [show 10 - d = dz + 1 by omega, enS_n ho] at hs; exact hs)))
          · obtain ⟨j1, -, j7, -⟩ := occ_some h.n.1 ho
            have hj12 := h.n.1
            refine z_callW hX (in_lineIn l hl0 h ⟨hl3, gl_col.mpr hc⟩ ho) cc_174 dL_lines_375 ⟨by omega, by decide, by omega⟩ rfl rfl (Nat.le_of_ble_eq_true rfl) ?_
            refine z_istore (lv' := [(12, _), (0, _), (1, _), (2, _), (3, _), (4, _), (5, _), (8, _), (9, _), (10, _), (11, _)]) hX dL_lines_378 (by decide) rfl ?_
            refine z_iload hX dL_lines_380 0 rfl ?_
            refine z_if_lt (tgt := 405) hX dL_lines_382 (by decide) (fun h382 => absurd h382 (nI_pos (by omega))) (fun h382 => ?_)
            refine z_aload_n hX dL_lines_385 1 rfl ?_
            refine z_iload hX dL_lines_386 0 rfl ?_
            refine z_callW hX (in_sideOf l hl0 h j1) cc_232 dL_lines_388 ⟨by omega, by decide, by omega⟩ rfl rfl (Nat.le_of_ble_eq_true rfl) ?_
            refine z_aload_n hX dL_lines_391 1 rfl ?_
            refine z_iload hX dL_lines_392 5 rfl ?_
            refine z_callW hX (in_sideOf l hl0 h hlt) cc_232 dL_lines_394 ⟨by omega, by decide, by omega⟩ rfl rfl (Nat.le_of_ble_eq_true rfl) ?_
            refine z_icmp_eq (tgt := 405) hX dL_lines_397 (by decide) (fun h397 => ?_) (fun h397 => ?_)
            · skip
              refine z_bipush (v := -13) hX dL_lines_405 (by decide) ?_
              refine z_istore (lv' := [(10, _), (12, _), (0, _), (1, _), (2, _), (3, _), (4, _), (5, _), (8, _), (9, _), (11, _)]) hX dL_lines_407 (by decide) rfl ?_
              refine z_iload hX dL_lines_409 10 rfl ?_
              refine z_aload_n hX dL_lines_411 2 rfl ?_
              refine z_iload hX dL_lines_412 6 rfl ?_
              refine z_callS1 hX (lw_way l hl0 h hlt) cs_RL_234 dL_lines_414 ⟨by omega, by decide, by omega⟩ rfl rfl (Nat.le_of_ble_eq_true rfl) ?_
              refine z_iadd hX dL_lines_417 ?_
              refine z_isv (pos_nx (by omega)) ?_
              refine z_istore (lv' := [(11, _), (10, _), (12, _), (0, _), (1, _), (2, _), (3, _), (4, _), (5, _), (8, _), (9, _)]) hX dL_lines_418 (by decide) rfl ?_
              refine z_goto (tgt := 349) hX dL_lines_420 (by decide) ?_
              refine z_sub [3, 4, 5, 6, 7, 8, 9, 10, 1, 0] rfl ?_
              exact (z_widen (k2 := k + 4 * (d + 1)) (by omega) (ih (d + 1) (by omega) (by omega) (by rw [show 10 - (d + 1) = dz by omega]; rw [show 10 - d = dz + 1 by omega, enS_f ho h397] at hs; exact hs)))
            · skip
              refine z_iload hX dL_lines_400 0 rfl ?_
              refine z_goto (tgt := 407) hX dL_lines_402 (by decide) ?_
              refine z_istore (lv' := [(10, _), (12, _), (0, _), (1, _), (2, _), (3, _), (4, _), (5, _), (8, _), (9, _), (11, _)]) hX dL_lines_407 (by decide) rfl ?_
              refine z_iload hX dL_lines_409 10 rfl ?_
              refine z_aload_n hX dL_lines_411 2 rfl ?_
              refine z_iload hX dL_lines_412 6 rfl ?_
              refine z_callS1 hX (lw_way l hl0 h hlt) cs_RL_234 dL_lines_414 ⟨by omega, by decide, by omega⟩ rfl rfl (Nat.le_of_ble_eq_true rfl) ?_
              refine z_iadd hX dL_lines_417 ?_
              refine z_isv (pos_nx (by omega)) ?_
              refine z_istore (lv' := [(11, _), (10, _), (12, _), (0, _), (1, _), (2, _), (3, _), (4, _), (5, _), (8, _), (9, _)]) hX dL_lines_418 (by decide) rfl ?_
              refine z_goto (tgt := 349) hX dL_lines_420 (by decide) ?_
              rw [show 10 - d = dz + 1 by omega, enS_e ho h397] at hs
              have hen : enA (μ 1) i = nI j := by rw [enA, if_neg (by rw [← hs]; exact nI_ne_m1 (by omega)), ← hs]
              rw [hen] at kk
              refine z_sub [3, 4, 5, 6, 7, 8, 9, 10, 1, 0] rfl ?_
              exact (ln_x hX hlv (ge_i (by omega)) (z_widen (k2 := k + 44) (by omega) kk))
  refine z_sub [0, 1, 2, 3, 4, 5, 6, 7, 8, 9] rfl ?_
  exact (hE 10 0 (by omega) (by omega) (enS_0 h.bI.1 hlt h72))
set_option maxHeartbeats 4000000 in
set_option maxRecDepth 100000 in
theorem ln_r4 {p : Program} {l : Launch} {e : Env} {R : Room} {s : State} {m : MethodId} {args : Array Value} {below : List Frame} {meth : Method} {c : Code} {Q : State → Prop} {g : zG} {mc lvl : Nat} {κ : zKp} {μ ν : zMu} {ω : zOm} {k : Nat} (hX : zX p l s m args meth c R g RL cL_lines 14 (some .boolean) lvl mc) (hlv : 22 < lvl) (hl0 : l.stackTraces = false) (h : RR κ μ) {i : Nat} (hlt : i < bn (μ 1)) {x v : Int32} (hk : k + 4 ≤ mc) (kk : zZ p l e R s m args below meth c g 14 Q κ ν ω (k + 4) 91 [(0, .ref (gA g 0 0 0)), (1, .int (μ 1 0)), (2, .int x), (3, .int v), (4, .int (nI (i + 1)))] []) : zZ p l e R s m args below meth c g 14 Q κ ν ω k 495 [(0, .ref (gA g 0 0 0)), (1, .int (μ 1 0)), (2, .int x), (3, .int v), (4, .int (nI i))] [] := by
  have h12 := h.n.1
  obtain ⟨v2, hv, ev, nv⟩ := rk_yes h.bI hlt
  refine z_aload_n hX dL_lines_495 0 rfl ?_
  refine z_iload hX dL_lines_496 4 rfl ?_
  refine z_callW hX (in_byStrength l hl0 h hv ev nv) cc_249 dL_lines_498 ⟨by omega, by decide, by omega⟩ rfl rfl (Nat.le_of_ble_eq_true rfl) ?_
  refine z_istore (lv' := [(11, _), (0, _), (1, _), (2, _), (3, _), (4, _)]) hX dL_lines_501 (by decide) rfl ?_
  refine z_iload hX dL_lines_503 5 rfl ?_
  refine z_if_ne (tgt := 512) hX dL_lines_505 (by decide) (fun h505 => ?_) (fun h505 => ?_)
  · have hi0 : ¬ i = 0 := fun q => h505 (by rw [q]; rfl)
    obtain ⟨u, hu, eu, nu⟩ := rk_yes h.bI (r := i - 1) (by omega)
    obtain ⟨d, hd, ed, hd0⟩ := rk_ord h.bI (r := i - 1) (by omega) hu hv eu (by rw [show i - 1 + 1 = i by omega]; exact ev)
    refine z_aload_n hX dL_lines_512 1 rfl ?_
    refine z_iload hX dL_lines_513 5 rfl ?_
    refine z_iconst (v := 1) hX dL_lines_515 (by decide) ?_
    refine z_isub hX dL_lines_516 ?_
    refine z_isv (show nI i - nI 1 = nI (i - 1) from pk_sub (by omega)) ?_
    refine z_callW hX (in_byStrength l hl0 h hu eu nu) cc_249 dL_lines_517 ⟨by omega, by decide, by omega⟩ rfl rfl (Nat.le_of_ble_eq_true rfl) ?_
    refine z_istore (lv' := [(12, _), (11, _), (0, _), (1, _), (2, _), (3, _), (4, _)]) hX dL_lines_520 (by decide) rfl ?_
    refine z_iload hX dL_lines_522 6 rfl ?_
    refine z_if_ne (tgt := 531) hX dL_lines_524 (by decide) (fun h524 => ?_) (fun h524 => absurd h524 h505)
    refine z_aload_n hX dL_lines_531 2 rfl ?_
    refine z_iload hX dL_lines_532 0 rfl ?_
    refine z_callW hX (in_strength l hl0 h hu) cc_205 dL_lines_534 ⟨by omega, by decide, by omega⟩ rfl rfl (Nat.le_of_ble_eq_true rfl) ?_
    refine z_aload_n hX dL_lines_537 2 rfl ?_
    refine z_iload hX dL_lines_538 1 rfl ?_
    refine z_callW hX (in_strength l hl0 h hv) cc_205 dL_lines_540 ⟨by omega, by decide, by omega⟩ rfl rfl (Nat.le_of_ble_eq_true rfl) ?_
    refine z_isub hX dL_lines_543 ?_
    refine z_isv ed ?_
    refine z_istore (lv' := [(13, _), (12, _), (11, _), (0, _), (1, _), (2, _), (3, _), (4, _)]) hX dL_lines_544 (by decide) rfl ?_
    refine z_iload hX dL_lines_546 2 rfl ?_
    refine z_if_lt (tgt := 568) hX dL_lines_548 (by decide) (fun h548 => absurd h548 (nI_pos (by omega))) (fun h548 => ?_)
    refine z_iload hX dL_lines_551 0 rfl ?_
    refine z_if_lt (tgt := 568) hX dL_lines_553 (by decide) (fun h553 => absurd h553 (nI_pos (by omega))) (fun h553 => ?_)
    refine z_iload hX dL_lines_556 0 rfl ?_
    refine z_if_ne (tgt := 570) hX dL_lines_558 (by decide) (fun h558 => ?_) (fun h558 => ?_)
    · skip
      refine z_iinc (v := nI (i + 1)) (lv' := [(4, _), (13, _), (12, _), (11, _), (0, _), (1, _), (2, _), (3, _)]) hX dL_lines_570 7 rfl (nI_1 i) (by decide) rfl ?_
      refine z_goto (tgt := 91) hX dL_lines_573 (by decide) ?_
      refine z_sub [4, 5, 6, 7, 0] rfl ?_
      exact z_widen (by omega) kk
    · skip
      refine z_iload hX dL_lines_561 1 rfl ?_
      refine z_iload hX dL_lines_563 2 rfl ?_
      refine z_icmp_le (tgt := 570) hX dL_lines_565 (by decide) (fun h565 => ?_) (fun h565 => absurd h565 (fun q => q (le_i (Nat.le_of_lt (hd0 (nI_inj2 (by omega) (by omega) h558))) (by omega))))
      refine z_iinc (v := nI (i + 1)) (lv' := [(4, _), (13, _), (12, _), (11, _), (0, _), (1, _), (2, _), (3, _)]) hX dL_lines_570 7 rfl (nI_1 i) (by decide) rfl ?_
      refine z_goto (tgt := 91) hX dL_lines_573 (by decide) ?_
      refine z_sub [4, 5, 6, 7, 0] rfl ?_
      exact z_widen (by omega) kk
  · have hi0 : i = 0 := nI_inj2 (by omega) (by omega) h505
    refine z_iconst (v := -1) hX dL_lines_508 (by decide) ?_
    refine z_goto (tgt := 520) hX dL_lines_509 (by decide) ?_
    refine z_istore (lv' := [(12, _), (11, _), (0, _), (1, _), (2, _), (3, _), (4, _)]) hX dL_lines_520 (by decide) rfl ?_
    refine z_iload hX dL_lines_522 6 rfl ?_
    refine z_if_ne (tgt := 531) hX dL_lines_524 (by decide) (fun h524 => absurd h524 (fun q => q h505)) (fun h524 => ?_)
    refine z_iconst (v := 1) hX dL_lines_527 (by decide) ?_
    refine z_goto (tgt := 544) hX dL_lines_528 (by decide) ?_
    refine z_istore (lv' := [(13, _), (12, _), (11, _), (0, _), (1, _), (2, _), (3, _), (4, _)]) hX dL_lines_544 (by decide) rfl ?_
    refine z_iload hX dL_lines_546 2 rfl ?_
    refine z_if_lt (tgt := 568) hX dL_lines_548 (by decide) (fun h548 => absurd h548 (nI_pos (by omega))) (fun h548 => ?_)
    refine z_iload hX dL_lines_551 0 rfl ?_
    refine z_if_lt (tgt := 568) hX dL_lines_553 (by decide) (fun h553 => absurd h553 (by decide)) (fun h553 => ?_)
    refine z_iload hX dL_lines_556 0 rfl ?_
    refine z_if_ne (tgt := 570) hX dL_lines_558 (by decide) (fun h558 => ?_) (fun h558 => absurd h558 (by decide))
    refine z_iinc (v := nI (i + 1)) (lv' := [(4, _), (13, _), (12, _), (11, _), (0, _), (1, _), (2, _), (3, _)]) hX dL_lines_570 7 rfl (nI_1 i) (by decide) rfl ?_
    refine z_goto (tgt := 91) hX dL_lines_573 (by decide) ?_
    refine z_sub [4, 5, 6, 7, 0] rfl ?_
    exact z_widen (by omega) kk
set_option maxHeartbeats 4000000 in
set_option maxRecDepth 100000 in
theorem ln_cell {p : Program} {l : Launch} {e : Env} {R : Room} {s : State} {m : MethodId} {args : Array Value} {below : List Frame} {meth : Method} {c : Code} {Q : State → Prop} {g : zG} {mc lvl : Nat} {κ : zKp} {μ ν : zMu} {ω : zOm} {k : Nat} (hX : zX p l s m args meth c R g RL cL_lines 14 (some .boolean) lvl mc) (hlv : 22 < lvl) (hl0 : l.stackTraces = false) (h : RR κ μ) {a : Nat} (ha : a < 3) {x : Int32} (hx : x = sm (cnF (μ 1)) (10 * a)) (hk : k + 30 * (a + 1) ≤ mc) (kk : ∀ y : Int32, y = sm (cnF (μ 1)) (10 * (a + 1)) → zZ p l e R s m args below meth c g 14 Q κ ν ω (k + 30 * (a + 1)) 9 [(0, .ref (gA g 0 0 0)), (1, .int (μ 1 0)), (2, .int y), (3, .int (nI (a + 1)))] []) : zZ p l e R s m args below meth c g 14 Q κ ν ω (k + 30 * a) 14 [(0, .ref (gA g 0 0 0)), (1, .int (μ 1 0)), (2, .int x), (3, .int (nI a))] [] := by
  have hl3 : 0 ≤ nI a ∧ nI a < 3 := ⟨ge_i (by omega), lt_i (b := 3) ha (by decide)⟩
  refine z_iconst (v := 0) hX dL_lines_14 (by decide) ?_
  refine z_istore (lv' := [(4, _), (0, _), (1, _), (2, _), (3, _)]) hX dL_lines_15 (by decide) rfl ?_
  have hC : ∀ (dz : Nat) (y : Nat) (x : Int32), 10 - y = dz → y ≤ 10 → x = sm (cnF (μ 1)) (10 * a + y) → zZ p l e R s m args below meth c g 14 Q κ ν ω (k + 30 * a + 3 * y) 17 [(0, .ref (gA g 0 0 0)), (1, .int (μ 1 0)), (2, .int x), (3, .int (nI a)), (4, .int (nI y))] [] := by
    intro dz
    induction dz with
    | zero =>
      intro y x hd hy hx
      have h10 : y = 10 := by omega
      subst h10
      refine z_iload hX dL_lines_17 4 rfl ?_
      refine z_bipush (v := 10) hX dL_lines_19 (by decide) ?_
      refine z_icmp_ge (tgt := 80) hX dL_lines_21 (by decide) (fun h21 => ?_) (fun h21 => absurd h21 (fun q => q (Int32.le_refl _)))
      refine z_iinc (v := nI (a + 1)) (lv' := [(3, _), (0, _), (1, _), (2, _), (4, _)]) hX dL_lines_80 3 rfl (nI_1 a) (by decide) rfl ?_
      refine z_goto (tgt := 9) hX dL_lines_83 (by decide) ?_
      refine z_sub [1, 2, 3, 0] rfl ?_
      exact z_widen (k2 := k + 30 * (a + 1)) (by omega) (kk _ (by rw [hx]; rfl))
    | succ dz ih =>
      intro y x hd hy hx
      have hy9 : 0 ≤ nI y ∧ nI y < 10 := ⟨ge_i (by omega), lt_i (b := 10) (by omega) (by decide)⟩
      refine z_iload hX dL_lines_17 4 rfl ?_
      refine z_bipush (v := 10) hX dL_lines_19 (by decide) ?_
      refine z_icmp_ge (tgt := 80) hX dL_lines_21 (by decide) (fun h21 => absurd h21 (nle_i (a := y) (b := 10) (by omega) (by decide))) (fun h21 => ?_)
      refine z_aload_n hX dL_lines_24 0 rfl ?_
      refine z_iload_n hX dL_lines_25 3 rfl ?_
      refine z_iload hX dL_lines_26 4 rfl ?_
      rcases ho : occB (μ 1) (nI a) (nI y) with _ | j
      · skip
        refine z_callW hX (go_lineIn l hl0 h ⟨hl3, hy9⟩ ho) cc_174 dL_lines_28 ⟨by omega, by decide, by omega⟩ rfl rfl (Nat.le_of_ble_eq_true rfl) ?_
        refine z_istore (lv' := [(5, _), (0, _), (1, _), (2, _), (3, _), (4, _)]) hX dL_lines_31 (by decide) rfl ?_
        refine z_iload_n hX dL_lines_33 3 rfl ?_
        refine z_iload hX dL_lines_34 0 rfl ?_
        refine z_if_lt (tgt := 43) hX dL_lines_36 (by decide) (fun h36 => ?_) (fun h36 => absurd h36 (by decide))
        refine z_iconst (v := 0) hX dL_lines_43 (by decide) ?_
        refine z_iadd hX dL_lines_44 ?_
        refine z_istore_n (lv' := [(2, _), (5, _), (0, _), (1, _), (3, _), (4, _)]) hX dL_lines_45 (by decide) rfl ?_
        refine z_iload hX dL_lines_46 1 rfl ?_
        refine z_if_lt (tgt := 74) hX dL_lines_48 (by decide) (fun h48 => ?_) (fun h48 => absurd h48 (by decide))
        refine z_iinc (v := nI (y + 1)) (lv' := [(4, _), (2, _), (5, _), (0, _), (1, _), (3, _)]) hX dL_lines_74 5 rfl (nI_1 y) (by decide) rfl ?_
        refine z_goto (tgt := 17) hX dL_lines_77 (by decide) ?_
        refine z_sub [3, 4, 1, 5, 0] rfl ?_
        exact (z_widen (k2 := k + 30 * a + 3 * (y + 1)) (by omega) (ih (y + 1) _ (by omega) (by omega) (by rw [hx]; show _ = sm (cnF (μ 1)) (10 * a + y) + cnF (μ 1) (10 * a + y); rw [cn_none (by omega) ho])))
      · obtain ⟨j1, -, j7, j3, j4, -⟩ := occ_some h.n.1 ho
        have hj12 := h.n.1
        refine z_callW hX (in_lineIn l hl0 h ⟨hl3, hy9⟩ ho) cc_174 dL_lines_28 ⟨by omega, by decide, by omega⟩ rfl rfl (Nat.le_of_ble_eq_true rfl) ?_
        refine z_istore (lv' := [(5, _), (0, _), (1, _), (2, _), (3, _), (4, _)]) hX dL_lines_31 (by decide) rfl ?_
        refine z_iload_n hX dL_lines_33 3 rfl ?_
        refine z_iload hX dL_lines_34 0 rfl ?_
        refine z_if_lt (tgt := 43) hX dL_lines_36 (by decide) (fun h36 => absurd h36 (nI_pos (by omega))) (fun h36 => ?_)
        refine z_iconst (v := 1) hX dL_lines_39 (by decide) ?_
        refine z_goto (tgt := 44) hX dL_lines_40 (by decide) ?_
        refine z_iadd hX dL_lines_44 ?_
        refine z_istore_n (lv' := [(2, _), (5, _), (0, _), (1, _), (3, _), (4, _)]) hX dL_lines_45 (by decide) rfl ?_
        refine z_iload hX dL_lines_46 1 rfl ?_
        refine z_if_lt (tgt := 74) hX dL_lines_48 (by decide) (fun h48 => absurd h48 (nI_pos (by omega))) (fun h48 => ?_)
        refine z_aload_n hX dL_lines_51 2 rfl ?_
        refine z_iload hX dL_lines_52 1 rfl ?_
        refine z_callW hX (in_laneOf l hl0 h j1 j7) cc_195 dL_lines_54 ⟨by omega, by decide, by omega⟩ rfl rfl (Nat.le_of_ble_eq_true rfl) ?_
        refine z_iload_n hX dL_lines_57 4 rfl ?_
        refine z_icmp_ne (tgt := 72) hX dL_lines_58 (by decide) (fun h58 => absurd h58 (fun q => q j3)) (fun h58 => ?_)
        refine z_aload_n hX dL_lines_61 2 rfl ?_
        refine z_iload hX dL_lines_62 1 rfl ?_
        refine z_callW hX (in_columnOf l hl0 h j1 j7) cc_197 dL_lines_64 ⟨by omega, by decide, by omega⟩ rfl rfl (Nat.le_of_ble_eq_true rfl) ?_
        refine z_iload hX dL_lines_67 5 rfl ?_
        refine z_icmp_eq (tgt := 74) hX dL_lines_69 (by decide) (fun h69 => ?_) (fun h69 => absurd h69 (fun q => q j4))
        refine z_iinc (v := nI (y + 1)) (lv' := [(4, _), (2, _), (5, _), (0, _), (1, _), (3, _)]) hX dL_lines_74 5 rfl (nI_1 y) (by decide) rfl ?_
        refine z_goto (tgt := 17) hX dL_lines_77 (by decide) ?_
        refine z_sub [3, 4, 1, 5, 0] rfl ?_
        exact (z_widen (k2 := k + 30 * a + 3 * (y + 1)) (by omega) (ih (y + 1) _ (by omega) (by omega) (by rw [hx]; show _ = sm (cnF (μ 1)) (10 * a + y) + cnF (μ 1) (10 * a + y); rw [cn_some (by omega) ho])))
  refine z_sub [1, 2, 3, 4, 0] rfl ?_
  exact (hC 10 0 x (by omega) (by omega) hx)
set_option maxHeartbeats 4000000 in
set_option maxRecDepth 100000 in
theorem ln_in3 {p : Program} {l : Launch} {e : Env} {R : Room} {s : State} {m : MethodId} {args : Array Value} {below : List Frame} {meth : Method} {c : Code} {Q : State → Prop} {g : zG} {mc lvl : Nat} {κ : zKp} {μ ν : zMu} {ω : zOm} {k : Nat} (hX : zX p l s m args meth c R g RL cL_lines 14 (some .boolean) lvl mc) (hlv : 22 < lvl) {a : Nat} (ha : a < 3) {x : Int32} (kk : zZ p l e R s m args below meth c g 14 Q κ ν ω k 14 [(0, .ref (gA g 0 0 0)), (1, .int (μ 1 0)), (2, .int x), (3, .int (nI a))] []) : zZ p l e R s m args below meth c g 14 Q κ ν ω k 9 [(0, .ref (gA g 0 0 0)), (1, .int (μ 1 0)), (2, .int x), (3, .int (nI a))] [] := by
  refine z_iload_n hX dL_lines_9 3 rfl ?_
  refine z_iconst (v := 3) hX dL_lines_10 (by decide) ?_
  refine z_icmp_ge (tgt := 86) hX dL_lines_11 (by decide) (fun h11 => absurd h11 (nle_i (a := a) (b := 3) ha (by decide))) (fun h11 => ?_)
  refine z_sub [0, 1, 2, 3] rfl ?_
  exact kk
set_option maxHeartbeats 4000000 in
set_option maxRecDepth 100000 in
theorem ln_cells {p : Program} {l : Launch} {e : Env} {R : Room} {s : State} {m : MethodId} {args : Array Value} {below : List Frame} {meth : Method} {c : Code} {Q : State → Prop} {g : zG} {mc lvl : Nat} {κ : zKp} {μ ν : zMu} {ω : zOm} {k : Nat} (hX : zX p l s m args meth c R g RL cL_lines 14 (some .boolean) lvl mc) (hlv : 22 < lvl) (hl0 : l.stackTraces = false) (h : RR κ μ)  (hk : k + 90 ≤ mc) (kk : zZ p l e R s m args below meth c g 14 Q κ ν ω (k + 90) 86 [(0, .ref (gA g 0 0 0)), (1, .int (μ 1 0)), (2, .int (aliB (μ 1)))] []) : zZ p l e R s m args below meth c g 14 Q κ ν ω (k + 30 * 0) 9 [(0, .ref (gA g 0 0 0)), (1, .int (μ 1 0)), (2, .int 0), (3, .int (nI 0))] [] := by
  refine ln_in3 hX hlv (by decide) ?_
  refine ln_cell hX hlv hl0 h (a := 0) (by decide) rfl (by omega) (fun x1 e1 => ?_)
  refine ln_in3 hX hlv (by decide) ?_
  refine ln_cell hX hlv hl0 h (a := 1) (by decide) e1 (by omega) (fun x2 e2 => ?_)
  refine ln_in3 hX hlv (by decide) ?_
  refine ln_cell hX hlv hl0 h (a := 2) (by decide) e2 (by omega) (fun x3 e3 => ?_)
  refine z_iload_n hX dL_lines_9 3 rfl ?_
  refine z_iconst (v := 3) hX dL_lines_10 (by decide) ?_
  refine z_icmp_ge (tgt := 86) hX dL_lines_11 (by decide) (fun _ => ?_) (fun q => absurd (by decide) q)
  refine z_sub [0, 1, 2] rfl ?_
  have e4 : x3 = aliB (μ 1) := e3.trans (cn_cells h.bI)
  rw [e4]
  exact z_widen (k2 := k + 90) (by omega) kk
/-- one line more -/
theorem ln_line {p : Program} {l : Launch} {e : Env} {R : Room} {s : State} {m : MethodId} {args : Array Value} {below : List Frame} {meth : Method} {c : Code} {Q : State → Prop} {g : zG} {mc lvl : Nat} {κ : zKp} {μ ν : zMu} {ω : zOm} {k : Nat} (hX : zX p l s m args meth c R g RL cL_lines 14 (some .boolean) lvl mc) (hlv : 22 < lvl) (hl0 : l.stackTraces = false) (h : RR κ μ)  (hr : rouW (μ 1)) {i : Nat} (hlt : i < bn (μ 1)) {x v : Int32} (hk : k + 80 ≤ mc) (kk : zZ p l e R s m args below meth c g 14 Q κ ν ω (k + 80) 91 [(0, .ref (gA g 0 0 0)), (1, .int (μ 1 0)), (2, .int x), (3, .int (v + aliF (μ 1) i)), (4, .int (nI (i + 1)))] []) : zZ p l e R s m args below meth c g 14 Q κ ν ω k 97 [(0, .ref (gA g 0 0 0)), (1, .int (μ 1 0)), (2, .int x), (3, .int v), (4, .int (nI i))] [] := by
  have h8 := (h.bI.1.2.2.1 i hlt).2.2.2.2.2.2.2
  unfold aliF at kk
  have tail : ∀ v2 : Int32, v2 = v + (if bf (μ 1) i 7 = 2 then 0 else 1) → zZ p l e R s m args below meth c g 14 Q κ ν ω (k + 75) 495 [(0, .ref (gA g 0 0 0)), (1, .int (μ 1 0)), (2, .int x), (3, .int v2), (4, .int (nI i))] [] := fun v2 e2 => by
    subst e2
    exact ln_r4 hX hlv hl0 h hlt (by omega) (z_widen (k2 := k + 80) (by omega) kk)
  have oth : ¬ bf (μ 1) i 7 = 2 → (zZ p l e R s m args below meth c g 14 Q κ ν ω (k + 62) 423 [(0, .ref (gA g 0 0 0)), (1, .int (μ 1 0)), (2, .int x), (3, .int (v + 1)), (4, .int (nI i)), (5, .int 0), (8, .int 1), (9, .int (supB (μ 1) i)), (10, .int (enA (μ 1) i))] []) → zZ p l e R s m args below meth c g 14 Q κ ν ω (k + 15) 310 [(0, .ref (gA g 0 0 0)), (1, .int (μ 1 0)), (2, .int x), (3, .int (v + 1)), (4, .int (nI i)), (5, .int 0), (8, .int 1)] [] := fun h72 k3 => by
    refine ln_o2 hX hlv hl0 h hlt h72 (by omega) ?_
    have e0 : bf (μ 1) i 2 = posB (μ 1) i 0 := pos_0.symm
    rw [e0]
    exact ln_e hX hlv hl0 h hlt h72 (k := k + 18) (by omega) k3
  rcases h8 with q | q | q
  · have h72 : ¬ bf (μ 1) i 7 = 2 := by rw [q]; decide
    refine ln_s1 hX hlv hl0 h hlt q (by omega) (oth h72 ?_)
    exact ln_s3 hX hlv hl0 h hlt q (by omega) (z_widen (k2 := k + 75) (by omega) (tail _ (by rw [if_neg h72])))
  · have h72 : ¬ bf (μ 1) i 7 = 2 := by rw [q]; decide
    refine ln_r1 hX hlv hl0 h hlt q (hr i hlt q) (by omega) (oth h72 ?_)
    exact ln_r3 hX hlv hl0 h hlt q (hr i hlt q) (by omega) (z_widen (k2 := k + 75) (by omega) (tail _ (by rw [if_neg h72])))
  · refine ln_f1 hX hlv hl0 h hlt q (by omega) (ln_f2 hX hlv hl0 h (ln_f3 hX hlv hl0 h hlt q (by omega) (z_widen (k2 := k + 75) (by omega) (tail _ (by rw [if_pos q])))))
set_option maxHeartbeats 4000000 in
set_option maxRecDepth 100000 in
theorem lw_lines (l : Launch) (hl0 : l.stackTraces = false) {g : zG} {κ : zKp} {μ ν : zMu} {ω : zOm} (h : RR κ μ) (hr : rouW (μ 1)) : zM l g yL_lines cL_lines 14 (some .boolean) 23 1100 [.ref (gA g 0 0 0)] κ ν ω κ ν ω (some (.int 1)) := by
  have h12 := h.n.1
  refine zM_of (by decide) (Nat.le_of_ble_eq_true rfl) (fun p e R s m args below meth c hX => ?_)
  show zZ p l e R s m args below meth c g 14 _ _ _ _ 0 0 [(0, .ref (gA g 0 0 0))] []
  refine z_aload_n hX dL_lines_0 0 rfl ?_
  refine z_callV1 hX (dm_lineCount l h) cv_RL_160 zRc0 dL_lines_1 ⟨by decide, by decide, by decide⟩ rfl rfl (Nat.le_of_ble_eq_true rfl) ?_
  refine z_istore_n (lv' := [(1, _), (0, _)]) hX dL_lines_4 (by decide) rfl ?_
  refine z_iconst (v := 0) hX dL_lines_5 (by decide) ?_
  refine z_istore_n (lv' := [(2, _), (1, _), (0, _)]) hX dL_lines_6 (by decide) rfl ?_
  refine z_iconst (v := 0) hX dL_lines_7 (by decide) ?_
  refine z_istore_n (lv' := [(3, _), (2, _), (1, _), (0, _)]) hX dL_lines_8 (by decide) rfl ?_
  refine z_sub [3, 2, 1, 0] rfl ?_
  refine ln_cells hX (by decide) hl0 h (k := 0) (by decide) ?_
  refine z_iconst (v := 0) hX dL_lines_86 (by decide) ?_
  refine z_istore_n (lv' := [(3, _), (0, _), (1, _), (2, _)]) hX dL_lines_87 (by decide) rfl ?_
  refine z_iconst (v := 0) hX dL_lines_88 (by decide) ?_
  refine z_istore (lv' := [(4, _), (3, _), (0, _), (1, _), (2, _)]) hX dL_lines_89 (by decide) rfl ?_
  have hL : ∀ (dz i : Nat) (v : Int32), bn (μ 1) - i = dz → i ≤ bn (μ 1) → v = sm (aliF (μ 1)) i → zZ p l e R s m args below meth c g 14 (zQ g κ ν ω (some (.int 1)) below args s 1100) κ ν ω (90 + 80 * i) 91 [(0, .ref (gA g 0 0 0)), (1, .int (μ 1 0)), (2, .int (aliB (μ 1))), (3, .int v), (4, .int (nI i))] [] := by
    intro dz
    induction dz with
    | zero =>
      intro i v hd hi hv
      have hin : i = bn (μ 1) := by omega
      refine z_iload hX dL_lines_91 4 rfl ?_
      refine z_iload_n hX dL_lines_93 1 rfl ?_
      refine z_icmp_ge (tgt := 576) hX dL_lines_94 (by decide) (fun _ => ?_) (fun q => absurd (by rw [hin, h.n.2]; exact Int32.le_refl _) q)
      refine z_sub [0, 1, 2, 3] rfl ?_
      have e2 : v = aliB (μ 1) := by rw [hv, hin]; rfl
      rw [e2]
      exact ln_tail (Q := fun _ => True) hX (by decide) hl0 h (by omega)
    | succ dz ih =>
      intro i v hd hi hv
      have hin : i < bn (μ 1) := by omega
      refine z_iload hX dL_lines_91 4 rfl ?_
      refine z_iload_n hX dL_lines_93 1 rfl ?_
      refine z_icmp_ge (tgt := 576) hX dL_lines_94 (by decide) (fun q => absurd q (by rw [h.n.2]; exact nle_i hin (by omega))) (fun _ => ?_)
      refine ln_line hX (by decide) hl0 h hr hin (by omega) ?_
      exact ih (i + 1) _ (by omega) (by omega) (by rw [hv]; rfl)
  refine z_sub [2, 3, 4, 1, 0] rfl ?_
  exact hL (bn (μ 1)) 0 0 (by omega) (by omega) rfl
end ZLN
