section ZCM
abbrev zC7 : Type := Bool × Nat × Int32 × Int32 × Int32 × Int32 × Int32
/-- the text's numbers behind the reading of a command: whether it is one, where the reading stops, initial, first, second, sign, number -/
def cmL4 (b : Bool × Nat × Int32) (xf xs xc : Int32) : zC7 := (b.1, b.2.1, 108, xf, xs, xc, b.2.2)
def cmL3 (y : Nat → Int32) (n0 : Nat) (b : Bool × Nat × Int32) (xf xs xv : Int32) : zC7 := if b.1 = true then cmL4 (nmB y n0 b.2.1) xf xs b.2.2 else (false, b.2.1, 108, xf, xs, b.2.2, xv)
def cmL2 (y : Nat → Int32) (n0 : Nat) (b : Bool × Nat × Int32 × Int32) (xc xv : Int32) : zC7 := if b.1 = true then cmL3 y n0 (sgB kinO y n0 b.2.1 xc) b.2.2.1 b.2.2.2 xv else (false, b.2.1, 108, b.2.2.1, b.2.2.2, xc, xv)
def cmL1 (y : Nat → Int32) (n0 : Nat) (b : Bool × Nat) (xf xs xc xv : Int32) : zC7 := if b.1 = true then cmL2 y n0 (plB y n0 b.2 xs) xc xv else (false, b.2, 108, xf, xs, xc, xv)
def cmO3 (b : Bool × Nat × Int32) (xf xs xv : Int32) : zC7 := (b.1, b.2.1, 111, xf, xs, b.2.2, xv)
def cmO2 (y : Nat → Int32) (n0 : Nat) (b : Bool × Nat × Int32) (xf xs xc : Int32) : zC7 := if b.1 = true then cmO3 (sgB ordO y n0 b.2.1 xc) xf xs b.2.2 else (false, b.2.1, 111, xf, xs, xc, b.2.2)
def cmO1 (y : Nat → Int32) (n0 : Nat) (b : Bool × Nat) (xf xs xc xv : Int32) : zC7 := if b.1 = true then cmO2 y n0 (nmB y n0 b.2) xf xs xc else (false, b.2, 111, xf, xs, xc, xv)
def cmR2 (b : Bool × Nat × Int32) (xf xs xc : Int32) : zC7 := (b.1, b.2.1, 114, xf, xs, xc, b.2.2)
def cmR1 (y : Nat → Int32) (n0 : Nat) (b : Bool × Nat) (xf xs xc xv : Int32) : zC7 := if b.1 = true then cmR2 (nmB y n0 b.2) xf xs xc else (false, b.2, 114, xf, xs, xc, xv)
def cmT1 (b : Bool × Nat) (xi xf xs xc xv : Int32) : zC7 := (b.1, b.2, xi, xf, xs, xc, xv)
def comB (y : Nat → Int32) (n0 p0 : Nat) (xf xs xc xv : Int32) : zC7 :=
  if pkB y n0 p0 = 108 then cmL1 y n0 (wdB y n0 (sB 26) p0) xf xs xc xv else if pkB y n0 p0 = 111 then cmO1 y n0 (wdB y n0 (sB 28) p0) xf xs xc xv else if pkB y n0 p0 = 114 then cmR1 y n0 (wdB y n0 (sB 30) p0) xf xs xc xv else cmT1 (wdB y n0 (sB 31) p0) (pkB y n0 p0) xf xs xc xv
set_option maxHeartbeats 4000000 in
set_option maxRecDepth 100000 in
theorem ok_readCommand (l : Launch) {g : zG} {κ : zKp} {μ : zMu} {ω : zOm} {n0 p0 : Nat} {xi xf xs xc xv : Int32} {y : Nat → Int32} (hn : n0 ≤ 60) (hy : txW y n0) (hp : p0 ≤ n0)  : zM l g yX0_readCommand cX0_readCommand 1 (some .boolean) 6 0 [.ref (gA g 2 0 0)] (zT κ (xT n0 p0 xi xf xs xc xv) y) μ ω (zT κ (xT n0 ((comB y n0 p0 xf xs xc xv).2.1) ((comB y n0 p0 xf xs xc xv).2.2.1) ((comB y n0 p0 xf xs xc xv).2.2.2.1) ((comB y n0 p0 xf xs xc xv).2.2.2.2.1) ((comB y n0 p0 xf xs xc xv).2.2.2.2.2.1) ((comB y n0 p0 xf xs xc xv).2.2.2.2.2.2)) y) μ ω (some (.int (if (comB y n0 p0 xf xs xc xv).1 = true then 1 else 0))) := by
  refine zM_of (by decide) (Nat.le_of_ble_eq_true rfl) (fun p e R s m args below meth c hX => ?_)
  show zZ p l e R s m args below meth c g 1 _ _ _ _ 0 0 [(0, .ref (gA g 2 0 0))] []
  refine z_aload_n hX dX0_readCommand_0 0 rfl ?_
  refine z_aload_n hX dX0_readCommand_1 0 rfl ?_
  refine z_callV1 hX (ok_peek l hn hy hp) cv_RX0_49 zRc2 dX0_readCommand_2 (by decide) rfl rfl (Nat.le_of_ble_eq_true rfl) ?_
  refine zp_X0_initial hX (pk_nar hy) (pk_fit hy) fl_RX0_22 dX0_readCommand_5 ?_
  rw [xT_2]
  refine z_aload_n hX dX0_readCommand_8 0 rfl ?_
  refine zg_X0_initial hX fl_RX0_22 dX0_readCommand_9 ?_
  refine z_isv (show _ = pkB y n0 p0 from rfl) ?_
  refine z_bipush (v := 108) hX dX0_readCommand_12 (by decide) ?_
  refine z_icmp_ne (tgt := 55) hX dX0_readCommand_14 (by decide) (fun h14 => ?_) (fun h14 => ?_)
  · skip
    refine z_aload_n hX dX0_readCommand_55 0 rfl ?_
    refine zg_X0_initial hX fl_RX0_22 dX0_readCommand_56 ?_
    refine z_isv (show _ = pkB y n0 p0 from rfl) ?_
    refine z_bipush (v := 111) hX dX0_readCommand_59 (by decide) ?_
    refine z_icmp_ne (tgt := 95) hX dX0_readCommand_61 (by decide) (fun h61 => ?_) (fun h61 => ?_)
    · skip
      refine z_aload_n hX dX0_readCommand_95 0 rfl ?_
      refine zg_X0_initial hX fl_RX0_22 dX0_readCommand_96 ?_
      refine z_isv (show _ = pkB y n0 p0 from rfl) ?_
      refine z_bipush (v := 114) hX dX0_readCommand_99 (by decide) ?_
      refine z_icmp_ne (tgt := 126) hX dX0_readCommand_101 (by decide) (fun h101 => ?_) (fun h101 => ?_)
      · skip
        refine z_aload_n hX dX0_readCommand_126 0 rfl ?_
        refine zk_ldc hX (i := 31) rfl dX0_readCommand_127 ?_
        refine z_callV1 hX (ok_takeWord l hn hy hp (by decide : 31 < 45)) cv_RX0_55 zRc2 dX0_readCommand_129 (by decide) rfl rfl (Nat.le_of_ble_eq_true rfl) ?_
        exact z_iret hX dX0_readCommand_132 (by decide) (by split <;> rfl) (by rw [comB, if_neg h14, if_neg h61, if_neg h101, cmT1]) (fun _ h => by rw [comB, if_neg h14, if_neg h61, if_neg h101, cmT1]; exact h)
      · rw [h101]
        refine z_aload_n hX dX0_readCommand_104 0 rfl ?_
        refine zk_ldc hX (i := 30) rfl dX0_readCommand_105 ?_
        refine z_callV1 hX (ok_takeWord l hn hy hp (by decide : 30 < 45)) cv_RX0_55 zRc2 dX0_readCommand_107 (by decide) rfl rfl (Nat.le_of_ble_eq_true rfl) ?_
        refine z_if_eqB (tgt := 124) hX dX0_readCommand_110 (by decide) (fun h110 => ?_) (fun h110 => ?_)
        · skip
          refine z_iconst (v := 0) hX dX0_readCommand_124 (by decide) ?_
          exact z_iret hX dX0_readCommand_125 (by decide) rfl (by rw [comB, if_neg h14, if_neg h61, if_pos h101, cmR1, if_neg h110]; rfl) (fun _ h => by rw [comB, if_neg h14, if_neg h61, if_pos h101, cmR1, if_neg h110]; exact h)
        · skip
          refine z_aload_n hX dX0_readCommand_113 0 rfl ?_
          refine z_callV1 hX (ok_readNumber l hn hy (wd_le (y := y) (n0 := n0) (sB 30) p0 hp).2) cv_RX0_67 zRc2 dX0_readCommand_114 (by decide) rfl rfl (Nat.le_of_ble_eq_true rfl) ?_
          refine z_if_eqB (tgt := 124) hX dX0_readCommand_117 (by decide) (fun h117 => ?_) (fun h117 => ?_)
          · skip
            refine z_iconst (v := 0) hX dX0_readCommand_124 (by decide) ?_
            exact z_iret hX dX0_readCommand_125 (by decide) rfl (by rw [comB, if_neg h14, if_neg h61, if_pos h101, cmR1, if_pos h110, cmR2, if_neg h117]) (fun _ h => by rw [comB, if_neg h14, if_neg h61, if_pos h101, cmR1, if_pos h110, cmR2]; exact h)
          · skip
            refine z_iconst (v := 1) hX dX0_readCommand_120 (by decide) ?_
            refine z_goto (tgt := 125) hX dX0_readCommand_121 (by decide) ?_
            exact z_iret hX dX0_readCommand_125 (by decide) rfl (by rw [comB, if_neg h14, if_neg h61, if_pos h101, cmR1, if_pos h110, cmR2, if_pos h117]) (fun _ h => by rw [comB, if_neg h14, if_neg h61, if_pos h101, cmR1, if_pos h110, cmR2]; exact h)
    · rw [h61]
      refine z_aload_n hX dX0_readCommand_64 0 rfl ?_
      refine zk_ldc hX (i := 28) rfl dX0_readCommand_65 ?_
      refine z_callV1 hX (ok_takeWord l hn hy hp (by decide : 28 < 45)) cv_RX0_55 zRc2 dX0_readCommand_67 (by decide) rfl rfl (Nat.le_of_ble_eq_true rfl) ?_
      refine z_if_eqB (tgt := 93) hX dX0_readCommand_70 (by decide) (fun h70 => ?_) (fun h70 => ?_)
      · skip
        refine z_iconst (v := 0) hX dX0_readCommand_93 (by decide) ?_
        exact z_iret hX dX0_readCommand_94 (by decide) rfl (by rw [comB, if_neg h14, if_pos h61, cmO1, if_neg h70]; rfl) (fun _ h => by rw [comB, if_neg h14, if_pos h61, cmO1, if_neg h70]; exact h)
      · skip
        refine z_aload_n hX dX0_readCommand_73 0 rfl ?_
        refine z_callV1 hX (ok_readNumber l hn hy (wd_le (y := y) (n0 := n0) (sB 28) p0 hp).2) cv_RX0_67 zRc2 dX0_readCommand_74 (by decide) rfl rfl (Nat.le_of_ble_eq_true rfl) ?_
        refine z_if_eqB (tgt := 93) hX dX0_readCommand_77 (by decide) (fun h77 => ?_) (fun h77 => ?_)
        · skip
          refine z_iconst (v := 0) hX dX0_readCommand_93 (by decide) ?_
          exact z_iret hX dX0_readCommand_94 (by decide) rfl (by rw [comB, if_neg h14, if_pos h61, cmO1, if_pos h70, cmO2, if_neg h77]; rfl) (fun _ h => by rw [comB, if_neg h14, if_pos h61, cmO1, if_pos h70, cmO2, if_neg h77]; exact h)
        · skip
          refine z_aload_n hX dX0_readCommand_80 0 rfl ?_
          refine zk_ldc hX (i := 29) rfl dX0_readCommand_81 ?_
          refine z_callV1 hX (ok_readSign_o l hn hy (nm_le (y := y) (wd_le (y := y) (n0 := n0) (sB 28) p0 hp).2).2) cv_RX0_64 zRc2 dX0_readCommand_83 (by decide) rfl rfl (Nat.le_of_ble_eq_true rfl) ?_
          refine z_if_eqB (tgt := 93) hX dX0_readCommand_86 (by decide) (fun h86 => ?_) (fun h86 => ?_)
          · skip
            refine z_iconst (v := 0) hX dX0_readCommand_93 (by decide) ?_
            exact z_iret hX dX0_readCommand_94 (by decide) rfl (by rw [comB, if_neg h14, if_pos h61, cmO1, if_pos h70, cmO2, if_pos h77, cmO3, if_neg h86]) (fun _ h => by rw [comB, if_neg h14, if_pos h61, cmO1, if_pos h70, cmO2, if_pos h77, cmO3]; exact h)
          · skip
            refine z_iconst (v := 1) hX dX0_readCommand_89 (by decide) ?_
            refine z_goto (tgt := 94) hX dX0_readCommand_90 (by decide) ?_
            exact z_iret hX dX0_readCommand_94 (by decide) rfl (by rw [comB, if_neg h14, if_pos h61, cmO1, if_pos h70, cmO2, if_pos h77, cmO3, if_pos h86]) (fun _ h => by rw [comB, if_neg h14, if_pos h61, cmO1, if_pos h70, cmO2, if_pos h77, cmO3]; exact h)
  · rw [h14]
    refine z_aload_n hX dX0_readCommand_17 0 rfl ?_
    refine zk_ldc hX (i := 26) rfl dX0_readCommand_18 ?_
    refine z_callV1 hX (ok_takeWord l hn hy hp (by decide : 26 < 45)) cv_RX0_55 zRc2 dX0_readCommand_20 (by decide) rfl rfl (Nat.le_of_ble_eq_true rfl) ?_
    refine z_if_eqB (tgt := 53) hX dX0_readCommand_23 (by decide) (fun h23 => ?_) (fun h23 => ?_)
    · skip
      refine z_iconst (v := 0) hX dX0_readCommand_53 (by decide) ?_
      exact z_iret hX dX0_readCommand_54 (by decide) rfl (by rw [comB, if_pos h14, cmL1, if_neg h23]; rfl) (fun _ h => by rw [comB, if_pos h14, cmL1, if_neg h23]; exact h)
    · skip
      refine z_aload_n hX dX0_readCommand_26 0 rfl ?_
      refine z_callV1 hX (ok_readPlace l hn hy (wd_le (y := y) (n0 := n0) (sB 26) p0 hp).2) cv_RX0_59 zRc2 dX0_readCommand_27 (by decide) rfl rfl (Nat.le_of_ble_eq_true rfl) ?_
      refine z_if_eqB (tgt := 53) hX dX0_readCommand_30 (by decide) (fun h30 => ?_) (fun h30 => ?_)
      · skip
        refine z_iconst (v := 0) hX dX0_readCommand_53 (by decide) ?_
        exact z_iret hX dX0_readCommand_54 (by decide) rfl (by rw [comB, if_pos h14, cmL1, if_pos h23, cmL2, if_neg h30]; rfl) (fun _ h => by rw [comB, if_pos h14, cmL1, if_pos h23, cmL2, if_neg h30]; exact h)
      · skip
        refine z_aload_n hX dX0_readCommand_33 0 rfl ?_
        refine zk_ldc hX (i := 27) rfl dX0_readCommand_34 ?_
        refine z_callV1 hX (ok_readSign_k l hn hy (pl_le (y := y) (xs := xs) (wd_le (y := y) (n0 := n0) (sB 26) p0 hp).2).2) cv_RX0_64 zRc2 dX0_readCommand_36 (by decide) rfl rfl (Nat.le_of_ble_eq_true rfl) ?_
        refine z_if_eqB (tgt := 53) hX dX0_readCommand_39 (by decide) (fun h39 => ?_) (fun h39 => ?_)
        · skip
          refine z_iconst (v := 0) hX dX0_readCommand_53 (by decide) ?_
          exact z_iret hX dX0_readCommand_54 (by decide) rfl (by rw [comB, if_pos h14, cmL1, if_pos h23, cmL2, if_pos h30, cmL3, if_neg h39]; rfl) (fun _ h => by rw [comB, if_pos h14, cmL1, if_pos h23, cmL2, if_pos h30, cmL3, if_neg h39]; exact h)
        · skip
          refine z_aload_n hX dX0_readCommand_42 0 rfl ?_
          refine z_callV1 hX (ok_readNumber l hn hy (sg_le (K := kinO) (y := y) (z0 := xc) (pl_le (y := y) (xs := xs) (wd_le (y := y) (n0 := n0) (sB 26) p0 hp).2).2).2) cv_RX0_67 zRc2 dX0_readCommand_43 (by decide) rfl rfl (Nat.le_of_ble_eq_true rfl) ?_
          refine z_if_eqB (tgt := 53) hX dX0_readCommand_46 (by decide) (fun h46 => ?_) (fun h46 => ?_)
          · skip
            refine z_iconst (v := 0) hX dX0_readCommand_53 (by decide) ?_
            exact z_iret hX dX0_readCommand_54 (by decide) rfl (by rw [comB, if_pos h14, cmL1, if_pos h23, cmL2, if_pos h30, cmL3, if_pos h39, cmL4, if_neg h46]) (fun _ h => by rw [comB, if_pos h14, cmL1, if_pos h23, cmL2, if_pos h30, cmL3, if_pos h39, cmL4]; exact h)
          · skip
            refine z_iconst (v := 1) hX dX0_readCommand_49 (by decide) ?_
            refine z_goto (tgt := 54) hX dX0_readCommand_50 (by decide) ?_
            exact z_iret hX dX0_readCommand_54 (by decide) rfl (by rw [comB, if_pos h14, cmL1, if_pos h23, cmL2, if_pos h30, cmL3, if_pos h39, cmL4, if_pos h46]) (fun _ h => by rw [comB, if_pos h14, cmL1, if_pos h23, cmL2, if_pos h30, cmL3, if_pos h39, cmL4]; exact h)
end ZCM
