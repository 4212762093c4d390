section ZM5
/-- a line added -/
def rowB (g : zB) (x y c v : Int32) : zB := bs (bs (bs (bs (bs (bs (bs (bs (bs g (bn g) 0 x) (bn g) 1 y) (bn g) 2 (9 * x)) (bn g) 3 c) (bn g) 4 v) (bn g) 5 10) (bn g) 6 104) (bn g) 7 0) (bn g) 8 0
def addB (g : zB) (x y c v : Int32) : zB := upd (rowB g x y c v) 0 (rowB g x y c v 0 + 1)
/-- what may be added -/
abbrev fitB (x y c v : Int32) : Prop := (0 ≤ x ∧ x ≤ 1) ∧ (0 ≤ y ∧ y ≤ 2) ∧ (c = 112 ∨ c = 110 ∨ c = 99 ∨ c = 115) ∧ (1 ≤ v ∧ v ≤ 99)
abbrev ordO (x : Int32) : Prop := x = 104 ∨ x = 97 ∨ x = 99
/-- the place of the jars of a line's side -/
def jq (g : zB) (i : Nat) : Nat := if bf g i 0 = 0 then 3 else 4
def useB (g : zB) (i : Nat) : zB := upd g (jq g i) (g (jq g i) - 1)
def ralB (g : zB) (i : Nat) : zB := resB (bs (useB g i) i 5 (mn (bf (useB g i) i 5 + 6))) i
theorem ne_12 {b : zB} (hn : bnI b) (h : bn b < 12) : ¬ b 0 = 12 := fun q => absurd (lt_i (a := bn b) (b := 12) h (by decide)) (by rw [← hn.2, q]; exact Int32.lt_irrefl)
/-- the past, with one state more -/
def zPu (μ : zMu) (k0 : Nat) (x : Nat → Int32) : zMu := if k0 = 8 then zRm (zSh μ) 17 x else zRm μ (10 + k0) x
def mor (k0 : Nat) : Nat := if k0 = 8 then 8 else k0 + 1
theorem upd_eq {a : Nat → Int32} {q : Nat} {x : Int32} (h : a q = x) : upd a q x = a := by
  funext j
  unfold upd
  by_cases e : j = q
  · rw [if_pos e, e, h]
  · rw [if_neg e]
theorem ok_end (l : Launch) {g : zG} {κ : zKp} {μ : zMu} {ω : zOm} {a b : Nat → Int32} {x : Int32} {k0 : Nat} (hk : k0 ≤ 8) (h0 : a 2 ≤ 0) (h1 : a 1 = nI k0) : zM l g yX5_ends cX5_ends 2 (some .int) 2 0 [.ref (gA g 10 0 0), .int x] κ (zN μ a b) ω κ (zN (zPu μ k0 (μ 2)) (upd a 1 (nI (mor k0))) b) ω (some (.int x)) := by
  unfold zPu mor
  by_cases e : k0 = 8
  · subst e
    rw [if_pos rfl, if_pos rfl, upd_eq h1]
    exact ok_ends8 l h0 h1
  · rw [if_neg e, if_neg e]
    exact ok_ends l (by omega) h0 h1
set_option maxHeartbeats 4000000 in
set_option maxRecDepth 100000 in
theorem no_do1 (l : Launch) {g : zG} {κ : zKp} {μ : zMu} {ω : zOm} {a b : Nat → Int32} {x y z v : Int32} (hx : ¬ fitB x y z v) : zM l g yX5_doAddLine cX5_doAddLine 6 (some .int) 4 0 [.ref (gA g 10 0 0), .int x, .int y, .int z, .int v] κ (zN μ a b) ω κ (zN μ (upd a 2 1) b) ω (some (.int 0)) := by
  refine zM_of (by decide) (Nat.le_of_ble_eq_true rfl) (fun p e R s m args below meth c hX => ?_)
  show zZ p l e R s m args below meth c g 6 _ _ _ _ 0 0 [(0, .ref (gA g 10 0 0)), (1, .int x), (2, .int y), (3, .int z), (4, .int v)] []
  refine z_aload_n hX dX5_doAddLine_0 0 rfl ?_
  refine zg_X5_s hX   fl_RX5_9 dX5_doAddLine_1 ?_
  refine z_iconst (v := 0) hX dX5_doAddLine_4 (by decide) ?_
  refine za_s hX  (show (0 : Int32) = nI 0 from rfl) (by decide) dX5_doAddLine_5 ?_
  refine z_istore (lv' := [(5, _), (0, _), (1, _), (2, _), (3, _), (4, _)]) hX dX5_doAddLine_6 (by decide) rfl ?_
  refine z_iload_n hX dX5_doAddLine_8 2 rfl ?_
  refine z_callS1 hX (ok_X5_isSide l) cs_RX5_131 dX5_doAddLine_9 (by decide) rfl rfl (Nat.le_of_ble_eq_true rfl) ?_
  refine z_if_eqB (tgt := 40) hX dX5_doAddLine_12 (by decide) (fun h12 => ?_) (fun h12 => ?_)
  · skip
    refine z_aload_n hX dX5_doAddLine_40 1 rfl ?_
    refine z_iconst (v := 1) hX dX5_doAddLine_41 (by decide) ?_
    refine z_callV1 hX (ok_X5_fails l) cv_RX5_140 zRc10 dX5_doAddLine_42 (by decide) rfl rfl (Nat.le_of_ble_eq_true rfl) ?_
    exact z_iretI hX dX5_doAddLine_45 (by decide) rfl (fun _ h => h)
  · skip
    refine z_iload_n hX dX5_doAddLine_15 3 rfl ?_
    refine z_callS1 hX (ok_X5_isLane l) cs_RX5_134 dX5_doAddLine_16 (by decide) rfl rfl (Nat.le_of_ble_eq_true rfl) ?_
    refine z_if_eqB (tgt := 40) hX dX5_doAddLine_19 (by decide) (fun h19 => ?_) (fun h19 => ?_)
    · skip
      refine z_aload_n hX dX5_doAddLine_40 1 rfl ?_
      refine z_iconst (v := 1) hX dX5_doAddLine_41 (by decide) ?_
      refine z_callV1 hX (ok_X5_fails l) cv_RX5_140 zRc10 dX5_doAddLine_42 (by decide) rfl rfl (Nat.le_of_ble_eq_true rfl) ?_
      exact z_iretI hX dX5_doAddLine_45 (by decide) rfl (fun _ h => h)
    · skip
      refine z_iload_n hX dX5_doAddLine_22 4 rfl ?_
      refine z_callS1 hX (ok_X5_isKind l) cs_RX5_137 dX5_doAddLine_23 (by decide) rfl rfl (Nat.le_of_ble_eq_true rfl) ?_
      refine z_if_eqB (tgt := 40) hX dX5_doAddLine_26 (by decide) (fun h26 => ?_) (fun h26 => ?_)
      · skip
        refine z_aload_n hX dX5_doAddLine_40 1 rfl ?_
        refine z_iconst (v := 1) hX dX5_doAddLine_41 (by decide) ?_
        refine z_callV1 hX (ok_X5_fails l) cv_RX5_140 zRc10 dX5_doAddLine_42 (by decide) rfl rfl (Nat.le_of_ble_eq_true rfl) ?_
        exact z_iretI hX dX5_doAddLine_45 (by decide) rfl (fun _ h => h)
      · skip
        refine z_iload hX dX5_doAddLine_29 5 rfl ?_
        refine z_iconst (v := 1) hX dX5_doAddLine_31 (by decide) ?_
        refine z_bipush (v := 99) hX dX5_doAddLine_32 (by decide) ?_
        refine z_callS1 hX (ok_X5_in l) cs_RX5_54 dX5_doAddLine_34 (by decide) rfl rfl (Nat.le_of_ble_eq_true rfl) ?_
        refine z_if_neB (tgt := 46) hX dX5_doAddLine_37 (by decide) (fun h37 => absurd h37 (fun q => hx ⟨h12, h19, h26, q⟩)) (fun h37 => ?_)
        refine z_aload_n hX dX5_doAddLine_40 1 rfl ?_
        refine z_iconst (v := 1) hX dX5_doAddLine_41 (by decide) ?_
        refine z_callV1 hX (ok_X5_fails l) cv_RX5_140 zRc10 dX5_doAddLine_42 (by decide) rfl rfl (Nat.le_of_ble_eq_true rfl) ?_
        exact z_iretI hX dX5_doAddLine_45 (by decide) rfl (fun _ h => h)
set_option maxHeartbeats 4000000 in
set_option maxRecDepth 100000 in
theorem no_do2 (l : Launch) {g : zG} {κ : zKp} {μ : zMu} {ω : zOm} {a b : Nat → Int32} {x y z v : Int32} (hA : fitB x y z v) (h0 : b 0 = 12) : zM l g yX5_doAddLine cX5_doAddLine 6 (some .int) 4 0 [.ref (gA g 10 0 0), .int x, .int y, .int z, .int v] κ (zN μ a b) ω κ (zN μ (upd a 2 2) b) ω (some (.int 0)) := by
  refine zM_of (by decide) (Nat.le_of_ble_eq_true rfl) (fun p e R s m args below meth c hX => ?_)
  show zZ p l e R s m args below meth c g 6 _ _ _ _ 0 0 [(0, .ref (gA g 10 0 0)), (1, .int x), (2, .int y), (3, .int z), (4, .int v)] []
  refine z_aload_n hX dX5_doAddLine_0 0 rfl ?_
  refine zg_X5_s hX   fl_RX5_9 dX5_doAddLine_1 ?_
  refine z_iconst (v := 0) hX dX5_doAddLine_4 (by decide) ?_
  refine za_s hX  (show (0 : Int32) = nI 0 from rfl) (by decide) dX5_doAddLine_5 ?_
  refine z_istore (lv' := [(5, _), (0, _), (1, _), (2, _), (3, _), (4, _)]) hX dX5_doAddLine_6 (by decide) rfl ?_
  refine z_iload_n hX dX5_doAddLine_8 2 rfl ?_
  refine z_callS1 hX (ok_X5_isSide l) cs_RX5_131 dX5_doAddLine_9 (by decide) rfl rfl (Nat.le_of_ble_eq_true rfl) ?_
  refine z_if_eqB (tgt := 40) hX dX5_doAddLine_12 (by decide) (fun h12 => absurd h12 (Classical.not_not.mpr hA.1)) (fun h12 => ?_)
  refine z_iload_n hX dX5_doAddLine_15 3 rfl ?_
  refine z_callS1 hX (ok_X5_isLane l) cs_RX5_134 dX5_doAddLine_16 (by decide) rfl rfl (Nat.le_of_ble_eq_true rfl) ?_
  refine z_if_eqB (tgt := 40) hX dX5_doAddLine_19 (by decide) (fun h19 => absurd h19 (Classical.not_not.mpr hA.2.1)) (fun h19 => ?_)
  refine z_iload_n hX dX5_doAddLine_22 4 rfl ?_
  refine z_callS1 hX (ok_X5_isKind l) cs_RX5_137 dX5_doAddLine_23 (by decide) rfl rfl (Nat.le_of_ble_eq_true rfl) ?_
  refine z_if_eqB (tgt := 40) hX dX5_doAddLine_26 (by decide) (fun h26 => absurd h26 (Classical.not_not.mpr hA.2.2.1)) (fun h26 => ?_)
  refine z_iload hX dX5_doAddLine_29 5 rfl ?_
  refine z_iconst (v := 1) hX dX5_doAddLine_31 (by decide) ?_
  refine z_bipush (v := 99) hX dX5_doAddLine_32 (by decide) ?_
  refine z_callS1 hX (ok_X5_in l) cs_RX5_54 dX5_doAddLine_34 (by decide) rfl rfl (Nat.le_of_ble_eq_true rfl) ?_
  refine z_if_neB (tgt := 46) hX dX5_doAddLine_37 (by decide) (fun h37 => ?_) (fun h37 => absurd h37 (Classical.not_not.mpr hA.2.2.2))
  refine z_iload hX dX5_doAddLine_46 0 rfl ?_
  refine z_bipush (v := 12) hX dX5_doAddLine_48 (by decide) ?_
  refine z_icmp_ne (tgt := 59) hX dX5_doAddLine_50 (by decide) (fun h50 => absurd h50 (Classical.not_not.mpr h0)) (fun h50 => ?_)
  refine z_aload_n hX dX5_doAddLine_53 1 rfl ?_
  refine z_iconst (v := 2) hX dX5_doAddLine_54 (by decide) ?_
  refine z_callV1 hX (ok_X5_fails l) cv_RX5_140 zRc10 dX5_doAddLine_55 (by decide) rfl rfl (Nat.le_of_ble_eq_true rfl) ?_
  exact z_iretI hX dX5_doAddLine_58 (by decide) rfl (fun _ h => h)
set_option maxHeartbeats 4000000 in
set_option maxRecDepth 100000 in
theorem no_do3 (l : Launch) {g : zG} {κ : zKp} {μ : zMu} {ω : zOm} {a b : Nat → Int32} {x y z v : Int32} (hA : fitB x y z v) (hn : bnI b) (h0 : ¬ b 0 = 12) (h1 : ¬ cellB b y (9 * x) < 0) : zM l g yX5_doAddLine cX5_doAddLine 6 (some .int) 4 0 [.ref (gA g 10 0 0), .int x, .int y, .int z, .int v] κ (zN μ a b) ω κ (zN μ (upd a 2 3) b) ω (some (.int 0)) := by
  refine zM_of (by decide) (Nat.le_of_ble_eq_true rfl) (fun p e R s m args below meth c hX => ?_)
  show zZ p l e R s m args below meth c g 6 _ _ _ _ 0 0 [(0, .ref (gA g 10 0 0)), (1, .int x), (2, .int y), (3, .int z), (4, .int v)] []
  refine z_aload_n hX dX5_doAddLine_0 0 rfl ?_
  refine zg_X5_s hX   fl_RX5_9 dX5_doAddLine_1 ?_
  refine z_iconst (v := 0) hX dX5_doAddLine_4 (by decide) ?_
  refine za_s hX  (show (0 : Int32) = nI 0 from rfl) (by decide) dX5_doAddLine_5 ?_
  refine z_istore (lv' := [(5, _), (0, _), (1, _), (2, _), (3, _), (4, _)]) hX dX5_doAddLine_6 (by decide) rfl ?_
  refine z_iload_n hX dX5_doAddLine_8 2 rfl ?_
  refine z_callS1 hX (ok_X5_isSide l) cs_RX5_131 dX5_doAddLine_9 (by decide) rfl rfl (Nat.le_of_ble_eq_true rfl) ?_
  refine z_if_eqB (tgt := 40) hX dX5_doAddLine_12 (by decide) (fun h12 => absurd h12 (Classical.not_not.mpr hA.1)) (fun h12 => ?_)
  refine z_iload_n hX dX5_doAddLine_15 3 rfl ?_
  refine z_callS1 hX (ok_X5_isLane l) cs_RX5_134 dX5_doAddLine_16 (by decide) rfl rfl (Nat.le_of_ble_eq_true rfl) ?_
  refine z_if_eqB (tgt := 40) hX dX5_doAddLine_19 (by decide) (fun h19 => absurd h19 (Classical.not_not.mpr hA.2.1)) (fun h19 => ?_)
  refine z_iload_n hX dX5_doAddLine_22 4 rfl ?_
  refine z_callS1 hX (ok_X5_isKind l) cs_RX5_137 dX5_doAddLine_23 (by decide) rfl rfl (Nat.le_of_ble_eq_true rfl) ?_
  refine z_if_eqB (tgt := 40) hX dX5_doAddLine_26 (by decide) (fun h26 => absurd h26 (Classical.not_not.mpr hA.2.2.1)) (fun h26 => ?_)
  refine z_iload hX dX5_doAddLine_29 5 rfl ?_
  refine z_iconst (v := 1) hX dX5_doAddLine_31 (by decide) ?_
  refine z_bipush (v := 99) hX dX5_doAddLine_32 (by decide) ?_
  refine z_callS1 hX (ok_X5_in l) cs_RX5_54 dX5_doAddLine_34 (by decide) rfl rfl (Nat.le_of_ble_eq_true rfl) ?_
  refine z_if_neB (tgt := 46) hX dX5_doAddLine_37 (by decide) (fun h37 => ?_) (fun h37 => absurd h37 (Classical.not_not.mpr hA.2.2.2))
  refine z_iload hX dX5_doAddLine_46 0 rfl ?_
  refine z_bipush (v := 12) hX dX5_doAddLine_48 (by decide) ?_
  refine z_icmp_ne (tgt := 59) hX dX5_doAddLine_50 (by decide) (fun h50 => ?_) (fun h50 => absurd h50 h0)
  refine z_aload_n hX dX5_doAddLine_59 1 rfl ?_
  refine z_iload_n hX dX5_doAddLine_60 3 rfl ?_
  refine z_bipush (v := 9) hX dX5_doAddLine_61 (by decide) ?_
  refine z_iload_n hX dX5_doAddLine_63 2 rfl ?_
  refine z_imul hX dX5_doAddLine_64 ?_
  refine z_callV1 hX (ok_X5_cell l hn) cv_RX5_99 zRc10 dX5_doAddLine_65 (by decide) rfl rfl (Nat.le_of_ble_eq_true rfl) ?_
  refine z_if_lt (tgt := 77) hX dX5_doAddLine_68 (by decide) (fun h68 => absurd h68 h1) (fun h68 => ?_)
  refine z_aload_n hX dX5_doAddLine_71 1 rfl ?_
  refine z_iconst (v := 3) hX dX5_doAddLine_72 (by decide) ?_
  refine z_callV1 hX (ok_X5_fails l) cv_RX5_140 zRc10 dX5_doAddLine_73 (by decide) rfl rfl (Nat.le_of_ble_eq_true rfl) ?_
  exact z_iretI hX dX5_doAddLine_76 (by decide) rfl (fun _ h => h)
set_option maxHeartbeats 4000000 in
set_option maxRecDepth 100000 in
theorem ok_do (l : Launch) {g : zG} {κ : zKp} {μ : zMu} {ω : zOm} {a b : Nat → Int32} {x y z v : Int32} (hA : fitB x y z v) (hn : bnI b) (hk : bn b < 12) (h1 : cellB b y (9 * x) < 0) : zM l g yX5_doAddLine cX5_doAddLine 6 (some .int) 4 0 [.ref (gA g 10 0 0), .int x, .int y, .int z, .int v] κ (zN μ a b) ω κ (zN μ a (addB b x y z v)) ω (some (.int (nI (bn b)))) := by
  refine zM_of (by decide) (Nat.le_of_ble_eq_true rfl) (fun p e R s m args below meth c hX => ?_)
  show zZ p l e R s m args below meth c g 6 _ _ _ _ 0 0 [(0, .ref (gA g 10 0 0)), (1, .int x), (2, .int y), (3, .int z), (4, .int v)] []
  refine z_aload_n hX dX5_doAddLine_0 0 rfl ?_
  refine zg_X5_s hX   fl_RX5_9 dX5_doAddLine_1 ?_
  refine z_iconst (v := 0) hX dX5_doAddLine_4 (by decide) ?_
  refine za_s hX  (show (0 : Int32) = nI 0 from rfl) (by decide) dX5_doAddLine_5 ?_
  refine z_isv hn.2 ?_
  refine z_istore (lv' := [(5, _), (0, _), (1, _), (2, _), (3, _), (4, _)]) hX dX5_doAddLine_6 (by decide) rfl ?_
  refine z_iload_n hX dX5_doAddLine_8 2 rfl ?_
  refine z_callS1 hX (ok_X5_isSide l) cs_RX5_131 dX5_doAddLine_9 (by decide) rfl rfl (Nat.le_of_ble_eq_true rfl) ?_
  refine z_if_eqB (tgt := 40) hX dX5_doAddLine_12 (by decide) (fun h12 => absurd h12 (Classical.not_not.mpr hA.1)) (fun h12 => ?_)
  refine z_iload_n hX dX5_doAddLine_15 3 rfl ?_
  refine z_callS1 hX (ok_X5_isLane l) cs_RX5_134 dX5_doAddLine_16 (by decide) rfl rfl (Nat.le_of_ble_eq_true rfl) ?_
  refine z_if_eqB (tgt := 40) hX dX5_doAddLine_19 (by decide) (fun h19 => absurd h19 (Classical.not_not.mpr hA.2.1)) (fun h19 => ?_)
  refine z_iload_n hX dX5_doAddLine_22 4 rfl ?_
  refine z_callS1 hX (ok_X5_isKind l) cs_RX5_137 dX5_doAddLine_23 (by decide) rfl rfl (Nat.le_of_ble_eq_true rfl) ?_
  refine z_if_eqB (tgt := 40) hX dX5_doAddLine_26 (by decide) (fun h26 => absurd h26 (Classical.not_not.mpr hA.2.2.1)) (fun h26 => ?_)
  refine z_iload hX dX5_doAddLine_29 5 rfl ?_
  refine z_iconst (v := 1) hX dX5_doAddLine_31 (by decide) ?_
  refine z_bipush (v := 99) hX dX5_doAddLine_32 (by decide) ?_
  refine z_callS1 hX (ok_X5_in l) cs_RX5_54 dX5_doAddLine_34 (by decide) rfl rfl (Nat.le_of_ble_eq_true rfl) ?_
  refine z_if_neB (tgt := 46) hX dX5_doAddLine_37 (by decide) (fun h37 => ?_) (fun h37 => absurd h37 (Classical.not_not.mpr hA.2.2.2))
  refine z_iload hX dX5_doAddLine_46 0 rfl ?_
  refine z_bipush (v := 12) hX dX5_doAddLine_48 (by decide) ?_
  refine z_icmp_ne (tgt := 59) hX dX5_doAddLine_50 (by decide) (fun h50 => ?_) (fun h50 => absurd h50 (by rw [← hn.2]; exact ne_12 hn hk))
  refine z_aload_n hX dX5_doAddLine_59 1 rfl ?_
  refine z_iload_n hX dX5_doAddLine_60 3 rfl ?_
  refine z_bipush (v := 9) hX dX5_doAddLine_61 (by decide) ?_
  refine z_iload_n hX dX5_doAddLine_63 2 rfl ?_
  refine z_imul hX dX5_doAddLine_64 ?_
  refine z_callV1 hX (ok_X5_cell l hn) cv_RX5_99 zRc10 dX5_doAddLine_65 (by decide) rfl rfl (Nat.le_of_ble_eq_true rfl) ?_
  refine z_if_lt (tgt := 77) hX dX5_doAddLine_68 (by decide) (fun h68 => ?_) (fun h68 => absurd h68 (Classical.not_not.mpr h1))
  refine z_aload_n hX dX5_doAddLine_77 1 rfl ?_
  refine z_iload hX dX5_doAddLine_78 0 rfl ?_
  refine z_iconst (v := 0) hX dX5_doAddLine_80 (by decide) ?_
  refine z_iload_n hX dX5_doAddLine_81 2 rfl ?_
  refine z_callV0 hX (ok_X5_sets (w := 0) l hk (by decide)) cv_RX5_74 zRc10 dX5_doAddLine_82 (by decide) rfl rfl (Nat.le_of_ble_eq_true rfl) ?_
  refine z_aload_n hX dX5_doAddLine_85 1 rfl ?_
  refine z_iload hX dX5_doAddLine_86 0 rfl ?_
  refine z_iconst (v := 1) hX dX5_doAddLine_88 (by decide) ?_
  refine z_iload_n hX dX5_doAddLine_89 3 rfl ?_
  refine z_callV0 hX (ok_X5_sets (w := 1) l hk (by decide)) cv_RX5_74 zRc10 dX5_doAddLine_90 (by decide) rfl rfl (Nat.le_of_ble_eq_true rfl) ?_
  refine z_aload_n hX dX5_doAddLine_93 1 rfl ?_
  refine z_iload hX dX5_doAddLine_94 0 rfl ?_
  refine z_iconst (v := 2) hX dX5_doAddLine_96 (by decide) ?_
  refine z_bipush (v := 9) hX dX5_doAddLine_97 (by decide) ?_
  refine z_iload_n hX dX5_doAddLine_99 2 rfl ?_
  refine z_imul hX dX5_doAddLine_100 ?_
  refine z_callV0 hX (ok_X5_sets (w := 2) l hk (by decide)) cv_RX5_74 zRc10 dX5_doAddLine_101 (by decide) rfl rfl (Nat.le_of_ble_eq_true rfl) ?_
  refine z_aload_n hX dX5_doAddLine_104 1 rfl ?_
  refine z_iload hX dX5_doAddLine_105 0 rfl ?_
  refine z_iconst (v := 3) hX dX5_doAddLine_107 (by decide) ?_
  refine z_iload_n hX dX5_doAddLine_108 4 rfl ?_
  refine z_callV0 hX (ok_X5_sets (w := 3) l hk (by decide)) cv_RX5_74 zRc10 dX5_doAddLine_109 (by decide) rfl rfl (Nat.le_of_ble_eq_true rfl) ?_
  refine z_aload_n hX dX5_doAddLine_112 1 rfl ?_
  refine z_iload hX dX5_doAddLine_113 0 rfl ?_
  refine z_iconst (v := 4) hX dX5_doAddLine_115 (by decide) ?_
  refine z_iload hX dX5_doAddLine_116 5 rfl ?_
  refine z_callV0 hX (ok_X5_sets (w := 4) l hk (by decide)) cv_RX5_74 zRc10 dX5_doAddLine_118 (by decide) rfl rfl (Nat.le_of_ble_eq_true rfl) ?_
  refine z_aload_n hX dX5_doAddLine_121 1 rfl ?_
  refine z_iload hX dX5_doAddLine_122 0 rfl ?_
  refine z_iconst (v := 5) hX dX5_doAddLine_124 (by decide) ?_
  refine z_bipush (v := 10) hX dX5_doAddLine_125 (by decide) ?_
  refine z_callV0 hX (ok_X5_sets (w := 5) l hk (by decide)) cv_RX5_74 zRc10 dX5_doAddLine_127 (by decide) rfl rfl (Nat.le_of_ble_eq_true rfl) ?_
  refine z_aload_n hX dX5_doAddLine_130 1 rfl ?_
  refine z_iload hX dX5_doAddLine_131 0 rfl ?_
  refine z_bipush (v := 6) hX dX5_doAddLine_133 (by decide) ?_
  refine z_bipush (v := 104) hX dX5_doAddLine_135 (by decide) ?_
  refine z_callV0 hX (ok_X5_sets (w := 6) l hk (by decide)) cv_RX5_74 zRc10 dX5_doAddLine_137 (by decide) rfl rfl (Nat.le_of_ble_eq_true rfl) ?_
  refine z_aload_n hX dX5_doAddLine_140 1 rfl ?_
  refine z_iload hX dX5_doAddLine_141 0 rfl ?_
  refine z_bipush (v := 7) hX dX5_doAddLine_143 (by decide) ?_
  refine z_iconst (v := 0) hX dX5_doAddLine_145 (by decide) ?_
  refine z_callV0 hX (ok_X5_sets (w := 7) l hk (by decide)) cv_RX5_74 zRc10 dX5_doAddLine_146 (by decide) rfl rfl (Nat.le_of_ble_eq_true rfl) ?_
  refine z_aload_n hX dX5_doAddLine_149 1 rfl ?_
  refine z_iload hX dX5_doAddLine_150 0 rfl ?_
  refine z_bipush (v := 8) hX dX5_doAddLine_152 (by decide) ?_
  refine z_iconst (v := 0) hX dX5_doAddLine_154 (by decide) ?_
  refine z_callV0 hX (ok_X5_sets (w := 8) l hk (by decide)) cv_RX5_74 zRc10 dX5_doAddLine_155 (by decide) rfl rfl (Nat.le_of_ble_eq_true rfl) ?_
  refine z_aload_n hX dX5_doAddLine_158 1 rfl ?_
  refine zg_X5_s hX   fl_RX5_9 dX5_doAddLine_159 ?_
  refine z_iconst (v := 0) hX dX5_doAddLine_162 (by decide) ?_
  refine z_dup2 hX dX5_doAddLine_163 rfl rfl ?_
  refine za_s hX  (show (0 : Int32) = nI 0 from rfl) (by decide) dX5_doAddLine_164 ?_
  refine z_iconst (v := 1) hX dX5_doAddLine_165 (by decide) ?_
  refine z_iadd hX dX5_doAddLine_166 ?_
  refine zs_s hX  (show (0 : Int32) = nI 0 from rfl) (by decide)  dX5_doAddLine_167 ?_
  refine z_iload hX dX5_doAddLine_168 0 rfl ?_
  exact z_iretI hX dX5_doAddLine_170 (by decide) rfl (fun _ h => h)
set_option maxHeartbeats 4000000 in
set_option maxRecDepth 100000 in
theorem no_so1 (l : Launch) {g : zG} {κ : zKp} {μ : zMu} {ω : zOm} {a b : Nat → Int32} {x : Int32} (hx : ¬ (0 ≤ x ∧ x ≤ b 0 - 1)) {y : Int32} : zM l g yX5_doSetOrder cX5_doSetOrder 4 (some .int) 3 0 [.ref (gA g 10 0 0), .int x, .int y] κ (zN μ a b) ω κ (zN μ (upd a 2 1) b) ω (some (.int 0)) := by
  refine zM_of (by decide) (Nat.le_of_ble_eq_true rfl) (fun p e R s m args below meth c hX => ?_)
  show zZ p l e R s m args below meth c g 4 _ _ _ _ 0 0 [(0, .ref (gA g 10 0 0)), (1, .int x), (2, .int y)] []
  refine z_aload_n hX dX5_doSetOrder_0 0 rfl ?_
  refine z_iload_n hX dX5_doSetOrder_1 1 rfl ?_
  refine z_callV1 hX (ok_X5_isLine l) cv_RX5_153 zRc10 dX5_doSetOrder_2 (by decide) rfl rfl (Nat.le_of_ble_eq_true rfl) ?_
  refine z_isv (if_neg hx) ?_
  refine z_if_ne (tgt := 14) hX dX5_doSetOrder_5 (by decide) (fun h5 => absurd h5 (by decide)) (fun h5 => ?_)
  refine z_aload_n hX dX5_doSetOrder_8 0 rfl ?_
  refine z_iconst (v := 1) hX dX5_doSetOrder_9 (by decide) ?_
  refine z_callV1 hX (ok_X5_fails l) cv_RX5_140 zRc10 dX5_doSetOrder_10 (by decide) rfl rfl (Nat.le_of_ble_eq_true rfl) ?_
  exact z_iretI hX dX5_doSetOrder_13 (by decide) rfl (fun _ h => h)
set_option maxHeartbeats 4000000 in
set_option maxRecDepth 100000 in
theorem no_so2 (l : Launch) {g : zG} {κ : zKp} {μ : zMu} {ω : zOm} {a b : Nat → Int32} {i : Nat} (hn : bnI b) (hlt : i < bn b) {x : Int32} (h1 : ¬ ordO x) : zM l g yX5_doSetOrder cX5_doSetOrder 4 (some .int) 3 0 [.ref (gA g 10 0 0), .int (nI i), .int x] κ (zN μ a b) ω κ (zN μ (upd a 2 2) b) ω (some (.int 0)) := by
  refine zM_of (by decide) (Nat.le_of_ble_eq_true rfl) (fun p e R s m args below meth c hX => ?_)
  show zZ p l e R s m args below meth c g 4 _ _ _ _ 0 0 [(0, .ref (gA g 10 0 0)), (1, .int (nI i)), (2, .int x)] []
  refine z_aload_n hX dX5_doSetOrder_0 0 rfl ?_
  refine z_iload_n hX dX5_doSetOrder_1 1 rfl ?_
  refine z_callV1 hX (ok_X5_isLine l) cv_RX5_153 zRc10 dX5_doSetOrder_2 (by decide) rfl rfl (Nat.le_of_ble_eq_true rfl) ?_
  refine z_isv (if_pos (isl_in hn hlt)) ?_
  refine z_if_ne (tgt := 14) hX dX5_doSetOrder_5 (by decide) (fun h5 => ?_) (fun h5 => absurd h5 (by decide))
  refine z_iload_n hX dX5_doSetOrder_14 2 rfl ?_
  refine z_callS1 hX (ok_X5_isOrder l) cs_RX5_156 dX5_doSetOrder_15 (by decide) rfl rfl (Nat.le_of_ble_eq_true rfl) ?_
  refine z_if_neB (tgt := 27) hX dX5_doSetOrder_18 (by decide) (fun h18 => absurd h18 h1) (fun h18 => ?_)
  refine z_aload_n hX dX5_doSetOrder_21 0 rfl ?_
  refine z_iconst (v := 2) hX dX5_doSetOrder_22 (by decide) ?_
  refine z_callV1 hX (ok_X5_fails l) cv_RX5_140 zRc10 dX5_doSetOrder_23 (by decide) rfl rfl (Nat.le_of_ble_eq_true rfl) ?_
  exact z_iretI hX dX5_doSetOrder_26 (by decide) rfl (fun _ h => h)
set_option maxHeartbeats 4000000 in
set_option maxRecDepth 100000 in
theorem no_so3 (l : Launch) {g : zG} {κ : zKp} {μ : zMu} {ω : zOm} {a b : Nat → Int32} {i : Nat} (hn : bnI b) (hlt : i < bn b) {x : Int32} (h1 : ordO x) (h2 : ¬ bf b i 7 = 0) : zM l g yX5_doSetOrder cX5_doSetOrder 4 (some .int) 3 0 [.ref (gA g 10 0 0), .int (nI i), .int x] κ (zN μ a b) ω κ (zN μ (upd a 2 3) b) ω (some (.int 0)) := by
  refine zM_of (by decide) (Nat.le_of_ble_eq_true rfl) (fun p e R s m args below meth c hX => ?_)
  show zZ p l e R s m args below meth c g 4 _ _ _ _ 0 0 [(0, .ref (gA g 10 0 0)), (1, .int (nI i)), (2, .int x)] []
  refine z_aload_n hX dX5_doSetOrder_0 0 rfl ?_
  refine z_iload_n hX dX5_doSetOrder_1 1 rfl ?_
  refine z_callV1 hX (ok_X5_isLine l) cv_RX5_153 zRc10 dX5_doSetOrder_2 (by decide) rfl rfl (Nat.le_of_ble_eq_true rfl) ?_
  refine z_isv (if_pos (isl_in hn hlt)) ?_
  refine z_if_ne (tgt := 14) hX dX5_doSetOrder_5 (by decide) (fun h5 => ?_) (fun h5 => absurd h5 (by decide))
  refine z_iload_n hX dX5_doSetOrder_14 2 rfl ?_
  refine z_callS1 hX (ok_X5_isOrder l) cs_RX5_156 dX5_doSetOrder_15 (by decide) rfl rfl (Nat.le_of_ble_eq_true rfl) ?_
  refine z_if_neB (tgt := 27) hX dX5_doSetOrder_18 (by decide) (fun h18 => ?_) (fun h18 => absurd h18 (Classical.not_not.mpr h1))
  refine z_aload_n hX dX5_doSetOrder_27 0 rfl ?_
  refine z_iload_n hX dX5_doSetOrder_28 1 rfl ?_
  refine z_callV1 hX (ok_X5_stands l (lt12 hn hlt)) cv_RX5_66 zRc10 dX5_doSetOrder_29 (by decide) rfl rfl (Nat.le_of_ble_eq_true rfl) ?_
  refine z_if_neB (tgt := 41) hX dX5_doSetOrder_32 (by decide) (fun h32 => absurd h32 h2) (fun h32 => ?_)
  refine z_aload_n hX dX5_doSetOrder_35 0 rfl ?_
  refine z_iconst (v := 3) hX dX5_doSetOrder_36 (by decide) ?_
  refine z_callV1 hX (ok_X5_fails l) cv_RX5_140 zRc10 dX5_doSetOrder_37 (by decide) rfl rfl (Nat.le_of_ble_eq_true rfl) ?_
  exact z_iretI hX dX5_doSetOrder_40 (by decide) rfl (fun _ h => h)
set_option maxHeartbeats 4000000 in
set_option maxRecDepth 100000 in
theorem ok_so (l : Launch) {g : zG} {κ : zKp} {μ : zMu} {ω : zOm} {a b : Nat → Int32} {i : Nat} (hn : bnI b) (hlt : i < bn b) {x : Int32} (h1 : ordO x) (h2 : bf b i 7 = 0) : zM l g yX5_doSetOrder cX5_doSetOrder 4 (some .int) 3 0 [.ref (gA g 10 0 0), .int (nI i), .int x] κ (zN μ a b) ω κ (zN μ a (bs b i 6 x)) ω (some (.int (bf b i 6))) := by
  refine zM_of (by decide) (Nat.le_of_ble_eq_true rfl) (fun p e R s m args below meth c hX => ?_)
  show zZ p l e R s m args below meth c g 4 _ _ _ _ 0 0 [(0, .ref (gA g 10 0 0)), (1, .int (nI i)), (2, .int x)] []
  refine z_aload_n hX dX5_doSetOrder_0 0 rfl ?_
  refine z_iload_n hX dX5_doSetOrder_1 1 rfl ?_
  refine z_callV1 hX (ok_X5_isLine l) cv_RX5_153 zRc10 dX5_doSetOrder_2 (by decide) rfl rfl (Nat.le_of_ble_eq_true rfl) ?_
  refine z_isv (if_pos (isl_in hn hlt)) ?_
  refine z_if_ne (tgt := 14) hX dX5_doSetOrder_5 (by decide) (fun h5 => ?_) (fun h5 => absurd h5 (by decide))
  refine z_iload_n hX dX5_doSetOrder_14 2 rfl ?_
  refine z_callS1 hX (ok_X5_isOrder l) cs_RX5_156 dX5_doSetOrder_15 (by decide) rfl rfl (Nat.le_of_ble_eq_true rfl) ?_
  refine z_if_neB (tgt := 27) hX dX5_doSetOrder_18 (by decide) (fun h18 => ?_) (fun h18 => absurd h18 (Classical.not_not.mpr h1))
  refine z_aload_n hX dX5_doSetOrder_27 0 rfl ?_
  refine z_iload_n hX dX5_doSetOrder_28 1 rfl ?_
  refine z_callV1 hX (ok_X5_stands l (lt12 hn hlt)) cv_RX5_66 zRc10 dX5_doSetOrder_29 (by decide) rfl rfl (Nat.le_of_ble_eq_true rfl) ?_
  refine z_if_neB (tgt := 41) hX dX5_doSetOrder_32 (by decide) (fun h32 => ?_) (fun h32 => absurd h32 (Classical.not_not.mpr h2))
  refine z_aload_n hX dX5_doSetOrder_41 0 rfl ?_
  refine z_iload_n hX dX5_doSetOrder_42 1 rfl ?_
  refine z_bipush (v := 6) hX dX5_doSetOrder_43 (by decide) ?_
  refine z_callV1 hX (ok_X5_of (w := 6) l (lt12 hn hlt) (by decide)) cv_RX5_58 zRc10 dX5_doSetOrder_45 (by decide) rfl rfl (Nat.le_of_ble_eq_true rfl) ?_
  refine z_istore_n (lv' := [(3, _), (0, _), (1, _), (2, _)]) hX dX5_doSetOrder_48 (by decide) rfl ?_
  refine z_aload_n hX dX5_doSetOrder_49 1 rfl ?_
  refine z_iload_n hX dX5_doSetOrder_50 2 rfl ?_
  refine z_bipush (v := 6) hX dX5_doSetOrder_51 (by decide) ?_
  refine z_iload_n hX dX5_doSetOrder_53 3 rfl ?_
  refine z_callV0 hX (ok_X5_sets (w := 6) l (lt12 hn hlt) (by decide)) cv_RX5_74 zRc10 dX5_doSetOrder_54 (by decide) rfl rfl (Nat.le_of_ble_eq_true rfl) ?_
  refine z_iload_n hX dX5_doSetOrder_57 0 rfl ?_
  exact z_iretI hX dX5_doSetOrder_58 (by decide) rfl (fun _ h => h)
set_option maxHeartbeats 4000000 in
set_option maxRecDepth 100000 in
theorem no_ra1 (l : Launch) {g : zG} {κ : zKp} {μ : zMu} {ω : zOm} {a b : Nat → Int32} {x : Int32} (hx : ¬ (0 ≤ x ∧ x ≤ b 0 - 1))  : zM l g yX5_doRally cX5_doRally 3 (some .int) 3 0 [.ref (gA g 10 0 0), .int x] κ (zN μ a b) ω κ (zN μ (upd a 2 1) b) ω (some (.int 0)) := by
  refine zM_of (by decide) (Nat.le_of_ble_eq_true rfl) (fun p e R s m args below meth c hX => ?_)
  show zZ p l e R s m args below meth c g 3 _ _ _ _ 0 0 [(0, .ref (gA g 10 0 0)), (1, .int x)] []
  refine z_aload_n hX dX5_doRally_0 0 rfl ?_
  refine z_iload_n hX dX5_doRally_1 1 rfl ?_
  refine z_callV1 hX (ok_X5_isLine l) cv_RX5_153 zRc10 dX5_doRally_2 (by decide) rfl rfl (Nat.le_of_ble_eq_true rfl) ?_
  refine z_isv (if_neg hx) ?_
  refine z_if_ne (tgt := 14) hX dX5_doRally_5 (by decide) (fun h5 => absurd h5 (by decide)) (fun h5 => ?_)
  refine z_aload_n hX dX5_doRally_8 0 rfl ?_
  refine z_iconst (v := 1) hX dX5_doRally_9 (by decide) ?_
  refine z_callV1 hX (ok_X5_fails l) cv_RX5_140 zRc10 dX5_doRally_10 (by decide) rfl rfl (Nat.le_of_ble_eq_true rfl) ?_
  exact z_iretI hX dX5_doRally_13 (by decide) rfl (fun _ h => h)
set_option maxHeartbeats 4000000 in
set_option maxRecDepth 100000 in
theorem no_ra2 (l : Launch) {g : zG} {κ : zKp} {μ : zMu} {ω : zOm} {a b : Nat → Int32} {i : Nat} (hn : bnI b) (hlt : i < bn b) (h1 : ¬ bf b i 7 = 1) : zM l g yX5_doRally cX5_doRally 3 (some .int) 3 0 [.ref (gA g 10 0 0), .int (nI i)] κ (zN μ a b) ω κ (zN μ (upd a 2 2) b) ω (some (.int 0)) := by
  refine zM_of (by decide) (Nat.le_of_ble_eq_true rfl) (fun p e R s m args below meth c hX => ?_)
  show zZ p l e R s m args below meth c g 3 _ _ _ _ 0 0 [(0, .ref (gA g 10 0 0)), (1, .int (nI i))] []
  refine z_aload_n hX dX5_doRally_0 0 rfl ?_
  refine z_iload_n hX dX5_doRally_1 1 rfl ?_
  refine z_callV1 hX (ok_X5_isLine l) cv_RX5_153 zRc10 dX5_doRally_2 (by decide) rfl rfl (Nat.le_of_ble_eq_true rfl) ?_
  refine z_isv (if_pos (isl_in hn hlt)) ?_
  refine z_if_ne (tgt := 14) hX dX5_doRally_5 (by decide) (fun h5 => ?_) (fun h5 => absurd h5 (by decide))
  refine z_aload_n hX dX5_doRally_14 0 rfl ?_
  refine z_iload_n hX dX5_doRally_15 1 rfl ?_
  refine z_bipush (v := 7) hX dX5_doRally_16 (by decide) ?_
  refine z_callV1 hX (ok_X5_of (w := 7) l (lt12 hn hlt) (by decide)) cv_RX5_58 zRc10 dX5_doRally_18 (by decide) rfl rfl (Nat.le_of_ble_eq_true rfl) ?_
  refine z_iconst (v := 1) hX dX5_doRally_21 (by decide) ?_
  refine z_icmp_eq (tgt := 31) hX dX5_doRally_22 (by decide) (fun h22 => absurd h22 h1) (fun h22 => ?_)
  refine z_aload_n hX dX5_doRally_25 0 rfl ?_
  refine z_iconst (v := 2) hX dX5_doRally_26 (by decide) ?_
  refine z_callV1 hX (ok_X5_fails l) cv_RX5_140 zRc10 dX5_doRally_27 (by decide) rfl rfl (Nat.le_of_ble_eq_true rfl) ?_
  exact z_iretI hX dX5_doRally_30 (by decide) rfl (fun _ h => h)
set_option maxHeartbeats 4000000 in
set_option maxRecDepth 100000 in
theorem no_ra3 (l : Launch) {g : zG} {κ : zKp} {μ : zMu} {ω : zOm} {a b : Nat → Int32} {i : Nat} (hn : bnI b) (hlt : i < bn b) (h1 : bf b i 7 = 1) (hL : lineW b i) (h2 : b (jq b i) = 0) : zM l g yX5_doRally cX5_doRally 3 (some .int) 3 0 [.ref (gA g 10 0 0), .int (nI i)] κ (zN μ a b) ω κ (zN μ (upd a 2 3) b) ω (some (.int 0)) := by
  refine zM_of (by decide) (Nat.le_of_ble_eq_true rfl) (fun p e R s m args below meth c hX => ?_)
  show zZ p l e R s m args below meth c g 3 _ _ _ _ 0 0 [(0, .ref (gA g 10 0 0)), (1, .int (nI i))] []
  refine z_aload_n hX dX5_doRally_0 0 rfl ?_
  refine z_iload_n hX dX5_doRally_1 1 rfl ?_
  refine z_callV1 hX (ok_X5_isLine l) cv_RX5_153 zRc10 dX5_doRally_2 (by decide) rfl rfl (Nat.le_of_ble_eq_true rfl) ?_
  refine z_isv (if_pos (isl_in hn hlt)) ?_
  refine z_if_ne (tgt := 14) hX dX5_doRally_5 (by decide) (fun h5 => ?_) (fun h5 => absurd h5 (by decide))
  refine z_aload_n hX dX5_doRally_14 0 rfl ?_
  refine z_iload_n hX dX5_doRally_15 1 rfl ?_
  refine z_bipush (v := 7) hX dX5_doRally_16 (by decide) ?_
  refine z_callV1 hX (ok_X5_of (w := 7) l (lt12 hn hlt) (by decide)) cv_RX5_58 zRc10 dX5_doRally_18 (by decide) rfl rfl (Nat.le_of_ble_eq_true rfl) ?_
  refine z_iconst (v := 1) hX dX5_doRally_21 (by decide) ?_
  refine z_icmp_eq (tgt := 31) hX dX5_doRally_22 (by decide) (fun h22 => ?_) (fun h22 => absurd h22 (Classical.not_not.mpr h1))
  rcases hL.1 with h3 | h3
  · skip
    refine z_iconst (v := 3) hX dX5_doRally_31 (by decide) ?_
    refine z_aload_n hX dX5_doRally_32 0 rfl ?_
    refine z_iload_n hX dX5_doRally_33 1 rfl ?_
    refine z_iconst (v := 0) hX dX5_doRally_34 (by decide) ?_
    refine z_callV1 hX (ok_X5_of (w := 0) l (lt12 hn hlt) (by decide)) cv_RX5_58 zRc10 dX5_doRally_35 (by decide) rfl rfl (Nat.le_of_ble_eq_true rfl) ?_
    refine z_iadd hX dX5_doRally_38 ?_
    refine z_isv (show 3 + bf b i 0 = nI 3 by rw [h3]; rfl) ?_
    refine z_istore_n (lv' := [(2, _), (0, _), (1, _)]) hX dX5_doRally_39 (by decide) rfl ?_
    refine z_aload_n hX dX5_doRally_40 1 rfl ?_
    refine zg_X5_s hX   fl_RX5_9 dX5_doRally_41 ?_
    refine z_iload_n hX dX5_doRally_44 0 rfl ?_
    refine za_s hX  rfl (by decide) dX5_doRally_45 ?_
    refine z_isv (show b 3 = b (jq b i) by unfold jq; rw [h3]; rfl) ?_
    refine z_if_ne (tgt := 55) hX dX5_doRally_46 (by decide) (fun h46 => absurd h46 (Classical.not_not.mpr h2)) (fun h46 => ?_)
    refine z_aload_n hX dX5_doRally_49 1 rfl ?_
    refine z_iconst (v := 3) hX dX5_doRally_50 (by decide) ?_
    refine z_callV1 hX (ok_X5_fails l) cv_RX5_140 zRc10 dX5_doRally_51 (by decide) rfl rfl (Nat.le_of_ble_eq_true rfl) ?_
    exact z_iretI hX dX5_doRally_54 (by decide) rfl (fun _ h => h)
  · skip
    refine z_iconst (v := 3) hX dX5_doRally_31 (by decide) ?_
    refine z_aload_n hX dX5_doRally_32 0 rfl ?_
    refine z_iload_n hX dX5_doRally_33 1 rfl ?_
    refine z_iconst (v := 0) hX dX5_doRally_34 (by decide) ?_
    refine z_callV1 hX (ok_X5_of (w := 0) l (lt12 hn hlt) (by decide)) cv_RX5_58 zRc10 dX5_doRally_35 (by decide) rfl rfl (Nat.le_of_ble_eq_true rfl) ?_
    refine z_iadd hX dX5_doRally_38 ?_
    refine z_isv (show 3 + bf b i 0 = nI 4 by rw [h3]; rfl) ?_
    refine z_istore_n (lv' := [(2, _), (0, _), (1, _)]) hX dX5_doRally_39 (by decide) rfl ?_
    refine z_aload_n hX dX5_doRally_40 1 rfl ?_
    refine zg_X5_s hX   fl_RX5_9 dX5_doRally_41 ?_
    refine z_iload_n hX dX5_doRally_44 0 rfl ?_
    refine za_s hX  rfl (by decide) dX5_doRally_45 ?_
    refine z_isv (show b 4 = b (jq b i) by unfold jq; rw [h3]; rfl) ?_
    refine z_if_ne (tgt := 55) hX dX5_doRally_46 (by decide) (fun h46 => absurd h46 (Classical.not_not.mpr h2)) (fun h46 => ?_)
    refine z_aload_n hX dX5_doRally_49 1 rfl ?_
    refine z_iconst (v := 3) hX dX5_doRally_50 (by decide) ?_
    refine z_callV1 hX (ok_X5_fails l) cv_RX5_140 zRc10 dX5_doRally_51 (by decide) rfl rfl (Nat.le_of_ble_eq_true rfl) ?_
    exact z_iretI hX dX5_doRally_54 (by decide) rfl (fun _ h => h)
set_option maxHeartbeats 4000000 in
set_option maxRecDepth 100000 in
theorem ok_ra (l : Launch) {g : zG} {κ : zKp} {μ : zMu} {ω : zOm} {a b : Nat → Int32} {i : Nat} (hn : bnI b) (hlt : i < bn b) (h1 : bf b i 7 = 1) (hL : lineW b i) (h2 : ¬ b (jq b i) = 0) : zM l g yX5_doRally cX5_doRally 3 (some .int) 3 0 [.ref (gA g 10 0 0), .int (nI i)] κ (zN μ a b) ω κ (zN μ a (ralB b i)) ω (some (.int (bf (ralB b i) i 5))) := by
  refine zM_of (by decide) (Nat.le_of_ble_eq_true rfl) (fun p e R s m args below meth c hX => ?_)
  show zZ p l e R s m args below meth c g 3 _ _ _ _ 0 0 [(0, .ref (gA g 10 0 0)), (1, .int (nI i))] []
  refine z_aload_n hX dX5_doRally_0 0 rfl ?_
  refine z_iload_n hX dX5_doRally_1 1 rfl ?_
  refine z_callV1 hX (ok_X5_isLine l) cv_RX5_153 zRc10 dX5_doRally_2 (by decide) rfl rfl (Nat.le_of_ble_eq_true rfl) ?_
  refine z_isv (if_pos (isl_in hn hlt)) ?_
  refine z_if_ne (tgt := 14) hX dX5_doRally_5 (by decide) (fun h5 => ?_) (fun h5 => absurd h5 (by decide))
  refine z_aload_n hX dX5_doRally_14 0 rfl ?_
  refine z_iload_n hX dX5_doRally_15 1 rfl ?_
  refine z_bipush (v := 7) hX dX5_doRally_16 (by decide) ?_
  refine z_callV1 hX (ok_X5_of (w := 7) l (lt12 hn hlt) (by decide)) cv_RX5_58 zRc10 dX5_doRally_18 (by decide) rfl rfl (Nat.le_of_ble_eq_true rfl) ?_
  refine z_iconst (v := 1) hX dX5_doRally_21 (by decide) ?_
  refine z_icmp_eq (tgt := 31) hX dX5_doRally_22 (by decide) (fun h22 => ?_) (fun h22 => absurd h22 (Classical.not_not.mpr h1))
  rcases hL.1 with h3 | h3
  · skip
    refine z_iconst (v := 3) hX dX5_doRally_31 (by decide) ?_
    refine z_aload_n hX dX5_doRally_32 0 rfl ?_
    refine z_iload_n hX dX5_doRally_33 1 rfl ?_
    refine z_iconst (v := 0) hX dX5_doRally_34 (by decide) ?_
    refine z_callV1 hX (ok_X5_of (w := 0) l (lt12 hn hlt) (by decide)) cv_RX5_58 zRc10 dX5_doRally_35 (by decide) rfl rfl (Nat.le_of_ble_eq_true rfl) ?_
    refine z_iadd hX dX5_doRally_38 ?_
    refine z_isv (show 3 + bf b i 0 = nI 3 by rw [h3]; rfl) ?_
    refine z_istore_n (lv' := [(2, _), (0, _), (1, _)]) hX dX5_doRally_39 (by decide) rfl ?_
    refine z_aload_n hX dX5_doRally_40 1 rfl ?_
    refine zg_X5_s hX   fl_RX5_9 dX5_doRally_41 ?_
    refine z_iload_n hX dX5_doRally_44 0 rfl ?_
    refine za_s hX  rfl (by decide) dX5_doRally_45 ?_
    refine z_isv (show b 3 = b (jq b i) by unfold jq; rw [h3]; rfl) ?_
    refine z_if_ne (tgt := 55) hX dX5_doRally_46 (by decide) (fun h46 => ?_) (fun h46 => absurd h46 h2)
    refine z_aload_n hX dX5_doRally_55 1 rfl ?_
    refine zg_X5_s hX   fl_RX5_9 dX5_doRally_56 ?_
    refine z_iload_n hX dX5_doRally_59 0 rfl ?_
    refine z_dup2 hX dX5_doRally_60 rfl rfl ?_
    refine za_s hX  rfl (by decide) dX5_doRally_61 ?_
    refine z_iconst (v := 1) hX dX5_doRally_62 (by decide) ?_
    refine z_isub hX dX5_doRally_63 ?_
    refine zs_s hX  rfl (by decide)  dX5_doRally_64 ?_
    refine z_world (μ' := zN μ a (useB b i)) (fun _ h => by rw [show useB b i = upd b 3 (b 3 - 1) by unfold useB jq; rw [h3]; rfl]; exact h) ?_
    refine z_aload_n hX dX5_doRally_65 1 rfl ?_
    refine z_iload_n hX dX5_doRally_66 2 rfl ?_
    refine z_iconst (v := 5) hX dX5_doRally_67 (by decide) ?_
    refine z_bipush (v := 20) hX dX5_doRally_68 (by decide) ?_
    refine z_aload_n hX dX5_doRally_70 1 rfl ?_
    refine z_iload_n hX dX5_doRally_71 2 rfl ?_
    refine z_iconst (v := 5) hX dX5_doRally_72 (by decide) ?_
    refine z_callV1 hX (ok_X5_of (w := 5) l (lt12 hn hlt) (by decide)) cv_RX5_58 zRc10 dX5_doRally_73 (by decide) rfl rfl (Nat.le_of_ble_eq_true rfl) ?_
    refine z_bipush (v := 6) hX dX5_doRally_76 (by decide) ?_
    refine z_iadd hX dX5_doRally_78 ?_
    refine z_min hX ml_RX5_109 dX5_doRally_79 (by decide) (Nat.le_of_ble_eq_true rfl) ?_
    refine z_callV0 hX (ok_X5_sets (w := 5) l (lt12 hn hlt) (by decide)) cv_RX5_74 zRc10 dX5_doRally_82 (by decide) rfl rfl (Nat.le_of_ble_eq_true rfl) ?_
    refine z_aload_n hX dX5_doRally_85 1 rfl ?_
    refine z_iload_n hX dX5_doRally_86 2 rfl ?_
    refine z_callV0 hX (ok_X5_restores l (lt12 hn hlt)) cv_RX5_112 zRc10 dX5_doRally_87 (by decide) rfl rfl (Nat.le_of_ble_eq_true rfl) ?_
    refine z_aload_n hX dX5_doRally_90 1 rfl ?_
    refine z_iload_n hX dX5_doRally_91 2 rfl ?_
    refine z_iconst (v := 5) hX dX5_doRally_92 (by decide) ?_
    refine z_callV1 hX (ok_X5_of (w := 5) l (lt12 hn hlt) (by decide)) cv_RX5_58 zRc10 dX5_doRally_93 (by decide) rfl rfl (Nat.le_of_ble_eq_true rfl) ?_
    exact z_iretI hX dX5_doRally_96 (by decide) rfl (fun _ h => h)
  · skip
    refine z_iconst (v := 3) hX dX5_doRally_31 (by decide) ?_
    refine z_aload_n hX dX5_doRally_32 0 rfl ?_
    refine z_iload_n hX dX5_doRally_33 1 rfl ?_
    refine z_iconst (v := 0) hX dX5_doRally_34 (by decide) ?_
    refine z_callV1 hX (ok_X5_of (w := 0) l (lt12 hn hlt) (by decide)) cv_RX5_58 zRc10 dX5_doRally_35 (by decide) rfl rfl (Nat.le_of_ble_eq_true rfl) ?_
    refine z_iadd hX dX5_doRally_38 ?_
    refine z_isv (show 3 + bf b i 0 = nI 4 by rw [h3]; rfl) ?_
    refine z_istore_n (lv' := [(2, _), (0, _), (1, _)]) hX dX5_doRally_39 (by decide) rfl ?_
    refine z_aload_n hX dX5_doRally_40 1 rfl ?_
    refine zg_X5_s hX   fl_RX5_9 dX5_doRally_41 ?_
    refine z_iload_n hX dX5_doRally_44 0 rfl ?_
    refine za_s hX  rfl (by decide) dX5_doRally_45 ?_
    refine z_isv (show b 4 = b (jq b i) by unfold jq; rw [h3]; rfl) ?_
    refine z_if_ne (tgt := 55) hX dX5_doRally_46 (by decide) (fun h46 => ?_) (fun h46 => absurd h46 h2)
    refine z_aload_n hX dX5_doRally_55 1 rfl ?_
    refine zg_X5_s hX   fl_RX5_9 dX5_doRally_56 ?_
    refine z_iload_n hX dX5_doRally_59 0 rfl ?_
    refine z_dup2 hX dX5_doRally_60 rfl rfl ?_
    refine za_s hX  rfl (by decide) dX5_doRally_61 ?_
    refine z_iconst (v := 1) hX dX5_doRally_62 (by decide) ?_
    refine z_isub hX dX5_doRally_63 ?_
    refine zs_s hX  rfl (by decide)  dX5_doRally_64 ?_
    refine z_world (μ' := zN μ a (useB b i)) (fun _ h => by rw [show useB b i = upd b 4 (b 4 - 1) by unfold useB jq; rw [h3]; rfl]; exact h) ?_
    refine z_aload_n hX dX5_doRally_65 1 rfl ?_
    refine z_iload_n hX dX5_doRally_66 2 rfl ?_
    refine z_iconst (v := 5) hX dX5_doRally_67 (by decide) ?_
    refine z_bipush (v := 20) hX dX5_doRally_68 (by decide) ?_
    refine z_aload_n hX dX5_doRally_70 1 rfl ?_
    refine z_iload_n hX dX5_doRally_71 2 rfl ?_
    refine z_iconst (v := 5) hX dX5_doRally_72 (by decide) ?_
    refine z_callV1 hX (ok_X5_of (w := 5) l (lt12 hn hlt) (by decide)) cv_RX5_58 zRc10 dX5_doRally_73 (by decide) rfl rfl (Nat.le_of_ble_eq_true rfl) ?_
    refine z_bipush (v := 6) hX dX5_doRally_76 (by decide) ?_
    refine z_iadd hX dX5_doRally_78 ?_
    refine z_min hX ml_RX5_109 dX5_doRally_79 (by decide) (Nat.le_of_ble_eq_true rfl) ?_
    refine z_callV0 hX (ok_X5_sets (w := 5) l (lt12 hn hlt) (by decide)) cv_RX5_74 zRc10 dX5_doRally_82 (by decide) rfl rfl (Nat.le_of_ble_eq_true rfl) ?_
    refine z_aload_n hX dX5_doRally_85 1 rfl ?_
    refine z_iload_n hX dX5_doRally_86 2 rfl ?_
    refine z_callV0 hX (ok_X5_restores l (lt12 hn hlt)) cv_RX5_112 zRc10 dX5_doRally_87 (by decide) rfl rfl (Nat.le_of_ble_eq_true rfl) ?_
    refine z_aload_n hX dX5_doRally_90 1 rfl ?_
    refine z_iload_n hX dX5_doRally_91 2 rfl ?_
    refine z_iconst (v := 5) hX dX5_doRally_92 (by decide) ?_
    refine z_callV1 hX (ok_X5_of (w := 5) l (lt12 hn hlt) (by decide)) cv_RX5_58 zRc10 dX5_doRally_93 (by decide) rfl rfl (Nat.le_of_ble_eq_true rfl) ?_
    exact z_iretI hX dX5_doRally_96 (by decide) rfl (fun _ h => h)
set_option maxHeartbeats 4000000 in
set_option maxRecDepth 100000 in
theorem ok_X5_addLine (l : Launch) {g : zG} {κ : zKp} {μ : zMu} {ω : zOm} {a b : Nat → Int32} {x y z v : Int32} (hA : fitB x y z v) (hn : bnI b) (hk : bn b < 12) (h1 : cellB b y (9 * x) < 0) {k0 : Nat} (hk0 : k0 ≤ 8) (hp : a 1 = nI k0) : zM l g yX5_addLine cX5_addLine 5 (some .int) 8 0 [.ref (gA g 10 0 0), .int x, .int y, .int z, .int v] κ (zN μ a b) ω κ (zN (zPu (zRm μ 2 b) k0 b) (upd (upd a 2 0) 1 (nI (mor k0))) (addB b x y z v)) ω (some (.int (nI (bn b)))) := by
  refine zM_of (by decide) (Nat.le_of_ble_eq_true rfl) (fun p e R s m args below meth c hX => ?_)
  show zZ p l e R s m args below meth c g 5 _ _ _ _ 0 0 [(0, .ref (gA g 10 0 0)), (1, .int x), (2, .int y), (3, .int z), (4, .int v)] []
  refine z_aload_n hX dX5_addLine_0 0 rfl ?_
  refine z_callV0 hX (ok_X5_keep l) cv_RX5_143 zRc10 dX5_addLine_1 (by decide) rfl rfl (Nat.le_of_ble_eq_true rfl) ?_
  refine z_aload_n hX dX5_addLine_4 0 rfl ?_
  refine z_aload_n hX dX5_addLine_5 0 rfl ?_
  refine z_iload_n hX dX5_addLine_6 1 rfl ?_
  refine z_iload_n hX dX5_addLine_7 2 rfl ?_
  refine z_iload_n hX dX5_addLine_8 3 rfl ?_
  refine z_iload hX dX5_addLine_9 4 rfl ?_
  refine z_callV1 hX (ok_do l hA hn hk h1) cv_RX5_146 zRc10 dX5_addLine_11 (by decide) rfl rfl (Nat.le_of_ble_eq_true rfl) ?_
  refine z_callV1 hX (ok_end l hk0 (show (0 : Int32) ≤ 0 from Int32.le_refl _) hp) cv_RX5_150 zRc10 dX5_addLine_14 (by decide) rfl rfl (Nat.le_of_ble_eq_true rfl) ?_
  exact z_iretI hX dX5_addLine_17 (by decide) rfl (fun _ h => by rw [zRm_s] at h; exact h)
set_option maxHeartbeats 4000000 in
set_option maxRecDepth 100000 in
theorem no1_addLine (l : Launch) {g : zG} {κ : zKp} {μ : zMu} {ω : zOm} {a b : Nat → Int32} {x y z v : Int32} (hx : ¬ fitB x y z v) : zM l g yX5_addLine cX5_addLine 5 (some .int) 8 0 [.ref (gA g 10 0 0), .int x, .int y, .int z, .int v] κ (zN μ a b) ω κ (zN (zRm μ 2 b) (upd (upd a 2 0) 2 1) b) ω (some (.int 0)) := by
  refine zM_of (by decide) (Nat.le_of_ble_eq_true rfl) (fun p e R s m args below meth c hX => ?_)
  show zZ p l e R s m args below meth c g 5 _ _ _ _ 0 0 [(0, .ref (gA g 10 0 0)), (1, .int x), (2, .int y), (3, .int z), (4, .int v)] []
  refine z_aload_n hX dX5_addLine_0 0 rfl ?_
  refine z_callV0 hX (ok_X5_keep l) cv_RX5_143 zRc10 dX5_addLine_1 (by decide) rfl rfl (Nat.le_of_ble_eq_true rfl) ?_
  refine z_aload_n hX dX5_addLine_4 0 rfl ?_
  refine z_aload_n hX dX5_addLine_5 0 rfl ?_
  refine z_iload_n hX dX5_addLine_6 1 rfl ?_
  refine z_iload_n hX dX5_addLine_7 2 rfl ?_
  refine z_iload_n hX dX5_addLine_8 3 rfl ?_
  refine z_iload hX dX5_addLine_9 4 rfl ?_
  refine z_callV1 hX (no_do1 l hx) cv_RX5_146 zRc10 dX5_addLine_11 (by decide) rfl rfl (Nat.le_of_ble_eq_true rfl) ?_
  refine z_callV1 hX (no_ends l (show ¬ (1 : Int32) ≤ 0 by decide)) cv_RX5_150 zRc10 dX5_addLine_14 (by decide) rfl rfl (Nat.le_of_ble_eq_true rfl) ?_
  exact z_iretI hX dX5_addLine_17 (by decide) rfl (fun _ h => by rw [zRm_s] at h; exact h)
set_option maxHeartbeats 4000000 in
set_option maxRecDepth 100000 in
theorem no2_addLine (l : Launch) {g : zG} {κ : zKp} {μ : zMu} {ω : zOm} {a b : Nat → Int32} {x y z v : Int32} (hA : fitB x y z v) (h0 : b 0 = 12) : zM l g yX5_addLine cX5_addLine 5 (some .int) 8 0 [.ref (gA g 10 0 0), .int x, .int y, .int z, .int v] κ (zN μ a b) ω κ (zN (zRm μ 2 b) (upd (upd a 2 0) 2 2) b) ω (some (.int 0)) := by
  refine zM_of (by decide) (Nat.le_of_ble_eq_true rfl) (fun p e R s m args below meth c hX => ?_)
  show zZ p l e R s m args below meth c g 5 _ _ _ _ 0 0 [(0, .ref (gA g 10 0 0)), (1, .int x), (2, .int y), (3, .int z), (4, .int v)] []
  refine z_aload_n hX dX5_addLine_0 0 rfl ?_
  refine z_callV0 hX (ok_X5_keep l) cv_RX5_143 zRc10 dX5_addLine_1 (by decide) rfl rfl (Nat.le_of_ble_eq_true rfl) ?_
  refine z_aload_n hX dX5_addLine_4 0 rfl ?_
  refine z_aload_n hX dX5_addLine_5 0 rfl ?_
  refine z_iload_n hX dX5_addLine_6 1 rfl ?_
  refine z_iload_n hX dX5_addLine_7 2 rfl ?_
  refine z_iload_n hX dX5_addLine_8 3 rfl ?_
  refine z_iload hX dX5_addLine_9 4 rfl ?_
  refine z_callV1 hX (no_do2 l hA h0) cv_RX5_146 zRc10 dX5_addLine_11 (by decide) rfl rfl (Nat.le_of_ble_eq_true rfl) ?_
  refine z_callV1 hX (no_ends l (show ¬ (2 : Int32) ≤ 0 by decide)) cv_RX5_150 zRc10 dX5_addLine_14 (by decide) rfl rfl (Nat.le_of_ble_eq_true rfl) ?_
  exact z_iretI hX dX5_addLine_17 (by decide) rfl (fun _ h => by rw [zRm_s] at h; exact h)
set_option maxHeartbeats 4000000 in
set_option maxRecDepth 100000 in
theorem no3_addLine (l : Launch) {g : zG} {κ : zKp} {μ : zMu} {ω : zOm} {a b : Nat → Int32} {x y z v : Int32} (hA : fitB x y z v) (hn : bnI b) (h0 : ¬ b 0 = 12) (h1 : ¬ cellB b y (9 * x) < 0) : zM l g yX5_addLine cX5_addLine 5 (some .int) 8 0 [.ref (gA g 10 0 0), .int x, .int y, .int z, .int v] κ (zN μ a b) ω κ (zN (zRm μ 2 b) (upd (upd a 2 0) 2 3) b) ω (some (.int 0)) := by
  refine zM_of (by decide) (Nat.le_of_ble_eq_true rfl) (fun p e R s m args below meth c hX => ?_)
  show zZ p l e R s m args below meth c g 5 _ _ _ _ 0 0 [(0, .ref (gA g 10 0 0)), (1, .int x), (2, .int y), (3, .int z), (4, .int v)] []
  refine z_aload_n hX dX5_addLine_0 0 rfl ?_
  refine z_callV0 hX (ok_X5_keep l) cv_RX5_143 zRc10 dX5_addLine_1 (by decide) rfl rfl (Nat.le_of_ble_eq_true rfl) ?_
  refine z_aload_n hX dX5_addLine_4 0 rfl ?_
  refine z_aload_n hX dX5_addLine_5 0 rfl ?_
  refine z_iload_n hX dX5_addLine_6 1 rfl ?_
  refine z_iload_n hX dX5_addLine_7 2 rfl ?_
  refine z_iload_n hX dX5_addLine_8 3 rfl ?_
  refine z_iload hX dX5_addLine_9 4 rfl ?_
  refine z_callV1 hX (no_do3 l hA hn h0 h1) cv_RX5_146 zRc10 dX5_addLine_11 (by decide) rfl rfl (Nat.le_of_ble_eq_true rfl) ?_
  refine z_callV1 hX (no_ends l (show ¬ (3 : Int32) ≤ 0 by decide)) cv_RX5_150 zRc10 dX5_addLine_14 (by decide) rfl rfl (Nat.le_of_ble_eq_true rfl) ?_
  exact z_iretI hX dX5_addLine_17 (by decide) rfl (fun _ h => by rw [zRm_s] at h; exact h)
set_option maxHeartbeats 4000000 in
set_option maxRecDepth 100000 in
theorem ok_X5_rally (l : Launch) {g : zG} {κ : zKp} {μ : zMu} {ω : zOm} {a b : Nat → Int32} {i : Nat} (hn : bnI b) (hlt : i < bn b) (h1 : bf b i 7 = 1) (hL : lineW b i) (h2 : ¬ b (jq b i) = 0) {k0 : Nat} (hk0 : k0 ≤ 8) (hp : a 1 = nI k0) : zM l g yX5_rally cX5_rally 2 (some .int) 8 0 [.ref (gA g 10 0 0), .int (nI i)] κ (zN μ a b) ω κ (zN (zPu (zRm μ 2 b) k0 b) (upd (upd a 2 0) 1 (nI (mor k0))) (ralB b i)) ω (some (.int (bf (ralB b i) i 5))) := by
  refine zM_of (by decide) (Nat.le_of_ble_eq_true rfl) (fun p e R s m args below meth c hX => ?_)
  show zZ p l e R s m args below meth c g 2 _ _ _ _ 0 0 [(0, .ref (gA g 10 0 0)), (1, .int (nI i))] []
  refine z_aload_n hX dX5_rally_0 0 rfl ?_
  refine z_callV0 hX (ok_X5_keep l) cv_RX5_143 zRc10 dX5_rally_1 (by decide) rfl rfl (Nat.le_of_ble_eq_true rfl) ?_
  refine z_aload_n hX dX5_rally_4 0 rfl ?_
  refine z_aload_n hX dX5_rally_5 0 rfl ?_
  refine z_iload_n hX dX5_rally_6 1 rfl ?_
  refine z_callV1 hX (ok_ra l hn hlt h1 hL h2) cv_RX5_162 zRc10 dX5_rally_7 (by decide) rfl rfl (Nat.le_of_ble_eq_true rfl) ?_
  refine z_callV1 hX (ok_end l hk0 (show (0 : Int32) ≤ 0 from Int32.le_refl _) hp) cv_RX5_150 zRc10 dX5_rally_10 (by decide) rfl rfl (Nat.le_of_ble_eq_true rfl) ?_
  exact z_iretI hX dX5_rally_13 (by decide) rfl (fun _ h => by rw [zRm_s] at h; exact h)
set_option maxHeartbeats 4000000 in
set_option maxRecDepth 100000 in
theorem no1_rally (l : Launch) {g : zG} {κ : zKp} {μ : zMu} {ω : zOm} {a b : Nat → Int32} {x : Int32} (hx : ¬ (0 ≤ x ∧ x ≤ b 0 - 1))  : zM l g yX5_rally cX5_rally 2 (some .int) 8 0 [.ref (gA g 10 0 0), .int x] κ (zN μ a b) ω κ (zN (zRm μ 2 b) (upd (upd a 2 0) 2 1) b) ω (some (.int 0)) := by
  refine zM_of (by decide) (Nat.le_of_ble_eq_true rfl) (fun p e R s m args below meth c hX => ?_)
  show zZ p l e R s m args below meth c g 2 _ _ _ _ 0 0 [(0, .ref (gA g 10 0 0)), (1, .int x)] []
  refine z_aload_n hX dX5_rally_0 0 rfl ?_
  refine z_callV0 hX (ok_X5_keep l) cv_RX5_143 zRc10 dX5_rally_1 (by decide) rfl rfl (Nat.le_of_ble_eq_true rfl) ?_
  refine z_aload_n hX dX5_rally_4 0 rfl ?_
  refine z_aload_n hX dX5_rally_5 0 rfl ?_
  refine z_iload_n hX dX5_rally_6 1 rfl ?_
  refine z_callV1 hX (no_ra1 l hx) cv_RX5_162 zRc10 dX5_rally_7 (by decide) rfl rfl (Nat.le_of_ble_eq_true rfl) ?_
  refine z_callV1 hX (no_ends l (show ¬ (1 : Int32) ≤ 0 by decide)) cv_RX5_150 zRc10 dX5_rally_10 (by decide) rfl rfl (Nat.le_of_ble_eq_true rfl) ?_
  exact z_iretI hX dX5_rally_13 (by decide) rfl (fun _ h => by rw [zRm_s] at h; exact h)
set_option maxHeartbeats 4000000 in
set_option maxRecDepth 100000 in
theorem no2_rally (l : Launch) {g : zG} {κ : zKp} {μ : zMu} {ω : zOm} {a b : Nat → Int32} {i : Nat} (hn : bnI b) (hlt : i < bn b) (h1 : ¬ bf b i 7 = 1) : zM l g yX5_rally cX5_rally 2 (some .int) 8 0 [.ref (gA g 10 0 0), .int (nI i)] κ (zN μ a b) ω κ (zN (zRm μ 2 b) (upd (upd a 2 0) 2 2) b) ω (some (.int 0)) := by
  refine zM_of (by decide) (Nat.le_of_ble_eq_true rfl) (fun p e R s m args below meth c hX => ?_)
  show zZ p l e R s m args below meth c g 2 _ _ _ _ 0 0 [(0, .ref (gA g 10 0 0)), (1, .int (nI i))] []
  refine z_aload_n hX dX5_rally_0 0 rfl ?_
  refine z_callV0 hX (ok_X5_keep l) cv_RX5_143 zRc10 dX5_rally_1 (by decide) rfl rfl (Nat.le_of_ble_eq_true rfl) ?_
  refine z_aload_n hX dX5_rally_4 0 rfl ?_
  refine z_aload_n hX dX5_rally_5 0 rfl ?_
  refine z_iload_n hX dX5_rally_6 1 rfl ?_
  refine z_callV1 hX (no_ra2 l hn hlt h1) cv_RX5_162 zRc10 dX5_rally_7 (by decide) rfl rfl (Nat.le_of_ble_eq_true rfl) ?_
  refine z_callV1 hX (no_ends l (show ¬ (2 : Int32) ≤ 0 by decide)) cv_RX5_150 zRc10 dX5_rally_10 (by decide) rfl rfl (Nat.le_of_ble_eq_true rfl) ?_
  exact z_iretI hX dX5_rally_13 (by decide) rfl (fun _ h => by rw [zRm_s] at h; exact h)
set_option maxHeartbeats 4000000 in
set_option maxRecDepth 100000 in
theorem no3_rally (l : Launch) {g : zG} {κ : zKp} {μ : zMu} {ω : zOm} {a b : Nat → Int32} {i : Nat} (hn : bnI b) (hlt : i < bn b) (h1 : bf b i 7 = 1) (hL : lineW b i) (h2 : b (jq b i) = 0) : zM l g yX5_rally cX5_rally 2 (some .int) 8 0 [.ref (gA g 10 0 0), .int (nI i)] κ (zN μ a b) ω κ (zN (zRm μ 2 b) (upd (upd a 2 0) 2 3) b) ω (some (.int 0)) := by
  refine zM_of (by decide) (Nat.le_of_ble_eq_true rfl) (fun p e R s m args below meth c hX => ?_)
  show zZ p l e R s m args below meth c g 2 _ _ _ _ 0 0 [(0, .ref (gA g 10 0 0)), (1, .int (nI i))] []
  refine z_aload_n hX dX5_rally_0 0 rfl ?_
  refine z_callV0 hX (ok_X5_keep l) cv_RX5_143 zRc10 dX5_rally_1 (by decide) rfl rfl (Nat.le_of_ble_eq_true rfl) ?_
  refine z_aload_n hX dX5_rally_4 0 rfl ?_
  refine z_aload_n hX dX5_rally_5 0 rfl ?_
  refine z_iload_n hX dX5_rally_6 1 rfl ?_
  refine z_callV1 hX (no_ra3 l hn hlt h1 hL h2) cv_RX5_162 zRc10 dX5_rally_7 (by decide) rfl rfl (Nat.le_of_ble_eq_true rfl) ?_
  refine z_callV1 hX (no_ends l (show ¬ (3 : Int32) ≤ 0 by decide)) cv_RX5_150 zRc10 dX5_rally_10 (by decide) rfl rfl (Nat.le_of_ble_eq_true rfl) ?_
  exact z_iretI hX dX5_rally_13 (by decide) rfl (fun _ h => by rw [zRm_s] at h; exact h)
set_option maxHeartbeats 4000000 in
set_option maxRecDepth 100000 in
theorem ok_X5_turn (l : Launch) {g : zG} {κ : zKp} {μ : zMu} {ω : zOm} {a b : Nat → Int32} (hI : batI b) {k0 : Nat} (hk0 : k0 ≤ 8) (hp : a 1 = nI k0) : zM l g yX5_turn cX5_turn 1 (some .int) 8 0 [.ref (gA g 10 0 0)] κ (zN μ a b) ω κ (zN (zPu (zRm μ 2 b) k0 b) (upd (upd a 2 0) 1 (nI (mor k0))) (passB b)) ω (some (.int (passB b 2 - b 2))) := by
  refine zM_of (by decide) (Nat.le_of_ble_eq_true rfl) (fun p e R s m args below meth c hX => ?_)
  show zZ p l e R s m args below meth c g 1 _ _ _ _ 0 0 [(0, .ref (gA g 10 0 0))] []
  refine z_aload_n hX dX5_turn_0 0 rfl ?_
  refine z_callV0 hX (ok_X5_keep l) cv_RX5_143 zRc10 dX5_turn_1 (by decide) rfl rfl (Nat.le_of_ble_eq_true rfl) ?_
  refine z_aload_n hX dX5_turn_4 0 rfl ?_
  refine z_aload_n hX dX5_turn_5 0 rfl ?_
  refine z_callV1 hX (ok_X5_passes l hI) cv_RX5_165 zRc10 dX5_turn_6 (by decide) rfl rfl (Nat.le_of_ble_eq_true rfl) ?_
  refine z_callV1 hX (ok_end l hk0 (show (0 : Int32) ≤ 0 from Int32.le_refl _) hp) cv_RX5_150 zRc10 dX5_turn_9 (by decide) rfl rfl (Nat.le_of_ble_eq_true rfl) ?_
  exact z_iretI hX dX5_turn_12 (by decide) rfl (fun _ h => by rw [zRm_s] at h; exact h)
set_option maxHeartbeats 4000000 in
set_option maxRecDepth 100000 in
theorem ok_X5_setOrder (l : Launch) {g : zG} {κ : zKp} {μ : zMu} {ω : zOm} {a b : Nat → Int32} {i : Nat} (hn : bnI b) (hlt : i < bn b) {x : Int32} (h1 : ordO x) (h2 : bf b i 7 = 0) (hL : lineW b i) {k0 : Nat} (hk0 : k0 ≤ 8) (hp : a 1 = nI k0) : zM l g yX5_setOrder cX5_setOrder 4 (some .char) 8 0 [.ref (gA g 10 0 0), .int (nI i), .int x] κ (zN μ a b) ω κ (zN (zPu (zRm μ 2 b) k0 b) (upd (upd a 2 0) 1 (nI (mor k0))) (bs b i 6 x)) ω (some (.int (bf b i 6))) := by
  refine zM_of (by decide) (Nat.le_of_ble_eq_true rfl) (fun p e R s m args below meth c hX => ?_)
  show zZ p l e R s m args below meth c g 4 _ _ _ _ 0 0 [(0, .ref (gA g 10 0 0)), (1, .int (nI i)), (2, .int x)] []
  refine z_aload_n hX dX5_setOrder_0 0 rfl ?_
  refine z_callV0 hX (ok_X5_keep l) cv_RX5_143 zRc10 dX5_setOrder_1 (by decide) rfl rfl (Nat.le_of_ble_eq_true rfl) ?_
  refine z_aload_n hX dX5_setOrder_4 0 rfl ?_
  refine z_aload_n hX dX5_setOrder_5 0 rfl ?_
  refine z_iload_n hX dX5_setOrder_6 1 rfl ?_
  refine z_iload_n hX dX5_setOrder_7 2 rfl ?_
  refine z_callV1 hX (ok_so l hn hlt h1 h2) cv_RX5_159 zRc10 dX5_setOrder_8 (by decide) rfl rfl (Nat.le_of_ble_eq_true rfl) ?_
  refine z_callV1 hX (ok_end l hk0 (show (0 : Int32) ≤ 0 from Int32.le_refl _) hp) cv_RX5_150 zRc10 dX5_setOrder_11 (by decide) rfl rfl (Nat.le_of_ble_eq_true rfl) ?_
  refine z_istore_n (lv' := [(3, _), (0, _), (1, _), (2, _)]) hX dX5_setOrder_14 (by decide) rfl ?_
  refine z_aload_n hX dX5_setOrder_15 1 rfl ?_
  refine zg_X5_thrown hX   fl_RX5_42 dX5_setOrder_16 ?_
  refine z_isv (show _ = (0 : Int32) from rfl) ?_
  refine z_if_le (tgt := 27) hX dX5_setOrder_19 (by decide) (fun h19 => ?_) (fun h19 => absurd h19 (by decide))
  refine z_iload_n hX dX5_setOrder_27 0 rfl ?_
  refine z_i2c hX dX5_setOrder_28 ?_
  refine z_isv (c16_o hL.2.2.2.2.2.2.1) ?_
  exact z_iret hX dX5_setOrder_29 (by decide) (char_o hL.2.2.2.2.2.2.1) rfl (fun _ h => by rw [zRm_s] at h; exact h)
set_option maxHeartbeats 4000000 in
set_option maxRecDepth 100000 in
theorem no1_setOrder (l : Launch) {g : zG} {κ : zKp} {μ : zMu} {ω : zOm} {a b : Nat → Int32} {x : Int32} (hx : ¬ (0 ≤ x ∧ x ≤ b 0 - 1)) {y : Int32} : zM l g yX5_setOrder cX5_setOrder 4 (some .char) 8 0 [.ref (gA g 10 0 0), .int x, .int y] κ (zN μ a b) ω κ (zN (zRm μ 2 b) (upd (upd a 2 0) 2 1) b) ω (some (.int 32)) := by
  refine zM_of (by decide) (Nat.le_of_ble_eq_true rfl) (fun p e R s m args below meth c hX => ?_)
  show zZ p l e R s m args below meth c g 4 _ _ _ _ 0 0 [(0, .ref (gA g 10 0 0)), (1, .int x), (2, .int y)] []
  refine z_aload_n hX dX5_setOrder_0 0 rfl ?_
  refine z_callV0 hX (ok_X5_keep l) cv_RX5_143 zRc10 dX5_setOrder_1 (by decide) rfl rfl (Nat.le_of_ble_eq_true rfl) ?_
  refine z_aload_n hX dX5_setOrder_4 0 rfl ?_
  refine z_aload_n hX dX5_setOrder_5 0 rfl ?_
  refine z_iload_n hX dX5_setOrder_6 1 rfl ?_
  refine z_iload_n hX dX5_setOrder_7 2 rfl ?_
  refine z_callV1 hX (no_so1 l hx) cv_RX5_159 zRc10 dX5_setOrder_8 (by decide) rfl rfl (Nat.le_of_ble_eq_true rfl) ?_
  refine z_callV1 hX (no_ends l (show ¬ (1 : Int32) ≤ 0 by decide)) cv_RX5_150 zRc10 dX5_setOrder_11 (by decide) rfl rfl (Nat.le_of_ble_eq_true rfl) ?_
  refine z_istore_n (lv' := [(3, _), (0, _), (1, _), (2, _)]) hX dX5_setOrder_14 (by decide) rfl ?_
  refine z_aload_n hX dX5_setOrder_15 1 rfl ?_
  refine zg_X5_thrown hX   fl_RX5_42 dX5_setOrder_16 ?_
  refine z_isv (show _ = (1 : Int32) from rfl) ?_
  refine z_if_le (tgt := 27) hX dX5_setOrder_19 (by decide) (fun h19 => absurd h19 (by decide)) (fun h19 => ?_)
  refine z_bipush (v := 32) hX dX5_setOrder_22 (by decide) ?_
  refine z_goto (tgt := 29) hX dX5_setOrder_24 (by decide) ?_
  exact z_iret hX dX5_setOrder_29 (by decide) rfl rfl (fun _ h => by rw [zRm_s] at h; exact h)
set_option maxHeartbeats 4000000 in
set_option maxRecDepth 100000 in
theorem no2_setOrder (l : Launch) {g : zG} {κ : zKp} {μ : zMu} {ω : zOm} {a b : Nat → Int32} {i : Nat} (hn : bnI b) (hlt : i < bn b) {x : Int32} (h1 : ¬ ordO x) : zM l g yX5_setOrder cX5_setOrder 4 (some .char) 8 0 [.ref (gA g 10 0 0), .int (nI i), .int x] κ (zN μ a b) ω κ (zN (zRm μ 2 b) (upd (upd a 2 0) 2 2) b) ω (some (.int 32)) := by
  refine zM_of (by decide) (Nat.le_of_ble_eq_true rfl) (fun p e R s m args below meth c hX => ?_)
  show zZ p l e R s m args below meth c g 4 _ _ _ _ 0 0 [(0, .ref (gA g 10 0 0)), (1, .int (nI i)), (2, .int x)] []
  refine z_aload_n hX dX5_setOrder_0 0 rfl ?_
  refine z_callV0 hX (ok_X5_keep l) cv_RX5_143 zRc10 dX5_setOrder_1 (by decide) rfl rfl (Nat.le_of_ble_eq_true rfl) ?_
  refine z_aload_n hX dX5_setOrder_4 0 rfl ?_
  refine z_aload_n hX dX5_setOrder_5 0 rfl ?_
  refine z_iload_n hX dX5_setOrder_6 1 rfl ?_
  refine z_iload_n hX dX5_setOrder_7 2 rfl ?_
  refine z_callV1 hX (no_so2 l hn hlt h1) cv_RX5_159 zRc10 dX5_setOrder_8 (by decide) rfl rfl (Nat.le_of_ble_eq_true rfl) ?_
  refine z_callV1 hX (no_ends l (show ¬ (2 : Int32) ≤ 0 by decide)) cv_RX5_150 zRc10 dX5_setOrder_11 (by decide) rfl rfl (Nat.le_of_ble_eq_true rfl) ?_
  refine z_istore_n (lv' := [(3, _), (0, _), (1, _), (2, _)]) hX dX5_setOrder_14 (by decide) rfl ?_
  refine z_aload_n hX dX5_setOrder_15 1 rfl ?_
  refine zg_X5_thrown hX   fl_RX5_42 dX5_setOrder_16 ?_
  refine z_isv (show _ = (2 : Int32) from rfl) ?_
  refine z_if_le (tgt := 27) hX dX5_setOrder_19 (by decide) (fun h19 => absurd h19 (by decide)) (fun h19 => ?_)
  refine z_bipush (v := 32) hX dX5_setOrder_22 (by decide) ?_
  refine z_goto (tgt := 29) hX dX5_setOrder_24 (by decide) ?_
  exact z_iret hX dX5_setOrder_29 (by decide) rfl rfl (fun _ h => by rw [zRm_s] at h; exact h)
set_option maxHeartbeats 4000000 in
set_option maxRecDepth 100000 in
theorem no3_setOrder (l : Launch) {g : zG} {κ : zKp} {μ : zMu} {ω : zOm} {a b : Nat → Int32} {i : Nat} (hn : bnI b) (hlt : i < bn b) {x : Int32} (h1 : ordO x) (h2 : ¬ bf b i 7 = 0) : zM l g yX5_setOrder cX5_setOrder 4 (some .char) 8 0 [.ref (gA g 10 0 0), .int (nI i), .int x] κ (zN μ a b) ω κ (zN (zRm μ 2 b) (upd (upd a 2 0) 2 3) b) ω (some (.int 32)) := by
  refine zM_of (by decide) (Nat.le_of_ble_eq_true rfl) (fun p e R s m args below meth c hX => ?_)
  show zZ p l e R s m args below meth c g 4 _ _ _ _ 0 0 [(0, .ref (gA g 10 0 0)), (1, .int (nI i)), (2, .int x)] []
  refine z_aload_n hX dX5_setOrder_0 0 rfl ?_
  refine z_callV0 hX (ok_X5_keep l) cv_RX5_143 zRc10 dX5_setOrder_1 (by decide) rfl rfl (Nat.le_of_ble_eq_true rfl) ?_
  refine z_aload_n hX dX5_setOrder_4 0 rfl ?_
  refine z_aload_n hX dX5_setOrder_5 0 rfl ?_
  refine z_iload_n hX dX5_setOrder_6 1 rfl ?_
  refine z_iload_n hX dX5_setOrder_7 2 rfl ?_
  refine z_callV1 hX (no_so3 l hn hlt h1 h2) cv_RX5_159 zRc10 dX5_setOrder_8 (by decide) rfl rfl (Nat.le_of_ble_eq_true rfl) ?_
  refine z_callV1 hX (no_ends l (show ¬ (3 : Int32) ≤ 0 by decide)) cv_RX5_150 zRc10 dX5_setOrder_11 (by decide) rfl rfl (Nat.le_of_ble_eq_true rfl) ?_
  refine z_istore_n (lv' := [(3, _), (0, _), (1, _), (2, _)]) hX dX5_setOrder_14 (by decide) rfl ?_
  refine z_aload_n hX dX5_setOrder_15 1 rfl ?_
  refine zg_X5_thrown hX   fl_RX5_42 dX5_setOrder_16 ?_
  refine z_isv (show _ = (3 : Int32) from rfl) ?_
  refine z_if_le (tgt := 27) hX dX5_setOrder_19 (by decide) (fun h19 => absurd h19 (by decide)) (fun h19 => ?_)
  refine z_bipush (v := 32) hX dX5_setOrder_22 (by decide) ?_
  refine z_goto (tgt := 29) hX dX5_setOrder_24 (by decide) ?_
  exact z_iret hX dX5_setOrder_29 (by decide) rfl rfl (fun _ h => by rw [zRm_s] at h; exact h)
set_option maxHeartbeats 4000000 in
set_option maxRecDepth 100000 in
theorem ok_X5_errorPosition (l : Launch) {g : zG} {κ : zKp} {μ : zMu} {ω : zOm} {a b : Nat → Int32} (h0 : 0 ≤ a 7) : zM l g yX5_errorPosition cX5_errorPosition 1 (some .int) 3 0 [.ref (gA g 10 0 0)] κ (zN μ a b) ω κ (zN μ (upd a 2 0) b) ω (some (.int (a 7))) := by
  refine zM_of (by decide) (Nat.le_of_ble_eq_true rfl) (fun p e R s m args below meth c hX => ?_)
  show zZ p l e R s m args below meth c g 1 _ _ _ _ 0 0 [(0, .ref (gA g 10 0 0))] []
  refine z_aload_n hX dX5_errorPosition_0 0 rfl ?_
  refine z_aload_n hX dX5_errorPosition_1 0 rfl ?_
  refine zg_X5_errorAt hX   fl_RX5_32 dX5_errorPosition_2 ?_
  refine z_if_lt (tgt := 12) hX dX5_errorPosition_5 (by decide) (fun h5 => absurd h5 (Int32.not_lt.mpr h0)) (fun h5 => ?_)
  refine z_iconst (v := 1) hX dX5_errorPosition_8 (by decide) ?_
  refine z_goto (tgt := 13) hX dX5_errorPosition_9 (by decide) ?_
  refine z_callV1 hX (ok_there1 l) cv_RX5_169 zRc10 dX5_errorPosition_13 (by decide) rfl rfl (Nat.le_of_ble_eq_true rfl) ?_
  refine z_if_eq (tgt := 26) hX dX5_errorPosition_16 (by decide) (fun h16 => absurd h16 (by decide)) (fun h16 => ?_)
  refine z_aload_n hX dX5_errorPosition_19 0 rfl ?_
  refine zg_X5_errorAt hX   fl_RX5_32 dX5_errorPosition_20 ?_
  refine z_goto (tgt := 27) hX dX5_errorPosition_23 (by decide) ?_
  exact z_iretI hX dX5_errorPosition_27 (by decide) rfl (fun _ h => h)
set_option maxHeartbeats 4000000 in
set_option maxRecDepth 100000 in
theorem no_X5_errorPosition (l : Launch) {g : zG} {κ : zKp} {μ : zMu} {ω : zOm} {a b : Nat → Int32} (h0 : a 7 < 0) : zM l g yX5_errorPosition cX5_errorPosition 1 (some .int) 3 0 [.ref (gA g 10 0 0)] κ (zN μ a b) ω κ (zN μ (upd a 2 1) b) ω (some (.int 0)) := by
  refine zM_of (by decide) (Nat.le_of_ble_eq_true rfl) (fun p e R s m args below meth c hX => ?_)
  show zZ p l e R s m args below meth c g 1 _ _ _ _ 0 0 [(0, .ref (gA g 10 0 0))] []
  refine z_aload_n hX dX5_errorPosition_0 0 rfl ?_
  refine z_aload_n hX dX5_errorPosition_1 0 rfl ?_
  refine zg_X5_errorAt hX   fl_RX5_32 dX5_errorPosition_2 ?_
  refine z_if_lt (tgt := 12) hX dX5_errorPosition_5 (by decide) (fun h5 => ?_) (fun h5 => absurd h5 (Classical.not_not.mpr h0))
  refine z_iconst (v := 0) hX dX5_errorPosition_12 (by decide) ?_
  refine z_callV1 hX (ok_there0 l) cv_RX5_169 zRc10 dX5_errorPosition_13 (by decide) rfl rfl (Nat.le_of_ble_eq_true rfl) ?_
  refine z_if_eq (tgt := 26) hX dX5_errorPosition_16 (by decide) (fun h16 => ?_) (fun h16 => absurd h16 (by decide))
  refine z_iconst (v := 0) hX dX5_errorPosition_26 (by decide) ?_
  exact z_iretI hX dX5_errorPosition_27 (by decide) rfl (fun _ h => h)
set_option maxHeartbeats 4000000 in
set_option maxRecDepth 100000 in
theorem ok_X5_failedCommand (l : Launch) {g : zG} {κ : zKp} {μ : zMu} {ω : zOm} {a b : Nat → Int32} (h0 : 0 ≤ a 8) : zM l g yX5_failedCommand cX5_failedCommand 1 (some .int) 3 0 [.ref (gA g 10 0 0)] κ (zN μ a b) ω κ (zN μ (upd a 2 0) b) ω (some (.int (a 8))) := by
  refine zM_of (by decide) (Nat.le_of_ble_eq_true rfl) (fun p e R s m args below meth c hX => ?_)
  show zZ p l e R s m args below meth c g 1 _ _ _ _ 0 0 [(0, .ref (gA g 10 0 0))] []
  refine z_aload_n hX dX5_failedCommand_0 0 rfl ?_
  refine z_aload_n hX dX5_failedCommand_1 0 rfl ?_
  refine zg_X5_failedAt hX   fl_RX5_36 dX5_failedCommand_2 ?_
  refine z_if_lt (tgt := 12) hX dX5_failedCommand_5 (by decide) (fun h5 => absurd h5 (Int32.not_lt.mpr h0)) (fun h5 => ?_)
  refine z_iconst (v := 1) hX dX5_failedCommand_8 (by decide) ?_
  refine z_goto (tgt := 13) hX dX5_failedCommand_9 (by decide) ?_
  refine z_callV1 hX (ok_there1 l) cv_RX5_169 zRc10 dX5_failedCommand_13 (by decide) rfl rfl (Nat.le_of_ble_eq_true rfl) ?_
  refine z_if_eq (tgt := 26) hX dX5_failedCommand_16 (by decide) (fun h16 => absurd h16 (by decide)) (fun h16 => ?_)
  refine z_aload_n hX dX5_failedCommand_19 0 rfl ?_
  refine zg_X5_failedAt hX   fl_RX5_36 dX5_failedCommand_20 ?_
  refine z_goto (tgt := 27) hX dX5_failedCommand_23 (by decide) ?_
  exact z_iretI hX dX5_failedCommand_27 (by decide) rfl (fun _ h => h)
set_option maxHeartbeats 4000000 in
set_option maxRecDepth 100000 in
theorem no_X5_failedCommand (l : Launch) {g : zG} {κ : zKp} {μ : zMu} {ω : zOm} {a b : Nat → Int32} (h0 : a 8 < 0) : zM l g yX5_failedCommand cX5_failedCommand 1 (some .int) 3 0 [.ref (gA g 10 0 0)] κ (zN μ a b) ω κ (zN μ (upd a 2 1) b) ω (some (.int 0)) := by
  refine zM_of (by decide) (Nat.le_of_ble_eq_true rfl) (fun p e R s m args below meth c hX => ?_)
  show zZ p l e R s m args below meth c g 1 _ _ _ _ 0 0 [(0, .ref (gA g 10 0 0))] []
  refine z_aload_n hX dX5_failedCommand_0 0 rfl ?_
  refine z_aload_n hX dX5_failedCommand_1 0 rfl ?_
  refine zg_X5_failedAt hX   fl_RX5_36 dX5_failedCommand_2 ?_
  refine z_if_lt (tgt := 12) hX dX5_failedCommand_5 (by decide) (fun h5 => ?_) (fun h5 => absurd h5 (Classical.not_not.mpr h0))
  refine z_iconst (v := 0) hX dX5_failedCommand_12 (by decide) ?_
  refine z_callV1 hX (ok_there0 l) cv_RX5_169 zRc10 dX5_failedCommand_13 (by decide) rfl rfl (Nat.le_of_ble_eq_true rfl) ?_
  refine z_if_eq (tgt := 26) hX dX5_failedCommand_16 (by decide) (fun h16 => ?_) (fun h16 => absurd h16 (by decide))
  refine z_iconst (v := 0) hX dX5_failedCommand_26 (by decide) ?_
  exact z_iretI hX dX5_failedCommand_27 (by decide) rfl (fun _ h => h)
end ZM5
