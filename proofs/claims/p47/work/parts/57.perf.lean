section ZPF
variable {p : Program} {l : Launch} {e : Env} {R : Room} {s : State} {m : MethodId} {args : Array Value} {below : List Frame} {meth : Method} {c : Code} {Q : State → Prop} {g : zG} {own : String} {cc : ByteArray} {n lvl mc : Nat} {ret : Option FieldType} {κ : zKp} {μ : zMu} {ω : zOm} {k pc : Nat} {lv : List (Nat × Value)} {st : List Value}
theorem zgt_initial (hX : zX p l s m args meth c R g own cc n ret lvl mc) {index : Nat} (hlink : Cond.fieldLink own index RX0 "initial" "C" ∈ gW) (d : decode cc pc = .ok (.getfield index, 3)) (kk : zZ p l e R s m args below meth c g n Q κ μ ω k (pc + 3) lv (.int (κ 2 0 2) :: st)) : zZ p l e R s m args below meth c g n Q κ μ ω k pc lv (.ref (gA g 2 0 0) :: st) := z_get hX (q := 3) zV2 rfl rfl win_X0 (by decide) rfl hlink rfl d kk
theorem zgt_first (hX : zX p l s m args meth c R g own cc n ret lvl mc) {index : Nat} (hlink : Cond.fieldLink own index RX0 "first" "I" ∈ gW) (d : decode cc pc = .ok (.getfield index, 3)) (kk : zZ p l e R s m args below meth c g n Q κ μ ω k (pc + 3) lv (.int (κ 2 0 3) :: st)) : zZ p l e R s m args below meth c g n Q κ μ ω k pc lv (.ref (gA g 2 0 0) :: st) := z_get hX (q := 4) zV2 rfl rfl win_X0 (by decide) rfl hlink rfl d kk
theorem zgt_second (hX : zX p l s m args meth c R g own cc n ret lvl mc) {index : Nat} (hlink : Cond.fieldLink own index RX0 "second" "I" ∈ gW) (d : decode cc pc = .ok (.getfield index, 3)) (kk : zZ p l e R s m args below meth c g n Q κ μ ω k (pc + 3) lv (.int (κ 2 0 4) :: st)) : zZ p l e R s m args below meth c g n Q κ μ ω k pc lv (.ref (gA g 2 0 0) :: st) := z_get hX (q := 5) zV2 rfl rfl win_X0 (by decide) rfl hlink rfl d kk
theorem zgt_sign (hX : zX p l s m args meth c R g own cc n ret lvl mc) {index : Nat} (hlink : Cond.fieldLink own index RX0 "sign" "C" ∈ gW) (d : decode cc pc = .ok (.getfield index, 3)) (kk : zZ p l e R s m args below meth c g n Q κ μ ω k (pc + 3) lv (.int (κ 2 0 5) :: st)) : zZ p l e R s m args below meth c g n Q κ μ ω k pc lv (.ref (gA g 2 0 0) :: st) := z_get hX (q := 6) zV2 rfl rfl win_X0 (by decide) rfl hlink rfl d kk
theorem zgt_number (hX : zX p l s m args meth c R g own cc n ret lvl mc) {index : Nat} (hlink : Cond.fieldLink own index RX0 "number" "I" ∈ gW) (d : decode cc pc = .ok (.getfield index, 3)) (kk : zZ p l e R s m args below meth c g n Q κ μ ω k (pc + 3) lv (.int (κ 2 0 6) :: st)) : zZ p l e R s m args below meth c g n Q κ μ ω k pc lv (.ref (gA g 2 0 0) :: st) := z_get hX (q := 7) zV2 rfl rfl win_X0 (by decide) rfl hlink rfl d kk
theorem zgt_position (hX : zX p l s m args meth c R g own cc n ret lvl mc) {index : Nat} (hlink : Cond.fieldLink own index RX0 "position" "I" ∈ gW) (d : decode cc pc = .ok (.getfield index, 3)) (kk : zZ p l e R s m args below meth c g n Q κ μ ω k (pc + 3) lv (.int (κ 2 0 1) :: st)) : zZ p l e R s m args below meth c g n Q κ μ ω k pc lv (.ref (gA g 2 0 0) :: st) := z_get hX (q := 2) zV2 rfl rfl win_X0 (by decide) rfl hlink rfl d kk
theorem zgt_length (hX : zX p l s m args meth c R g own cc n ret lvl mc) {index : Nat} (hlink : Cond.fieldLink own index RX0 "length" "I" ∈ gW) (d : decode cc pc = .ok (.getfield index, 3)) (kk : zZ p l e R s m args below meth c g n Q κ μ ω k (pc + 3) lv (.int (κ 2 0 0) :: st)) : zZ p l e R s m args below meth c g n Q κ μ ω k pc lv (.ref (gA g 2 0 0) :: st) := z_get hX (q := 1) zV2 rfl rfl win_X0 (by decide) rfl hlink rfl d kk
end ZPF
section ZPG
/-- a command's doing: the battle behind it, or none where it fails -/
def perB (g : zB) (xk xf xs xc xv : Int32) : Option zB :=
  if xk = 108 then (if fitB xf xs xc xv ∧ bn g < 12 ∧ cellB g xs (9 * xf) < 0 then some (addB g xf xs xc xv) else none)
  else if xk = 111 then (if (0 ≤ xv ∧ xv ≤ g 0 - 1) ∧ ordO xc ∧ bf g xv.toNatClampNeg 7 = 0 then some (bs g xv.toNatClampNeg 6 xc) else none)
  else if xk = 114 then (if (0 ≤ xv ∧ xv ≤ g 0 - 1) ∧ bf g xv.toNatClampNeg 7 = 1 ∧ ¬ g (jq g xv.toNatClampNeg) = 0 then some (ralB g xv.toNatClampNeg) else none)
  else some (passB g)
theorem ok_fit {x y z v : Int32} : okA x y z v ↔ fitB x y z v := by
  constructor
  · exact fun h => ⟨gl_side.mp h.1, gl_lane.mp h.2.1, h.2.2.1, h.2.2.2⟩
  · exact fun h => ⟨gl_side.mpr h.1, gl_lane.mpr h.2.1, h.2.2.1, h.2.2.2⟩
theorem in2 {x : Int32} (h : 0 ≤ x ∧ x < 2) : ∃ a, a < 2 ∧ x = nI a := in_of (n := 2) rfl (by decide) h.1 h.2
theorem nine_u {u : Nat} : 9 * nI u = nI (9 * u) := by rw [show (9 : Int32) = nI 9 from rfl, pk_mul]
theorem bn12 {g : zB} (h : batI g) : (bn g = 12 ∧ g 0 = 12) ∨ (bn g < 12 ∧ ¬ g 0 = 12) := by
  have h1 := h.1.1
  rcases Nat.lt_or_eq_of_le h1.1 with q | q
  · exact Or.inr ⟨q, ne_12 h1 q⟩
  · exact Or.inl ⟨q, by rw [h1.2, q]; rfl⟩
/-- what adding meets -/
theorem add_c {g : zB} (h : batI g) (x y z v : Int32) : (¬ fitB x y z v ∧ ¬ okA x y z v) ∨ ∃ u a, u < 2 ∧ a < 3 ∧ x = nI u ∧ y = nI a ∧ fitB x y z v ∧ okA x y z v ∧ ((bn g = 12 ∧ g 0 = 12) ∨ (bn g < 12 ∧ ¬ g 0 = 12 ∧ (∃ j, occB g (nI a) (nI (9 * u)) = some j) ∧ ¬ cellB g y (9 * x) < 0) ∨ (bn g < 12 ∧ ¬ g 0 = 12 ∧ occB g (nI a) (nI (9 * u)) = none ∧ cellB g y (9 * x) < 0)) := by
  by_cases hA : fitB x y z v
  · obtain ⟨u, hu, rfl⟩ := in2 (ok_fit.mpr hA).1
    obtain ⟨a, ha, rfl⟩ := in3 (ok_fit.mpr hA).2.1
    refine Or.inr ⟨u, a, hu, ha, rfl, rfl, hA, ok_fit.mpr hA, ?_⟩
    rcases bn12 h with q | q
    · exact Or.inl q
    · refine Or.inr ?_
      have hc : inCol (nI (9 * u)) := ⟨ge_i (by omega), le_i (b := 9) (by omega) (by decide)⟩
      rcases gl_occ h.1.1.1 (ok_fit.mpr hA).2.1 hc with ⟨h1, h2⟩ | ⟨j, h1, h2, -⟩
      · exact Or.inr ⟨q.1, q.2, h1, by rw [nine_u]; exact Int32.not_le.mp h2⟩
      · exact Or.inl ⟨q.1, q.2, ⟨j, h1⟩, by rw [nine_u]; exact Int32.not_lt.mpr h2⟩
  · exact Or.inl ⟨hA, fun q => hA (ok_fit.mp q)⟩
/-- what a number of a line meets -/
theorem num_c {g : zB} (h : batI g) (x : Int32) : ((x < 0 ∨ g 0 ≤ x) ∧ ¬ (0 ≤ x ∧ x ≤ g 0 - 1)) ∨ ∃ i, i < bn g ∧ x = nI i ∧ x.toNatClampNeg = i ∧ (0 ≤ x ∧ x ≤ g 0 - 1) ∧ lineW g i := by
  by_cases hA : 0 ≤ x ∧ x ≤ g 0 - 1
  · obtain ⟨i, hi, rfl⟩ := isl_of h.1.1 hA
    have h12 := h.1.1.1
    exact Or.inr ⟨i, hi, rfl, nI_clamp (by omega), hA, h.1.2.2.1 i hi⟩
  · exact Or.inl ⟨isl_out h.1.1 hA, hA⟩
theorem lineW7 {g : zB} {i : Nat} (h : lineW g i) : bf g i 7 = 0 ∨ bf g i 7 = 1 ∨ bf g i 7 = 2 := h.2.2.2.2.2.2.2
theorem n2_q {x : Int32} (h : x = 1) : ¬ x = 2 := by rw [h]; decide
/-- a command keeps the battle -/
theorem per_keep {g g' : zB} {xk xf xs xc xv : Int32} (h : batI g) (hp : perB g xk xf xs xc xv = some g') : batI g' := by
  unfold perB at hp
  by_cases k1 : xk = 108
  · rw [if_pos k1] at hp
    by_cases q : fitB xf xs xc xv ∧ bn g < 12 ∧ cellB g xs (9 * xf) < 0
    · rw [if_pos q] at hp; cases hp; exact batI_add h q.2.1 q.1 q.2.2
    · rw [if_neg q] at hp; cases hp
  · rw [if_neg k1] at hp
    by_cases k2 : xk = 111
    · rw [if_pos k2] at hp
      by_cases q : (0 ≤ xv ∧ xv ≤ g 0 - 1) ∧ ordO xc ∧ bf g xv.toNatClampNeg 7 = 0
      · rw [if_pos q] at hp; cases hp; exact batI_6 h q.2.1
      · rw [if_neg q] at hp; cases hp
    · rw [if_neg k2] at hp
      by_cases k3 : xk = 114
      · rw [if_pos k3] at hp
        by_cases q : (0 ≤ xv ∧ xv ≤ g 0 - 1) ∧ bf g xv.toNatClampNeg 7 = 1 ∧ ¬ g (jq g xv.toNatClampNeg) = 0
        · rw [if_pos q] at hp; cases hp
          obtain ⟨i, hi, e⟩ := isl_of h.1.1 q.1
          have h12 := h.1.1.1
          have e2 : xv.toNatClampNeg = i := by rw [e]; exact nI_clamp (by omega)
          rw [e2] at q ⊢
          rcases gl_jar (i := i) h with ⟨-, w⟩ | ⟨-, -, w⟩
          · exact absurd w q.2.2
          · exact batI_ral h hi (n2_q q.2.1) w
        · rw [if_neg q] at hp; cases hp
      · rw [if_neg k3] at hp; cases hp; exact batI_pass h













set_option maxHeartbeats 4000000 in
set_option maxRecDepth 100000 in
theorem pf_l1 (l : Launch) {g : zG} {κ : zKp} {μ : zMu} {ω : zOm} {gb cb : Nat → Int32} (hk : κ 2 0 2 = 108) {x y z v : Int32} (hf1 : κ 2 0 3 = x) (hf2 : κ 2 0 4 = y) (hf3 : κ 2 0 5 = z) (hf4 : κ 2 0 6 = v) (hx : ¬ okA x y z v)  : zM l g yX4_perform cX4_perform 1 (some .boolean) 9 0 [.ref (gA g 0 0 0)] (zF κ 0 gb cb) μ ω (zF κ 0 gb cb) μ ω (some (.int 0)) := by
  refine zM_of (by decide) (Nat.le_of_ble_eq_true rfl) (fun p e R s m args below meth c hX => ?_)
  show zZ p l e R s m args below meth c g 1 _ _ _ _ 0 0 [(0, .ref (gA g 0 0 0))] []
  refine z_aload_n hX dX4_perform_0 0 rfl ?_
  refine zg_X4_text hX   fl_RX4_32 dX4_perform_1 ?_
  refine zgt_initial hX fl_RX4_338 dX4_perform_4 ?_
  refine z_isv (show _ = 108 from hk) ?_
  refine z_bipush (v := 108) hX dX4_perform_7 (by decide) ?_
  refine z_icmp_ne (tgt := 91) hX dX4_perform_9 (by decide) (fun h9 => absurd h9 (fun q => q rfl)) (fun h9 => ?_)
  refine z_aload_n hX dX4_perform_12 0 rfl ?_
  refine zg_X4_field hX   fl_RX4_10 dX4_perform_13 ?_
  refine z_aload_n hX dX4_perform_16 0 rfl ?_
  refine zg_X4_text hX   fl_RX4_32 dX4_perform_17 ?_
  refine zgt_first hX fl_RX4_341 dX4_perform_20 ?_
  refine z_isv (show _ = x from hf1) ?_
  refine z_aload_n hX dX4_perform_23 0 rfl ?_
  refine zg_X4_text hX   fl_RX4_32 dX4_perform_24 ?_
  refine zgt_second hX fl_RX4_344 dX4_perform_27 ?_
  refine z_isv (show _ = y from hf2) ?_
  refine z_aload_n hX dX4_perform_30 0 rfl ?_
  refine zg_X4_text hX   fl_RX4_32 dX4_perform_31 ?_
  refine zgt_sign hX fl_RX4_347 dX4_perform_34 ?_
  refine z_isv (show _ = z from hf3) ?_
  refine z_aload_n hX dX4_perform_37 0 rfl ?_
  refine zg_X4_text hX   fl_RX4_32 dX4_perform_38 ?_
  refine zgt_number hX fl_RX4_350 dX4_perform_41 ?_
  refine z_isv (show _ = v from hf4) ?_
  refine z_callV1 hX (fa_1 l z0lt hx) cv_RX4_54 (zRc6 z0lt) dX4_perform_44 (by decide) rfl rfl (Nat.le_of_ble_eq_true rfl) ?_
  refine z_if_eq (tgt := 52) hX dX4_perform_47 (by decide) (fun h47 => absurd h47 (by decide)) (fun h47 => ?_)
  refine z_iconst (v := 0) hX dX4_perform_50 (by decide) ?_
  exact z_iret hX dX4_perform_51 (by decide) rfl rfl (fun _ h => h)
set_option maxHeartbeats 4000000 in
set_option maxRecDepth 100000 in
theorem pf_l2 (l : Launch) {g : zG} {κ : zKp} {μ : zMu} {ω : zOm} {gb cb : Nat → Int32} (hk : κ 2 0 2 = 108) {u a : Nat} {z v : Int32} (hf1 : κ 2 0 3 = nI u) (hf2 : κ 2 0 4 = nI a) (hf3 : κ 2 0 5 = z) (hf4 : κ 2 0 6 = v) (hA : okA (nI u) (nI a) z v) (hn : bnI gb) (hk12 : bn gb = 12)  : zM l g yX4_perform cX4_perform 1 (some .boolean) 9 0 [.ref (gA g 0 0 0)] (zF κ 0 gb cb) μ ω (zF κ 0 gb cb) μ ω (some (.int 0)) := by
  refine zM_of (by decide) (Nat.le_of_ble_eq_true rfl) (fun p e R s m args below meth c hX => ?_)
  show zZ p l e R s m args below meth c g 1 _ _ _ _ 0 0 [(0, .ref (gA g 0 0 0))] []
  refine z_aload_n hX dX4_perform_0 0 rfl ?_
  refine zg_X4_text hX   fl_RX4_32 dX4_perform_1 ?_
  refine zgt_initial hX fl_RX4_338 dX4_perform_4 ?_
  refine z_isv (show _ = 108 from hk) ?_
  refine z_bipush (v := 108) hX dX4_perform_7 (by decide) ?_
  refine z_icmp_ne (tgt := 91) hX dX4_perform_9 (by decide) (fun h9 => absurd h9 (fun q => q rfl)) (fun h9 => ?_)
  refine z_aload_n hX dX4_perform_12 0 rfl ?_
  refine zg_X4_field hX   fl_RX4_10 dX4_perform_13 ?_
  refine z_aload_n hX dX4_perform_16 0 rfl ?_
  refine zg_X4_text hX   fl_RX4_32 dX4_perform_17 ?_
  refine zgt_first hX fl_RX4_341 dX4_perform_20 ?_
  refine z_isv (show _ = nI u from hf1) ?_
  refine z_aload_n hX dX4_perform_23 0 rfl ?_
  refine zg_X4_text hX   fl_RX4_32 dX4_perform_24 ?_
  refine zgt_second hX fl_RX4_344 dX4_perform_27 ?_
  refine z_isv (show _ = nI a from hf2) ?_
  refine z_aload_n hX dX4_perform_30 0 rfl ?_
  refine zg_X4_text hX   fl_RX4_32 dX4_perform_31 ?_
  refine zgt_sign hX fl_RX4_347 dX4_perform_34 ?_
  refine z_isv (show _ = z from hf3) ?_
  refine z_aload_n hX dX4_perform_37 0 rfl ?_
  refine zg_X4_text hX   fl_RX4_32 dX4_perform_38 ?_
  refine zgt_number hX fl_RX4_350 dX4_perform_41 ?_
  refine z_isv (show _ = v from hf4) ?_
  refine z_callV1 hX (fa_3 l z0lt hA hn hk12) cv_RX4_54 (zRc6 z0lt) dX4_perform_44 (by decide) rfl rfl (Nat.le_of_ble_eq_true rfl) ?_
  refine z_if_eq (tgt := 52) hX dX4_perform_47 (by decide) (fun h47 => absurd h47 (by decide)) (fun h47 => ?_)
  refine z_iconst (v := 0) hX dX4_perform_50 (by decide) ?_
  exact z_iret hX dX4_perform_51 (by decide) rfl rfl (fun _ h => h)
set_option maxHeartbeats 4000000 in
set_option maxRecDepth 100000 in
theorem pf_l3 (l : Launch) {g : zG} {κ : zKp} {μ : zMu} {ω : zOm} {gb cb : Nat → Int32} (hk : κ 2 0 2 = 108) {u a : Nat} {z v : Int32} (hf1 : κ 2 0 3 = nI u) (hf2 : κ 2 0 4 = nI a) (hf3 : κ 2 0 5 = z) (hf4 : κ 2 0 6 = v) (hA : okA (nI u) (nI a) z v) (hn : bnI gb) (hu : u < 2) (ha : a < 3) (hc : cb = cellsOf gb) (hk12 : bn gb < 12) {j : Nat} (ho : occB gb (nI a) (nI (9 * u)) = some j)  : zM l g yX4_perform cX4_perform 1 (some .boolean) 9 0 [.ref (gA g 0 0 0)] (zF κ 0 gb cb) μ ω (zF κ 0 gb cb) μ ω (some (.int 0)) := by
  refine zM_of (by decide) (Nat.le_of_ble_eq_true rfl) (fun p e R s m args below meth c hX => ?_)
  show zZ p l e R s m args below meth c g 1 _ _ _ _ 0 0 [(0, .ref (gA g 0 0 0))] []
  refine z_aload_n hX dX4_perform_0 0 rfl ?_
  refine zg_X4_text hX   fl_RX4_32 dX4_perform_1 ?_
  refine zgt_initial hX fl_RX4_338 dX4_perform_4 ?_
  refine z_isv (show _ = 108 from hk) ?_
  refine z_bipush (v := 108) hX dX4_perform_7 (by decide) ?_
  refine z_icmp_ne (tgt := 91) hX dX4_perform_9 (by decide) (fun h9 => absurd h9 (fun q => q rfl)) (fun h9 => ?_)
  refine z_aload_n hX dX4_perform_12 0 rfl ?_
  refine zg_X4_field hX   fl_RX4_10 dX4_perform_13 ?_
  refine z_aload_n hX dX4_perform_16 0 rfl ?_
  refine zg_X4_text hX   fl_RX4_32 dX4_perform_17 ?_
  refine zgt_first hX fl_RX4_341 dX4_perform_20 ?_
  refine z_isv (show _ = nI u from hf1) ?_
  refine z_aload_n hX dX4_perform_23 0 rfl ?_
  refine zg_X4_text hX   fl_RX4_32 dX4_perform_24 ?_
  refine zgt_second hX fl_RX4_344 dX4_perform_27 ?_
  refine z_isv (show _ = nI a from hf2) ?_
  refine z_aload_n hX dX4_perform_30 0 rfl ?_
  refine zg_X4_text hX   fl_RX4_32 dX4_perform_31 ?_
  refine zgt_sign hX fl_RX4_347 dX4_perform_34 ?_
  refine z_isv (show _ = z from hf3) ?_
  refine z_aload_n hX dX4_perform_37 0 rfl ?_
  refine zg_X4_text hX   fl_RX4_32 dX4_perform_38 ?_
  refine zgt_number hX fl_RX4_350 dX4_perform_41 ?_
  refine z_isv (show _ = v from hf4) ?_
  refine z_callV1 hX (fa_4 l z0lt hA hn hu hc hk12 ho) cv_RX4_54 (zRc6 z0lt) dX4_perform_44 (by decide) rfl rfl (Nat.le_of_ble_eq_true rfl) ?_
  refine z_if_eq (tgt := 52) hX dX4_perform_47 (by decide) (fun h47 => absurd h47 (by decide)) (fun h47 => ?_)
  refine z_iconst (v := 0) hX dX4_perform_50 (by decide) ?_
  exact z_iret hX dX4_perform_51 (by decide) rfl rfl (fun _ h => h)
set_option maxHeartbeats 4000000 in
set_option maxRecDepth 100000 in
theorem pf_l0 (l : Launch) {g : zG} {κ : zKp} {μ : zMu} {ω : zOm} {gb cb : Nat → Int32} (hk : κ 2 0 2 = 108) {u a : Nat} {z v : Int32} (hf1 : κ 2 0 3 = nI u) (hf2 : κ 2 0 4 = nI a) (hf3 : κ 2 0 5 = z) (hf4 : κ 2 0 6 = v) (hA : okA (nI u) (nI a) z v) (hn : bnI gb) (hu : u < 2) (ha : a < 3) (hc : cb = cellsOf gb) (hk12 : bn gb < 12) (ho : occB gb (nI a) (nI (9 * u)) = none)  : zM l g yX4_perform cX4_perform 1 (some .boolean) 9 0 [.ref (gA g 0 0 0)] (zF κ 0 gb cb) μ ω (zF κ 0 (addB gb (nI u) (nI a) z v) (upd cb (a * 10 + 9 * u) (nI (bn gb)))) μ ω (some (.int 1)) := by
  refine zM_of (by decide) (Nat.le_of_ble_eq_true rfl) (fun p e R s m args below meth c hX => ?_)
  show zZ p l e R s m args below meth c g 1 _ _ _ _ 0 0 [(0, .ref (gA g 0 0 0))] []
  refine z_aload_n hX dX4_perform_0 0 rfl ?_
  refine zg_X4_text hX   fl_RX4_32 dX4_perform_1 ?_
  refine zgt_initial hX fl_RX4_338 dX4_perform_4 ?_
  refine z_isv (show _ = 108 from hk) ?_
  refine z_bipush (v := 108) hX dX4_perform_7 (by decide) ?_
  refine z_icmp_ne (tgt := 91) hX dX4_perform_9 (by decide) (fun h9 => absurd h9 (fun q => q rfl)) (fun h9 => ?_)
  refine z_aload_n hX dX4_perform_12 0 rfl ?_
  refine zg_X4_field hX   fl_RX4_10 dX4_perform_13 ?_
  refine z_aload_n hX dX4_perform_16 0 rfl ?_
  refine zg_X4_text hX   fl_RX4_32 dX4_perform_17 ?_
  refine zgt_first hX fl_RX4_341 dX4_perform_20 ?_
  refine z_isv (show _ = nI u from hf1) ?_
  refine z_aload_n hX dX4_perform_23 0 rfl ?_
  refine zg_X4_text hX   fl_RX4_32 dX4_perform_24 ?_
  refine zgt_second hX fl_RX4_344 dX4_perform_27 ?_
  refine z_isv (show _ = nI a from hf2) ?_
  refine z_aload_n hX dX4_perform_30 0 rfl ?_
  refine zg_X4_text hX   fl_RX4_32 dX4_perform_31 ?_
  refine zgt_sign hX fl_RX4_347 dX4_perform_34 ?_
  refine z_isv (show _ = z from hf3) ?_
  refine z_aload_n hX dX4_perform_37 0 rfl ?_
  refine zg_X4_text hX   fl_RX4_32 dX4_perform_38 ?_
  refine zgt_number hX fl_RX4_350 dX4_perform_41 ?_
  refine z_isv (show _ = v from hf4) ?_
  refine z_callV1 hX (fa_0 l z0lt hA hn hu hc hk12 ho) cv_RX4_54 (zRc6 z0lt) dX4_perform_44 (by decide) rfl rfl (Nat.le_of_ble_eq_true rfl) ?_
  refine z_if_eq (tgt := 52) hX dX4_perform_47 (by decide) (fun h47 => ?_) (fun h47 => absurd h47 (by decide))
  refine z_aload_n hX dX4_perform_52 0 rfl ?_
  refine zg_X4_field hX   fl_RX4_10 dX4_perform_53 ?_
  refine z_aload_n hX dX4_perform_56 0 rfl ?_
  refine zg_X4_text hX   fl_RX4_32 dX4_perform_57 ?_
  refine zgt_first hX fl_RX4_341 dX4_perform_60 ?_
  refine z_isv (show _ = nI u from hf1) ?_
  refine z_aload_n hX dX4_perform_63 0 rfl ?_
  refine zg_X4_text hX   fl_RX4_32 dX4_perform_64 ?_
  refine zgt_second hX fl_RX4_344 dX4_perform_67 ?_
  refine z_isv (show _ = nI a from hf2) ?_
  refine z_aload_n hX dX4_perform_70 0 rfl ?_
  refine zg_X4_text hX   fl_RX4_32 dX4_perform_71 ?_
  refine zgt_sign hX fl_RX4_347 dX4_perform_74 ?_
  refine z_isv (show _ = z from hf3) ?_
  refine z_aload_n hX dX4_perform_77 0 rfl ?_
  refine zg_X4_text hX   fl_RX4_32 dX4_perform_78 ?_
  refine zgt_number hX fl_RX4_350 dX4_perform_81 ?_
  refine z_isv (show _ = v from hf4) ?_
  refine z_callV1 hX (ok_X1_add l z0lt hn hk12 hu ha hA.2.2.1) cv_RX4_79 (zRc6 z0lt) dX4_perform_84 (by decide) rfl rfl (Nat.le_of_ble_eq_true rfl) ?_
  refine z_pop hX dX4_perform_87 rfl ?_
  refine z_goto (tgt := 211) hX dX4_perform_88 (by decide) ?_
  refine z_iconst (v := 1) hX dX4_perform_211 (by decide) ?_
  exact z_iret hX dX4_perform_212 (by decide) rfl rfl (fun _ h => h)
set_option maxHeartbeats 4000000 in
set_option maxRecDepth 100000 in
theorem pf_o1 (l : Launch) {g : zG} {κ : zKp} {μ : zMu} {ω : zOm} {gb cb : Nat → Int32} (hk : κ 2 0 2 = 111) {x z : Int32} (hf3 : κ 2 0 5 = z) (hf4 : κ 2 0 6 = x) (hx : x < 0 ∨ gb 0 ≤ x)  : zM l g yX4_perform cX4_perform 1 (some .boolean) 9 0 [.ref (gA g 0 0 0)] (zF κ 0 gb cb) μ ω (zF κ 0 gb cb) μ ω (some (.int 0)) := by
  refine zM_of (by decide) (Nat.le_of_ble_eq_true rfl) (fun p e R s m args below meth c hX => ?_)
  show zZ p l e R s m args below meth c g 1 _ _ _ _ 0 0 [(0, .ref (gA g 0 0 0))] []
  refine z_aload_n hX dX4_perform_0 0 rfl ?_
  refine zg_X4_text hX   fl_RX4_32 dX4_perform_1 ?_
  refine zgt_initial hX fl_RX4_338 dX4_perform_4 ?_
  refine z_isv (show _ = 111 from hk) ?_
  refine z_bipush (v := 108) hX dX4_perform_7 (by decide) ?_
  refine z_icmp_ne (tgt := 91) hX dX4_perform_9 (by decide) (fun h9 => ?_) (fun h9 => absurd h9 (by decide))
  refine z_aload_n hX dX4_perform_91 0 rfl ?_
  refine zg_X4_text hX   fl_RX4_32 dX4_perform_92 ?_
  refine zgt_initial hX fl_RX4_338 dX4_perform_95 ?_
  refine z_isv (show _ = 111 from hk) ?_
  refine z_bipush (v := 111) hX dX4_perform_98 (by decide) ?_
  refine z_icmp_ne (tgt := 154) hX dX4_perform_100 (by decide) (fun h100 => absurd h100 (fun q => q rfl)) (fun h100 => ?_)
  refine z_aload_n hX dX4_perform_103 0 rfl ?_
  refine zg_X4_field hX   fl_RX4_10 dX4_perform_104 ?_
  refine z_aload_n hX dX4_perform_107 0 rfl ?_
  refine zg_X4_text hX   fl_RX4_32 dX4_perform_108 ?_
  refine zgt_number hX fl_RX4_350 dX4_perform_111 ?_
  refine z_isv (show _ = x from hf4) ?_
  refine z_aload_n hX dX4_perform_114 0 rfl ?_
  refine zg_X4_text hX   fl_RX4_32 dX4_perform_115 ?_
  refine zgt_sign hX fl_RX4_347 dX4_perform_118 ?_
  refine z_isv (show _ = z from hf3) ?_
  refine z_callV1 hX (fo_2 l z0lt hx) cv_RX4_82 (zRc6 z0lt) dX4_perform_121 (by decide) rfl rfl (Nat.le_of_ble_eq_true rfl) ?_
  refine z_if_eq (tgt := 129) hX dX4_perform_124 (by decide) (fun h124 => absurd h124 (by decide)) (fun h124 => ?_)
  refine z_iconst (v := 0) hX dX4_perform_127 (by decide) ?_
  exact z_iret hX dX4_perform_128 (by decide) rfl rfl (fun _ h => h)
set_option maxHeartbeats 4000000 in
set_option maxRecDepth 100000 in
theorem pf_o2 (l : Launch) {g : zG} {κ : zKp} {μ : zMu} {ω : zOm} {gb cb : Nat → Int32} (hk : κ 2 0 2 = 111) {i : Nat} {z : Int32} (hf3 : κ 2 0 5 = z) (hf4 : κ 2 0 6 = nI i) (hn : bnI gb) (hlt : i < bn gb) (hz : ¬ ordO z)  : zM l g yX4_perform cX4_perform 1 (some .boolean) 9 0 [.ref (gA g 0 0 0)] (zF κ 0 gb cb) μ ω (zF κ 0 gb cb) μ ω (some (.int 0)) := by
  refine zM_of (by decide) (Nat.le_of_ble_eq_true rfl) (fun p e R s m args below meth c hX => ?_)
  show zZ p l e R s m args below meth c g 1 _ _ _ _ 0 0 [(0, .ref (gA g 0 0 0))] []
  refine z_aload_n hX dX4_perform_0 0 rfl ?_
  refine zg_X4_text hX   fl_RX4_32 dX4_perform_1 ?_
  refine zgt_initial hX fl_RX4_338 dX4_perform_4 ?_
  refine z_isv (show _ = 111 from hk) ?_
  refine z_bipush (v := 108) hX dX4_perform_7 (by decide) ?_
  refine z_icmp_ne (tgt := 91) hX dX4_perform_9 (by decide) (fun h9 => ?_) (fun h9 => absurd h9 (by decide))
  refine z_aload_n hX dX4_perform_91 0 rfl ?_
  refine zg_X4_text hX   fl_RX4_32 dX4_perform_92 ?_
  refine zgt_initial hX fl_RX4_338 dX4_perform_95 ?_
  refine z_isv (show _ = 111 from hk) ?_
  refine z_bipush (v := 111) hX dX4_perform_98 (by decide) ?_
  refine z_icmp_ne (tgt := 154) hX dX4_perform_100 (by decide) (fun h100 => absurd h100 (fun q => q rfl)) (fun h100 => ?_)
  refine z_aload_n hX dX4_perform_103 0 rfl ?_
  refine zg_X4_field hX   fl_RX4_10 dX4_perform_104 ?_
  refine z_aload_n hX dX4_perform_107 0 rfl ?_
  refine zg_X4_text hX   fl_RX4_32 dX4_perform_108 ?_
  refine zgt_number hX fl_RX4_350 dX4_perform_111 ?_
  refine z_isv (show _ = nI i from hf4) ?_
  refine z_aload_n hX dX4_perform_114 0 rfl ?_
  refine zg_X4_text hX   fl_RX4_32 dX4_perform_115 ?_
  refine zgt_sign hX fl_RX4_347 dX4_perform_118 ?_
  refine z_isv (show _ = z from hf3) ?_
  refine z_callV1 hX (fo_1 l z0lt hn hlt hz) cv_RX4_82 (zRc6 z0lt) dX4_perform_121 (by decide) rfl rfl (Nat.le_of_ble_eq_true rfl) ?_
  refine z_if_eq (tgt := 129) hX dX4_perform_124 (by decide) (fun h124 => absurd h124 (by decide)) (fun h124 => ?_)
  refine z_iconst (v := 0) hX dX4_perform_127 (by decide) ?_
  exact z_iret hX dX4_perform_128 (by decide) rfl rfl (fun _ h => h)
set_option maxHeartbeats 4000000 in
set_option maxRecDepth 100000 in
theorem pf_o3 (l : Launch) {g : zG} {κ : zKp} {μ : zMu} {ω : zOm} {gb cb : Nat → Int32} (hk : κ 2 0 2 = 111) {i : Nat} {z : Int32} (hf3 : κ 2 0 5 = z) (hf4 : κ 2 0 6 = nI i) (hn : bnI gb) (hlt : i < bn gb) (hz : ordO z) (h7 : ¬ bf gb i 7 = 0)  : zM l g yX4_perform cX4_perform 1 (some .boolean) 9 0 [.ref (gA g 0 0 0)] (zF κ 0 gb cb) μ ω (zF κ 0 gb cb) μ ω (some (.int 0)) := by
  refine zM_of (by decide) (Nat.le_of_ble_eq_true rfl) (fun p e R s m args below meth c hX => ?_)
  show zZ p l e R s m args below meth c g 1 _ _ _ _ 0 0 [(0, .ref (gA g 0 0 0))] []
  refine z_aload_n hX dX4_perform_0 0 rfl ?_
  refine zg_X4_text hX   fl_RX4_32 dX4_perform_1 ?_
  refine zgt_initial hX fl_RX4_338 dX4_perform_4 ?_
  refine z_isv (show _ = 111 from hk) ?_
  refine z_bipush (v := 108) hX dX4_perform_7 (by decide) ?_
  refine z_icmp_ne (tgt := 91) hX dX4_perform_9 (by decide) (fun h9 => ?_) (fun h9 => absurd h9 (by decide))
  refine z_aload_n hX dX4_perform_91 0 rfl ?_
  refine zg_X4_text hX   fl_RX4_32 dX4_perform_92 ?_
  refine zgt_initial hX fl_RX4_338 dX4_perform_95 ?_
  refine z_isv (show _ = 111 from hk) ?_
  refine z_bipush (v := 111) hX dX4_perform_98 (by decide) ?_
  refine z_icmp_ne (tgt := 154) hX dX4_perform_100 (by decide) (fun h100 => absurd h100 (fun q => q rfl)) (fun h100 => ?_)
  refine z_aload_n hX dX4_perform_103 0 rfl ?_
  refine zg_X4_field hX   fl_RX4_10 dX4_perform_104 ?_
  refine z_aload_n hX dX4_perform_107 0 rfl ?_
  refine zg_X4_text hX   fl_RX4_32 dX4_perform_108 ?_
  refine zgt_number hX fl_RX4_350 dX4_perform_111 ?_
  refine z_isv (show _ = nI i from hf4) ?_
  refine z_aload_n hX dX4_perform_114 0 rfl ?_
  refine zg_X4_text hX   fl_RX4_32 dX4_perform_115 ?_
  refine zgt_sign hX fl_RX4_347 dX4_perform_118 ?_
  refine z_isv (show _ = z from hf3) ?_
  refine z_callV1 hX (fo_3 l z0lt hn hlt hz h7) cv_RX4_82 (zRc6 z0lt) dX4_perform_121 (by decide) rfl rfl (Nat.le_of_ble_eq_true rfl) ?_
  refine z_if_eq (tgt := 129) hX dX4_perform_124 (by decide) (fun h124 => absurd h124 (by decide)) (fun h124 => ?_)
  refine z_iconst (v := 0) hX dX4_perform_127 (by decide) ?_
  exact z_iret hX dX4_perform_128 (by decide) rfl rfl (fun _ h => h)
set_option maxHeartbeats 4000000 in
set_option maxRecDepth 100000 in
theorem pf_o0 (l : Launch) {g : zG} {κ : zKp} {μ : zMu} {ω : zOm} {gb cb : Nat → Int32} (hk : κ 2 0 2 = 111) {i : Nat} {z : Int32} (hf3 : κ 2 0 5 = z) (hf4 : κ 2 0 6 = nI i) (hn : bnI gb) (hlt : i < bn gb) (hz : ordO z) (h7 : bf gb i 7 = 0) (hL : lineW gb i)  : zM l g yX4_perform cX4_perform 1 (some .boolean) 9 0 [.ref (gA g 0 0 0)] (zF κ 0 gb cb) μ ω (zF κ 0 (bs gb i 6 z) cb) μ ω (some (.int 1)) := by
  refine zM_of (by decide) (Nat.le_of_ble_eq_true rfl) (fun p e R s m args below meth c hX => ?_)
  show zZ p l e R s m args below meth c g 1 _ _ _ _ 0 0 [(0, .ref (gA g 0 0 0))] []
  refine z_aload_n hX dX4_perform_0 0 rfl ?_
  refine zg_X4_text hX   fl_RX4_32 dX4_perform_1 ?_
  refine zgt_initial hX fl_RX4_338 dX4_perform_4 ?_
  refine z_isv (show _ = 111 from hk) ?_
  refine z_bipush (v := 108) hX dX4_perform_7 (by decide) ?_
  refine z_icmp_ne (tgt := 91) hX dX4_perform_9 (by decide) (fun h9 => ?_) (fun h9 => absurd h9 (by decide))
  refine z_aload_n hX dX4_perform_91 0 rfl ?_
  refine zg_X4_text hX   fl_RX4_32 dX4_perform_92 ?_
  refine zgt_initial hX fl_RX4_338 dX4_perform_95 ?_
  refine z_isv (show _ = 111 from hk) ?_
  refine z_bipush (v := 111) hX dX4_perform_98 (by decide) ?_
  refine z_icmp_ne (tgt := 154) hX dX4_perform_100 (by decide) (fun h100 => absurd h100 (fun q => q rfl)) (fun h100 => ?_)
  refine z_aload_n hX dX4_perform_103 0 rfl ?_
  refine zg_X4_field hX   fl_RX4_10 dX4_perform_104 ?_
  refine z_aload_n hX dX4_perform_107 0 rfl ?_
  refine zg_X4_text hX   fl_RX4_32 dX4_perform_108 ?_
  refine zgt_number hX fl_RX4_350 dX4_perform_111 ?_
  refine z_isv (show _ = nI i from hf4) ?_
  refine z_aload_n hX dX4_perform_114 0 rfl ?_
  refine zg_X4_text hX   fl_RX4_32 dX4_perform_115 ?_
  refine zgt_sign hX fl_RX4_347 dX4_perform_118 ?_
  refine z_isv (show _ = z from hf3) ?_
  refine z_callV1 hX (fo_0 l z0lt hn hlt hz h7) cv_RX4_82 (zRc6 z0lt) dX4_perform_121 (by decide) rfl rfl (Nat.le_of_ble_eq_true rfl) ?_
  refine z_if_eq (tgt := 129) hX dX4_perform_124 (by decide) (fun h124 => ?_) (fun h124 => absurd h124 (by decide))
  refine z_aload_n hX dX4_perform_129 0 rfl ?_
  refine zg_X4_field hX   fl_RX4_10 dX4_perform_130 ?_
  refine z_aload_n hX dX4_perform_133 0 rfl ?_
  refine zg_X4_text hX   fl_RX4_32 dX4_perform_134 ?_
  refine zgt_number hX fl_RX4_350 dX4_perform_137 ?_
  refine z_isv (show _ = nI i from hf4) ?_
  refine z_aload_n hX dX4_perform_140 0 rfl ?_
  refine zg_X4_text hX   fl_RX4_32 dX4_perform_141 ?_
  refine zgt_sign hX fl_RX4_347 dX4_perform_144 ?_
  refine z_isv (show _ = z from hf3) ?_
  refine z_callV1 hX (ok_X1_giveOrder l z0lt hn hlt hL hz) cv_RX4_95 (zRc6 z0lt) dX4_perform_147 (by decide) rfl rfl (Nat.le_of_ble_eq_true rfl) ?_
  refine z_pop hX dX4_perform_150 rfl ?_
  refine z_goto (tgt := 211) hX dX4_perform_151 (by decide) ?_
  refine z_iconst (v := 1) hX dX4_perform_211 (by decide) ?_
  exact z_iret hX dX4_perform_212 (by decide) rfl rfl (fun _ h => h)
set_option maxHeartbeats 4000000 in
set_option maxRecDepth 100000 in
theorem pf_r1 (l : Launch) {g : zG} {κ : zKp} {μ : zMu} {ω : zOm} {gb cb : Nat → Int32} (hk : κ 2 0 2 = 114) {x : Int32} (hf4 : κ 2 0 6 = x) (hx : x < 0 ∨ gb 0 ≤ x)  : zM l g yX4_perform cX4_perform 1 (some .boolean) 9 0 [.ref (gA g 0 0 0)] (zF κ 0 gb cb) μ ω (zF κ 0 gb cb) μ ω (some (.int 0)) := by
  refine zM_of (by decide) (Nat.le_of_ble_eq_true rfl) (fun p e R s m args below meth c hX => ?_)
  show zZ p l e R s m args below meth c g 1 _ _ _ _ 0 0 [(0, .ref (gA g 0 0 0))] []
  refine z_aload_n hX dX4_perform_0 0 rfl ?_
  refine zg_X4_text hX   fl_RX4_32 dX4_perform_1 ?_
  refine zgt_initial hX fl_RX4_338 dX4_perform_4 ?_
  refine z_isv (show _ = 114 from hk) ?_
  refine z_bipush (v := 108) hX dX4_perform_7 (by decide) ?_
  refine z_icmp_ne (tgt := 91) hX dX4_perform_9 (by decide) (fun h9 => ?_) (fun h9 => absurd h9 (by decide))
  refine z_aload_n hX dX4_perform_91 0 rfl ?_
  refine zg_X4_text hX   fl_RX4_32 dX4_perform_92 ?_
  refine zgt_initial hX fl_RX4_338 dX4_perform_95 ?_
  refine z_isv (show _ = 114 from hk) ?_
  refine z_bipush (v := 111) hX dX4_perform_98 (by decide) ?_
  refine z_icmp_ne (tgt := 154) hX dX4_perform_100 (by decide) (fun h100 => ?_) (fun h100 => absurd h100 (by decide))
  refine z_aload_n hX dX4_perform_154 0 rfl ?_
  refine zg_X4_text hX   fl_RX4_32 dX4_perform_155 ?_
  refine zgt_initial hX fl_RX4_338 dX4_perform_158 ?_
  refine z_isv (show _ = 114 from hk) ?_
  refine z_bipush (v := 114) hX dX4_perform_161 (by decide) ?_
  refine z_icmp_ne (tgt := 203) hX dX4_perform_163 (by decide) (fun h163 => absurd h163 (fun q => q rfl)) (fun h163 => ?_)
  refine z_aload_n hX dX4_perform_166 0 rfl ?_
  refine zg_X4_field hX   fl_RX4_10 dX4_perform_167 ?_
  refine z_aload_n hX dX4_perform_170 0 rfl ?_
  refine zg_X4_text hX   fl_RX4_32 dX4_perform_171 ?_
  refine zgt_number hX fl_RX4_350 dX4_perform_174 ?_
  refine z_isv (show _ = x from hf4) ?_
  refine z_callV1 hX (fr_2 l z0lt hx) cv_RX4_99 (zRc6 z0lt) dX4_perform_177 (by decide) rfl rfl (Nat.le_of_ble_eq_true rfl) ?_
  refine z_if_eq (tgt := 185) hX dX4_perform_180 (by decide) (fun h180 => absurd h180 (by decide)) (fun h180 => ?_)
  refine z_iconst (v := 0) hX dX4_perform_183 (by decide) ?_
  exact z_iret hX dX4_perform_184 (by decide) rfl rfl (fun _ h => h)
set_option maxHeartbeats 4000000 in
set_option maxRecDepth 100000 in
theorem pf_r2 (l : Launch) {g : zG} {κ : zKp} {μ : zMu} {ω : zOm} {gb cb : Nat → Int32} (hk : κ 2 0 2 = 114) {i : Nat} (hf4 : κ 2 0 6 = nI i) (hn : bnI gb) (hlt : i < bn gb) (h1 : ¬ bf gb i 7 = 1)  : zM l g yX4_perform cX4_perform 1 (some .boolean) 9 0 [.ref (gA g 0 0 0)] (zF κ 0 gb cb) μ ω (zF κ 0 gb cb) μ ω (some (.int 0)) := by
  refine zM_of (by decide) (Nat.le_of_ble_eq_true rfl) (fun p e R s m args below meth c hX => ?_)
  show zZ p l e R s m args below meth c g 1 _ _ _ _ 0 0 [(0, .ref (gA g 0 0 0))] []
  refine z_aload_n hX dX4_perform_0 0 rfl ?_
  refine zg_X4_text hX   fl_RX4_32 dX4_perform_1 ?_
  refine zgt_initial hX fl_RX4_338 dX4_perform_4 ?_
  refine z_isv (show _ = 114 from hk) ?_
  refine z_bipush (v := 108) hX dX4_perform_7 (by decide) ?_
  refine z_icmp_ne (tgt := 91) hX dX4_perform_9 (by decide) (fun h9 => ?_) (fun h9 => absurd h9 (by decide))
  refine z_aload_n hX dX4_perform_91 0 rfl ?_
  refine zg_X4_text hX   fl_RX4_32 dX4_perform_92 ?_
  refine zgt_initial hX fl_RX4_338 dX4_perform_95 ?_
  refine z_isv (show _ = 114 from hk) ?_
  refine z_bipush (v := 111) hX dX4_perform_98 (by decide) ?_
  refine z_icmp_ne (tgt := 154) hX dX4_perform_100 (by decide) (fun h100 => ?_) (fun h100 => absurd h100 (by decide))
  refine z_aload_n hX dX4_perform_154 0 rfl ?_
  refine zg_X4_text hX   fl_RX4_32 dX4_perform_155 ?_
  refine zgt_initial hX fl_RX4_338 dX4_perform_158 ?_
  refine z_isv (show _ = 114 from hk) ?_
  refine z_bipush (v := 114) hX dX4_perform_161 (by decide) ?_
  refine z_icmp_ne (tgt := 203) hX dX4_perform_163 (by decide) (fun h163 => absurd h163 (fun q => q rfl)) (fun h163 => ?_)
  refine z_aload_n hX dX4_perform_166 0 rfl ?_
  refine zg_X4_field hX   fl_RX4_10 dX4_perform_167 ?_
  refine z_aload_n hX dX4_perform_170 0 rfl ?_
  refine zg_X4_text hX   fl_RX4_32 dX4_perform_171 ?_
  refine zgt_number hX fl_RX4_350 dX4_perform_174 ?_
  refine z_isv (show _ = nI i from hf4) ?_
  refine z_callV1 hX (fr_3 l z0lt hn hlt h1) cv_RX4_99 (zRc6 z0lt) dX4_perform_177 (by decide) rfl rfl (Nat.le_of_ble_eq_true rfl) ?_
  refine z_if_eq (tgt := 185) hX dX4_perform_180 (by decide) (fun h180 => absurd h180 (by decide)) (fun h180 => ?_)
  refine z_iconst (v := 0) hX dX4_perform_183 (by decide) ?_
  exact z_iret hX dX4_perform_184 (by decide) rfl rfl (fun _ h => h)
set_option maxHeartbeats 4000000 in
set_option maxRecDepth 100000 in
theorem pf_r3 (l : Launch) {g : zG} {κ : zKp} {μ : zMu} {ω : zOm} {gb cb : Nat → Int32} (hk : κ 2 0 2 = 114) {i : Nat} (hf4 : κ 2 0 6 = nI i) (hn : bnI gb) (hlt : i < bn gb) (h1 : bf gb i 7 = 1) (h2 : gb (jq gb i) ≤ 0)  : zM l g yX4_perform cX4_perform 1 (some .boolean) 9 0 [.ref (gA g 0 0 0)] (zF κ 0 gb cb) μ ω (zF κ 0 gb cb) μ ω (some (.int 0)) := by
  refine zM_of (by decide) (Nat.le_of_ble_eq_true rfl) (fun p e R s m args below meth c hX => ?_)
  show zZ p l e R s m args below meth c g 1 _ _ _ _ 0 0 [(0, .ref (gA g 0 0 0))] []
  refine z_aload_n hX dX4_perform_0 0 rfl ?_
  refine zg_X4_text hX   fl_RX4_32 dX4_perform_1 ?_
  refine zgt_initial hX fl_RX4_338 dX4_perform_4 ?_
  refine z_isv (show _ = 114 from hk) ?_
  refine z_bipush (v := 108) hX dX4_perform_7 (by decide) ?_
  refine z_icmp_ne (tgt := 91) hX dX4_perform_9 (by decide) (fun h9 => ?_) (fun h9 => absurd h9 (by decide))
  refine z_aload_n hX dX4_perform_91 0 rfl ?_
  refine zg_X4_text hX   fl_RX4_32 dX4_perform_92 ?_
  refine zgt_initial hX fl_RX4_338 dX4_perform_95 ?_
  refine z_isv (show _ = 114 from hk) ?_
  refine z_bipush (v := 111) hX dX4_perform_98 (by decide) ?_
  refine z_icmp_ne (tgt := 154) hX dX4_perform_100 (by decide) (fun h100 => ?_) (fun h100 => absurd h100 (by decide))
  refine z_aload_n hX dX4_perform_154 0 rfl ?_
  refine zg_X4_text hX   fl_RX4_32 dX4_perform_155 ?_
  refine zgt_initial hX fl_RX4_338 dX4_perform_158 ?_
  refine z_isv (show _ = 114 from hk) ?_
  refine z_bipush (v := 114) hX dX4_perform_161 (by decide) ?_
  refine z_icmp_ne (tgt := 203) hX dX4_perform_163 (by decide) (fun h163 => absurd h163 (fun q => q rfl)) (fun h163 => ?_)
  refine z_aload_n hX dX4_perform_166 0 rfl ?_
  refine zg_X4_field hX   fl_RX4_10 dX4_perform_167 ?_
  refine z_aload_n hX dX4_perform_170 0 rfl ?_
  refine zg_X4_text hX   fl_RX4_32 dX4_perform_171 ?_
  refine zgt_number hX fl_RX4_350 dX4_perform_174 ?_
  refine z_isv (show _ = nI i from hf4) ?_
  refine z_callV1 hX (fr_4 l z0lt hn hlt h1 h2) cv_RX4_99 (zRc6 z0lt) dX4_perform_177 (by decide) rfl rfl (Nat.le_of_ble_eq_true rfl) ?_
  refine z_if_eq (tgt := 185) hX dX4_perform_180 (by decide) (fun h180 => absurd h180 (by decide)) (fun h180 => ?_)
  refine z_iconst (v := 0) hX dX4_perform_183 (by decide) ?_
  exact z_iret hX dX4_perform_184 (by decide) rfl rfl (fun _ h => h)
set_option maxHeartbeats 4000000 in
set_option maxRecDepth 100000 in
theorem pf_r0 (l : Launch) {g : zG} {κ : zKp} {μ : zMu} {ω : zOm} {gb cb : Nat → Int32} (hk : κ 2 0 2 = 114) {i : Nat} (hf4 : κ 2 0 6 = nI i) (hn : bnI gb) (hlt : i < bn gb) (h1 : bf gb i 7 = 1) (h2 : ¬ gb (jq gb i) ≤ 0)  : zM l g yX4_perform cX4_perform 1 (some .boolean) 9 0 [.ref (gA g 0 0 0)] (zF κ 0 gb cb) μ ω (zF κ 0 (ralB gb i) cb) μ ω (some (.int 1)) := by
  refine zM_of (by decide) (Nat.le_of_ble_eq_true rfl) (fun p e R s m args below meth c hX => ?_)
  show zZ p l e R s m args below meth c g 1 _ _ _ _ 0 0 [(0, .ref (gA g 0 0 0))] []
  refine z_aload_n hX dX4_perform_0 0 rfl ?_
  refine zg_X4_text hX   fl_RX4_32 dX4_perform_1 ?_
  refine zgt_initial hX fl_RX4_338 dX4_perform_4 ?_
  refine z_isv (show _ = 114 from hk) ?_
  refine z_bipush (v := 108) hX dX4_perform_7 (by decide) ?_
  refine z_icmp_ne (tgt := 91) hX dX4_perform_9 (by decide) (fun h9 => ?_) (fun h9 => absurd h9 (by decide))
  refine z_aload_n hX dX4_perform_91 0 rfl ?_
  refine zg_X4_text hX   fl_RX4_32 dX4_perform_92 ?_
  refine zgt_initial hX fl_RX4_338 dX4_perform_95 ?_
  refine z_isv (show _ = 114 from hk) ?_
  refine z_bipush (v := 111) hX dX4_perform_98 (by decide) ?_
  refine z_icmp_ne (tgt := 154) hX dX4_perform_100 (by decide) (fun h100 => ?_) (fun h100 => absurd h100 (by decide))
  refine z_aload_n hX dX4_perform_154 0 rfl ?_
  refine zg_X4_text hX   fl_RX4_32 dX4_perform_155 ?_
  refine zgt_initial hX fl_RX4_338 dX4_perform_158 ?_
  refine z_isv (show _ = 114 from hk) ?_
  refine z_bipush (v := 114) hX dX4_perform_161 (by decide) ?_
  refine z_icmp_ne (tgt := 203) hX dX4_perform_163 (by decide) (fun h163 => absurd h163 (fun q => q rfl)) (fun h163 => ?_)
  refine z_aload_n hX dX4_perform_166 0 rfl ?_
  refine zg_X4_field hX   fl_RX4_10 dX4_perform_167 ?_
  refine z_aload_n hX dX4_perform_170 0 rfl ?_
  refine zg_X4_text hX   fl_RX4_32 dX4_perform_171 ?_
  refine zgt_number hX fl_RX4_350 dX4_perform_174 ?_
  refine z_isv (show _ = nI i from hf4) ?_
  refine z_callV1 hX (fr_0 l z0lt hn hlt h1 h2) cv_RX4_99 (zRc6 z0lt) dX4_perform_177 (by decide) rfl rfl (Nat.le_of_ble_eq_true rfl) ?_
  refine z_if_eq (tgt := 185) hX dX4_perform_180 (by decide) (fun h180 => ?_) (fun h180 => absurd h180 (by decide))
  refine z_aload_n hX dX4_perform_185 0 rfl ?_
  refine zg_X4_field hX   fl_RX4_10 dX4_perform_186 ?_
  refine z_aload_n hX dX4_perform_189 0 rfl ?_
  refine zg_X4_text hX   fl_RX4_32 dX4_perform_190 ?_
  refine zgt_number hX fl_RX4_350 dX4_perform_193 ?_
  refine z_isv (show _ = nI i from hf4) ?_
  refine z_callV1 hX (ok_X1_useJar l z0lt hn hlt) cv_RX4_107 (zRc6 z0lt) dX4_perform_196 (by decide) rfl rfl (Nat.le_of_ble_eq_true rfl) ?_
  refine z_pop hX dX4_perform_199 rfl ?_
  refine z_goto (tgt := 211) hX dX4_perform_200 (by decide) ?_
  refine z_iconst (v := 1) hX dX4_perform_211 (by decide) ?_
  exact z_iret hX dX4_perform_212 (by decide) rfl rfl (fun _ h => h)
set_option maxHeartbeats 4000000 in
set_option maxRecDepth 100000 in
theorem pf_t (l : Launch) {g : zG} {κ : zKp} {μ : zMu} {ω : zOm} {gb cb : Nat → Int32} {xk : Int32} (hk : κ 2 0 2 = xk) (hk1 : ¬ xk = 108) (hk2 : ¬ xk = 111) (hk3 : ¬ xk = 114) (hI : batI gb) (hc : cb = cellsOf gb)  : zM l g yX4_perform cX4_perform 1 (some .boolean) 9 0 [.ref (gA g 0 0 0)] (zF κ 0 gb cb) μ ω (zF κ 0 (passB gb) (cellsOf (passB gb))) μ ω (some (.int 1)) := by
  refine zM_of (by decide) (Nat.le_of_ble_eq_true rfl) (fun p e R s m args below meth c hX => ?_)
  show zZ p l e R s m args below meth c g 1 _ _ _ _ 0 0 [(0, .ref (gA g 0 0 0))] []
  refine z_aload_n hX dX4_perform_0 0 rfl ?_
  refine zg_X4_text hX   fl_RX4_32 dX4_perform_1 ?_
  refine zgt_initial hX fl_RX4_338 dX4_perform_4 ?_
  refine z_isv (show _ = xk from hk) ?_
  refine z_bipush (v := 108) hX dX4_perform_7 (by decide) ?_
  refine z_icmp_ne (tgt := 91) hX dX4_perform_9 (by decide) (fun h9 => ?_) (fun h9 => absurd h9 hk1)
  refine z_aload_n hX dX4_perform_91 0 rfl ?_
  refine zg_X4_text hX   fl_RX4_32 dX4_perform_92 ?_
  refine zgt_initial hX fl_RX4_338 dX4_perform_95 ?_
  refine z_isv (show _ = xk from hk) ?_
  refine z_bipush (v := 111) hX dX4_perform_98 (by decide) ?_
  refine z_icmp_ne (tgt := 154) hX dX4_perform_100 (by decide) (fun h100 => ?_) (fun h100 => absurd h100 hk2)
  refine z_aload_n hX dX4_perform_154 0 rfl ?_
  refine zg_X4_text hX   fl_RX4_32 dX4_perform_155 ?_
  refine zgt_initial hX fl_RX4_338 dX4_perform_158 ?_
  refine z_isv (show _ = xk from hk) ?_
  refine z_bipush (v := 114) hX dX4_perform_161 (by decide) ?_
  refine z_icmp_ne (tgt := 203) hX dX4_perform_163 (by decide) (fun h163 => ?_) (fun h163 => absurd h163 hk3)
  refine z_aload_n hX dX4_perform_203 0 rfl ?_
  refine zg_X4_field hX   fl_RX4_10 dX4_perform_204 ?_
  refine z_callV1 hX (ok_X1_passTurn l z0lt hI hc) cv_RX4_110 (zRc6 z0lt) dX4_perform_207 (by decide) rfl rfl (Nat.le_of_ble_eq_true rfl) ?_
  refine z_pop hX dX4_perform_210 rfl ?_
  refine z_iconst (v := 1) hX dX4_perform_211 (by decide) ?_
  exact z_iret hX dX4_perform_212 (by decide) rfl rfl (fun _ h => h)
/-- the class does a command -/
theorem ok_perform (l : Launch) {g : zG} {κ : zKp} {μ : zMu} {ω : zOm} {gb : Nat → Int32} (hI : batI gb) : (∃ g', perB gb (κ 2 0 2) (κ 2 0 3) (κ 2 0 4) (κ 2 0 5) (κ 2 0 6) = some g' ∧ zM l g yX4_perform cX4_perform 1 (some .boolean) 9 0 [.ref (gA g 0 0 0)] (zF κ 0 gb (cellsOf gb)) μ ω (zF κ 0 g' (cellsOf g')) μ ω (some (.int 1))) ∨ (perB gb (κ 2 0 2) (κ 2 0 3) (κ 2 0 4) (κ 2 0 5) (κ 2 0 6) = none ∧ zM l g yX4_perform cX4_perform 1 (some .boolean) 9 0 [.ref (gA g 0 0 0)] (zF κ 0 gb (cellsOf gb)) μ ω (zF κ 0 gb (cellsOf gb)) μ ω (some (.int 0))) := by
  have hn := hI.1.1
  unfold perB
  by_cases k1 : κ 2 0 2 = 108
  · rw [if_pos k1]
    rcases add_c hI (κ 2 0 3) (κ 2 0 4) (κ 2 0 5) (κ 2 0 6) with ⟨h1, h1'⟩ | ⟨u, w, hu, hw, eu, ew, hA, hA', h2⟩
    · rw [if_neg (fun q => h1 q.1)]
      exact Or.inr ⟨rfl, pf_l1 l k1 rfl rfl rfl rfl h1'⟩
    · have hA2 := hA'
      rw [eu, ew] at hA2
      rcases h2 with ⟨h2, h3⟩ | ⟨h2, h3, ⟨j, h5⟩, h4⟩ | ⟨h2, h3, h5, h4⟩
      · rw [if_neg (fun q => absurd q.2.1 (by omega))]
        exact Or.inr ⟨rfl, pf_l2 l k1 eu ew rfl rfl hA2 hn h2⟩
      · rw [if_neg (fun q => h4 q.2.2)]
        exact Or.inr ⟨rfl, pf_l3 l k1 eu ew rfl rfl hA2 hn hu hw rfl h2 h5⟩
      · rw [if_pos ⟨hA, h2, h4⟩]
        refine Or.inl ⟨_, rfl, ?_⟩
        have hA3 := hA
        have h4' := h4
        rw [eu, ew] at hA3 h4'
        rw [eu, ew, cells_add hI h2 hA3 hu hw h4']
        exact pf_l0 l k1 eu ew rfl rfl hA2 hn hu hw rfl h2 h5
  · rw [if_neg k1]
    by_cases k2 : κ 2 0 2 = 111
    · rw [if_pos k2]
      rcases num_c hI (κ 2 0 6) with ⟨h0, h1⟩ | ⟨i, hi, h1, h2, h3, hL⟩
      · rw [if_neg (fun q => h1 q.1)]
        exact Or.inr ⟨rfl, pf_o1 l k2 rfl rfl h0⟩
      · rw [h2]
        by_cases q1 : ordO (κ 2 0 5)
        · by_cases q2 : bf gb i 7 = 0
          · rw [if_pos ⟨h3, q1, q2⟩]
            refine Or.inl ⟨_, rfl, ?_⟩
            rw [cells_ord]
            exact pf_o0 l k2 rfl h1 hn hi q1 q2 hL
          · rw [if_neg (fun q => q2 q.2.2)]
            exact Or.inr ⟨rfl, pf_o3 l k2 rfl h1 hn hi q1 q2⟩
        · rw [if_neg (fun q => q1 q.2.1)]
          exact Or.inr ⟨rfl, pf_o2 l k2 rfl h1 hn hi q1⟩
    · rw [if_neg k2]
      by_cases k3 : κ 2 0 2 = 114
      · rw [if_pos k3]
        rcases num_c hI (κ 2 0 6) with ⟨h0, h1⟩ | ⟨i, hi, h1, h2, h3, hL⟩
        · rw [if_neg (fun q => h1 q.1)]
          exact Or.inr ⟨rfl, pf_r1 l k3 rfl h0⟩
        · rw [h2]
          by_cases q1 : bf gb i 7 = 1
          · rcases gl_jar (i := i) hI with ⟨w1, w2⟩ | ⟨w1, w2, -⟩
            · rw [if_neg (fun q => q.2.2 w2)]
              exact Or.inr ⟨rfl, pf_r3 l k3 h1 hn hi q1 w1⟩
            · rw [if_pos ⟨h3, q1, w2⟩]
              refine Or.inl ⟨_, rfl, ?_⟩
              rw [cells_ral (n2_q q1)]
              exact pf_r0 l k3 h1 hn hi q1 w1
          · rw [if_neg (fun q => q1 q.2.1)]
            exact Or.inr ⟨rfl, pf_r2 l k3 h1 hn hi q1⟩
      · rw [if_neg k3]
        exact Or.inl ⟨_, rfl, pf_t l rfl k1 k2 k3 hI rfl⟩
end ZPG
