section ZSD
theorem cmp_l {r : Option Ordering} (h : FP.cmpInt (-1) r = 0) : Op.cmpValue r .l = 0 := by
  cases r with
  | none => exact absurd h (by decide)
  | some o => cases o with
    | lt => exact absurd h (by decide)
    | eq => rfl
    | gt => exact absurd h (by decide)
theorem ff_cmp : ∀ a, a < 13 → ∀ b, b < 13 → 0 < b → FP.cmpInt (-1) (FP.fcmp (FP.fdiv (FP.i2f (nI a)) (FP.i2f (nI b))) (FP.fdiv (FP.i2f (nI a)) (FP.i2f (nI b)))) = 0 := by decide +kernel
/-- a sum over a side's lines -/
def sdF (g : zB) (x : Int32) (F : Nat → Int32) (k : Nat) : Int32 := if bf g k 0 = x then F k else 0
theorem sd_no {g : zB} {x : Int32} {F : Nat → Int32} {i : Nat} (h : ¬ bf g i 0 = x) : sm (sdF g x F) i = sm (sdF g x F) (i + 1) := by
  show _ = sm (sdF g x F) i + sdF g x F i
  rw [sdF, if_neg h, Int32.add_zero]
theorem sd_yes {g : zB} {x : Int32} {F : Nat → Int32} {i : Nat} (h : bf g i 0 = x) : sm (sdF g x F) i + F i = sm (sdF g x F) (i + 1) := by
  show _ = sm (sdF g x F) i + sdF g x F i
  rw [sdF, if_pos h]
theorem sd_both {g : zB} (hI : batI g) {F : Nat → Int32} : sm (sdF g 0 F) (bn g) + sm (sdF g 1 F) (bn g) = sm F (bn g) := by
  rw [← sm_add]
  refine sm_ext (fun k hk => ?_)
  unfold sdF
  rcases (hI.1.2.2.1 k hk).1 with q | q
  · rw [if_pos q, if_neg (by rw [q]; decide), Int32.add_zero]
  · rw [if_neg (by rw [q]; decide), if_pos q, Int32.zero_add]
def fdF (g : zB) (k : Nat) : Int32 := if bf g k 7 = 2 then 1 else 0
theorem sd_fal {g : zB} {x : Int32} : sm (sdF g x (fdF g)) (bn g) = falB g x := sm_ext (fun k _ => by
  unfold sdF falF fdF
  by_cases e : bf g k 0 = x
  · by_cases q : bf g k 7 = 2
    · rw [if_pos e, if_pos q, if_pos ⟨e, q⟩]
    · rw [if_pos e, if_neg q, if_neg (fun w => q w.2)]
  · rw [if_neg e, if_neg (fun w => e w.1)])
theorem sum_of {g : zB} (h : batI g) (x : Int32) : ∃ q, q ≤ 1188 ∧ sumB g x = nI q := by
  have key : ∀ n, n ≤ bn g → ∃ q, q ≤ 99 * n ∧ sm (strF g x) n = nI q := by
    intro n
    induction n with
    | zero => exact fun _ => ⟨0, by omega, rfl⟩
    | succ n ih =>
      intro hn
      obtain ⟨q, h1, h2⟩ := ih (by omega)
      obtain ⟨a, ha, ea⟩ := (h.1.2.2.1 n (by omega)).2.2.2.2.1
      show ∃ q, q ≤ 99 * (n + 1) ∧ sm (strF g x) n + strF g x n = nI q
      unfold strF
      by_cases e : bf g n 0 = x
      · rw [if_pos e, ea, show sm (fun k => if bf g k 0 = x then bf g k 4 else 0) n = sm (strF g x) n from rfl, h2, nI_add]
        exact ⟨q + a, by omega, rfl⟩
      · rw [if_neg e, Int32.add_zero]
        exact ⟨q, by omega, h2⟩
  have h12 := h.1.1.1
  obtain ⟨q, h1, h2⟩ := key (bn g) (Nat.le_refl _)
  exact ⟨q, by omega, h2⟩
theorem lead_c {g : zB} (h : batI g) : (sumB g 0 - sumB g 1 = 0 ↔ sumB g 0 = sumB g 1) ∧ (0 < sumB g 0 - sumB g 1 ↔ sumB g 1 < sumB g 0) := by
  obtain ⟨a, ha, ea⟩ := sum_of h 0
  obtain ⟨b, hb, eb⟩ := sum_of h 1
  rw [ea, eb]
  have e1 : (nI a).toInt = a := nI_toInt (by omega)
  have e2 : (nI b).toInt = b := nI_toInt (by omega)
  have e3 : (nI a - nI b).toInt = (a : Int) - b := by
    rw [Int32.toInt_sub, e1, e2]
    exact Int.bmod_eq_of_le (by omega) (by omega)
  refine ⟨⟨fun q => ?_, fun q => by rw [q]; exact Int32.sub_self _⟩, ?_⟩
  · have q2 := congrArg Int32.toInt q
    rw [e3, show (0 : Int32).toInt = 0 from rfl] at q2
    rw [show a = b by omega]
  · rw [Int32.lt_iff_toInt_lt, Int32.lt_iff_toInt_lt, e3, e1, e2, show (0 : Int32).toInt = 0 from rfl]
    omega
/-- the front, or none -/
def frL (g : zB) (x y : Int32) (k : Nat) : Int32 := if froN g x y k = -1 then -13 else froN g x y k
theorem fr_ne {x : Int32} {k : Nat} (hk : k < 10) : ¬ frC x k = -1 := fun q => by
  have h := (frC_in (x := x) hk).1
  rw [q] at h
  exact absurd h (by decide)
theorem fr_yes {g : zB} {x y : Int32} {k j : Nat} (hk : k < 10) (hn : bn g ≤ 12) (hy : 0 ≤ y ∧ y < 3) (ho : occB g y (frC x k) = some j) (h0 : bf g j 0 = x) : frL g x y (k + 1) = frC x k := by
  obtain ⟨h1, h2⟩ := occ_in hn hy (frC_in hk) ho
  have e : froN g x y (k + 1) = frC x k := by
    rw [froN]
    exact if_pos ⟨h1, by rw [h2]; exact h0⟩
  unfold frL
  rw [e, if_neg (fr_ne hk)]
theorem fr_no {g : zB} {x y : Int32} {k : Nat} (hk : k < 10) (hn : bn g ≤ 12) (hy : 0 ≤ y ∧ y < 3) (hc : occB g y (frC x k) = none ∨ ∃ j, occB g y (frC x k) = some j ∧ ¬ bf g j 0 = x) : frL g x y (k + 1) = frL g x y k := by
  have e : froN g x y (k + 1) = froN g x y k := by
    rw [froN]
    refine if_neg (fun q => ?_)
    rcases hc with ho | ⟨j, ho, hj⟩
    · exact occ_out hn hy (frC_in hk) ho q.1
    · obtain ⟨h1, h2⟩ := occ_in hn hy (frC_in hk) ho
      rw [h2] at q
      exact hj q.2
  unfold frL
  rw [e]
theorem in_fr (l : Launch) (hl0 : l.stackTraces = false) {g : zG} {κ : zKp} {μ ν : zMu} {ω : zOm} (h : RR κ μ) {x y : Int32} (hx : (0 ≤ x ∧ x < 2) ∧ (0 ≤ y ∧ y < 3)) : zMW l g yL_front cL_front 4 hh_front 20 1 [.ref (gA g 0 0 0), .int x, .int y] κ ν ω κ ν ω (frL (μ 1) x y 10) := by
  unfold frL
  by_cases h0 : froN (μ 1) x y 10 = -1
  · rw [if_pos h0]; exact go_front l hl0 h hx h0
  · rw [if_neg h0]; exact in_front l hl0 h hx h0
abbrev iA (g : zG) (N : Nat) (fn : Nat → Int32) : va_E := .inl (gQ g 1, N, .inl fn)
set_option maxHeartbeats 4000000 in
set_option maxRecDepth 100000 in
theorem sd_skip {p : Program} {l : Launch} {e : Env} {R : Room} {s : State} {m : MethodId} {args : Array Value} {below : List Frame} {meth : Method} {c : Code} {Q : State → Prop} {g : zG} {mc lvl : Nat} {κ : zKp} {μ ν : zMu} {ω : zOm} {k : Nat} (hX : zX p l s m args meth c R g RL cL_sides 13 (some .boolean) lvl mc) (hlv : 22 < lvl) (hl0 : l.stackTraces = false) (h : RR κ μ) {a x i : Nat} {fn : Nat → Int32} (hx : x < 2) (hlt : i < bn (μ 1)) {st th mo fa : Int32} (hk : k ≤ mc) (hs : ¬ bf (μ 1) i 0 = nI x) (kk : zZ p l e R s m args below meth c g 13 Q κ ν ((a, iA g 2 fn) :: ω) k 32 [(0, .ref (gA g 0 0 0)), (1, .int (μ 1 0)), (2, .int (st)), (3, .int (th)), (4, .int (mo)), (5, .ref a), (6, .int (nI x)), (7, .int (fa)), (8, .int (nI (i + 1)))] []) : zZ p l e R s m args below meth c g 13 Q κ ν (((a, iA g 2 fn) :: ω)) k 38 [(0, .ref (gA g 0 0 0)), (1, .int (μ 1 0)), (2, .int (st)), (3, .int (th)), (4, .int (mo)), (5, .ref a), (6, .int (nI x)), (7, .int (fa)), (8, .int (nI i))] [] := by
  refine z_aload_n hX dL_sides_38 0 rfl ?_
  refine z_iload hX dL_sides_39 8 rfl ?_
  refine z_callV1 hX (dm_sideOf l h hlt) cv_RL_30 zRc0 dL_sides_41 ⟨by omega, by decide, by omega⟩ rfl rfl (Nat.le_of_ble_eq_true rfl) ?_
  refine z_iload hX dL_sides_44 6 rfl ?_
  refine z_icmp_ne (tgt := 136) hX dL_sides_46 (by decide) (fun h46 => ?_) (fun h46 => absurd h46 (fun q => hs q))
  refine z_iinc (v := nI (i + 1)) (lv' := [(8, _), (0, _), (1, _), (2, _), (3, _), (4, _), (5, _), (6, _), (7, _)]) hX dL_sides_136 8 rfl (nI_1 i) (by decide) rfl ?_
  refine z_goto (tgt := 32) hX dL_sides_139 (by decide) ?_
  refine z_sub [1, 2, 3, 4, 5, 6, 7, 8, 0] rfl ?_
  exact kk
set_option maxHeartbeats 4000000 in
set_option maxRecDepth 100000 in
theorem sd_s {p : Program} {l : Launch} {e : Env} {R : Room} {s : State} {m : MethodId} {args : Array Value} {below : List Frame} {meth : Method} {c : Code} {Q : State → Prop} {g : zG} {mc lvl : Nat} {κ : zKp} {μ ν : zMu} {ω : zOm} {k : Nat} (hX : zX p l s m args meth c R g RL cL_sides 13 (some .boolean) lvl mc) (hlv : 22 < lvl) (hl0 : l.stackTraces = false) (h : RR κ μ) {a x i : Nat} {fn : Nat → Int32} (hx : x < 2) (hlt : i < bn (μ 1)) {st th mo fa : Int32} (hk : k ≤ mc) (hs : bf (μ 1) i 0 = nI x) (h7 : bf (μ 1) i 7 = 0) (kk : zZ p l e R s m args below meth c g 13 Q κ ν ((a, iA g 2 (upd fn x (fn x + bf (μ 1) i 4))) :: ω) k 32 [(0, .ref (gA g 0 0 0)), (1, .int (μ 1 0)), (2, .int (st + 1)), (3, .int (th + 1)), (4, .int (mo + bf (μ 1) i 5)), (5, .ref a), (6, .int (nI x)), (7, .int (fa + 0)), (8, .int (nI (i + 1)))] []) : zZ p l e R s m args below meth c g 13 Q κ ν (((a, iA g 2 fn) :: ω)) k 38 [(0, .ref (gA g 0 0 0)), (1, .int (μ 1 0)), (2, .int (st)), (3, .int (th)), (4, .int (mo)), (5, .ref a), (6, .int (nI x)), (7, .int (fa)), (8, .int (nI i))] [] := by
  refine z_aload_n hX dL_sides_38 0 rfl ?_
  refine z_iload hX dL_sides_39 8 rfl ?_
  refine z_callV1 hX (dm_sideOf l h hlt) cv_RL_30 zRc0 dL_sides_41 ⟨by omega, by decide, by omega⟩ rfl rfl (Nat.le_of_ble_eq_true rfl) ?_
  refine z_iload hX dL_sides_44 6 rfl ?_
  refine z_icmp_ne (tgt := 136) hX dL_sides_46 (by decide) (fun h46 => absurd h46 (fun q => q hs)) (fun h46 => ?_)
  refine z_aload_n hX dL_sides_49 0 rfl ?_
  refine z_iload hX dL_sides_50 8 rfl ?_
  refine z_callS1 hX (lw_isFallen l hl0 h hlt) cs_RL_199 dL_sides_52 ⟨by omega, by decide, by omega⟩ rfl rfl (Nat.le_of_ble_eq_true rfl) ?_
  refine z_isv (if_neg (by rw [h7]; decide)) ?_
  refine z_istore (lv' := [(9, _), (0, _), (1, _), (2, _), (3, _), (4, _), (5, _), (6, _), (7, _), (8, _)]) hX dL_sides_55 (by decide) rfl ?_
  refine z_aload hX dL_sides_57 6 rfl ?_
  refine z_iload hX dL_sides_59 7 rfl ?_
  refine z_dup2 hX dL_sides_61 rfl rfl ?_
  refine zq_iald hX (j := 0) rfl rfl (by omega) (by decide) dL_sides_62 ?_
  refine z_aload_n hX dL_sides_63 1 rfl ?_
  refine z_iload hX dL_sides_64 9 rfl ?_
  refine z_callV1 hX (dm_strengthOf l h hlt) cv_RL_45 zRc0 dL_sides_66 ⟨by omega, by decide, by omega⟩ rfl rfl (Nat.le_of_ble_eq_true rfl) ?_
  refine z_iadd hX dL_sides_69 ?_
  refine zq_iast hX (j := 0) rfl rfl (by omega) (by decide) dL_sides_70 ?_
  refine z_iload hX dL_sides_71 8 rfl ?_
  refine z_iload hX dL_sides_73 0 rfl ?_
  refine z_if_eq (tgt := 82) hX dL_sides_75 (by decide) (fun h75 => ?_) (fun h75 => absurd h75 (by decide))
  refine z_iconst (v := 0) hX dL_sides_82 (by decide) ?_
  refine z_iadd hX dL_sides_83 ?_
  refine z_istore (lv' := [(7, _), (9, _), (0, _), (1, _), (2, _), (3, _), (4, _), (5, _), (6, _), (8, _)]) hX dL_sides_84 (by decide) rfl ?_
  refine z_iload_n hX dL_sides_86 5 rfl ?_
  refine z_iload hX dL_sides_87 1 rfl ?_
  refine z_if_eq (tgt := 96) hX dL_sides_89 (by decide) (fun h89 => ?_) (fun h89 => absurd h89 (by decide))
  refine z_iconst (v := 1) hX dL_sides_96 (by decide) ?_
  refine z_iadd hX dL_sides_97 ?_
  refine z_istore_n (lv' := [(3, _), (7, _), (9, _), (0, _), (1, _), (2, _), (4, _), (5, _), (6, _), (8, _)]) hX dL_sides_98 (by decide) rfl ?_
  refine z_iload hX dL_sides_99 6 rfl ?_
  refine z_iload hX dL_sides_101 2 rfl ?_
  refine z_if_eq (tgt := 110) hX dL_sides_103 (by decide) (fun h103 => ?_) (fun h103 => absurd h103 (by decide))
  refine z_aload_n hX dL_sides_110 3 rfl ?_
  refine z_iload hX dL_sides_111 9 rfl ?_
  refine z_callV1 hX (dm_moraleOf l h hlt) cv_RL_48 zRc0 dL_sides_113 ⟨by omega, by decide, by omega⟩ rfl rfl (Nat.le_of_ble_eq_true rfl) ?_
  refine z_iadd hX dL_sides_116 ?_
  refine z_istore (lv' := [(4, _), (3, _), (7, _), (9, _), (0, _), (1, _), (2, _), (5, _), (6, _), (8, _)]) hX dL_sides_117 (by decide) rfl ?_
  refine z_iload_n hX dL_sides_119 6 rfl ?_
  refine z_aload_n hX dL_sides_120 4 rfl ?_
  refine z_iload hX dL_sides_121 9 rfl ?_
  refine z_callV1 hX (dm_isStanding l h hlt) cv_RL_54 zRc0 dL_sides_123 ⟨by omega, by decide, by omega⟩ rfl rfl (Nat.le_of_ble_eq_true rfl) ?_
  refine z_isv (if_pos h7) ?_
  refine z_if_eq (tgt := 133) hX dL_sides_126 (by decide) (fun h126 => absurd h126 (by decide)) (fun h126 => ?_)
  refine z_iconst (v := 1) hX dL_sides_129 (by decide) ?_
  refine z_goto (tgt := 134) hX dL_sides_130 (by decide) ?_
  refine z_iadd hX dL_sides_134 ?_
  refine z_istore_n (lv' := [(2, _), (4, _), (3, _), (7, _), (9, _), (0, _), (1, _), (5, _), (6, _), (8, _)]) hX dL_sides_135 (by decide) rfl ?_
  refine z_iinc (v := nI (i + 1)) (lv' := [(8, _), (2, _), (4, _), (3, _), (7, _), (9, _), (0, _), (1, _), (5, _), (6, _)]) hX dL_sides_136 9 rfl (nI_1 i) (by decide) rfl ?_
  refine z_goto (tgt := 32) hX dL_sides_139 (by decide) ?_
  refine z_sub [6, 7, 1, 3, 2, 8, 9, 4, 0] rfl ?_
  exact kk
set_option maxHeartbeats 4000000 in
set_option maxRecDepth 100000 in
theorem sd_r {p : Program} {l : Launch} {e : Env} {R : Room} {s : State} {m : MethodId} {args : Array Value} {below : List Frame} {meth : Method} {c : Code} {Q : State → Prop} {g : zG} {mc lvl : Nat} {κ : zKp} {μ ν : zMu} {ω : zOm} {k : Nat} (hX : zX p l s m args meth c R g RL cL_sides 13 (some .boolean) lvl mc) (hlv : 22 < lvl) (hl0 : l.stackTraces = false) (h : RR κ μ) {a x i : Nat} {fn : Nat → Int32} (hx : x < 2) (hlt : i < bn (μ 1)) {st th mo fa : Int32} (hk : k ≤ mc) (hs : bf (μ 1) i 0 = nI x) (h7 : bf (μ 1) i 7 = 1) (kk : zZ p l e R s m args below meth c g 13 Q κ ν ((a, iA g 2 (upd fn x (fn x + bf (μ 1) i 4))) :: ω) k 32 [(0, .ref (gA g 0 0 0)), (1, .int (μ 1 0)), (2, .int (st + 0)), (3, .int (th + 1)), (4, .int (mo + bf (μ 1) i 5)), (5, .ref a), (6, .int (nI x)), (7, .int (fa + 0)), (8, .int (nI (i + 1)))] []) : zZ p l e R s m args below meth c g 13 Q κ ν (((a, iA g 2 fn) :: ω)) k 38 [(0, .ref (gA g 0 0 0)), (1, .int (μ 1 0)), (2, .int (st)), (3, .int (th)), (4, .int (mo)), (5, .ref a), (6, .int (nI x)), (7, .int (fa)), (8, .int (nI i))] [] := by
  refine z_aload_n hX dL_sides_38 0 rfl ?_
  refine z_iload hX dL_sides_39 8 rfl ?_
  refine z_callV1 hX (dm_sideOf l h hlt) cv_RL_30 zRc0 dL_sides_41 ⟨by omega, by decide, by omega⟩ rfl rfl (Nat.le_of_ble_eq_true rfl) ?_
  refine z_iload hX dL_sides_44 6 rfl ?_
  refine z_icmp_ne (tgt := 136) hX dL_sides_46 (by decide) (fun h46 => absurd h46 (fun q => q hs)) (fun h46 => ?_)
  refine z_aload_n hX dL_sides_49 0 rfl ?_
  refine z_iload hX dL_sides_50 8 rfl ?_
  refine z_callS1 hX (lw_isFallen l hl0 h hlt) cs_RL_199 dL_sides_52 ⟨by omega, by decide, by omega⟩ rfl rfl (Nat.le_of_ble_eq_true rfl) ?_
  refine z_isv (if_neg (by rw [h7]; decide)) ?_
  refine z_istore (lv' := [(9, _), (0, _), (1, _), (2, _), (3, _), (4, _), (5, _), (6, _), (7, _), (8, _)]) hX dL_sides_55 (by decide) rfl ?_
  refine z_aload hX dL_sides_57 6 rfl ?_
  refine z_iload hX dL_sides_59 7 rfl ?_
  refine z_dup2 hX dL_sides_61 rfl rfl ?_
  refine zq_iald hX (j := 0) rfl rfl (by omega) (by decide) dL_sides_62 ?_
  refine z_aload_n hX dL_sides_63 1 rfl ?_
  refine z_iload hX dL_sides_64 9 rfl ?_
  refine z_callV1 hX (dm_strengthOf l h hlt) cv_RL_45 zRc0 dL_sides_66 ⟨by omega, by decide, by omega⟩ rfl rfl (Nat.le_of_ble_eq_true rfl) ?_
  refine z_iadd hX dL_sides_69 ?_
  refine zq_iast hX (j := 0) rfl rfl (by omega) (by decide) dL_sides_70 ?_
  refine z_iload hX dL_sides_71 8 rfl ?_
  refine z_iload hX dL_sides_73 0 rfl ?_
  refine z_if_eq (tgt := 82) hX dL_sides_75 (by decide) (fun h75 => ?_) (fun h75 => absurd h75 (by decide))
  refine z_iconst (v := 0) hX dL_sides_82 (by decide) ?_
  refine z_iadd hX dL_sides_83 ?_
  refine z_istore (lv' := [(7, _), (9, _), (0, _), (1, _), (2, _), (3, _), (4, _), (5, _), (6, _), (8, _)]) hX dL_sides_84 (by decide) rfl ?_
  refine z_iload_n hX dL_sides_86 5 rfl ?_
  refine z_iload hX dL_sides_87 1 rfl ?_
  refine z_if_eq (tgt := 96) hX dL_sides_89 (by decide) (fun h89 => ?_) (fun h89 => absurd h89 (by decide))
  refine z_iconst (v := 1) hX dL_sides_96 (by decide) ?_
  refine z_iadd hX dL_sides_97 ?_
  refine z_istore_n (lv' := [(3, _), (7, _), (9, _), (0, _), (1, _), (2, _), (4, _), (5, _), (6, _), (8, _)]) hX dL_sides_98 (by decide) rfl ?_
  refine z_iload hX dL_sides_99 6 rfl ?_
  refine z_iload hX dL_sides_101 2 rfl ?_
  refine z_if_eq (tgt := 110) hX dL_sides_103 (by decide) (fun h103 => ?_) (fun h103 => absurd h103 (by decide))
  refine z_aload_n hX dL_sides_110 3 rfl ?_
  refine z_iload hX dL_sides_111 9 rfl ?_
  refine z_callV1 hX (dm_moraleOf l h hlt) cv_RL_48 zRc0 dL_sides_113 ⟨by omega, by decide, by omega⟩ rfl rfl (Nat.le_of_ble_eq_true rfl) ?_
  refine z_iadd hX dL_sides_116 ?_
  refine z_istore (lv' := [(4, _), (3, _), (7, _), (9, _), (0, _), (1, _), (2, _), (5, _), (6, _), (8, _)]) hX dL_sides_117 (by decide) rfl ?_
  refine z_iload_n hX dL_sides_119 6 rfl ?_
  refine z_aload_n hX dL_sides_120 4 rfl ?_
  refine z_iload hX dL_sides_121 9 rfl ?_
  refine z_callV1 hX (dm_isStanding l h hlt) cv_RL_54 zRc0 dL_sides_123 ⟨by omega, by decide, by omega⟩ rfl rfl (Nat.le_of_ble_eq_true rfl) ?_
  refine z_isv (if_neg (by rw [h7]; decide)) ?_
  refine z_if_eq (tgt := 133) hX dL_sides_126 (by decide) (fun h126 => ?_) (fun h126 => absurd h126 (by decide))
  refine z_iconst (v := 0) hX dL_sides_133 (by decide) ?_
  refine z_iadd hX dL_sides_134 ?_
  refine z_istore_n (lv' := [(2, _), (4, _), (3, _), (7, _), (9, _), (0, _), (1, _), (5, _), (6, _), (8, _)]) hX dL_sides_135 (by decide) rfl ?_
  refine z_iinc (v := nI (i + 1)) (lv' := [(8, _), (2, _), (4, _), (3, _), (7, _), (9, _), (0, _), (1, _), (5, _), (6, _)]) hX dL_sides_136 9 rfl (nI_1 i) (by decide) rfl ?_
  refine z_goto (tgt := 32) hX dL_sides_139 (by decide) ?_
  refine z_sub [6, 7, 1, 3, 2, 8, 9, 4, 0] rfl ?_
  exact kk
set_option maxHeartbeats 4000000 in
set_option maxRecDepth 100000 in
theorem sd_f {p : Program} {l : Launch} {e : Env} {R : Room} {s : State} {m : MethodId} {args : Array Value} {below : List Frame} {meth : Method} {c : Code} {Q : State → Prop} {g : zG} {mc lvl : Nat} {κ : zKp} {μ ν : zMu} {ω : zOm} {k : Nat} (hX : zX p l s m args meth c R g RL cL_sides 13 (some .boolean) lvl mc) (hlv : 22 < lvl) (hl0 : l.stackTraces = false) (h : RR κ μ) {a x i : Nat} {fn : Nat → Int32} (hx : x < 2) (hlt : i < bn (μ 1)) {st th mo fa : Int32} (hk : k ≤ mc) (hs : bf (μ 1) i 0 = nI x) (h7 : bf (μ 1) i 7 = 2) (kk : zZ p l e R s m args below meth c g 13 Q κ ν ((a, iA g 2 (upd fn x (fn x + bf (μ 1) i 4))) :: ω) k 32 [(0, .ref (gA g 0 0 0)), (1, .int (μ 1 0)), (2, .int (st + 0)), (3, .int (th + 0)), (4, .int (mo + 0)), (5, .ref a), (6, .int (nI x)), (7, .int (fa + 1)), (8, .int (nI (i + 1)))] []) : zZ p l e R s m args below meth c g 13 Q κ ν (((a, iA g 2 fn) :: ω)) k 38 [(0, .ref (gA g 0 0 0)), (1, .int (μ 1 0)), (2, .int (st)), (3, .int (th)), (4, .int (mo)), (5, .ref a), (6, .int (nI x)), (7, .int (fa)), (8, .int (nI i))] [] := by
  refine z_aload_n hX dL_sides_38 0 rfl ?_
  refine z_iload hX dL_sides_39 8 rfl ?_
  refine z_callV1 hX (dm_sideOf l h hlt) cv_RL_30 zRc0 dL_sides_41 ⟨by omega, by decide, by omega⟩ rfl rfl (Nat.le_of_ble_eq_true rfl) ?_
  refine z_iload hX dL_sides_44 6 rfl ?_
  refine z_icmp_ne (tgt := 136) hX dL_sides_46 (by decide) (fun h46 => absurd h46 (fun q => q hs)) (fun h46 => ?_)
  refine z_aload_n hX dL_sides_49 0 rfl ?_
  refine z_iload hX dL_sides_50 8 rfl ?_
  refine z_callS1 hX (lw_isFallen l hl0 h hlt) cs_RL_199 dL_sides_52 ⟨by omega, by decide, by omega⟩ rfl rfl (Nat.le_of_ble_eq_true rfl) ?_
  refine z_isv (if_pos h7) ?_
  refine z_istore (lv' := [(9, _), (0, _), (1, _), (2, _), (3, _), (4, _), (5, _), (6, _), (7, _), (8, _)]) hX dL_sides_55 (by decide) rfl ?_
  refine z_aload hX dL_sides_57 6 rfl ?_
  refine z_iload hX dL_sides_59 7 rfl ?_
  refine z_dup2 hX dL_sides_61 rfl rfl ?_
  refine zq_iald hX (j := 0) rfl rfl (by omega) (by decide) dL_sides_62 ?_
  refine z_aload_n hX dL_sides_63 1 rfl ?_
  refine z_iload hX dL_sides_64 9 rfl ?_
  refine z_callV1 hX (dm_strengthOf l h hlt) cv_RL_45 zRc0 dL_sides_66 ⟨by omega, by decide, by omega⟩ rfl rfl (Nat.le_of_ble_eq_true rfl) ?_
  refine z_iadd hX dL_sides_69 ?_
  refine zq_iast hX (j := 0) rfl rfl (by omega) (by decide) dL_sides_70 ?_
  refine z_iload hX dL_sides_71 8 rfl ?_
  refine z_iload hX dL_sides_73 0 rfl ?_
  refine z_if_eq (tgt := 82) hX dL_sides_75 (by decide) (fun h75 => absurd h75 (by decide)) (fun h75 => ?_)
  refine z_iconst (v := 1) hX dL_sides_78 (by decide) ?_
  refine z_goto (tgt := 83) hX dL_sides_79 (by decide) ?_
  refine z_iadd hX dL_sides_83 ?_
  refine z_istore (lv' := [(7, _), (9, _), (0, _), (1, _), (2, _), (3, _), (4, _), (5, _), (6, _), (8, _)]) hX dL_sides_84 (by decide) rfl ?_
  refine z_iload_n hX dL_sides_86 5 rfl ?_
  refine z_iload hX dL_sides_87 1 rfl ?_
  refine z_if_eq (tgt := 96) hX dL_sides_89 (by decide) (fun h89 => absurd h89 (by decide)) (fun h89 => ?_)
  refine z_iconst (v := 0) hX dL_sides_92 (by decide) ?_
  refine z_goto (tgt := 97) hX dL_sides_93 (by decide) ?_
  refine z_iadd hX dL_sides_97 ?_
  refine z_istore_n (lv' := [(3, _), (7, _), (9, _), (0, _), (1, _), (2, _), (4, _), (5, _), (6, _), (8, _)]) hX dL_sides_98 (by decide) rfl ?_
  refine z_iload hX dL_sides_99 6 rfl ?_
  refine z_iload hX dL_sides_101 2 rfl ?_
  refine z_if_eq (tgt := 110) hX dL_sides_103 (by decide) (fun h103 => absurd h103 (by decide)) (fun h103 => ?_)
  refine z_iconst (v := 0) hX dL_sides_106 (by decide) ?_
  refine z_goto (tgt := 116) hX dL_sides_107 (by decide) ?_
  refine z_iadd hX dL_sides_116 ?_
  refine z_istore (lv' := [(4, _), (3, _), (7, _), (9, _), (0, _), (1, _), (2, _), (5, _), (6, _), (8, _)]) hX dL_sides_117 (by decide) rfl ?_
  refine z_iload_n hX dL_sides_119 6 rfl ?_
  refine z_aload_n hX dL_sides_120 4 rfl ?_
  refine z_iload hX dL_sides_121 9 rfl ?_
  refine z_callV1 hX (dm_isStanding l h hlt) cv_RL_54 zRc0 dL_sides_123 ⟨by omega, by decide, by omega⟩ rfl rfl (Nat.le_of_ble_eq_true rfl) ?_
  refine z_isv (if_neg (by rw [h7]; decide)) ?_
  refine z_if_eq (tgt := 133) hX dL_sides_126 (by decide) (fun h126 => ?_) (fun h126 => absurd h126 (by decide))
  refine z_iconst (v := 0) hX dL_sides_133 (by decide) ?_
  refine z_iadd hX dL_sides_134 ?_
  refine z_istore_n (lv' := [(2, _), (4, _), (3, _), (7, _), (9, _), (0, _), (1, _), (5, _), (6, _), (8, _)]) hX dL_sides_135 (by decide) rfl ?_
  refine z_iinc (v := nI (i + 1)) (lv' := [(8, _), (2, _), (4, _), (3, _), (7, _), (9, _), (0, _), (1, _), (5, _), (6, _)]) hX dL_sides_136 9 rfl (nI_1 i) (by decide) rfl ?_
  refine z_goto (tgt := 32) hX dL_sides_139 (by decide) ?_
  refine z_sub [6, 7, 1, 3, 2, 8, 9, 4, 0] rfl ?_
  exact kk
set_option maxHeartbeats 4000000 in
set_option maxRecDepth 100000 in
theorem sd_line {p : Program} {l : Launch} {e : Env} {R : Room} {s : State} {m : MethodId} {args : Array Value} {below : List Frame} {meth : Method} {c : Code} {Q : State → Prop} {g : zG} {mc lvl : Nat} {κ : zKp} {μ ν : zMu} {ω : zOm} {k : Nat} (hX : zX p l s m args meth c R g RL cL_sides 13 (some .boolean) lvl mc) (hlv : 22 < lvl) (hl0 : l.stackTraces = false) (h : RR κ μ) {a x i : Nat} {fn : Nat → Int32} (hx : x < 2) (hlt : i < bn (μ 1)) {st th mo fa : Int32} (hk : k ≤ mc) (kk : ∀ (fn' : Nat → Int32) (st' th' mo' fa' : Int32), (∀ q, ¬ q = x → fn' q = fn q) → (fn x = sm (sdF (μ 1) (nI x) (fun k => bf (μ 1) k 4)) i → fn' x = sm (sdF (μ 1) (nI x) (fun k => bf (μ 1) k 4)) (i + 1)) → (∀ z, st = z + sm (sdF (μ 1) (nI x) (staF (μ 1))) i → st' = z + sm (sdF (μ 1) (nI x) (staF (μ 1))) (i + 1)) → (∀ z, th = z + sm (sdF (μ 1) (nI x) (aliF (μ 1))) i → th' = z + sm (sdF (μ 1) (nI x) (aliF (μ 1))) (i + 1)) → (∀ z, mo = z + sm (sdF (μ 1) (nI x) (morF (μ 1))) i → mo' = z + sm (sdF (μ 1) (nI x) (morF (μ 1))) (i + 1)) → (fa = sm (sdF (μ 1) (nI x) (fdF (μ 1))) i → fa' = sm (sdF (μ 1) (nI x) (fdF (μ 1))) (i + 1)) → zZ p l e R s m args below meth c g 13 Q κ ν ((a, iA g 2 fn') :: ω) k 32 [(0, .ref (gA g 0 0 0)), (1, .int (μ 1 0)), (2, .int (st')), (3, .int (th')), (4, .int (mo')), (5, .ref a), (6, .int (nI x)), (7, .int (fa')), (8, .int (nI (i + 1)))] []) : zZ p l e R s m args below meth c g 13 Q κ ν ((a, iA g 2 fn) :: ω) k 38 [(0, .ref (gA g 0 0 0)), (1, .int (μ 1 0)), (2, .int (st)), (3, .int (th)), (4, .int (mo)), (5, .ref a), (6, .int (nI x)), (7, .int (fa)), (8, .int (nI i))] [] := by
  by_cases hs : bf (μ 1) i 0 = nI x
  · have fin : ∀ (da db dc dd : Int32), staF (μ 1) i = da → aliF (μ 1) i = db → morF (μ 1) i = dc → fdF (μ 1) i = dd → zZ p l e R s m args below meth c g 13 Q κ ν ((a, iA g 2 (upd fn x (fn x + bf (μ 1) i 4))) :: ω) k 32 [(0, .ref (gA g 0 0 0)), (1, .int (μ 1 0)), (2, .int (st + da)), (3, .int (th + db)), (4, .int (mo + dc)), (5, .ref a), (6, .int (nI x)), (7, .int (fa + dd)), (8, .int (nI (i + 1)))] [] := fun da db dc dd ea eb ec ed => by
      refine kk _ _ _ _ _ (fun q hq => if_neg hq) (fun e => ?_) (fun z e => ?_) (fun z e => ?_) (fun z e => ?_) (fun e => ?_)
      · rw [← sd_yes hs, ← e]; exact if_pos rfl
      · rw [← sd_yes hs, ea, e, Int32.add_assoc]
      · rw [← sd_yes hs, eb, e, Int32.add_assoc]
      · rw [← sd_yes hs, ec, e, Int32.add_assoc]
      · rw [← sd_yes hs, ed, e]
    rcases (h.bI.1.2.2.1 i hlt).2.2.2.2.2.2.2 with q | q | q
    · exact sd_s hX hlv hl0 h hx hlt hk hs q (fin _ _ _ _ (if_pos q) (if_neg (by rw [q]; decide)) (if_neg (by rw [q]; decide)) (if_neg (by rw [q]; decide)))
    · exact sd_r hX hlv hl0 h hx hlt hk hs q (fin _ _ _ _ (if_neg (by rw [q]; decide)) (if_neg (by rw [q]; decide)) (if_neg (by rw [q]; decide)) (if_neg (by rw [q]; decide)))
    · exact sd_f hX hlv hl0 h hx hlt hk hs q (fin _ _ _ _ (if_neg (by rw [q]; decide)) (if_pos q) (if_pos q) (if_pos q))
  · refine sd_skip hX hlv hl0 h hx hlt hk hs (kk _ _ _ _ _ (fun _ _ => rfl) (fun e => ?_) (fun z e => ?_) (fun z e => ?_) (fun z e => ?_) (fun e => ?_))
    · rw [← sd_no hs]; exact e
    · rw [← sd_no hs]; exact e
    · rw [← sd_no hs]; exact e
    · rw [← sd_no hs]; exact e
    · rw [← sd_no hs]; exact e
theorem sd_lines {p : Program} {l : Launch} {e : Env} {R : Room} {s : State} {m : MethodId} {args : Array Value} {below : List Frame} {meth : Method} {c : Code} {Q : State → Prop} {g : zG} {mc lvl : Nat} {κ : zKp} {μ ν : zMu} {ω : zOm} {k : Nat} (hX : zX p l s m args meth c R g RL cL_sides 13 (some .boolean) lvl mc) (hlv : 22 < lvl) (hl0 : l.stackTraces = false) (h : RR κ μ) {a x : Nat} (hx : x < 2) (hk : k ≤ mc) {S0 T0 M0 : Int32} {f0 : Nat → Int32} (kk : ∀ fn' : Nat → Int32, (∀ q, ¬ q = x → fn' q = f0 q) → fn' x = sumB (μ 1) (nI x) → zZ p l e R s m args below meth c g 13 Q κ ν ((a, iA g 2 fn') :: ω) k 142 [(0, .ref (gA g 0 0 0)), (1, .int (μ 1 0)), (2, .int (S0 + sm (sdF (μ 1) (nI x) (staF (μ 1))) (bn (μ 1)))), (3, .int (T0 + sm (sdF (μ 1) (nI x) (aliF (μ 1))) (bn (μ 1)))), (4, .int (M0 + sm (sdF (μ 1) (nI x) (morF (μ 1))) (bn (μ 1)))), (5, .ref a), (6, .int (nI x)), (7, .int (falB (μ 1) (nI x)))] []) : ∀ (dz i : Nat) (fn : Nat → Int32) (st th mo fa : Int32), bn (μ 1) - i = dz → i ≤ bn (μ 1) → (∀ q, ¬ q = x → fn q = f0 q) → fn x = sm (sdF (μ 1) (nI x) (fun k => bf (μ 1) k 4)) i → st = S0 + sm (sdF (μ 1) (nI x) (staF (μ 1))) i → th = T0 + sm (sdF (μ 1) (nI x) (aliF (μ 1))) i → mo = M0 + sm (sdF (μ 1) (nI x) (morF (μ 1))) i → fa = sm (sdF (μ 1) (nI x) (fdF (μ 1))) i → zZ p l e R s m args below meth c g 13 Q κ ν ((a, iA g 2 fn) :: ω) k 32 [(0, .ref (gA g 0 0 0)), (1, .int (μ 1 0)), (2, .int (st)), (3, .int (th)), (4, .int (mo)), (5, .ref a), (6, .int (nI x)), (7, .int (fa)), (8, .int (nI i))] [] := by
  have h12 := h.n.1
  intro dz
  induction dz with
  | zero =>
    intro i fn st th mo fa hd hi e0 e1 e2 e3 e4 e5
    have hin : i = bn (μ 1) := by omega
    refine z_iload hX dL_sides_32 8 rfl ?_
    refine z_iload_n hX dL_sides_34 1 rfl ?_
    refine z_icmp_ge (tgt := 142) hX dL_sides_35 (by decide) (fun _ => ?_) (fun q => absurd (by rw [hin, h.n.2]; exact Int32.le_refl _) q)
    refine z_sub [0, 1, 2, 3, 4, 5, 6, 7] rfl ?_
    rw [hin] at e1 e2 e3 e4 e5
    rw [e2, e3, e4, e5, sd_fal]
    exact kk fn e0 e1
  | succ dz ih =>
    intro i fn st th mo fa hd hi e0 e1 e2 e3 e4 e5
    have hin : i < bn (μ 1) := by omega
    refine z_iload hX dL_sides_32 8 rfl ?_
    refine z_iload_n hX dL_sides_34 1 rfl ?_
    refine z_icmp_ge (tgt := 142) hX dL_sides_35 (by decide) (fun q => absurd q (by rw [h.n.2]; exact nle_i hin (by omega))) (fun _ => ?_)
    refine sd_line hX hlv hl0 h hx hin hk (fun fn' st' th' mo' fa' q0 q1 q2 q3 q4 q5 => ?_)
    exact ih (i + 1) fn' st' th' mo' fa' (by omega) (by omega) (fun q hq => (q0 q hq).trans (e0 q hq)) (q1 e1) (q2 _ e2) (q3 _ e3) (q4 _ e4) (q5 e5)
set_option maxHeartbeats 4000000 in
set_option maxRecDepth 100000 in
theorem sd_lane {p : Program} {l : Launch} {e : Env} {R : Room} {s : State} {m : MethodId} {args : Array Value} {below : List Frame} {meth : Method} {c : Code} {Q : State → Prop} {g : zG} {mc lvl : Nat} {κ : zKp} {μ ν : zMu} {ω : zOm} {k : Nat} (hX : zX p l s m args meth c R g RL cL_sides 13 (some .boolean) lvl mc) (hlv : 22 < lvl) (hl0 : l.stackTraces = false) (h : RR κ μ) {a x y : Nat} {fn : Nat → Int32} (hx : x < 2) (hy : y < 3) {st th mo fa : Int32} (hk : k + 11 * (y + 1) ≤ mc) (kk : zZ p l e R s m args below meth c g 13 Q κ ν ((a, iA g 2 fn) :: ω) (k + 11 * (y + 1)) 145 [(0, .ref (gA g 0 0 0)), (1, .int (μ 1 0)), (2, .int st), (3, .int th), (4, .int mo), (5, .ref a), (6, .int (nI x)), (7, .int fa), (8, .int (nI (y + 1)))] []) : zZ p l e R s m args below meth c g 13 Q κ ν (((a, iA g 2 fn) :: ω)) (k + 11 * y) 151 [(0, .ref (gA g 0 0 0)), (1, .int (μ 1 0)), (2, .int st), (3, .int th), (4, .int mo), (5, .ref a), (6, .int (nI x)), (7, .int fa), (8, .int (nI y))] [] := by
  have hl3 : 0 ≤ nI y ∧ nI y < 3 := ⟨ge_i (by omega), lt_i (b := 3) hy (by decide)⟩
  have hs2 : 0 ≤ nI x ∧ nI x < 2 := ⟨ge_i (by omega), lt_i (b := 2) hx (by decide)⟩
  refine z_bipush (v := -13) hX dL_sides_151 (by decide) ?_
  refine z_istore (lv' := [(9, _), (0, _), (1, _), (2, _), (3, _), (4, _), (5, _), (6, _), (7, _), (8, _)]) hX dL_sides_153 (by decide) rfl ?_
  refine z_iconst (v := 0) hX dL_sides_155 (by decide) ?_
  refine z_istore (lv' := [(10, _), (9, _), (0, _), (1, _), (2, _), (3, _), (4, _), (5, _), (6, _), (7, _), (8, _)]) hX dL_sides_156 (by decide) rfl ?_
  have hF : ∀ (dz : Nat) (w : Nat) (v : Int32), 10 - w = dz → w ≤ 10 → v = frL (μ 1) (nI x) (nI y) w → zZ p l e R s m args below meth c g 13 Q κ ν (((a, iA g 2 fn) :: ω)) (k + 11 * y + w) 158 [(0, .ref (gA g 0 0 0)), (1, .int (μ 1 0)), (2, .int st), (3, .int th), (4, .int mo), (5, .ref a), (6, .int (nI x)), (7, .int fa), (8, .int (nI y)), (9, .int v), (10, .int (nI w))] [] := by
    intro dz
    induction dz with
    | zero =>
      intro w v hd hw hv
      have h10 : w = 10 := by omega
      subst h10
      refine z_iload hX dL_sides_158 10 rfl ?_
      refine z_bipush (v := 10) hX dL_sides_160 (by decide) ?_
      refine z_icmp_ge (tgt := 223) hX dL_sides_162 (by decide) (fun h162 => ?_) (fun h162 => absurd h162 (fun q => q (Int32.le_refl _)))
      refine z_aload_n hX dL_sides_223 0 rfl ?_
      refine z_iload hX dL_sides_224 6 rfl ?_
      refine z_iload hX dL_sides_226 8 rfl ?_
      refine z_callW hX (in_fr l hl0 h ⟨hs2, hl3⟩) cc_255 dL_sides_228 ⟨by omega, by decide, by omega⟩ rfl rfl (Nat.le_of_ble_eq_true rfl) ?_
      refine z_iload hX dL_sides_231 9 rfl ?_
      refine z_icmp_eq (tgt := 238) hX dL_sides_233 (by decide) (fun h233 => ?_) (fun h233 => absurd h233 (fun q => q (by rw [hv])))
      refine z_iinc (v := nI (y + 1)) (lv' := [(8, _), (0, _), (1, _), (2, _), (3, _), (4, _), (5, _), (6, _), (7, _), (9, _), (10, _)]) hX dL_sides_238 8 rfl (nI_1 y) (by decide) rfl ?_
      refine z_goto (tgt := 145) hX dL_sides_241 (by decide) ?_
      refine z_sub [1, 2, 3, 4, 5, 6, 7, 8, 0] rfl ?_
      exact z_widen (k2 := k + 11 * (y + 1)) (by omega) kk
    | succ dz ih =>
      intro w v hd hw hv
      have hk9 : w < 10 := by omega
      refine z_iload hX dL_sides_158 10 rfl ?_
      refine z_bipush (v := 10) hX dL_sides_160 (by decide) ?_
      refine z_icmp_ge (tgt := 223) hX dL_sides_162 (by decide) (fun h162 => absurd h162 (nle_i (a := w) (b := 10) (by omega) (by decide))) (fun h162 => ?_)
      refine z_iload hX dL_sides_165 6 rfl ?_
      refine z_if_ne (tgt := 175) hX dL_sides_167 (by decide) (fun h167 => ?_) (fun h167 => ?_)
      · skip
        refine z_bipush (v := 9) hX dL_sides_175 (by decide) ?_
        refine z_iload hX dL_sides_177 10 rfl ?_
        refine z_isub hX dL_sides_179 ?_
        refine z_isv (show _ = frC (nI x) w from (if_neg h167).symm) ?_
        refine z_istore (lv' := [(11, _), (0, _), (1, _), (2, _), (3, _), (4, _), (5, _), (6, _), (7, _), (8, _), (9, _), (10, _)]) hX dL_sides_180 (by decide) rfl ?_
        refine z_aload_n hX dL_sides_182 1 rfl ?_
        refine z_iload hX dL_sides_183 9 rfl ?_
        refine z_iload hX dL_sides_185 0 rfl ?_
        rcases ho : occB (μ 1) (nI y) (frC (nI x) w) with _ | j
        · skip
          refine z_callW hX (go_lineIn l hl0 h ⟨hl3, gl_col.mpr (frC_in hk9)⟩ ho) cc_174 dL_sides_187 ⟨by omega, by decide, by omega⟩ rfl rfl (Nat.le_of_ble_eq_true rfl) ?_
          refine z_istore (lv' := [(12, _), (11, _), (0, _), (1, _), (2, _), (3, _), (4, _), (5, _), (6, _), (7, _), (8, _), (9, _), (10, _)]) hX dL_sides_190 (by decide) rfl ?_
          refine z_iload hX dL_sides_192 0 rfl ?_
          refine z_if_lt (tgt := 213) hX dL_sides_194 (by decide) (fun h194 => ?_) (fun h194 => absurd h194 (by decide))
          refine z_iload hX dL_sides_213 11 rfl ?_
          refine z_istore (lv' := [(9, _), (12, _), (11, _), (0, _), (1, _), (2, _), (3, _), (4, _), (5, _), (6, _), (7, _), (8, _), (10, _)]) hX dL_sides_215 (by decide) rfl ?_
          refine z_iinc (v := nI (w + 1)) (lv' := [(10, _), (9, _), (12, _), (11, _), (0, _), (1, _), (2, _), (3, _), (4, _), (5, _), (6, _), (7, _), (8, _)]) hX dL_sides_217 12 rfl (nI_1 w) (by decide) rfl ?_
          refine z_goto (tgt := 158) hX dL_sides_220 (by decide) ?_
          refine z_sub [4, 5, 6, 7, 8, 9, 10, 11, 12, 1, 0] rfl ?_
          exact (z_widen (k2 := k + 11 * y + (w + 1)) (by omega) (ih (w + 1) _ (by omega) (by omega) (by rw [fr_no hk9 h.n.1 hl3 (Or.inl ho)]; exact hv)))
        · obtain ⟨j1, -, j7, j3, j4, -⟩ := occ_some h.n.1 ho
          have hj12 := h.n.1
          refine z_callW hX (in_lineIn l hl0 h ⟨hl3, gl_col.mpr (frC_in hk9)⟩ ho) cc_174 dL_sides_187 ⟨by omega, by decide, by omega⟩ rfl rfl (Nat.le_of_ble_eq_true rfl) ?_
          refine z_istore (lv' := [(12, _), (11, _), (0, _), (1, _), (2, _), (3, _), (4, _), (5, _), (6, _), (7, _), (8, _), (9, _), (10, _)]) hX dL_sides_190 (by decide) rfl ?_
          refine z_iload hX dL_sides_192 0 rfl ?_
          refine z_if_lt (tgt := 213) hX dL_sides_194 (by decide) (fun h194 => absurd h194 (nI_pos (by omega))) (fun h194 => ?_)
          refine z_aload_n hX dL_sides_197 2 rfl ?_
          refine z_iload hX dL_sides_198 0 rfl ?_
          refine z_callV1 hX (dm_sideOf l h j1) cv_RL_30 zRc0 dL_sides_200 ⟨by omega, by decide, by omega⟩ rfl rfl (Nat.le_of_ble_eq_true rfl) ?_
          refine z_iload hX dL_sides_203 8 rfl ?_
          refine z_icmp_ne (tgt := 213) hX dL_sides_205 (by decide) (fun h205 => ?_) (fun h205 => ?_)
          · skip
            refine z_iload hX dL_sides_213 11 rfl ?_
            refine z_istore (lv' := [(9, _), (12, _), (11, _), (0, _), (1, _), (2, _), (3, _), (4, _), (5, _), (6, _), (7, _), (8, _), (10, _)]) hX dL_sides_215 (by decide) rfl ?_
            refine z_iinc (v := nI (w + 1)) (lv' := [(10, _), (9, _), (12, _), (11, _), (0, _), (1, _), (2, _), (3, _), (4, _), (5, _), (6, _), (7, _), (8, _)]) hX dL_sides_217 12 rfl (nI_1 w) (by decide) rfl ?_
            refine z_goto (tgt := 158) hX dL_sides_220 (by decide) ?_
            refine z_sub [4, 5, 6, 7, 8, 9, 10, 11, 12, 1, 0] rfl ?_
            exact (z_widen (k2 := k + 11 * y + (w + 1)) (by omega) (ih (w + 1) _ (by omega) (by omega) (by rw [fr_no hk9 h.n.1 hl3 (Or.inr ⟨j, ho, h205⟩)]; exact hv)))
          · skip
            refine z_iload hX dL_sides_208 1 rfl ?_
            refine z_goto (tgt := 215) hX dL_sides_210 (by decide) ?_
            refine z_istore (lv' := [(9, _), (12, _), (11, _), (0, _), (1, _), (2, _), (3, _), (4, _), (5, _), (6, _), (7, _), (8, _), (10, _)]) hX dL_sides_215 (by decide) rfl ?_
            refine z_iinc (v := nI (w + 1)) (lv' := [(10, _), (9, _), (12, _), (11, _), (0, _), (1, _), (2, _), (3, _), (4, _), (5, _), (6, _), (7, _), (8, _)]) hX dL_sides_217 12 rfl (nI_1 w) (by decide) rfl ?_
            refine z_goto (tgt := 158) hX dL_sides_220 (by decide) ?_
            refine z_sub [4, 5, 6, 7, 8, 9, 10, 11, 12, 1, 0] rfl ?_
            exact (z_widen (k2 := k + 11 * y + (w + 1)) (by omega) (ih (w + 1) _ (by omega) (by omega) (by rw [fr_yes hk9 h.n.1 hl3 ho h205])))
      · skip
        refine z_iload hX dL_sides_170 10 rfl ?_
        refine z_goto (tgt := 180) hX dL_sides_172 (by decide) ?_
        refine z_isv (show _ = frC (nI x) w from (if_pos h167).symm) ?_
        refine z_istore (lv' := [(11, _), (0, _), (1, _), (2, _), (3, _), (4, _), (5, _), (6, _), (7, _), (8, _), (9, _), (10, _)]) hX dL_sides_180 (by decide) rfl ?_
        refine z_aload_n hX dL_sides_182 1 rfl ?_
        refine z_iload hX dL_sides_183 9 rfl ?_
        refine z_iload hX dL_sides_185 0 rfl ?_
        rcases ho : occB (μ 1) (nI y) (frC (nI x) w) with _ | j
        · skip
          refine z_callW hX (go_lineIn l hl0 h ⟨hl3, gl_col.mpr (frC_in hk9)⟩ ho) cc_174 dL_sides_187 ⟨by omega, by decide, by omega⟩ rfl rfl (Nat.le_of_ble_eq_true rfl) ?_
          refine z_istore (lv' := [(12, _), (11, _), (0, _), (1, _), (2, _), (3, _), (4, _), (5, _), (6, _), (7, _), (8, _), (9, _), (10, _)]) hX dL_sides_190 (by decide) rfl ?_
          refine z_iload hX dL_sides_192 0 rfl ?_
          refine z_if_lt (tgt := 213) hX dL_sides_194 (by decide) (fun h194 => ?_) (fun h194 => absurd h194 (by decide))
          refine z_iload hX dL_sides_213 11 rfl ?_
          refine z_istore (lv' := [(9, _), (12, _), (11, _), (0, _), (1, _), (2, _), (3, _), (4, _), (5, _), (6, _), (7, _), (8, _), (10, _)]) hX dL_sides_215 (by decide) rfl ?_
          refine z_iinc (v := nI (w + 1)) (lv' := [(10, _), (9, _), (12, _), (11, _), (0, _), (1, _), (2, _), (3, _), (4, _), (5, _), (6, _), (7, _), (8, _)]) hX dL_sides_217 12 rfl (nI_1 w) (by decide) rfl ?_
          refine z_goto (tgt := 158) hX dL_sides_220 (by decide) ?_
          refine z_sub [4, 5, 6, 7, 8, 9, 10, 11, 12, 1, 0] rfl ?_
          exact (z_widen (k2 := k + 11 * y + (w + 1)) (by omega) (ih (w + 1) _ (by omega) (by omega) (by rw [fr_no hk9 h.n.1 hl3 (Or.inl ho)]; exact hv)))
        · obtain ⟨j1, -, j7, j3, j4, -⟩ := occ_some h.n.1 ho
          have hj12 := h.n.1
          refine z_callW hX (in_lineIn l hl0 h ⟨hl3, gl_col.mpr (frC_in hk9)⟩ ho) cc_174 dL_sides_187 ⟨by omega, by decide, by omega⟩ rfl rfl (Nat.le_of_ble_eq_true rfl) ?_
          refine z_istore (lv' := [(12, _), (11, _), (0, _), (1, _), (2, _), (3, _), (4, _), (5, _), (6, _), (7, _), (8, _), (9, _), (10, _)]) hX dL_sides_190 (by decide) rfl ?_
          refine z_iload hX dL_sides_192 0 rfl ?_
          refine z_if_lt (tgt := 213) hX dL_sides_194 (by decide) (fun h194 => absurd h194 (nI_pos (by omega))) (fun h194 => ?_)
          refine z_aload_n hX dL_sides_197 2 rfl ?_
          refine z_iload hX dL_sides_198 0 rfl ?_
          refine z_callV1 hX (dm_sideOf l h j1) cv_RL_30 zRc0 dL_sides_200 ⟨by omega, by decide, by omega⟩ rfl rfl (Nat.le_of_ble_eq_true rfl) ?_
          refine z_iload hX dL_sides_203 8 rfl ?_
          refine z_icmp_ne (tgt := 213) hX dL_sides_205 (by decide) (fun h205 => ?_) (fun h205 => ?_)
          · skip
            refine z_iload hX dL_sides_213 11 rfl ?_
            refine z_istore (lv' := [(9, _), (12, _), (11, _), (0, _), (1, _), (2, _), (3, _), (4, _), (5, _), (6, _), (7, _), (8, _), (10, _)]) hX dL_sides_215 (by decide) rfl ?_
            refine z_iinc (v := nI (w + 1)) (lv' := [(10, _), (9, _), (12, _), (11, _), (0, _), (1, _), (2, _), (3, _), (4, _), (5, _), (6, _), (7, _), (8, _)]) hX dL_sides_217 12 rfl (nI_1 w) (by decide) rfl ?_
            refine z_goto (tgt := 158) hX dL_sides_220 (by decide) ?_
            refine z_sub [4, 5, 6, 7, 8, 9, 10, 11, 12, 1, 0] rfl ?_
            exact (z_widen (k2 := k + 11 * y + (w + 1)) (by omega) (ih (w + 1) _ (by omega) (by omega) (by rw [fr_no hk9 h.n.1 hl3 (Or.inr ⟨j, ho, h205⟩)]; exact hv)))
          · skip
            refine z_iload hX dL_sides_208 1 rfl ?_
            refine z_goto (tgt := 215) hX dL_sides_210 (by decide) ?_
            refine z_istore (lv' := [(9, _), (12, _), (11, _), (0, _), (1, _), (2, _), (3, _), (4, _), (5, _), (6, _), (7, _), (8, _), (10, _)]) hX dL_sides_215 (by decide) rfl ?_
            refine z_iinc (v := nI (w + 1)) (lv' := [(10, _), (9, _), (12, _), (11, _), (0, _), (1, _), (2, _), (3, _), (4, _), (5, _), (6, _), (7, _), (8, _)]) hX dL_sides_217 12 rfl (nI_1 w) (by decide) rfl ?_
            refine z_goto (tgt := 158) hX dL_sides_220 (by decide) ?_
            refine z_sub [4, 5, 6, 7, 8, 9, 10, 11, 12, 1, 0] rfl ?_
            exact (z_widen (k2 := k + 11 * y + (w + 1)) (by omega) (ih (w + 1) _ (by omega) (by omega) (by rw [fr_yes hk9 h.n.1 hl3 ho h205])))
  refine z_sub [2, 3, 4, 5, 6, 7, 8, 9, 10, 1, 0] rfl ?_
  exact (hF 10 0 _ (by omega) (by omega) rfl)
set_option maxHeartbeats 4000000 in
set_option maxRecDepth 100000 in
theorem sd_sum {p : Program} {l : Launch} {e : Env} {R : Room} {s : State} {m : MethodId} {args : Array Value} {below : List Frame} {meth : Method} {c : Code} {Q : State → Prop} {g : zG} {mc lvl : Nat} {κ : zKp} {μ ν : zMu} {ω : zOm} {k : Nat} (hX : zX p l s m args meth c R g RL cL_sides 13 (some .boolean) lvl mc) (hlv : 22 < lvl) (hl0 : l.stackTraces = false) (h : RR κ μ) {a x : Nat} {fn : Nat → Int32} (hx : x < 2) {st th mo : Int32} (hfn : fn x = sumB (μ 1) (nI x)) (hk : k + 6 ≤ mc) (kk : zZ p l e R s m args below meth c g 13 Q κ ν ((a, iA g 2 fn) :: ω) (k + 6) 20 [(0, .ref (gA g 0 0 0)), (1, .int (μ 1 0)), (2, .int st), (3, .int th), (4, .int mo), (5, .ref a), (6, .int (nI (x + 1)))] []) : zZ p l e R s m args below meth c g 13 Q κ ν (((a, iA g 2 fn) :: ω)) k 244 [(0, .ref (gA g 0 0 0)), (1, .int (μ 1 0)), (2, .int st), (3, .int th), (4, .int mo), (5, .ref a), (6, .int (nI x)), (7, .int (falB (μ 1) (nI x)))] [] := by
  have hs2 : 0 ≤ nI x ∧ nI x < 2 := ⟨ge_i (by omega), lt_i (b := 2) hx (by decide)⟩
  have hj : ¬ (if nI x = 0 then μ 1 3 else μ 1 4) < 0 ∧ ¬ 3 < (if nI x = 0 then μ 1 3 else μ 1 4) := by
    obtain ⟨⟨z, hz, ez⟩, w, hw, ew⟩ := h.bI.1.2.1
    by_cases q : nI x = 0
    · rw [if_pos q, ez]; exact ⟨nI_pos (by omega), Int32.not_lt.mpr (le_i (b := 3) hz (by decide))⟩
    · rw [if_neg q, ew]; exact ⟨nI_pos (by omega), Int32.not_lt.mpr (le_i (b := 3) hw (by decide))⟩
  refine z_aload_n hX dL_sides_244 0 rfl ?_
  refine z_iload hX dL_sides_245 6 rfl ?_
  refine z_callW hX (in_sumOf l hl0 h hs2) cc_258 dL_sides_247 ⟨by omega, by decide, by omega⟩ rfl rfl (Nat.le_of_ble_eq_true rfl) ?_
  refine z_aload hX dL_sides_250 5 rfl ?_
  refine z_iload hX dL_sides_252 6 rfl ?_
  refine zq_iald hX (j := 0) rfl rfl (by omega) (by decide) dL_sides_254 ?_
  refine z_isv hfn ?_
  refine z_icmp_ne (tgt := 314) hX dL_sides_255 (by decide) (fun h255 => absurd h255 (fun q => q rfl)) (fun h255 => ?_)
  refine z_aload_n hX dL_sides_258 0 rfl ?_
  refine z_iload hX dL_sides_259 6 rfl ?_
  refine z_callW hX (in_byCells l hl0 h hs2) cc_261 dL_sides_261 ⟨by omega, by decide, by omega⟩ rfl rfl (Nat.le_of_ble_eq_true rfl) ?_
  refine z_aload hX dL_sides_264 5 rfl ?_
  refine z_iload hX dL_sides_266 6 rfl ?_
  refine zq_iald hX (j := 0) rfl rfl (by omega) (by decide) dL_sides_268 ?_
  refine z_isv hfn ?_
  refine z_icmp_ne (tgt := 314) hX dL_sides_269 (by decide) (fun h269 => absurd h269 (fun q => q rfl)) (fun h269 => ?_)
  refine z_aload_n hX dL_sides_272 0 rfl ?_
  refine z_iload hX dL_sides_273 6 rfl ?_
  refine z_callW hX (in_fallen l hl0 h hs2) cc_264 dL_sides_275 ⟨by omega, by decide, by omega⟩ rfl rfl (Nat.le_of_ble_eq_true rfl) ?_
  refine z_iload hX dL_sides_278 7 rfl ?_
  refine z_icmp_ne (tgt := 314) hX dL_sides_280 (by decide) (fun h280 => absurd h280 (fun q => q rfl)) (fun h280 => ?_)
  refine z_aload_n hX dL_sides_283 0 rfl ?_
  refine z_iload hX dL_sides_284 6 rfl ?_
  refine z_callW hX (in_jars l hl0 h hs2) cc_267 dL_sides_286 ⟨by omega, by decide, by omega⟩ rfl rfl (Nat.le_of_ble_eq_true rfl) ?_
  refine z_if_lt (tgt := 314) hX dL_sides_289 (by decide) (fun h289 => absurd h289 hj.1) (fun h289 => ?_)
  refine z_aload_n hX dL_sides_292 0 rfl ?_
  refine z_iload hX dL_sides_293 6 rfl ?_
  refine z_callW hX (in_jars l hl0 h hs2) cc_267 dL_sides_295 ⟨by omega, by decide, by omega⟩ rfl rfl (Nat.le_of_ble_eq_true rfl) ?_
  refine z_iconst (v := 3) hX dL_sides_298 (by decide) ?_
  refine z_icmp_gt (tgt := 314) hX dL_sides_299 (by decide) (fun h299 => absurd h299 hj.2) (fun h299 => ?_)
  refine z_aload_n hX dL_sides_302 0 rfl ?_
  refine z_iload hX dL_sides_303 6 rfl ?_
  refine z_iconst (v := 3) hX dL_sides_305 (by decide) ?_
  refine z_callW hX (out_front l hl0 h (fun q => absurd q.2.2 (by decide))) cc_255 dL_sides_306 ⟨by omega, by decide, by omega⟩ rfl rfl (Nat.le_of_ble_eq_true rfl) ?_
  refine z_bipush (v := -12) hX dL_sides_309 (by decide) ?_
  refine z_icmp_eq (tgt := 316) hX dL_sides_311 (by decide) (fun h311 => ?_) (fun h311 => absurd h311 (by decide))
  refine z_iinc (v := nI (x + 1)) (lv' := [(6, _), (0, _), (1, _), (2, _), (3, _), (4, _), (5, _), (7, _)]) hX dL_sides_316 6 rfl (nI_1 x) (by decide) rfl ?_
  refine z_goto (tgt := 20) hX dL_sides_319 (by decide) ?_
  refine z_sub [1, 2, 3, 4, 5, 6, 0] rfl ?_
  exact z_widen (by omega) kk
set_option maxHeartbeats 4000000 in
set_option maxRecDepth 100000 in
theorem sd_side {p : Program} {l : Launch} {e : Env} {R : Room} {s : State} {m : MethodId} {args : Array Value} {below : List Frame} {meth : Method} {c : Code} {Q : State → Prop} {g : zG} {mc lvl : Nat} {κ : zKp} {μ ν : zMu} {ω : zOm} {k : Nat} (hX : zX p l s m args meth c R g RL cL_sides 13 (some .boolean) lvl mc) (hlv : 22 < lvl) (hl0 : l.stackTraces = false) (h : RR κ μ) {a x : Nat} (hx : x < 2) {st th mo : Int32} {fn : Nat → Int32} (h0 : fn x = 0) (hk : k + 40 ≤ mc) (kk : ∀ fn' : Nat → Int32, (∀ q, ¬ q = x → fn' q = fn q) → fn' x = sumB (μ 1) (nI x) → zZ p l e R s m args below meth c g 13 Q κ ν ((a, iA g 2 fn') :: ω) (k + 40) 20 [(0, .ref (gA g 0 0 0)), (1, .int (μ 1 0)), (2, .int (st + sm (sdF (μ 1) (nI x) (staF (μ 1))) (bn (μ 1)))), (3, .int (th + sm (sdF (μ 1) (nI x) (aliF (μ 1))) (bn (μ 1)))), (4, .int (mo + sm (sdF (μ 1) (nI x) (morF (μ 1))) (bn (μ 1)))), (5, .ref a), (6, .int (nI (x + 1)))] []) : zZ p l e R s m args below meth c g 13 Q κ ν ((a, iA g 2 fn) :: ω) k 20 [(0, .ref (gA g 0 0 0)), (1, .int (μ 1 0)), (2, .int st), (3, .int th), (4, .int mo), (5, .ref a), (6, .int (nI x))] [] := by
  refine z_iload hX dL_sides_20 6 rfl ?_
  refine z_iconst (v := 2) hX dL_sides_22 (by decide) ?_
  refine z_icmp_ge (tgt := 322) hX dL_sides_23 (by decide) (fun q => absurd q (nle_i (a := x) (b := 2) hx (by decide))) (fun _ => ?_)
  refine z_iconst (v := 0) hX dL_sides_26 (by decide) ?_
  refine z_istore (lv' := [(7, _), (0, _), (1, _), (2, _), (3, _), (4, _), (5, _), (6, _)]) hX dL_sides_27 (by decide) rfl ?_
  refine z_iconst (v := 0) hX dL_sides_29 (by decide) ?_
  refine z_istore (lv' := [(8, _), (7, _), (0, _), (1, _), (2, _), (3, _), (4, _), (5, _), (6, _)]) hX dL_sides_30 (by decide) rfl ?_
  refine z_sub [2, 3, 4, 5, 6, 7, 8, 1, 0] rfl ?_
  refine sd_lines hX hlv hl0 h hx (by omega) (S0 := st) (T0 := th) (M0 := mo) (f0 := fn) (fun fn' q0 q1 => ?_) (bn (μ 1)) 0 fn st th mo 0 (by omega) (by omega) (fun _ _ => rfl) h0 (Int32.add_zero _).symm (Int32.add_zero _).symm (Int32.add_zero _).symm rfl
  refine z_iconst (v := 0) hX dL_sides_142 (by decide) ?_
  refine z_istore (lv' := [(8, _), (0, _), (1, _), (2, _), (3, _), (4, _), (5, _), (6, _), (7, _)]) hX dL_sides_143 (by decide) rfl ?_
  have go : ∀ y : Nat, y < 3 → ∀ (kx : Nat) (s1 t1 m1 f1 : Int32), zZ p l e R s m args below meth c g 13 Q κ ν ((a, iA g 2 fn') :: ω) kx 151 [(0, .ref (gA g 0 0 0)), (1, .int (μ 1 0)), (2, .int s1), (3, .int t1), (4, .int m1), (5, .ref a), (6, .int (nI x)), (7, .int f1), (8, .int (nI y))] [] → zZ p l e R s m args below meth c g 13 Q κ ν ((a, iA g 2 fn') :: ω) kx 145 [(0, .ref (gA g 0 0 0)), (1, .int (μ 1 0)), (2, .int s1), (3, .int t1), (4, .int m1), (5, .ref a), (6, .int (nI x)), (7, .int f1), (8, .int (nI y))] [] := fun y hy kx s1 t1 m1 f1 k2 => by
    refine z_iload hX dL_sides_145 8 rfl ?_
    refine z_iconst (v := 3) hX dL_sides_147 (by decide) ?_
    exact z_icmp_ge (tgt := 244) hX dL_sides_148 (by decide) (fun q => absurd q (nle_i (a := y) (b := 3) hy (by decide))) (fun _ => k2)
  refine z_sub [1, 2, 3, 4, 5, 6, 7, 8, 0] rfl ?_
  refine go 0 (by decide) _ _ _ _ _ ?_
  refine sd_lane hX hlv hl0 h (k := k) (y := 0) hx (by decide) (by omega) ?_
  refine go 1 (by decide) _ _ _ _ _ ?_
  refine sd_lane hX hlv hl0 h (k := k) (y := 1) hx (by decide) (by omega) ?_
  refine go 2 (by decide) _ _ _ _ _ ?_
  refine sd_lane hX hlv hl0 h (k := k) (y := 2) hx (by decide) (by omega) ?_
  refine z_iload hX dL_sides_145 8 rfl ?_
  refine z_iconst (v := 3) hX dL_sides_147 (by decide) ?_
  refine z_icmp_ge (tgt := 244) hX dL_sides_148 (by decide) (fun _ => ?_) (fun q => absurd (by decide) q)
  refine z_sub [0, 1, 2, 3, 4, 5, 6, 7] rfl ?_
  exact sd_sum hX hlv hl0 h hx q1 (by omega) (z_widen (k2 := k + 40) (by omega) (kk fn' q0 q1))
def ldB (g : zB) : Int32 := if sumB g 0 = sumB g 1 then -13 else if sumB g 1 < sumB g 0 then 0 else 1
theorem ld_leader (l : Launch) (hl0 : l.stackTraces = false) {g : zG} {κ : zKp} {μ ν : zMu} {ω : zOm} (h : RR κ μ) : zMW l g yL_leader cL_leader 2 hh_leader 20 1 [.ref (gA g 0 0 0)] κ ν ω κ ν ω (ldB (μ 1)) := by
  obtain ⟨c1, c2⟩ := lead_c h.bI
  unfold ldB
  by_cases h0 : sumB (μ 1) 0 - sumB (μ 1) 1 = 0
  · rw [if_pos (c1.mp h0)]; exact go_leader l hl0 h h0
  · have k := in_leader l hl0 (g := g) (ν := ν) (ω := ω) h h0
    rw [if_neg (fun q => h0 (c1.mpr q))]
    by_cases h2 : 0 < sumB (μ 1) 0 - sumB (μ 1) 1
    · rw [if_pos h2] at k; rw [if_pos (c2.mp h2)]; exact k
    · rw [if_neg h2] at k; rw [if_neg (fun q => h2 (c2.mpr q))]; exact k
set_option maxHeartbeats 4000000 in
set_option maxRecDepth 100000 in
theorem sd_end {p : Program} {l : Launch} {e : Env} {R : Room} {s : State} {m : MethodId} {args : Array Value} {below : List Frame} {meth : Method} {c : Code} {Q : State → Prop} {g : zG} {mc lvl : Nat} {κ : zKp} {μ ν : zMu} {ω : zOm} {k : Nat} (hX : zX p l s m args meth c R g RL cL_sides 13 (some .boolean) lvl mc) (hlv : 22 < lvl) (hl0 : l.stackTraces = false) (h : RR κ μ) {a : Nat} {fn : Nat → Int32} (f0 : fn 0 = sumB (μ 1) 0) (f1 : fn 1 = sumB (μ 1) 1) (hn0 : ¬ μ 1 0 = 0) (hk : k + 6 ≤ mc) : zZ p l e R s m args below meth c g 13 (zQ g κ ν ω (some (.int 1)) below args s mc) κ ν (((a, iA g 2 fn) :: ω)) k 322 [(0, .ref (gA g 0 0 0)), (1, .int (μ 1 0)), (2, .int (staB (μ 1))), (3, .int (aliB (μ 1))), (4, .int (morB (μ 1))), (5, .ref a)] [] := by
  have h12 := h.n.1
  obtain ⟨za, hza, eza⟩ := mor_of h.bI
  obtain ⟨zb, hzb, ezb⟩ := ali_of h.bI
  obtain ⟨zs, hzs, ezs⟩ := sta_of h.bI
  have hnp : 0 < bn (μ 1) := ti_pos h.n.2 hn0
  have hnanF : FP.fdiv (FP.i2f (staB (μ 1))) (FP.i2f (μ 1 0)) &&& 0x7fffffff ≤ 0x7f800000 := by rw [ezs, h.n.2]; exact ff_nan zs (by omega) (bn (μ 1)) (by omega) hnp
  have hcmpF : Op.cmpValue (FP.fcmp (FP.fdiv (FP.i2f (staB (μ 1))) (FP.i2f (μ 1 0))) (FP.fdiv (FP.i2f (staB (μ 1))) (FP.i2f (μ 1 0)))) .l = 0 := cmp_l (by rw [ezs, h.n.2]; exact ff_cmp zs (by omega) (bn (μ 1)) (by omega) hnp)
  refine z_iload_n hX dL_sides_322 3 rfl ?_
  refine z_if_eq (tgt := 340) hX dL_sides_323 (by decide) (fun h323 => ?_) (fun h323 => ?_)
  · skip
    refine z_iconst (v := 1) hX dL_sides_340 (by decide) ?_
    refine z_goto (tgt := 345) hX dL_sides_341 (by decide) ?_
    refine z_istore (lv' := [(6, _), (0, _), (1, _), (2, _), (3, _), (4, _), (5, _)]) hX dL_sides_345 (by decide) rfl ?_
    refine z_iload hX dL_sides_347 0 rfl ?_
    refine z_if_eq (tgt := 466) hX dL_sides_349 (by decide) (fun h349 => absurd h349 (by decide)) (fun h349 => ?_)
    refine z_aload_n hX dL_sides_352 1 rfl ?_
    refine z_callV1 hX (dm_standingShare l h hn0) cv_RL_274 zRc0 dL_sides_353 ⟨by omega, by decide, by omega⟩ rfl rfl (Nat.le_of_ble_eq_true rfl) ?_
    refine z_iload_n hX dL_sides_356 3 rfl ?_
    refine z_i2f hX dL_sides_357 ?_
    refine z_iload_n hX dL_sides_358 2 rfl ?_
    refine z_i2f hX dL_sides_359 ?_
    refine z_fdiv hX hnanF dL_sides_360 ?_
    refine z_fcmp hX dL_sides_361 ?_
    refine z_isv hcmpF ?_
    refine z_if_ne (tgt := 466) hX dL_sides_362 (by decide) (fun h362 => absurd h362 (fun q => q rfl)) (fun h362 => ?_)
    refine z_aload_n hX dL_sides_365 1 rfl ?_
    refine z_callW hX (ld_leader l hl0 h) cc_278 dL_sides_366 ⟨by omega, by decide, by omega⟩ rfl rfl (Nat.le_of_ble_eq_true rfl) ?_
    refine z_aload hX dL_sides_369 6 rfl ?_
    refine z_iconst (v := 0) hX dL_sides_371 (by decide) ?_
    refine zq_iald hX (j := 0) rfl rfl (q := 0) (by decide) (by decide) dL_sides_372 ?_
    refine z_isv f0 ?_
    refine z_aload hX dL_sides_373 6 rfl ?_
    refine z_iconst (v := 1) hX dL_sides_375 (by decide) ?_
    refine zq_iald hX (j := 0) rfl rfl (q := 1) (by decide) (by decide) dL_sides_376 ?_
    refine z_isv f1 ?_
    refine z_icmp_ne (tgt := 385) hX dL_sides_377 (by decide) (fun h377 => ?_) (fun h377 => ?_)
    · skip
      refine z_aload hX dL_sides_385 6 rfl ?_
      refine z_iconst (v := 0) hX dL_sides_387 (by decide) ?_
      refine zq_iald hX (j := 0) rfl rfl (q := 0) (by decide) (by decide) dL_sides_388 ?_
      refine z_isv f0 ?_
      refine z_aload hX dL_sides_389 6 rfl ?_
      refine z_iconst (v := 1) hX dL_sides_391 (by decide) ?_
      refine zq_iald hX (j := 0) rfl rfl (q := 1) (by decide) (by decide) dL_sides_392 ?_
      refine z_isv f1 ?_
      refine z_icmp_le (tgt := 400) hX dL_sides_393 (by decide) (fun h393 => ?_) (fun h393 => ?_)
      · skip
        refine z_iconst (v := 1) hX dL_sides_400 (by decide) ?_
        refine z_icmp_ne (tgt := 466) hX dL_sides_401 (by decide) (fun h401 => absurd h401 (fun q => q (by unfold ldB; rw [if_neg h377, if_neg (Int32.not_lt.mpr h393)]))) (fun h401 => ?_)
        refine z_aload_n hX dL_sides_404 1 rfl ?_
        refine z_callV1 hX (dm_isConsistent l h) cv_RL_280 zRc0 dL_sides_405 ⟨by omega, by decide, by omega⟩ rfl rfl (Nat.le_of_ble_eq_true rfl) ?_
        refine z_if_eq (tgt := 466) hX dL_sides_408 (by decide) (fun h408 => absurd h408 (by decide)) (fun h408 => ?_)
        refine z_aload_n hX dL_sides_411 1 rfl ?_
        refine z_iconst (v := 2) hX dL_sides_412 (by decide) ?_
        refine z_callW hX (out_sumOf l hl0 h (by decide)) cc_258 dL_sides_413 ⟨by omega, by decide, by omega⟩ rfl rfl (Nat.le_of_ble_eq_true rfl) ?_
        refine z_bipush (v := -12) hX dL_sides_416 (by decide) ?_
        refine z_icmp_ne (tgt := 466) hX dL_sides_418 (by decide) (fun h418 => absurd h418 (by decide)) (fun h418 => ?_)
        refine z_aload_n hX dL_sides_421 1 rfl ?_
        refine z_iconst (v := -1) hX dL_sides_422 (by decide) ?_
        refine z_callW hX (out_byCells l hl0 h (by decide)) cc_261 dL_sides_423 ⟨by omega, by decide, by omega⟩ rfl rfl (Nat.le_of_ble_eq_true rfl) ?_
        refine z_bipush (v := -12) hX dL_sides_426 (by decide) ?_
        refine z_icmp_ne (tgt := 466) hX dL_sides_428 (by decide) (fun h428 => absurd h428 (by decide)) (fun h428 => ?_)
        refine z_aload_n hX dL_sides_431 1 rfl ?_
        refine z_iconst (v := 2) hX dL_sides_432 (by decide) ?_
        refine z_callW hX (out_fallen l hl0 h (by decide)) cc_264 dL_sides_433 ⟨by omega, by decide, by omega⟩ rfl rfl (Nat.le_of_ble_eq_true rfl) ?_
        refine z_bipush (v := -12) hX dL_sides_436 (by decide) ?_
        refine z_icmp_ne (tgt := 466) hX dL_sides_438 (by decide) (fun h438 => absurd h438 (by decide)) (fun h438 => ?_)
        refine z_aload_n hX dL_sides_441 1 rfl ?_
        refine z_iconst (v := 2) hX dL_sides_442 (by decide) ?_
        refine z_callW hX (out_jars l hl0 h (by decide)) cc_267 dL_sides_443 ⟨by omega, by decide, by omega⟩ rfl rfl (Nat.le_of_ble_eq_true rfl) ?_
        refine z_bipush (v := -12) hX dL_sides_446 (by decide) ?_
        refine z_icmp_ne (tgt := 466) hX dL_sides_448 (by decide) (fun h448 => absurd h448 (by decide)) (fun h448 => ?_)
        refine z_aload_n hX dL_sides_451 1 rfl ?_
        refine z_iconst (v := 2) hX dL_sides_452 (by decide) ?_
        refine z_iconst (v := 0) hX dL_sides_453 (by decide) ?_
        refine z_callW hX (out_front l hl0 h (by decide)) cc_255 dL_sides_454 ⟨by omega, by decide, by omega⟩ rfl rfl (Nat.le_of_ble_eq_true rfl) ?_
        refine z_bipush (v := -12) hX dL_sides_457 (by decide) ?_
        refine z_icmp_ne (tgt := 466) hX dL_sides_459 (by decide) (fun h459 => absurd h459 (by decide)) (fun h459 => ?_)
        refine z_iconst (v := 1) hX dL_sides_462 (by decide) ?_
        refine z_goto (tgt := 467) hX dL_sides_463 (by decide) ?_
        exact z_iret hX dL_sides_467 (by omega) rfl rfl (fun _ h => WW_sub (List.sublist_cons_self _ _) h)
      · skip
        refine z_iconst (v := 0) hX dL_sides_396 (by decide) ?_
        refine z_goto (tgt := 401) hX dL_sides_397 (by decide) ?_
        refine z_icmp_ne (tgt := 466) hX dL_sides_401 (by decide) (fun h401 => absurd h401 (fun q => q (by unfold ldB; rw [if_neg h377, if_pos (Int32.not_le.mp h393)]))) (fun h401 => ?_)
        refine z_aload_n hX dL_sides_404 1 rfl ?_
        refine z_callV1 hX (dm_isConsistent l h) cv_RL_280 zRc0 dL_sides_405 ⟨by omega, by decide, by omega⟩ rfl rfl (Nat.le_of_ble_eq_true rfl) ?_
        refine z_if_eq (tgt := 466) hX dL_sides_408 (by decide) (fun h408 => absurd h408 (by decide)) (fun h408 => ?_)
        refine z_aload_n hX dL_sides_411 1 rfl ?_
        refine z_iconst (v := 2) hX dL_sides_412 (by decide) ?_
        refine z_callW hX (out_sumOf l hl0 h (by decide)) cc_258 dL_sides_413 ⟨by omega, by decide, by omega⟩ rfl rfl (Nat.le_of_ble_eq_true rfl) ?_
        refine z_bipush (v := -12) hX dL_sides_416 (by decide) ?_
        refine z_icmp_ne (tgt := 466) hX dL_sides_418 (by decide) (fun h418 => absurd h418 (by decide)) (fun h418 => ?_)
        refine z_aload_n hX dL_sides_421 1 rfl ?_
        refine z_iconst (v := -1) hX dL_sides_422 (by decide) ?_
        refine z_callW hX (out_byCells l hl0 h (by decide)) cc_261 dL_sides_423 ⟨by omega, by decide, by omega⟩ rfl rfl (Nat.le_of_ble_eq_true rfl) ?_
        refine z_bipush (v := -12) hX dL_sides_426 (by decide) ?_
        refine z_icmp_ne (tgt := 466) hX dL_sides_428 (by decide) (fun h428 => absurd h428 (by decide)) (fun h428 => ?_)
        refine z_aload_n hX dL_sides_431 1 rfl ?_
        refine z_iconst (v := 2) hX dL_sides_432 (by decide) ?_
        refine z_callW hX (out_fallen l hl0 h (by decide)) cc_264 dL_sides_433 ⟨by omega, by decide, by omega⟩ rfl rfl (Nat.le_of_ble_eq_true rfl) ?_
        refine z_bipush (v := -12) hX dL_sides_436 (by decide) ?_
        refine z_icmp_ne (tgt := 466) hX dL_sides_438 (by decide) (fun h438 => absurd h438 (by decide)) (fun h438 => ?_)
        refine z_aload_n hX dL_sides_441 1 rfl ?_
        refine z_iconst (v := 2) hX dL_sides_442 (by decide) ?_
        refine z_callW hX (out_jars l hl0 h (by decide)) cc_267 dL_sides_443 ⟨by omega, by decide, by omega⟩ rfl rfl (Nat.le_of_ble_eq_true rfl) ?_
        refine z_bipush (v := -12) hX dL_sides_446 (by decide) ?_
        refine z_icmp_ne (tgt := 466) hX dL_sides_448 (by decide) (fun h448 => absurd h448 (by decide)) (fun h448 => ?_)
        refine z_aload_n hX dL_sides_451 1 rfl ?_
        refine z_iconst (v := 2) hX dL_sides_452 (by decide) ?_
        refine z_iconst (v := 0) hX dL_sides_453 (by decide) ?_
        refine z_callW hX (out_front l hl0 h (by decide)) cc_255 dL_sides_454 ⟨by omega, by decide, by omega⟩ rfl rfl (Nat.le_of_ble_eq_true rfl) ?_
        refine z_bipush (v := -12) hX dL_sides_457 (by decide) ?_
        refine z_icmp_ne (tgt := 466) hX dL_sides_459 (by decide) (fun h459 => absurd h459 (by decide)) (fun h459 => ?_)
        refine z_iconst (v := 1) hX dL_sides_462 (by decide) ?_
        refine z_goto (tgt := 467) hX dL_sides_463 (by decide) ?_
        exact z_iret hX dL_sides_467 (by omega) rfl rfl (fun _ h => WW_sub (List.sublist_cons_self _ _) h)
    · skip
      refine z_bipush (v := -13) hX dL_sides_380 (by decide) ?_
      refine z_goto (tgt := 401) hX dL_sides_382 (by decide) ?_
      refine z_icmp_ne (tgt := 466) hX dL_sides_401 (by decide) (fun h401 => absurd h401 (fun q => q (by unfold ldB; rw [if_pos h377]))) (fun h401 => ?_)
      refine z_aload_n hX dL_sides_404 1 rfl ?_
      refine z_callV1 hX (dm_isConsistent l h) cv_RL_280 zRc0 dL_sides_405 ⟨by omega, by decide, by omega⟩ rfl rfl (Nat.le_of_ble_eq_true rfl) ?_
      refine z_if_eq (tgt := 466) hX dL_sides_408 (by decide) (fun h408 => absurd h408 (by decide)) (fun h408 => ?_)
      refine z_aload_n hX dL_sides_411 1 rfl ?_
      refine z_iconst (v := 2) hX dL_sides_412 (by decide) ?_
      refine z_callW hX (out_sumOf l hl0 h (by decide)) cc_258 dL_sides_413 ⟨by omega, by decide, by omega⟩ rfl rfl (Nat.le_of_ble_eq_true rfl) ?_
      refine z_bipush (v := -12) hX dL_sides_416 (by decide) ?_
      refine z_icmp_ne (tgt := 466) hX dL_sides_418 (by decide) (fun h418 => absurd h418 (by decide)) (fun h418 => ?_)
      refine z_aload_n hX dL_sides_421 1 rfl ?_
      refine z_iconst (v := -1) hX dL_sides_422 (by decide) ?_
      refine z_callW hX (out_byCells l hl0 h (by decide)) cc_261 dL_sides_423 ⟨by omega, by decide, by omega⟩ rfl rfl (Nat.le_of_ble_eq_true rfl) ?_
      refine z_bipush (v := -12) hX dL_sides_426 (by decide) ?_
      refine z_icmp_ne (tgt := 466) hX dL_sides_428 (by decide) (fun h428 => absurd h428 (by decide)) (fun h428 => ?_)
      refine z_aload_n hX dL_sides_431 1 rfl ?_
      refine z_iconst (v := 2) hX dL_sides_432 (by decide) ?_
      refine z_callW hX (out_fallen l hl0 h (by decide)) cc_264 dL_sides_433 ⟨by omega, by decide, by omega⟩ rfl rfl (Nat.le_of_ble_eq_true rfl) ?_
      refine z_bipush (v := -12) hX dL_sides_436 (by decide) ?_
      refine z_icmp_ne (tgt := 466) hX dL_sides_438 (by decide) (fun h438 => absurd h438 (by decide)) (fun h438 => ?_)
      refine z_aload_n hX dL_sides_441 1 rfl ?_
      refine z_iconst (v := 2) hX dL_sides_442 (by decide) ?_
      refine z_callW hX (out_jars l hl0 h (by decide)) cc_267 dL_sides_443 ⟨by omega, by decide, by omega⟩ rfl rfl (Nat.le_of_ble_eq_true rfl) ?_
      refine z_bipush (v := -12) hX dL_sides_446 (by decide) ?_
      refine z_icmp_ne (tgt := 466) hX dL_sides_448 (by decide) (fun h448 => absurd h448 (by decide)) (fun h448 => ?_)
      refine z_aload_n hX dL_sides_451 1 rfl ?_
      refine z_iconst (v := 2) hX dL_sides_452 (by decide) ?_
      refine z_iconst (v := 0) hX dL_sides_453 (by decide) ?_
      refine z_callW hX (out_front l hl0 h (by decide)) cc_255 dL_sides_454 ⟨by omega, by decide, by omega⟩ rfl rfl (Nat.le_of_ble_eq_true rfl) ?_
      refine z_bipush (v := -12) hX dL_sides_457 (by decide) ?_
      refine z_icmp_ne (tgt := 466) hX dL_sides_459 (by decide) (fun h459 => absurd h459 (by decide)) (fun h459 => ?_)
      refine z_iconst (v := 1) hX dL_sides_462 (by decide) ?_
      refine z_goto (tgt := 467) hX dL_sides_463 (by decide) ?_
      exact z_iret hX dL_sides_467 (by omega) rfl rfl (fun _ h => WW_sub (List.sublist_cons_self _ _) h)
  · have hnan : FP.ddiv (FP.i2d (morB (μ 1))) (FP.i2d (aliB (μ 1))) &&& 0x7fffffffffffffff ≤ 0x7ff0000000000000 := by rw [eza, ezb]; exact dd_nan za (by omega) zb (by omega) (ti_pos ezb h323)
    have hcmp : Op.cmpValue (FP.dcmp (FP.ddiv (FP.i2d (morB (μ 1))) (FP.i2d (aliB (μ 1)))) (FP.ddiv (FP.i2d (morB (μ 1))) (FP.i2d (aliB (μ 1))))) .l = 0 := cmp_l (by rw [eza, ezb]; exact dd_cmp za (by omega) zb (by omega) (ti_pos ezb h323))
    refine z_aload_n hX dL_sides_326 0 rfl ?_
    refine z_callV1 hX (dm_meanMorale l h h323) cv_RL_270 zRc0 dL_sides_327 ⟨by omega, by decide, by omega⟩ rfl rfl (Nat.le_of_ble_eq_true rfl) ?_
    refine z_iload hX dL_sides_330 4 rfl ?_
    refine z_i2d hX dL_sides_332 ?_
    refine z_iload_n hX dL_sides_333 3 rfl ?_
    refine z_i2d hX dL_sides_334 ?_
    refine z_ddiv hX hnan dL_sides_335 ?_
    refine z_dcmp hX dL_sides_336 ?_
    refine z_isv hcmp ?_
    refine z_if_ne (tgt := 344) hX dL_sides_337 (by decide) (fun h337 => absurd h337 (fun q => q rfl)) (fun h337 => ?_)
    refine z_iconst (v := 1) hX dL_sides_340 (by decide) ?_
    refine z_goto (tgt := 345) hX dL_sides_341 (by decide) ?_
    refine z_istore (lv' := [(6, _), (0, _), (1, _), (2, _), (3, _), (4, _), (5, _)]) hX dL_sides_345 (by decide) rfl ?_
    refine z_iload hX dL_sides_347 0 rfl ?_
    refine z_if_eq (tgt := 466) hX dL_sides_349 (by decide) (fun h349 => absurd h349 (by decide)) (fun h349 => ?_)
    refine z_aload_n hX dL_sides_352 1 rfl ?_
    refine z_callV1 hX (dm_standingShare l h hn0) cv_RL_274 zRc0 dL_sides_353 ⟨by omega, by decide, by omega⟩ rfl rfl (Nat.le_of_ble_eq_true rfl) ?_
    refine z_iload_n hX dL_sides_356 3 rfl ?_
    refine z_i2f hX dL_sides_357 ?_
    refine z_iload_n hX dL_sides_358 2 rfl ?_
    refine z_i2f hX dL_sides_359 ?_
    refine z_fdiv hX hnanF dL_sides_360 ?_
    refine z_fcmp hX dL_sides_361 ?_
    refine z_isv hcmpF ?_
    refine z_if_ne (tgt := 466) hX dL_sides_362 (by decide) (fun h362 => absurd h362 (fun q => q rfl)) (fun h362 => ?_)
    refine z_aload_n hX dL_sides_365 1 rfl ?_
    refine z_callW hX (ld_leader l hl0 h) cc_278 dL_sides_366 ⟨by omega, by decide, by omega⟩ rfl rfl (Nat.le_of_ble_eq_true rfl) ?_
    refine z_aload hX dL_sides_369 6 rfl ?_
    refine z_iconst (v := 0) hX dL_sides_371 (by decide) ?_
    refine zq_iald hX (j := 0) rfl rfl (q := 0) (by decide) (by decide) dL_sides_372 ?_
    refine z_isv f0 ?_
    refine z_aload hX dL_sides_373 6 rfl ?_
    refine z_iconst (v := 1) hX dL_sides_375 (by decide) ?_
    refine zq_iald hX (j := 0) rfl rfl (q := 1) (by decide) (by decide) dL_sides_376 ?_
    refine z_isv f1 ?_
    refine z_icmp_ne (tgt := 385) hX dL_sides_377 (by decide) (fun h377 => ?_) (fun h377 => ?_)
    · skip
      refine z_aload hX dL_sides_385 6 rfl ?_
      refine z_iconst (v := 0) hX dL_sides_387 (by decide) ?_
      refine zq_iald hX (j := 0) rfl rfl (q := 0) (by decide) (by decide) dL_sides_388 ?_
      refine z_isv f0 ?_
      refine z_aload hX dL_sides_389 6 rfl ?_
      refine z_iconst (v := 1) hX dL_sides_391 (by decide) ?_
      refine zq_iald hX (j := 0) rfl rfl (q := 1) (by decide) (by decide) dL_sides_392 ?_
      refine z_isv f1 ?_
      refine z_icmp_le (tgt := 400) hX dL_sides_393 (by decide) (fun h393 => ?_) (fun h393 => ?_)
      · skip
        refine z_iconst (v := 1) hX dL_sides_400 (by decide) ?_
        refine z_icmp_ne (tgt := 466) hX dL_sides_401 (by decide) (fun h401 => absurd h401 (fun q => q (by unfold ldB; rw [if_neg h377, if_neg (Int32.not_lt.mpr h393)]))) (fun h401 => ?_)
        refine z_aload_n hX dL_sides_404 1 rfl ?_
        refine z_callV1 hX (dm_isConsistent l h) cv_RL_280 zRc0 dL_sides_405 ⟨by omega, by decide, by omega⟩ rfl rfl (Nat.le_of_ble_eq_true rfl) ?_
        refine z_if_eq (tgt := 466) hX dL_sides_408 (by decide) (fun h408 => absurd h408 (by decide)) (fun h408 => ?_)
        refine z_aload_n hX dL_sides_411 1 rfl ?_
        refine z_iconst (v := 2) hX dL_sides_412 (by decide) ?_
        refine z_callW hX (out_sumOf l hl0 h (by decide)) cc_258 dL_sides_413 ⟨by omega, by decide, by omega⟩ rfl rfl (Nat.le_of_ble_eq_true rfl) ?_
        refine z_bipush (v := -12) hX dL_sides_416 (by decide) ?_
        refine z_icmp_ne (tgt := 466) hX dL_sides_418 (by decide) (fun h418 => absurd h418 (by decide)) (fun h418 => ?_)
        refine z_aload_n hX dL_sides_421 1 rfl ?_
        refine z_iconst (v := -1) hX dL_sides_422 (by decide) ?_
        refine z_callW hX (out_byCells l hl0 h (by decide)) cc_261 dL_sides_423 ⟨by omega, by decide, by omega⟩ rfl rfl (Nat.le_of_ble_eq_true rfl) ?_
        refine z_bipush (v := -12) hX dL_sides_426 (by decide) ?_
        refine z_icmp_ne (tgt := 466) hX dL_sides_428 (by decide) (fun h428 => absurd h428 (by decide)) (fun h428 => ?_)
        refine z_aload_n hX dL_sides_431 1 rfl ?_
        refine z_iconst (v := 2) hX dL_sides_432 (by decide) ?_
        refine z_callW hX (out_fallen l hl0 h (by decide)) cc_264 dL_sides_433 ⟨by omega, by decide, by omega⟩ rfl rfl (Nat.le_of_ble_eq_true rfl) ?_
        refine z_bipush (v := -12) hX dL_sides_436 (by decide) ?_
        refine z_icmp_ne (tgt := 466) hX dL_sides_438 (by decide) (fun h438 => absurd h438 (by decide)) (fun h438 => ?_)
        refine z_aload_n hX dL_sides_441 1 rfl ?_
        refine z_iconst (v := 2) hX dL_sides_442 (by decide) ?_
        refine z_callW hX (out_jars l hl0 h (by decide)) cc_267 dL_sides_443 ⟨by omega, by decide, by omega⟩ rfl rfl (Nat.le_of_ble_eq_true rfl) ?_
        refine z_bipush (v := -12) hX dL_sides_446 (by decide) ?_
        refine z_icmp_ne (tgt := 466) hX dL_sides_448 (by decide) (fun h448 => absurd h448 (by decide)) (fun h448 => ?_)
        refine z_aload_n hX dL_sides_451 1 rfl ?_
        refine z_iconst (v := 2) hX dL_sides_452 (by decide) ?_
        refine z_iconst (v := 0) hX dL_sides_453 (by decide) ?_
        refine z_callW hX (out_front l hl0 h (by decide)) cc_255 dL_sides_454 ⟨by omega, by decide, by omega⟩ rfl rfl (Nat.le_of_ble_eq_true rfl) ?_
        refine z_bipush (v := -12) hX dL_sides_457 (by decide) ?_
        refine z_icmp_ne (tgt := 466) hX dL_sides_459 (by decide) (fun h459 => absurd h459 (by decide)) (fun h459 => ?_)
        refine z_iconst (v := 1) hX dL_sides_462 (by decide) ?_
        refine z_goto (tgt := 467) hX dL_sides_463 (by decide) ?_
        exact z_iret hX dL_sides_467 (by omega) rfl rfl (fun _ h => WW_sub (List.sublist_cons_self _ _) h)
      · skip
        refine z_iconst (v := 0) hX dL_sides_396 (by decide) ?_
        refine z_goto (tgt := 401) hX dL_sides_397 (by decide) ?_
        refine z_icmp_ne (tgt := 466) hX dL_sides_401 (by decide) (fun h401 => absurd h401 (fun q => q (by unfold ldB; rw [if_neg h377, if_pos (Int32.not_le.mp h393)]))) (fun h401 => ?_)
        refine z_aload_n hX dL_sides_404 1 rfl ?_
        refine z_callV1 hX (dm_isConsistent l h) cv_RL_280 zRc0 dL_sides_405 ⟨by omega, by decide, by omega⟩ rfl rfl (Nat.le_of_ble_eq_true rfl) ?_
        refine z_if_eq (tgt := 466) hX dL_sides_408 (by decide) (fun h408 => absurd h408 (by decide)) (fun h408 => ?_)
        refine z_aload_n hX dL_sides_411 1 rfl ?_
        refine z_iconst (v := 2) hX dL_sides_412 (by decide) ?_
        refine z_callW hX (out_sumOf l hl0 h (by decide)) cc_258 dL_sides_413 ⟨by omega, by decide, by omega⟩ rfl rfl (Nat.le_of_ble_eq_true rfl) ?_
        refine z_bipush (v := -12) hX dL_sides_416 (by decide) ?_
        refine z_icmp_ne (tgt := 466) hX dL_sides_418 (by decide) (fun h418 => absurd h418 (by decide)) (fun h418 => ?_)
        refine z_aload_n hX dL_sides_421 1 rfl ?_
        refine z_iconst (v := -1) hX dL_sides_422 (by decide) ?_
        refine z_callW hX (out_byCells l hl0 h (by decide)) cc_261 dL_sides_423 ⟨by omega, by decide, by omega⟩ rfl rfl (Nat.le_of_ble_eq_true rfl) ?_
        refine z_bipush (v := -12) hX dL_sides_426 (by decide) ?_
        refine z_icmp_ne (tgt := 466) hX dL_sides_428 (by decide) (fun h428 => absurd h428 (by decide)) (fun h428 => ?_)
        refine z_aload_n hX dL_sides_431 1 rfl ?_
        refine z_iconst (v := 2) hX dL_sides_432 (by decide) ?_
        refine z_callW hX (out_fallen l hl0 h (by decide)) cc_264 dL_sides_433 ⟨by omega, by decide, by omega⟩ rfl rfl (Nat.le_of_ble_eq_true rfl) ?_
        refine z_bipush (v := -12) hX dL_sides_436 (by decide) ?_
        refine z_icmp_ne (tgt := 466) hX dL_sides_438 (by decide) (fun h438 => absurd h438 (by decide)) (fun h438 => ?_)
        refine z_aload_n hX dL_sides_441 1 rfl ?_
        refine z_iconst (v := 2) hX dL_sides_442 (by decide) ?_
        refine z_callW hX (out_jars l hl0 h (by decide)) cc_267 dL_sides_443 ⟨by omega, by decide, by omega⟩ rfl rfl (Nat.le_of_ble_eq_true rfl) ?_
        refine z_bipush (v := -12) hX dL_sides_446 (by decide) ?_
        refine z_icmp_ne (tgt := 466) hX dL_sides_448 (by decide) (fun h448 => absurd h448 (by decide)) (fun h448 => ?_)
        refine z_aload_n hX dL_sides_451 1 rfl ?_
        refine z_iconst (v := 2) hX dL_sides_452 (by decide) ?_
        refine z_iconst (v := 0) hX dL_sides_453 (by decide) ?_
        refine z_callW hX (out_front l hl0 h (by decide)) cc_255 dL_sides_454 ⟨by omega, by decide, by omega⟩ rfl rfl (Nat.le_of_ble_eq_true rfl) ?_
        refine z_bipush (v := -12) hX dL_sides_457 (by decide) ?_
        refine z_icmp_ne (tgt := 466) hX dL_sides_459 (by decide) (fun h459 => absurd h459 (by decide)) (fun h459 => ?_)
        refine z_iconst (v := 1) hX dL_sides_462 (by decide) ?_
        refine z_goto (tgt := 467) hX dL_sides_463 (by decide) ?_
        exact z_iret hX dL_sides_467 (by omega) rfl rfl (fun _ h => WW_sub (List.sublist_cons_self _ _) h)
    · skip
      refine z_bipush (v := -13) hX dL_sides_380 (by decide) ?_
      refine z_goto (tgt := 401) hX dL_sides_382 (by decide) ?_
      refine z_icmp_ne (tgt := 466) hX dL_sides_401 (by decide) (fun h401 => absurd h401 (fun q => q (by unfold ldB; rw [if_pos h377]))) (fun h401 => ?_)
      refine z_aload_n hX dL_sides_404 1 rfl ?_
      refine z_callV1 hX (dm_isConsistent l h) cv_RL_280 zRc0 dL_sides_405 ⟨by omega, by decide, by omega⟩ rfl rfl (Nat.le_of_ble_eq_true rfl) ?_
      refine z_if_eq (tgt := 466) hX dL_sides_408 (by decide) (fun h408 => absurd h408 (by decide)) (fun h408 => ?_)
      refine z_aload_n hX dL_sides_411 1 rfl ?_
      refine z_iconst (v := 2) hX dL_sides_412 (by decide) ?_
      refine z_callW hX (out_sumOf l hl0 h (by decide)) cc_258 dL_sides_413 ⟨by omega, by decide, by omega⟩ rfl rfl (Nat.le_of_ble_eq_true rfl) ?_
      refine z_bipush (v := -12) hX dL_sides_416 (by decide) ?_
      refine z_icmp_ne (tgt := 466) hX dL_sides_418 (by decide) (fun h418 => absurd h418 (by decide)) (fun h418 => ?_)
      refine z_aload_n hX dL_sides_421 1 rfl ?_
      refine z_iconst (v := -1) hX dL_sides_422 (by decide) ?_
      refine z_callW hX (out_byCells l hl0 h (by decide)) cc_261 dL_sides_423 ⟨by omega, by decide, by omega⟩ rfl rfl (Nat.le_of_ble_eq_true rfl) ?_
      refine z_bipush (v := -12) hX dL_sides_426 (by decide) ?_
      refine z_icmp_ne (tgt := 466) hX dL_sides_428 (by decide) (fun h428 => absurd h428 (by decide)) (fun h428 => ?_)
      refine z_aload_n hX dL_sides_431 1 rfl ?_
      refine z_iconst (v := 2) hX dL_sides_432 (by decide) ?_
      refine z_callW hX (out_fallen l hl0 h (by decide)) cc_264 dL_sides_433 ⟨by omega, by decide, by omega⟩ rfl rfl (Nat.le_of_ble_eq_true rfl) ?_
      refine z_bipush (v := -12) hX dL_sides_436 (by decide) ?_
      refine z_icmp_ne (tgt := 466) hX dL_sides_438 (by decide) (fun h438 => absurd h438 (by decide)) (fun h438 => ?_)
      refine z_aload_n hX dL_sides_441 1 rfl ?_
      refine z_iconst (v := 2) hX dL_sides_442 (by decide) ?_
      refine z_callW hX (out_jars l hl0 h (by decide)) cc_267 dL_sides_443 ⟨by omega, by decide, by omega⟩ rfl rfl (Nat.le_of_ble_eq_true rfl) ?_
      refine z_bipush (v := -12) hX dL_sides_446 (by decide) ?_
      refine z_icmp_ne (tgt := 466) hX dL_sides_448 (by decide) (fun h448 => absurd h448 (by decide)) (fun h448 => ?_)
      refine z_aload_n hX dL_sides_451 1 rfl ?_
      refine z_iconst (v := 2) hX dL_sides_452 (by decide) ?_
      refine z_iconst (v := 0) hX dL_sides_453 (by decide) ?_
      refine z_callW hX (out_front l hl0 h (by decide)) cc_255 dL_sides_454 ⟨by omega, by decide, by omega⟩ rfl rfl (Nat.le_of_ble_eq_true rfl) ?_
      refine z_bipush (v := -12) hX dL_sides_457 (by decide) ?_
      refine z_icmp_ne (tgt := 466) hX dL_sides_459 (by decide) (fun h459 => absurd h459 (by decide)) (fun h459 => ?_)
      refine z_iconst (v := 1) hX dL_sides_462 (by decide) ?_
      refine z_goto (tgt := 467) hX dL_sides_463 (by decide) ?_
      exact z_iret hX dL_sides_467 (by omega) rfl rfl (fun _ h => WW_sub (List.sublist_cons_self _ _) h)
set_option maxHeartbeats 4000000 in
set_option maxRecDepth 100000 in
theorem lw_sides (l : Launch) (hl0 : l.stackTraces = false) {g : zG} {κ : zKp} {μ ν : zMu} {ω : zOm} (h : RR κ μ) (hn0 : ¬ μ 1 0 = 0) : zM l g yL_sides cL_sides 13 (some .boolean) 23 100 [.ref (gA g 0 0 0)] κ ν ω κ ν ω (some (.int 1)) := by
  refine zM_of (by decide) (Nat.le_of_ble_eq_true rfl) (fun p e R s m args below meth c hX => ?_)
  show zZ p l e R s m args below meth c g 13 _ _ _ _ 0 0 [(0, .ref (gA g 0 0 0))] []
  refine z_aload_n hX dL_sides_0 0 rfl ?_
  refine z_callV1 hX (dm_lineCount l h) cv_RL_160 zRc0 dL_sides_1 ⟨by decide, by decide, by decide⟩ rfl rfl (Nat.le_of_ble_eq_true rfl) ?_
  refine z_istore_n (lv' := [(1, _), (0, _)]) hX dL_sides_4 (by decide) rfl ?_
  refine z_iconst (v := 0) hX dL_sides_5 (by decide) ?_
  refine z_istore_n (lv' := [(2, _), (1, _), (0, _)]) hX dL_sides_6 (by decide) rfl ?_
  refine z_iconst (v := 0) hX dL_sides_7 (by decide) ?_
  refine z_istore_n (lv' := [(3, _), (2, _), (1, _), (0, _)]) hX dL_sides_8 (by decide) rfl ?_
  refine z_iconst (v := 0) hX dL_sides_9 (by decide) ?_
  refine z_istore (lv' := [(4, _), (3, _), (2, _), (1, _), (0, _)]) hX dL_sides_10 (by decide) rfl ?_
  refine z_iconst (v := 2) hX dL_sides_12 (by decide) ?_
  refine zq_newa hX (t0 := 1) (N := 2) (r := 1) (a0 := (2, .inl (fun _ => 0))) (ty := .int) rfl (gW_I 103 (by decide +kernel) rfl) rfl (fun _ => rfl) rfl (by decide) (by decide) (by decide) (by decide) dL_sides_13 (fun a => ?_)
  refine z_astore (lv' := [(5, _), (4, _), (3, _), (2, _), (1, _), (0, _)]) hX dL_sides_15 (by decide) rfl ?_
  refine z_iconst (v := 0) hX dL_sides_17 (by decide) ?_
  refine z_istore (lv' := [(6, _), (5, _), (4, _), (3, _), (2, _), (1, _), (0, _)]) hX dL_sides_18 (by decide) rfl ?_
  refine z_sub [6, 5, 4, 3, 2, 1, 0] rfl ?_
  refine sd_side hX (by decide) hl0 h (x := 0) (fn := fun _ => 0) (k := 0 + 0 + 1) (by decide) rfl (by decide) (fun f1 q0 q1 => ?_)
  refine sd_side hX (by decide) hl0 h (x := 1) (fn := f1) (by decide) (q0 1 (by decide)) (by decide) (fun f2 w0 w1 => ?_)
  refine z_iload hX dL_sides_20 6 rfl ?_
  refine z_iconst (v := 2) hX dL_sides_22 (by decide) ?_
  refine z_icmp_ge (tgt := 322) hX dL_sides_23 (by decide) (fun _ => ?_) (fun q => absurd (by decide) q)
  have e2 : 0 + sm (sdF (μ 1) (nI 0) (staF (μ 1))) (bn (μ 1)) + sm (sdF (μ 1) (nI 1) (staF (μ 1))) (bn (μ 1)) = staB (μ 1) := by rw [Int32.zero_add]; exact sd_both h.bI
  have e3 : 0 + sm (sdF (μ 1) (nI 0) (aliF (μ 1))) (bn (μ 1)) + sm (sdF (μ 1) (nI 1) (aliF (μ 1))) (bn (μ 1)) = aliB (μ 1) := by rw [Int32.zero_add]; exact sd_both h.bI
  have e4 : 0 + sm (sdF (μ 1) (nI 0) (morF (μ 1))) (bn (μ 1)) + sm (sdF (μ 1) (nI 1) (morF (μ 1))) (bn (μ 1)) = morB (μ 1) := by rw [Int32.zero_add]; exact sd_both h.bI
  rw [e2, e3, e4]
  refine z_sub [0, 1, 2, 3, 4, 5] rfl ?_
  exact sd_end (Q := fun _ => True) hX (by decide) hl0 h ((w0 0 (by decide)).trans q1) w1 hn0 (by decide)
end ZSD
