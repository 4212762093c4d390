section ZDR
theorem asc_34 : ascB (sBa 34) 4 := (typ_lit (i := 34) (N := 4) (by decide +kernel)).asc
theorem kin_14 : ∀ q, q < 4 → kinO (sBa 14 q) := by decide +kernel
theorem ok_i {u a q v : Nat} {z : Int32} (hu : u < 2) (ha : a < 3) (hz : kinO z) (h1 : 1 ≤ v) (h2 : v ≤ 99) : okA (nI u) (nI a) z (nI v) := ⟨⟨ge_i (by omega), lt_i (b := 2) hu (by decide)⟩, ⟨ge_i (by omega), lt_i (b := 3) ha (by decide)⟩, hz, le_i (a := 1) h1 (by omega), le_i (b := 99) h2 (by decide)⟩
/-- the lines drawn first stand apart, each in its first column -/
def drI (b : zB) (k : Nat) : Prop := bn b ≤ k ∧ (k ≤ bn b ∨ 2 ≤ bn b) ∧ ∀ j, j < bn b → ∃ q, q < k ∧ bf b j 0 = nI (q % 2) ∧ bf b j 1 = nI (q / 2) ∧ bf b j 2 = nI (9 * (q % 2))
theorem drI.skip {b : zB} {k : Nat} (h : drI b k) (h2 : 2 ≤ k) : drI b (k + 1) := ⟨by have := h.1; omega, Or.inr (by rcases h.2.1 with q | q <;> omega), fun j hj => by
  obtain ⟨q, h1, h2⟩ := h.2.2 j hj
  exact ⟨q, by omega, h2⟩⟩
theorem drI.none {b : zB} {k : Nat} (h : drI b k) (hk : k < 6) (hn : bnI b) : occB b (nI (k / 2)) (nI (9 * (k % 2))) = none := by
  rcases ho : occB b (nI (k / 2)) (nI (9 * (k % 2))) with _ | j
  · rfl
  · obtain ⟨j1, -, -, j4, j5, -⟩ := occ_some hn.1 ho
    obtain ⟨q, h1, -, h3, h4⟩ := h.2.2 j j1
    have e1 := nI_inj2 (by omega) (by omega) (h3.symm.trans j4)
    have e2 := nI_inj2 (by omega) (by omega) (h4.symm.trans j5)
    omega
theorem drI.add {b : zB} {k : Nat} {z v : Int32} (h : drI b k) (hn : bnI b) : drI (addB b (nI (k % 2)) (nI (k / 2)) z v) (k + 1) := by
  have e := bn_addB (x := nI (k % 2)) (y := nI (k / 2)) (z := z) (v := v) hn
  refine ⟨by rw [e]; have := h.1; omega, by rw [e]; rcases h.2.1 with q | q <;> omega, fun j hj => ?_⟩
  rw [e] at hj
  by_cases hj2 : j = bn b
  · subst hj2
    refine ⟨k, by omega, ?_, ?_, ?_⟩
    · rw [addB_at (by decide)]; rfl
    · rw [addB_at (by decide)]; rfl
    · rw [addB_at (by decide)]
      show (9 : Int32) * nI (k % 2) = nI (9 * (k % 2))
      exact pk_mul 9 (k % 2)
  · obtain ⟨q, h1, h2, h3, h4⟩ := h.2.2 j (by omega)
    rw [addB_ne (by decide) hj2, addB_ne (by decide) hj2, addB_ne (by decide) hj2]
    exact ⟨q, by omega, h2, h3, h4⟩
theorem ush_k : ∀ k, k < 6 → (((nI k).toUInt32 &&& Int32.toUInt32 31).toBitVec % 32).toNat = k := by decide +kernel
set_option maxHeartbeats 4000000 in
set_option maxRecDepth 100000 in
theorem dr_add {p : Program} {l : Launch} {e : Env} {R : Room} {s : State} {m : MethodId} {args : Array Value} {below : List Frame} {meth : Method} {c : Code} {Q : State → Prop} {g : zG} {mc lvl : Nat} {κ : zKp} {ν : zMu} {ω : zOm} {k : Nat} (hX : zX p l s m args meth c R g RL cL_drawn 8 (some (.object "LineBattle")) lvl mc) (hlv : 22 < lvl) {cq dq x : Nat} (hx : x < 6) (hd : dq < 2 ^ 31) {κ1 : zKp} {r : Int32} (hW : zAd l g ν ω κ κ1 (nI (x % 2)) (nI (x / 2)) (sBa 14 (dq % 4)) (nI (5 + dq / 2 ^ 2 % 90)) r) (hr : ¬ r < 0) (hk : k + 1 ≤ mc) (kk : zZ p l e R s m args below meth c g 8 Q κ1 ν ω (k + 1) 18 [(0, .ref (gA g 11 0 0)), (1, .ref (gA g 0 0 0)), (2, .int (nI cq)), (3, .int (nI (x + 1)))] []) : zZ p l e R s m args below meth c g 8 Q κ ν ω k 49 [(0, .ref (gA g 11 0 0)), (1, .ref (gA g 0 0 0)), (2, .int (nI cq)), (3, .int (nI x)), (4, .int (nI dq))] [] := by
  have h31 : (2 : Nat) ^ 31 = 2147483648 := by decide
  have h32 : (2 : Nat) ^ 32 = 4294967296 := by decide
  refine z_aload_n hX dL_drawn_49 1 rfl ?_
  refine z_iload_n hX dL_drawn_50 3 rfl ?_
  refine z_iconst (v := 2) hX dL_drawn_51 (by decide) ?_
  refine z_irem hX dL_drawn_52 (by decide) ?_
  refine z_isv (show nI (x) - nI (x) / nI 2 * nI 2 = nI (x % 2) from pk_rem (by omega) (by decide) (by decide)) ?_
  refine z_iload_n hX dL_drawn_53 3 rfl ?_
  refine z_iconst (v := 2) hX dL_drawn_54 (by decide) ?_
  refine z_idiv hX dL_drawn_55 (by decide) ?_
  refine z_isv (show nI x / nI 2 = nI (x / 2) from pk_div (by omega) (by decide) (by decide)) ?_
  refine zk_ldc hX (i := 14) rfl dL_drawn_56 ?_
  refine z_iload hX dL_drawn_58 4 rfl ?_
  refine z_iconst (v := 4) hX dL_drawn_60 (by decide) ?_
  refine z_irem hX dL_drawn_61 (by decide) ?_
  refine z_isv (show nI (dq) - nI (dq) / nI 4 * nI 4 = nI (dq % 4) from pk_rem (by omega) (by decide) (by decide)) ?_
  refine zk_callV1 hX (by decide : 14 < 45) rfl (sJ0_charAt l (sD.const (by decide)) (by decide) asc_14 (q := dq % 4) (show _ < 4 from Nat.mod_lt _ (by decide))) cv_RL_138 dL_drawn_62 ⟨by omega, by decide, by omega⟩ rfl rfl (Nat.le_of_ble_eq_true rfl) ?_
  refine z_iconst (v := 5) hX dL_drawn_65 (by decide) ?_
  refine z_iload hX dL_drawn_66 4 rfl ?_
  refine z_iconst (v := 2) hX dL_drawn_68 (by decide) ?_
  refine z_iushr (v := nI (dq / 2 ^ 2)) hX dL_drawn_69 (pk_ushrN (by omega) 2 2 (by decide)) ?_
  refine z_bipush (v := 90) hX dL_drawn_70 (by decide) ?_
  refine z_irem hX dL_drawn_72 (by decide) ?_
  refine z_isv (show nI (dq / 2 ^ 2) - nI (dq / 2 ^ 2) / nI 90 * nI 90 = nI (dq / 2 ^ 2 % 90) from pk_rem (by omega) (by decide) (by decide)) ?_
  refine z_iadd hX dL_drawn_73 ?_
  refine z_isv (nI_add 5 _) ?_
  refine z_callW hX (hW) cc_157 dL_drawn_74 ⟨by omega, by decide, by omega⟩ rfl rfl (Nat.le_of_ble_eq_true rfl) ?_
  refine z_if_ge (tgt := 82) hX dL_drawn_77 (by decide) (fun h77 => ?_) (fun h77 => absurd h77 (fun q => q (Int32.not_lt.mp hr)))
  refine z_iinc (v := nI (x + 1)) (lv' := [(3, _), (0, _), (1, _), (2, _), (4, _)]) hX dL_drawn_82 3 rfl (nI_1 x) (by decide) rfl ?_
  refine z_goto (tgt := 18) hX dL_drawn_85 (by decide) ?_
  refine z_sub [1, 2, 3, 0] rfl ?_
  exact z_widen (by omega) kk
set_option maxHeartbeats 4000000 in
set_option maxRecDepth 100000 in
theorem dr_one {p : Program} {l : Launch} {e : Env} {R : Room} {s : State} {m : MethodId} {args : Array Value} {below : List Frame} {meth : Method} {c : Code} {Q : State → Prop} {g : zG} {mc lvl : Nat} {κ : zKp} {μ ν : zMu} {ω : zOm} {k : Nat} (hX : zX p l s m args meth c R g RL cL_drawn 8 (some (.object "LineBattle")) lvl mc) (hlv : 22 < lvl) (hl0 : l.stackTraces = false) (h : RR κ μ) (hm : μ 0 4 = nI 0) (hr : rouW (μ 1)) {cq x : Nat} (hc : cq < 2 ^ 31) (hx : x < 6) (hI : drI (μ 1) x) (hk : k + 1 ≤ mc) (kk : ∀ (κ1 : zKp) (μ1 : zMu), RR κ1 μ1 → μ1 0 4 = nI 0 → rouW (μ1 1) → drI (μ1 1) (x + 1) → zZ p l e R s m args below meth c g 8 Q κ1 ν ω (k + 1) 18 [(0, .ref (gA g 11 0 0)), (1, .ref (gA g 0 0 0)), (2, .int (nI cq)), (3, .int (nI (x + 1)))] []) : zZ p l e R s m args below meth c g 8 Q κ ν ω k 18 [(0, .ref (gA g 11 0 0)), (1, .ref (gA g 0 0 0)), (2, .int (nI cq)), (3, .int (nI x))] [] := by
  have h31 : (2 : Nat) ^ 31 = 2147483648 := by decide
  have h32 : (2 : Nat) ^ 32 = 4294967296 := by decide
  obtain ⟨y, hy, ey⟩ := i32_n (scB g (1 + x))
  refine z_iload_n hX dL_drawn_18 3 rfl ?_
  refine z_bipush (v := 6) hX dL_drawn_19 (by decide) ?_
  refine z_icmp_ge (tgt := 88) hX dL_drawn_21 (by decide) (fun q => absurd q (nle_i (a := x) (b := 6) hx (by decide))) (fun _ => ?_)
  refine z_aload_n hX dL_drawn_24 0 rfl ?_
  refine z_iconst (v := nI 1) hX dL_drawn_25 (by decide) ?_
  refine z_iload_n hX dL_drawn_26 3 rfl ?_
  refine z_iadd hX dL_drawn_27 ?_
  refine z_isv (nI_add 1 x) ?_
  refine z_callS1 hX (lw_cell (μ := μ) l hl0 (by omega) hX.sc.2) cs_RL_151 dL_drawn_28 ⟨by omega, by decide, by omega⟩ rfl rfl (Nat.le_of_ble_eq_true rfl) ?_
  refine z_isv ey ?_
  refine z_iconst (v := 1) hX dL_drawn_31 (by decide) ?_
  refine z_iushr (v := nI (y / 2 ^ 1)) hX dL_drawn_32 (pk_ushrN hy 1 1 (by decide)) ?_
  refine z_istore (lv' := [(4, _), (0, _), (1, _), (2, _), (3, _)]) hX dL_drawn_33 (by decide) rfl ?_
  refine z_iload_n hX dL_drawn_35 3 rfl ?_
  refine z_iload_n hX dL_drawn_36 4 rfl ?_
  refine z_iushr (v := nI (cq / 2 ^ x)) hX dL_drawn_37 (pk_ushrN (by omega) (nI x) x (ush_k x hx)) ?_
  refine z_iconst (v := 1) hX dL_drawn_38 (by decide) ?_
  refine z_iand hX dL_drawn_39 ?_
  refine z_iconst (v := 1) hX dL_drawn_40 (by decide) ?_
  have add : zZ p l e R s m args below meth c g 8 Q κ ν ω k 49 [(4, .int (nI (y / 2 ^ 1))), (0, .ref (gA g 11 0 0)), (1, .ref (gA g 0 0 0)), (2, .int (nI cq)), (3, .int (nI x))] [] := by
    have hok : okA (nI (x % 2)) (nI (x / 2)) (sBa 14 (y / 2 ^ 1 % 4)) (nI (5 + y / 2 ^ 1 / 2 ^ 2 % 90)) := ok_i (q := 0) (Nat.mod_lt _ (by decide)) (by omega) (kin_14 _ (Nat.mod_lt _ (by decide))) (by omega) (by have := Nat.mod_lt (y / 2 ^ 1 / 2 ^ 2) (show 0 < 90 by decide); omega)
    obtain ⟨κ1, μ1, r, hW, ⟨hR, hm1, -⟩, ⟨hrr, -⟩, -, hS⟩ := op_addLine l hl0 (g := g) (ν := ν) (ω := ω) h (nI (x % 2)) (nI (x / 2)) (sBa 14 (y / 2 ^ 1 % 4)) (nI (5 + y / 2 ^ 1 / 2 ^ 2 % 90))
    obtain ⟨hr2, e1⟩ := hS _ _ rfl rfl (Nat.mod_lt _ (by decide)) (by omega) hok (by have := hI.1; omega) (hI.none hx h.n)
    refine z_sub [1, 2, 3, 4, 0] rfl ?_
    exact dr_add hX hlv hx (by omega) hW hr2 hk (kk κ1 μ1 hR (hm1 hm) (hrr hr) (by rw [e1]; exact hI.add h.n))
  refine z_icmp_eq (tgt := 49) hX dL_drawn_41 (by decide) (fun _ => add) (fun _ => ?_)
  refine z_iload_n hX dL_drawn_44 4 rfl ?_
  refine z_iconst (v := 2) hX dL_drawn_45 (by decide) ?_
  refine z_icmp_ge (tgt := 82) hX dL_drawn_46 (by decide) (fun q => ?_) (fun _ => add)
  have h2 : 2 ≤ x := Nat.le_of_not_lt (fun w => nle_i (a := x) (b := 2) w (by decide) q)
  refine z_iinc (v := nI (x + 1)) (lv' := [(3, _), (4, _), (0, _), (1, _), (2, _)]) hX dL_drawn_82 4 rfl (nI_1 x) (by decide) rfl ?_
  refine z_goto (tgt := 18) hX dL_drawn_85 (by decide) ?_
  refine z_sub [2, 3, 4, 0] rfl ?_
  exact z_widen (by omega) (kk κ μ h hm hr (hI.skip h2))
set_option maxHeartbeats 4000000 in
set_option maxRecDepth 100000 in
theorem dr_ord {p : Program} {l : Launch} {e : Env} {R : Room} {s : State} {m : MethodId} {args : Array Value} {below : List Frame} {meth : Method} {c : Code} {Q : State → Prop} {g : zG} {mc lvl : Nat} {κ : zKp} {ν : zMu} {ω : zOm} {k : Nat} (hX : zX p l s m args meth c R g RL cL_drawn 8 (some (.object "LineBattle")) lvl mc) (hlv : 22 < lvl) {tq x dq iq : Nat} (hd : dq < 2 ^ 31) {κ1 : zKp} {r : Int32} (hW : zMW l g yL_setOrder cL_setOrder 4 hh_setOrder 20 1 [.ref (gA g 0 0 0), .int (nI iq), .int (sBa 34 (dq / 2 ^ 8 % 4))] κ ν ω κ1 ν ω r) (hk : k + 1 ≤ mc) (kk : zZ p l e R s m args below meth c g 8 Q κ1 ν ω (k + 1) 239 [(0, .ref (gA g 11 0 0)), (1, .ref (gA g 0 0 0)), (3, .int (nI tq)), (4, .int (nI x))] [.int r]) : zZ p l e R s m args below meth c g 8 Q κ ν ω k 142 [(0, .ref (gA g 11 0 0)), (1, .ref (gA g 0 0 0)), (3, .int (nI tq)), (4, .int (nI x)), (5, .int (nI dq)), (6, .int (nI iq))] [] := by
  have h31 : (2 : Nat) ^ 31 = 2147483648 := by decide
  have h32 : (2 : Nat) ^ 32 = 4294967296 := by decide
  refine z_aload_n hX dL_drawn_142 1 rfl ?_
  refine z_iload hX dL_drawn_143 5 rfl ?_
  refine zk_ldc hX (i := 34) rfl dL_drawn_145 ?_
  refine z_iload hX dL_drawn_147 4 rfl ?_
  refine z_bipush (v := 8) hX dL_drawn_149 (by decide) ?_
  refine z_iushr (v := nI (dq / 2 ^ 8)) hX dL_drawn_151 (pk_ushrN (by omega) 8 8 (by decide)) ?_
  refine z_iconst (v := 4) hX dL_drawn_152 (by decide) ?_
  refine z_irem hX dL_drawn_153 (by decide) ?_
  refine z_isv (show nI (dq / 2 ^ 8) - nI (dq / 2 ^ 8) / nI 4 * nI 4 = nI (dq / 2 ^ 8 % 4) from pk_rem (by omega) (by decide) (by decide)) ?_
  refine zk_callV1 hX (by decide : 34 < 45) rfl (sJ0_charAt l (sD.const (by decide)) (by decide) asc_34 (q := dq / 2 ^ 8 % 4) (show _ < 4 from Nat.mod_lt _ (by decide))) cv_RL_138 dL_drawn_154 ⟨by omega, by decide, by omega⟩ rfl rfl (Nat.le_of_ble_eq_true rfl) ?_
  refine z_callW hX (hW) cc_165 dL_drawn_157 ⟨by omega, by decide, by omega⟩ rfl rfl (Nat.le_of_ble_eq_true rfl) ?_
  refine z_goto (tgt := 239) hX dL_drawn_160 (by decide) ?_
  refine z_sub [0, 1, 2, 3] rfl ?_
  exact z_widen (by omega) kk
set_option maxHeartbeats 4000000 in
set_option maxRecDepth 100000 in
theorem dr_new {p : Program} {l : Launch} {e : Env} {R : Room} {s : State} {m : MethodId} {args : Array Value} {below : List Frame} {meth : Method} {c : Code} {Q : State → Prop} {g : zG} {mc lvl : Nat} {κ : zKp} {ν : zMu} {ω : zOm} {k : Nat} (hX : zX p l s m args meth c R g RL cL_drawn 8 (some (.object "LineBattle")) lvl mc) (hlv : 22 < lvl) {tq x dq iq : Nat} (hd : dq < 2 ^ 31) {κ1 : zKp} {r : Int32} (hW : zAd l g ν ω κ κ1 (nI (dq / 2 ^ 8 % 2)) (nI (dq / 2 ^ 9 % 3)) (sBa 14 (dq / 2 ^ 11 % 4)) (nI (1 + dq / 2 ^ 13 % 60)) r) (hk : k + 1 ≤ mc) (kk : zZ p l e R s m args below meth c g 8 Q κ1 ν ω (k + 1) 239 [(0, .ref (gA g 11 0 0)), (1, .ref (gA g 0 0 0)), (3, .int (nI tq)), (4, .int (nI x))] [.int r]) : zZ p l e R s m args below meth c g 8 Q κ ν ω k 173 [(0, .ref (gA g 11 0 0)), (1, .ref (gA g 0 0 0)), (3, .int (nI tq)), (4, .int (nI x)), (5, .int (nI dq)), (6, .int (nI iq))] [] := by
  have h31 : (2 : Nat) ^ 31 = 2147483648 := by decide
  have h32 : (2 : Nat) ^ 32 = 4294967296 := by decide
  refine z_aload_n hX dL_drawn_173 1 rfl ?_
  refine z_iload hX dL_drawn_174 4 rfl ?_
  refine z_bipush (v := 8) hX dL_drawn_176 (by decide) ?_
  refine z_iushr (v := nI (dq / 2 ^ 8)) hX dL_drawn_178 (pk_ushrN (by omega) 8 8 (by decide)) ?_
  refine z_iconst (v := 2) hX dL_drawn_179 (by decide) ?_
  refine z_irem hX dL_drawn_180 (by decide) ?_
  refine z_isv (show nI (dq / 2 ^ 8) - nI (dq / 2 ^ 8) / nI 2 * nI 2 = nI (dq / 2 ^ 8 % 2) from pk_rem (by omega) (by decide) (by decide)) ?_
  refine z_iload hX dL_drawn_181 4 rfl ?_
  refine z_bipush (v := 9) hX dL_drawn_183 (by decide) ?_
  refine z_iushr (v := nI (dq / 2 ^ 9)) hX dL_drawn_185 (pk_ushrN (by omega) 9 9 (by decide)) ?_
  refine z_iconst (v := 3) hX dL_drawn_186 (by decide) ?_
  refine z_irem hX dL_drawn_187 (by decide) ?_
  refine z_isv (show nI (dq / 2 ^ 9) - nI (dq / 2 ^ 9) / nI 3 * nI 3 = nI (dq / 2 ^ 9 % 3) from pk_rem (by omega) (by decide) (by decide)) ?_
  refine zk_ldc hX (i := 14) rfl dL_drawn_188 ?_
  refine z_iload hX dL_drawn_190 4 rfl ?_
  refine z_bipush (v := 11) hX dL_drawn_192 (by decide) ?_
  refine z_iushr (v := nI (dq / 2 ^ 11)) hX dL_drawn_194 (pk_ushrN (by omega) 11 11 (by decide)) ?_
  refine z_iconst (v := 4) hX dL_drawn_195 (by decide) ?_
  refine z_irem hX dL_drawn_196 (by decide) ?_
  refine z_isv (show nI (dq / 2 ^ 11) - nI (dq / 2 ^ 11) / nI 4 * nI 4 = nI (dq / 2 ^ 11 % 4) from pk_rem (by omega) (by decide) (by decide)) ?_
  refine zk_callV1 hX (by decide : 14 < 45) rfl (sJ0_charAt l (sD.const (by decide)) (by decide) asc_14 (q := dq / 2 ^ 11 % 4) (show _ < 4 from Nat.mod_lt _ (by decide))) cv_RL_138 dL_drawn_197 ⟨by omega, by decide, by omega⟩ rfl rfl (Nat.le_of_ble_eq_true rfl) ?_
  refine z_iconst (v := 1) hX dL_drawn_200 (by decide) ?_
  refine z_iload hX dL_drawn_201 4 rfl ?_
  refine z_bipush (v := 13) hX dL_drawn_203 (by decide) ?_
  refine z_iushr (v := nI (dq / 2 ^ 13)) hX dL_drawn_205 (pk_ushrN (by omega) 13 13 (by decide)) ?_
  refine z_bipush (v := 60) hX dL_drawn_206 (by decide) ?_
  refine z_irem hX dL_drawn_208 (by decide) ?_
  refine z_isv (show nI (dq / 2 ^ 13) - nI (dq / 2 ^ 13) / nI 60 * nI 60 = nI (dq / 2 ^ 13 % 60) from pk_rem (by omega) (by decide) (by decide)) ?_
  refine z_iadd hX dL_drawn_209 ?_
  refine z_isv (nI_add 1 _) ?_
  refine z_callW hX (hW) cc_157 dL_drawn_210 ⟨by omega, by decide, by omega⟩ rfl rfl (Nat.le_of_ble_eq_true rfl) ?_
  refine z_goto (tgt := 239) hX dL_drawn_213 (by decide) ?_
  refine z_sub [0, 1, 2, 3] rfl ?_
  exact z_widen (by omega) kk
set_option maxHeartbeats 4000000 in
set_option maxRecDepth 100000 in
theorem dr_ral {p : Program} {l : Launch} {e : Env} {R : Room} {s : State} {m : MethodId} {args : Array Value} {below : List Frame} {meth : Method} {c : Code} {Q : State → Prop} {g : zG} {mc lvl : Nat} {κ : zKp} {ν : zMu} {ω : zOm} {k : Nat} (hX : zX p l s m args meth c R g RL cL_drawn 8 (some (.object "LineBattle")) lvl mc) (hlv : 22 < lvl) {tq x dq iq : Nat} (hd : dq < 2 ^ 31) {κ1 : zKp} {r : Int32} (hW : zMW l g yL_rally cL_rally 3 hh_rally 20 1 [.ref (gA g 0 0 0), .int (nI iq)] κ ν ω κ1 ν ω r) (hk : k + 1 ≤ mc) (kk : zZ p l e R s m args below meth c g 8 Q κ1 ν ω (k + 1) 239 [(0, .ref (gA g 11 0 0)), (1, .ref (gA g 0 0 0)), (3, .int (nI tq)), (4, .int (nI x))] [.int r]) : zZ p l e R s m args below meth c g 8 Q κ ν ω k 226 [(0, .ref (gA g 11 0 0)), (1, .ref (gA g 0 0 0)), (3, .int (nI tq)), (4, .int (nI x)), (5, .int (nI dq)), (6, .int (nI iq))] [] := by
  refine z_aload_n hX dL_drawn_226 1 rfl ?_
  refine z_iload hX dL_drawn_227 5 rfl ?_
  refine z_callW hX (hW) cc_168 dL_drawn_229 ⟨by omega, by decide, by omega⟩ rfl rfl (Nat.le_of_ble_eq_true rfl) ?_
  refine z_goto (tgt := 239) hX dL_drawn_232 (by decide) ?_
  refine z_sub [0, 1, 2, 3] rfl ?_
  exact z_widen (by omega) kk
set_option maxHeartbeats 4000000 in
set_option maxRecDepth 100000 in
theorem dr_turn {p : Program} {l : Launch} {e : Env} {R : Room} {s : State} {m : MethodId} {args : Array Value} {below : List Frame} {meth : Method} {c : Code} {Q : State → Prop} {g : zG} {mc lvl : Nat} {κ : zKp} {ν : zMu} {ω : zOm} {k : Nat} (hX : zX p l s m args meth c R g RL cL_drawn 8 (some (.object "LineBattle")) lvl mc) (hlv : 22 < lvl) {tq x dq iq : Nat} (hd : dq < 2 ^ 31) {κ1 : zKp} {r : Int32} (hW : zM l g yX4_turn cX4_turn 1 (some .int) 7 0 [.ref (gA g 0 0 0)] κ ν ω κ1 ν ω (some (.int r))) (hk : k + 1 ≤ mc) (kk : zZ p l e R s m args below meth c g 8 Q κ1 ν ω (k + 1) 239 [(0, .ref (gA g 11 0 0)), (1, .ref (gA g 0 0 0)), (3, .int (nI tq)), (4, .int (nI x))] [.int r]) : zZ p l e R s m args below meth c g 8 Q κ ν ω k 235 [(0, .ref (gA g 11 0 0)), (1, .ref (gA g 0 0 0)), (3, .int (nI tq)), (4, .int (nI x)), (5, .int (nI dq)), (6, .int (nI iq))] [] := by
  refine z_aload_n hX dL_drawn_235 1 rfl ?_
  refine z_callV1 hX (hW) cv_RL_171 zRc0 dL_drawn_236 ⟨by omega, by decide, by omega⟩ rfl rfl (Nat.le_of_ble_eq_true rfl) ?_
  refine z_sub [0, 1, 2, 3] rfl ?_
  exact z_widen (by omega) kk
set_option maxHeartbeats 4000000 in
set_option maxRecDepth 100000 in
theorem dr_two {p : Program} {l : Launch} {e : Env} {R : Room} {s : State} {m : MethodId} {args : Array Value} {below : List Frame} {meth : Method} {c : Code} {Q : State → Prop} {g : zG} {mc lvl : Nat} {κ : zKp} {μ ν : zMu} {ω : zOm} {k : Nat} (hX : zX p l s m args meth c R g RL cL_drawn 8 (some (.object "LineBattle")) lvl mc) (hlv : 22 < lvl) (hl0 : l.stackTraces = false) (h : RR κ μ) (hm : μ 0 4 = nI 0) (hr : rouW (μ 1)) (h2 : 2 ≤ bn (μ 1)) {tq x : Nat} (ht : tq < 12) (hx : x < 10 + tq) (hk : k + 1 ≤ mc) (kk : ∀ (κ1 : zKp) (μ1 : zMu), RR κ1 μ1 → μ1 0 4 = nI 0 → rouW (μ1 1) → 2 ≤ bn (μ1 1) → zZ p l e R s m args below meth c g 8 Q κ1 ν ω (k + 1) 99 [(0, .ref (gA g 11 0 0)), (1, .ref (gA g 0 0 0)), (3, .int (nI tq)), (4, .int (nI (x + 1)))] []) : zZ p l e R s m args below meth c g 8 Q κ ν ω k 99 [(0, .ref (gA g 11 0 0)), (1, .ref (gA g 0 0 0)), (3, .int (nI tq)), (4, .int (nI x))] [] := by
  have h31 : (2 : Nat) ^ 31 = 2147483648 := by decide
  have h32 : (2 : Nat) ^ 32 = 4294967296 := by decide
  have h12 := h.n.1
  obtain ⟨y, hy, ey⟩ := i32_n (scB g (7 + x))
  have hlt : y / 2 ^ 1 / 2 ^ 4 % bn (μ 1) < bn (μ 1) := Nat.mod_lt _ (by omega)
  have hin := isl_in h.n hlt
  have fin : ∀ (κ1 : zKp) (μ1 : zMu) (r : Int32), OpR μ κ1 μ1 r → OpD μ μ1 → ¬ r = -1 → zZ p l e R s m args below meth c g 8 Q κ1 ν ω (k + 1) 239 [(0, .ref (gA g 11 0 0)), (1, .ref (gA g 0 0 0)), (3, .int (nI tq)), (4, .int (nI x))] [.int r] := fun κ1 μ1 r hO hD hne => by
    refine z_istore (lv' := [(7, _), (0, _), (1, _), (3, _), (4, _)]) hX dL_drawn_239 (by decide) rfl ?_
    refine z_iload hX dL_drawn_241 0 rfl ?_
    refine z_iconst (v := -1) hX dL_drawn_243 (by decide) ?_
    refine z_icmp_ne (tgt := 249) hX dL_drawn_244 (by decide) (fun _ => ?_) (fun q => absurd q hne)
    refine z_iinc (v := nI (x + 1)) (lv' := [(4, _), (7, _), (0, _), (1, _), (3, _)]) hX dL_drawn_249 4 rfl (nI_1 x) (by decide) rfl ?_
    refine z_goto (tgt := 99) hX dL_drawn_252 (by decide) ?_
    refine z_sub [2, 3, 4, 0] rfl ?_
    exact kk κ1 μ1 hO.1 (hO.2.1 hm) (hD.1 hr) (Nat.le_trans h2 hD.2)
  refine z_iload hX dL_drawn_99 3 rfl ?_
  refine z_bipush (v := nI 10) hX dL_drawn_101 (by decide) ?_
  refine z_iload_n hX dL_drawn_103 2 rfl ?_
  refine z_iadd hX dL_drawn_104 ?_
  refine z_isv (nI_add 10 tq) ?_
  refine z_icmp_ge (tgt := 255) hX dL_drawn_105 (by decide) (fun q => absurd q (nle_i hx (by omega))) (fun _ => ?_)
  refine z_aload_n hX dL_drawn_108 0 rfl ?_
  refine z_bipush (v := nI 7) hX dL_drawn_109 (by decide) ?_
  refine z_iload hX dL_drawn_111 3 rfl ?_
  refine z_iadd hX dL_drawn_113 ?_
  refine z_isv (nI_add 7 x) ?_
  refine z_callS1 hX (lw_cell (μ := μ) l hl0 (by omega) hX.sc.2) cs_RL_151 dL_drawn_114 ⟨by omega, by decide, by omega⟩ rfl rfl (Nat.le_of_ble_eq_true rfl) ?_
  refine z_isv ey ?_
  refine z_iconst (v := 1) hX dL_drawn_117 (by decide) ?_
  refine z_iushr (v := nI (y / 2 ^ 1)) hX dL_drawn_118 (pk_ushrN hy 1 1 (by decide)) ?_
  refine z_istore (lv' := [(5, _), (0, _), (1, _), (3, _), (4, _)]) hX dL_drawn_119 (by decide) rfl ?_
  refine z_iload hX dL_drawn_121 0 rfl ?_
  refine z_iconst (v := 4) hX dL_drawn_123 (by decide) ?_
  refine z_iushr (v := nI (y / 2 ^ 1 / 2 ^ 4)) hX dL_drawn_124 (pk_ushrN (by omega) 4 4 (by decide)) ?_
  refine z_aload_n hX dL_drawn_125 2 rfl ?_
  refine z_callV1 hX (dm_lineCount l h) cv_RL_160 zRc0 dL_drawn_126 ⟨by omega, by decide, by omega⟩ rfl rfl (Nat.le_of_ble_eq_true rfl) ?_
  refine z_isv h.n.2 ?_
  refine z_irem hX dL_drawn_129 (fun q => absurd (nI_inj2 (a := bn (μ 1)) (b := 0) (by omega) (by omega) q) (by omega)) ?_
  refine z_isv (pk_rem (by omega) (by omega) (by omega)) ?_
  refine z_istore (lv' := [(6, _), (5, _), (0, _), (1, _), (3, _), (4, _)]) hX dL_drawn_130 (by decide) rfl ?_
  refine z_sub [2, 3, 4, 5, 1, 0] rfl ?_
  have e16 : ∀ w : Nat, w < 2 ^ 31 → nI w - nI w / nI 16 * nI 16 = nI (w % 16) := fun w hw => pk_rem hw (by decide) (by decide)
  refine z_iload hX dL_drawn_132 4 rfl ?_
  refine z_bipush (v := 16) hX dL_drawn_134 (by decide) ?_
  refine z_irem hX dL_drawn_136 (by decide) ?_
  refine z_isv (e16 (y / 2 ^ 1) (by omega)) ?_
  refine z_bipush (v := 7) hX dL_drawn_137 (by decide) ?_
  refine z_icmp_ge (tgt := 163) hX dL_drawn_139 (by decide) (fun _ => ?_) (fun _ => ?_)
  · refine z_iload hX dL_drawn_163 4 rfl ?_
    refine z_bipush (v := 16) hX dL_drawn_165 (by decide) ?_
    refine z_irem hX dL_drawn_167 (by decide) ?_
    refine z_isv (e16 (y / 2 ^ 1) (by omega)) ?_
    refine z_bipush (v := 9) hX dL_drawn_168 (by decide) ?_
    refine z_icmp_ge (tgt := 216) hX dL_drawn_170 (by decide) (fun _ => ?_) (fun _ => ?_)
    · refine z_iload hX dL_drawn_216 4 rfl ?_
      refine z_bipush (v := 16) hX dL_drawn_218 (by decide) ?_
      refine z_irem hX dL_drawn_220 (by decide) ?_
      refine z_isv (e16 (y / 2 ^ 1) (by omega)) ?_
      refine z_bipush (v := 9) hX dL_drawn_221 (by decide) ?_
      refine z_icmp_ne (tgt := 235) hX dL_drawn_223 (by decide) (fun _ => ?_) (fun _ => ?_)
      · obtain ⟨κ1, μ1, r, hW, hO, hD, hne⟩ := op_turn l (g := g) (ν := ν) (ω := ω) h
        exact dr_turn hX hlv (by omega) hW hk (fin κ1 μ1 r hO hD hne)
      · obtain ⟨κ1, μ1, r, hW, hO, hD, hne⟩ := op_rally l hl0 (g := g) (ν := ν) (ω := ω) h (nI (y / 2 ^ 1 / 2 ^ 4 % bn (μ 1)))
        exact dr_ral hX hlv (dq := y / 2 ^ 1) (by omega) hW hk (fin κ1 μ1 r hO hD (hne hin))
    · have hok : okA (nI (y / 2 ^ 1 / 2 ^ 8 % 2)) (nI (y / 2 ^ 1 / 2 ^ 9 % 3)) (sBa 14 (y / 2 ^ 1 / 2 ^ 11 % 4)) (nI (1 + y / 2 ^ 1 / 2 ^ 13 % 60)) := ok_i (q := 0) (Nat.mod_lt _ (by decide)) (Nat.mod_lt _ (by decide)) (kin_14 _ (Nat.mod_lt _ (by decide))) (by omega) (by have := Nat.mod_lt (y / 2 ^ 1 / 2 ^ 13) (show 0 < 60 by decide); omega)
      obtain ⟨κ1, μ1, r, hW, hO, hD, hne, -⟩ := op_addLine l hl0 (g := g) (ν := ν) (ω := ω) h (nI (y / 2 ^ 1 / 2 ^ 8 % 2)) (nI (y / 2 ^ 1 / 2 ^ 9 % 3)) (sBa 14 (y / 2 ^ 1 / 2 ^ 11 % 4)) (nI (1 + y / 2 ^ 1 / 2 ^ 13 % 60))
      exact dr_new hX hlv (by omega) hW hk (fin κ1 μ1 r hO hD (hne hok))
  · obtain ⟨κ1, μ1, r, hW, hO, hD, hne⟩ := op_setOrder l hl0 (g := g) (ν := ν) (ω := ω) h (nI (y / 2 ^ 1 / 2 ^ 4 % bn (μ 1))) (sBa 34 (y / 2 ^ 1 / 2 ^ 8 % 4))
    exact dr_ord hX hlv (by omega) hW hk (fin κ1 μ1 r hO hD (hne hin))
/-- from the new battle to the battle drawn -/
abbrev drP (g : zG) (κ' : zKp) (ω' : zOm) (r : Option Value) : Prop := r = some (.ref (gA g 0 0 0)) ∧ ω' = [] ∧ ∃ μ : zMu, RR κ' μ ∧ rouW (μ 1) ∧ 2 ≤ bn (μ 1) ∧ μ 0 4 = nI 0
theorem dr_loop2 {p : Program} {l : Launch} {e : Env} {R : Room} {s : State} {m : MethodId} {args : Array Value} {below : List Frame} {meth : Method} {c : Code} {g : zG} {mc lvl K : Nat} {ν : zMu} (hX : zX p l s m args meth c R g RL cL_drawn 8 (some (.object "LineBattle")) lvl mc) (hlv : 22 < lvl) (hl0 : l.stackTraces = false) {tq : Nat} (ht : tq < 12) (hK : K + 30 ≤ mc) : ∀ (dz x : Nat) (κ : zKp) (μ : zMu), 10 + tq - x = dz → x ≤ 10 + tq → RR κ μ → μ 0 4 = nI 0 → rouW (μ 1) → 2 ≤ bn (μ 1) → zZ p l e R s m args below meth c g 8 (zQG g ν (drP g) below args s mc) κ ν [] (K + x) 99 [(0, .ref (gA g 11 0 0)), (1, .ref (gA g 0 0 0)), (3, .int (nI tq)), (4, .int (nI x))] [] := by
  intro dz
  induction dz with
  | zero =>
    intro x κ μ hd hx h hm hr h2
    have hx0 : x = 10 + tq := by omega
    subst hx0
    refine z_iload hX dL_drawn_99 3 rfl ?_
    refine z_bipush (v := nI 10) hX dL_drawn_101 (by decide) ?_
    refine z_iload_n hX dL_drawn_103 2 rfl ?_
    refine z_iadd hX dL_drawn_104 ?_
    refine z_isv (nI_add 10 tq) ?_
    refine z_icmp_ge (tgt := 255) hX dL_drawn_105 (by decide) (fun _ => ?_) (fun q => absurd (Int32.le_refl _) q)
    refine z_aload_n hX dL_drawn_255 1 rfl ?_
    refine zG_of (κ' := κ) (ω' := []) (r := some (.ref (gA g 0 0 0))) ⟨rfl, rfl, μ, h, hr, h2, hm⟩ ?_
    exact z_aret hX dL_drawn_256 (by omega) (Or.inr ⟨_, rfl⟩) rfl (fun _ h => h)
  | succ dz ih =>
    intro x κ μ hd hx h hm hr h2
    exact dr_two hX hlv hl0 h hm hr h2 ht (by omega) (by omega) (fun κ1 μ1 q1 q2 q3 q4 => ih (x + 1) κ1 μ1 (by omega) (by omega) q1 q2 q3 q4)
theorem dr_from8 {p : Program} {l : Launch} {e : Env} {R : Room} {s : State} {m : MethodId} {args : Array Value} {below : List Frame} {meth : Method} {c : Code} {g : zG} {mc lvl K : Nat} {ν : zMu} (hX : zX p l s m args meth c R g RL cL_drawn 8 (some (.object "LineBattle")) lvl mc) (hlv : 22 < lvl) (hl0 : l.stackTraces = false) (hK : K + 40 ≤ mc) : zZ p l e R s m args below meth c g 8 (zQG g ν (drP g) below args s mc) iK ν [] K 8 [(1, .ref (gA g 0 0 0)), (0, .ref (gA g 11 0 0))] [] := by
  have h31 : (2 : Nat) ^ 31 = 2147483648 := by decide
  have h32 : (2 : Nat) ^ 32 = 4294967296 := by decide
  obtain ⟨y, hy, ey⟩ := i32_n (scB g 0)
  refine z_aload_n hX dL_drawn_8 1 rfl ?_
  refine z_iconst (v := nI 0) hX dL_drawn_9 (by decide) ?_
  refine z_callS1 hX (lw_cell (μ := iM) l hl0 (by omega) hX.sc.2) cs_RL_151 dL_drawn_10 ⟨by omega, by decide, by omega⟩ rfl rfl (Nat.le_of_ble_eq_true rfl) ?_
  refine z_isv ey ?_
  refine z_iconst (v := 1) hX dL_drawn_13 (by decide) ?_
  refine z_iushr (v := nI (y / 2 ^ 1)) hX dL_drawn_14 (pk_ushrN hy 1 1 (by decide)) ?_
  refine z_istore_n (lv' := [(2, _), (1, _), (0, _)]) hX dL_drawn_15 (by decide) rfl ?_
  refine z_iconst (v := nI 0) hX dL_drawn_16 (by decide) ?_
  refine z_istore_n (lv' := [(3, _), (2, _), (1, _), (0, _)]) hX dL_drawn_17 (by decide) rfl ?_
  have hL : ∀ (dz x : Nat) (κ : zKp) (μ : zMu), 6 - x = dz → x ≤ 6 → RR κ μ → μ 0 4 = nI 0 → rouW (μ 1) → drI (μ 1) x → zZ p l e R s m args below meth c g 8 (zQG g ν (drP g) below args s mc) κ ν [] (K + x) 18 [(0, .ref (gA g 11 0 0)), (1, .ref (gA g 0 0 0)), (2, .int (nI (y / 2 ^ 1))), (3, .int (nI x))] [] := by
    intro dz
    induction dz with
    | zero =>
      intro x κ μ hd hx h hm hr hI
      have hx6 : x = 6 := by omega
      subst hx6
      have h2 : 2 ≤ bn (μ 1) := by rcases hI.2.1 with q | q <;> omega
      refine z_iload_n hX dL_drawn_18 3 rfl ?_
      refine z_bipush (v := 6) hX dL_drawn_19 (by decide) ?_
      refine z_icmp_ge (tgt := 88) hX dL_drawn_21 (by decide) (fun _ => ?_) (fun q => absurd (Int32.le_refl _) q)
      refine z_iload_n hX dL_drawn_88 2 rfl ?_
      refine z_bipush (v := 6) hX dL_drawn_89 (by decide) ?_
      refine z_iushr (v := nI (y / 2 ^ 1 / 2 ^ 6)) hX dL_drawn_91 (pk_ushrN (by omega) 6 6 (by decide)) ?_
      refine z_bipush (v := 12) hX dL_drawn_92 (by decide) ?_
      refine z_irem hX dL_drawn_94 (by decide) ?_
      refine z_isv (show nI (y / 2 ^ 1 / 2 ^ 6) - nI (y / 2 ^ 1 / 2 ^ 6) / nI 12 * nI 12 = nI (y / 2 ^ 1 / 2 ^ 6 % 12) from pk_rem (by omega) (by decide) (by decide)) ?_
      refine z_istore_n (lv' := [(3, _), (0, _), (1, _), (2, _)]) hX dL_drawn_95 (by decide) rfl ?_
      refine z_iconst (v := nI 0) hX dL_drawn_96 (by decide) ?_
      refine z_istore (lv' := [(4, _), (3, _), (0, _), (1, _), (2, _)]) hX dL_drawn_97 (by decide) rfl ?_
      refine z_sub [2, 3, 1, 0] rfl ?_
      exact dr_loop2 hX hlv hl0 (K := K + 6) (Nat.mod_lt _ (by decide)) (by omega) _ 0 κ μ rfl (Nat.zero_le _) h hm hr h2
    | succ dz ih =>
      intro x κ μ hd hx h hm hr hI
      exact dr_one hX hlv hl0 h hm hr (by omega) (by omega) hI (by omega) (fun κ1 μ1 q1 q2 q3 q4 => ih (x + 1) κ1 μ1 (by omega) (by omega) q1 q2 q3 q4)
  refine z_sub [3, 2, 1, 0] rfl ?_
  exact hL 6 0 iK iM (by omega) (by omega) iRR rfl iRou ⟨by rw [show bn (iM 1) = 0 from bn_refS]; exact Nat.le_refl _, Or.inl (Nat.zero_le _), fun j hj => absurd hj (by rw [show bn (iM 1) = 0 from bn_refS]; omega)⟩
end ZDR
