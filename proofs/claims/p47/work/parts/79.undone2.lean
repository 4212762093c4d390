section ZUT
abbrev arL (g : zG) (a : Nat) (fn : Nat → Int64) (ω : zOm) : zOm := (a, .inl (gQ g 4, 9, .inr (.inl fn))) :: ω
theorem i32_n (y : Int32) : ∃ x : Nat, x < 2 ^ 32 ∧ y = nI x := ⟨y.toBitVec.toNat, y.toBitVec.isLt, by
  refine Int32.toBitVec_inj.mp ?_
  refine BitVec.eq_of_toNat_eq ?_
  rw [pk_tn y.toBitVec.isLt]⟩
theorem cmp_ll (x : Int64) : lg_cmp x x = 0 := by unfold lg_cmp; rw [if_neg (Int64.lt_irrefl)]; simp
/-- the sums kept are those of the past's newest states -/
def sumH (fn : Nat → Int64) (L : List zB) : Prop := ∀ (j : Nat) (hj : j < L.length), fn (L.length - 1 - j) = sumL L[j]
theorem sumH.keep {fn : Nat → Int64} {L : List zB} (h : sumH fn L) (y : Int64) : sumH (vp_updL fn L.length y) L := fun j hj => by
  rw [pk_uLn (by omega)]; exact h j hj
theorem sumH.push {fn : Nat → Int64} {L : List zB} (h : sumH fn L) (b : zB) : sumH (vp_updL fn L.length (sumL b)) (b :: L) := fun j hj => by
  have hj2 : j < L.length + 1 := hj
  cases j with
  | zero =>
    show vp_updL fn L.length (sumL b) (L.length + 1 - 1 - 0) = sumL b
    rw [show L.length + 1 - 1 - 0 = L.length by omega]; exact pk_uLs
  | succ j =>
    show vp_updL fn L.length (sumL b) (L.length + 1 - 1 - (j + 1)) = sumL L[j]
    rw [show L.length + 1 - 1 - (j + 1) = L.length - 1 - j by omega, pk_uLn (by omega)]; exact h j (by omega)
theorem sumH.pop {fn : Nat → Int64} {L : List zB} {b : zB} (h : sumH fn (b :: L)) : fn L.length = sumL b ∧ sumH fn L := ⟨h 0 (Nat.succ_pos _), fun j hj => by
  have q := h (j + 1) (Nat.succ_lt_succ hj)
  rw [show (b :: L).length - 1 - (j + 1) = L.length - 1 - j by show L.length + 1 - 1 - (j + 1) = _; omega] at q
  exact q⟩
set_option maxHeartbeats 4000000 in
set_option maxRecDepth 100000 in
theorem un_back {p : Program} {l : Launch} {e : Env} {R : Room} {s : State} {m : MethodId} {args : Array Value} {below : List Frame} {meth : Method} {c : Code} {g : zG} {ν : zMu} {ω : zOm} (hX : zX p l s m args meth c R g RL cL_undone 8 (some .boolean) 23 3200) (hl0 : l.stackTraces = false) {a k : Nat} {fn : Nat → Int64} (hk : k + 41 * 8 ≤ 3200) : ∀ (L : List zB) (κ : zKp) (μ : zMu), L.length ≤ 7 → RR κ μ → preH μ L → sumH fn L → zZ p l e R s m args below meth c g 8 (zQG g ν (fun _ _ r => r = some (.int 1)) below args s 3200) κ ν (arL g a fn ω) (k + 41 * (7 - L.length)) 262 [(0, .ref (gA g 11 0 0)), (1, .ref (gA g 0 0 0)), (2, .ref a), (4, .int (nI L.length - 1))] [] := by
  intro L
  induction L with
  | nil =>
    intro κ μ hL h hp hs
    refine z_iload hX dL_undone_262 3 rfl ?_
    refine z_if_lt (tgt := 294) hX dL_undone_264 (by decide) (fun _ => ?_) (fun q => absurd (show (nI 0 - 1 : Int32) < 0 by decide) q)
    refine z_iconst (v := 1) hX dL_undone_294 (by decide) ?_
    refine zG_of (κ' := κ) (ω' := ω) (r := some (.int 1)) rfl ?_
    exact z_iret hX dL_undone_295 (by omega) rfl rfl (fun _ h => WW_sub (List.sublist_cons_self _ _) h)
  | cons b L ih =>
    intro κ μ hL h hp hs
    have hL2 : L.length + 1 ≤ 7 := hL
    obtain ⟨hf, hs2⟩ := hs.pop
    obtain ⟨κ', μ', r, hW, hr, hR, hb, hp2⟩ := op_undo l (g := g) (ν := ν) (ω := arL g a fn ω) h hp
    have e1 : nI (b :: L).length - 1 = nI L.length := nI_pred L.length
    rw [e1, show (b :: L).length = L.length + 1 from rfl]
    refine z_iload hX dL_undone_262 3 rfl ?_
    refine z_if_lt (tgt := 294) hX dL_undone_264 (by decide) (fun q => absurd q (nI_pos (by omega))) (fun _ => ?_)
    refine z_aload_n hX dL_undone_267 1 rfl ?_
    refine z_callW hX hW cc_353 dL_undone_268 ⟨by omega, by decide, by omega⟩ rfl rfl (Nat.le_of_ble_eq_true rfl) ?_
    refine z_if_lt (tgt := 286) hX dL_undone_271 (by decide) (fun q => absurd q hr) (fun _ => ?_)
    refine z_aload_n hX dL_undone_274 1 rfl ?_
    refine z_callS1 hX (lw_sum (μ := μ') l hl0 hR) cs_RL_333 dL_undone_275 ⟨by omega, by decide, by omega⟩ rfl rfl (Nat.le_of_ble_eq_true rfl) ?_
    refine z_aload_n hX dL_undone_278 2 rfl ?_
    refine z_iload hX dL_undone_279 3 rfl ?_
    refine zq_lald hX (j := 0) rfl rfl (q := L.length) (by omega) (by decide) dL_undone_281 ?_
    refine z_lcmp hX dL_undone_282 ?_
    rw [hb, hf, cmp_ll]
    refine z_if_eq (tgt := 288) hX dL_undone_283 (by decide) (fun _ => ?_) (fun q => absurd rfl q)
    refine z_iinc (v := nI L.length - 1) (lv' := [(4, _), (0, _), (1, _), (2, _)]) hX dL_undone_288 3 rfl (by rw [show Int32.ofInt (-1) = -1 from rfl, ← Int32.sub_eq_add_neg]) (by decide) rfl ?_
    refine z_goto (tgt := 262) hX dL_undone_291 (by decide) ?_
    refine z_sub [1, 2, 3, 0] rfl ?_
    exact z_widen (k2 := k + 41 * (7 - L.length)) (by omega) (ih κ' μ' (by omega) hR hp2 hs2)
theorem un_loop {p : Program} {l : Launch} {e : Env} {R : Room} {s : State} {m : MethodId} {args : Array Value} {below : List Frame} {meth : Method} {c : Code} {g : zG} {ν : zMu} {ω : zOm} (hX : zX p l s m args meth c R g RL cL_undone 8 (some .boolean) 23 3200) (hl0 : l.stackTraces = false) {a : Nat} (hq5 : gA g 11 1 0 ≤ 2560) : ∀ (dz i : Nat) (κ : zKp) (μ : zMu) (fn : Nat → Int64) (L : List zB), 7 - i = dz → i ≤ 7 → L.length ≤ i → RR κ μ → μ 0 4 = nI 0 → preH μ L → sumH fn L → zZ p l e R s m args below meth c g 8 (zQG g ν (fun _ _ r => r = some (.int 1)) below args s 3200) κ ν (arL g a fn ω) (2 + 390 * i) 10 [(0, .ref (gA g 11 0 0)), (1, .ref (gA g 0 0 0)), (2, .ref a), (3, .int (nI L.length)), (4, .int (nI i))] [] := by
  intro dz
  induction dz with
  | zero =>
    intro i κ μ fn L hd hi hLi h hm hp hs
    have hi7 : i = 7 := by omega
    subst hi7
    refine z_iload hX dL_undone_10 4 rfl ?_
    refine z_bipush (v := 7) hX dL_undone_12 (by decide) ?_
    refine z_icmp_ge (tgt := 257) hX dL_undone_14 (by decide) (fun _ => ?_) (fun q => absurd (Int32.le_refl _) q)
    refine z_iload_n hX dL_undone_257 3 rfl ?_
    refine z_iconst (v := 1) hX dL_undone_258 (by decide) ?_
    refine z_isub hX dL_undone_259 ?_
    refine z_istore (lv' := [(4, _), (0, _), (1, _), (2, _), (3, _)]) hX dL_undone_260 (by decide) rfl ?_
    refine z_sub [1, 2, 3, 0] rfl ?_
    exact z_widen (k2 := 2 + 390 * 7 + 41 * (7 - L.length)) (by omega) (un_back hX hl0 (k := 2 + 390 * 7) (by omega) L κ μ (by omega) h hp hs)
  | succ dz ih =>
    intro i κ μ fn L hd hi hLi h hm hp hs
    have hi7 : i < 7 := by omega
    have h31 : (2 : Nat) ^ 31 = 2147483648 := by decide
    have h32 : (2 : Nat) ^ 32 = 4294967296 := by decide
    obtain ⟨x, hx, ex⟩ := i32_n (scB g (30 + i))
    refine z_iload hX dL_undone_10 4 rfl ?_
    refine z_bipush (v := 7) hX dL_undone_12 (by decide) ?_
    refine z_icmp_ge (tgt := 257) hX dL_undone_14 (by decide) (fun q => absurd q (nle_i (a := i) (b := 7) hi7 (by decide))) (fun _ => ?_)
    refine z_aload_n hX dL_undone_17 0 rfl ?_
    refine z_bipush (v := nI 30) hX dL_undone_18 (by decide) ?_
    refine z_iload hX dL_undone_20 4 rfl ?_
    refine z_iadd hX dL_undone_22 ?_
    refine z_isv (nI_add 30 i) ?_
    refine z_callS1 hX (lw_cell (μ := μ) l hl0 (by omega) hq5) cs_RL_151 dL_undone_23 ⟨by omega, by decide, by omega⟩ rfl rfl (Nat.le_of_ble_eq_true rfl) ?_
    refine z_isv ex ?_
    refine z_iconst (v := 1) hX dL_undone_26 (by decide) ?_
    refine z_iushr (v := nI (x / 2 ^ 1)) hX dL_undone_27 (pk_ushrN hx 1 1 (by decide)) ?_
    refine z_istore (lv' := [(5, _), (0, _), (1, _), (2, _), (3, _), (4, _)]) hX dL_undone_28 (by decide) rfl ?_
    refine z_iload hX dL_undone_30 0 rfl ?_
    refine z_iconst (v := 4) hX dL_undone_32 (by decide) ?_
    refine z_iushr (v := nI (x / 2 ^ 1 / 2 ^ 4)) hX dL_undone_33 (pk_ushrN (by omega) 4 4 (by decide)) ?_
    refine z_istore (lv' := [(6, _), (5, _), (0, _), (1, _), (2, _), (3, _), (4, _)]) hX dL_undone_34 (by decide) rfl ?_
    refine z_aload_n hX dL_undone_36 4 rfl ?_
    refine z_iload_n hX dL_undone_37 5 rfl ?_
    refine z_aload_n hX dL_undone_38 3 rfl ?_
    refine z_callS1 hX (lw_sum l hl0 h) cs_RL_333 dL_undone_39 ⟨by omega, by decide, by omega⟩ rfl rfl (Nat.le_of_ble_eq_true rfl) ?_
    refine zq_last hX (j := 0) rfl rfl (q := L.length) (by omega) (by decide) dL_undone_42 ?_
    refine z_iload hX dL_undone_43 1 rfl ?_
    refine z_bipush (v := 6) hX dL_undone_45 (by decide) ?_
    refine z_irem hX dL_undone_47 (by decide) ?_
    refine z_isv (show nI (x / 2 ^ 1) - nI (x / 2 ^ 1) / nI 6 * nI 6 = nI (x / 2 ^ 1 % 6) from pk_rem (by omega) (by decide) (by decide)) ?_
    refine z_sub [2, 3, 4, 5, 6, 1, 0] rfl ?_
    refine un_op (ω := arL g a (vp_updL fn L.length (sumL (μ 1))) ω) hX (by decide) hl0 h hm (by omega) (by omega) (by omega) (fun κ1 μ1 r hO => ?_)
    obtain ⟨hR, hm1, hO2⟩ := hO
    refine z_iload hX dL_undone_220 5 rfl ?_
    rcases hO2 with ⟨hr, e1, hk1⟩ | ⟨hr, hk1⟩
    · refine z_if_ge (tgt := 238) hX dL_undone_222 (by decide) (fun q => absurd hr (Int32.not_lt.mpr q)) (fun _ => ?_)
      refine z_aload_n hX dL_undone_225 1 rfl ?_
      refine z_callS1 hX (lw_sum l hl0 hR) cs_RL_333 dL_undone_226 ⟨by omega, by decide, by omega⟩ rfl rfl (Nat.le_of_ble_eq_true rfl) ?_
      refine z_aload_n hX dL_undone_229 2 rfl ?_
      refine z_iload_n hX dL_undone_230 3 rfl ?_
      refine zq_lald hX (j := 0) rfl rfl (q := L.length) (by omega) (by decide) dL_undone_231 ?_
      refine z_lcmp hX dL_undone_232 ?_
      rw [e1, pk_uLs, cmp_ll]
      refine z_if_eq (tgt := 238) hX dL_undone_233 (by decide) (fun _ => ?_) (fun q => absurd rfl q)
      refine z_iload_n hX dL_undone_238 3 rfl ?_
      refine z_iload hX dL_undone_239 5 rfl ?_
      refine z_if_ge (tgt := 248) hX dL_undone_241 (by decide) (fun q => absurd hr (Int32.not_lt.mpr q)) (fun _ => ?_)
      refine z_iconst (v := 0) hX dL_undone_244 (by decide) ?_
      refine z_goto (tgt := 249) hX dL_undone_245 (by decide) ?_
      refine z_iadd hX dL_undone_249 ?_
      refine z_isv (Int32.add_zero _) ?_
      refine z_istore_n (lv' := [(3, _), (0, _), (1, _), (2, _), (4, _), (7, _)]) hX dL_undone_250 (by decide) rfl ?_
      refine z_iinc (v := nI (i + 1)) (lv' := [(4, _), (3, _), (0, _), (1, _), (2, _), (7, _)]) hX dL_undone_251 4 rfl (nI_1 i) (by decide) rfl ?_
      refine z_goto (tgt := 10) hX dL_undone_254 (by decide) ?_
      refine z_sub [2, 3, 4, 1, 0] rfl ?_
      exact z_widen (k2 := 2 + 390 * (i + 1)) (by omega) (ih (i + 1) κ1 μ1 _ L (by omega) (by omega) (by omega) hR (hm1 hm) (hk1 L hp) (hs.keep _))
    · refine z_if_ge (tgt := 238) hX dL_undone_222 (by decide) (fun _ => ?_) (fun q => absurd (Int32.not_lt.mp hr) q)
      refine z_iload_n hX dL_undone_238 3 rfl ?_
      refine z_iload hX dL_undone_239 5 rfl ?_
      refine z_if_ge (tgt := 248) hX dL_undone_241 (by decide) (fun _ => ?_) (fun q => absurd (Int32.not_lt.mp hr) q)
      refine z_iconst (v := 1) hX dL_undone_248 (by decide) ?_
      refine z_iadd hX dL_undone_249 ?_
      refine z_isv (nI_1 _) ?_
      refine z_istore_n (lv' := [(3, _), (0, _), (1, _), (2, _), (4, _), (7, _)]) hX dL_undone_250 (by decide) rfl ?_
      refine z_iinc (v := nI (i + 1)) (lv' := [(4, _), (3, _), (0, _), (1, _), (2, _), (7, _)]) hX dL_undone_251 4 rfl (nI_1 i) (by decide) rfl ?_
      refine z_goto (tgt := 10) hX dL_undone_254 (by decide) ?_
      refine z_sub [2, 3, 4, 1, 0] rfl ?_
      exact z_widen (k2 := 2 + 390 * (i + 1)) (by omega) (ih (i + 1) κ1 μ1 _ (μ 1 :: L) (by omega) (by omega) (by show L.length + 1 ≤ i + 1; omega) hR (hm1 hm) (hk1 L (by omega) hp) (hs.push _))
theorem lw_undone (l : Launch) (hl0 : l.stackTraces = false) {g : zG} {κ : zKp} {μ ν : zMu} {ω : zOm} (h : RR κ μ) (hm : μ 0 4 = nI 0) : zMG l g yL_undone cL_undone 8 (some .boolean) 23 3200 [.ref (gA g 11 0 0), .ref (gA g 0 0 0)] κ ν ω (fun _ _ r => r = some (.int 1)) := by
  refine zMG_of (by decide) (Nat.le_of_ble_eq_true rfl) (fun p e R s m args below meth c hX => ?_)
  show zZ p l e R s m args below meth c g 8 _ _ _ _ 0 0 [(0, .ref (gA g 11 0 0)), (1, .ref (gA g 0 0 0))] []
  refine z_bipush (v := 9) hX dL_undone_0 (by decide) ?_
  refine zq_newa hX (t0 := 4) (N := 9) (r := 2) (a0 := (9, .inr (.inl (fun _ => 0)))) (ty := .long) rfl (gW_I 1351 (by decide +kernel) rfl) rfl (fun _ => rfl) rfl (by decide) (by decide) (by decide) (by omega) dL_undone_2 (fun a => ?_)
  refine z_astore_n (lv' := [(2, _), (0, _), (1, _)]) hX dL_undone_4 (by decide) rfl ?_
  refine z_iconst (v := 0) hX dL_undone_5 (by decide) ?_
  refine z_istore_n (lv' := [(3, _), (2, _), (0, _), (1, _)]) hX dL_undone_6 (by decide) rfl ?_
  refine z_iconst (v := 0) hX dL_undone_7 (by decide) ?_
  refine z_istore (lv' := [(4, _), (3, _), (2, _), (0, _), (1, _)]) hX dL_undone_8 (by decide) rfl ?_
  refine z_sub [3, 4, 2, 1, 0] rfl ?_
  have hq5 := hX.sc.2
  obtain ⟨k0, d, hk, hd8, hw, hd, hm0, ho⟩ := h.hs
  exact un_loop hX hl0 hq5 7 0 κ μ _ [] (by omega) (by omega) (Nat.le_refl _) h hm ⟨d, hm0, hd8, Nat.zero_le _, fun j hj => absurd hj (Nat.not_lt_zero j)⟩ (fun j hj => absurd hj (Nat.not_lt_zero j))
end ZUT
