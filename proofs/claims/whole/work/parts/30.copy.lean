section ZCO
variable {p : Program} {l : Launch} {e : Env} {R : Room} {s : State} {m : MethodId} {args : Array Value} {below : List Frame} {meth : Method} {c : Code} {Q : State → Prop} {g : zG} {own : String} {cc : ByteArray} {n lvl mc : Nat} {ret : Option FieldType} {κ κ' : zKp} {μ μ' : zMu} {ω ω' : zOm} {k pc : Nat} {lv lv' : List (Nat × Value)} {st : List Value} {oc : Except String (Option Value)}
theorem arr_ext {cA : ClassId} {N : Nat} {f f' : Nat → Int32} (h : ∀ j, j < N → f' j = f j) : vp_cell cA (N, .inl f') = vp_cell cA (N, .inl f) := by
  have e : (fun (j : Fin N) => Value.int (f' j.val)) = fun j => .int (f j.val) := funext fun j => by rw [h _ j.isLt]
  exact congrArg (fun z => ({ cls := cA, slots := Array.ofFn (n := N) z, vm := .none } : Cell)) e
/-- the world doesn't see what lies beyond an array's end -/
theorem WW_ext {H : Heap} (h : ∀ t f i, zV t f i → zE g κ' μ' ω' t f i = zE g κ μ ω t f i ∨ ∃ (cA : ClassId) (N : Nat) (x x' : Nat → Int32), zE g κ μ ω t f i = .inl (cA, N, .inl x) ∧ zE g κ' μ' ω' t f i = .inl (cA, N, .inl x') ∧ ∀ j, j < N → x' j = x j) (hW : WW g κ μ ω H) : WW g κ' μ' ω' H := by
  have key : ∀ (k : Nat) (q : Nat × va_E), (zWs g κ' μ' ω')[k]? = some q → ∃ z, zIdx[k]? = some z ∧ q = (gA g z.1 z.2.1 z.2.2, zE g κ' μ' ω' z.1 z.2.1 z.2.2) ∧ (zWs g κ μ ω)[k]? = some (gA g z.1 z.2.1 z.2.2, zE g κ μ ω z.1 z.2.1 z.2.2) := by
    intro k q hk
    rw [zWs, List.getElem?_map] at hk
    cases hz : zIdx[k]? with
    | none => rw [hz] at hk; cases hk
    | some z =>
      rw [hz] at hk
      exact ⟨z, rfl, (Option.some.inj hk).symm, by rw [zWs, List.getElem?_map, hz]; rfl⟩
  refine ⟨fun k q hk => ?_, fun i j u v hi hj e => ?_, fun k q hk => ?_⟩
  · obtain ⟨z, hz, rfl, h0⟩ := key k q hk
    have h1 := hW.1 k _ h0
    rcases h z.1 z.2.1 z.2.2 (List.mem_of_getElem? hz) with w | ⟨cA, N, x, x', e1, e2, e3⟩
    · rw [w]; exact h1
    · rw [e2]
      rw [e1] at h1
      have h2 : H[gA g z.1 z.2.1 z.2.2]? = some (vp_cell cA (N, .inl x)) := h1
      show H[gA g z.1 z.2.1 z.2.2]? = some (vp_cell cA (N, .inl x'))
      rw [arr_ext e3]; exact h2
  · obtain ⟨z, hz, rfl, h0⟩ := key i u hi
    obtain ⟨z2, hz2, rfl, h2⟩ := key j v hj
    exact hW.2.1 i j _ _ h0 h2 e
  · obtain ⟨z, hz, rfl, h0⟩ := key k q hk
    exact hW.2.2 k (gA g z.1 z.2.1 z.2.2, zE g κ μ ω z.1 z.2.1 z.2.2) h0
theorem wt_ac : Cond.static arraycopyName ∈ gW := gW_I 1190 (by decide +kernel) rfl
theorem wc_ac : Cond.native arraycopyName ∈ gW := gW_I 1191 (by decide +kernel) rfl
theorem wn_ac : Cond.initialized "java/lang/System" ∈ gW := gW_I 20 (by decide +kernel) rfl
theorem ml_ac : Cond.methodLink RX5 45 arraycopyName ∈ gW := gW_I 1189 (by decide +kernel) rfl
theorem z_copyi (hX : zX p l s m args meth c R g own cc n ret lvl mc) {t f i t1 f1 i1 N0 N1 tq a b q index : Nat} {cA : ClassId} {fn gn : Nat → Int32} {sp dp nn : Int32} (hV0 : zV t f i) (he0 : zE g κ μ ω t f i = .inl (cA, N0, .inl fn)) (hV1 : zV t1 f1 i1) (he1 : zE g κ μ ω t1 f1 i1 = .inl (cA, N1, .inl gn)) (ht : (gT g)[tq]? = some (cA, .int)) (ha : sp = nI a) (hb : dp = nI b) (hq : nn = nI q) (h4 : a + q ≤ N0) (h5 : b + q ≤ N1) (hN : N0 < 100000 ∧ N1 < 100000) (hl0 : Cond.methodLink own index arraycopyName ∈ gW) (he' : zE g κ' μ' ω' t1 f1 i1 = .inl (cA, N1, .inl (va_cpy fn gn a b q))) (hne : ∀ t' f' i', zV t' f' i' → ¬ (t' = t1 ∧ f' = f1 ∧ i' = i1) → zE g κ' μ' ω' t' f' i' = zE g κ μ ω t' f' i') (d : decode cc pc = .ok (.invokestatic index, 3)) (hlv : 1 ≤ lvl) (hcat : (st.map fun v => v.category).sum ≤ 8) (kk : zZ p l e R s m args below meth c g n Q κ' μ' ω' k (pc + 3) lv (st)) : zZ p l e R s m args below meth c g n Q κ μ ω k pc lv (.int nn :: .int dp :: .ref (gA g t1 f1 i1) :: .int sp :: .ref (gA g t f i) :: st) := fun H ls locs hl hS hW => by
  subst ha hb hq
  obtain ⟨q0, k1, k2⟩ := zpos g κ μ ω hV0
  obtain ⟨q1, k3, k4⟩ := zpos g κ μ ω hV1
  rw [he0] at k2
  rw [he1] at k4
  obtain ⟨hx, hb, hml, hown, hts, hK, hB, hs, hR, -⟩ := id hX
  have ea : (nI a).toNatClampNeg = a := nI_clamp (by omega)
  have eb : (nI b).toNatClampNeg = b := nI_clamp (by omega)
  have eq : (nI q).toNatClampNeg = q := nI_clamp (by omega)
  have hw : nativeFrameWords "java/lang/System" "arraycopy" 5 + 11 ≤ 92 := by decide
  refine va_copyi hx hb (hml.trans hl.1.symm) hown (hts _ hl0) (hts _ wc_ac) (hts _ wt_ac) (hts _ wn_ac) hK hW.1 hW.2 hS q0 q1 tq tq k2 k4 ht ht rfl (nI_pos (by omega)) (nI_pos (by omega)) (nI_pos (by omega)) (by rw [ea, eq]; exact h4) (by rw [eb, eq]; exact h5) (fun _ _ => rfl) (Nat.le_trans hlv hR.1) (Nat.le_trans (by omega) hR.2.1) d (fun H1 locs1 hP hD hS1 => ?_)
  rw [ea, eb, eq] at hP hD
  rw [zset k3 he' hne] at hP hD
  exact kk H1 ls locs1 hl hS1 ⟨hP, hD⟩
theorem zRm_o {x : Nat → Int32} {r q : Nat} (h : ¬ q = r) : zRm μ r x q = μ q := if_neg h
theorem zRm_s {x : Nat → Int32} {r : Nat} : zRm μ r x r = x := if_pos rfl
theorem zN_o {a b : Nat → Int32} {q : Nat} (h : 2 ≤ q) : zN μ a b q = μ q := by
  unfold zN
  rw [if_neg (by omega), if_neg (by omega)]
theorem cpy_all {f h : Nat → Int32} {N j : Nat} (hj : j < N) : f j = va_cpy f h 0 0 N j := by
  unfold va_cpy
  rw [if_pos (by omega), Nat.zero_add, Nat.sub_zero]
theorem zEc_before {a b : Nat → Int32} : zE g κ (zN μ a b) ω 12 0 0 = .inl (gQ g 1, 113, .inl (μ 2)) := by simp [zE, zN]
theorem zc_to_before (hX : zX p l s m args meth c R g RX5 cc n ret lvl mc) {a b : Nat → Int32} (d : decode cc pc = .ok (.invokestatic 45, 3)) (hlv : 1 ≤ lvl) (hcat : (st.map fun v => v.category).sum ≤ 8) (kk : zZ p l e R s m args below meth c g n Q κ (zN (zRm μ 2 b) a b) ω k (pc + 3) lv (st)) : zZ p l e R s m args below meth c g n Q κ (zN μ a b) ω k pc lv (.int 113 :: .int 0 :: .ref (gA g 12 0 0) :: .int 0 :: .ref (gA g 11 0 0) :: st) := by
  refine z_copyi hX (tq := 1) (a := 0) (b := 0) (q := 113) (μ' := zN (zRm μ 2 (va_cpy b (μ 2) 0 0 113)) a b) zV11 zE11 zV12 zEc_before rfl rfl rfl rfl (by decide) (by decide) (by decide) ml_ac (by rw [zEc_before, zRm_s]) (fun t' f' i' hv hn => zE_N (fun _ => rfl) (fun _ => rfl) (fun h => absurd ⟨h, zV_f0 hv (by omega), zV_i0 hv (by omega)⟩ hn) (fun _ => rfl) (fun _ => rfl) (fun _ j => zRm_o (by omega)) (fun _ => rfl) (fun _ => rfl) (fun _ => rfl)) d hlv hcat ?_
  refine z_world (fun H hW => WW_ext (fun t' f' i' hv => ?_) hW) kk
  by_cases h : t' = 12 ∧ f' = 0 ∧ i' = 0
  · obtain ⟨rfl, rfl, rfl⟩ := h
    refine Or.inr ⟨_, _, _, _, zEc_before, zEc_before, fun j hj => ?_⟩
    rw [zRm_s, zRm_s]
    exact cpy_all hj
  · refine Or.inl (zE_N (fun _ => rfl) (fun _ => rfl) (fun h2 => absurd ⟨h2, zV_f0 hv (by omega), zV_i0 hv (by omega)⟩ h) (fun _ => rfl) (fun _ => rfl) (fun _ j => (zRm_o (by omega)).trans (zRm_o (by omega)).symm) (fun _ => rfl) (fun _ => rfl) (fun _ => rfl))
theorem zc_of_before (hX : zX p l s m args meth c R g RX5 cc n ret lvl mc) {a b : Nat → Int32} (d : decode cc pc = .ok (.invokestatic 45, 3)) (hlv : 1 ≤ lvl) (hcat : (st.map fun v => v.category).sum ≤ 8) (kk : zZ p l e R s m args below meth c g n Q κ (zN μ a (μ 2)) ω k (pc + 3) lv (st)) : zZ p l e R s m args below meth c g n Q κ (zN μ a b) ω k pc lv (.int 113 :: .int 0 :: .ref (gA g 11 0 0) :: .int 0 :: .ref (gA g 12 0 0) :: st) := by
  refine z_copyi hX (tq := 1) (a := 0) (b := 0) (q := 113) (μ' := zN μ a (va_cpy (μ 2) b 0 0 113)) zV12 zEc_before zV11 zE11 rfl rfl rfl rfl (by decide) (by decide) (by decide) ml_ac (by rw [zE11]) (fun t' f' i' hv hn => zE_N (fun _ => rfl) (fun h => absurd ⟨h, zV_f0 hv (by omega), zV_i0 hv (by omega)⟩ hn) (fun _ => rfl) (fun _ => rfl) (fun _ => rfl) (fun _ _ => rfl) (fun _ => rfl) (fun _ => rfl) (fun _ => rfl)) d hlv hcat ?_
  refine z_world (fun H hW => WW_ext (fun t' f' i' hv => ?_) hW) kk
  by_cases h : t' = 11 ∧ f' = 0 ∧ i' = 0
  · obtain ⟨rfl, rfl, rfl⟩ := h
    exact Or.inr ⟨_, _, _, _, zE11, zE11, fun j hj => cpy_all hj⟩
  · refine Or.inl (zE_N (fun _ => rfl) (fun h2 => absurd ⟨h2, zV_f0 hv (by omega), zV_i0 hv (by omega)⟩ h) (fun _ => rfl) (fun _ => rfl) (fun _ => rfl) (fun _ _ => rfl) (fun _ => rfl) (fun _ => rfl) (fun _ => rfl))
theorem zEc_aside {a b : Nat → Int32} : zE g κ (zN μ a b) ω 13 0 0 = .inl (gQ g 1, 113, .inl (μ 3)) := by simp [zE, zN]
theorem zc_to_aside (hX : zX p l s m args meth c R g RX5 cc n ret lvl mc) {a b : Nat → Int32} (d : decode cc pc = .ok (.invokestatic 45, 3)) (hlv : 1 ≤ lvl) (hcat : (st.map fun v => v.category).sum ≤ 8) (kk : zZ p l e R s m args below meth c g n Q κ (zN (zRm μ 3 b) a b) ω k (pc + 3) lv (st)) : zZ p l e R s m args below meth c g n Q κ (zN μ a b) ω k pc lv (.int 113 :: .int 0 :: .ref (gA g 13 0 0) :: .int 0 :: .ref (gA g 11 0 0) :: st) := by
  refine z_copyi hX (tq := 1) (a := 0) (b := 0) (q := 113) (μ' := zN (zRm μ 3 (va_cpy b (μ 3) 0 0 113)) a b) zV11 zE11 zV13 zEc_aside rfl rfl rfl rfl (by decide) (by decide) (by decide) ml_ac (by rw [zEc_aside, zRm_s]) (fun t' f' i' hv hn => zE_N (fun _ => rfl) (fun _ => rfl) (fun _ => rfl) (fun h => absurd ⟨h, zV_f0 hv (by omega), zV_i0 hv (by omega)⟩ hn) (fun _ => rfl) (fun _ j => zRm_o (by omega)) (fun _ => rfl) (fun _ => rfl) (fun _ => rfl)) d hlv hcat ?_
  refine z_world (fun H hW => WW_ext (fun t' f' i' hv => ?_) hW) kk
  by_cases h : t' = 13 ∧ f' = 0 ∧ i' = 0
  · obtain ⟨rfl, rfl, rfl⟩ := h
    refine Or.inr ⟨_, _, _, _, zEc_aside, zEc_aside, fun j hj => ?_⟩
    rw [zRm_s, zRm_s]
    exact cpy_all hj
  · refine Or.inl (zE_N (fun _ => rfl) (fun _ => rfl) (fun _ => rfl) (fun h2 => absurd ⟨h2, zV_f0 hv (by omega), zV_i0 hv (by omega)⟩ h) (fun _ => rfl) (fun _ j => (zRm_o (by omega)).trans (zRm_o (by omega)).symm) (fun _ => rfl) (fun _ => rfl) (fun _ => rfl))
theorem zc_of_aside (hX : zX p l s m args meth c R g RX5 cc n ret lvl mc) {a b : Nat → Int32} (d : decode cc pc = .ok (.invokestatic 45, 3)) (hlv : 1 ≤ lvl) (hcat : (st.map fun v => v.category).sum ≤ 8) (kk : zZ p l e R s m args below meth c g n Q κ (zN μ a (μ 3)) ω k (pc + 3) lv (st)) : zZ p l e R s m args below meth c g n Q κ (zN μ a b) ω k pc lv (.int 113 :: .int 0 :: .ref (gA g 11 0 0) :: .int 0 :: .ref (gA g 13 0 0) :: st) := by
  refine z_copyi hX (tq := 1) (a := 0) (b := 0) (q := 113) (μ' := zN μ a (va_cpy (μ 3) b 0 0 113)) zV13 zEc_aside zV11 zE11 rfl rfl rfl rfl (by decide) (by decide) (by decide) ml_ac (by rw [zE11]) (fun t' f' i' hv hn => zE_N (fun _ => rfl) (fun h => absurd ⟨h, zV_f0 hv (by omega), zV_i0 hv (by omega)⟩ hn) (fun _ => rfl) (fun _ => rfl) (fun _ => rfl) (fun _ _ => rfl) (fun _ => rfl) (fun _ => rfl) (fun _ => rfl)) d hlv hcat ?_
  refine z_world (fun H hW => WW_ext (fun t' f' i' hv => ?_) hW) kk
  by_cases h : t' = 11 ∧ f' = 0 ∧ i' = 0
  · obtain ⟨rfl, rfl, rfl⟩ := h
    exact Or.inr ⟨_, _, _, _, zE11, zE11, fun j hj => cpy_all hj⟩
  · refine Or.inl (zE_N (fun _ => rfl) (fun h2 => absurd ⟨h2, zV_f0 hv (by omega), zV_i0 hv (by omega)⟩ h) (fun _ => rfl) (fun _ => rfl) (fun _ => rfl) (fun _ _ => rfl) (fun _ => rfl) (fun _ => rfl) (fun _ => rfl))
theorem zEc_saved {a b : Nat → Int32} : zE g κ (zN μ a b) ω 14 0 0 = .inl (gQ g 1, 113, .inl (μ 4)) := by simp [zE, zN]
theorem zc_to_saved (hX : zX p l s m args meth c R g RX5 cc n ret lvl mc) {a b : Nat → Int32} (d : decode cc pc = .ok (.invokestatic 45, 3)) (hlv : 1 ≤ lvl) (hcat : (st.map fun v => v.category).sum ≤ 8) (kk : zZ p l e R s m args below meth c g n Q κ (zN (zRm μ 4 b) a b) ω k (pc + 3) lv (st)) : zZ p l e R s m args below meth c g n Q κ (zN μ a b) ω k pc lv (.int 113 :: .int 0 :: .ref (gA g 14 0 0) :: .int 0 :: .ref (gA g 11 0 0) :: st) := by
  refine z_copyi hX (tq := 1) (a := 0) (b := 0) (q := 113) (μ' := zN (zRm μ 4 (va_cpy b (μ 4) 0 0 113)) a b) zV11 zE11 zV14 zEc_saved rfl rfl rfl rfl (by decide) (by decide) (by decide) ml_ac (by rw [zEc_saved, zRm_s]) (fun t' f' i' hv hn => zE_N (fun _ => rfl) (fun _ => rfl) (fun _ => rfl) (fun _ => rfl) (fun h => absurd ⟨h, zV_f0 hv (by omega), zV_i0 hv (by omega)⟩ hn) (fun _ j => zRm_o (by omega)) (fun _ => rfl) (fun _ => rfl) (fun _ => rfl)) d hlv hcat ?_
  refine z_world (fun H hW => WW_ext (fun t' f' i' hv => ?_) hW) kk
  by_cases h : t' = 14 ∧ f' = 0 ∧ i' = 0
  · obtain ⟨rfl, rfl, rfl⟩ := h
    refine Or.inr ⟨_, _, _, _, zEc_saved, zEc_saved, fun j hj => ?_⟩
    rw [zRm_s, zRm_s]
    exact cpy_all hj
  · refine Or.inl (zE_N (fun _ => rfl) (fun _ => rfl) (fun _ => rfl) (fun _ => rfl) (fun h2 => absurd ⟨h2, zV_f0 hv (by omega), zV_i0 hv (by omega)⟩ h) (fun _ j => (zRm_o (by omega)).trans (zRm_o (by omega)).symm) (fun _ => rfl) (fun _ => rfl) (fun _ => rfl))
theorem zc_of_saved (hX : zX p l s m args meth c R g RX5 cc n ret lvl mc) {a b : Nat → Int32} (d : decode cc pc = .ok (.invokestatic 45, 3)) (hlv : 1 ≤ lvl) (hcat : (st.map fun v => v.category).sum ≤ 8) (kk : zZ p l e R s m args below meth c g n Q κ (zN μ a (μ 4)) ω k (pc + 3) lv (st)) : zZ p l e R s m args below meth c g n Q κ (zN μ a b) ω k pc lv (.int 113 :: .int 0 :: .ref (gA g 11 0 0) :: .int 0 :: .ref (gA g 14 0 0) :: st) := by
  refine z_copyi hX (tq := 1) (a := 0) (b := 0) (q := 113) (μ' := zN μ a (va_cpy (μ 4) b 0 0 113)) zV14 zEc_saved zV11 zE11 rfl rfl rfl rfl (by decide) (by decide) (by decide) ml_ac (by rw [zE11]) (fun t' f' i' hv hn => zE_N (fun _ => rfl) (fun h => absurd ⟨h, zV_f0 hv (by omega), zV_i0 hv (by omega)⟩ hn) (fun _ => rfl) (fun _ => rfl) (fun _ => rfl) (fun _ _ => rfl) (fun _ => rfl) (fun _ => rfl) (fun _ => rfl)) d hlv hcat ?_
  refine z_world (fun H hW => WW_ext (fun t' f' i' hv => ?_) hW) kk
  by_cases h : t' = 11 ∧ f' = 0 ∧ i' = 0
  · obtain ⟨rfl, rfl, rfl⟩ := h
    exact Or.inr ⟨_, _, _, _, zE11, zE11, fun j hj => cpy_all hj⟩
  · refine Or.inl (zE_N (fun _ => rfl) (fun h2 => absurd ⟨h2, zV_f0 hv (by omega), zV_i0 hv (by omega)⟩ h) (fun _ => rfl) (fun _ => rfl) (fun _ => rfl) (fun _ _ => rfl) (fun _ => rfl) (fun _ => rfl) (fun _ => rfl))
/-- the oldest state gives way -/
def zSh (μ : zMu) : zMu := fun r => if 10 ≤ r ∧ r < 17 then μ (r + 1) else μ r
theorem zSh_o {q : Nat} (h : q < 10 ∨ 17 ≤ q) : zSh μ q = μ q := if_neg (by omega)
theorem zSh_i {q : Nat} (h : q < 7) : zSh μ (10 + q) = μ (11 + q) := by
  unfold zSh
  rw [if_pos (by omega)]; congr 1; omega
theorem zE15 {a b : Nat → Int32} : zE g κ (zN μ a b) ω 15 0 0 = .inl (gQ g 1, 904, .inl (fun q => μ (10 + q / 113) (q % 113))) := by
  have e : ∀ q : Nat, zN μ a b (10 + q / 113) = μ (10 + q / 113) := fun q => zN_o (by omega)
  simp only [zE, e]
/-- row k of the past, out of the long row -/
def zPr (x : Nat → Int32) (k : Nat) : Nat → Int32 := fun j => x (113 * k + j)
def zPa (μ : zMu) (x : Nat → Int32) : zMu := fun r => if 10 ≤ r then zPr x (r - 10) else μ r
theorem zPa_lo {x : Nat → Int32} {q : Nat} (h : q < 10) : zPa μ x q = μ q := if_neg (by omega)
theorem zPa_at {x : Nat → Int32} {q : Nat} : zPa μ x (10 + q / 113) (q % 113) = x q := by
  unfold zPa zPr
  rw [if_pos (by omega)]; congr 1; omega
theorem zE15a {a b x : Nat → Int32} : zE g κ (zN (zPa μ x) a b) ω 15 0 0 = .inl (gQ g 1, 904, .inl x) := by
  rw [zE15]
  have e : (fun q => zPa μ x (10 + q / 113) (q % 113)) = x := funext fun q => zPa_at
  rw [e]
theorem zc_past (hX : zX p l s m args meth c R g RX5 cc n ret lvl mc) {a b : Nat → Int32} {t f i N0 A B C : Nat} {fn : Nat → Int32} {sp dp nn : Int32} {μ' : zMu} (hV0 : zV t f i) (he0 : zE g κ (zN μ a b) ω t f i = .inl (gQ g 1, N0, .inl fn)) (ha : sp = nI A) (hb : dp = nI B) (hq : nn = nI C) (h4 : A + C ≤ N0) (h5 : B + C ≤ 904) (hN : N0 < 100000) (hlo : ∀ q, q < 10 → μ' q = μ q) (hxx : ∀ j, j < 904 → μ' (10 + j / 113) (j % 113) = va_cpy fn (fun q => μ (10 + q / 113) (q % 113)) A B C j) (d : decode cc pc = .ok (.invokestatic 45, 3)) (hlv : 1 ≤ lvl) (hcat : (st.map fun v => v.category).sum ≤ 8) (kk : zZ p l e R s m args below meth c g n Q κ (zN μ' a b) ω k (pc + 3) lv (st)) : zZ p l e R s m args below meth c g n Q κ (zN μ a b) ω k pc lv (.int nn :: .int dp :: .ref (gA g 15 0 0) :: .int sp :: .ref (gA g t f i) :: st) := by
  refine z_copyi hX (tq := 1) (μ' := zN (zPa μ (va_cpy fn (fun q => μ (10 + q / 113) (q % 113)) A B C)) a b) hV0 he0 zV15 zE15 rfl ha hb hq h4 h5 ⟨hN, by decide⟩ ml_ac zE15a (fun t' f' i' hv hn => zE_N (fun _ => rfl) (fun _ => rfl) (fun _ => zPa_lo (by decide)) (fun _ => zPa_lo (by decide)) (fun _ => zPa_lo (by decide)) (fun h => absurd ⟨h, zV_f0 hv (by omega), zV_i0 hv (by omega)⟩ hn) (fun _ => zPa_lo (by decide)) (fun _ => zPa_lo (by decide)) (fun _ => zPa_lo (by decide))) d hlv hcat ?_
  refine z_world (fun H hW => WW_ext (fun t' f' i' hv => ?_) hW) kk
  by_cases h : t' = 15 ∧ f' = 0 ∧ i' = 0
  · obtain ⟨rfl, rfl, rfl⟩ := h
    exact Or.inr ⟨_, _, _, _, zE15a, zE15, fun j hj => hxx j hj⟩
  · refine Or.inl (zE_N (fun _ => rfl) (fun _ => rfl) (fun _ => (hlo 2 (by decide)).trans (zPa_lo (by decide)).symm) (fun _ => (hlo 3 (by decide)).trans (zPa_lo (by decide)).symm) (fun _ => (hlo 4 (by decide)).trans (zPa_lo (by decide)).symm) (fun h2 => absurd ⟨h2, zV_f0 hv (by omega), zV_i0 hv (by omega)⟩ h) (fun _ => (hlo 6 (by decide)).trans (zPa_lo (by decide)).symm) (fun _ => (hlo 7 (by decide)).trans (zPa_lo (by decide)).symm) (fun _ => (hlo 8 (by decide)).trans (zPa_lo (by decide)).symm))
theorem zc_shift (hX : zX p l s m args meth c R g RX5 cc n ret lvl mc) {a b : Nat → Int32} (d : decode cc pc = .ok (.invokestatic 45, 3)) (hlv : 1 ≤ lvl) (hcat : (st.map fun v => v.category).sum ≤ 8) (kk : zZ p l e R s m args below meth c g n Q κ (zN (zSh μ) a b) ω k (pc + 3) lv (st)) : zZ p l e R s m args below meth c g n Q κ (zN μ a b) ω k pc lv (.int 791 :: .int 0 :: .ref (gA g 15 0 0) :: .int 113 :: .ref (gA g 15 0 0) :: st) := by
  refine zc_past hX (A := 113) (B := 0) (C := 791) zV15 zE15 rfl rfl rfl (by decide) (by decide) (by decide) (fun q h => zSh_o (Or.inl h)) (fun j hj => ?_) d hlv hcat kk
  unfold va_cpy
  by_cases h : j < 791
  · rw [if_pos (by omega), zSh_i (by omega)]
    show μ (11 + j / 113) (j % 113) = μ (10 + (113 + (j - 0)) / 113) ((113 + (j - 0)) % 113)
    rw [show 10 + (113 + (j - 0)) / 113 = 11 + j / 113 by omega, show (113 + (j - 0)) % 113 = j % 113 by omega]
  · rw [if_neg (by omega), zSh_o (by omega)]
theorem zc_put (hX : zX p l s m args meth c R g RX5 cc n ret lvl mc) {a b : Nat → Int32} {k0 : Nat} {dp : Int32} (hk : k0 < 8) (hd : dp = nI (113 * k0)) (d : decode cc pc = .ok (.invokestatic 45, 3)) (hlv : 1 ≤ lvl) (hcat : (st.map fun v => v.category).sum ≤ 8) (kk : zZ p l e R s m args below meth c g n Q κ (zN (zRm μ (10 + k0) (μ 2)) a b) ω k (pc + 3) lv (st)) : zZ p l e R s m args below meth c g n Q κ (zN μ a b) ω k pc lv (.int 113 :: .int dp :: .ref (gA g 15 0 0) :: .int 0 :: .ref (gA g 12 0 0) :: st) := by
  refine zc_past hX (A := 0) (B := 113 * k0) (C := 113) zV12 zEc_before rfl hd rfl (by decide) (by omega) (by decide) (fun q h => zRm_o (by omega)) (fun j hj => ?_) d hlv hcat kk
  unfold va_cpy
  by_cases h : 113 * k0 ≤ j ∧ j < 113 * k0 + 113
  · rw [if_pos h, show 10 + j / 113 = 10 + k0 by omega, zRm_s, show 0 + (j - 113 * k0) = j % 113 by omega]
  · rw [if_neg h, zRm_o (by omega)]
theorem zc_get (hX : zX p l s m args meth c R g RX5 cc n ret lvl mc) {a b : Nat → Int32} {k0 : Nat} {dp : Int32} (hk : k0 < 8) (hd : dp = nI (113 * k0)) (d : decode cc pc = .ok (.invokestatic 45, 3)) (hlv : 1 ≤ lvl) (hcat : (st.map fun v => v.category).sum ≤ 8) (kk : zZ p l e R s m args below meth c g n Q κ (zN μ a (μ (10 + k0))) ω k (pc + 3) lv (st)) : zZ p l e R s m args below meth c g n Q κ (zN μ a b) ω k pc lv (.int 113 :: .int 0 :: .ref (gA g 11 0 0) :: .int dp :: .ref (gA g 15 0 0) :: st) := by
  refine z_copyi hX (tq := 1) (a := 113 * k0) (b := 0) (q := 113) (μ' := zN μ a (va_cpy (fun q => μ (10 + q / 113) (q % 113)) b (113 * k0) 0 113)) zV15 zE15 zV11 zE11 rfl hd rfl rfl (by omega) (by decide) (by decide) ml_ac (by rw [zE11]) (fun t' f' i' hv hn => zE_N (fun _ => rfl) (fun h => absurd ⟨h, zV_f0 hv (by omega), zV_i0 hv (by omega)⟩ hn) (fun _ => rfl) (fun _ => rfl) (fun _ => rfl) (fun _ _ => rfl) (fun _ => rfl) (fun _ => rfl) (fun _ => rfl)) d hlv hcat ?_
  refine z_world (fun H hW => WW_ext (fun t' f' i' hv => ?_) hW) kk
  by_cases h : t' = 11 ∧ f' = 0 ∧ i' = 0
  · obtain ⟨rfl, rfl, rfl⟩ := h
    refine Or.inr ⟨_, _, _, _, zE11, zE11, fun j hj => ?_⟩
    unfold va_cpy
    rw [if_pos (by omega)]
    show μ (10 + k0) j = μ (10 + (113 * k0 + (j - 0)) / 113) ((113 * k0 + (j - 0)) % 113)
    rw [show 10 + (113 * k0 + (j - 0)) / 113 = 10 + k0 by omega, show (113 * k0 + (j - 0)) % 113 = j by omega]
  · refine Or.inl (zE_N (fun _ => rfl) (fun h2 => absurd ⟨h2, zV_f0 hv (by omega), zV_i0 hv (by omega)⟩ h) (fun _ => rfl) (fun _ => rfl) (fun _ => rfl) (fun _ _ => rfl) (fun _ => rfl) (fun _ => rfl) (fun _ => rfl))
end ZCO
