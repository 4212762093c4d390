section ZHP
variable {p : Program} {l : Launch} {e : Env} {R : Room} {s : State} {m : MethodId} {args : Array Value} {below : List Frame} {meth : Method} {c : Code} {Q : State → Prop} {g : zG} {own : String} {cc : ByteArray} {n lvl mc : Nat} {ret : Option FieldType} {κ κ' : zKp} {μ μ' : zMu} {ω ω' : zOm} {k pc : Nat} {lv lv' : List (Nat × Value)} {st : List Value}
theorem lv_lcmp0 {H : Heap} {locs : List Loc} {cells slots : Nat} {ls : Array Slot} (hexec : p.tables.exec = Jvm.exec) (hb : c.code = cc) {x : Int64} (hdg : decode cc pc = .ok (.lcmp, 1)) (kk : W p l e R s m args below meth c H locs cells slots Q (F0 m (pc + 1) ls (.int 0 :: st))) : W p l e R s m args below meth c H locs cells slots Q (F0 m pc ls (.long x :: .long x :: st)) := by
  intro T hT X
  obtain ⟨t, a, b⟩ := kk T hT X
  refine ⟨t, ?_, b⟩
  have h1 : ¬ x > x := Int64.lt_irrefl
  jvm_step X.here [X.here.top, hexec, hb, hdg, h1]
  exact a
theorem z_lcmp0 (hX : zX p l s m args meth c R g own cc n ret lvl mc) {x y : Int64} (d : decode cc pc = .ok (.lcmp, 1)) (hxy : x = y) (kk : zZ p l e R s m args below meth c g n Q κ μ ω k (pc + 1) lv (.int 0 :: st)) : zZ p l e R s m args below meth c g n Q κ μ ω k pc lv (.long y :: .long x :: st) := fun H ls locs hl hS hW => by
  subst hxy
  exact lv_lcmp0 hX.1 hX.2.1 d (kk H ls locs hl hS hW)
theorem z_f2d (hX : zX p l s m args meth c R g own cc n ret lvl mc) {x : UInt32} (hne : vf_n64 (FP.f2d x)) (d : decode cc pc = .ok (.f2d, 1)) (kk : zZ p l e R s m args below meth c g n Q κ μ ω k (pc + 1) lv (.double (FP.f2d x) :: st)) : zZ p l e R s m args below meth c g n Q κ μ ω k pc lv (.float x :: st) := fun H ls locs hl hS hW => lv_f2d hX.1 hX.2.1 d hne (kk H ls locs hl hS hW)
theorem z_dcmp (hX : zX p l s m args meth c R g own cc n ret lvl mc) {x y : UInt64} {op : CmpOp} (d : decode cc pc = .ok (.dcmp op, 1)) (kk : zZ p l e R s m args below meth c g n Q κ μ ω k (pc + 1) lv (.int (Op.cmpValue (FP.dcmp x y) op) :: st)) : zZ p l e R s m args below meth c g n Q κ μ ω k pc lv (.double y :: .double x :: st) := fun H ls locs hl hS hW => lv_dcmp hX.1 hX.2.1 d (kk H ls locs hl hS hW)
theorem z_fload (hX : zX p l s m args meth c R g own cc n ret lvl mc) {i : Nat} {x : UInt32} (d : decode cc pc = .ok (.fload i, 2)) (j : Nat) (hj : lv[j]? = some (i, .float x)) (kk : zZ p l e R s m args below meth c g n Q κ μ ω k (pc + 2) lv (.float x :: st)) : zZ p l e R s m args below meth c g n Q κ μ ω k pc lv st := fun H ls locs hl hS hW => lv_fload hX.1 hX.2.1 d (lv_at hl j hj) (kk H ls locs hl hS hW)
theorem z_dload (hX : zX p l s m args meth c R g own cc n ret lvl mc) {i : Nat} {x : UInt64} (d : decode cc pc = .ok (.dload i, 2)) (j : Nat) (hj : lv[j]? = some (i, .double x)) (kk : zZ p l e R s m args below meth c g n Q κ μ ω k (pc + 2) lv (.double x :: st)) : zZ p l e R s m args below meth c g n Q κ μ ω k pc lv st := fun H ls locs hl hS hW => lv_dload hX.1 hX.2.1 d (lv_at hl j hj) (kk H ls locs hl hS hW)
theorem z_fstore (hX : zX p l s m args meth c R g own cc n ret lvl mc) {i : Nat} {x : UInt32} (d : decode cc pc = .ok (.fstore i, 2)) (hn : i < n) (hl' : (i, Value.float x) :: lv.filter (fun q => !(q.1 == i) && !(q.1 + 1 == i && q.2.category == 2)) = lv') (kk : zZ p l e R s m args below meth c g n Q κ μ ω k (pc + 2) lv' st) : zZ p l e R s m args below meth c g n Q κ μ ω k pc lv (.float x :: st) := fun H ls locs hl hS hW => lv_fstore hX.1 hX.2.1 d hl hn hl' (fun ls hl => kk H ls locs hl hS hW)
theorem z_dstore (hX : zX p l s m args meth c R g own cc n ret lvl mc) {i : Nat} {x : UInt64} (d : decode cc pc = .ok (.dstore i, 2)) (hn : i + 1 < n) (hl' : (i, Value.double x) :: lv.filter (fun q => !(q.1 == i) && (!(q.1 == i + 1) && !(q.1 + 1 == i && q.2.category == 2))) = lv') (kk : zZ p l e R s m args below meth c g n Q κ μ ω k (pc + 2) lv' st) : zZ p l e R s m args below meth c g n Q κ μ ω k pc lv (.double x :: st) := fun H ls locs hl hS hW => lv_dstore hX.1 hX.2.1 d hl hn hl' (fun ls hl => kk H ls locs hl hS hW)
theorem z_tabIn (hX : zX p l s m args meth c R g own cc n ret lvl mc) {dflt lo hi : Int} {offs : Array Int} {len : Nat} {x : Int32} {off : Int} {tgt : Nat} (d : decode cc pc = .ok (.tableswitch dflt lo hi offs, len)) (h1 : ¬ x.toInt < lo) (h2 : ¬ hi < x.toInt) (ho : offs[(x.toInt - lo).toNat]? = some off) (ht : (pc : Int) + off = (tgt : Int)) (kk : zZ p l e R s m args below meth c g n Q κ μ ω k tgt lv st) : zZ p l e R s m args below meth c g n Q κ μ ω k pc lv (.int x :: st) := fun H ls locs hl hS hW => lv_tableIn hX.1 hX.2.1 d h1 h2 ho ht (kk H ls locs hl hS hW)
theorem z_tabOut (hX : zX p l s m args meth c R g own cc n ret lvl mc) {dflt lo hi : Int} {offs : Array Int} {len : Nat} {x : Int32} {tgt : Nat} (d : decode cc pc = .ok (.tableswitch dflt lo hi offs, len)) (h : x.toInt < lo ∨ hi < x.toInt) (ht : (pc : Int) + dflt = (tgt : Int)) (kk : zZ p l e R s m args below meth c g n Q κ μ ω k tgt lv st) : zZ p l e R s m args below meth c g n Q κ μ ω k pc lv (.int x :: st) := fun H ls locs hl hS hW => lv_tableOut hX.1 hX.2.1 d h ht (kk H ls locs hl hS hW)
/-- one cell of a world, said otherwise -/
theorem cell_as {ws : va_W} {q0 a : Nat} {e1 e2 : va_E} {D : va_G} {cl : List vw_C} {H : Heap} (hl : q0 < ws.length) (he : va_at D cl (a, e1) H → va_at D cl (a, e2) H) (h : va_P D cl (ws.set q0 (a, e1)) H) : va_P D cl (ws.set q0 (a, e2)) H := by
  intro j q hj
  by_cases hq : q0 = j
  · subst hq
    rw [List.getElem?_set_self hl] at hj
    cases hj
    exact he (h q0 _ (List.getElem?_set_self hl))
  · rw [List.getElem?_set_ne hq] at hj
    exact h j q (by rw [List.getElem?_set_ne hq]; exact hj)
theorem one_arr {cA : ClassId} {x y : Nat → Value} (h : x 0 = y 0) : arrV cA 1 x = arrV cA 1 y := by
  have e : (fun (j : Fin 1) => x j.val) = fun j => y j.val := funext fun j => by rw [show j.val = 0 by omega, h]
  exact congrArg (fun z => ({ cls := cA, slots := Array.ofFn (n := 1) z, vm := .none } : Cell)) e
theorem zE_w1 {x : Int64} {t f i : Nat} (hv : zV t f i) (h : ¬ (t = 19 ∧ f = 0 ∧ i = 0)) : zE g κ μ (x, ω.2) t f i = zE g κ μ ω t f i := by
  by_cases ht : t = 19
  · exact absurd ⟨ht, zV_f0 hv (by omega), zV_i0 hv (by omega)⟩ h
  · unfold zE
    split <;> first | rfl | exact absurd rfl ht
theorem zE_w2 {x : UInt64} {t f i : Nat} (hv : zV t f i) (h : ¬ (t = 20 ∧ f = 0 ∧ i = 0)) : zE g κ μ (ω.1, x) t f i = zE g κ μ ω t f i := by
  by_cases ht : t = 20
  · exact absurd ⟨ht, zV_f0 hv (by omega), zV_i0 hv (by omega)⟩ h
  · have h20 : t ≤ 20 := by
      have h1 : zIdx.all (fun q => decide (q.1 ≤ 20)) = true := by decide +kernel
      have h2 := List.all_eq_true.mp h1 _ hv
      exact of_decide_eq_true h2
    rcases (show t = 0 ∨ t = 1 ∨ t = 2 ∨ t = 3 ∨ t = 4 ∨ t = 5 ∨ t = 6 ∨ t = 7 ∨ t = 8 ∨ t = 9 ∨ t = 10 ∨ t = 11 ∨ t = 12 ∨ t = 13 ∨ t = 14 ∨ t = 15 ∨ t = 16 ∨ t = 17 ∨ t = 18 ∨ t = 19 by omega) with rfl | rfl | rfl | rfl | rfl | rfl | rfl | rfl | rfl | rfl | rfl | rfl | rfl | rfl | rfl | rfl | rfl | rfl | rfl | rfl
    all_goals rfl
theorem zE19 : zE g κ μ ω 19 0 0 = .inl (gQ g 4, 1, .inr (.inl (fun _ => ω.1))) := rfl
theorem zE20 : zE g κ μ ω 20 0 0 = .inl (gQ g 5, 1, .inr (.inr (.inr (.inl (fun _ => ω.2))))) := rfl
theorem vp_in01 : vp_in 0 1 := vp_in_nI (show 0 < 1 by decide) (by decide)
theorem z_last (hX : zX p l s m args meth c R g own cc n ret lvl mc) {x : Int64} (d : decode cc pc = .ok (.lastore, 1)) (kk : zZ p l e R s m args below meth c g n Q κ μ (x, ω.2) k (pc + 1) lv st) : zZ p l e R s m args below meth c g n Q κ μ ω k pc lv (.long x :: .int 0 :: .ref (gA g 19 0 0) :: st) := fun H ls locs hl hS hW => by
  obtain ⟨q0, h1, h2⟩ := zpos g κ μ ω zV19
  rw [zE19] at h2
  refine va_last (H0 := s.heap) hX.1 hX.2.1 hX.2.2.2.2.2.1 hW.1 hW.2 hS q0 4 h2 rfl vp_in01 d (fun H1 locs1 hP hD hS1 => ?_)
  have hP2 := cell_as (e2 := .inl (gQ g 4, 1, .inr (.inl (fun _ => x)))) (List.getElem?_eq_some_iff.mp h2).1 (fun h => by
    have h3 : H1[gA g 19 0 0]? = some (vp_cell (gQ g 4) (1, .inr (.inl (vp_updL (fun _ => ω.1) 0 x)))) := h
    show H1[gA g 19 0 0]? = some (vp_cell (gQ g 4) (1, .inr (.inl (fun _ => x))))
    rw [h3, vp_cell_l, vp_cell_l]
    exact congrArg some (one_arr rfl)) hP
  have hD2 := va_D.set (e := .inl (gQ g 4, 1, .inr (.inl (fun _ => x)))) hW.2 h2
  rw [zset (κ' := κ) (μ' := μ) (ω' := (x, ω.2)) h1 zE19 (fun t f i hv hn => zE_w1 hv hn)] at hP2 hD2
  exact kk H1 ls locs1 hl hS1 ⟨hP2, hD2⟩
theorem z_dast (hX : zX p l s m args meth c R g own cc n ret lvl mc) {x : UInt64} (d : decode cc pc = .ok (.dastore, 1)) (kk : zZ p l e R s m args below meth c g n Q κ μ (ω.1, x) k (pc + 1) lv st) : zZ p l e R s m args below meth c g n Q κ μ ω k pc lv (.double x :: .int 0 :: .ref (gA g 20 0 0) :: st) := fun H ls locs hl hS hW => by
  obtain ⟨q0, h1, h2⟩ := zpos g κ μ ω zV20
  rw [zE20] at h2
  refine va_dast (H0 := s.heap) hX.1 hX.2.1 hX.2.2.2.2.2.1 hW.1 hW.2 hS q0 5 h2 rfl vp_in01 d (fun H1 locs1 hP hD hS1 => ?_)
  have hP2 := cell_as (e2 := .inl (gQ g 5, 1, .inr (.inr (.inr (.inl (fun _ => x)))))) (List.getElem?_eq_some_iff.mp h2).1 (fun h => by
    have h3 : H1[gA g 20 0 0]? = some (vp_cell (gQ g 5) (1, .inr (.inr (.inr (.inl (vf_upd (fun _ => ω.2) 0 x)))))) := h
    show H1[gA g 20 0 0]? = some (vp_cell (gQ g 5) (1, .inr (.inr (.inr (.inl (fun _ => x))))))
    rw [h3, vp_cell_d, vp_cell_d]
    exact congrArg some (one_arr rfl)) hP
  have hD2 := va_D.set (e := .inl (gQ g 5, 1, .inr (.inr (.inr (.inl (fun _ => x)))))) hW.2 h2
  rw [zset (κ' := κ) (μ' := μ) (ω' := (ω.1, x)) h1 zE20 (fun t f i hv hn => zE_w2 hv hn)] at hP2 hD2
  exact kk H1 ls locs1 hl hS1 ⟨hP2, hD2⟩
theorem z_lald (hX : zX p l s m args meth c R g own cc n ret lvl mc) (d : decode cc pc = .ok (.laload, 1)) (kk : zZ p l e R s m args below meth c g n Q κ μ ω k (pc + 1) lv (.long ω.1 :: st)) : zZ p l e R s m args below meth c g n Q κ μ ω k pc lv (.int 0 :: .ref (gA g 19 0 0) :: st) := fun H ls locs hl hS hW => by
  obtain ⟨q0, -, h2⟩ := zpos g κ μ ω zV19
  rw [zE19] at h2
  exact va_lald hX.1 hX.2.1 hX.2.2.2.2.2.1 hW.1 q0 4 h2 rfl vp_in01 d (kk H ls locs hl hS hW)
theorem z_dald (hX : zX p l s m args meth c R g own cc n ret lvl mc) (d : decode cc pc = .ok (.daload, 1)) (kk : zZ p l e R s m args below meth c g n Q κ μ ω k (pc + 1) lv (.double ω.2 :: st)) : zZ p l e R s m args below meth c g n Q κ μ ω k pc lv (.int 0 :: .ref (gA g 20 0 0) :: st) := fun H ls locs hl hS hW => by
  obtain ⟨q0, -, h2⟩ := zpos g κ μ ω zV20
  rw [zE20] at h2
  exact va_dald hX.1 hX.2.1 hX.2.2.2.2.2.1 hW.1 q0 5 h2 rfl vp_in01 d (kk H ls locs hl hS hW)
theorem tab_app {a b : List (Nat × Nat × Nat × Nat)} : tableOf (a ++ b) = tableOf a ++ tableOf b := List.map_append
/-- caught here -/
theorem z_catch (hX : zX p l s m args meth c R g own cc n ret lvl mc) {E : String} {hh pre suf : List (Nat × Nat × Nat × Nat)} {x : Nat × Nat × Nat × Nat} (hTab : c.exceptionTable.toList = tableOf hh) (hsp : hh = pre ++ x :: suf) (hpass : ∀ z ∈ pre, z.2.2.2 ≠ 0 ∧ ∃ nm : String, Cond.classLink own z.2.2.2 nm ∈ gW ∧ (E, nm) ∈ zNc) (hx : x.1 ≤ pc ∧ pc < x.2.1) (h0 : x.2.2.2 ≠ 0) (hlink : Cond.classLink own x.2.2.2 E ∈ gW) (hcast : Cond.castable E E ∈ tables_1) (kk : ∀ q, zZ p l e R s m args below meth c g n Q κ μ ω k x.2.2.1 lv [.ref q]) : zTh p l e R s m args below meth c g n Q κ μ ω k pc lv st E := fun H ls locs q ce hl hS hW hq hv hc => by
  obtain ⟨hx1, hb, hml, hown, hts, hK, hB, hs, hR, -⟩ := id hX
  refine vx_catch (own := own) (name := E) hown (tableOf pre) ⟨x.1, x.2.1, x.2.2.1, x.2.2.2⟩ (tableOf suf) (by rw [hTab, hsp, tab_app]; rfl) (fun z hz => ?_) (by show (decide (x.1 ≤ pc) && decide (pc < x.2.1)) = true; rw [Bool.and_eq_true]; exact ⟨decide_eq_true hx.1, decide_eq_true hx.2⟩) h0 (hts _ hlink) (gNw_use hB.2.2.2.2.2.1 hcast rfl) hq hv hc (kk q H ls locs hl hS hW)
  obtain ⟨w, hw, rfl⟩ := List.mem_map.mp hz
  obtain ⟨h1, nm, h2, h3⟩ := hpass w hw
  exact Or.inr ⟨h1, nm, hts _ h2, hB.2.2.2.2.2.2.1 _ h3⟩
/-- a helper of the law: it catches, and answers a number -/
def zMW (l : Launch) (g : zG) (y : MethodName) (cc : ByteArray) (n : Nat) (hh : List (Nat × Nat × Nat × Nat)) (lvl mc : Nat) (As : List Value) (κ : zKp) (μ : zMu) (ω : zOm) (κ' : zKp) (μ' : zMu) (ω' : zOm) (v : Int32) : Prop :=
  Met l y (.codeWith y cc n (some .int) hh :: gW) (zR lvl mc) (va_Pc As (zPre g κ μ ω)) (zPost g κ' μ' ω' (some (.int v))) mc (6 * mc) (zA g)
theorem zMW_of {hh : List (Nat × Nat × Nat × Nat)} {y : MethodName} {As : List Value} {v : Int32} (hy : plainName y.cls = true) (hlen : (lg_sl As).length ≤ n) (body : ∀ (p : Program) (e : Env) (R : Room) (s : State) (m : MethodId) (args : Array Value) (below : List Frame) (meth : Method) (c : Code), zX p l s m args meth c R g y.cls cc n (some .int) lvl mc → c.exceptionTable.toList = tableOf hh → zZ p l e R s m args below meth c g n (zQ g κ' μ' ω' (some (.int v)) below args s mc) κ μ ω 0 0 (lv_args 0 As) []) : zMW l g y cc n hh lvl mc As κ μ ω κ' μ' ω' v := by
  unfold zMW
  refine MetFree.of_bodyS (code := cc) (maxLocals := n) (ret := some .int) hy ?_ ?_
  · intro args s m h hn
    obtain ⟨m9, meth, c, hn9, h1, h2, h3, h4, -, h5, h6, -⟩ := Cond.codeWith_spec (atoms_spec (ws := .codeWith y cc n (some .int) hh :: gW) h _ List.mem_cons_self)
    cases hn.symm.trans hn9
    exact ⟨meth, c, h1, h2, h3, h4, h5, h6⟩
  · intro p e s m args below meth c s₁ Bd hml hv _
    obtain ⟨rfl, hW, hK, hB, hs⟩ := hv
    have hts := atoms_spec (ws := .codeWith y cc n (some .int) hh :: gW) Bd.pre
    have hTab := vx_table (x := y) Bd (hts _ List.mem_cons_self)
    have hl := lv_entry As (n := n) hlen
    have K := body p e (zR lvl mc) s m As.toArray below meth c ⟨Bd.exec, Bd.bytes, hml, findClass_of_methodNamed Bd.named, fun w hw => hts w (List.mem_cons_of_mem _ hw), hK, hB, hs, ⟨Nat.le_refl _, Nat.le_refl _, Nat.le_refl _, Nat.le_refl _⟩, Bd.notSynchronized, Bd.returns⟩ hTab s.heap _ [] hl va_S.rf hW
    rw [← lg_entry_eq] at K
    obtain ⟨t, a1, o, b1, b2, b3⟩ := K s₁ (by rw [Bd.state]; rfl) (Stand.of_body Bd)
    exact ⟨t, o, a1, b1, b2, b3⟩
theorem z_callW (hX : zX p l s m args meth c R g own cc n ret lvl mc) {hh : List (Nat × Nat × Nat × Nat)} {idx nY lvlY mcY nA : Nat} {y : MethodName} {cY : ByteArray} {As rest : List Value} {v : Int32} (hM : zMW l g y cY nY hh lvlY mcY As κ μ ω κ' μ' ω' v) (hC : GoodIn gW (va_wsS own idx y (.codeWith y cY nY (some .int) hh :: gW)) ∧ y.cls ≠ "java/lang/invoke/MethodHandle" ∧ y.cls ≠ "java/lang/invoke/VarHandle" ∧ (parseMethodDescriptor y.desc).map (fun d => d.parameters.length) = some nA) (d : decode cc pc = .ok (.invokestatic idx, 3)) (hlv : lvlY < lvl ∧ nY ≤ 81 ∧ k + mcY ≤ mc) (hA : As.length = nA) (hst : st = As.reverse ++ rest) (hcat : (rest.map fun v => v.category).sum ≤ 8) (kk : zZ p l e R s m args below meth c g n Q κ' μ' ω' (k + mcY) (pc + 3) lv (.int v :: rest)) : zZ p l e R s m args below meth c g n Q κ μ ω k pc lv st := fun H ls locs hl hS hW => by
  obtain ⟨hx, hb, hml, hown, hts, hK, hB, hs, hR, -⟩ := id hX
  obtain ⟨hG, h1, h2, h3⟩ := hC
  subst hst
  exact z_back (r := some (.int v)) hl hS (vx_runSW (nL := n) ⟨hx, hb, hml, hown, hts⟩ hM (vx_cwSW nA hts hG rfl rfl rfl ⟨h1, h2, h3⟩ ⟨Nat.le_trans hlv.1 hR.1, Nat.le_trans (zroom hlv.1 hlv.2.1) hR.2.1⟩) ⟨zPre_blind, fun U hU hw => ⟨rfl, hX.pre hS hW hU hw⟩⟩ rfl hA hl.1 rfl (lv_room hcat) d ⟨Nat.le_trans hlv.2.2 hR.2.2.1, by rw [← Nat.mul_add]; exact Nat.le_trans (Nat.mul_le_mul_left 6 hlv.2.2) hR.2.2.2⟩) kk
end ZHP
section ZHQ
theorem ct_IAE : Cond.castable xIAE xIAE ∈ tables_1 := List.mem_of_getElem? (i := 477) (by decide +kernel)
theorem ct_ISE : Cond.castable xISE xISE ∈ tables_1 := List.mem_of_getElem? (i := 549) (by decide +kernel)
theorem ct_UOE : Cond.castable xUOE xUOE ∈ tables_1 := List.mem_of_getElem? (i := 565) (by decide +kernel)
theorem ct_IOE : Cond.castable xIOE xIOE ∈ tables_1 := List.mem_of_getElem? (i := 621) (by decide +kernel)
theorem ct_NSE : Cond.castable xNSE xNSE ∈ tables_1 := List.mem_of_getElem? (i := 686) (by decide +kernel)
theorem ct_ARE : Cond.castable xARE xARE ∈ tables_1 := List.mem_of_getElem? (i := 943) (by decide +kernel)
theorem ck_13 : Cond.classLink RL 13 xIAE ∈ gW := gW_I 375 (by decide +kernel) rfl
theorem ck_15 : Cond.classLink RL 15 xISE ∈ gW := gW_I 376 (by decide +kernel) rfl
theorem ck_17 : Cond.classLink RL 17 xUOE ∈ gW := gW_I 377 (by decide +kernel) rfl
theorem ck_23 : Cond.classLink RL 23 xIOE ∈ gW := gW_I 586 (by decide +kernel) rfl
theorem ck_35 : Cond.classLink RL 35 xNSE ∈ gW := gW_I 674 (by decide +kernel) rfl
theorem ck_120 : Cond.classLink RL 120 xARE ∈ gW := gW_I 931 (by decide +kernel) rfl
abbrev hh_addLine : List (Nat × Nat × Nat × Nat) := [(0, 14, 17, 13), (0, 14, 21, 15), (0, 14, 25, 17)]
theorem wh_addLine : Cond.codeWith yL_addLine cL_addLine 7 (some .int) hh_addLine ∈ gW := gW_I 374 (by decide +kernel) rfl
set_option maxRecDepth 100000 in
theorem hk_addLine (l : Launch) {g : zG} {κ κ' : zKp} {μ : zMu} {ω : zOm} {lvlY : Nat} {p0 p1 p2 p3 : Int32} {v : Int32} (hY : lvlY < 20) (hM : zM l g yX4_addLine cX4_addLine 6 (some .int) lvlY 0 [.ref (gA g 0 0 0), .int p0, .int p1, .int p2, .int p3] κ μ ω κ' μ ω (some (.int v))) : zMW l g yL_addLine cL_addLine 7 hh_addLine 20 1 [.ref (gA g 0 0 0), .int p0, .int p1, .int p2, .int p3, .ref (gA g 19 0 0)] κ μ ω κ' μ (v.toInt64, ω.2) 0 := by
  refine zMW_of (by decide) (Nat.le_of_ble_eq_true rfl) (fun p e R s m args below meth c hX hTab => ?_)
  show zZ p l e R s m args below meth c g 7 _ _ _ _ 0 0 [(0, .ref (gA g 0 0 0)), (1, .int p0), (2, .int p1), (3, .int p2), (4, .int p3), (5, .ref (gA g 19 0 0))] []
  refine z_aload hX dL_addLine_0 5 rfl ?_
  refine z_iconst (v := 0) hX dL_addLine_2 (by decide) ?_
  refine z_aload_n hX dL_addLine_3 0 rfl ?_
  refine z_iload_n hX dL_addLine_4 1 rfl ?_
  refine z_iload_n hX dL_addLine_5 2 rfl ?_
  refine z_iload_n hX dL_addLine_6 3 rfl ?_
  refine z_iload hX dL_addLine_7 4 rfl ?_
  refine z_callV1 hX hM cv_RL_7 zRc0 dL_addLine_9 ⟨hY, by decide, by decide⟩ rfl rfl (Nat.le_of_ble_eq_true rfl) ?_
  refine z_i2l hX dL_addLine_12 ?_
  refine z_last hX dL_addLine_13 ?_
  refine z_goto (tgt := 29) hX dL_addLine_14 (by decide) ?_
  refine z_iconst (v := 0) hX dL_addLine_29 (by decide) ?_
  exact z_iretI hX dL_addLine_30 (by decide) rfl (fun _ h => h)
set_option maxRecDepth 100000 in
theorem he_addLine_IAE (l : Launch) {g : zG} {κ κ' : zKp} {μ : zMu} {ω : zOm} {lvlY : Nat} {p0 p1 p2 p3 : Int32} (hY : lvlY < 20) (hM : zMx l g yX4_addLine cX4_addLine 6 (some .int) lvlY 1 [.ref (gA g 0 0 0), .int p0, .int p1, .int p2, .int p3] κ μ ω κ' μ ω (.error xIAE)) : zMW l g yL_addLine cL_addLine 7 hh_addLine 20 1 [.ref (gA g 0 0 0), .int p0, .int p1, .int p2, .int p3, .ref (gA g 19 0 0)] κ μ ω κ' μ ω 1 := by
  refine zMW_of (by decide) (Nat.le_of_ble_eq_true rfl) (fun p e R s m args below meth c hX hTab => ?_)
  show zZ p l e R s m args below meth c g 7 _ _ _ _ 0 0 [(0, .ref (gA g 0 0 0)), (1, .int p0), (2, .int p1), (3, .int p2), (4, .int p3), (5, .ref (gA g 19 0 0))] []
  refine z_aload hX dL_addLine_0 5 rfl ?_
  refine z_iconst (v := 0) hX dL_addLine_2 (by decide) ?_
  refine z_aload_n hX dL_addLine_3 0 rfl ?_
  refine z_iload_n hX dL_addLine_4 1 rfl ?_
  refine z_iload_n hX dL_addLine_5 2 rfl ?_
  refine z_iload_n hX dL_addLine_6 3 rfl ?_
  refine z_iload hX dL_addLine_7 4 rfl ?_
  refine zx_callV hX hM cv_RL_7 zRc0 dL_addLine_9 ⟨hY, by decide, by decide⟩ rfl rfl (Nat.le_of_ble_eq_true rfl) (fun r h => by cases h) (fun E h => ?_)
  cases h
  refine z_catch (pre := []) (x := (0, 14, 17, 13)) hX hTab rfl (fun z hz => by cases hz) (by decide) (by decide) ck_13 ct_IAE (fun q => ?_)
  refine z_astore (lv' := _) hX dL_addLine_17 (by decide) rfl ?_
  refine z_iconst (v := 1) hX dL_addLine_19 (by decide) ?_
  exact z_iretI hX dL_addLine_20 (by decide) rfl (fun _ h => h)
set_option maxRecDepth 100000 in
theorem he_addLine_ISE (l : Launch) {g : zG} {κ κ' : zKp} {μ : zMu} {ω : zOm} {lvlY : Nat} {p0 p1 p2 p3 : Int32} (hY : lvlY < 20) (hM : zMx l g yX4_addLine cX4_addLine 6 (some .int) lvlY 1 [.ref (gA g 0 0 0), .int p0, .int p1, .int p2, .int p3] κ μ ω κ' μ ω (.error xISE)) : zMW l g yL_addLine cL_addLine 7 hh_addLine 20 1 [.ref (gA g 0 0 0), .int p0, .int p1, .int p2, .int p3, .ref (gA g 19 0 0)] κ μ ω κ' μ ω 2 := by
  refine zMW_of (by decide) (Nat.le_of_ble_eq_true rfl) (fun p e R s m args below meth c hX hTab => ?_)
  show zZ p l e R s m args below meth c g 7 _ _ _ _ 0 0 [(0, .ref (gA g 0 0 0)), (1, .int p0), (2, .int p1), (3, .int p2), (4, .int p3), (5, .ref (gA g 19 0 0))] []
  refine z_aload hX dL_addLine_0 5 rfl ?_
  refine z_iconst (v := 0) hX dL_addLine_2 (by decide) ?_
  refine z_aload_n hX dL_addLine_3 0 rfl ?_
  refine z_iload_n hX dL_addLine_4 1 rfl ?_
  refine z_iload_n hX dL_addLine_5 2 rfl ?_
  refine z_iload_n hX dL_addLine_6 3 rfl ?_
  refine z_iload hX dL_addLine_7 4 rfl ?_
  refine zx_callV hX hM cv_RL_7 zRc0 dL_addLine_9 ⟨hY, by decide, by decide⟩ rfl rfl (Nat.le_of_ble_eq_true rfl) (fun r h => by cases h) (fun E h => ?_)
  cases h
  refine z_catch (pre := [(0, 14, 17, 13)]) (x := (0, 14, 21, 15)) hX hTab rfl (fun z hz => by
    simp only [List.mem_cons, List.not_mem_nil, or_false] at hz
    rcases hz with rfl
    · exact ⟨by decide, _, ck_13, by decide +kernel⟩) (by decide) (by decide) ck_15 ct_ISE (fun q => ?_)
  refine z_astore (lv' := _) hX dL_addLine_21 (by decide) rfl ?_
  refine z_iconst (v := 2) hX dL_addLine_23 (by decide) ?_
  exact z_iretI hX dL_addLine_24 (by decide) rfl (fun _ h => h)
set_option maxRecDepth 100000 in
theorem he_addLine_UOE (l : Launch) {g : zG} {κ κ' : zKp} {μ : zMu} {ω : zOm} {lvlY : Nat} {p0 p1 p2 p3 : Int32} (hY : lvlY < 20) (hM : zMx l g yX4_addLine cX4_addLine 6 (some .int) lvlY 1 [.ref (gA g 0 0 0), .int p0, .int p1, .int p2, .int p3] κ μ ω κ' μ ω (.error xUOE)) : zMW l g yL_addLine cL_addLine 7 hh_addLine 20 1 [.ref (gA g 0 0 0), .int p0, .int p1, .int p2, .int p3, .ref (gA g 19 0 0)] κ μ ω κ' μ ω 3 := by
  refine zMW_of (by decide) (Nat.le_of_ble_eq_true rfl) (fun p e R s m args below meth c hX hTab => ?_)
  show zZ p l e R s m args below meth c g 7 _ _ _ _ 0 0 [(0, .ref (gA g 0 0 0)), (1, .int p0), (2, .int p1), (3, .int p2), (4, .int p3), (5, .ref (gA g 19 0 0))] []
  refine z_aload hX dL_addLine_0 5 rfl ?_
  refine z_iconst (v := 0) hX dL_addLine_2 (by decide) ?_
  refine z_aload_n hX dL_addLine_3 0 rfl ?_
  refine z_iload_n hX dL_addLine_4 1 rfl ?_
  refine z_iload_n hX dL_addLine_5 2 rfl ?_
  refine z_iload_n hX dL_addLine_6 3 rfl ?_
  refine z_iload hX dL_addLine_7 4 rfl ?_
  refine zx_callV hX hM cv_RL_7 zRc0 dL_addLine_9 ⟨hY, by decide, by decide⟩ rfl rfl (Nat.le_of_ble_eq_true rfl) (fun r h => by cases h) (fun E h => ?_)
  cases h
  refine z_catch (pre := [(0, 14, 17, 13), (0, 14, 21, 15)]) (x := (0, 14, 25, 17)) hX hTab rfl (fun z hz => by
    simp only [List.mem_cons, List.not_mem_nil, or_false] at hz
    rcases hz with rfl | rfl
    · exact ⟨by decide, _, ck_13, by decide +kernel⟩
    · exact ⟨by decide, _, ck_15, by decide +kernel⟩) (by decide) (by decide) ck_17 ct_UOE (fun q => ?_)
  refine z_astore (lv' := _) hX dL_addLine_25 (by decide) rfl ?_
  refine z_iconst (v := 3) hX dL_addLine_27 (by decide) ?_
  exact z_iretI hX dL_addLine_28 (by decide) rfl (fun _ h => h)
abbrev hh_setOrder : List (Nat × Nat × Nat × Nat) := [(0, 10, 13, 23), (0, 10, 17, 13), (0, 10, 21, 15)]
theorem wh_setOrder : Cond.codeWith yL_setOrder cL_setOrder 5 (some .int) hh_setOrder ∈ gW := gW_I 585 (by decide +kernel) rfl
set_option maxRecDepth 100000 in
theorem hk_setOrder (l : Launch) {g : zG} {κ κ' : zKp} {μ : zMu} {ω : zOm} {lvlY : Nat} {p0 p1 : Int32} {v : Int32} (hY : lvlY < 20) (hM : zM l g yX4_setOrder cX4_setOrder 4 (some .char) lvlY 0 [.ref (gA g 0 0 0), .int p0, .int p1] κ μ ω κ' μ ω (some (.int v))) : zMW l g yL_setOrder cL_setOrder 5 hh_setOrder 20 1 [.ref (gA g 0 0 0), .int p0, .int p1, .ref (gA g 19 0 0)] κ μ ω κ' μ (v.toInt64, ω.2) 0 := by
  refine zMW_of (by decide) (Nat.le_of_ble_eq_true rfl) (fun p e R s m args below meth c hX hTab => ?_)
  show zZ p l e R s m args below meth c g 5 _ _ _ _ 0 0 [(0, .ref (gA g 0 0 0)), (1, .int p0), (2, .int p1), (3, .ref (gA g 19 0 0))] []
  refine z_aload_n hX dL_setOrder_0 3 rfl ?_
  refine z_iconst (v := 0) hX dL_setOrder_1 (by decide) ?_
  refine z_aload_n hX dL_setOrder_2 0 rfl ?_
  refine z_iload_n hX dL_setOrder_3 1 rfl ?_
  refine z_iload_n hX dL_setOrder_4 2 rfl ?_
  refine z_callV1 hX hM cv_RL_19 zRc0 dL_setOrder_5 ⟨hY, by decide, by decide⟩ rfl rfl (Nat.le_of_ble_eq_true rfl) ?_
  refine z_i2l hX dL_setOrder_8 ?_
  refine z_last hX dL_setOrder_9 ?_
  refine z_goto (tgt := 25) hX dL_setOrder_10 (by decide) ?_
  refine z_iconst (v := 0) hX dL_setOrder_25 (by decide) ?_
  exact z_iretI hX dL_setOrder_26 (by decide) rfl (fun _ h => h)
set_option maxRecDepth 100000 in
theorem he_setOrder_IOE (l : Launch) {g : zG} {κ κ' : zKp} {μ : zMu} {ω : zOm} {lvlY : Nat} {p0 p1 : Int32} (hY : lvlY < 20) (hM : zMx l g yX4_setOrder cX4_setOrder 4 (some .char) lvlY 1 [.ref (gA g 0 0 0), .int p0, .int p1] κ μ ω κ' μ ω (.error xIOE)) : zMW l g yL_setOrder cL_setOrder 5 hh_setOrder 20 1 [.ref (gA g 0 0 0), .int p0, .int p1, .ref (gA g 19 0 0)] κ μ ω κ' μ ω 1 := by
  refine zMW_of (by decide) (Nat.le_of_ble_eq_true rfl) (fun p e R s m args below meth c hX hTab => ?_)
  show zZ p l e R s m args below meth c g 5 _ _ _ _ 0 0 [(0, .ref (gA g 0 0 0)), (1, .int p0), (2, .int p1), (3, .ref (gA g 19 0 0))] []
  refine z_aload_n hX dL_setOrder_0 3 rfl ?_
  refine z_iconst (v := 0) hX dL_setOrder_1 (by decide) ?_
  refine z_aload_n hX dL_setOrder_2 0 rfl ?_
  refine z_iload_n hX dL_setOrder_3 1 rfl ?_
  refine z_iload_n hX dL_setOrder_4 2 rfl ?_
  refine zx_callV hX hM cv_RL_19 zRc0 dL_setOrder_5 ⟨hY, by decide, by decide⟩ rfl rfl (Nat.le_of_ble_eq_true rfl) (fun r h => by cases h) (fun E h => ?_)
  cases h
  refine z_catch (pre := []) (x := (0, 10, 13, 23)) hX hTab rfl (fun z hz => by cases hz) (by decide) (by decide) ck_23 ct_IOE (fun q => ?_)
  refine z_astore (lv' := _) hX dL_setOrder_13 (by decide) rfl ?_
  refine z_iconst (v := 1) hX dL_setOrder_15 (by decide) ?_
  exact z_iretI hX dL_setOrder_16 (by decide) rfl (fun _ h => h)
set_option maxRecDepth 100000 in
theorem he_setOrder_IAE (l : Launch) {g : zG} {κ κ' : zKp} {μ : zMu} {ω : zOm} {lvlY : Nat} {p0 p1 : Int32} (hY : lvlY < 20) (hM : zMx l g yX4_setOrder cX4_setOrder 4 (some .char) lvlY 1 [.ref (gA g 0 0 0), .int p0, .int p1] κ μ ω κ' μ ω (.error xIAE)) : zMW l g yL_setOrder cL_setOrder 5 hh_setOrder 20 1 [.ref (gA g 0 0 0), .int p0, .int p1, .ref (gA g 19 0 0)] κ μ ω κ' μ ω 2 := by
  refine zMW_of (by decide) (Nat.le_of_ble_eq_true rfl) (fun p e R s m args below meth c hX hTab => ?_)
  show zZ p l e R s m args below meth c g 5 _ _ _ _ 0 0 [(0, .ref (gA g 0 0 0)), (1, .int p0), (2, .int p1), (3, .ref (gA g 19 0 0))] []
  refine z_aload_n hX dL_setOrder_0 3 rfl ?_
  refine z_iconst (v := 0) hX dL_setOrder_1 (by decide) ?_
  refine z_aload_n hX dL_setOrder_2 0 rfl ?_
  refine z_iload_n hX dL_setOrder_3 1 rfl ?_
  refine z_iload_n hX dL_setOrder_4 2 rfl ?_
  refine zx_callV hX hM cv_RL_19 zRc0 dL_setOrder_5 ⟨hY, by decide, by decide⟩ rfl rfl (Nat.le_of_ble_eq_true rfl) (fun r h => by cases h) (fun E h => ?_)
  cases h
  refine z_catch (pre := [(0, 10, 13, 23)]) (x := (0, 10, 17, 13)) hX hTab rfl (fun z hz => by
    simp only [List.mem_cons, List.not_mem_nil, or_false] at hz
    rcases hz with rfl
    · exact ⟨by decide, _, ck_23, by decide +kernel⟩) (by decide) (by decide) ck_13 ct_IAE (fun q => ?_)
  refine z_astore (lv' := _) hX dL_setOrder_17 (by decide) rfl ?_
  refine z_iconst (v := 2) hX dL_setOrder_19 (by decide) ?_
  exact z_iretI hX dL_setOrder_20 (by decide) rfl (fun _ h => h)
set_option maxRecDepth 100000 in
theorem he_setOrder_ISE (l : Launch) {g : zG} {κ κ' : zKp} {μ : zMu} {ω : zOm} {lvlY : Nat} {p0 p1 : Int32} (hY : lvlY < 20) (hM : zMx l g yX4_setOrder cX4_setOrder 4 (some .char) lvlY 1 [.ref (gA g 0 0 0), .int p0, .int p1] κ μ ω κ' μ ω (.error xISE)) : zMW l g yL_setOrder cL_setOrder 5 hh_setOrder 20 1 [.ref (gA g 0 0 0), .int p0, .int p1, .ref (gA g 19 0 0)] κ μ ω κ' μ ω 3 := by
  refine zMW_of (by decide) (Nat.le_of_ble_eq_true rfl) (fun p e R s m args below meth c hX hTab => ?_)
  show zZ p l e R s m args below meth c g 5 _ _ _ _ 0 0 [(0, .ref (gA g 0 0 0)), (1, .int p0), (2, .int p1), (3, .ref (gA g 19 0 0))] []
  refine z_aload_n hX dL_setOrder_0 3 rfl ?_
  refine z_iconst (v := 0) hX dL_setOrder_1 (by decide) ?_
  refine z_aload_n hX dL_setOrder_2 0 rfl ?_
  refine z_iload_n hX dL_setOrder_3 1 rfl ?_
  refine z_iload_n hX dL_setOrder_4 2 rfl ?_
  refine zx_callV hX hM cv_RL_19 zRc0 dL_setOrder_5 ⟨hY, by decide, by decide⟩ rfl rfl (Nat.le_of_ble_eq_true rfl) (fun r h => by cases h) (fun E h => ?_)
  cases h
  refine z_catch (pre := [(0, 10, 13, 23), (0, 10, 17, 13)]) (x := (0, 10, 21, 15)) hX hTab rfl (fun z hz => by
    simp only [List.mem_cons, List.not_mem_nil, or_false] at hz
    rcases hz with rfl | rfl
    · exact ⟨by decide, _, ck_23, by decide +kernel⟩
    · exact ⟨by decide, _, ck_13, by decide +kernel⟩) (by decide) (by decide) ck_15 ct_ISE (fun q => ?_)
  refine z_astore (lv' := _) hX dL_setOrder_21 (by decide) rfl ?_
  refine z_iconst (v := 3) hX dL_setOrder_23 (by decide) ?_
  exact z_iretI hX dL_setOrder_24 (by decide) rfl (fun _ h => h)
abbrev hh_rally : List (Nat × Nat × Nat × Nat) := [(0, 9, 12, 23), (0, 9, 15, 15), (0, 9, 18, 17)]
theorem wh_rally : Cond.codeWith yL_rally cL_rally 4 (some .int) hh_rally ∈ gW := gW_I 640 (by decide +kernel) rfl
set_option maxRecDepth 100000 in
theorem hk_rally (l : Launch) {g : zG} {κ κ' : zKp} {μ : zMu} {ω : zOm} {lvlY : Nat} {p0 : Int32} {v : Int32} (hY : lvlY < 20) (hM : zM l g yX4_rally cX4_rally 3 (some .int) lvlY 0 [.ref (gA g 0 0 0), .int p0] κ μ ω κ' μ ω (some (.int v))) : zMW l g yL_rally cL_rally 4 hh_rally 20 1 [.ref (gA g 0 0 0), .int p0, .ref (gA g 19 0 0)] κ μ ω κ' μ (v.toInt64, ω.2) 0 := by
  refine zMW_of (by decide) (Nat.le_of_ble_eq_true rfl) (fun p e R s m args below meth c hX hTab => ?_)
  show zZ p l e R s m args below meth c g 4 _ _ _ _ 0 0 [(0, .ref (gA g 0 0 0)), (1, .int p0), (2, .ref (gA g 19 0 0))] []
  refine z_aload_n hX dL_rally_0 2 rfl ?_
  refine z_iconst (v := 0) hX dL_rally_1 (by decide) ?_
  refine z_aload_n hX dL_rally_2 0 rfl ?_
  refine z_iload_n hX dL_rally_3 1 rfl ?_
  refine z_callV1 hX hM cv_RL_25 zRc0 dL_rally_4 ⟨hY, by decide, by decide⟩ rfl rfl (Nat.le_of_ble_eq_true rfl) ?_
  refine z_i2l hX dL_rally_7 ?_
  refine z_last hX dL_rally_8 ?_
  refine z_goto (tgt := 21) hX dL_rally_9 (by decide) ?_
  refine z_iconst (v := 0) hX dL_rally_21 (by decide) ?_
  exact z_iretI hX dL_rally_22 (by decide) rfl (fun _ h => h)
set_option maxRecDepth 100000 in
theorem he_rally_IOE (l : Launch) {g : zG} {κ κ' : zKp} {μ : zMu} {ω : zOm} {lvlY : Nat} {p0 : Int32} (hY : lvlY < 20) (hM : zMx l g yX4_rally cX4_rally 3 (some .int) lvlY 1 [.ref (gA g 0 0 0), .int p0] κ μ ω κ' μ ω (.error xIOE)) : zMW l g yL_rally cL_rally 4 hh_rally 20 1 [.ref (gA g 0 0 0), .int p0, .ref (gA g 19 0 0)] κ μ ω κ' μ ω 1 := by
  refine zMW_of (by decide) (Nat.le_of_ble_eq_true rfl) (fun p e R s m args below meth c hX hTab => ?_)
  show zZ p l e R s m args below meth c g 4 _ _ _ _ 0 0 [(0, .ref (gA g 0 0 0)), (1, .int p0), (2, .ref (gA g 19 0 0))] []
  refine z_aload_n hX dL_rally_0 2 rfl ?_
  refine z_iconst (v := 0) hX dL_rally_1 (by decide) ?_
  refine z_aload_n hX dL_rally_2 0 rfl ?_
  refine z_iload_n hX dL_rally_3 1 rfl ?_
  refine zx_callV hX hM cv_RL_25 zRc0 dL_rally_4 ⟨hY, by decide, by decide⟩ rfl rfl (Nat.le_of_ble_eq_true rfl) (fun r h => by cases h) (fun E h => ?_)
  cases h
  refine z_catch (pre := []) (x := (0, 9, 12, 23)) hX hTab rfl (fun z hz => by cases hz) (by decide) (by decide) ck_23 ct_IOE (fun q => ?_)
  refine z_astore_n (lv' := _) hX dL_rally_12 (by decide) rfl ?_
  refine z_iconst (v := 1) hX dL_rally_13 (by decide) ?_
  exact z_iretI hX dL_rally_14 (by decide) rfl (fun _ h => h)
set_option maxRecDepth 100000 in
theorem he_rally_ISE (l : Launch) {g : zG} {κ κ' : zKp} {μ : zMu} {ω : zOm} {lvlY : Nat} {p0 : Int32} (hY : lvlY < 20) (hM : zMx l g yX4_rally cX4_rally 3 (some .int) lvlY 1 [.ref (gA g 0 0 0), .int p0] κ μ ω κ' μ ω (.error xISE)) : zMW l g yL_rally cL_rally 4 hh_rally 20 1 [.ref (gA g 0 0 0), .int p0, .ref (gA g 19 0 0)] κ μ ω κ' μ ω 2 := by
  refine zMW_of (by decide) (Nat.le_of_ble_eq_true rfl) (fun p e R s m args below meth c hX hTab => ?_)
  show zZ p l e R s m args below meth c g 4 _ _ _ _ 0 0 [(0, .ref (gA g 0 0 0)), (1, .int p0), (2, .ref (gA g 19 0 0))] []
  refine z_aload_n hX dL_rally_0 2 rfl ?_
  refine z_iconst (v := 0) hX dL_rally_1 (by decide) ?_
  refine z_aload_n hX dL_rally_2 0 rfl ?_
  refine z_iload_n hX dL_rally_3 1 rfl ?_
  refine zx_callV hX hM cv_RL_25 zRc0 dL_rally_4 ⟨hY, by decide, by decide⟩ rfl rfl (Nat.le_of_ble_eq_true rfl) (fun r h => by cases h) (fun E h => ?_)
  cases h
  refine z_catch (pre := [(0, 9, 12, 23)]) (x := (0, 9, 15, 15)) hX hTab rfl (fun z hz => by
    simp only [List.mem_cons, List.not_mem_nil, or_false] at hz
    rcases hz with rfl
    · exact ⟨by decide, _, ck_23, by decide +kernel⟩) (by decide) (by decide) ck_15 ct_ISE (fun q => ?_)
  refine z_astore_n (lv' := _) hX dL_rally_15 (by decide) rfl ?_
  refine z_iconst (v := 2) hX dL_rally_16 (by decide) ?_
  exact z_iretI hX dL_rally_17 (by decide) rfl (fun _ h => h)
set_option maxRecDepth 100000 in
theorem he_rally_UOE (l : Launch) {g : zG} {κ κ' : zKp} {μ : zMu} {ω : zOm} {lvlY : Nat} {p0 : Int32} (hY : lvlY < 20) (hM : zMx l g yX4_rally cX4_rally 3 (some .int) lvlY 1 [.ref (gA g 0 0 0), .int p0] κ μ ω κ' μ ω (.error xUOE)) : zMW l g yL_rally cL_rally 4 hh_rally 20 1 [.ref (gA g 0 0 0), .int p0, .ref (gA g 19 0 0)] κ μ ω κ' μ ω 3 := by
  refine zMW_of (by decide) (Nat.le_of_ble_eq_true rfl) (fun p e R s m args below meth c hX hTab => ?_)
  show zZ p l e R s m args below meth c g 4 _ _ _ _ 0 0 [(0, .ref (gA g 0 0 0)), (1, .int p0), (2, .ref (gA g 19 0 0))] []
  refine z_aload_n hX dL_rally_0 2 rfl ?_
  refine z_iconst (v := 0) hX dL_rally_1 (by decide) ?_
  refine z_aload_n hX dL_rally_2 0 rfl ?_
  refine z_iload_n hX dL_rally_3 1 rfl ?_
  refine zx_callV hX hM cv_RL_25 zRc0 dL_rally_4 ⟨hY, by decide, by decide⟩ rfl rfl (Nat.le_of_ble_eq_true rfl) (fun r h => by cases h) (fun E h => ?_)
  cases h
  refine z_catch (pre := [(0, 9, 12, 23), (0, 9, 15, 15)]) (x := (0, 9, 18, 17)) hX hTab rfl (fun z hz => by
    simp only [List.mem_cons, List.not_mem_nil, or_false] at hz
    rcases hz with rfl | rfl
    · exact ⟨by decide, _, ck_23, by decide +kernel⟩
    · exact ⟨by decide, _, ck_15, by decide +kernel⟩) (by decide) (by decide) ck_17 ct_UOE (fun q => ?_)
  refine z_astore_n (lv' := _) hX dL_rally_18 (by decide) rfl ?_
  refine z_iconst (v := 3) hX dL_rally_19 (by decide) ?_
  exact z_iretI hX dL_rally_20 (by decide) rfl (fun _ h => h)
abbrev hh_sideOf : List (Nat × Nat × Nat × Nat) := [(0, 9, 12, 23)]
theorem wh_sideOf : Cond.codeWith yL_sideOf cL_sideOf 4 (some .int) hh_sideOf ∈ gW := gW_I 661 (by decide +kernel) rfl
set_option maxRecDepth 100000 in
theorem hk_sideOf (l : Launch) {g : zG} {κ κ' : zKp} {μ : zMu} {ω : zOm} {lvlY : Nat} {p0 : Int32} {v : Int32} (hY : lvlY < 20) (hM : zM l g yX4_sideOf cX4_sideOf 2 (some .int) lvlY 0 [.ref (gA g 0 0 0), .int p0] κ μ ω κ' μ ω (some (.int v))) : zMW l g yL_sideOf cL_sideOf 4 hh_sideOf 20 1 [.ref (gA g 0 0 0), .int p0, .ref (gA g 19 0 0)] κ μ ω κ' μ (v.toInt64, ω.2) 0 := by
  refine zMW_of (by decide) (Nat.le_of_ble_eq_true rfl) (fun p e R s m args below meth c hX hTab => ?_)
  show zZ p l e R s m args below meth c g 4 _ _ _ _ 0 0 [(0, .ref (gA g 0 0 0)), (1, .int p0), (2, .ref (gA g 19 0 0))] []
  refine z_aload_n hX dL_sideOf_0 2 rfl ?_
  refine z_iconst (v := 0) hX dL_sideOf_1 (by decide) ?_
  refine z_aload_n hX dL_sideOf_2 0 rfl ?_
  refine z_iload_n hX dL_sideOf_3 1 rfl ?_
  refine z_callV1 hX hM cv_RL_29 zRc0 dL_sideOf_4 ⟨hY, by decide, by decide⟩ rfl rfl (Nat.le_of_ble_eq_true rfl) ?_
  refine z_i2l hX dL_sideOf_7 ?_
  refine z_last hX dL_sideOf_8 ?_
  refine z_goto (tgt := 15) hX dL_sideOf_9 (by decide) ?_
  refine z_iconst (v := 0) hX dL_sideOf_15 (by decide) ?_
  exact z_iretI hX dL_sideOf_16 (by decide) rfl (fun _ h => h)
set_option maxRecDepth 100000 in
theorem he_sideOf_IOE (l : Launch) {g : zG} {κ κ' : zKp} {μ : zMu} {ω : zOm} {lvlY : Nat} {p0 : Int32} (hY : lvlY < 20) (hM : zMx l g yX4_sideOf cX4_sideOf 2 (some .int) lvlY 1 [.ref (gA g 0 0 0), .int p0] κ μ ω κ' μ ω (.error xIOE)) : zMW l g yL_sideOf cL_sideOf 4 hh_sideOf 20 1 [.ref (gA g 0 0 0), .int p0, .ref (gA g 19 0 0)] κ μ ω κ' μ ω 1 := by
  refine zMW_of (by decide) (Nat.le_of_ble_eq_true rfl) (fun p e R s m args below meth c hX hTab => ?_)
  show zZ p l e R s m args below meth c g 4 _ _ _ _ 0 0 [(0, .ref (gA g 0 0 0)), (1, .int p0), (2, .ref (gA g 19 0 0))] []
  refine z_aload_n hX dL_sideOf_0 2 rfl ?_
  refine z_iconst (v := 0) hX dL_sideOf_1 (by decide) ?_
  refine z_aload_n hX dL_sideOf_2 0 rfl ?_
  refine z_iload_n hX dL_sideOf_3 1 rfl ?_
  refine zx_callV hX hM cv_RL_29 zRc0 dL_sideOf_4 ⟨hY, by decide, by decide⟩ rfl rfl (Nat.le_of_ble_eq_true rfl) (fun r h => by cases h) (fun E h => ?_)
  cases h
  refine z_catch (pre := []) (x := (0, 9, 12, 23)) hX hTab rfl (fun z hz => by cases hz) (by decide) (by decide) ck_23 ct_IOE (fun q => ?_)
  refine z_astore_n (lv' := _) hX dL_sideOf_12 (by decide) rfl ?_
  refine z_iconst (v := 1) hX dL_sideOf_13 (by decide) ?_
  exact z_iretI hX dL_sideOf_14 (by decide) rfl (fun _ h => h)
abbrev hh_laneOf : List (Nat × Nat × Nat × Nat) := [(0, 9, 12, 23), (0, 9, 15, 35)]
theorem wh_laneOf : Cond.codeWith yL_laneOf cL_laneOf 4 (some .int) hh_laneOf ∈ gW := gW_I 673 (by decide +kernel) rfl
set_option maxRecDepth 100000 in
theorem hk_laneOf (l : Launch) {g : zG} {κ κ' : zKp} {μ : zMu} {ω : zOm} {lvlY : Nat} {p0 : Int32} {v : Int32} (hY : lvlY < 20) (hM : zM l g yX4_laneOf cX4_laneOf 2 (some .int) lvlY 0 [.ref (gA g 0 0 0), .int p0] κ μ ω κ' μ ω (some (.int v))) : zMW l g yL_laneOf cL_laneOf 4 hh_laneOf 20 1 [.ref (gA g 0 0 0), .int p0, .ref (gA g 19 0 0)] κ μ ω κ' μ (v.toInt64, ω.2) 0 := by
  refine zMW_of (by decide) (Nat.le_of_ble_eq_true rfl) (fun p e R s m args below meth c hX hTab => ?_)
  show zZ p l e R s m args below meth c g 4 _ _ _ _ 0 0 [(0, .ref (gA g 0 0 0)), (1, .int p0), (2, .ref (gA g 19 0 0))] []
  refine z_aload_n hX dL_laneOf_0 2 rfl ?_
  refine z_iconst (v := 0) hX dL_laneOf_1 (by decide) ?_
  refine z_aload_n hX dL_laneOf_2 0 rfl ?_
  refine z_iload_n hX dL_laneOf_3 1 rfl ?_
  refine z_callV1 hX hM cv_RL_32 zRc0 dL_laneOf_4 ⟨hY, by decide, by decide⟩ rfl rfl (Nat.le_of_ble_eq_true rfl) ?_
  refine z_i2l hX dL_laneOf_7 ?_
  refine z_last hX dL_laneOf_8 ?_
  refine z_goto (tgt := 18) hX dL_laneOf_9 (by decide) ?_
  refine z_iconst (v := 0) hX dL_laneOf_18 (by decide) ?_
  exact z_iretI hX dL_laneOf_19 (by decide) rfl (fun _ h => h)
set_option maxRecDepth 100000 in
theorem he_laneOf_IOE (l : Launch) {g : zG} {κ κ' : zKp} {μ : zMu} {ω : zOm} {lvlY : Nat} {p0 : Int32} (hY : lvlY < 20) (hM : zMx l g yX4_laneOf cX4_laneOf 2 (some .int) lvlY 1 [.ref (gA g 0 0 0), .int p0] κ μ ω κ' μ ω (.error xIOE)) : zMW l g yL_laneOf cL_laneOf 4 hh_laneOf 20 1 [.ref (gA g 0 0 0), .int p0, .ref (gA g 19 0 0)] κ μ ω κ' μ ω 1 := by
  refine zMW_of (by decide) (Nat.le_of_ble_eq_true rfl) (fun p e R s m args below meth c hX hTab => ?_)
  show zZ p l e R s m args below meth c g 4 _ _ _ _ 0 0 [(0, .ref (gA g 0 0 0)), (1, .int p0), (2, .ref (gA g 19 0 0))] []
  refine z_aload_n hX dL_laneOf_0 2 rfl ?_
  refine z_iconst (v := 0) hX dL_laneOf_1 (by decide) ?_
  refine z_aload_n hX dL_laneOf_2 0 rfl ?_
  refine z_iload_n hX dL_laneOf_3 1 rfl ?_
  refine zx_callV hX hM cv_RL_32 zRc0 dL_laneOf_4 ⟨hY, by decide, by decide⟩ rfl rfl (Nat.le_of_ble_eq_true rfl) (fun r h => by cases h) (fun E h => ?_)
  cases h
  refine z_catch (pre := []) (x := (0, 9, 12, 23)) hX hTab rfl (fun z hz => by cases hz) (by decide) (by decide) ck_23 ct_IOE (fun q => ?_)
  refine z_astore_n (lv' := _) hX dL_laneOf_12 (by decide) rfl ?_
  refine z_iconst (v := 1) hX dL_laneOf_13 (by decide) ?_
  exact z_iretI hX dL_laneOf_14 (by decide) rfl (fun _ h => h)
set_option maxRecDepth 100000 in
theorem he_laneOf_NSE (l : Launch) {g : zG} {κ κ' : zKp} {μ : zMu} {ω : zOm} {lvlY : Nat} {p0 : Int32} (hY : lvlY < 20) (hM : zMx l g yX4_laneOf cX4_laneOf 2 (some .int) lvlY 1 [.ref (gA g 0 0 0), .int p0] κ μ ω κ' μ ω (.error xNSE)) : zMW l g yL_laneOf cL_laneOf 4 hh_laneOf 20 1 [.ref (gA g 0 0 0), .int p0, .ref (gA g 19 0 0)] κ μ ω κ' μ ω 2 := by
  refine zMW_of (by decide) (Nat.le_of_ble_eq_true rfl) (fun p e R s m args below meth c hX hTab => ?_)
  show zZ p l e R s m args below meth c g 4 _ _ _ _ 0 0 [(0, .ref (gA g 0 0 0)), (1, .int p0), (2, .ref (gA g 19 0 0))] []
  refine z_aload_n hX dL_laneOf_0 2 rfl ?_
  refine z_iconst (v := 0) hX dL_laneOf_1 (by decide) ?_
  refine z_aload_n hX dL_laneOf_2 0 rfl ?_
  refine z_iload_n hX dL_laneOf_3 1 rfl ?_
  refine zx_callV hX hM cv_RL_32 zRc0 dL_laneOf_4 ⟨hY, by decide, by decide⟩ rfl rfl (Nat.le_of_ble_eq_true rfl) (fun r h => by cases h) (fun E h => ?_)
  cases h
  refine z_catch (pre := [(0, 9, 12, 23)]) (x := (0, 9, 15, 35)) hX hTab rfl (fun z hz => by
    simp only [List.mem_cons, List.not_mem_nil, or_false] at hz
    rcases hz with rfl
    · exact ⟨by decide, _, ck_23, by decide +kernel⟩) (by decide) (by decide) ck_35 ct_NSE (fun q => ?_)
  refine z_astore_n (lv' := _) hX dL_laneOf_15 (by decide) rfl ?_
  refine z_iconst (v := 2) hX dL_laneOf_16 (by decide) ?_
  exact z_iretI hX dL_laneOf_17 (by decide) rfl (fun _ h => h)
abbrev hh_columnOf : List (Nat × Nat × Nat × Nat) := [(0, 9, 12, 23), (0, 9, 15, 35)]
theorem wh_columnOf : Cond.codeWith yL_columnOf cL_columnOf 4 (some .int) hh_columnOf ∈ gW := gW_I 702 (by decide +kernel) rfl
set_option maxRecDepth 100000 in
theorem hk_columnOf (l : Launch) {g : zG} {κ κ' : zKp} {μ : zMu} {ω : zOm} {lvlY : Nat} {p0 : Int32} {v : Int32} (hY : lvlY < 20) (hM : zM l g yX4_columnOf cX4_columnOf 2 (some .int) lvlY 0 [.ref (gA g 0 0 0), .int p0] κ μ ω κ' μ ω (some (.int v))) : zMW l g yL_columnOf cL_columnOf 4 hh_columnOf 20 1 [.ref (gA g 0 0 0), .int p0, .ref (gA g 19 0 0)] κ μ ω κ' μ (v.toInt64, ω.2) 0 := by
  refine zMW_of (by decide) (Nat.le_of_ble_eq_true rfl) (fun p e R s m args below meth c hX hTab => ?_)
  show zZ p l e R s m args below meth c g 4 _ _ _ _ 0 0 [(0, .ref (gA g 0 0 0)), (1, .int p0), (2, .ref (gA g 19 0 0))] []
  refine z_aload_n hX dL_columnOf_0 2 rfl ?_
  refine z_iconst (v := 0) hX dL_columnOf_1 (by decide) ?_
  refine z_aload_n hX dL_columnOf_2 0 rfl ?_
  refine z_iload_n hX dL_columnOf_3 1 rfl ?_
  refine z_callV1 hX hM cv_RL_37 zRc0 dL_columnOf_4 ⟨hY, by decide, by decide⟩ rfl rfl (Nat.le_of_ble_eq_true rfl) ?_
  refine z_i2l hX dL_columnOf_7 ?_
  refine z_last hX dL_columnOf_8 ?_
  refine z_goto (tgt := 18) hX dL_columnOf_9 (by decide) ?_
  refine z_iconst (v := 0) hX dL_columnOf_18 (by decide) ?_
  exact z_iretI hX dL_columnOf_19 (by decide) rfl (fun _ h => h)
set_option maxRecDepth 100000 in
theorem he_columnOf_IOE (l : Launch) {g : zG} {κ κ' : zKp} {μ : zMu} {ω : zOm} {lvlY : Nat} {p0 : Int32} (hY : lvlY < 20) (hM : zMx l g yX4_columnOf cX4_columnOf 2 (some .int) lvlY 1 [.ref (gA g 0 0 0), .int p0] κ μ ω κ' μ ω (.error xIOE)) : zMW l g yL_columnOf cL_columnOf 4 hh_columnOf 20 1 [.ref (gA g 0 0 0), .int p0, .ref (gA g 19 0 0)] κ μ ω κ' μ ω 1 := by
  refine zMW_of (by decide) (Nat.le_of_ble_eq_true rfl) (fun p e R s m args below meth c hX hTab => ?_)
  show zZ p l e R s m args below meth c g 4 _ _ _ _ 0 0 [(0, .ref (gA g 0 0 0)), (1, .int p0), (2, .ref (gA g 19 0 0))] []
  refine z_aload_n hX dL_columnOf_0 2 rfl ?_
  refine z_iconst (v := 0) hX dL_columnOf_1 (by decide) ?_
  refine z_aload_n hX dL_columnOf_2 0 rfl ?_
  refine z_iload_n hX dL_columnOf_3 1 rfl ?_
  refine zx_callV hX hM cv_RL_37 zRc0 dL_columnOf_4 ⟨hY, by decide, by decide⟩ rfl rfl (Nat.le_of_ble_eq_true rfl) (fun r h => by cases h) (fun E h => ?_)
  cases h
  refine z_catch (pre := []) (x := (0, 9, 12, 23)) hX hTab rfl (fun z hz => by cases hz) (by decide) (by decide) ck_23 ct_IOE (fun q => ?_)
  refine z_astore_n (lv' := _) hX dL_columnOf_12 (by decide) rfl ?_
  refine z_iconst (v := 1) hX dL_columnOf_13 (by decide) ?_
  exact z_iretI hX dL_columnOf_14 (by decide) rfl (fun _ h => h)
set_option maxRecDepth 100000 in
theorem he_columnOf_NSE (l : Launch) {g : zG} {κ κ' : zKp} {μ : zMu} {ω : zOm} {lvlY : Nat} {p0 : Int32} (hY : lvlY < 20) (hM : zMx l g yX4_columnOf cX4_columnOf 2 (some .int) lvlY 1 [.ref (gA g 0 0 0), .int p0] κ μ ω κ' μ ω (.error xNSE)) : zMW l g yL_columnOf cL_columnOf 4 hh_columnOf 20 1 [.ref (gA g 0 0 0), .int p0, .ref (gA g 19 0 0)] κ μ ω κ' μ ω 2 := by
  refine zMW_of (by decide) (Nat.le_of_ble_eq_true rfl) (fun p e R s m args below meth c hX hTab => ?_)
  show zZ p l e R s m args below meth c g 4 _ _ _ _ 0 0 [(0, .ref (gA g 0 0 0)), (1, .int p0), (2, .ref (gA g 19 0 0))] []
  refine z_aload_n hX dL_columnOf_0 2 rfl ?_
  refine z_iconst (v := 0) hX dL_columnOf_1 (by decide) ?_
  refine z_aload_n hX dL_columnOf_2 0 rfl ?_
  refine z_iload_n hX dL_columnOf_3 1 rfl ?_
  refine zx_callV hX hM cv_RL_37 zRc0 dL_columnOf_4 ⟨hY, by decide, by decide⟩ rfl rfl (Nat.le_of_ble_eq_true rfl) (fun r h => by cases h) (fun E h => ?_)
  cases h
  refine z_catch (pre := [(0, 9, 12, 23)]) (x := (0, 9, 15, 35)) hX hTab rfl (fun z hz => by
    simp only [List.mem_cons, List.not_mem_nil, or_false] at hz
    rcases hz with rfl
    · exact ⟨by decide, _, ck_23, by decide +kernel⟩) (by decide) (by decide) ck_35 ct_NSE (fun q => ?_)
  refine z_astore_n (lv' := _) hX dL_columnOf_15 (by decide) rfl ?_
  refine z_iconst (v := 2) hX dL_columnOf_16 (by decide) ?_
  exact z_iretI hX dL_columnOf_17 (by decide) rfl (fun _ h => h)
abbrev hh_kindOf : List (Nat × Nat × Nat × Nat) := [(0, 9, 12, 23)]
theorem wh_kindOf : Cond.codeWith yL_kindOf cL_kindOf 4 (some .int) hh_kindOf ∈ gW := gW_I 709 (by decide +kernel) rfl
set_option maxRecDepth 100000 in
theorem hk_kindOf (l : Launch) {g : zG} {κ κ' : zKp} {μ : zMu} {ω : zOm} {lvlY : Nat} {p0 : Int32} {v : Int32} (hY : lvlY < 20) (hM : zM l g yX4_kindOf cX4_kindOf 2 (some .char) lvlY 0 [.ref (gA g 0 0 0), .int p0] κ μ ω κ' μ ω (some (.int v))) : zMW l g yL_kindOf cL_kindOf 4 hh_kindOf 20 1 [.ref (gA g 0 0 0), .int p0, .ref (gA g 19 0 0)] κ μ ω κ' μ (v.toInt64, ω.2) 0 := by
  refine zMW_of (by decide) (Nat.le_of_ble_eq_true rfl) (fun p e R s m args below meth c hX hTab => ?_)
  show zZ p l e R s m args below meth c g 4 _ _ _ _ 0 0 [(0, .ref (gA g 0 0 0)), (1, .int p0), (2, .ref (gA g 19 0 0))] []
  refine z_aload_n hX dL_kindOf_0 2 rfl ?_
  refine z_iconst (v := 0) hX dL_kindOf_1 (by decide) ?_
  refine z_aload_n hX dL_kindOf_2 0 rfl ?_
  refine z_iload_n hX dL_kindOf_3 1 rfl ?_
  refine z_callV1 hX hM cv_RL_40 zRc0 dL_kindOf_4 ⟨hY, by decide, by decide⟩ rfl rfl (Nat.le_of_ble_eq_true rfl) ?_
  refine z_i2l hX dL_kindOf_7 ?_
  refine z_last hX dL_kindOf_8 ?_
  refine z_goto (tgt := 15) hX dL_kindOf_9 (by decide) ?_
  refine z_iconst (v := 0) hX dL_kindOf_15 (by decide) ?_
  exact z_iretI hX dL_kindOf_16 (by decide) rfl (fun _ h => h)
set_option maxRecDepth 100000 in
theorem he_kindOf_IOE (l : Launch) {g : zG} {κ κ' : zKp} {μ : zMu} {ω : zOm} {lvlY : Nat} {p0 : Int32} (hY : lvlY < 20) (hM : zMx l g yX4_kindOf cX4_kindOf 2 (some .char) lvlY 1 [.ref (gA g 0 0 0), .int p0] κ μ ω κ' μ ω (.error xIOE)) : zMW l g yL_kindOf cL_kindOf 4 hh_kindOf 20 1 [.ref (gA g 0 0 0), .int p0, .ref (gA g 19 0 0)] κ μ ω κ' μ ω 1 := by
  refine zMW_of (by decide) (Nat.le_of_ble_eq_true rfl) (fun p e R s m args below meth c hX hTab => ?_)
  show zZ p l e R s m args below meth c g 4 _ _ _ _ 0 0 [(0, .ref (gA g 0 0 0)), (1, .int p0), (2, .ref (gA g 19 0 0))] []
  refine z_aload_n hX dL_kindOf_0 2 rfl ?_
  refine z_iconst (v := 0) hX dL_kindOf_1 (by decide) ?_
  refine z_aload_n hX dL_kindOf_2 0 rfl ?_
  refine z_iload_n hX dL_kindOf_3 1 rfl ?_
  refine zx_callV hX hM cv_RL_40 zRc0 dL_kindOf_4 ⟨hY, by decide, by decide⟩ rfl rfl (Nat.le_of_ble_eq_true rfl) (fun r h => by cases h) (fun E h => ?_)
  cases h
  refine z_catch (pre := []) (x := (0, 9, 12, 23)) hX hTab rfl (fun z hz => by cases hz) (by decide) (by decide) ck_23 ct_IOE (fun q => ?_)
  refine z_astore_n (lv' := _) hX dL_kindOf_12 (by decide) rfl ?_
  refine z_iconst (v := 1) hX dL_kindOf_13 (by decide) ?_
  exact z_iretI hX dL_kindOf_14 (by decide) rfl (fun _ h => h)
abbrev hh_strengthOf : List (Nat × Nat × Nat × Nat) := [(0, 9, 12, 23)]
theorem wh_strengthOf : Cond.codeWith yL_strengthOf cL_strengthOf 4 (some .int) hh_strengthOf ∈ gW := gW_I 716 (by decide +kernel) rfl
set_option maxRecDepth 100000 in
theorem hk_strengthOf (l : Launch) {g : zG} {κ κ' : zKp} {μ : zMu} {ω : zOm} {lvlY : Nat} {p0 : Int32} {v : Int32} (hY : lvlY < 20) (hM : zM l g yX4_strengthOf cX4_strengthOf 2 (some .int) lvlY 0 [.ref (gA g 0 0 0), .int p0] κ μ ω κ' μ ω (some (.int v))) : zMW l g yL_strengthOf cL_strengthOf 4 hh_strengthOf 20 1 [.ref (gA g 0 0 0), .int p0, .ref (gA g 19 0 0)] κ μ ω κ' μ (v.toInt64, ω.2) 0 := by
  refine zMW_of (by decide) (Nat.le_of_ble_eq_true rfl) (fun p e R s m args below meth c hX hTab => ?_)
  show zZ p l e R s m args below meth c g 4 _ _ _ _ 0 0 [(0, .ref (gA g 0 0 0)), (1, .int p0), (2, .ref (gA g 19 0 0))] []
  refine z_aload_n hX dL_strengthOf_0 2 rfl ?_
  refine z_iconst (v := 0) hX dL_strengthOf_1 (by decide) ?_
  refine z_aload_n hX dL_strengthOf_2 0 rfl ?_
  refine z_iload_n hX dL_strengthOf_3 1 rfl ?_
  refine z_callV1 hX hM cv_RL_44 zRc0 dL_strengthOf_4 ⟨hY, by decide, by decide⟩ rfl rfl (Nat.le_of_ble_eq_true rfl) ?_
  refine z_i2l hX dL_strengthOf_7 ?_
  refine z_last hX dL_strengthOf_8 ?_
  refine z_goto (tgt := 15) hX dL_strengthOf_9 (by decide) ?_
  refine z_iconst (v := 0) hX dL_strengthOf_15 (by decide) ?_
  exact z_iretI hX dL_strengthOf_16 (by decide) rfl (fun _ h => h)
set_option maxRecDepth 100000 in
theorem he_strengthOf_IOE (l : Launch) {g : zG} {κ κ' : zKp} {μ : zMu} {ω : zOm} {lvlY : Nat} {p0 : Int32} (hY : lvlY < 20) (hM : zMx l g yX4_strengthOf cX4_strengthOf 2 (some .int) lvlY 1 [.ref (gA g 0 0 0), .int p0] κ μ ω κ' μ ω (.error xIOE)) : zMW l g yL_strengthOf cL_strengthOf 4 hh_strengthOf 20 1 [.ref (gA g 0 0 0), .int p0, .ref (gA g 19 0 0)] κ μ ω κ' μ ω 1 := by
  refine zMW_of (by decide) (Nat.le_of_ble_eq_true rfl) (fun p e R s m args below meth c hX hTab => ?_)
  show zZ p l e R s m args below meth c g 4 _ _ _ _ 0 0 [(0, .ref (gA g 0 0 0)), (1, .int p0), (2, .ref (gA g 19 0 0))] []
  refine z_aload_n hX dL_strengthOf_0 2 rfl ?_
  refine z_iconst (v := 0) hX dL_strengthOf_1 (by decide) ?_
  refine z_aload_n hX dL_strengthOf_2 0 rfl ?_
  refine z_iload_n hX dL_strengthOf_3 1 rfl ?_
  refine zx_callV hX hM cv_RL_44 zRc0 dL_strengthOf_4 ⟨hY, by decide, by decide⟩ rfl rfl (Nat.le_of_ble_eq_true rfl) (fun r h => by cases h) (fun E h => ?_)
  cases h
  refine z_catch (pre := []) (x := (0, 9, 12, 23)) hX hTab rfl (fun z hz => by cases hz) (by decide) (by decide) ck_23 ct_IOE (fun q => ?_)
  refine z_astore_n (lv' := _) hX dL_strengthOf_12 (by decide) rfl ?_
  refine z_iconst (v := 1) hX dL_strengthOf_13 (by decide) ?_
  exact z_iretI hX dL_strengthOf_14 (by decide) rfl (fun _ h => h)
abbrev hh_moraleOf : List (Nat × Nat × Nat × Nat) := [(0, 9, 12, 23)]
theorem wh_moraleOf : Cond.codeWith yL_moraleOf cL_moraleOf 4 (some .int) hh_moraleOf ∈ gW := gW_I 723 (by decide +kernel) rfl
set_option maxRecDepth 100000 in
theorem hk_moraleOf (l : Launch) {g : zG} {κ κ' : zKp} {μ : zMu} {ω : zOm} {lvlY : Nat} {p0 : Int32} {v : Int32} (hY : lvlY < 20) (hM : zM l g yX4_moraleOf cX4_moraleOf 2 (some .int) lvlY 0 [.ref (gA g 0 0 0), .int p0] κ μ ω κ' μ ω (some (.int v))) : zMW l g yL_moraleOf cL_moraleOf 4 hh_moraleOf 20 1 [.ref (gA g 0 0 0), .int p0, .ref (gA g 19 0 0)] κ μ ω κ' μ (v.toInt64, ω.2) 0 := by
  refine zMW_of (by decide) (Nat.le_of_ble_eq_true rfl) (fun p e R s m args below meth c hX hTab => ?_)
  show zZ p l e R s m args below meth c g 4 _ _ _ _ 0 0 [(0, .ref (gA g 0 0 0)), (1, .int p0), (2, .ref (gA g 19 0 0))] []
  refine z_aload_n hX dL_moraleOf_0 2 rfl ?_
  refine z_iconst (v := 0) hX dL_moraleOf_1 (by decide) ?_
  refine z_aload_n hX dL_moraleOf_2 0 rfl ?_
  refine z_iload_n hX dL_moraleOf_3 1 rfl ?_
  refine z_callV1 hX hM cv_RL_47 zRc0 dL_moraleOf_4 ⟨hY, by decide, by decide⟩ rfl rfl (Nat.le_of_ble_eq_true rfl) ?_
  refine z_i2l hX dL_moraleOf_7 ?_
  refine z_last hX dL_moraleOf_8 ?_
  refine z_goto (tgt := 15) hX dL_moraleOf_9 (by decide) ?_
  refine z_iconst (v := 0) hX dL_moraleOf_15 (by decide) ?_
  exact z_iretI hX dL_moraleOf_16 (by decide) rfl (fun _ h => h)
set_option maxRecDepth 100000 in
theorem he_moraleOf_IOE (l : Launch) {g : zG} {κ κ' : zKp} {μ : zMu} {ω : zOm} {lvlY : Nat} {p0 : Int32} (hY : lvlY < 20) (hM : zMx l g yX4_moraleOf cX4_moraleOf 2 (some .int) lvlY 1 [.ref (gA g 0 0 0), .int p0] κ μ ω κ' μ ω (.error xIOE)) : zMW l g yL_moraleOf cL_moraleOf 4 hh_moraleOf 20 1 [.ref (gA g 0 0 0), .int p0, .ref (gA g 19 0 0)] κ μ ω κ' μ ω 1 := by
  refine zMW_of (by decide) (Nat.le_of_ble_eq_true rfl) (fun p e R s m args below meth c hX hTab => ?_)
  show zZ p l e R s m args below meth c g 4 _ _ _ _ 0 0 [(0, .ref (gA g 0 0 0)), (1, .int p0), (2, .ref (gA g 19 0 0))] []
  refine z_aload_n hX dL_moraleOf_0 2 rfl ?_
  refine z_iconst (v := 0) hX dL_moraleOf_1 (by decide) ?_
  refine z_aload_n hX dL_moraleOf_2 0 rfl ?_
  refine z_iload_n hX dL_moraleOf_3 1 rfl ?_
  refine zx_callV hX hM cv_RL_47 zRc0 dL_moraleOf_4 ⟨hY, by decide, by decide⟩ rfl rfl (Nat.le_of_ble_eq_true rfl) (fun r h => by cases h) (fun E h => ?_)
  cases h
  refine z_catch (pre := []) (x := (0, 9, 12, 23)) hX hTab rfl (fun z hz => by cases hz) (by decide) (by decide) ck_23 ct_IOE (fun q => ?_)
  refine z_astore_n (lv' := _) hX dL_moraleOf_12 (by decide) rfl ?_
  refine z_iconst (v := 1) hX dL_moraleOf_13 (by decide) ?_
  exact z_iretI hX dL_moraleOf_14 (by decide) rfl (fun _ h => h)
abbrev hh_orderOf : List (Nat × Nat × Nat × Nat) := [(0, 9, 12, 23), (0, 9, 15, 15)]
theorem wh_orderOf : Cond.codeWith yL_orderOf cL_orderOf 4 (some .int) hh_orderOf ∈ gW := gW_I 730 (by decide +kernel) rfl
set_option maxRecDepth 100000 in
theorem hk_orderOf (l : Launch) {g : zG} {κ κ' : zKp} {μ : zMu} {ω : zOm} {lvlY : Nat} {p0 : Int32} {v : Int32} (hY : lvlY < 20) (hM : zM l g yX4_orderOf cX4_orderOf 3 (some .char) lvlY 0 [.ref (gA g 0 0 0), .int p0] κ μ ω κ' μ ω (some (.int v))) : zMW l g yL_orderOf cL_orderOf 4 hh_orderOf 20 1 [.ref (gA g 0 0 0), .int p0, .ref (gA g 19 0 0)] κ μ ω κ' μ (v.toInt64, ω.2) 0 := by
  refine zMW_of (by decide) (Nat.le_of_ble_eq_true rfl) (fun p e R s m args below meth c hX hTab => ?_)
  show zZ p l e R s m args below meth c g 4 _ _ _ _ 0 0 [(0, .ref (gA g 0 0 0)), (1, .int p0), (2, .ref (gA g 19 0 0))] []
  refine z_aload_n hX dL_orderOf_0 2 rfl ?_
  refine z_iconst (v := 0) hX dL_orderOf_1 (by decide) ?_
  refine z_aload_n hX dL_orderOf_2 0 rfl ?_
  refine z_iload_n hX dL_orderOf_3 1 rfl ?_
  refine z_callV1 hX hM cv_RL_50 zRc0 dL_orderOf_4 ⟨hY, by decide, by decide⟩ rfl rfl (Nat.le_of_ble_eq_true rfl) ?_
  refine z_i2l hX dL_orderOf_7 ?_
  refine z_last hX dL_orderOf_8 ?_
  refine z_goto (tgt := 18) hX dL_orderOf_9 (by decide) ?_
  refine z_iconst (v := 0) hX dL_orderOf_18 (by decide) ?_
  exact z_iretI hX dL_orderOf_19 (by decide) rfl (fun _ h => h)
set_option maxRecDepth 100000 in
theorem he_orderOf_IOE (l : Launch) {g : zG} {κ κ' : zKp} {μ : zMu} {ω : zOm} {lvlY : Nat} {p0 : Int32} (hY : lvlY < 20) (hM : zMx l g yX4_orderOf cX4_orderOf 3 (some .char) lvlY 1 [.ref (gA g 0 0 0), .int p0] κ μ ω κ' μ ω (.error xIOE)) : zMW l g yL_orderOf cL_orderOf 4 hh_orderOf 20 1 [.ref (gA g 0 0 0), .int p0, .ref (gA g 19 0 0)] κ μ ω κ' μ ω 1 := by
  refine zMW_of (by decide) (Nat.le_of_ble_eq_true rfl) (fun p e R s m args below meth c hX hTab => ?_)
  show zZ p l e R s m args below meth c g 4 _ _ _ _ 0 0 [(0, .ref (gA g 0 0 0)), (1, .int p0), (2, .ref (gA g 19 0 0))] []
  refine z_aload_n hX dL_orderOf_0 2 rfl ?_
  refine z_iconst (v := 0) hX dL_orderOf_1 (by decide) ?_
  refine z_aload_n hX dL_orderOf_2 0 rfl ?_
  refine z_iload_n hX dL_orderOf_3 1 rfl ?_
  refine zx_callV hX hM cv_RL_50 zRc0 dL_orderOf_4 ⟨hY, by decide, by decide⟩ rfl rfl (Nat.le_of_ble_eq_true rfl) (fun r h => by cases h) (fun E h => ?_)
  cases h
  refine z_catch (pre := []) (x := (0, 9, 12, 23)) hX hTab rfl (fun z hz => by cases hz) (by decide) (by decide) ck_23 ct_IOE (fun q => ?_)
  refine z_astore_n (lv' := _) hX dL_orderOf_12 (by decide) rfl ?_
  refine z_iconst (v := 1) hX dL_orderOf_13 (by decide) ?_
  exact z_iretI hX dL_orderOf_14 (by decide) rfl (fun _ h => h)
set_option maxRecDepth 100000 in
theorem he_orderOf_ISE (l : Launch) {g : zG} {κ κ' : zKp} {μ : zMu} {ω : zOm} {lvlY : Nat} {p0 : Int32} (hY : lvlY < 20) (hM : zMx l g yX4_orderOf cX4_orderOf 3 (some .char) lvlY 1 [.ref (gA g 0 0 0), .int p0] κ μ ω κ' μ ω (.error xISE)) : zMW l g yL_orderOf cL_orderOf 4 hh_orderOf 20 1 [.ref (gA g 0 0 0), .int p0, .ref (gA g 19 0 0)] κ μ ω κ' μ ω 2 := by
  refine zMW_of (by decide) (Nat.le_of_ble_eq_true rfl) (fun p e R s m args below meth c hX hTab => ?_)
  show zZ p l e R s m args below meth c g 4 _ _ _ _ 0 0 [(0, .ref (gA g 0 0 0)), (1, .int p0), (2, .ref (gA g 19 0 0))] []
  refine z_aload_n hX dL_orderOf_0 2 rfl ?_
  refine z_iconst (v := 0) hX dL_orderOf_1 (by decide) ?_
  refine z_aload_n hX dL_orderOf_2 0 rfl ?_
  refine z_iload_n hX dL_orderOf_3 1 rfl ?_
  refine zx_callV hX hM cv_RL_50 zRc0 dL_orderOf_4 ⟨hY, by decide, by decide⟩ rfl rfl (Nat.le_of_ble_eq_true rfl) (fun r h => by cases h) (fun E h => ?_)
  cases h
  refine z_catch (pre := [(0, 9, 12, 23)]) (x := (0, 9, 15, 15)) hX hTab rfl (fun z hz => by
    simp only [List.mem_cons, List.not_mem_nil, or_false] at hz
    rcases hz with rfl
    · exact ⟨by decide, _, ck_23, by decide +kernel⟩) (by decide) (by decide) ck_15 ct_ISE (fun q => ?_)
  refine z_astore_n (lv' := _) hX dL_orderOf_15 (by decide) rfl ?_
  refine z_iconst (v := 2) hX dL_orderOf_16 (by decide) ?_
  exact z_iretI hX dL_orderOf_17 (by decide) rfl (fun _ h => h)
abbrev hh_isStanding : List (Nat × Nat × Nat × Nat) := [(0, 16, 19, 23)]
theorem wh_isStanding : Cond.codeWith yL_isStanding cL_isStanding 4 (some .int) hh_isStanding ∈ gW := gW_I 738 (by decide +kernel) rfl
set_option maxRecDepth 100000 in
theorem hk_isStanding (l : Launch) {g : zG} {κ κ' : zKp} {μ : zMu} {ω : zOm} {lvlY : Nat} {p0 : Int32} {v : Int32} (hY : lvlY < 20) (hM : zM l g yX4_isStanding cX4_isStanding 2 (some .boolean) lvlY 0 [.ref (gA g 0 0 0), .int p0] κ μ ω κ' μ ω (some (.int v))) : zMW l g yL_isStanding cL_isStanding 4 hh_isStanding 20 1 [.ref (gA g 0 0 0), .int p0, .ref (gA g 19 0 0)] κ μ ω κ' μ ((if v = 0 then 0 else 1 : Int64), ω.2) 0 := by
  refine zMW_of (by decide) (Nat.le_of_ble_eq_true rfl) (fun p e R s m args below meth c hX hTab => ?_)
  show zZ p l e R s m args below meth c g 4 _ _ _ _ 0 0 [(0, .ref (gA g 0 0 0)), (1, .int p0), (2, .ref (gA g 19 0 0))] []
  refine z_aload_n hX dL_isStanding_0 2 rfl ?_
  refine z_iconst (v := 0) hX dL_isStanding_1 (by decide) ?_
  refine z_aload_n hX dL_isStanding_2 0 rfl ?_
  refine z_iload_n hX dL_isStanding_3 1 rfl ?_
  refine z_callV1 hX hM cv_RL_53 zRc0 dL_isStanding_4 ⟨hY, by decide, by decide⟩ rfl rfl (Nat.le_of_ble_eq_true rfl) ?_
  refine z_if_eq (tgt := 14) hX dL_isStanding_7 (by decide) (fun h => ?_) (fun h => ?_)
  · rw [if_pos h]
    refine z_lconst (v := 0) hX dL_isStanding_14 (by decide) ?_
    refine z_last hX dL_isStanding_15 ?_
    refine z_goto (tgt := 22) hX dL_isStanding_16 (by decide) ?_
    refine z_iconst (v := 0) hX dL_isStanding_22 (by decide) ?_
    exact z_iretI hX dL_isStanding_23 (by decide) rfl (fun _ h => h)
  · rw [if_neg h]
    refine z_lconst (v := 1) hX dL_isStanding_10 (by decide) ?_
    refine z_goto (tgt := 15) hX dL_isStanding_11 (by decide) ?_
    refine z_last hX dL_isStanding_15 ?_
    refine z_goto (tgt := 22) hX dL_isStanding_16 (by decide) ?_
    refine z_iconst (v := 0) hX dL_isStanding_22 (by decide) ?_
    exact z_iretI hX dL_isStanding_23 (by decide) rfl (fun _ h => h)
set_option maxRecDepth 100000 in
theorem he_isStanding_IOE (l : Launch) {g : zG} {κ κ' : zKp} {μ : zMu} {ω : zOm} {lvlY : Nat} {p0 : Int32} (hY : lvlY < 20) (hM : zMx l g yX4_isStanding cX4_isStanding 2 (some .boolean) lvlY 1 [.ref (gA g 0 0 0), .int p0] κ μ ω κ' μ ω (.error xIOE)) : zMW l g yL_isStanding cL_isStanding 4 hh_isStanding 20 1 [.ref (gA g 0 0 0), .int p0, .ref (gA g 19 0 0)] κ μ ω κ' μ ω 1 := by
  refine zMW_of (by decide) (Nat.le_of_ble_eq_true rfl) (fun p e R s m args below meth c hX hTab => ?_)
  show zZ p l e R s m args below meth c g 4 _ _ _ _ 0 0 [(0, .ref (gA g 0 0 0)), (1, .int p0), (2, .ref (gA g 19 0 0))] []
  refine z_aload_n hX dL_isStanding_0 2 rfl ?_
  refine z_iconst (v := 0) hX dL_isStanding_1 (by decide) ?_
  refine z_aload_n hX dL_isStanding_2 0 rfl ?_
  refine z_iload_n hX dL_isStanding_3 1 rfl ?_
  refine zx_callV hX hM cv_RL_53 zRc0 dL_isStanding_4 ⟨hY, by decide, by decide⟩ rfl rfl (Nat.le_of_ble_eq_true rfl) (fun r h => by cases h) (fun E h => ?_)
  cases h
  refine z_catch (pre := []) (x := (0, 16, 19, 23)) hX hTab rfl (fun z hz => by cases hz) (by decide) (by decide) ck_23 ct_IOE (fun q => ?_)
  refine z_astore_n (lv' := _) hX dL_isStanding_19 (by decide) rfl ?_
  refine z_iconst (v := 1) hX dL_isStanding_20 (by decide) ?_
  exact z_iretI hX dL_isStanding_21 (by decide) rfl (fun _ h => h)
abbrev hh_isRouted : List (Nat × Nat × Nat × Nat) := [(0, 16, 19, 23)]
theorem wh_isRouted : Cond.codeWith yL_isRouted cL_isRouted 4 (some .int) hh_isRouted ∈ gW := gW_I 745 (by decide +kernel) rfl
set_option maxRecDepth 100000 in
theorem hk_isRouted (l : Launch) {g : zG} {κ κ' : zKp} {μ : zMu} {ω : zOm} {lvlY : Nat} {p0 : Int32} {v : Int32} (hY : lvlY < 20) (hM : zM l g yX4_isRouted cX4_isRouted 2 (some .boolean) lvlY 0 [.ref (gA g 0 0 0), .int p0] κ μ ω κ' μ ω (some (.int v))) : zMW l g yL_isRouted cL_isRouted 4 hh_isRouted 20 1 [.ref (gA g 0 0 0), .int p0, .ref (gA g 19 0 0)] κ μ ω κ' μ ((if v = 0 then 0 else 1 : Int64), ω.2) 0 := by
  refine zMW_of (by decide) (Nat.le_of_ble_eq_true rfl) (fun p e R s m args below meth c hX hTab => ?_)
  show zZ p l e R s m args below meth c g 4 _ _ _ _ 0 0 [(0, .ref (gA g 0 0 0)), (1, .int p0), (2, .ref (gA g 19 0 0))] []
  refine z_aload_n hX dL_isRouted_0 2 rfl ?_
  refine z_iconst (v := 0) hX dL_isRouted_1 (by decide) ?_
  refine z_aload_n hX dL_isRouted_2 0 rfl ?_
  refine z_iload_n hX dL_isRouted_3 1 rfl ?_
  refine z_callV1 hX hM cv_RL_57 zRc0 dL_isRouted_4 ⟨hY, by decide, by decide⟩ rfl rfl (Nat.le_of_ble_eq_true rfl) ?_
  refine z_if_eq (tgt := 14) hX dL_isRouted_7 (by decide) (fun h => ?_) (fun h => ?_)
  · rw [if_pos h]
    refine z_lconst (v := 0) hX dL_isRouted_14 (by decide) ?_
    refine z_last hX dL_isRouted_15 ?_
    refine z_goto (tgt := 22) hX dL_isRouted_16 (by decide) ?_
    refine z_iconst (v := 0) hX dL_isRouted_22 (by decide) ?_
    exact z_iretI hX dL_isRouted_23 (by decide) rfl (fun _ h => h)
  · rw [if_neg h]
    refine z_lconst (v := 1) hX dL_isRouted_10 (by decide) ?_
    refine z_goto (tgt := 15) hX dL_isRouted_11 (by decide) ?_
    refine z_last hX dL_isRouted_15 ?_
    refine z_goto (tgt := 22) hX dL_isRouted_16 (by decide) ?_
    refine z_iconst (v := 0) hX dL_isRouted_22 (by decide) ?_
    exact z_iretI hX dL_isRouted_23 (by decide) rfl (fun _ h => h)
set_option maxRecDepth 100000 in
theorem he_isRouted_IOE (l : Launch) {g : zG} {κ κ' : zKp} {μ : zMu} {ω : zOm} {lvlY : Nat} {p0 : Int32} (hY : lvlY < 20) (hM : zMx l g yX4_isRouted cX4_isRouted 2 (some .boolean) lvlY 1 [.ref (gA g 0 0 0), .int p0] κ μ ω κ' μ ω (.error xIOE)) : zMW l g yL_isRouted cL_isRouted 4 hh_isRouted 20 1 [.ref (gA g 0 0 0), .int p0, .ref (gA g 19 0 0)] κ μ ω κ' μ ω 1 := by
  refine zMW_of (by decide) (Nat.le_of_ble_eq_true rfl) (fun p e R s m args below meth c hX hTab => ?_)
  show zZ p l e R s m args below meth c g 4 _ _ _ _ 0 0 [(0, .ref (gA g 0 0 0)), (1, .int p0), (2, .ref (gA g 19 0 0))] []
  refine z_aload_n hX dL_isRouted_0 2 rfl ?_
  refine z_iconst (v := 0) hX dL_isRouted_1 (by decide) ?_
  refine z_aload_n hX dL_isRouted_2 0 rfl ?_
  refine z_iload_n hX dL_isRouted_3 1 rfl ?_
  refine zx_callV hX hM cv_RL_57 zRc0 dL_isRouted_4 ⟨hY, by decide, by decide⟩ rfl rfl (Nat.le_of_ble_eq_true rfl) (fun r h => by cases h) (fun E h => ?_)
  cases h
  refine z_catch (pre := []) (x := (0, 16, 19, 23)) hX hTab rfl (fun z hz => by cases hz) (by decide) (by decide) ck_23 ct_IOE (fun q => ?_)
  refine z_astore_n (lv' := _) hX dL_isRouted_19 (by decide) rfl ?_
  refine z_iconst (v := 1) hX dL_isRouted_20 (by decide) ?_
  exact z_iretI hX dL_isRouted_21 (by decide) rfl (fun _ h => h)
abbrev hh_routedTurns : List (Nat × Nat × Nat × Nat) := [(0, 9, 12, 23)]
theorem wh_routedTurns : Cond.codeWith yL_routedTurns cL_routedTurns 4 (some .int) hh_routedTurns ∈ gW := gW_I 753 (by decide +kernel) rfl
set_option maxRecDepth 100000 in
theorem hk_routedTurns (l : Launch) {g : zG} {κ κ' : zKp} {μ : zMu} {ω : zOm} {lvlY : Nat} {p0 : Int32} {v : Int32} (hY : lvlY < 20) (hM : zM l g yX4_routedTurns cX4_routedTurns 2 (some .int) lvlY 0 [.ref (gA g 0 0 0), .int p0] κ μ ω κ' μ ω (some (.int v))) : zMW l g yL_routedTurns cL_routedTurns 4 hh_routedTurns 20 1 [.ref (gA g 0 0 0), .int p0, .ref (gA g 19 0 0)] κ μ ω κ' μ (v.toInt64, ω.2) 0 := by
  refine zMW_of (by decide) (Nat.le_of_ble_eq_true rfl) (fun p e R s m args below meth c hX hTab => ?_)
  show zZ p l e R s m args below meth c g 4 _ _ _ _ 0 0 [(0, .ref (gA g 0 0 0)), (1, .int p0), (2, .ref (gA g 19 0 0))] []
  refine z_aload_n hX dL_routedTurns_0 2 rfl ?_
  refine z_iconst (v := 0) hX dL_routedTurns_1 (by decide) ?_
  refine z_aload_n hX dL_routedTurns_2 0 rfl ?_
  refine z_iload_n hX dL_routedTurns_3 1 rfl ?_
  refine z_callV1 hX hM cv_RL_60 zRc0 dL_routedTurns_4 ⟨hY, by decide, by decide⟩ rfl rfl (Nat.le_of_ble_eq_true rfl) ?_
  refine z_i2l hX dL_routedTurns_7 ?_
  refine z_last hX dL_routedTurns_8 ?_
  refine z_goto (tgt := 15) hX dL_routedTurns_9 (by decide) ?_
  refine z_iconst (v := 0) hX dL_routedTurns_15 (by decide) ?_
  exact z_iretI hX dL_routedTurns_16 (by decide) rfl (fun _ h => h)
set_option maxRecDepth 100000 in
theorem he_routedTurns_IOE (l : Launch) {g : zG} {κ κ' : zKp} {μ : zMu} {ω : zOm} {lvlY : Nat} {p0 : Int32} (hY : lvlY < 20) (hM : zMx l g yX4_routedTurns cX4_routedTurns 2 (some .int) lvlY 1 [.ref (gA g 0 0 0), .int p0] κ μ ω κ' μ ω (.error xIOE)) : zMW l g yL_routedTurns cL_routedTurns 4 hh_routedTurns 20 1 [.ref (gA g 0 0 0), .int p0, .ref (gA g 19 0 0)] κ μ ω κ' μ ω 1 := by
  refine zMW_of (by decide) (Nat.le_of_ble_eq_true rfl) (fun p e R s m args below meth c hX hTab => ?_)
  show zZ p l e R s m args below meth c g 4 _ _ _ _ 0 0 [(0, .ref (gA g 0 0 0)), (1, .int p0), (2, .ref (gA g 19 0 0))] []
  refine z_aload_n hX dL_routedTurns_0 2 rfl ?_
  refine z_iconst (v := 0) hX dL_routedTurns_1 (by decide) ?_
  refine z_aload_n hX dL_routedTurns_2 0 rfl ?_
  refine z_iload_n hX dL_routedTurns_3 1 rfl ?_
  refine zx_callV hX hM cv_RL_60 zRc0 dL_routedTurns_4 ⟨hY, by decide, by decide⟩ rfl rfl (Nat.le_of_ble_eq_true rfl) (fun r h => by cases h) (fun E h => ?_)
  cases h
  refine z_catch (pre := []) (x := (0, 9, 12, 23)) hX hTab rfl (fun z hz => by cases hz) (by decide) (by decide) ck_23 ct_IOE (fun q => ?_)
  refine z_astore_n (lv' := _) hX dL_routedTurns_12 (by decide) rfl ?_
  refine z_iconst (v := 1) hX dL_routedTurns_13 (by decide) ?_
  exact z_iretI hX dL_routedTurns_14 (by decide) rfl (fun _ h => h)
abbrev hh_lineIn : List (Nat × Nat × Nat × Nat) := [(0, 10, 13, 23), (0, 10, 17, 35)]
theorem wh_lineIn : Cond.codeWith yL_lineIn cL_lineIn 5 (some .int) hh_lineIn ∈ gW := gW_I 760 (by decide +kernel) rfl
set_option maxRecDepth 100000 in
theorem hk_lineIn (l : Launch) {g : zG} {κ κ' : zKp} {μ : zMu} {ω : zOm} {lvlY : Nat} {p0 p1 : Int32} {v : Int32} (hY : lvlY < 20) (hM : zM l g yX4_lineIn cX4_lineIn 4 (some .int) lvlY 0 [.ref (gA g 0 0 0), .int p0, .int p1] κ μ ω κ' μ ω (some (.int v))) : zMW l g yL_lineIn cL_lineIn 5 hh_lineIn 20 1 [.ref (gA g 0 0 0), .int p0, .int p1, .ref (gA g 19 0 0)] κ μ ω κ' μ (v.toInt64, ω.2) 0 := by
  refine zMW_of (by decide) (Nat.le_of_ble_eq_true rfl) (fun p e R s m args below meth c hX hTab => ?_)
  show zZ p l e R s m args below meth c g 5 _ _ _ _ 0 0 [(0, .ref (gA g 0 0 0)), (1, .int p0), (2, .int p1), (3, .ref (gA g 19 0 0))] []
  refine z_aload_n hX dL_lineIn_0 3 rfl ?_
  refine z_iconst (v := 0) hX dL_lineIn_1 (by decide) ?_
  refine z_aload_n hX dL_lineIn_2 0 rfl ?_
  refine z_iload_n hX dL_lineIn_3 1 rfl ?_
  refine z_iload_n hX dL_lineIn_4 2 rfl ?_
  refine z_callV1 hX hM cv_RL_63 zRc0 dL_lineIn_5 ⟨hY, by decide, by decide⟩ rfl rfl (Nat.le_of_ble_eq_true rfl) ?_
  refine z_i2l hX dL_lineIn_8 ?_
  refine z_last hX dL_lineIn_9 ?_
  refine z_goto (tgt := 21) hX dL_lineIn_10 (by decide) ?_
  refine z_iconst (v := 0) hX dL_lineIn_21 (by decide) ?_
  exact z_iretI hX dL_lineIn_22 (by decide) rfl (fun _ h => h)
set_option maxRecDepth 100000 in
theorem he_lineIn_IOE (l : Launch) {g : zG} {κ κ' : zKp} {μ : zMu} {ω : zOm} {lvlY : Nat} {p0 p1 : Int32} (hY : lvlY < 20) (hM : zMx l g yX4_lineIn cX4_lineIn 4 (some .int) lvlY 1 [.ref (gA g 0 0 0), .int p0, .int p1] κ μ ω κ' μ ω (.error xIOE)) : zMW l g yL_lineIn cL_lineIn 5 hh_lineIn 20 1 [.ref (gA g 0 0 0), .int p0, .int p1, .ref (gA g 19 0 0)] κ μ ω κ' μ ω 1 := by
  refine zMW_of (by decide) (Nat.le_of_ble_eq_true rfl) (fun p e R s m args below meth c hX hTab => ?_)
  show zZ p l e R s m args below meth c g 5 _ _ _ _ 0 0 [(0, .ref (gA g 0 0 0)), (1, .int p0), (2, .int p1), (3, .ref (gA g 19 0 0))] []
  refine z_aload_n hX dL_lineIn_0 3 rfl ?_
  refine z_iconst (v := 0) hX dL_lineIn_1 (by decide) ?_
  refine z_aload_n hX dL_lineIn_2 0 rfl ?_
  refine z_iload_n hX dL_lineIn_3 1 rfl ?_
  refine z_iload_n hX dL_lineIn_4 2 rfl ?_
  refine zx_callV hX hM cv_RL_63 zRc0 dL_lineIn_5 ⟨hY, by decide, by decide⟩ rfl rfl (Nat.le_of_ble_eq_true rfl) (fun r h => by cases h) (fun E h => ?_)
  cases h
  refine z_catch (pre := []) (x := (0, 10, 13, 23)) hX hTab rfl (fun z hz => by cases hz) (by decide) (by decide) ck_23 ct_IOE (fun q => ?_)
  refine z_astore (lv' := _) hX dL_lineIn_13 (by decide) rfl ?_
  refine z_iconst (v := 1) hX dL_lineIn_15 (by decide) ?_
  exact z_iretI hX dL_lineIn_16 (by decide) rfl (fun _ h => h)
set_option maxRecDepth 100000 in
theorem he_lineIn_NSE (l : Launch) {g : zG} {κ κ' : zKp} {μ : zMu} {ω : zOm} {lvlY : Nat} {p0 p1 : Int32} (hY : lvlY < 20) (hM : zMx l g yX4_lineIn cX4_lineIn 4 (some .int) lvlY 1 [.ref (gA g 0 0 0), .int p0, .int p1] κ μ ω κ' μ ω (.error xNSE)) : zMW l g yL_lineIn cL_lineIn 5 hh_lineIn 20 1 [.ref (gA g 0 0 0), .int p0, .int p1, .ref (gA g 19 0 0)] κ μ ω κ' μ ω 2 := by
  refine zMW_of (by decide) (Nat.le_of_ble_eq_true rfl) (fun p e R s m args below meth c hX hTab => ?_)
  show zZ p l e R s m args below meth c g 5 _ _ _ _ 0 0 [(0, .ref (gA g 0 0 0)), (1, .int p0), (2, .int p1), (3, .ref (gA g 19 0 0))] []
  refine z_aload_n hX dL_lineIn_0 3 rfl ?_
  refine z_iconst (v := 0) hX dL_lineIn_1 (by decide) ?_
  refine z_aload_n hX dL_lineIn_2 0 rfl ?_
  refine z_iload_n hX dL_lineIn_3 1 rfl ?_
  refine z_iload_n hX dL_lineIn_4 2 rfl ?_
  refine zx_callV hX hM cv_RL_63 zRc0 dL_lineIn_5 ⟨hY, by decide, by decide⟩ rfl rfl (Nat.le_of_ble_eq_true rfl) (fun r h => by cases h) (fun E h => ?_)
  cases h
  refine z_catch (pre := [(0, 10, 13, 23)]) (x := (0, 10, 17, 35)) hX hTab rfl (fun z hz => by
    simp only [List.mem_cons, List.not_mem_nil, or_false] at hz
    rcases hz with rfl
    · exact ⟨by decide, _, ck_23, by decide +kernel⟩) (by decide) (by decide) ck_35 ct_NSE (fun q => ?_)
  refine z_astore (lv' := _) hX dL_lineIn_17 (by decide) rfl ?_
  refine z_iconst (v := 2) hX dL_lineIn_19 (by decide) ?_
  exact z_iretI hX dL_lineIn_20 (by decide) rfl (fun _ h => h)
abbrev hh_attackOf : List (Nat × Nat × Nat × Nat) := [(0, 9, 12, 23)]
theorem wh_attackOf : Cond.codeWith yL_attackOf cL_attackOf 4 (some .int) hh_attackOf ∈ gW := gW_I 772 (by decide +kernel) rfl
set_option maxRecDepth 100000 in
theorem hk_attackOf (l : Launch) {g : zG} {κ κ' : zKp} {μ : zMu} {ω : zOm} {lvlY : Nat} {p0 : Int32} {v : Int32} (hY : lvlY < 20) (hM : zM l g yX4_attackOf cX4_attackOf 2 (some .int) lvlY 0 [.ref (gA g 0 0 0), .int p0] κ μ ω κ' μ ω (some (.int v))) : zMW l g yL_attackOf cL_attackOf 4 hh_attackOf 20 1 [.ref (gA g 0 0 0), .int p0, .ref (gA g 19 0 0)] κ μ ω κ' μ (v.toInt64, ω.2) 0 := by
  refine zMW_of (by decide) (Nat.le_of_ble_eq_true rfl) (fun p e R s m args below meth c hX hTab => ?_)
  show zZ p l e R s m args below meth c g 4 _ _ _ _ 0 0 [(0, .ref (gA g 0 0 0)), (1, .int p0), (2, .ref (gA g 19 0 0))] []
  refine z_aload_n hX dL_attackOf_0 2 rfl ?_
  refine z_iconst (v := 0) hX dL_attackOf_1 (by decide) ?_
  refine z_aload_n hX dL_attackOf_2 0 rfl ?_
  refine z_iload_n hX dL_attackOf_3 1 rfl ?_
  refine z_callV1 hX hM cv_RL_67 zRc0 dL_attackOf_4 ⟨hY, by decide, by decide⟩ rfl rfl (Nat.le_of_ble_eq_true rfl) ?_
  refine z_i2l hX dL_attackOf_7 ?_
  refine z_last hX dL_attackOf_8 ?_
  refine z_goto (tgt := 15) hX dL_attackOf_9 (by decide) ?_
  refine z_iconst (v := 0) hX dL_attackOf_15 (by decide) ?_
  exact z_iretI hX dL_attackOf_16 (by decide) rfl (fun _ h => h)
set_option maxRecDepth 100000 in
theorem he_attackOf_IOE (l : Launch) {g : zG} {κ κ' : zKp} {μ : zMu} {ω : zOm} {lvlY : Nat} {p0 : Int32} (hY : lvlY < 20) (hM : zMx l g yX4_attackOf cX4_attackOf 2 (some .int) lvlY 1 [.ref (gA g 0 0 0), .int p0] κ μ ω κ' μ ω (.error xIOE)) : zMW l g yL_attackOf cL_attackOf 4 hh_attackOf 20 1 [.ref (gA g 0 0 0), .int p0, .ref (gA g 19 0 0)] κ μ ω κ' μ ω 1 := by
  refine zMW_of (by decide) (Nat.le_of_ble_eq_true rfl) (fun p e R s m args below meth c hX hTab => ?_)
  show zZ p l e R s m args below meth c g 4 _ _ _ _ 0 0 [(0, .ref (gA g 0 0 0)), (1, .int p0), (2, .ref (gA g 19 0 0))] []
  refine z_aload_n hX dL_attackOf_0 2 rfl ?_
  refine z_iconst (v := 0) hX dL_attackOf_1 (by decide) ?_
  refine z_aload_n hX dL_attackOf_2 0 rfl ?_
  refine z_iload_n hX dL_attackOf_3 1 rfl ?_
  refine zx_callV hX hM cv_RL_67 zRc0 dL_attackOf_4 ⟨hY, by decide, by decide⟩ rfl rfl (Nat.le_of_ble_eq_true rfl) (fun r h => by cases h) (fun E h => ?_)
  cases h
  refine z_catch (pre := []) (x := (0, 9, 12, 23)) hX hTab rfl (fun z hz => by cases hz) (by decide) (by decide) ck_23 ct_IOE (fun q => ?_)
  refine z_astore_n (lv' := _) hX dL_attackOf_12 (by decide) rfl ?_
  refine z_iconst (v := 1) hX dL_attackOf_13 (by decide) ?_
  exact z_iretI hX dL_attackOf_14 (by decide) rfl (fun _ h => h)
abbrev hh_counterOf : List (Nat × Nat × Nat × Nat) := [(0, 9, 12, 23)]
theorem wh_counterOf : Cond.codeWith yL_counterOf cL_counterOf 4 (some .int) hh_counterOf ∈ gW := gW_I 780 (by decide +kernel) rfl
set_option maxRecDepth 100000 in
theorem hk_counterOf (l : Launch) {g : zG} {κ κ' : zKp} {μ : zMu} {ω : zOm} {lvlY : Nat} {p0 : Int32} {v : Int32} (hY : lvlY < 20) (hM : zM l g yX4_counterOf cX4_counterOf 2 (some .int) lvlY 0 [.ref (gA g 0 0 0), .int p0] κ μ ω κ' μ ω (some (.int v))) : zMW l g yL_counterOf cL_counterOf 4 hh_counterOf 20 1 [.ref (gA g 0 0 0), .int p0, .ref (gA g 19 0 0)] κ μ ω κ' μ (v.toInt64, ω.2) 0 := by
  refine zMW_of (by decide) (Nat.le_of_ble_eq_true rfl) (fun p e R s m args below meth c hX hTab => ?_)
  show zZ p l e R s m args below meth c g 4 _ _ _ _ 0 0 [(0, .ref (gA g 0 0 0)), (1, .int p0), (2, .ref (gA g 19 0 0))] []
  refine z_aload_n hX dL_counterOf_0 2 rfl ?_
  refine z_iconst (v := 0) hX dL_counterOf_1 (by decide) ?_
  refine z_aload_n hX dL_counterOf_2 0 rfl ?_
  refine z_iload_n hX dL_counterOf_3 1 rfl ?_
  refine z_callV1 hX hM cv_RL_70 zRc0 dL_counterOf_4 ⟨hY, by decide, by decide⟩ rfl rfl (Nat.le_of_ble_eq_true rfl) ?_
  refine z_i2l hX dL_counterOf_7 ?_
  refine z_last hX dL_counterOf_8 ?_
  refine z_goto (tgt := 15) hX dL_counterOf_9 (by decide) ?_
  refine z_iconst (v := 0) hX dL_counterOf_15 (by decide) ?_
  exact z_iretI hX dL_counterOf_16 (by decide) rfl (fun _ h => h)
set_option maxRecDepth 100000 in
theorem he_counterOf_IOE (l : Launch) {g : zG} {κ κ' : zKp} {μ : zMu} {ω : zOm} {lvlY : Nat} {p0 : Int32} (hY : lvlY < 20) (hM : zMx l g yX4_counterOf cX4_counterOf 2 (some .int) lvlY 1 [.ref (gA g 0 0 0), .int p0] κ μ ω κ' μ ω (.error xIOE)) : zMW l g yL_counterOf cL_counterOf 4 hh_counterOf 20 1 [.ref (gA g 0 0 0), .int p0, .ref (gA g 19 0 0)] κ μ ω κ' μ ω 1 := by
  refine zMW_of (by decide) (Nat.le_of_ble_eq_true rfl) (fun p e R s m args below meth c hX hTab => ?_)
  show zZ p l e R s m args below meth c g 4 _ _ _ _ 0 0 [(0, .ref (gA g 0 0 0)), (1, .int p0), (2, .ref (gA g 19 0 0))] []
  refine z_aload_n hX dL_counterOf_0 2 rfl ?_
  refine z_iconst (v := 0) hX dL_counterOf_1 (by decide) ?_
  refine z_aload_n hX dL_counterOf_2 0 rfl ?_
  refine z_iload_n hX dL_counterOf_3 1 rfl ?_
  refine zx_callV hX hM cv_RL_70 zRc0 dL_counterOf_4 ⟨hY, by decide, by decide⟩ rfl rfl (Nat.le_of_ble_eq_true rfl) (fun r h => by cases h) (fun E h => ?_)
  cases h
  refine z_catch (pre := []) (x := (0, 9, 12, 23)) hX hTab rfl (fun z hz => by cases hz) (by decide) (by decide) ck_23 ct_IOE (fun q => ?_)
  refine z_astore_n (lv' := _) hX dL_counterOf_12 (by decide) rfl ?_
  refine z_iconst (v := 1) hX dL_counterOf_13 (by decide) ?_
  exact z_iretI hX dL_counterOf_14 (by decide) rfl (fun _ h => h)
abbrev hh_supportOf : List (Nat × Nat × Nat × Nat) := [(0, 9, 12, 23), (0, 9, 15, 35)]
theorem wh_supportOf : Cond.codeWith yL_supportOf cL_supportOf 4 (some .int) hh_supportOf ∈ gW := gW_I 788 (by decide +kernel) rfl
set_option maxRecDepth 100000 in
theorem hk_supportOf (l : Launch) {g : zG} {κ κ' : zKp} {μ : zMu} {ω : zOm} {lvlY : Nat} {p0 : Int32} {v : Int32} (hY : lvlY < 20) (hM : zM l g yX4_supportOf cX4_supportOf 2 (some .int) lvlY 0 [.ref (gA g 0 0 0), .int p0] κ μ ω κ' μ ω (some (.int v))) : zMW l g yL_supportOf cL_supportOf 4 hh_supportOf 20 1 [.ref (gA g 0 0 0), .int p0, .ref (gA g 19 0 0)] κ μ ω κ' μ (v.toInt64, ω.2) 0 := by
  refine zMW_of (by decide) (Nat.le_of_ble_eq_true rfl) (fun p e R s m args below meth c hX hTab => ?_)
  show zZ p l e R s m args below meth c g 4 _ _ _ _ 0 0 [(0, .ref (gA g 0 0 0)), (1, .int p0), (2, .ref (gA g 19 0 0))] []
  refine z_aload_n hX dL_supportOf_0 2 rfl ?_
  refine z_iconst (v := 0) hX dL_supportOf_1 (by decide) ?_
  refine z_aload_n hX dL_supportOf_2 0 rfl ?_
  refine z_iload_n hX dL_supportOf_3 1 rfl ?_
  refine z_callV1 hX hM cv_RL_73 zRc0 dL_supportOf_4 ⟨hY, by decide, by decide⟩ rfl rfl (Nat.le_of_ble_eq_true rfl) ?_
  refine z_i2l hX dL_supportOf_7 ?_
  refine z_last hX dL_supportOf_8 ?_
  refine z_goto (tgt := 18) hX dL_supportOf_9 (by decide) ?_
  refine z_iconst (v := 0) hX dL_supportOf_18 (by decide) ?_
  exact z_iretI hX dL_supportOf_19 (by decide) rfl (fun _ h => h)
set_option maxRecDepth 100000 in
theorem he_supportOf_IOE (l : Launch) {g : zG} {κ κ' : zKp} {μ : zMu} {ω : zOm} {lvlY : Nat} {p0 : Int32} (hY : lvlY < 20) (hM : zMx l g yX4_supportOf cX4_supportOf 2 (some .int) lvlY 1 [.ref (gA g 0 0 0), .int p0] κ μ ω κ' μ ω (.error xIOE)) : zMW l g yL_supportOf cL_supportOf 4 hh_supportOf 20 1 [.ref (gA g 0 0 0), .int p0, .ref (gA g 19 0 0)] κ μ ω κ' μ ω 1 := by
  refine zMW_of (by decide) (Nat.le_of_ble_eq_true rfl) (fun p e R s m args below meth c hX hTab => ?_)
  show zZ p l e R s m args below meth c g 4 _ _ _ _ 0 0 [(0, .ref (gA g 0 0 0)), (1, .int p0), (2, .ref (gA g 19 0 0))] []
  refine z_aload_n hX dL_supportOf_0 2 rfl ?_
  refine z_iconst (v := 0) hX dL_supportOf_1 (by decide) ?_
  refine z_aload_n hX dL_supportOf_2 0 rfl ?_
  refine z_iload_n hX dL_supportOf_3 1 rfl ?_
  refine zx_callV hX hM cv_RL_73 zRc0 dL_supportOf_4 ⟨hY, by decide, by decide⟩ rfl rfl (Nat.le_of_ble_eq_true rfl) (fun r h => by cases h) (fun E h => ?_)
  cases h
  refine z_catch (pre := []) (x := (0, 9, 12, 23)) hX hTab rfl (fun z hz => by cases hz) (by decide) (by decide) ck_23 ct_IOE (fun q => ?_)
  refine z_astore_n (lv' := _) hX dL_supportOf_12 (by decide) rfl ?_
  refine z_iconst (v := 1) hX dL_supportOf_13 (by decide) ?_
  exact z_iretI hX dL_supportOf_14 (by decide) rfl (fun _ h => h)
set_option maxRecDepth 100000 in
theorem he_supportOf_NSE (l : Launch) {g : zG} {κ κ' : zKp} {μ : zMu} {ω : zOm} {lvlY : Nat} {p0 : Int32} (hY : lvlY < 20) (hM : zMx l g yX4_supportOf cX4_supportOf 2 (some .int) lvlY 1 [.ref (gA g 0 0 0), .int p0] κ μ ω κ' μ ω (.error xNSE)) : zMW l g yL_supportOf cL_supportOf 4 hh_supportOf 20 1 [.ref (gA g 0 0 0), .int p0, .ref (gA g 19 0 0)] κ μ ω κ' μ ω 2 := by
  refine zMW_of (by decide) (Nat.le_of_ble_eq_true rfl) (fun p e R s m args below meth c hX hTab => ?_)
  show zZ p l e R s m args below meth c g 4 _ _ _ _ 0 0 [(0, .ref (gA g 0 0 0)), (1, .int p0), (2, .ref (gA g 19 0 0))] []
  refine z_aload_n hX dL_supportOf_0 2 rfl ?_
  refine z_iconst (v := 0) hX dL_supportOf_1 (by decide) ?_
  refine z_aload_n hX dL_supportOf_2 0 rfl ?_
  refine z_iload_n hX dL_supportOf_3 1 rfl ?_
  refine zx_callV hX hM cv_RL_73 zRc0 dL_supportOf_4 ⟨hY, by decide, by decide⟩ rfl rfl (Nat.le_of_ble_eq_true rfl) (fun r h => by cases h) (fun E h => ?_)
  cases h
  refine z_catch (pre := [(0, 9, 12, 23)]) (x := (0, 9, 15, 35)) hX hTab rfl (fun z hz => by
    simp only [List.mem_cons, List.not_mem_nil, or_false] at hz
    rcases hz with rfl
    · exact ⟨by decide, _, ck_23, by decide +kernel⟩) (by decide) (by decide) ck_35 ct_NSE (fun q => ?_)
  refine z_astore_n (lv' := _) hX dL_supportOf_15 (by decide) rfl ?_
  refine z_iconst (v := 2) hX dL_supportOf_16 (by decide) ?_
  exact z_iretI hX dL_supportOf_17 (by decide) rfl (fun _ h => h)
abbrev hh_supportByLines : List (Nat × Nat × Nat × Nat) := [(0, 9, 12, 23), (0, 9, 15, 35)]
theorem wh_supportByLines : Cond.codeWith yL_supportByLines cL_supportByLines 4 (some .int) hh_supportByLines ∈ gW := gW_I 796 (by decide +kernel) rfl
set_option maxRecDepth 100000 in
theorem hk_supportByLines (l : Launch) {g : zG} {κ κ' : zKp} {μ : zMu} {ω : zOm} {lvlY : Nat} {p0 : Int32} {v : Int32} (hY : lvlY < 20) (hM : zM l g yX4_supportByLines cX4_supportByLines 2 (some .int) lvlY 0 [.ref (gA g 0 0 0), .int p0] κ μ ω κ' μ ω (some (.int v))) : zMW l g yL_supportByLines cL_supportByLines 4 hh_supportByLines 20 1 [.ref (gA g 0 0 0), .int p0, .ref (gA g 19 0 0)] κ μ ω κ' μ (v.toInt64, ω.2) 0 := by
  refine zMW_of (by decide) (Nat.le_of_ble_eq_true rfl) (fun p e R s m args below meth c hX hTab => ?_)
  show zZ p l e R s m args below meth c g 4 _ _ _ _ 0 0 [(0, .ref (gA g 0 0 0)), (1, .int p0), (2, .ref (gA g 19 0 0))] []
  refine z_aload_n hX dL_supportByLines_0 2 rfl ?_
  refine z_iconst (v := 0) hX dL_supportByLines_1 (by decide) ?_
  refine z_aload_n hX dL_supportByLines_2 0 rfl ?_
  refine z_iload_n hX dL_supportByLines_3 1 rfl ?_
  refine z_callV1 hX hM cv_RL_76 zRc0 dL_supportByLines_4 ⟨hY, by decide, by decide⟩ rfl rfl (Nat.le_of_ble_eq_true rfl) ?_
  refine z_i2l hX dL_supportByLines_7 ?_
  refine z_last hX dL_supportByLines_8 ?_
  refine z_goto (tgt := 18) hX dL_supportByLines_9 (by decide) ?_
  refine z_iconst (v := 0) hX dL_supportByLines_18 (by decide) ?_
  exact z_iretI hX dL_supportByLines_19 (by decide) rfl (fun _ h => h)
set_option maxRecDepth 100000 in
theorem he_supportByLines_IOE (l : Launch) {g : zG} {κ κ' : zKp} {μ : zMu} {ω : zOm} {lvlY : Nat} {p0 : Int32} (hY : lvlY < 20) (hM : zMx l g yX4_supportByLines cX4_supportByLines 2 (some .int) lvlY 1 [.ref (gA g 0 0 0), .int p0] κ μ ω κ' μ ω (.error xIOE)) : zMW l g yL_supportByLines cL_supportByLines 4 hh_supportByLines 20 1 [.ref (gA g 0 0 0), .int p0, .ref (gA g 19 0 0)] κ μ ω κ' μ ω 1 := by
  refine zMW_of (by decide) (Nat.le_of_ble_eq_true rfl) (fun p e R s m args below meth c hX hTab => ?_)
  show zZ p l e R s m args below meth c g 4 _ _ _ _ 0 0 [(0, .ref (gA g 0 0 0)), (1, .int p0), (2, .ref (gA g 19 0 0))] []
  refine z_aload_n hX dL_supportByLines_0 2 rfl ?_
  refine z_iconst (v := 0) hX dL_supportByLines_1 (by decide) ?_
  refine z_aload_n hX dL_supportByLines_2 0 rfl ?_
  refine z_iload_n hX dL_supportByLines_3 1 rfl ?_
  refine zx_callV hX hM cv_RL_76 zRc0 dL_supportByLines_4 ⟨hY, by decide, by decide⟩ rfl rfl (Nat.le_of_ble_eq_true rfl) (fun r h => by cases h) (fun E h => ?_)
  cases h
  refine z_catch (pre := []) (x := (0, 9, 12, 23)) hX hTab rfl (fun z hz => by cases hz) (by decide) (by decide) ck_23 ct_IOE (fun q => ?_)
  refine z_astore_n (lv' := _) hX dL_supportByLines_12 (by decide) rfl ?_
  refine z_iconst (v := 1) hX dL_supportByLines_13 (by decide) ?_
  exact z_iretI hX dL_supportByLines_14 (by decide) rfl (fun _ h => h)
set_option maxRecDepth 100000 in
theorem he_supportByLines_NSE (l : Launch) {g : zG} {κ κ' : zKp} {μ : zMu} {ω : zOm} {lvlY : Nat} {p0 : Int32} (hY : lvlY < 20) (hM : zMx l g yX4_supportByLines cX4_supportByLines 2 (some .int) lvlY 1 [.ref (gA g 0 0 0), .int p0] κ μ ω κ' μ ω (.error xNSE)) : zMW l g yL_supportByLines cL_supportByLines 4 hh_supportByLines 20 1 [.ref (gA g 0 0 0), .int p0, .ref (gA g 19 0 0)] κ μ ω κ' μ ω 2 := by
  refine zMW_of (by decide) (Nat.le_of_ble_eq_true rfl) (fun p e R s m args below meth c hX hTab => ?_)
  show zZ p l e R s m args below meth c g 4 _ _ _ _ 0 0 [(0, .ref (gA g 0 0 0)), (1, .int p0), (2, .ref (gA g 19 0 0))] []
  refine z_aload_n hX dL_supportByLines_0 2 rfl ?_
  refine z_iconst (v := 0) hX dL_supportByLines_1 (by decide) ?_
  refine z_aload_n hX dL_supportByLines_2 0 rfl ?_
  refine z_iload_n hX dL_supportByLines_3 1 rfl ?_
  refine zx_callV hX hM cv_RL_76 zRc0 dL_supportByLines_4 ⟨hY, by decide, by decide⟩ rfl rfl (Nat.le_of_ble_eq_true rfl) (fun r h => by cases h) (fun E h => ?_)
  cases h
  refine z_catch (pre := [(0, 9, 12, 23)]) (x := (0, 9, 15, 35)) hX hTab rfl (fun z hz => by
    simp only [List.mem_cons, List.not_mem_nil, or_false] at hz
    rcases hz with rfl
    · exact ⟨by decide, _, ck_23, by decide +kernel⟩) (by decide) (by decide) ck_35 ct_NSE (fun q => ?_)
  refine z_astore_n (lv' := _) hX dL_supportByLines_15 (by decide) rfl ?_
  refine z_iconst (v := 2) hX dL_supportByLines_16 (by decide) ?_
  exact z_iretI hX dL_supportByLines_17 (by decide) rfl (fun _ h => h)
abbrev hh_enemyAhead : List (Nat × Nat × Nat × Nat) := [(0, 9, 12, 23), (0, 9, 15, 35)]
theorem wh_enemyAhead : Cond.codeWith yL_enemyAhead cL_enemyAhead 4 (some .int) hh_enemyAhead ∈ gW := gW_I 804 (by decide +kernel) rfl
set_option maxRecDepth 100000 in
theorem hk_enemyAhead (l : Launch) {g : zG} {κ κ' : zKp} {μ : zMu} {ω : zOm} {lvlY : Nat} {p0 : Int32} {v : Int32} (hY : lvlY < 20) (hM : zM l g yX4_enemyAhead cX4_enemyAhead 3 (some .int) lvlY 0 [.ref (gA g 0 0 0), .int p0] κ μ ω κ' μ ω (some (.int v))) : zMW l g yL_enemyAhead cL_enemyAhead 4 hh_enemyAhead 20 1 [.ref (gA g 0 0 0), .int p0, .ref (gA g 19 0 0)] κ μ ω κ' μ (v.toInt64, ω.2) 0 := by
  refine zMW_of (by decide) (Nat.le_of_ble_eq_true rfl) (fun p e R s m args below meth c hX hTab => ?_)
  show zZ p l e R s m args below meth c g 4 _ _ _ _ 0 0 [(0, .ref (gA g 0 0 0)), (1, .int p0), (2, .ref (gA g 19 0 0))] []
  refine z_aload_n hX dL_enemyAhead_0 2 rfl ?_
  refine z_iconst (v := 0) hX dL_enemyAhead_1 (by decide) ?_
  refine z_aload_n hX dL_enemyAhead_2 0 rfl ?_
  refine z_iload_n hX dL_enemyAhead_3 1 rfl ?_
  refine z_callV1 hX hM cv_RL_79 zRc0 dL_enemyAhead_4 ⟨hY, by decide, by decide⟩ rfl rfl (Nat.le_of_ble_eq_true rfl) ?_
  refine z_i2l hX dL_enemyAhead_7 ?_
  refine z_last hX dL_enemyAhead_8 ?_
  refine z_goto (tgt := 18) hX dL_enemyAhead_9 (by decide) ?_
  refine z_iconst (v := 0) hX dL_enemyAhead_18 (by decide) ?_
  exact z_iretI hX dL_enemyAhead_19 (by decide) rfl (fun _ h => h)
set_option maxRecDepth 100000 in
theorem he_enemyAhead_IOE (l : Launch) {g : zG} {κ κ' : zKp} {μ : zMu} {ω : zOm} {lvlY : Nat} {p0 : Int32} (hY : lvlY < 20) (hM : zMx l g yX4_enemyAhead cX4_enemyAhead 3 (some .int) lvlY 1 [.ref (gA g 0 0 0), .int p0] κ μ ω κ' μ ω (.error xIOE)) : zMW l g yL_enemyAhead cL_enemyAhead 4 hh_enemyAhead 20 1 [.ref (gA g 0 0 0), .int p0, .ref (gA g 19 0 0)] κ μ ω κ' μ ω 1 := by
  refine zMW_of (by decide) (Nat.le_of_ble_eq_true rfl) (fun p e R s m args below meth c hX hTab => ?_)
  show zZ p l e R s m args below meth c g 4 _ _ _ _ 0 0 [(0, .ref (gA g 0 0 0)), (1, .int p0), (2, .ref (gA g 19 0 0))] []
  refine z_aload_n hX dL_enemyAhead_0 2 rfl ?_
  refine z_iconst (v := 0) hX dL_enemyAhead_1 (by decide) ?_
  refine z_aload_n hX dL_enemyAhead_2 0 rfl ?_
  refine z_iload_n hX dL_enemyAhead_3 1 rfl ?_
  refine zx_callV hX hM cv_RL_79 zRc0 dL_enemyAhead_4 ⟨hY, by decide, by decide⟩ rfl rfl (Nat.le_of_ble_eq_true rfl) (fun r h => by cases h) (fun E h => ?_)
  cases h
  refine z_catch (pre := []) (x := (0, 9, 12, 23)) hX hTab rfl (fun z hz => by cases hz) (by decide) (by decide) ck_23 ct_IOE (fun q => ?_)
  refine z_astore_n (lv' := _) hX dL_enemyAhead_12 (by decide) rfl ?_
  refine z_iconst (v := 1) hX dL_enemyAhead_13 (by decide) ?_
  exact z_iretI hX dL_enemyAhead_14 (by decide) rfl (fun _ h => h)
set_option maxRecDepth 100000 in
theorem he_enemyAhead_NSE (l : Launch) {g : zG} {κ κ' : zKp} {μ : zMu} {ω : zOm} {lvlY : Nat} {p0 : Int32} (hY : lvlY < 20) (hM : zMx l g yX4_enemyAhead cX4_enemyAhead 3 (some .int) lvlY 1 [.ref (gA g 0 0 0), .int p0] κ μ ω κ' μ ω (.error xNSE)) : zMW l g yL_enemyAhead cL_enemyAhead 4 hh_enemyAhead 20 1 [.ref (gA g 0 0 0), .int p0, .ref (gA g 19 0 0)] κ μ ω κ' μ ω 2 := by
  refine zMW_of (by decide) (Nat.le_of_ble_eq_true rfl) (fun p e R s m args below meth c hX hTab => ?_)
  show zZ p l e R s m args below meth c g 4 _ _ _ _ 0 0 [(0, .ref (gA g 0 0 0)), (1, .int p0), (2, .ref (gA g 19 0 0))] []
  refine z_aload_n hX dL_enemyAhead_0 2 rfl ?_
  refine z_iconst (v := 0) hX dL_enemyAhead_1 (by decide) ?_
  refine z_aload_n hX dL_enemyAhead_2 0 rfl ?_
  refine z_iload_n hX dL_enemyAhead_3 1 rfl ?_
  refine zx_callV hX hM cv_RL_79 zRc0 dL_enemyAhead_4 ⟨hY, by decide, by decide⟩ rfl rfl (Nat.le_of_ble_eq_true rfl) (fun r h => by cases h) (fun E h => ?_)
  cases h
  refine z_catch (pre := [(0, 9, 12, 23)]) (x := (0, 9, 15, 35)) hX hTab rfl (fun z hz => by
    simp only [List.mem_cons, List.not_mem_nil, or_false] at hz
    rcases hz with rfl
    · exact ⟨by decide, _, ck_23, by decide +kernel⟩) (by decide) (by decide) ck_35 ct_NSE (fun q => ?_)
  refine z_astore_n (lv' := _) hX dL_enemyAhead_15 (by decide) rfl ?_
  refine z_iconst (v := 2) hX dL_enemyAhead_16 (by decide) ?_
  exact z_iretI hX dL_enemyAhead_17 (by decide) rfl (fun _ h => h)
abbrev hh_enemyByDistances : List (Nat × Nat × Nat × Nat) := [(0, 9, 12, 23), (0, 9, 15, 35)]
theorem wh_enemyByDistances : Cond.codeWith yL_enemyByDistances cL_enemyByDistances 4 (some .int) hh_enemyByDistances ∈ gW := gW_I 813 (by decide +kernel) rfl
set_option maxRecDepth 100000 in
theorem hk_enemyByDistances (l : Launch) {g : zG} {κ κ' : zKp} {μ : zMu} {ω : zOm} {lvlY : Nat} {p0 : Int32} {v : Int32} (hY : lvlY < 20) (hM : zM l g yX4_enemyByDistances cX4_enemyByDistances 3 (some .int) lvlY 0 [.ref (gA g 0 0 0), .int p0] κ μ ω κ' μ ω (some (.int v))) : zMW l g yL_enemyByDistances cL_enemyByDistances 4 hh_enemyByDistances 20 1 [.ref (gA g 0 0 0), .int p0, .ref (gA g 19 0 0)] κ μ ω κ' μ (v.toInt64, ω.2) 0 := by
  refine zMW_of (by decide) (Nat.le_of_ble_eq_true rfl) (fun p e R s m args below meth c hX hTab => ?_)
  show zZ p l e R s m args below meth c g 4 _ _ _ _ 0 0 [(0, .ref (gA g 0 0 0)), (1, .int p0), (2, .ref (gA g 19 0 0))] []
  refine z_aload_n hX dL_enemyByDistances_0 2 rfl ?_
  refine z_iconst (v := 0) hX dL_enemyByDistances_1 (by decide) ?_
  refine z_aload_n hX dL_enemyByDistances_2 0 rfl ?_
  refine z_iload_n hX dL_enemyByDistances_3 1 rfl ?_
  refine z_callV1 hX hM cv_RL_82 zRc0 dL_enemyByDistances_4 ⟨hY, by decide, by decide⟩ rfl rfl (Nat.le_of_ble_eq_true rfl) ?_
  refine z_i2l hX dL_enemyByDistances_7 ?_
  refine z_last hX dL_enemyByDistances_8 ?_
  refine z_goto (tgt := 18) hX dL_enemyByDistances_9 (by decide) ?_
  refine z_iconst (v := 0) hX dL_enemyByDistances_18 (by decide) ?_
  exact z_iretI hX dL_enemyByDistances_19 (by decide) rfl (fun _ h => h)
set_option maxRecDepth 100000 in
theorem he_enemyByDistances_IOE (l : Launch) {g : zG} {κ κ' : zKp} {μ : zMu} {ω : zOm} {lvlY : Nat} {p0 : Int32} (hY : lvlY < 20) (hM : zMx l g yX4_enemyByDistances cX4_enemyByDistances 3 (some .int) lvlY 1 [.ref (gA g 0 0 0), .int p0] κ μ ω κ' μ ω (.error xIOE)) : zMW l g yL_enemyByDistances cL_enemyByDistances 4 hh_enemyByDistances 20 1 [.ref (gA g 0 0 0), .int p0, .ref (gA g 19 0 0)] κ μ ω κ' μ ω 1 := by
  refine zMW_of (by decide) (Nat.le_of_ble_eq_true rfl) (fun p e R s m args below meth c hX hTab => ?_)
  show zZ p l e R s m args below meth c g 4 _ _ _ _ 0 0 [(0, .ref (gA g 0 0 0)), (1, .int p0), (2, .ref (gA g 19 0 0))] []
  refine z_aload_n hX dL_enemyByDistances_0 2 rfl ?_
  refine z_iconst (v := 0) hX dL_enemyByDistances_1 (by decide) ?_
  refine z_aload_n hX dL_enemyByDistances_2 0 rfl ?_
  refine z_iload_n hX dL_enemyByDistances_3 1 rfl ?_
  refine zx_callV hX hM cv_RL_82 zRc0 dL_enemyByDistances_4 ⟨hY, by decide, by decide⟩ rfl rfl (Nat.le_of_ble_eq_true rfl) (fun r h => by cases h) (fun E h => ?_)
  cases h
  refine z_catch (pre := []) (x := (0, 9, 12, 23)) hX hTab rfl (fun z hz => by cases hz) (by decide) (by decide) ck_23 ct_IOE (fun q => ?_)
  refine z_astore_n (lv' := _) hX dL_enemyByDistances_12 (by decide) rfl ?_
  refine z_iconst (v := 1) hX dL_enemyByDistances_13 (by decide) ?_
  exact z_iretI hX dL_enemyByDistances_14 (by decide) rfl (fun _ h => h)
set_option maxRecDepth 100000 in
theorem he_enemyByDistances_NSE (l : Launch) {g : zG} {κ κ' : zKp} {μ : zMu} {ω : zOm} {lvlY : Nat} {p0 : Int32} (hY : lvlY < 20) (hM : zMx l g yX4_enemyByDistances cX4_enemyByDistances 3 (some .int) lvlY 1 [.ref (gA g 0 0 0), .int p0] κ μ ω κ' μ ω (.error xNSE)) : zMW l g yL_enemyByDistances cL_enemyByDistances 4 hh_enemyByDistances 20 1 [.ref (gA g 0 0 0), .int p0, .ref (gA g 19 0 0)] κ μ ω κ' μ ω 2 := by
  refine zMW_of (by decide) (Nat.le_of_ble_eq_true rfl) (fun p e R s m args below meth c hX hTab => ?_)
  show zZ p l e R s m args below meth c g 4 _ _ _ _ 0 0 [(0, .ref (gA g 0 0 0)), (1, .int p0), (2, .ref (gA g 19 0 0))] []
  refine z_aload_n hX dL_enemyByDistances_0 2 rfl ?_
  refine z_iconst (v := 0) hX dL_enemyByDistances_1 (by decide) ?_
  refine z_aload_n hX dL_enemyByDistances_2 0 rfl ?_
  refine z_iload_n hX dL_enemyByDistances_3 1 rfl ?_
  refine zx_callV hX hM cv_RL_82 zRc0 dL_enemyByDistances_4 ⟨hY, by decide, by decide⟩ rfl rfl (Nat.le_of_ble_eq_true rfl) (fun r h => by cases h) (fun E h => ?_)
  cases h
  refine z_catch (pre := [(0, 9, 12, 23)]) (x := (0, 9, 15, 35)) hX hTab rfl (fun z hz => by
    simp only [List.mem_cons, List.not_mem_nil, or_false] at hz
    rcases hz with rfl
    · exact ⟨by decide, _, ck_23, by decide +kernel⟩) (by decide) (by decide) ck_35 ct_NSE (fun q => ?_)
  refine z_astore_n (lv' := _) hX dL_enemyByDistances_15 (by decide) rfl ?_
  refine z_iconst (v := 2) hX dL_enemyByDistances_16 (by decide) ?_
  exact z_iretI hX dL_enemyByDistances_17 (by decide) rfl (fun _ h => h)
abbrev hh_turnsUntilFight : List (Nat × Nat × Nat × Nat) := [(0, 8, 11, 35)]
theorem wh_turnsUntilFight : Cond.codeWith yL_turnsUntilFight cL_turnsUntilFight 3 (some .int) hh_turnsUntilFight ∈ gW := gW_I 821 (by decide +kernel) rfl
set_option maxRecDepth 100000 in
theorem hk_turnsUntilFight (l : Launch) {g : zG} {κ κ' : zKp} {μ : zMu} {ω : zOm} {lvlY : Nat} {v : Int32} (hY : lvlY < 20) (hM : zM l g yX4_turnsUntilFight cX4_turnsUntilFight 2 (some .int) lvlY 0 [.ref (gA g 0 0 0)] κ μ ω κ' μ ω (some (.int v))) : zMW l g yL_turnsUntilFight cL_turnsUntilFight 3 hh_turnsUntilFight 20 1 [.ref (gA g 0 0 0), .ref (gA g 19 0 0)] κ μ ω κ' μ (v.toInt64, ω.2) 0 := by
  refine zMW_of (by decide) (Nat.le_of_ble_eq_true rfl) (fun p e R s m args below meth c hX hTab => ?_)
  show zZ p l e R s m args below meth c g 3 _ _ _ _ 0 0 [(0, .ref (gA g 0 0 0)), (1, .ref (gA g 19 0 0))] []
  refine z_aload_n hX dL_turnsUntilFight_0 1 rfl ?_
  refine z_iconst (v := 0) hX dL_turnsUntilFight_1 (by decide) ?_
  refine z_aload_n hX dL_turnsUntilFight_2 0 rfl ?_
  refine z_callV1 hX hM cv_RL_85 zRc0 dL_turnsUntilFight_3 ⟨hY, by decide, by decide⟩ rfl rfl (Nat.le_of_ble_eq_true rfl) ?_
  refine z_i2l hX dL_turnsUntilFight_6 ?_
  refine z_last hX dL_turnsUntilFight_7 ?_
  refine z_goto (tgt := 14) hX dL_turnsUntilFight_8 (by decide) ?_
  refine z_iconst (v := 0) hX dL_turnsUntilFight_14 (by decide) ?_
  exact z_iretI hX dL_turnsUntilFight_15 (by decide) rfl (fun _ h => h)
set_option maxRecDepth 100000 in
theorem he_turnsUntilFight_NSE (l : Launch) {g : zG} {κ κ' : zKp} {μ : zMu} {ω : zOm} {lvlY : Nat} (hY : lvlY < 20) (hM : zMx l g yX4_turnsUntilFight cX4_turnsUntilFight 2 (some .int) lvlY 1 [.ref (gA g 0 0 0)] κ μ ω κ' μ ω (.error xNSE)) : zMW l g yL_turnsUntilFight cL_turnsUntilFight 3 hh_turnsUntilFight 20 1 [.ref (gA g 0 0 0), .ref (gA g 19 0 0)] κ μ ω κ' μ ω 1 := by
  refine zMW_of (by decide) (Nat.le_of_ble_eq_true rfl) (fun p e R s m args below meth c hX hTab => ?_)
  show zZ p l e R s m args below meth c g 3 _ _ _ _ 0 0 [(0, .ref (gA g 0 0 0)), (1, .ref (gA g 19 0 0))] []
  refine z_aload_n hX dL_turnsUntilFight_0 1 rfl ?_
  refine z_iconst (v := 0) hX dL_turnsUntilFight_1 (by decide) ?_
  refine z_aload_n hX dL_turnsUntilFight_2 0 rfl ?_
  refine zx_callV hX hM cv_RL_85 zRc0 dL_turnsUntilFight_3 ⟨hY, by decide, by decide⟩ rfl rfl (Nat.le_of_ble_eq_true rfl) (fun r h => by cases h) (fun E h => ?_)
  cases h
  refine z_catch (pre := []) (x := (0, 8, 11, 35)) hX hTab rfl (fun z hz => by cases hz) (by decide) (by decide) ck_35 ct_NSE (fun q => ?_)
  refine z_astore_n (lv' := _) hX dL_turnsUntilFight_11 (by decide) rfl ?_
  refine z_iconst (v := 1) hX dL_turnsUntilFight_12 (by decide) ?_
  exact z_iretI hX dL_turnsUntilFight_13 (by decide) rfl (fun _ h => h)
abbrev hh_jarsOf : List (Nat × Nat × Nat × Nat) := [(0, 9, 12, 13)]
theorem wh_jarsOf : Cond.codeWith yL_jarsOf cL_jarsOf 4 (some .int) hh_jarsOf ∈ gW := gW_I 829 (by decide +kernel) rfl
set_option maxRecDepth 100000 in
theorem hk_jarsOf (l : Launch) {g : zG} {κ κ' : zKp} {μ : zMu} {ω : zOm} {lvlY : Nat} {p0 : Int32} {v : Int32} (hY : lvlY < 20) (hM : zM l g yX4_jarsOf cX4_jarsOf 2 (some .int) lvlY 0 [.ref (gA g 0 0 0), .int p0] κ μ ω κ' μ ω (some (.int v))) : zMW l g yL_jarsOf cL_jarsOf 4 hh_jarsOf 20 1 [.ref (gA g 0 0 0), .int p0, .ref (gA g 19 0 0)] κ μ ω κ' μ (v.toInt64, ω.2) 0 := by
  refine zMW_of (by decide) (Nat.le_of_ble_eq_true rfl) (fun p e R s m args below meth c hX hTab => ?_)
  show zZ p l e R s m args below meth c g 4 _ _ _ _ 0 0 [(0, .ref (gA g 0 0 0)), (1, .int p0), (2, .ref (gA g 19 0 0))] []
  refine z_aload_n hX dL_jarsOf_0 2 rfl ?_
  refine z_iconst (v := 0) hX dL_jarsOf_1 (by decide) ?_
  refine z_aload_n hX dL_jarsOf_2 0 rfl ?_
  refine z_iload_n hX dL_jarsOf_3 1 rfl ?_
  refine z_callV1 hX hM cv_RL_89 zRc0 dL_jarsOf_4 ⟨hY, by decide, by decide⟩ rfl rfl (Nat.le_of_ble_eq_true rfl) ?_
  refine z_i2l hX dL_jarsOf_7 ?_
  refine z_last hX dL_jarsOf_8 ?_
  refine z_goto (tgt := 15) hX dL_jarsOf_9 (by decide) ?_
  refine z_iconst (v := 0) hX dL_jarsOf_15 (by decide) ?_
  exact z_iretI hX dL_jarsOf_16 (by decide) rfl (fun _ h => h)
set_option maxRecDepth 100000 in
theorem he_jarsOf_IAE (l : Launch) {g : zG} {κ κ' : zKp} {μ : zMu} {ω : zOm} {lvlY : Nat} {p0 : Int32} (hY : lvlY < 20) (hM : zMx l g yX4_jarsOf cX4_jarsOf 2 (some .int) lvlY 1 [.ref (gA g 0 0 0), .int p0] κ μ ω κ' μ ω (.error xIAE)) : zMW l g yL_jarsOf cL_jarsOf 4 hh_jarsOf 20 1 [.ref (gA g 0 0 0), .int p0, .ref (gA g 19 0 0)] κ μ ω κ' μ ω 1 := by
  refine zMW_of (by decide) (Nat.le_of_ble_eq_true rfl) (fun p e R s m args below meth c hX hTab => ?_)
  show zZ p l e R s m args below meth c g 4 _ _ _ _ 0 0 [(0, .ref (gA g 0 0 0)), (1, .int p0), (2, .ref (gA g 19 0 0))] []
  refine z_aload_n hX dL_jarsOf_0 2 rfl ?_
  refine z_iconst (v := 0) hX dL_jarsOf_1 (by decide) ?_
  refine z_aload_n hX dL_jarsOf_2 0 rfl ?_
  refine z_iload_n hX dL_jarsOf_3 1 rfl ?_
  refine zx_callV hX hM cv_RL_89 zRc0 dL_jarsOf_4 ⟨hY, by decide, by decide⟩ rfl rfl (Nat.le_of_ble_eq_true rfl) (fun r h => by cases h) (fun E h => ?_)
  cases h
  refine z_catch (pre := []) (x := (0, 9, 12, 13)) hX hTab rfl (fun z hz => by cases hz) (by decide) (by decide) ck_13 ct_IAE (fun q => ?_)
  refine z_astore_n (lv' := _) hX dL_jarsOf_12 (by decide) rfl ?_
  refine z_iconst (v := 1) hX dL_jarsOf_13 (by decide) ?_
  exact z_iretI hX dL_jarsOf_14 (by decide) rfl (fun _ h => h)
abbrev hh_strengthOfSide : List (Nat × Nat × Nat × Nat) := [(0, 9, 12, 13)]
theorem wh_strengthOfSide : Cond.codeWith yL_strengthOfSide cL_strengthOfSide 4 (some .int) hh_strengthOfSide ∈ gW := gW_I 842 (by decide +kernel) rfl
set_option maxRecDepth 100000 in
theorem hk_strengthOfSide (l : Launch) {g : zG} {κ κ' : zKp} {μ : zMu} {ω : zOm} {lvlY : Nat} {p0 : Int32} {v : Int32} (hY : lvlY < 20) (hM : zM l g yX4_strengthOfSide cX4_strengthOfSide 2 (some .int) lvlY 0 [.ref (gA g 0 0 0), .int p0] κ μ ω κ' μ ω (some (.int v))) : zMW l g yL_strengthOfSide cL_strengthOfSide 4 hh_strengthOfSide 20 1 [.ref (gA g 0 0 0), .int p0, .ref (gA g 19 0 0)] κ μ ω κ' μ (v.toInt64, ω.2) 0 := by
  refine zMW_of (by decide) (Nat.le_of_ble_eq_true rfl) (fun p e R s m args below meth c hX hTab => ?_)
  show zZ p l e R s m args below meth c g 4 _ _ _ _ 0 0 [(0, .ref (gA g 0 0 0)), (1, .int p0), (2, .ref (gA g 19 0 0))] []
  refine z_aload_n hX dL_strengthOfSide_0 2 rfl ?_
  refine z_iconst (v := 0) hX dL_strengthOfSide_1 (by decide) ?_
  refine z_aload_n hX dL_strengthOfSide_2 0 rfl ?_
  refine z_iload_n hX dL_strengthOfSide_3 1 rfl ?_
  refine z_callV1 hX hM cv_RL_92 zRc0 dL_strengthOfSide_4 ⟨hY, by decide, by decide⟩ rfl rfl (Nat.le_of_ble_eq_true rfl) ?_
  refine z_i2l hX dL_strengthOfSide_7 ?_
  refine z_last hX dL_strengthOfSide_8 ?_
  refine z_goto (tgt := 15) hX dL_strengthOfSide_9 (by decide) ?_
  refine z_iconst (v := 0) hX dL_strengthOfSide_15 (by decide) ?_
  exact z_iretI hX dL_strengthOfSide_16 (by decide) rfl (fun _ h => h)
set_option maxRecDepth 100000 in
theorem he_strengthOfSide_IAE (l : Launch) {g : zG} {κ κ' : zKp} {μ : zMu} {ω : zOm} {lvlY : Nat} {p0 : Int32} (hY : lvlY < 20) (hM : zMx l g yX4_strengthOfSide cX4_strengthOfSide 2 (some .int) lvlY 1 [.ref (gA g 0 0 0), .int p0] κ μ ω κ' μ ω (.error xIAE)) : zMW l g yL_strengthOfSide cL_strengthOfSide 4 hh_strengthOfSide 20 1 [.ref (gA g 0 0 0), .int p0, .ref (gA g 19 0 0)] κ μ ω κ' μ ω 1 := by
  refine zMW_of (by decide) (Nat.le_of_ble_eq_true rfl) (fun p e R s m args below meth c hX hTab => ?_)
  show zZ p l e R s m args below meth c g 4 _ _ _ _ 0 0 [(0, .ref (gA g 0 0 0)), (1, .int p0), (2, .ref (gA g 19 0 0))] []
  refine z_aload_n hX dL_strengthOfSide_0 2 rfl ?_
  refine z_iconst (v := 0) hX dL_strengthOfSide_1 (by decide) ?_
  refine z_aload_n hX dL_strengthOfSide_2 0 rfl ?_
  refine z_iload_n hX dL_strengthOfSide_3 1 rfl ?_
  refine zx_callV hX hM cv_RL_92 zRc0 dL_strengthOfSide_4 ⟨hY, by decide, by decide⟩ rfl rfl (Nat.le_of_ble_eq_true rfl) (fun r h => by cases h) (fun E h => ?_)
  cases h
  refine z_catch (pre := []) (x := (0, 9, 12, 13)) hX hTab rfl (fun z hz => by cases hz) (by decide) (by decide) ck_13 ct_IAE (fun q => ?_)
  refine z_astore_n (lv' := _) hX dL_strengthOfSide_12 (by decide) rfl ?_
  refine z_iconst (v := 1) hX dL_strengthOfSide_13 (by decide) ?_
  exact z_iretI hX dL_strengthOfSide_14 (by decide) rfl (fun _ h => h)
abbrev hh_strengthByCells : List (Nat × Nat × Nat × Nat) := [(0, 9, 12, 13)]
theorem wh_strengthByCells : Cond.codeWith yL_strengthByCells cL_strengthByCells 4 (some .int) hh_strengthByCells ∈ gW := gW_I 850 (by decide +kernel) rfl
set_option maxRecDepth 100000 in
theorem hk_strengthByCells (l : Launch) {g : zG} {κ κ' : zKp} {μ : zMu} {ω : zOm} {lvlY : Nat} {p0 : Int32} {v : Int32} (hY : lvlY < 20) (hM : zM l g yX4_strengthByCells cX4_strengthByCells 2 (some .int) lvlY 0 [.ref (gA g 0 0 0), .int p0] κ μ ω κ' μ ω (some (.int v))) : zMW l g yL_strengthByCells cL_strengthByCells 4 hh_strengthByCells 20 1 [.ref (gA g 0 0 0), .int p0, .ref (gA g 19 0 0)] κ μ ω κ' μ (v.toInt64, ω.2) 0 := by
  refine zMW_of (by decide) (Nat.le_of_ble_eq_true rfl) (fun p e R s m args below meth c hX hTab => ?_)
  show zZ p l e R s m args below meth c g 4 _ _ _ _ 0 0 [(0, .ref (gA g 0 0 0)), (1, .int p0), (2, .ref (gA g 19 0 0))] []
  refine z_aload_n hX dL_strengthByCells_0 2 rfl ?_
  refine z_iconst (v := 0) hX dL_strengthByCells_1 (by decide) ?_
  refine z_aload_n hX dL_strengthByCells_2 0 rfl ?_
  refine z_iload_n hX dL_strengthByCells_3 1 rfl ?_
  refine z_callV1 hX hM cv_RL_95 zRc0 dL_strengthByCells_4 ⟨hY, by decide, by decide⟩ rfl rfl (Nat.le_of_ble_eq_true rfl) ?_
  refine z_i2l hX dL_strengthByCells_7 ?_
  refine z_last hX dL_strengthByCells_8 ?_
  refine z_goto (tgt := 15) hX dL_strengthByCells_9 (by decide) ?_
  refine z_iconst (v := 0) hX dL_strengthByCells_15 (by decide) ?_
  exact z_iretI hX dL_strengthByCells_16 (by decide) rfl (fun _ h => h)
set_option maxRecDepth 100000 in
theorem he_strengthByCells_IAE (l : Launch) {g : zG} {κ κ' : zKp} {μ : zMu} {ω : zOm} {lvlY : Nat} {p0 : Int32} (hY : lvlY < 20) (hM : zMx l g yX4_strengthByCells cX4_strengthByCells 2 (some .int) lvlY 1 [.ref (gA g 0 0 0), .int p0] κ μ ω κ' μ ω (.error xIAE)) : zMW l g yL_strengthByCells cL_strengthByCells 4 hh_strengthByCells 20 1 [.ref (gA g 0 0 0), .int p0, .ref (gA g 19 0 0)] κ μ ω κ' μ ω 1 := by
  refine zMW_of (by decide) (Nat.le_of_ble_eq_true rfl) (fun p e R s m args below meth c hX hTab => ?_)
  show zZ p l e R s m args below meth c g 4 _ _ _ _ 0 0 [(0, .ref (gA g 0 0 0)), (1, .int p0), (2, .ref (gA g 19 0 0))] []
  refine z_aload_n hX dL_strengthByCells_0 2 rfl ?_
  refine z_iconst (v := 0) hX dL_strengthByCells_1 (by decide) ?_
  refine z_aload_n hX dL_strengthByCells_2 0 rfl ?_
  refine z_iload_n hX dL_strengthByCells_3 1 rfl ?_
  refine zx_callV hX hM cv_RL_95 zRc0 dL_strengthByCells_4 ⟨hY, by decide, by decide⟩ rfl rfl (Nat.le_of_ble_eq_true rfl) (fun r h => by cases h) (fun E h => ?_)
  cases h
  refine z_catch (pre := []) (x := (0, 9, 12, 13)) hX hTab rfl (fun z hz => by cases hz) (by decide) (by decide) ck_13 ct_IAE (fun q => ?_)
  refine z_astore_n (lv' := _) hX dL_strengthByCells_12 (by decide) rfl ?_
  refine z_iconst (v := 1) hX dL_strengthByCells_13 (by decide) ?_
  exact z_iretI hX dL_strengthByCells_14 (by decide) rfl (fun _ h => h)
abbrev hh_fallenOf : List (Nat × Nat × Nat × Nat) := [(0, 9, 12, 13)]
theorem wh_fallenOf : Cond.codeWith yL_fallenOf cL_fallenOf 4 (some .int) hh_fallenOf ∈ gW := gW_I 858 (by decide +kernel) rfl
set_option maxRecDepth 100000 in
theorem hk_fallenOf (l : Launch) {g : zG} {κ κ' : zKp} {μ : zMu} {ω : zOm} {lvlY : Nat} {p0 : Int32} {v : Int32} (hY : lvlY < 20) (hM : zM l g yX4_fallenOf cX4_fallenOf 2 (some .int) lvlY 0 [.ref (gA g 0 0 0), .int p0] κ μ ω κ' μ ω (some (.int v))) : zMW l g yL_fallenOf cL_fallenOf 4 hh_fallenOf 20 1 [.ref (gA g 0 0 0), .int p0, .ref (gA g 19 0 0)] κ μ ω κ' μ (v.toInt64, ω.2) 0 := by
  refine zMW_of (by decide) (Nat.le_of_ble_eq_true rfl) (fun p e R s m args below meth c hX hTab => ?_)
  show zZ p l e R s m args below meth c g 4 _ _ _ _ 0 0 [(0, .ref (gA g 0 0 0)), (1, .int p0), (2, .ref (gA g 19 0 0))] []
  refine z_aload_n hX dL_fallenOf_0 2 rfl ?_
  refine z_iconst (v := 0) hX dL_fallenOf_1 (by decide) ?_
  refine z_aload_n hX dL_fallenOf_2 0 rfl ?_
  refine z_iload_n hX dL_fallenOf_3 1 rfl ?_
  refine z_callV1 hX hM cv_RL_98 zRc0 dL_fallenOf_4 ⟨hY, by decide, by decide⟩ rfl rfl (Nat.le_of_ble_eq_true rfl) ?_
  refine z_i2l hX dL_fallenOf_7 ?_
  refine z_last hX dL_fallenOf_8 ?_
  refine z_goto (tgt := 15) hX dL_fallenOf_9 (by decide) ?_
  refine z_iconst (v := 0) hX dL_fallenOf_15 (by decide) ?_
  exact z_iretI hX dL_fallenOf_16 (by decide) rfl (fun _ h => h)
set_option maxRecDepth 100000 in
theorem he_fallenOf_IAE (l : Launch) {g : zG} {κ κ' : zKp} {μ : zMu} {ω : zOm} {lvlY : Nat} {p0 : Int32} (hY : lvlY < 20) (hM : zMx l g yX4_fallenOf cX4_fallenOf 2 (some .int) lvlY 1 [.ref (gA g 0 0 0), .int p0] κ μ ω κ' μ ω (.error xIAE)) : zMW l g yL_fallenOf cL_fallenOf 4 hh_fallenOf 20 1 [.ref (gA g 0 0 0), .int p0, .ref (gA g 19 0 0)] κ μ ω κ' μ ω 1 := by
  refine zMW_of (by decide) (Nat.le_of_ble_eq_true rfl) (fun p e R s m args below meth c hX hTab => ?_)
  show zZ p l e R s m args below meth c g 4 _ _ _ _ 0 0 [(0, .ref (gA g 0 0 0)), (1, .int p0), (2, .ref (gA g 19 0 0))] []
  refine z_aload_n hX dL_fallenOf_0 2 rfl ?_
  refine z_iconst (v := 0) hX dL_fallenOf_1 (by decide) ?_
  refine z_aload_n hX dL_fallenOf_2 0 rfl ?_
  refine z_iload_n hX dL_fallenOf_3 1 rfl ?_
  refine zx_callV hX hM cv_RL_98 zRc0 dL_fallenOf_4 ⟨hY, by decide, by decide⟩ rfl rfl (Nat.le_of_ble_eq_true rfl) (fun r h => by cases h) (fun E h => ?_)
  cases h
  refine z_catch (pre := []) (x := (0, 9, 12, 13)) hX hTab rfl (fun z hz => by cases hz) (by decide) (by decide) ck_13 ct_IAE (fun q => ?_)
  refine z_astore_n (lv' := _) hX dL_fallenOf_12 (by decide) rfl ?_
  refine z_iconst (v := 1) hX dL_fallenOf_13 (by decide) ?_
  exact z_iretI hX dL_fallenOf_14 (by decide) rfl (fun _ h => h)
abbrev hh_frontOf : List (Nat × Nat × Nat × Nat) := [(0, 10, 13, 13), (0, 10, 17, 35)]
theorem wh_frontOf : Cond.codeWith yL_frontOf cL_frontOf 5 (some .int) hh_frontOf ∈ gW := gW_I 869 (by decide +kernel) rfl
set_option maxRecDepth 100000 in
theorem hk_frontOf (l : Launch) {g : zG} {κ κ' : zKp} {μ : zMu} {ω : zOm} {lvlY : Nat} {p0 p1 : Int32} {v : Int32} (hY : lvlY < 20) (hM : zM l g yX4_frontOf cX4_frontOf 4 (some .int) lvlY 0 [.ref (gA g 0 0 0), .int p0, .int p1] κ μ ω κ' μ ω (some (.int v))) : zMW l g yL_frontOf cL_frontOf 5 hh_frontOf 20 1 [.ref (gA g 0 0 0), .int p0, .int p1, .ref (gA g 19 0 0)] κ μ ω κ' μ (v.toInt64, ω.2) 0 := by
  refine zMW_of (by decide) (Nat.le_of_ble_eq_true rfl) (fun p e R s m args below meth c hX hTab => ?_)
  show zZ p l e R s m args below meth c g 5 _ _ _ _ 0 0 [(0, .ref (gA g 0 0 0)), (1, .int p0), (2, .int p1), (3, .ref (gA g 19 0 0))] []
  refine z_aload_n hX dL_frontOf_0 3 rfl ?_
  refine z_iconst (v := 0) hX dL_frontOf_1 (by decide) ?_
  refine z_aload_n hX dL_frontOf_2 0 rfl ?_
  refine z_iload_n hX dL_frontOf_3 1 rfl ?_
  refine z_iload_n hX dL_frontOf_4 2 rfl ?_
  refine z_callV1 hX hM cv_RL_101 zRc0 dL_frontOf_5 ⟨hY, by decide, by decide⟩ rfl rfl (Nat.le_of_ble_eq_true rfl) ?_
  refine z_i2l hX dL_frontOf_8 ?_
  refine z_last hX dL_frontOf_9 ?_
  refine z_goto (tgt := 21) hX dL_frontOf_10 (by decide) ?_
  refine z_iconst (v := 0) hX dL_frontOf_21 (by decide) ?_
  exact z_iretI hX dL_frontOf_22 (by decide) rfl (fun _ h => h)
set_option maxRecDepth 100000 in
theorem he_frontOf_IAE (l : Launch) {g : zG} {κ κ' : zKp} {μ : zMu} {ω : zOm} {lvlY : Nat} {p0 p1 : Int32} (hY : lvlY < 20) (hM : zMx l g yX4_frontOf cX4_frontOf 4 (some .int) lvlY 1 [.ref (gA g 0 0 0), .int p0, .int p1] κ μ ω κ' μ ω (.error xIAE)) : zMW l g yL_frontOf cL_frontOf 5 hh_frontOf 20 1 [.ref (gA g 0 0 0), .int p0, .int p1, .ref (gA g 19 0 0)] κ μ ω κ' μ ω 1 := by
  refine zMW_of (by decide) (Nat.le_of_ble_eq_true rfl) (fun p e R s m args below meth c hX hTab => ?_)
  show zZ p l e R s m args below meth c g 5 _ _ _ _ 0 0 [(0, .ref (gA g 0 0 0)), (1, .int p0), (2, .int p1), (3, .ref (gA g 19 0 0))] []
  refine z_aload_n hX dL_frontOf_0 3 rfl ?_
  refine z_iconst (v := 0) hX dL_frontOf_1 (by decide) ?_
  refine z_aload_n hX dL_frontOf_2 0 rfl ?_
  refine z_iload_n hX dL_frontOf_3 1 rfl ?_
  refine z_iload_n hX dL_frontOf_4 2 rfl ?_
  refine zx_callV hX hM cv_RL_101 zRc0 dL_frontOf_5 ⟨hY, by decide, by decide⟩ rfl rfl (Nat.le_of_ble_eq_true rfl) (fun r h => by cases h) (fun E h => ?_)
  cases h
  refine z_catch (pre := []) (x := (0, 10, 13, 13)) hX hTab rfl (fun z hz => by cases hz) (by decide) (by decide) ck_13 ct_IAE (fun q => ?_)
  refine z_astore (lv' := _) hX dL_frontOf_13 (by decide) rfl ?_
  refine z_iconst (v := 1) hX dL_frontOf_15 (by decide) ?_
  exact z_iretI hX dL_frontOf_16 (by decide) rfl (fun _ h => h)
set_option maxRecDepth 100000 in
theorem he_frontOf_NSE (l : Launch) {g : zG} {κ κ' : zKp} {μ : zMu} {ω : zOm} {lvlY : Nat} {p0 p1 : Int32} (hY : lvlY < 20) (hM : zMx l g yX4_frontOf cX4_frontOf 4 (some .int) lvlY 1 [.ref (gA g 0 0 0), .int p0, .int p1] κ μ ω κ' μ ω (.error xNSE)) : zMW l g yL_frontOf cL_frontOf 5 hh_frontOf 20 1 [.ref (gA g 0 0 0), .int p0, .int p1, .ref (gA g 19 0 0)] κ μ ω κ' μ ω 2 := by
  refine zMW_of (by decide) (Nat.le_of_ble_eq_true rfl) (fun p e R s m args below meth c hX hTab => ?_)
  show zZ p l e R s m args below meth c g 5 _ _ _ _ 0 0 [(0, .ref (gA g 0 0 0)), (1, .int p0), (2, .int p1), (3, .ref (gA g 19 0 0))] []
  refine z_aload_n hX dL_frontOf_0 3 rfl ?_
  refine z_iconst (v := 0) hX dL_frontOf_1 (by decide) ?_
  refine z_aload_n hX dL_frontOf_2 0 rfl ?_
  refine z_iload_n hX dL_frontOf_3 1 rfl ?_
  refine z_iload_n hX dL_frontOf_4 2 rfl ?_
  refine zx_callV hX hM cv_RL_101 zRc0 dL_frontOf_5 ⟨hY, by decide, by decide⟩ rfl rfl (Nat.le_of_ble_eq_true rfl) (fun r h => by cases h) (fun E h => ?_)
  cases h
  refine z_catch (pre := [(0, 10, 13, 13)]) (x := (0, 10, 17, 35)) hX hTab rfl (fun z hz => by
    simp only [List.mem_cons, List.not_mem_nil, or_false] at hz
    rcases hz with rfl
    · exact ⟨by decide, _, ck_13, by decide +kernel⟩) (by decide) (by decide) ck_35 ct_NSE (fun q => ?_)
  refine z_astore (lv' := _) hX dL_frontOf_17 (by decide) rfl ?_
  refine z_iconst (v := 2) hX dL_frontOf_19 (by decide) ?_
  exact z_iretI hX dL_frontOf_20 (by decide) rfl (fun _ h => h)
abbrev hh_leader : List (Nat × Nat × Nat × Nat) := [(0, 8, 11, 35)]
theorem wh_leader : Cond.codeWith yL_leader cL_leader 3 (some .int) hh_leader ∈ gW := gW_I 882 (by decide +kernel) rfl
set_option maxRecDepth 100000 in
theorem hk_leader (l : Launch) {g : zG} {κ κ' : zKp} {μ : zMu} {ω : zOm} {lvlY : Nat} {v : Int32} (hY : lvlY < 20) (hM : zM l g yX4_leader cX4_leader 2 (some .int) lvlY 0 [.ref (gA g 0 0 0)] κ μ ω κ' μ ω (some (.int v))) : zMW l g yL_leader cL_leader 3 hh_leader 20 1 [.ref (gA g 0 0 0), .ref (gA g 19 0 0)] κ μ ω κ' μ (v.toInt64, ω.2) 0 := by
  refine zMW_of (by decide) (Nat.le_of_ble_eq_true rfl) (fun p e R s m args below meth c hX hTab => ?_)
  show zZ p l e R s m args below meth c g 3 _ _ _ _ 0 0 [(0, .ref (gA g 0 0 0)), (1, .ref (gA g 19 0 0))] []
  refine z_aload_n hX dL_leader_0 1 rfl ?_
  refine z_iconst (v := 0) hX dL_leader_1 (by decide) ?_
  refine z_aload_n hX dL_leader_2 0 rfl ?_
  refine z_callV1 hX hM cv_RL_104 zRc0 dL_leader_3 ⟨hY, by decide, by decide⟩ rfl rfl (Nat.le_of_ble_eq_true rfl) ?_
  refine z_i2l hX dL_leader_6 ?_
  refine z_last hX dL_leader_7 ?_
  refine z_goto (tgt := 14) hX dL_leader_8 (by decide) ?_
  refine z_iconst (v := 0) hX dL_leader_14 (by decide) ?_
  exact z_iretI hX dL_leader_15 (by decide) rfl (fun _ h => h)
set_option maxRecDepth 100000 in
theorem he_leader_NSE (l : Launch) {g : zG} {κ κ' : zKp} {μ : zMu} {ω : zOm} {lvlY : Nat} (hY : lvlY < 20) (hM : zMx l g yX4_leader cX4_leader 2 (some .int) lvlY 1 [.ref (gA g 0 0 0)] κ μ ω κ' μ ω (.error xNSE)) : zMW l g yL_leader cL_leader 3 hh_leader 20 1 [.ref (gA g 0 0 0), .ref (gA g 19 0 0)] κ μ ω κ' μ ω 1 := by
  refine zMW_of (by decide) (Nat.le_of_ble_eq_true rfl) (fun p e R s m args below meth c hX hTab => ?_)
  show zZ p l e R s m args below meth c g 3 _ _ _ _ 0 0 [(0, .ref (gA g 0 0 0)), (1, .ref (gA g 19 0 0))] []
  refine z_aload_n hX dL_leader_0 1 rfl ?_
  refine z_iconst (v := 0) hX dL_leader_1 (by decide) ?_
  refine z_aload_n hX dL_leader_2 0 rfl ?_
  refine zx_callV hX hM cv_RL_104 zRc0 dL_leader_3 ⟨hY, by decide, by decide⟩ rfl rfl (Nat.le_of_ble_eq_true rfl) (fun r h => by cases h) (fun E h => ?_)
  cases h
  refine z_catch (pre := []) (x := (0, 8, 11, 35)) hX hTab rfl (fun z hz => by cases hz) (by decide) (by decide) ck_35 ct_NSE (fun q => ?_)
  refine z_astore_n (lv' := _) hX dL_leader_11 (by decide) rfl ?_
  refine z_iconst (v := 1) hX dL_leader_12 (by decide) ?_
  exact z_iretI hX dL_leader_13 (by decide) rfl (fun _ h => h)
abbrev hh_lineByStrength : List (Nat × Nat × Nat × Nat) := [(0, 9, 12, 35)]
theorem wh_lineByStrength : Cond.codeWith yL_lineByStrength cL_lineByStrength 4 (some .int) hh_lineByStrength ∈ gW := gW_I 890 (by decide +kernel) rfl
set_option maxRecDepth 100000 in
theorem hk_lineByStrength (l : Launch) {g : zG} {κ κ' : zKp} {μ : zMu} {ω : zOm} {lvlY : Nat} {p0 : Int32} {v : Int32} (hY : lvlY < 20) (hM : zM l g yX4_lineByStrength cX4_lineByStrength 3 (some .int) lvlY 0 [.ref (gA g 0 0 0), .int p0] κ μ ω κ' μ ω (some (.int v))) : zMW l g yL_lineByStrength cL_lineByStrength 4 hh_lineByStrength 20 1 [.ref (gA g 0 0 0), .int p0, .ref (gA g 19 0 0)] κ μ ω κ' μ (v.toInt64, ω.2) 0 := by
  refine zMW_of (by decide) (Nat.le_of_ble_eq_true rfl) (fun p e R s m args below meth c hX hTab => ?_)
  show zZ p l e R s m args below meth c g 4 _ _ _ _ 0 0 [(0, .ref (gA g 0 0 0)), (1, .int p0), (2, .ref (gA g 19 0 0))] []
  refine z_aload_n hX dL_lineByStrength_0 2 rfl ?_
  refine z_iconst (v := 0) hX dL_lineByStrength_1 (by decide) ?_
  refine z_aload_n hX dL_lineByStrength_2 0 rfl ?_
  refine z_iload_n hX dL_lineByStrength_3 1 rfl ?_
  refine z_callV1 hX hM cv_RL_107 zRc0 dL_lineByStrength_4 ⟨hY, by decide, by decide⟩ rfl rfl (Nat.le_of_ble_eq_true rfl) ?_
  refine z_i2l hX dL_lineByStrength_7 ?_
  refine z_last hX dL_lineByStrength_8 ?_
  refine z_goto (tgt := 15) hX dL_lineByStrength_9 (by decide) ?_
  refine z_iconst (v := 0) hX dL_lineByStrength_15 (by decide) ?_
  exact z_iretI hX dL_lineByStrength_16 (by decide) rfl (fun _ h => h)
set_option maxRecDepth 100000 in
theorem he_lineByStrength_NSE (l : Launch) {g : zG} {κ κ' : zKp} {μ : zMu} {ω : zOm} {lvlY : Nat} {p0 : Int32} (hY : lvlY < 20) (hM : zMx l g yX4_lineByStrength cX4_lineByStrength 3 (some .int) lvlY 1 [.ref (gA g 0 0 0), .int p0] κ μ ω κ' μ ω (.error xNSE)) : zMW l g yL_lineByStrength cL_lineByStrength 4 hh_lineByStrength 20 1 [.ref (gA g 0 0 0), .int p0, .ref (gA g 19 0 0)] κ μ ω κ' μ ω 1 := by
  refine zMW_of (by decide) (Nat.le_of_ble_eq_true rfl) (fun p e R s m args below meth c hX hTab => ?_)
  show zZ p l e R s m args below meth c g 4 _ _ _ _ 0 0 [(0, .ref (gA g 0 0 0)), (1, .int p0), (2, .ref (gA g 19 0 0))] []
  refine z_aload_n hX dL_lineByStrength_0 2 rfl ?_
  refine z_iconst (v := 0) hX dL_lineByStrength_1 (by decide) ?_
  refine z_aload_n hX dL_lineByStrength_2 0 rfl ?_
  refine z_iload_n hX dL_lineByStrength_3 1 rfl ?_
  refine zx_callV hX hM cv_RL_107 zRc0 dL_lineByStrength_4 ⟨hY, by decide, by decide⟩ rfl rfl (Nat.le_of_ble_eq_true rfl) (fun r h => by cases h) (fun E h => ?_)
  cases h
  refine z_catch (pre := []) (x := (0, 9, 12, 35)) hX hTab rfl (fun z hz => by cases hz) (by decide) (by decide) ck_35 ct_NSE (fun q => ?_)
  refine z_astore_n (lv' := _) hX dL_lineByStrength_12 (by decide) rfl ?_
  refine z_iconst (v := 1) hX dL_lineByStrength_13 (by decide) ?_
  exact z_iretI hX dL_lineByStrength_14 (by decide) rfl (fun _ h => h)
abbrev hh_writeLane : List (Nat × Nat × Nat × Nat) := [(0, 9, 12, 23)]
theorem wh_writeLane : Cond.codeWith yL_writeLane cL_writeLane 4 (some .int) hh_writeLane ∈ gW := gW_I 906 (by decide +kernel) rfl
set_option maxRecDepth 100000 in
theorem hk_writeLane (l : Launch) {g : zG} {κ κ' : zKp} {μ : zMu} {ω : zOm} {lvlY : Nat} {p0 : Int32} {v : Int32} (hY : lvlY < 20) (hM : zM l g yX4_writeLane cX4_writeLane 4 (some .int) lvlY 0 [.ref (gA g 0 0 0), .int p0] κ μ ω κ' μ ω (some (.int v))) : zMW l g yL_writeLane cL_writeLane 4 hh_writeLane 20 1 [.ref (gA g 0 0 0), .int p0, .ref (gA g 19 0 0)] κ μ ω κ' μ (v.toInt64, ω.2) 0 := by
  refine zMW_of (by decide) (Nat.le_of_ble_eq_true rfl) (fun p e R s m args below meth c hX hTab => ?_)
  show zZ p l e R s m args below meth c g 4 _ _ _ _ 0 0 [(0, .ref (gA g 0 0 0)), (1, .int p0), (2, .ref (gA g 19 0 0))] []
  refine z_aload_n hX dL_writeLane_0 2 rfl ?_
  refine z_iconst (v := 0) hX dL_writeLane_1 (by decide) ?_
  refine z_aload_n hX dL_writeLane_2 0 rfl ?_
  refine z_iload_n hX dL_writeLane_3 1 rfl ?_
  refine z_callV1 hX hM cv_RL_110 zRc0 dL_writeLane_4 ⟨hY, by decide, by decide⟩ rfl rfl (Nat.le_of_ble_eq_true rfl) ?_
  refine z_i2l hX dL_writeLane_7 ?_
  refine z_last hX dL_writeLane_8 ?_
  refine z_goto (tgt := 15) hX dL_writeLane_9 (by decide) ?_
  refine z_iconst (v := 0) hX dL_writeLane_15 (by decide) ?_
  exact z_iretI hX dL_writeLane_16 (by decide) rfl (fun _ h => h)
set_option maxRecDepth 100000 in
theorem he_writeLane_IOE (l : Launch) {g : zG} {κ κ' : zKp} {μ : zMu} {ω : zOm} {lvlY : Nat} {p0 : Int32} (hY : lvlY < 20) (hM : zMx l g yX4_writeLane cX4_writeLane 4 (some .int) lvlY 1 [.ref (gA g 0 0 0), .int p0] κ μ ω κ' μ ω (.error xIOE)) : zMW l g yL_writeLane cL_writeLane 4 hh_writeLane 20 1 [.ref (gA g 0 0 0), .int p0, .ref (gA g 19 0 0)] κ μ ω κ' μ ω 1 := by
  refine zMW_of (by decide) (Nat.le_of_ble_eq_true rfl) (fun p e R s m args below meth c hX hTab => ?_)
  show zZ p l e R s m args below meth c g 4 _ _ _ _ 0 0 [(0, .ref (gA g 0 0 0)), (1, .int p0), (2, .ref (gA g 19 0 0))] []
  refine z_aload_n hX dL_writeLane_0 2 rfl ?_
  refine z_iconst (v := 0) hX dL_writeLane_1 (by decide) ?_
  refine z_aload_n hX dL_writeLane_2 0 rfl ?_
  refine z_iload_n hX dL_writeLane_3 1 rfl ?_
  refine zx_callV hX hM cv_RL_110 zRc0 dL_writeLane_4 ⟨hY, by decide, by decide⟩ rfl rfl (Nat.le_of_ble_eq_true rfl) (fun r h => by cases h) (fun E h => ?_)
  cases h
  refine z_catch (pre := []) (x := (0, 9, 12, 23)) hX hTab rfl (fun z hz => by cases hz) (by decide) (by decide) ck_23 ct_IOE (fun q => ?_)
  refine z_astore_n (lv' := _) hX dL_writeLane_12 (by decide) rfl ?_
  refine z_iconst (v := 1) hX dL_writeLane_13 (by decide) ?_
  exact z_iretI hX dL_writeLane_14 (by decide) rfl (fun _ h => h)
abbrev hh_writtenAt : List (Nat × Nat × Nat × Nat) := [(0, 9, 12, 23)]
theorem wh_writtenAt : Cond.codeWith yL_writtenAt cL_writtenAt 4 (some .int) hh_writtenAt ∈ gW := gW_I 922 (by decide +kernel) rfl
set_option maxRecDepth 100000 in
theorem hk_writtenAt (l : Launch) {g : zG} {κ κ' : zKp} {μ : zMu} {ω : zOm} {lvlY : Nat} {p0 : Int32} {v : Int32} (hY : lvlY < 20) (hM : zM l g yX4_writtenAt cX4_writtenAt 2 (some .char) lvlY 0 [.ref (gA g 0 0 0), .int p0] κ μ ω κ' μ ω (some (.int v))) : zMW l g yL_writtenAt cL_writtenAt 4 hh_writtenAt 20 1 [.ref (gA g 0 0 0), .int p0, .ref (gA g 19 0 0)] κ μ ω κ' μ (v.toInt64, ω.2) 0 := by
  refine zMW_of (by decide) (Nat.le_of_ble_eq_true rfl) (fun p e R s m args below meth c hX hTab => ?_)
  show zZ p l e R s m args below meth c g 4 _ _ _ _ 0 0 [(0, .ref (gA g 0 0 0)), (1, .int p0), (2, .ref (gA g 19 0 0))] []
  refine z_aload_n hX dL_writtenAt_0 2 rfl ?_
  refine z_iconst (v := 0) hX dL_writtenAt_1 (by decide) ?_
  refine z_aload_n hX dL_writtenAt_2 0 rfl ?_
  refine z_iload_n hX dL_writtenAt_3 1 rfl ?_
  refine z_callV1 hX hM cv_RL_113 zRc0 dL_writtenAt_4 ⟨hY, by decide, by decide⟩ rfl rfl (Nat.le_of_ble_eq_true rfl) ?_
  refine z_i2l hX dL_writtenAt_7 ?_
  refine z_last hX dL_writtenAt_8 ?_
  refine z_goto (tgt := 15) hX dL_writtenAt_9 (by decide) ?_
  refine z_iconst (v := 0) hX dL_writtenAt_15 (by decide) ?_
  exact z_iretI hX dL_writtenAt_16 (by decide) rfl (fun _ h => h)
set_option maxRecDepth 100000 in
theorem he_writtenAt_IOE (l : Launch) {g : zG} {κ κ' : zKp} {μ : zMu} {ω : zOm} {lvlY : Nat} {p0 : Int32} (hY : lvlY < 20) (hM : zMx l g yX4_writtenAt cX4_writtenAt 2 (some .char) lvlY 1 [.ref (gA g 0 0 0), .int p0] κ μ ω κ' μ ω (.error xIOE)) : zMW l g yL_writtenAt cL_writtenAt 4 hh_writtenAt 20 1 [.ref (gA g 0 0 0), .int p0, .ref (gA g 19 0 0)] κ μ ω κ' μ ω 1 := by
  refine zMW_of (by decide) (Nat.le_of_ble_eq_true rfl) (fun p e R s m args below meth c hX hTab => ?_)
  show zZ p l e R s m args below meth c g 4 _ _ _ _ 0 0 [(0, .ref (gA g 0 0 0)), (1, .int p0), (2, .ref (gA g 19 0 0))] []
  refine z_aload_n hX dL_writtenAt_0 2 rfl ?_
  refine z_iconst (v := 0) hX dL_writtenAt_1 (by decide) ?_
  refine z_aload_n hX dL_writtenAt_2 0 rfl ?_
  refine z_iload_n hX dL_writtenAt_3 1 rfl ?_
  refine zx_callV hX hM cv_RL_113 zRc0 dL_writtenAt_4 ⟨hY, by decide, by decide⟩ rfl rfl (Nat.le_of_ble_eq_true rfl) (fun r h => by cases h) (fun E h => ?_)
  cases h
  refine z_catch (pre := []) (x := (0, 9, 12, 23)) hX hTab rfl (fun z hz => by cases hz) (by decide) (by decide) ck_23 ct_IOE (fun q => ?_)
  refine z_astore_n (lv' := _) hX dL_writtenAt_12 (by decide) rfl ?_
  refine z_iconst (v := 1) hX dL_writtenAt_13 (by decide) ?_
  exact z_iretI hX dL_writtenAt_14 (by decide) rfl (fun _ h => h)
abbrev hh_meanMorale : List (Nat × Nat × Nat × Nat) := [(0, 7, 10, 120)]
theorem wh_meanMorale : Cond.codeWith yL_meanMorale cL_meanMorale 3 (some .int) hh_meanMorale ∈ gW := gW_I 930 (by decide +kernel) rfl
set_option maxRecDepth 100000 in
theorem hk_meanMorale (l : Launch) {g : zG} {κ κ' : zKp} {μ : zMu} {ω : zOm} {lvlY : Nat} {v : UInt64} (hY : lvlY < 20) (hM : zM l g yX4_meanMorale cX4_meanMorale 2 (some .double) lvlY 0 [.ref (gA g 0 0 0)] κ μ ω κ' μ ω (some (.double v))) : zMW l g yL_meanMorale cL_meanMorale 3 hh_meanMorale 20 1 [.ref (gA g 0 0 0), .ref (gA g 20 0 0)] κ μ ω κ' μ (ω.1, v) 0 := by
  refine zMW_of (by decide) (Nat.le_of_ble_eq_true rfl) (fun p e R s m args below meth c hX hTab => ?_)
  show zZ p l e R s m args below meth c g 3 _ _ _ _ 0 0 [(0, .ref (gA g 0 0 0)), (1, .ref (gA g 20 0 0))] []
  refine z_aload_n hX dL_meanMorale_0 1 rfl ?_
  refine z_iconst (v := 0) hX dL_meanMorale_1 (by decide) ?_
  refine z_aload_n hX dL_meanMorale_2 0 rfl ?_
  refine z_callV1 hX hM cv_RL_116 zRc0 dL_meanMorale_3 ⟨hY, by decide, by decide⟩ rfl rfl (Nat.le_of_ble_eq_true rfl) ?_
  refine z_dast hX dL_meanMorale_6 ?_
  refine z_goto (tgt := 13) hX dL_meanMorale_7 (by decide) ?_
  refine z_iconst (v := 0) hX dL_meanMorale_13 (by decide) ?_
  exact z_iretI hX dL_meanMorale_14 (by decide) rfl (fun _ h => h)
set_option maxRecDepth 100000 in
theorem he_meanMorale_ARE (l : Launch) {g : zG} {κ κ' : zKp} {μ : zMu} {ω : zOm} {lvlY : Nat} (hY : lvlY < 20) (hM : zMx l g yX4_meanMorale cX4_meanMorale 2 (some .double) lvlY 1 [.ref (gA g 0 0 0)] κ μ ω κ' μ ω (.error xARE)) : zMW l g yL_meanMorale cL_meanMorale 3 hh_meanMorale 20 1 [.ref (gA g 0 0 0), .ref (gA g 20 0 0)] κ μ ω κ' μ ω 1 := by
  refine zMW_of (by decide) (Nat.le_of_ble_eq_true rfl) (fun p e R s m args below meth c hX hTab => ?_)
  show zZ p l e R s m args below meth c g 3 _ _ _ _ 0 0 [(0, .ref (gA g 0 0 0)), (1, .ref (gA g 20 0 0))] []
  refine z_aload_n hX dL_meanMorale_0 1 rfl ?_
  refine z_iconst (v := 0) hX dL_meanMorale_1 (by decide) ?_
  refine z_aload_n hX dL_meanMorale_2 0 rfl ?_
  refine zx_callV hX hM cv_RL_116 zRc0 dL_meanMorale_3 ⟨hY, by decide, by decide⟩ rfl rfl (Nat.le_of_ble_eq_true rfl) (fun r h => by cases h) (fun E h => ?_)
  cases h
  refine z_catch (pre := []) (x := (0, 7, 10, 120)) hX hTab rfl (fun z hz => by cases hz) (by decide) (by decide) ck_120 ct_ARE (fun q => ?_)
  refine z_astore_n (lv' := _) hX dL_meanMorale_10 (by decide) rfl ?_
  refine z_iconst (v := 1) hX dL_meanMorale_11 (by decide) ?_
  exact z_iretI hX dL_meanMorale_12 (by decide) rfl (fun _ h => h)
abbrev hh_standingShare : List (Nat × Nat × Nat × Nat) := [(0, 8, 11, 120)]
theorem wh_standingShare : Cond.codeWith yL_standingShare cL_standingShare 3 (some .int) hh_standingShare ∈ gW := gW_I 963 (by decide +kernel) rfl
set_option maxRecDepth 100000 in
theorem hk_standingShare (l : Launch) {g : zG} {κ κ' : zKp} {μ : zMu} {ω : zOm} {lvlY : Nat} {v : UInt32} (hne : vf_n64 (FP.f2d v)) (hY : lvlY < 20) (hM : zM l g yX4_standingShare cX4_standingShare 2 (some .float) lvlY 0 [.ref (gA g 0 0 0)] κ μ ω κ' μ ω (some (.float v))) : zMW l g yL_standingShare cL_standingShare 3 hh_standingShare 20 1 [.ref (gA g 0 0 0), .ref (gA g 20 0 0)] κ μ ω κ' μ (ω.1, FP.f2d v) 0 := by
  refine zMW_of (by decide) (Nat.le_of_ble_eq_true rfl) (fun p e R s m args below meth c hX hTab => ?_)
  show zZ p l e R s m args below meth c g 3 _ _ _ _ 0 0 [(0, .ref (gA g 0 0 0)), (1, .ref (gA g 20 0 0))] []
  refine z_aload_n hX dL_standingShare_0 1 rfl ?_
  refine z_iconst (v := 0) hX dL_standingShare_1 (by decide) ?_
  refine z_aload_n hX dL_standingShare_2 0 rfl ?_
  refine z_callV1 hX hM cv_RL_122 zRc0 dL_standingShare_3 ⟨hY, by decide, by decide⟩ rfl rfl (Nat.le_of_ble_eq_true rfl) ?_
  refine z_f2d hX hne dL_standingShare_6 ?_
  refine z_dast hX dL_standingShare_7 ?_
  refine z_goto (tgt := 14) hX dL_standingShare_8 (by decide) ?_
  refine z_iconst (v := 0) hX dL_standingShare_14 (by decide) ?_
  exact z_iretI hX dL_standingShare_15 (by decide) rfl (fun _ h => h)
set_option maxRecDepth 100000 in
theorem he_standingShare_ARE (l : Launch) {g : zG} {κ κ' : zKp} {μ : zMu} {ω : zOm} {lvlY : Nat} (hY : lvlY < 20) (hM : zMx l g yX4_standingShare cX4_standingShare 2 (some .float) lvlY 1 [.ref (gA g 0 0 0)] κ μ ω κ' μ ω (.error xARE)) : zMW l g yL_standingShare cL_standingShare 3 hh_standingShare 20 1 [.ref (gA g 0 0 0), .ref (gA g 20 0 0)] κ μ ω κ' μ ω 1 := by
  refine zMW_of (by decide) (Nat.le_of_ble_eq_true rfl) (fun p e R s m args below meth c hX hTab => ?_)
  show zZ p l e R s m args below meth c g 3 _ _ _ _ 0 0 [(0, .ref (gA g 0 0 0)), (1, .ref (gA g 20 0 0))] []
  refine z_aload_n hX dL_standingShare_0 1 rfl ?_
  refine z_iconst (v := 0) hX dL_standingShare_1 (by decide) ?_
  refine z_aload_n hX dL_standingShare_2 0 rfl ?_
  refine zx_callV hX hM cv_RL_122 zRc0 dL_standingShare_3 ⟨hY, by decide, by decide⟩ rfl rfl (Nat.le_of_ble_eq_true rfl) (fun r h => by cases h) (fun E h => ?_)
  cases h
  refine z_catch (pre := []) (x := (0, 8, 11, 120)) hX hTab rfl (fun z hz => by cases hz) (by decide) (by decide) ck_120 ct_ARE (fun q => ?_)
  refine z_astore_n (lv' := _) hX dL_standingShare_11 (by decide) rfl ?_
  refine z_iconst (v := 1) hX dL_standingShare_12 (by decide) ?_
  exact z_iretI hX dL_standingShare_13 (by decide) rfl (fun _ h => h)
abbrev hh_type : List (Nat × Nat × Nat × Nat) := [(0, 9, 12, 13), (0, 9, 15, 15)]
theorem wh_type : Cond.codeWith yL_type cL_type 4 (some .int) hh_type ∈ gW := gW_I 975 (by decide +kernel) rfl
set_option maxRecDepth 100000 in
theorem hk_type (l : Launch) {g : zG} {κ κ' : zKp} {μ : zMu} {ω : zOm} {lvlY : Nat} {p0 : Int32} {v : Int32} (hY : lvlY < 20) (hM : zM l g yX4_type cX4_type 2 (some .int) lvlY 0 [.ref (gA g 0 0 0), .int p0] κ μ ω κ' μ ω (some (.int v))) : zMW l g yL_type cL_type 4 hh_type 20 1 [.ref (gA g 0 0 0), .int p0, .ref (gA g 19 0 0)] κ μ ω κ' μ (v.toInt64, ω.2) 0 := by
  refine zMW_of (by decide) (Nat.le_of_ble_eq_true rfl) (fun p e R s m args below meth c hX hTab => ?_)
  show zZ p l e R s m args below meth c g 4 _ _ _ _ 0 0 [(0, .ref (gA g 0 0 0)), (1, .int p0), (2, .ref (gA g 19 0 0))] []
  refine z_aload_n hX dL_type_0 2 rfl ?_
  refine z_iconst (v := 0) hX dL_type_1 (by decide) ?_
  refine z_aload_n hX dL_type_2 0 rfl ?_
  refine z_iload_n hX dL_type_3 1 rfl ?_
  refine z_callV1 hX hM cv_RL_126 zRc0 dL_type_4 ⟨hY, by decide, by decide⟩ rfl rfl (Nat.le_of_ble_eq_true rfl) ?_
  refine z_i2l hX dL_type_7 ?_
  refine z_last hX dL_type_8 ?_
  refine z_goto (tgt := 18) hX dL_type_9 (by decide) ?_
  refine z_iconst (v := 0) hX dL_type_18 (by decide) ?_
  exact z_iretI hX dL_type_19 (by decide) rfl (fun _ h => h)
set_option maxRecDepth 100000 in
theorem he_type_IAE (l : Launch) {g : zG} {κ κ' : zKp} {μ : zMu} {ω : zOm} {lvlY : Nat} {p0 : Int32} (hY : lvlY < 20) (hM : zMx l g yX4_type cX4_type 2 (some .int) lvlY 1 [.ref (gA g 0 0 0), .int p0] κ μ ω κ' μ ω (.error xIAE)) : zMW l g yL_type cL_type 4 hh_type 20 1 [.ref (gA g 0 0 0), .int p0, .ref (gA g 19 0 0)] κ μ ω κ' μ ω 1 := by
  refine zMW_of (by decide) (Nat.le_of_ble_eq_true rfl) (fun p e R s m args below meth c hX hTab => ?_)
  show zZ p l e R s m args below meth c g 4 _ _ _ _ 0 0 [(0, .ref (gA g 0 0 0)), (1, .int p0), (2, .ref (gA g 19 0 0))] []
  refine z_aload_n hX dL_type_0 2 rfl ?_
  refine z_iconst (v := 0) hX dL_type_1 (by decide) ?_
  refine z_aload_n hX dL_type_2 0 rfl ?_
  refine z_iload_n hX dL_type_3 1 rfl ?_
  refine zx_callV hX hM cv_RL_126 zRc0 dL_type_4 ⟨hY, by decide, by decide⟩ rfl rfl (Nat.le_of_ble_eq_true rfl) (fun r h => by cases h) (fun E h => ?_)
  cases h
  refine z_catch (pre := []) (x := (0, 9, 12, 13)) hX hTab rfl (fun z hz => by cases hz) (by decide) (by decide) ck_13 ct_IAE (fun q => ?_)
  refine z_astore_n (lv' := _) hX dL_type_12 (by decide) rfl ?_
  refine z_iconst (v := 1) hX dL_type_13 (by decide) ?_
  exact z_iretI hX dL_type_14 (by decide) rfl (fun _ h => h)
set_option maxRecDepth 100000 in
theorem he_type_ISE (l : Launch) {g : zG} {κ κ' : zKp} {μ : zMu} {ω : zOm} {lvlY : Nat} {p0 : Int32} (hY : lvlY < 20) (hM : zMx l g yX4_type cX4_type 2 (some .int) lvlY 1 [.ref (gA g 0 0 0), .int p0] κ μ ω κ' μ ω (.error xISE)) : zMW l g yL_type cL_type 4 hh_type 20 1 [.ref (gA g 0 0 0), .int p0, .ref (gA g 19 0 0)] κ μ ω κ' μ ω 2 := by
  refine zMW_of (by decide) (Nat.le_of_ble_eq_true rfl) (fun p e R s m args below meth c hX hTab => ?_)
  show zZ p l e R s m args below meth c g 4 _ _ _ _ 0 0 [(0, .ref (gA g 0 0 0)), (1, .int p0), (2, .ref (gA g 19 0 0))] []
  refine z_aload_n hX dL_type_0 2 rfl ?_
  refine z_iconst (v := 0) hX dL_type_1 (by decide) ?_
  refine z_aload_n hX dL_type_2 0 rfl ?_
  refine z_iload_n hX dL_type_3 1 rfl ?_
  refine zx_callV hX hM cv_RL_126 zRc0 dL_type_4 ⟨hY, by decide, by decide⟩ rfl rfl (Nat.le_of_ble_eq_true rfl) (fun r h => by cases h) (fun E h => ?_)
  cases h
  refine z_catch (pre := [(0, 9, 12, 13)]) (x := (0, 9, 15, 15)) hX hTab rfl (fun z hz => by
    simp only [List.mem_cons, List.not_mem_nil, or_false] at hz
    rcases hz with rfl
    · exact ⟨by decide, _, ck_13, by decide +kernel⟩) (by decide) (by decide) ck_15 ct_ISE (fun q => ?_)
  refine z_astore_n (lv' := _) hX dL_type_15 (by decide) rfl ?_
  refine z_iconst (v := 2) hX dL_type_16 (by decide) ?_
  exact z_iretI hX dL_type_17 (by decide) rfl (fun _ h => h)
abbrev hh_execute : List (Nat × Nat × Nat × Nat) := [(0, 8, 11, 13), (0, 8, 14, 15)]
theorem wh_execute : Cond.codeWith yL_execute cL_execute 3 (some .int) hh_execute ∈ gW := gW_I 988 (by decide +kernel) rfl
set_option maxRecDepth 100000 in
theorem hk_execute (l : Launch) {g : zG} {κ κ' : zKp} {μ : zMu} {ω : zOm} {lvlY : Nat} {v : Int32} (hY : lvlY < 20) (hM : zM l g yX4_execute cX4_execute 3 (some .int) lvlY 0 [.ref (gA g 0 0 0)] κ μ ω κ' μ ω (some (.int v))) : zMW l g yL_execute cL_execute 3 hh_execute 20 1 [.ref (gA g 0 0 0), .ref (gA g 19 0 0)] κ μ ω κ' μ (v.toInt64, ω.2) 0 := by
  refine zMW_of (by decide) (Nat.le_of_ble_eq_true rfl) (fun p e R s m args below meth c hX hTab => ?_)
  show zZ p l e R s m args below meth c g 3 _ _ _ _ 0 0 [(0, .ref (gA g 0 0 0)), (1, .ref (gA g 19 0 0))] []
  refine z_aload_n hX dL_execute_0 1 rfl ?_
  refine z_iconst (v := 0) hX dL_execute_1 (by decide) ?_
  refine z_aload_n hX dL_execute_2 0 rfl ?_
  refine z_callV1 hX hM cv_RL_130 zRc0 dL_execute_3 ⟨hY, by decide, by decide⟩ rfl rfl (Nat.le_of_ble_eq_true rfl) ?_
  refine z_i2l hX dL_execute_6 ?_
  refine z_last hX dL_execute_7 ?_
  refine z_goto (tgt := 17) hX dL_execute_8 (by decide) ?_
  refine z_iconst (v := 0) hX dL_execute_17 (by decide) ?_
  exact z_iretI hX dL_execute_18 (by decide) rfl (fun _ h => h)
set_option maxRecDepth 100000 in
theorem he_execute_IAE (l : Launch) {g : zG} {κ κ' : zKp} {μ : zMu} {ω : zOm} {lvlY : Nat} (hY : lvlY < 20) (hM : zMx l g yX4_execute cX4_execute 3 (some .int) lvlY 1 [.ref (gA g 0 0 0)] κ μ ω κ' μ ω (.error xIAE)) : zMW l g yL_execute cL_execute 3 hh_execute 20 1 [.ref (gA g 0 0 0), .ref (gA g 19 0 0)] κ μ ω κ' μ ω 1 := by
  refine zMW_of (by decide) (Nat.le_of_ble_eq_true rfl) (fun p e R s m args below meth c hX hTab => ?_)
  show zZ p l e R s m args below meth c g 3 _ _ _ _ 0 0 [(0, .ref (gA g 0 0 0)), (1, .ref (gA g 19 0 0))] []
  refine z_aload_n hX dL_execute_0 1 rfl ?_
  refine z_iconst (v := 0) hX dL_execute_1 (by decide) ?_
  refine z_aload_n hX dL_execute_2 0 rfl ?_
  refine zx_callV hX hM cv_RL_130 zRc0 dL_execute_3 ⟨hY, by decide, by decide⟩ rfl rfl (Nat.le_of_ble_eq_true rfl) (fun r h => by cases h) (fun E h => ?_)
  cases h
  refine z_catch (pre := []) (x := (0, 8, 11, 13)) hX hTab rfl (fun z hz => by cases hz) (by decide) (by decide) ck_13 ct_IAE (fun q => ?_)
  refine z_astore_n (lv' := _) hX dL_execute_11 (by decide) rfl ?_
  refine z_iconst (v := 1) hX dL_execute_12 (by decide) ?_
  exact z_iretI hX dL_execute_13 (by decide) rfl (fun _ h => h)
set_option maxRecDepth 100000 in
theorem he_execute_ISE (l : Launch) {g : zG} {κ κ' : zKp} {μ : zMu} {ω : zOm} {lvlY : Nat} (hY : lvlY < 20) (hM : zMx l g yX4_execute cX4_execute 3 (some .int) lvlY 1 [.ref (gA g 0 0 0)] κ μ ω κ' μ ω (.error xISE)) : zMW l g yL_execute cL_execute 3 hh_execute 20 1 [.ref (gA g 0 0 0), .ref (gA g 19 0 0)] κ μ ω κ' μ ω 2 := by
  refine zMW_of (by decide) (Nat.le_of_ble_eq_true rfl) (fun p e R s m args below meth c hX hTab => ?_)
  show zZ p l e R s m args below meth c g 3 _ _ _ _ 0 0 [(0, .ref (gA g 0 0 0)), (1, .ref (gA g 19 0 0))] []
  refine z_aload_n hX dL_execute_0 1 rfl ?_
  refine z_iconst (v := 0) hX dL_execute_1 (by decide) ?_
  refine z_aload_n hX dL_execute_2 0 rfl ?_
  refine zx_callV hX hM cv_RL_130 zRc0 dL_execute_3 ⟨hY, by decide, by decide⟩ rfl rfl (Nat.le_of_ble_eq_true rfl) (fun r h => by cases h) (fun E h => ?_)
  cases h
  refine z_catch (pre := [(0, 8, 11, 13)]) (x := (0, 8, 14, 15)) hX hTab rfl (fun z hz => by
    simp only [List.mem_cons, List.not_mem_nil, or_false] at hz
    rcases hz with rfl
    · exact ⟨by decide, _, ck_13, by decide +kernel⟩) (by decide) (by decide) ck_15 ct_ISE (fun q => ?_)
  refine z_astore_n (lv' := _) hX dL_execute_14 (by decide) rfl ?_
  refine z_iconst (v := 2) hX dL_execute_15 (by decide) ?_
  exact z_iretI hX dL_execute_16 (by decide) rfl (fun _ h => h)
abbrev hh_errorPosition : List (Nat × Nat × Nat × Nat) := [(0, 8, 11, 35)]
theorem wh_errorPosition : Cond.codeWith yL_errorPosition cL_errorPosition 3 (some .int) hh_errorPosition ∈ gW := gW_I 1078 (by decide +kernel) rfl
set_option maxRecDepth 100000 in
theorem hk_errorPosition (l : Launch) {g : zG} {κ κ' : zKp} {μ : zMu} {ω : zOm} {lvlY : Nat} {v : Int32} (hY : lvlY < 20) (hM : zM l g yX4_errorPosition cX4_errorPosition 1 (some .int) lvlY 0 [.ref (gA g 0 0 0)] κ μ ω κ' μ ω (some (.int v))) : zMW l g yL_errorPosition cL_errorPosition 3 hh_errorPosition 20 1 [.ref (gA g 0 0 0), .ref (gA g 19 0 0)] κ μ ω κ' μ (v.toInt64, ω.2) 0 := by
  refine zMW_of (by decide) (Nat.le_of_ble_eq_true rfl) (fun p e R s m args below meth c hX hTab => ?_)
  show zZ p l e R s m args below meth c g 3 _ _ _ _ 0 0 [(0, .ref (gA g 0 0 0)), (1, .ref (gA g 19 0 0))] []
  refine z_aload_n hX dL_errorPosition_0 1 rfl ?_
  refine z_iconst (v := 0) hX dL_errorPosition_1 (by decide) ?_
  refine z_aload_n hX dL_errorPosition_2 0 rfl ?_
  refine z_callV1 hX hM cv_RL_133 zRc0 dL_errorPosition_3 ⟨hY, by decide, by decide⟩ rfl rfl (Nat.le_of_ble_eq_true rfl) ?_
  refine z_i2l hX dL_errorPosition_6 ?_
  refine z_last hX dL_errorPosition_7 ?_
  refine z_goto (tgt := 14) hX dL_errorPosition_8 (by decide) ?_
  refine z_iconst (v := 0) hX dL_errorPosition_14 (by decide) ?_
  exact z_iretI hX dL_errorPosition_15 (by decide) rfl (fun _ h => h)
set_option maxRecDepth 100000 in
theorem he_errorPosition_NSE (l : Launch) {g : zG} {κ κ' : zKp} {μ : zMu} {ω : zOm} {lvlY : Nat} (hY : lvlY < 20) (hM : zMx l g yX4_errorPosition cX4_errorPosition 1 (some .int) lvlY 1 [.ref (gA g 0 0 0)] κ μ ω κ' μ ω (.error xNSE)) : zMW l g yL_errorPosition cL_errorPosition 3 hh_errorPosition 20 1 [.ref (gA g 0 0 0), .ref (gA g 19 0 0)] κ μ ω κ' μ ω 1 := by
  refine zMW_of (by decide) (Nat.le_of_ble_eq_true rfl) (fun p e R s m args below meth c hX hTab => ?_)
  show zZ p l e R s m args below meth c g 3 _ _ _ _ 0 0 [(0, .ref (gA g 0 0 0)), (1, .ref (gA g 19 0 0))] []
  refine z_aload_n hX dL_errorPosition_0 1 rfl ?_
  refine z_iconst (v := 0) hX dL_errorPosition_1 (by decide) ?_
  refine z_aload_n hX dL_errorPosition_2 0 rfl ?_
  refine zx_callV hX hM cv_RL_133 zRc0 dL_errorPosition_3 ⟨hY, by decide, by decide⟩ rfl rfl (Nat.le_of_ble_eq_true rfl) (fun r h => by cases h) (fun E h => ?_)
  cases h
  refine z_catch (pre := []) (x := (0, 8, 11, 35)) hX hTab rfl (fun z hz => by cases hz) (by decide) (by decide) ck_35 ct_NSE (fun q => ?_)
  refine z_astore_n (lv' := _) hX dL_errorPosition_11 (by decide) rfl ?_
  refine z_iconst (v := 1) hX dL_errorPosition_12 (by decide) ?_
  exact z_iretI hX dL_errorPosition_13 (by decide) rfl (fun _ h => h)
abbrev hh_failedCommand : List (Nat × Nat × Nat × Nat) := [(0, 8, 11, 35)]
theorem wh_failedCommand : Cond.codeWith yL_failedCommand cL_failedCommand 3 (some .int) hh_failedCommand ∈ gW := gW_I 1086 (by decide +kernel) rfl
set_option maxRecDepth 100000 in
theorem hk_failedCommand (l : Launch) {g : zG} {κ κ' : zKp} {μ : zMu} {ω : zOm} {lvlY : Nat} {v : Int32} (hY : lvlY < 20) (hM : zM l g yX4_failedCommand cX4_failedCommand 1 (some .int) lvlY 0 [.ref (gA g 0 0 0)] κ μ ω κ' μ ω (some (.int v))) : zMW l g yL_failedCommand cL_failedCommand 3 hh_failedCommand 20 1 [.ref (gA g 0 0 0), .ref (gA g 19 0 0)] κ μ ω κ' μ (v.toInt64, ω.2) 0 := by
  refine zMW_of (by decide) (Nat.le_of_ble_eq_true rfl) (fun p e R s m args below meth c hX hTab => ?_)
  show zZ p l e R s m args below meth c g 3 _ _ _ _ 0 0 [(0, .ref (gA g 0 0 0)), (1, .ref (gA g 19 0 0))] []
  refine z_aload_n hX dL_failedCommand_0 1 rfl ?_
  refine z_iconst (v := 0) hX dL_failedCommand_1 (by decide) ?_
  refine z_aload_n hX dL_failedCommand_2 0 rfl ?_
  refine z_callV1 hX hM cv_RL_136 zRc0 dL_failedCommand_3 ⟨hY, by decide, by decide⟩ rfl rfl (Nat.le_of_ble_eq_true rfl) ?_
  refine z_i2l hX dL_failedCommand_6 ?_
  refine z_last hX dL_failedCommand_7 ?_
  refine z_goto (tgt := 14) hX dL_failedCommand_8 (by decide) ?_
  refine z_iconst (v := 0) hX dL_failedCommand_14 (by decide) ?_
  exact z_iretI hX dL_failedCommand_15 (by decide) rfl (fun _ h => h)
set_option maxRecDepth 100000 in
theorem he_failedCommand_NSE (l : Launch) {g : zG} {κ κ' : zKp} {μ : zMu} {ω : zOm} {lvlY : Nat} (hY : lvlY < 20) (hM : zMx l g yX4_failedCommand cX4_failedCommand 1 (some .int) lvlY 1 [.ref (gA g 0 0 0)] κ μ ω κ' μ ω (.error xNSE)) : zMW l g yL_failedCommand cL_failedCommand 3 hh_failedCommand 20 1 [.ref (gA g 0 0 0), .ref (gA g 19 0 0)] κ μ ω κ' μ ω 1 := by
  refine zMW_of (by decide) (Nat.le_of_ble_eq_true rfl) (fun p e R s m args below meth c hX hTab => ?_)
  show zZ p l e R s m args below meth c g 3 _ _ _ _ 0 0 [(0, .ref (gA g 0 0 0)), (1, .ref (gA g 19 0 0))] []
  refine z_aload_n hX dL_failedCommand_0 1 rfl ?_
  refine z_iconst (v := 0) hX dL_failedCommand_1 (by decide) ?_
  refine z_aload_n hX dL_failedCommand_2 0 rfl ?_
  refine zx_callV hX hM cv_RL_136 zRc0 dL_failedCommand_3 ⟨hY, by decide, by decide⟩ rfl rfl (Nat.le_of_ble_eq_true rfl) (fun r h => by cases h) (fun E h => ?_)
  cases h
  refine z_catch (pre := []) (x := (0, 8, 11, 35)) hX hTab rfl (fun z hz => by cases hz) (by decide) (by decide) ck_35 ct_NSE (fun q => ?_)
  refine z_astore_n (lv' := _) hX dL_failedCommand_11 (by decide) rfl ?_
  refine z_iconst (v := 1) hX dL_failedCommand_12 (by decide) ?_
  exact z_iretI hX dL_failedCommand_13 (by decide) rfl (fun _ h => h)
abbrev hh_undo : List (Nat × Nat × Nat × Nat) := [(0, 8, 11, 15)]
theorem wh_undo : Cond.codeWith yL_undo cL_undo 3 (some .int) hh_undo ∈ gW := gW_I 1094 (by decide +kernel) rfl
set_option maxRecDepth 100000 in
theorem hk_undo (l : Launch) {g : zG} {κ κ' : zKp} {μ : zMu} {ω : zOm} {lvlY : Nat} {v : Int32} (hY : lvlY < 20) (hM : zM l g yX4_undo cX4_undo 1 (some .int) lvlY 0 [.ref (gA g 0 0 0)] κ μ ω κ' μ ω (some (.int v))) : zMW l g yL_undo cL_undo 3 hh_undo 20 1 [.ref (gA g 0 0 0), .ref (gA g 19 0 0)] κ μ ω κ' μ (v.toInt64, ω.2) 0 := by
  refine zMW_of (by decide) (Nat.le_of_ble_eq_true rfl) (fun p e R s m args below meth c hX hTab => ?_)
  show zZ p l e R s m args below meth c g 3 _ _ _ _ 0 0 [(0, .ref (gA g 0 0 0)), (1, .ref (gA g 19 0 0))] []
  refine z_aload_n hX dL_undo_0 1 rfl ?_
  refine z_iconst (v := 0) hX dL_undo_1 (by decide) ?_
  refine z_aload_n hX dL_undo_2 0 rfl ?_
  refine z_callV1 hX hM cv_RL_139 zRc0 dL_undo_3 ⟨hY, by decide, by decide⟩ rfl rfl (Nat.le_of_ble_eq_true rfl) ?_
  refine z_i2l hX dL_undo_6 ?_
  refine z_last hX dL_undo_7 ?_
  refine z_goto (tgt := 14) hX dL_undo_8 (by decide) ?_
  refine z_iconst (v := 0) hX dL_undo_14 (by decide) ?_
  exact z_iretI hX dL_undo_15 (by decide) rfl (fun _ h => h)
set_option maxRecDepth 100000 in
theorem he_undo_ISE (l : Launch) {g : zG} {κ κ' : zKp} {μ : zMu} {ω : zOm} {lvlY : Nat} (hY : lvlY < 20) (hM : zMx l g yX4_undo cX4_undo 1 (some .int) lvlY 1 [.ref (gA g 0 0 0)] κ μ ω κ' μ ω (.error xISE)) : zMW l g yL_undo cL_undo 3 hh_undo 20 1 [.ref (gA g 0 0 0), .ref (gA g 19 0 0)] κ μ ω κ' μ ω 1 := by
  refine zMW_of (by decide) (Nat.le_of_ble_eq_true rfl) (fun p e R s m args below meth c hX hTab => ?_)
  show zZ p l e R s m args below meth c g 3 _ _ _ _ 0 0 [(0, .ref (gA g 0 0 0)), (1, .ref (gA g 19 0 0))] []
  refine z_aload_n hX dL_undo_0 1 rfl ?_
  refine z_iconst (v := 0) hX dL_undo_1 (by decide) ?_
  refine z_aload_n hX dL_undo_2 0 rfl ?_
  refine zx_callV hX hM cv_RL_139 zRc0 dL_undo_3 ⟨hY, by decide, by decide⟩ rfl rfl (Nat.le_of_ble_eq_true rfl) (fun r h => by cases h) (fun E h => ?_)
  cases h
  refine z_catch (pre := []) (x := (0, 8, 11, 15)) hX hTab rfl (fun z hz => by cases hz) (by decide) (by decide) ck_15 ct_ISE (fun q => ?_)
  refine z_astore_n (lv' := _) hX dL_undo_11 (by decide) rfl ?_
  refine z_iconst (v := 1) hX dL_undo_12 (by decide) ?_
  exact z_iretI hX dL_undo_13 (by decide) rfl (fun _ h => h)
abbrev hh_restore : List (Nat × Nat × Nat × Nat) := [(0, 8, 11, 15)]
theorem wh_restore : Cond.codeWith yL_restore cL_restore 3 (some .int) hh_restore ∈ gW := gW_I 1106 (by decide +kernel) rfl
set_option maxRecDepth 100000 in
theorem hk_restore (l : Launch) {g : zG} {κ κ' : zKp} {μ : zMu} {ω : zOm} {lvlY : Nat} {v : Int32} (hY : lvlY < 20) (hM : zM l g yX4_restore cX4_restore 1 (some .int) lvlY 0 [.ref (gA g 0 0 0)] κ μ ω κ' μ ω (some (.int v))) : zMW l g yL_restore cL_restore 3 hh_restore 20 1 [.ref (gA g 0 0 0), .ref (gA g 19 0 0)] κ μ ω κ' μ (v.toInt64, ω.2) 0 := by
  refine zMW_of (by decide) (Nat.le_of_ble_eq_true rfl) (fun p e R s m args below meth c hX hTab => ?_)
  show zZ p l e R s m args below meth c g 3 _ _ _ _ 0 0 [(0, .ref (gA g 0 0 0)), (1, .ref (gA g 19 0 0))] []
  refine z_aload_n hX dL_restore_0 1 rfl ?_
  refine z_iconst (v := 0) hX dL_restore_1 (by decide) ?_
  refine z_aload_n hX dL_restore_2 0 rfl ?_
  refine z_callV1 hX hM cv_RL_142 zRc0 dL_restore_3 ⟨hY, by decide, by decide⟩ rfl rfl (Nat.le_of_ble_eq_true rfl) ?_
  refine z_i2l hX dL_restore_6 ?_
  refine z_last hX dL_restore_7 ?_
  refine z_goto (tgt := 14) hX dL_restore_8 (by decide) ?_
  refine z_iconst (v := 0) hX dL_restore_14 (by decide) ?_
  exact z_iretI hX dL_restore_15 (by decide) rfl (fun _ h => h)
set_option maxRecDepth 100000 in
theorem he_restore_ISE (l : Launch) {g : zG} {κ κ' : zKp} {μ : zMu} {ω : zOm} {lvlY : Nat} (hY : lvlY < 20) (hM : zMx l g yX4_restore cX4_restore 1 (some .int) lvlY 1 [.ref (gA g 0 0 0)] κ μ ω κ' μ ω (.error xISE)) : zMW l g yL_restore cL_restore 3 hh_restore 20 1 [.ref (gA g 0 0 0), .ref (gA g 19 0 0)] κ μ ω κ' μ ω 1 := by
  refine zMW_of (by decide) (Nat.le_of_ble_eq_true rfl) (fun p e R s m args below meth c hX hTab => ?_)
  show zZ p l e R s m args below meth c g 3 _ _ _ _ 0 0 [(0, .ref (gA g 0 0 0)), (1, .ref (gA g 19 0 0))] []
  refine z_aload_n hX dL_restore_0 1 rfl ?_
  refine z_iconst (v := 0) hX dL_restore_1 (by decide) ?_
  refine z_aload_n hX dL_restore_2 0 rfl ?_
  refine zx_callV hX hM cv_RL_142 zRc0 dL_restore_3 ⟨hY, by decide, by decide⟩ rfl rfl (Nat.le_of_ble_eq_true rfl) (fun r h => by cases h) (fun E h => ?_)
  cases h
  refine z_catch (pre := []) (x := (0, 8, 11, 15)) hX hTab rfl (fun z hz => by cases hz) (by decide) (by decide) ck_15 ct_ISE (fun q => ?_)
  refine z_astore_n (lv' := _) hX dL_restore_11 (by decide) rfl ?_
  refine z_iconst (v := 1) hX dL_restore_12 (by decide) ?_
  exact z_iretI hX dL_restore_13 (by decide) rfl (fun _ h => h)
end ZHQ
