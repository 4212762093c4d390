section ZX0
def zPo (g : zG) (κ : zKp) (μ : zMu) (ω : zOm) (oc : Except String (Option Value)) : Array Value → State → Outcome → State → Prop := fun _ st o t => ∃ r, oc = .ok r ∧ o = .returned r ∧ WW g κ μ ω t.heap ∧ va_F (zA g) st t
def zPx (g : zG) (κ : zKp) (μ : zMu) (ω : zOm) (oc : Except String (Option Value)) : String → State → State → Prop := fun E st t => oc = .error E ∧ WW g κ μ ω t.heap ∧ va_F (zA g) st t
/-- a method that returns or throws: what, and the world behind it -/
def zMx (l : Launch) (g : zG) (y : MethodName) (cc : ByteArray) (n : Nat) (ret : Option FieldType) (lvl mc : Nat) (As : List Value) (κ : zKp) (μ : zMu) (ω : zOm) (κ' : zKp) (μ' : zMu) (ω' : zOm) (oc : Except String (Option Value)) : Prop :=
  vx_Met l y (.code y cc n ret :: gW) (zR lvl mc) (va_Pc As (zPre g κ μ ω)) (zPo g κ' μ' ω' oc) (zPx g κ' μ' ω' oc) mc (6 * mc) (zA g)
abbrev zQx (g : zG) (κ' : zKp) (μ' : zMu) (ω' : zOm) (oc : Except String (Option Value)) (below : List Frame) (args : Array Value) (s : State) (mc : Nat) : State → Prop := vx_MQ below (zPo g κ' μ' ω' oc) (zPx g κ' μ' ω' oc) args s mc (6 * mc) (zA g)
/-- an exception of class E stands over the frame -/
def zTh (p : Program) (l : Launch) (e : Env) (R : Room) (s : State) (m : MethodId) (args : Array Value) (below : List Frame) (meth : Method) (c : Code) (g : zG) (n : Nat) (Q : State → Prop) (κ : zKp) (μ : zMu) (ω : zOm) (k pc : Nat) (lv : List (Nat × Value)) (st : List Value) (E : String) : Prop :=
  ∀ (H : Heap) (ls : Array Slot) (locs : List Loc) (q : Addr) (ce : Cell), lv_has ls n lv → va_S (zA g) s.heap H locs → WW g κ μ ω H → H[q]? = some ce → ce.vm = .none → s.vm.findClass E = some ce.cls → vx_W p l e R s m args below meth c H locs k (6 * k) Q (F0 m pc ls st) q
end ZX0
section ZX1
variable {p : Program} {l : Launch} {e : Env} {R : Room} {s : State} {m : MethodId} {args : Array Value} {below : List Frame} {meth : Method} {c : Code} {Q : State → Prop} {g : zG} {own : String} {cc : ByteArray} {n lvl mc : Nat} {ret : Option FieldType} {κ κ' : zKp} {μ μ' : zMu} {ω ω' : zOm} {k pc : Nat} {lv lv' : List (Nat × Value)} {st : List Value} {oc : Except String (Option Value)}
theorem W_mono {H : Heap} {locs : List Loc} {cells slots : Nat} {Q' : State → Prop} {fr : JFrame} (h : ∀ t, Q t → Q' t) (kk : W p l e R s m args below meth c H locs cells slots Q fr) : W p l e R s m args below meth c H locs cells slots Q' fr := fun T hT X => by
  obtain ⟨t, a, b⟩ := kk T hT X
  exact ⟨t, a, h t b⟩
/-- an end that returns -/
theorem zx_of {r : Option Value} (ho : oc = .ok r) (kk : zZ p l e R s m args below meth c g n (zQ g κ' μ' ω' r below args s mc) κ μ ω k pc lv st) : zZ p l e R s m args below meth c g n (zQx g κ' μ' ω' oc below args s mc) κ μ ω k pc lv st := fun H ls locs hl hS hW => W_mono (fun t ht => by
  obtain ⟨o, h1, h2, ⟨h3, h4, h5⟩, h6⟩ := ht
  exact ⟨o, h1, h2, Or.inl ⟨⟨r, ho, h3, h4, h5⟩, h6⟩⟩) (kk H ls locs hl hS hW)
theorem WW.lt {H : Heap} (h : WW g κ μ ω H) {q : Nat × va_E} {j : Nat} (hq : (zWs g κ μ ω)[j]? = some q) : q.1 < H.size := (h.1 j q hq).lt
theorem WW.kept {H H1 : Heap} (h : WW g κ μ ω H) (hq : ∀ q : Nat, q < H.size → H1[q]? = H[q]?) : WW g κ μ ω H1 := ⟨h.1.kept (fun j q hj => hq q.1 (WW.lt h hj)), h.2⟩
theorem zx_back {mcY : Nat} {rest st0 : List Value} {a : Array Value} {H : Heap} {ls : Array Slot} {locs : List Loc} (hl : lv_has ls n lv) (hS : va_S (zA g) s.heap H locs)
    (hr : vx_Run p l e R s m args below meth c H locs k (6 * k) mcY (6 * mcY) (F0 m pc ls st0) rest (zPo g κ' μ' ω' oc a) (zPx g κ' μ' ω' oc) (zA g)) (kk : ∀ r, oc = .ok r → zZ p l e R s m args below meth c g n Q κ' μ' ω' (k + mcY) (pc + 3) lv (r.toList ++ rest)) (kx : ∀ E, oc = .error E → zTh p l e R s m args below meth c g n Q κ' μ' ω' (k + mcY) pc lv rest E) : W p l e R s m args below meth c H locs k (6 * k) Q (F0 m pc ls st0) := by
  intro T hT X
  have key : ∀ {st₀ t T' : State} {L : List Loc}, st₀.heap = H → T'.heap = t.heap → va_F (zA g) st₀ t → (∀ q ∈ L, zA g q.base) → va_S (zA g) s.heap T'.heap (locs ++ L) := by
    intro st₀ t T' L h0 e1 hF hL
    refine ⟨Nat.le_trans hS.1 (by rw [e1, ← h0]; exact hF.1), fun q h1 h2 => ?_, fun q hq => ?_⟩
    · rw [e1, hF.2 q (by rw [h0]; exact Nat.lt_of_lt_of_le h1 hS.1) h2, h0]
      exact hS.2.1 q h1 h2
    · rcases List.mem_append.mp hq with h | h
      · exact hS.2.2 q h
      · exact hL q h
  rcases hr T hT X with ⟨v, st₀, t, T', L, h0, X', hL, e1, e2, ⟨r, ho, hv, hw, hF⟩, stp⟩ | ⟨q, st₀, t, T', L, E, ce, h0, X', hL, e1, e2, ⟨ho, hw, hF⟩, hce, hcv, hcl, stp⟩
  · cases hv
    rw [← Nat.mul_add] at X'
    obtain ⟨t2, a1, b1⟩ := kk v ho T'.heap ls (locs ++ L) hl (key h0 e1 hF hL) (by rw [e1]; exact hw) T' rfl X'
    exact ⟨t2, stp t2 a1, b1⟩
  · rw [← Nat.mul_add] at X'
    obtain ⟨t2, a1, b1⟩ := kx E ho T'.heap ls (locs ++ L) q ce hl (key h0 e1 hF hL) (by rw [e1]; exact hw) (by rw [e1]; exact hce) hcv hcl T' rfl X'
    exact ⟨t2, stp.trans a1, b1⟩
theorem zx_callV (hX : zX p l s m args meth c R g own cc n ret lvl mc) {idx nY lvlY mcY b nA : Nat} {y : MethodName} {cY : ByteArray} {retY : Option FieldType} {As rest : List Value} (hM : zMx l g y cY nY retY lvlY mcY (.ref b :: As) κ μ ω κ' μ' ω' oc) (hC : zCV own idx y cY nY retY nA) (hrc : zRc g y.cls b) (d : decode cc pc = .ok (.invokevirtual idx, 3)) (hlv : lvlY < lvl ∧ nY ≤ 81 ∧ k + mcY ≤ mc) (hA : As.length = nA) (hst : st = As.reverse ++ .ref b :: rest) (hcat : (rest.map fun v => v.category).sum ≤ 8) (kk : ∀ r, oc = .ok r → zZ p l e R s m args below meth c g n Q κ' μ' ω' (k + mcY) (pc + 3) lv (r.toList ++ rest)) (kx : ∀ E, oc = .error E → zTh p l e R s m args below meth c g n Q κ' μ' ω' (k + mcY) pc lv rest E) : zZ p l e R s m args below meth c g n Q κ μ ω k pc lv st := fun H ls locs hl hS hW => by
  obtain ⟨hx, hb, hml, hown, hts, hK, hB, hs, hR, -⟩ := id hX
  obtain ⟨hG, h1, h2, h3⟩ := hC
  subst hst
  exact zx_back hl hS (vx_runV (nL := n) ⟨hx, hb, hml, hown, hts⟩ hM (cwV nA hts hG rfl rfl rfl ⟨rfl, h1, h2, h3⟩ ⟨Nat.le_trans hlv.1 hR.1, Nat.le_trans (zroom hlv.1 hlv.2.1) hR.2.1⟩) ⟨zPre_blind, hrc κ μ ω s H hK hW, fun U hU hw => ⟨rfl, hX.pre hS hW hU hw⟩⟩ rfl hA hl.1 rfl (lv_room hcat) d ⟨Nat.le_trans hlv.2.2 hR.2.2.1, by rw [← Nat.mul_add]; exact Nat.le_trans (Nat.mul_le_mul_left 6 hlv.2.2) hR.2.2.2⟩) kk kx
theorem zx_callS (hX : zX p l s m args meth c R g own cc n ret lvl mc) {idx nY lvlY mcY nA : Nat} {y : MethodName} {cY : ByteArray} {retY : Option FieldType} {As rest : List Value} (hM : zMx l g y cY nY retY lvlY mcY As κ μ ω κ' μ' ω' oc) (hC : zCS own idx y cY nY retY nA) (d : decode cc pc = .ok (.invokestatic idx, 3)) (hlv : lvlY < lvl ∧ nY ≤ 81 ∧ k + mcY ≤ mc) (hA : As.length = nA) (hst : st = As.reverse ++ rest) (hcat : (rest.map fun v => v.category).sum ≤ 8) (kk : ∀ r, oc = .ok r → zZ p l e R s m args below meth c g n Q κ' μ' ω' (k + mcY) (pc + 3) lv (r.toList ++ rest)) (kx : ∀ E, oc = .error E → zTh p l e R s m args below meth c g n Q κ' μ' ω' (k + mcY) pc lv rest E) : zZ p l e R s m args below meth c g n Q κ μ ω k pc lv st := fun H ls locs hl hS hW => by
  obtain ⟨hx, hb, hml, hown, hts, hK, hB, hs, hR, -⟩ := id hX
  obtain ⟨hG, h1, h2, h3⟩ := hC
  subst hst
  exact zx_back hl hS (vx_runS (nL := n) ⟨hx, hb, hml, hown, hts⟩ hM (va_cwS nA hts hG rfl rfl rfl ⟨h1, h2, h3⟩ ⟨Nat.le_trans hlv.1 hR.1, Nat.le_trans (zroom hlv.1 hlv.2.1) hR.2.1⟩) ⟨zPre_blind, fun U hU hw => ⟨rfl, hX.pre hS hW hU hw⟩⟩ rfl hA hl.1 rfl (lv_room hcat) d ⟨Nat.le_trans hlv.2.2 hR.2.2.1, by rw [← Nat.mul_add]; exact Nat.le_trans (Nat.mul_le_mul_left 6 hlv.2.2) hR.2.2.2⟩) kk kx
/-- not caught here -/
theorem zx_out {E : String} {rest : List Value} (hX : zX p l s m args meth c R g own cc n ret lvl mc) (hT : ∀ x ∈ c.exceptionTable.toList, False) (hk : k ≤ mc) (ho : oc = .error E) (hw : ∀ H, WW g κ μ ω H → WW g κ' μ' ω' H) : zTh p l e R s m args below meth c g n (zQx g κ' μ' ω' oc below args s mc) κ μ ω k pc lv rest E := fun H ls locs q ce hl hS hW hq hv hc => by
  obtain ⟨-, -, -, -, -, -, -, -, -, hlk, -⟩ := hX
  exact vx_widen hk (Nat.mul_le_mul_left 6 hk) (vx_out (fun x hx => (hT x hx).elim) hlk hq hv hc (fun t ht _ => ⟨ho, by rw [ht]; exact hw H hW, hS.F ht⟩) hS.2.2 (Nat.le_refl _) (Nat.le_refl _))
/-- a contract from its body -/
theorem zMx_of {y : MethodName} {As : List Value} (hy : plainName y.cls = true) (hlen : (lg_sl As).length ≤ n) (body : ∀ (p : Program) (e : Env) (R : Room) (s : State) (m : MethodId) (args : Array Value) (below : List Frame) (meth : Method) (c : Code), zX p l s m args meth c R g y.cls cc n ret lvl mc → (∀ x ∈ c.exceptionTable.toList, False) → zZ p l e R s m args below meth c g n (zQx g κ' μ' ω' oc below args s mc) κ μ ω 0 0 (lv_args 0 As) []) : zMx l g y cc n ret lvl mc As κ μ ω κ' μ' ω' oc := by
  refine vx_ofW (cc := cc) (maxL := n) (ret := ret) hy rfl ?_
  intro p e s m args below meth c s₁ B hml hT hv
  obtain ⟨rfl, hW, hK, hB, hs⟩ := hv
  have hts := atoms_spec (ws := .code y cc n ret :: gW) B.pre
  have hl := lv_entry As (n := n) hlen
  rw [lg_entry_eq]
  exact body p e (zR lvl mc) s m As.toArray below meth c ⟨B.exec, B.bytes, hml, findClass_of_methodNamed B.named, fun w hw => hts w (List.mem_cons_of_mem _ hw), hK, hB, hs, ⟨Nat.le_refl _, Nat.le_refl _, Nat.le_refl _, Nat.le_refl _⟩, B.notSynchronized, B.returns⟩ hT s.heap _ [] hl va_S.rf hW
theorem gNw_use (h : gNw s) {w : Cond} (hw : w ∈ tables_1) (hz : zIsNw w = true) : w.before args s = true := by
  have h0 := h w hw hz
  cases w
  case methodLinkNest => exact va_Nw.use rfl h0
  case castable => exact va_Nw.use rfl h0
  case declares => exact va_Nw.use rfl h0
  all_goals (cases hz)
theorem zhat {L : List Cond} (h1 : ∀ w ∈ L.filter goodWord, w ∈ lw_tbl) (h2 : ∀ w ∈ L.filter (fun w => !goodWord w), w ∈ tables_1 ∧ zIsNw w = true) (hX : zX p l s m args meth c R g own cc n ret lvl mc) : ∀ w ∈ L, w.before args s = true := fun w hw => by
  obtain ⟨hx, hb, hml, hown, hts, hK, hB, hs, hR, -⟩ := id hX
  by_cases hg : goodWord w = true
  · exact hts w (gW_L (h1 w (List.mem_filter.mpr ⟨hw, hg⟩)) hg)
  · obtain ⟨q1, q2⟩ := h2 w (List.mem_filter.mpr ⟨hw, by simp [hg]⟩)
    exact gNw_use hB.2.2.2.2.2.1 q1 q2
theorem z_throw (hX : zX p l s m args meth c R g own cc n ret lvl mc) (hT : ∀ x ∈ c.exceptionTable.toList, False) (hl0 : l.stackTraces = false) {cls text : String} {names : List String} {ik is ic i : Nat} (hcls : Bundle.fit cls = true) (hnames : ∀ n ∈ names, Bundle.fit n = true) (hk0 : Cond.classLink own ik cls ∈ gW) (hini : Cond.initialized cls ∈ gW) (hlit : zLit[i]? = some (own, is, text)) (hat : ∀ w ∈ vx_atS own ic cls names, w.before args s = true) (hgood : ∀ w ∈ Cond.classLink own ik cls :: Cond.initialized cls :: vx_atS own ic cls names, vx_ot w = true)
    (d0 : decode cc pc = .ok (.new ik, 3)) (d3 : decode cc (pc + 3) = .ok (.dup, 1)) (d4 : decode cc (pc + 4) = .ok (.ldc is, 2)) (d6 : decode cc (pc + 6) = .ok (.invokespecial ic, 3)) (d9 : decode cc (pc + 9) = .ok (.athrow, 1)) (hlv : names.length + 3 < lvl ∧ k + 1 ≤ mc) (hcat : (st.map fun v => v.category).sum + (13 * (names.length + 1) + 43) ≤ 100 * lvl) (ho : oc = .error cls) (hw : ∀ H, WW g κ μ ω H → WW g κ' μ' ω' H) : zZ p l e R s m args below meth c g n (zQx g κ' μ' ω' oc below args s mc) κ μ ω k pc lv st := fun H ls locs hl hS hW => by
  obtain ⟨hx, hb, hml, hown, hts, hK, hB, hs, hR, hlk, -⟩ := id hX
  have h6 : 6 * k + 6 ≤ 6 * mc := by omega
  exact vx_throwS hx hb hl0 hown hcls hnames (hts _ hk0) (hts _ hini) (hB.2.1 i _ hlit) hat hgood hB.2.2.1 hB.2.2.2.1 hS (hl.1.trans hml.symm) d0 d3 d4 d6 d9 (fun x hx => (hT x hx).elim) (Nat.lt_of_lt_of_le hlv.1 hR.1) (Nat.le_trans hcat hR.2.1) (Nat.le_trans hlv.2 hR.2.2.1) (Nat.le_trans h6 hR.2.2.2) hlk (fun t _ h1 h2 => ⟨ho, (hw H hW).kept h2, Nat.le_trans hS.1 h1, fun q q1 q2 => (h2 q (Nat.lt_of_lt_of_le q1 hS.1)).trans (hS.2.1 q q1 q2)⟩) hS.2.2 hlv.2 h6
theorem z_throwW (hX : zX p l s m args meth c R g own cc n ret lvl mc) (hT : ∀ x ∈ c.exceptionTable.toList, False) (hl0 : l.stackTraces = false) {cls text : String} {names : List String} {ik is ic i : Nat} (hcls : Bundle.fit cls = true) (hnames : ∀ n ∈ names, Bundle.fit n = true) (hk0 : Cond.classLink own ik cls ∈ gW) (hini : Cond.initialized cls ∈ gW) (hlit : zLit[i]? = some (own, is, text)) (hat : ∀ w ∈ vx_atS own ic cls names, w.before args s = true) (hgood : ∀ w ∈ Cond.classLink own ik cls :: Cond.initialized cls :: vx_atS own ic cls names, vx_ot w = true)
    (d0 : decode cc pc = .ok (.new ik, 3)) (d3 : decode cc (pc + 3) = .ok (.dup, 1)) (d4 : decode cc (pc + 4) = .ok (.ldc_w is, 3)) (d7 : decode cc (pc + 7) = .ok (.invokespecial ic, 3)) (d10 : decode cc (pc + 10) = .ok (.athrow, 1)) (hlv : names.length + 3 < lvl ∧ k + 1 ≤ mc) (hcat : (st.map fun v => v.category).sum + (13 * (names.length + 1) + 43) ≤ 100 * lvl) (ho : oc = .error cls) (hw : ∀ H, WW g κ μ ω H → WW g κ' μ' ω' H) : zZ p l e R s m args below meth c g n (zQx g κ' μ' ω' oc below args s mc) κ μ ω k pc lv st := fun H ls locs hl hS hW => by
  obtain ⟨hx, hb, hml, hown, hts, hK, hB, hs, hR, hlk, -⟩ := id hX
  have h6 : 6 * k + 6 ≤ 6 * mc := by omega
  exact vx_throwSW hx hb hl0 hown hcls hnames (hts _ hk0) (hts _ hini) (hB.2.1 i _ hlit) hat hgood hB.2.2.1 hB.2.2.2.1 hS (hl.1.trans hml.symm) d0 d3 d4 d7 d10 (fun x hx => (hT x hx).elim) (Nat.lt_of_lt_of_le hlv.1 hR.1) (Nat.le_trans hcat hR.2.1) (Nat.le_trans hlv.2 hR.2.2.1) (Nat.le_trans h6 hR.2.2.2) hlk (fun t _ h1 h2 => ⟨ho, (hw H hW).kept h2, Nat.le_trans hS.1 h1, fun q q1 q2 => (h2 q (Nat.lt_of_lt_of_le q1 hS.1)).trans (hS.2.1 q q1 q2)⟩) hS.2.2 hlv.2 h6
theorem zx_callV1 (hX : zX p l s m args meth c R g own cc n ret lvl mc) {idx nY lvlY mcY nA : Nat} {b : Nat} {y : MethodName} {cY : ByteArray} {retY : Option FieldType} {As rest : List Value} {v : Value} (hM : zMx l g y cY nY retY lvlY mcY (.ref b :: As) κ μ ω κ' μ' ω' (.ok (some v))) (hC : zCV own idx y cY nY retY nA) (hrc : zRc g y.cls b) (d : decode cc pc = .ok (.invokevirtual idx, 3)) (hlv : lvlY < lvl ∧ nY ≤ 81 ∧ k + mcY ≤ mc) (hA : As.length = nA) (hst : st = As.reverse ++ .ref b :: rest) (hcat : (rest.map fun v => v.category).sum ≤ 8) (kk : zZ p l e R s m args below meth c g n Q κ' μ' ω' (k + mcY) (pc + 3) lv (v :: rest)) : zZ p l e R s m args below meth c g n Q κ μ ω k pc lv st := zx_callV hX hM hC hrc d hlv hA hst hcat (fun r h => by cases h; exact kk) (fun E h => by cases h)
theorem zx_callV0 (hX : zX p l s m args meth c R g own cc n ret lvl mc) {idx nY lvlY mcY nA : Nat} {b : Nat} {y : MethodName} {cY : ByteArray} {retY : Option FieldType} {As rest : List Value} (hM : zMx l g y cY nY retY lvlY mcY (.ref b :: As) κ μ ω κ' μ' ω' (.ok none)) (hC : zCV own idx y cY nY retY nA) (hrc : zRc g y.cls b) (d : decode cc pc = .ok (.invokevirtual idx, 3)) (hlv : lvlY < lvl ∧ nY ≤ 81 ∧ k + mcY ≤ mc) (hA : As.length = nA) (hst : st = As.reverse ++ .ref b :: rest) (hcat : (rest.map fun v => v.category).sum ≤ 8) (kk : zZ p l e R s m args below meth c g n Q κ' μ' ω' (k + mcY) (pc + 3) lv rest) : zZ p l e R s m args below meth c g n Q κ μ ω k pc lv st := zx_callV hX hM hC hrc d hlv hA hst hcat (fun r h => by cases h; exact kk) (fun E h => by cases h)
theorem zx_callVE {κ2 : zKp} {μ2 : zMu} {ω2 : zOm} (hX : zX p l s m args meth c R g own cc n ret lvl mc) {idx nY lvlY mcY nA : Nat} {b : Nat} {y : MethodName} {cY : ByteArray} {retY : Option FieldType} {As rest : List Value} {E : String} (hT : ∀ x ∈ c.exceptionTable.toList, False) (hM : zMx l g y cY nY retY lvlY mcY (.ref b :: As) κ μ ω κ2 μ2 ω2 (.error E)) (hC : zCV own idx y cY nY retY nA) (hrc : zRc g y.cls b) (d : decode cc pc = .ok (.invokevirtual idx, 3)) (hlv : lvlY < lvl ∧ nY ≤ 81 ∧ k + mcY ≤ mc) (hA : As.length = nA) (hst : st = As.reverse ++ .ref b :: rest) (hcat : (rest.map fun v => v.category).sum ≤ 8) (ho : oc = .error E) (hw : ∀ H, WW g κ2 μ2 ω2 H → WW g κ' μ' ω' H) : zZ p l e R s m args below meth c g n (zQx g κ' μ' ω' oc below args s mc) κ μ ω k pc lv st := zx_callV hX hM hC hrc d hlv hA hst hcat (fun r h => by cases h) (fun E h => by cases h; exact zx_out hX hT hlv.2.2 ho hw)
theorem zx_callS1 (hX : zX p l s m args meth c R g own cc n ret lvl mc) {idx nY lvlY mcY nA : Nat} {y : MethodName} {cY : ByteArray} {retY : Option FieldType} {As rest : List Value} {v : Value} (hM : zMx l g y cY nY retY lvlY mcY As κ μ ω κ' μ' ω' (.ok (some v))) (hC : zCS own idx y cY nY retY nA) (d : decode cc pc = .ok (.invokestatic idx, 3)) (hlv : lvlY < lvl ∧ nY ≤ 81 ∧ k + mcY ≤ mc) (hA : As.length = nA) (hst : st = As.reverse ++ rest) (hcat : (rest.map fun v => v.category).sum ≤ 8) (kk : zZ p l e R s m args below meth c g n Q κ' μ' ω' (k + mcY) (pc + 3) lv (v :: rest)) : zZ p l e R s m args below meth c g n Q κ μ ω k pc lv st := zx_callS hX hM hC d hlv hA hst hcat (fun r h => by cases h; exact kk) (fun E h => by cases h)
theorem zx_callS0 (hX : zX p l s m args meth c R g own cc n ret lvl mc) {idx nY lvlY mcY nA : Nat} {y : MethodName} {cY : ByteArray} {retY : Option FieldType} {As rest : List Value} (hM : zMx l g y cY nY retY lvlY mcY As κ μ ω κ' μ' ω' (.ok none)) (hC : zCS own idx y cY nY retY nA) (d : decode cc pc = .ok (.invokestatic idx, 3)) (hlv : lvlY < lvl ∧ nY ≤ 81 ∧ k + mcY ≤ mc) (hA : As.length = nA) (hst : st = As.reverse ++ rest) (hcat : (rest.map fun v => v.category).sum ≤ 8) (kk : zZ p l e R s m args below meth c g n Q κ' μ' ω' (k + mcY) (pc + 3) lv rest) : zZ p l e R s m args below meth c g n Q κ μ ω k pc lv st := zx_callS hX hM hC d hlv hA hst hcat (fun r h => by cases h; exact kk) (fun E h => by cases h)
theorem zx_callSE {κ2 : zKp} {μ2 : zMu} {ω2 : zOm} (hX : zX p l s m args meth c R g own cc n ret lvl mc) {idx nY lvlY mcY nA : Nat} {y : MethodName} {cY : ByteArray} {retY : Option FieldType} {As rest : List Value} {E : String} (hT : ∀ x ∈ c.exceptionTable.toList, False) (hM : zMx l g y cY nY retY lvlY mcY As κ μ ω κ2 μ2 ω2 (.error E)) (hC : zCS own idx y cY nY retY nA) (d : decode cc pc = .ok (.invokestatic idx, 3)) (hlv : lvlY < lvl ∧ nY ≤ 81 ∧ k + mcY ≤ mc) (hA : As.length = nA) (hst : st = As.reverse ++ rest) (hcat : (rest.map fun v => v.category).sum ≤ 8) (ho : oc = .error E) (hw : ∀ H, WW g κ2 μ2 ω2 H → WW g κ' μ' ω' H) : zZ p l e R s m args below meth c g n (zQx g κ' μ' ω' oc below args s mc) κ μ ω k pc lv st := zx_callS hX hM hC d hlv hA hst hcat (fun r h => by cases h) (fun E h => by cases h; exact zx_out hX hT hlv.2.2 ho hw)
end ZX1
