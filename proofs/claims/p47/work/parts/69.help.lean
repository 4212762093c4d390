section ZHP
variable {p : Program} {l : Launch} {e : Env} {R : Room} {s : State} {m : MethodId} {args : Array Value} {below : List Frame} {meth : Method} {c : Code} {Q : State → Prop} {g : zG} {own : String} {cc : ByteArray} {n lvl mc : Nat} {ret : Option FieldType} {κ κ' : zKp} {μ μ' : zMu} {ω ω' : zOm} {k pc : Nat} {lv lv' : List (Nat × Value)} {st : List Value}
theorem tab_app {a b : List (Nat × Nat × Nat × Nat)} : tableOf (a ++ b) = tableOf a ++ tableOf b := List.map_append
/-- caught here -/
theorem z_catch (hX : zX p l s m args meth c R g own cc n ret lvl mc) {E : String} {hh pre suf : List (Nat × Nat × Nat × Nat)} {x : Nat × Nat × Nat × Nat} (hTab : c.exceptionTable.toList = tableOf hh) (hsp : hh = pre ++ x :: suf) (hpass : ∀ z ∈ pre, z.2.2.2 ≠ 0 ∧ ∃ nm : String, Cond.classLink own z.2.2.2 nm ∈ gW ∧ (E, nm) ∈ zNc) (hx : x.1 ≤ pc ∧ pc < x.2.1) (h0 : x.2.2.2 ≠ 0) (hlink : Cond.classLink own x.2.2.2 E ∈ gW) (hcast : Cond.castable E E ∈ tables_1) (kk : ∀ q, zZ p l e R s m args below meth c g n Q κ μ ω k x.2.2.1 lv [.ref q]) : zTh p l e R s m args below meth c g n Q κ μ ω k pc lv st E := fun H ls locs q ce hl hS hW hq hv hc => by
  obtain ⟨hx1, hb, hml, hown, hts, hK, hB, hs, hR, -⟩ := id hX
  refine vx_catch (own := own) (name := E) hown (tableOf pre) ⟨x.1, x.2.1, x.2.2.1, x.2.2.2⟩ (tableOf suf) (by rw [hTab, hsp, tab_app]; rfl) (fun z hz => ?_) (by show (decide (x.1 ≤ pc) && decide (pc < x.2.1)) = true; rw [Bool.and_eq_true]; exact ⟨decide_eq_true hx.1, decide_eq_true hx.2⟩) h0 (hts _ hlink) (gNw_use hB.2.2.2.2.2.1 hcast rfl) hq hv hc (kk q H ls locs hl hS hW)
  obtain ⟨w, hw, rfl⟩ := List.mem_map.mp hz
  obtain ⟨h1, nm, h2, h3⟩ := hpass w hw
  exact Or.inr ⟨h1, nm, hts _ h2, hB.2.2.2.2.2.2.1 _ h3⟩
/-- a helper of the law: it catches, and answers a number -/
def zMW (l : Launch) (g : zG) (y : MethodName) (cc : ByteArray) (n : Nat) (hh : List (Nat × Nat × Nat × Nat)) (lvl mc : Nat) (As : List Value) (κ : zKp) (μ : zMu) (ω : zOm) (κ' : zKp) (μ' : zMu) (ω' : zOm) (v : Int32) : Prop :=
  Met l y (.codeWith y cc n (some .int) hh :: gW) (zR lvl mc) (va_Pc As (zPre g κ μ ω)) (zPost g κ' μ' ω' (some (.int v))) mc (6 * mc) (zA g)
theorem zMW_of {hh : List (Nat × Nat × Nat × Nat)} {y : MethodName} {As : List Value} {v : Int32} (hy : plainName y.cls = true) (hlen : (lg_sl As).length ≤ n) (body : ∀ (p : Program) (e : Env) (R : Room) (s : State) (m : MethodId) (args : Array Value) (below : List Frame) (meth : Method) (c : Code), zX p l s m args meth c R g y.cls cc n (some .int) lvl mc → c.exceptionTable.toList = tableOf hh → zZ p l e R s m args below meth c g n (zQ g κ' μ' ω' (some (.int v)) below args s mc) κ μ ω 0 0 (lv_args 0 As) []) : zMW l g y cc n hh lvl mc As κ μ ω κ' μ' ω' v := by
  unfold zMW
  refine MetFree.of_bodyS (code := cc) (maxLocals := n) (ret := some .int) hy ?_ ?_
  · intro args s m h hn
    obtain ⟨m9, meth, c, hn9, h1, h2, h3, h4, -, h5, h6, -⟩ := Cond.codeWith_spec (atoms_spec (ws := .codeWith y cc n (some .int) hh :: gW) h _ List.mem_cons_self)
    cases hn.symm.trans hn9
    exact ⟨meth, c, h1, h2, h3, h4, h5, h6⟩
  · intro p e s m args below meth c s₁ Bd hml hv _
    obtain ⟨rfl, hW, hK, hB, hs⟩ := hv
    have hts := atoms_spec (ws := .codeWith y cc n (some .int) hh :: gW) Bd.pre
    have hTab := vx_table (x := y) Bd (hts _ List.mem_cons_self)
    have hl := lv_entry As (n := n) hlen
    have K := body p e (zR lvl mc) s m As.toArray below meth c ⟨Bd.exec, Bd.bytes, hml, findClass_of_methodNamed Bd.named, fun w hw => hts w (List.mem_cons_of_mem _ hw), hK, hB, hs, ⟨Nat.le_refl _, Nat.le_refl _, Nat.le_refl _, Nat.le_refl _⟩, Bd.notSynchronized, Bd.returns⟩ hTab s.heap _ [] hl va_S.rf hW
    rw [← lg_entry_eq] at K
    obtain ⟨t, a1, o, b1, b2, b3⟩ := K s₁ (by rw [Bd.state]; rfl) (Stand.of_body Bd)
    exact ⟨t, o, a1, b1, b2, b3⟩
theorem z_callW (hX : zX p l s m args meth c R g own cc n ret lvl mc) {hh : List (Nat × Nat × Nat × Nat)} {idx nY lvlY mcY nA : Nat} {y : MethodName} {cY : ByteArray} {As rest : List Value} {v : Int32} (hM : zMW l g y cY nY hh lvlY mcY As κ μ ω κ' μ' ω' v) (hC : GoodIn gW (va_wsS own idx y (.codeWith y cY nY (some .int) hh :: gW)) ∧ y.cls ≠ "java/lang/invoke/MethodHandle" ∧ y.cls ≠ "java/lang/invoke/VarHandle" ∧ (parseMethodDescriptor y.desc).map (fun d => d.parameters.length) = some nA) (d : decode cc pc = .ok (.invokestatic idx, 3)) (hlv : lvlY < lvl ∧ nY ≤ 81 ∧ k + mcY ≤ mc) (hA : As.length = nA) (hst : st = As.reverse ++ rest) (hcat : (rest.map fun v => v.category).sum ≤ 8) (kk : zZ p l e R s m args below meth c g n Q κ' μ' ω' (k + mcY) (pc + 3) lv (.int v :: rest)) : zZ p l e R s m args below meth c g n Q κ μ ω k pc lv st := fun H ls locs hl hS hW => by
  obtain ⟨hx, hb, hml, hown, hts, hK, hB, hs, hR, -⟩ := id hX
  obtain ⟨hG, h1, h2, h3⟩ := hC
  subst hst
  exact z_back (r := some (.int v)) hl hS (vx_runSW (nL := n) ⟨hx, hb, hml, hown, hts⟩ hM (vx_cwSW nA hts hG rfl rfl rfl ⟨h1, h2, h3⟩ ⟨Nat.le_trans hlv.1 hR.1, Nat.le_trans (zroom hlv.1 hlv.2.1) hR.2.1⟩) ⟨zPre_blind, fun U hU hw => ⟨rfl, hX.pre hS hW hU hw⟩⟩ rfl hA hl.1 rfl (lv_room hcat) d ⟨Nat.le_trans hlv.2.2 hR.2.2.1, by rw [← Nat.mul_add]; exact Nat.le_trans (Nat.mul_le_mul_left 6 hlv.2.2) hR.2.2.2⟩) kk
end ZHP
section ZHQ
theorem ct_IAE : Cond.castable xIAE xIAE ∈ tables_1 := List.mem_of_getElem? (i := 370) (by decide +kernel)
theorem ct_ISE : Cond.castable xISE xISE ∈ tables_1 := List.mem_of_getElem? (i := 442) (by decide +kernel)
theorem ct_UOE : Cond.castable xUOE xUOE ∈ tables_1 := List.mem_of_getElem? (i := 458) (by decide +kernel)
theorem ct_IOE : Cond.castable xIOE xIOE ∈ tables_1 := List.mem_of_getElem? (i := 544) (by decide +kernel)
theorem ct_NSE : Cond.castable xNSE xNSE ∈ tables_1 := List.mem_of_getElem? (i := 664) (by decide +kernel)
theorem ct_ARE : Cond.castable xARE xARE ∈ tables_1 := List.mem_of_getElem? (i := 927) (by decide +kernel)
theorem ck_14 : Cond.classLink RL 14 xIAE ∈ gW := gW_I 270 (by decide +kernel) rfl
theorem ck_16 : Cond.classLink RL 16 xISE ∈ gW := gW_I 271 (by decide +kernel) rfl
theorem ck_18 : Cond.classLink RL 18 xUOE ∈ gW := gW_I 272 (by decide +kernel) rfl
theorem ck_24 : Cond.classLink RL 24 xIOE ∈ gW := gW_I 505 (by decide +kernel) rfl
theorem ck_36 : Cond.classLink RL 36 xNSE ∈ gW := gW_I 653 (by decide +kernel) rfl
abbrev hh_addLine : List (Nat × Nat × Nat × Nat) := [(0, 9, 10, 14), (0, 9, 14, 16), (0, 9, 19, 18)]
set_option maxRecDepth 100000 in
theorem wh_addLine : Cond.codeWith yL_addLine cL_addLine 6 (some .int) hh_addLine ∈ gW := gW_I 269 rfl rfl
set_option maxRecDepth 100000 in
theorem hk_addLine (l : Launch) {g : zG} {κ κ' : zKp} {ν : zMu} {ω : zOm} {lvlY : Nat} {p0 p1 p2 p3 : Int32} {v : Int32} (hY : lvlY < 20) (hM : zM l g yX4_addLine cX4_addLine 6 (some .int) lvlY 0 [.ref (gA g 0 0 0), .int p0, .int p1, .int p2, .int p3] κ ν ω κ' ν ω (some (.int v))) : zMW l g yL_addLine cL_addLine 6 hh_addLine 20 1 [.ref (gA g 0 0 0), .int p0, .int p1, .int p2, .int p3] κ ν ω κ' ν ω v := by
  refine zMW_of (by decide) (Nat.le_of_ble_eq_true rfl) (fun p e R s m args below meth c hX hTab => ?_)
  show zZ p l e R s m args below meth c g 6 _ _ _ _ 0 0 [(0, .ref (gA g 0 0 0)), (1, .int p0), (2, .int p1), (3, .int p2), (4, .int p3)] []
  refine z_aload_n hX dL_addLine_0 0 rfl ?_
  refine z_iload_n hX dL_addLine_1 1 rfl ?_
  refine z_iload_n hX dL_addLine_2 2 rfl ?_
  refine z_iload_n hX dL_addLine_3 3 rfl ?_
  refine z_iload hX dL_addLine_4 4 rfl ?_
  refine z_callV1 hX hM cv_RL_8 zRc0 dL_addLine_6 ⟨hY, by decide, by decide⟩ rfl rfl (Nat.le_of_ble_eq_true rfl) ?_
  exact z_iretI hX dL_addLine_9 (by decide) rfl (fun _ h => h)
set_option maxRecDepth 100000 in
theorem he_addLine_IAE (l : Launch) {g : zG} {κ κ' : zKp} {ν : zMu} {ω : zOm} {lvlY : Nat} {p0 p1 p2 p3 : Int32} (hY : lvlY < 20) (hM : zMx l g yX4_addLine cX4_addLine 6 (some .int) lvlY 1 [.ref (gA g 0 0 0), .int p0, .int p1, .int p2, .int p3] κ ν ω κ' ν ω (.error xIAE)) : zMW l g yL_addLine cL_addLine 6 hh_addLine 20 1 [.ref (gA g 0 0 0), .int p0, .int p1, .int p2, .int p3] κ ν ω κ' ν ω (-1) := by
  refine zMW_of (by decide) (Nat.le_of_ble_eq_true rfl) (fun p e R s m args below meth c hX hTab => ?_)
  show zZ p l e R s m args below meth c g 6 _ _ _ _ 0 0 [(0, .ref (gA g 0 0 0)), (1, .int p0), (2, .int p1), (3, .int p2), (4, .int p3)] []
  refine z_aload_n hX dL_addLine_0 0 rfl ?_
  refine z_iload_n hX dL_addLine_1 1 rfl ?_
  refine z_iload_n hX dL_addLine_2 2 rfl ?_
  refine z_iload_n hX dL_addLine_3 3 rfl ?_
  refine z_iload hX dL_addLine_4 4 rfl ?_
  refine zx_callV hX hM cv_RL_8 zRc0 dL_addLine_6 ⟨hY, by decide, by decide⟩ rfl rfl (Nat.le_of_ble_eq_true rfl) (fun r h => by cases h) (fun E h => ?_)
  cases h
  refine z_catch (pre := []) (x := (0, 9, 10, 14)) hX hTab rfl (fun z hz => by cases hz) (by decide) (by decide) ck_14 ct_IAE (fun q => ?_)
  refine z_astore (lv' := _) hX dL_addLine_10 (by decide) rfl ?_
  refine z_iconst (v := -1) hX dL_addLine_12 (by decide) ?_
  exact z_iretI hX dL_addLine_13 (by decide) rfl (fun _ h => h)
set_option maxRecDepth 100000 in
theorem he_addLine_ISE (l : Launch) {g : zG} {κ κ' : zKp} {ν : zMu} {ω : zOm} {lvlY : Nat} {p0 p1 p2 p3 : Int32} (hY : lvlY < 20) (hM : zMx l g yX4_addLine cX4_addLine 6 (some .int) lvlY 1 [.ref (gA g 0 0 0), .int p0, .int p1, .int p2, .int p3] κ ν ω κ' ν ω (.error xISE)) : zMW l g yL_addLine cL_addLine 6 hh_addLine 20 1 [.ref (gA g 0 0 0), .int p0, .int p1, .int p2, .int p3] κ ν ω κ' ν ω (-2) := by
  refine zMW_of (by decide) (Nat.le_of_ble_eq_true rfl) (fun p e R s m args below meth c hX hTab => ?_)
  show zZ p l e R s m args below meth c g 6 _ _ _ _ 0 0 [(0, .ref (gA g 0 0 0)), (1, .int p0), (2, .int p1), (3, .int p2), (4, .int p3)] []
  refine z_aload_n hX dL_addLine_0 0 rfl ?_
  refine z_iload_n hX dL_addLine_1 1 rfl ?_
  refine z_iload_n hX dL_addLine_2 2 rfl ?_
  refine z_iload_n hX dL_addLine_3 3 rfl ?_
  refine z_iload hX dL_addLine_4 4 rfl ?_
  refine zx_callV hX hM cv_RL_8 zRc0 dL_addLine_6 ⟨hY, by decide, by decide⟩ rfl rfl (Nat.le_of_ble_eq_true rfl) (fun r h => by cases h) (fun E h => ?_)
  cases h
  refine z_catch (pre := [(0, 9, 10, 14)]) (x := (0, 9, 14, 16)) hX hTab rfl (fun z hz => by
    simp only [List.mem_cons, List.not_mem_nil, or_false] at hz
    rcases hz with rfl
    · exact ⟨by decide, _, ck_14, by decide +kernel⟩) (by decide) (by decide) ck_16 ct_ISE (fun q => ?_)
  refine z_astore (lv' := _) hX dL_addLine_14 (by decide) rfl ?_
  refine z_bipush (v := -2) hX dL_addLine_16 (by decide) ?_
  exact z_iretI hX dL_addLine_18 (by decide) rfl (fun _ h => h)
set_option maxRecDepth 100000 in
theorem he_addLine_UOE (l : Launch) {g : zG} {κ κ' : zKp} {ν : zMu} {ω : zOm} {lvlY : Nat} {p0 p1 p2 p3 : Int32} (hY : lvlY < 20) (hM : zMx l g yX4_addLine cX4_addLine 6 (some .int) lvlY 1 [.ref (gA g 0 0 0), .int p0, .int p1, .int p2, .int p3] κ ν ω κ' ν ω (.error xUOE)) : zMW l g yL_addLine cL_addLine 6 hh_addLine 20 1 [.ref (gA g 0 0 0), .int p0, .int p1, .int p2, .int p3] κ ν ω κ' ν ω (-3) := by
  refine zMW_of (by decide) (Nat.le_of_ble_eq_true rfl) (fun p e R s m args below meth c hX hTab => ?_)
  show zZ p l e R s m args below meth c g 6 _ _ _ _ 0 0 [(0, .ref (gA g 0 0 0)), (1, .int p0), (2, .int p1), (3, .int p2), (4, .int p3)] []
  refine z_aload_n hX dL_addLine_0 0 rfl ?_
  refine z_iload_n hX dL_addLine_1 1 rfl ?_
  refine z_iload_n hX dL_addLine_2 2 rfl ?_
  refine z_iload_n hX dL_addLine_3 3 rfl ?_
  refine z_iload hX dL_addLine_4 4 rfl ?_
  refine zx_callV hX hM cv_RL_8 zRc0 dL_addLine_6 ⟨hY, by decide, by decide⟩ rfl rfl (Nat.le_of_ble_eq_true rfl) (fun r h => by cases h) (fun E h => ?_)
  cases h
  refine z_catch (pre := [(0, 9, 10, 14), (0, 9, 14, 16)]) (x := (0, 9, 19, 18)) hX hTab rfl (fun z hz => by
    simp only [List.mem_cons, List.not_mem_nil, or_false] at hz
    rcases hz with rfl | rfl
    · exact ⟨by decide, _, ck_14, by decide +kernel⟩
    · exact ⟨by decide, _, ck_16, by decide +kernel⟩) (by decide) (by decide) ck_18 ct_UOE (fun q => ?_)
  refine z_astore (lv' := _) hX dL_addLine_19 (by decide) rfl ?_
  refine z_bipush (v := -3) hX dL_addLine_21 (by decide) ?_
  exact z_iretI hX dL_addLine_23 (by decide) rfl (fun _ h => h)
abbrev hh_setOrder : List (Nat × Nat × Nat × Nat) := [(0, 6, 7, 24), (0, 6, 10, 14), (0, 6, 14, 16)]
set_option maxRecDepth 100000 in
theorem wh_setOrder : Cond.codeWith yL_setOrder cL_setOrder 4 (some .int) hh_setOrder ∈ gW := gW_I 504 rfl rfl
set_option maxRecDepth 100000 in
theorem hk_setOrder (l : Launch) {g : zG} {κ κ' : zKp} {ν : zMu} {ω : zOm} {lvlY : Nat} {p0 p1 : Int32} {v : Int32} (hY : lvlY < 20) (hM : zM l g yX4_setOrder cX4_setOrder 4 (some .char) lvlY 0 [.ref (gA g 0 0 0), .int p0, .int p1] κ ν ω κ' ν ω (some (.int v))) : zMW l g yL_setOrder cL_setOrder 4 hh_setOrder 20 1 [.ref (gA g 0 0 0), .int p0, .int p1] κ ν ω κ' ν ω v := by
  refine zMW_of (by decide) (Nat.le_of_ble_eq_true rfl) (fun p e R s m args below meth c hX hTab => ?_)
  show zZ p l e R s m args below meth c g 4 _ _ _ _ 0 0 [(0, .ref (gA g 0 0 0)), (1, .int p0), (2, .int p1)] []
  refine z_aload_n hX dL_setOrder_0 0 rfl ?_
  refine z_iload_n hX dL_setOrder_1 1 rfl ?_
  refine z_iload_n hX dL_setOrder_2 2 rfl ?_
  refine z_callV1 hX hM cv_RL_20 zRc0 dL_setOrder_3 ⟨hY, by decide, by decide⟩ rfl rfl (Nat.le_of_ble_eq_true rfl) ?_
  exact z_iretI hX dL_setOrder_6 (by decide) rfl (fun _ h => h)
set_option maxRecDepth 100000 in
theorem he_setOrder_IOE (l : Launch) {g : zG} {κ κ' : zKp} {ν : zMu} {ω : zOm} {lvlY : Nat} {p0 p1 : Int32} (hY : lvlY < 20) (hM : zMx l g yX4_setOrder cX4_setOrder 4 (some .char) lvlY 1 [.ref (gA g 0 0 0), .int p0, .int p1] κ ν ω κ' ν ω (.error xIOE)) : zMW l g yL_setOrder cL_setOrder 4 hh_setOrder 20 1 [.ref (gA g 0 0 0), .int p0, .int p1] κ ν ω κ' ν ω (-1) := by
  refine zMW_of (by decide) (Nat.le_of_ble_eq_true rfl) (fun p e R s m args below meth c hX hTab => ?_)
  show zZ p l e R s m args below meth c g 4 _ _ _ _ 0 0 [(0, .ref (gA g 0 0 0)), (1, .int p0), (2, .int p1)] []
  refine z_aload_n hX dL_setOrder_0 0 rfl ?_
  refine z_iload_n hX dL_setOrder_1 1 rfl ?_
  refine z_iload_n hX dL_setOrder_2 2 rfl ?_
  refine zx_callV hX hM cv_RL_20 zRc0 dL_setOrder_3 ⟨hY, by decide, by decide⟩ rfl rfl (Nat.le_of_ble_eq_true rfl) (fun r h => by cases h) (fun E h => ?_)
  cases h
  refine z_catch (pre := []) (x := (0, 6, 7, 24)) hX hTab rfl (fun z hz => by cases hz) (by decide) (by decide) ck_24 ct_IOE (fun q => ?_)
  refine z_astore_n (lv' := _) hX dL_setOrder_7 (by decide) rfl ?_
  refine z_iconst (v := -1) hX dL_setOrder_8 (by decide) ?_
  exact z_iretI hX dL_setOrder_9 (by decide) rfl (fun _ h => h)
set_option maxRecDepth 100000 in
theorem he_setOrder_IAE (l : Launch) {g : zG} {κ κ' : zKp} {ν : zMu} {ω : zOm} {lvlY : Nat} {p0 p1 : Int32} (hY : lvlY < 20) (hM : zMx l g yX4_setOrder cX4_setOrder 4 (some .char) lvlY 1 [.ref (gA g 0 0 0), .int p0, .int p1] κ ν ω κ' ν ω (.error xIAE)) : zMW l g yL_setOrder cL_setOrder 4 hh_setOrder 20 1 [.ref (gA g 0 0 0), .int p0, .int p1] κ ν ω κ' ν ω (-2) := by
  refine zMW_of (by decide) (Nat.le_of_ble_eq_true rfl) (fun p e R s m args below meth c hX hTab => ?_)
  show zZ p l e R s m args below meth c g 4 _ _ _ _ 0 0 [(0, .ref (gA g 0 0 0)), (1, .int p0), (2, .int p1)] []
  refine z_aload_n hX dL_setOrder_0 0 rfl ?_
  refine z_iload_n hX dL_setOrder_1 1 rfl ?_
  refine z_iload_n hX dL_setOrder_2 2 rfl ?_
  refine zx_callV hX hM cv_RL_20 zRc0 dL_setOrder_3 ⟨hY, by decide, by decide⟩ rfl rfl (Nat.le_of_ble_eq_true rfl) (fun r h => by cases h) (fun E h => ?_)
  cases h
  refine z_catch (pre := [(0, 6, 7, 24)]) (x := (0, 6, 10, 14)) hX hTab rfl (fun z hz => by
    simp only [List.mem_cons, List.not_mem_nil, or_false] at hz
    rcases hz with rfl
    · exact ⟨by decide, _, ck_24, by decide +kernel⟩) (by decide) (by decide) ck_14 ct_IAE (fun q => ?_)
  refine z_astore_n (lv' := _) hX dL_setOrder_10 (by decide) rfl ?_
  refine z_bipush (v := -2) hX dL_setOrder_11 (by decide) ?_
  exact z_iretI hX dL_setOrder_13 (by decide) rfl (fun _ h => h)
set_option maxRecDepth 100000 in
theorem he_setOrder_ISE (l : Launch) {g : zG} {κ κ' : zKp} {ν : zMu} {ω : zOm} {lvlY : Nat} {p0 p1 : Int32} (hY : lvlY < 20) (hM : zMx l g yX4_setOrder cX4_setOrder 4 (some .char) lvlY 1 [.ref (gA g 0 0 0), .int p0, .int p1] κ ν ω κ' ν ω (.error xISE)) : zMW l g yL_setOrder cL_setOrder 4 hh_setOrder 20 1 [.ref (gA g 0 0 0), .int p0, .int p1] κ ν ω κ' ν ω (-3) := by
  refine zMW_of (by decide) (Nat.le_of_ble_eq_true rfl) (fun p e R s m args below meth c hX hTab => ?_)
  show zZ p l e R s m args below meth c g 4 _ _ _ _ 0 0 [(0, .ref (gA g 0 0 0)), (1, .int p0), (2, .int p1)] []
  refine z_aload_n hX dL_setOrder_0 0 rfl ?_
  refine z_iload_n hX dL_setOrder_1 1 rfl ?_
  refine z_iload_n hX dL_setOrder_2 2 rfl ?_
  refine zx_callV hX hM cv_RL_20 zRc0 dL_setOrder_3 ⟨hY, by decide, by decide⟩ rfl rfl (Nat.le_of_ble_eq_true rfl) (fun r h => by cases h) (fun E h => ?_)
  cases h
  refine z_catch (pre := [(0, 6, 7, 24), (0, 6, 10, 14)]) (x := (0, 6, 14, 16)) hX hTab rfl (fun z hz => by
    simp only [List.mem_cons, List.not_mem_nil, or_false] at hz
    rcases hz with rfl | rfl
    · exact ⟨by decide, _, ck_24, by decide +kernel⟩
    · exact ⟨by decide, _, ck_14, by decide +kernel⟩) (by decide) (by decide) ck_16 ct_ISE (fun q => ?_)
  refine z_astore_n (lv' := _) hX dL_setOrder_14 (by decide) rfl ?_
  refine z_bipush (v := -3) hX dL_setOrder_15 (by decide) ?_
  exact z_iretI hX dL_setOrder_17 (by decide) rfl (fun _ h => h)
abbrev hh_rally : List (Nat × Nat × Nat × Nat) := [(0, 5, 6, 24), (0, 5, 9, 16), (0, 5, 13, 18)]
set_option maxRecDepth 100000 in
theorem wh_rally : Cond.codeWith yL_rally cL_rally 3 (some .int) hh_rally ∈ gW := gW_I 563 rfl rfl
set_option maxRecDepth 100000 in
theorem hk_rally (l : Launch) {g : zG} {κ κ' : zKp} {ν : zMu} {ω : zOm} {lvlY : Nat} {p0 : Int32} {v : Int32} (hY : lvlY < 20) (hM : zM l g yX4_rally cX4_rally 3 (some .int) lvlY 0 [.ref (gA g 0 0 0), .int p0] κ ν ω κ' ν ω (some (.int v))) : zMW l g yL_rally cL_rally 3 hh_rally 20 1 [.ref (gA g 0 0 0), .int p0] κ ν ω κ' ν ω v := by
  refine zMW_of (by decide) (Nat.le_of_ble_eq_true rfl) (fun p e R s m args below meth c hX hTab => ?_)
  show zZ p l e R s m args below meth c g 3 _ _ _ _ 0 0 [(0, .ref (gA g 0 0 0)), (1, .int p0)] []
  refine z_aload_n hX dL_rally_0 0 rfl ?_
  refine z_iload_n hX dL_rally_1 1 rfl ?_
  refine z_callV1 hX hM cv_RL_26 zRc0 dL_rally_2 ⟨hY, by decide, by decide⟩ rfl rfl (Nat.le_of_ble_eq_true rfl) ?_
  exact z_iretI hX dL_rally_5 (by decide) rfl (fun _ h => h)
set_option maxRecDepth 100000 in
theorem he_rally_IOE (l : Launch) {g : zG} {κ κ' : zKp} {ν : zMu} {ω : zOm} {lvlY : Nat} {p0 : Int32} (hY : lvlY < 20) (hM : zMx l g yX4_rally cX4_rally 3 (some .int) lvlY 1 [.ref (gA g 0 0 0), .int p0] κ ν ω κ' ν ω (.error xIOE)) : zMW l g yL_rally cL_rally 3 hh_rally 20 1 [.ref (gA g 0 0 0), .int p0] κ ν ω κ' ν ω (-1) := by
  refine zMW_of (by decide) (Nat.le_of_ble_eq_true rfl) (fun p e R s m args below meth c hX hTab => ?_)
  show zZ p l e R s m args below meth c g 3 _ _ _ _ 0 0 [(0, .ref (gA g 0 0 0)), (1, .int p0)] []
  refine z_aload_n hX dL_rally_0 0 rfl ?_
  refine z_iload_n hX dL_rally_1 1 rfl ?_
  refine zx_callV hX hM cv_RL_26 zRc0 dL_rally_2 ⟨hY, by decide, by decide⟩ rfl rfl (Nat.le_of_ble_eq_true rfl) (fun r h => by cases h) (fun E h => ?_)
  cases h
  refine z_catch (pre := []) (x := (0, 5, 6, 24)) hX hTab rfl (fun z hz => by cases hz) (by decide) (by decide) ck_24 ct_IOE (fun q => ?_)
  refine z_astore_n (lv' := _) hX dL_rally_6 (by decide) rfl ?_
  refine z_iconst (v := -1) hX dL_rally_7 (by decide) ?_
  exact z_iretI hX dL_rally_8 (by decide) rfl (fun _ h => h)
set_option maxRecDepth 100000 in
theorem he_rally_ISE (l : Launch) {g : zG} {κ κ' : zKp} {ν : zMu} {ω : zOm} {lvlY : Nat} {p0 : Int32} (hY : lvlY < 20) (hM : zMx l g yX4_rally cX4_rally 3 (some .int) lvlY 1 [.ref (gA g 0 0 0), .int p0] κ ν ω κ' ν ω (.error xISE)) : zMW l g yL_rally cL_rally 3 hh_rally 20 1 [.ref (gA g 0 0 0), .int p0] κ ν ω κ' ν ω (-2) := by
  refine zMW_of (by decide) (Nat.le_of_ble_eq_true rfl) (fun p e R s m args below meth c hX hTab => ?_)
  show zZ p l e R s m args below meth c g 3 _ _ _ _ 0 0 [(0, .ref (gA g 0 0 0)), (1, .int p0)] []
  refine z_aload_n hX dL_rally_0 0 rfl ?_
  refine z_iload_n hX dL_rally_1 1 rfl ?_
  refine zx_callV hX hM cv_RL_26 zRc0 dL_rally_2 ⟨hY, by decide, by decide⟩ rfl rfl (Nat.le_of_ble_eq_true rfl) (fun r h => by cases h) (fun E h => ?_)
  cases h
  refine z_catch (pre := [(0, 5, 6, 24)]) (x := (0, 5, 9, 16)) hX hTab rfl (fun z hz => by
    simp only [List.mem_cons, List.not_mem_nil, or_false] at hz
    rcases hz with rfl
    · exact ⟨by decide, _, ck_24, by decide +kernel⟩) (by decide) (by decide) ck_16 ct_ISE (fun q => ?_)
  refine z_astore_n (lv' := _) hX dL_rally_9 (by decide) rfl ?_
  refine z_bipush (v := -2) hX dL_rally_10 (by decide) ?_
  exact z_iretI hX dL_rally_12 (by decide) rfl (fun _ h => h)
set_option maxRecDepth 100000 in
theorem he_rally_UOE (l : Launch) {g : zG} {κ κ' : zKp} {ν : zMu} {ω : zOm} {lvlY : Nat} {p0 : Int32} (hY : lvlY < 20) (hM : zMx l g yX4_rally cX4_rally 3 (some .int) lvlY 1 [.ref (gA g 0 0 0), .int p0] κ ν ω κ' ν ω (.error xUOE)) : zMW l g yL_rally cL_rally 3 hh_rally 20 1 [.ref (gA g 0 0 0), .int p0] κ ν ω κ' ν ω (-3) := by
  refine zMW_of (by decide) (Nat.le_of_ble_eq_true rfl) (fun p e R s m args below meth c hX hTab => ?_)
  show zZ p l e R s m args below meth c g 3 _ _ _ _ 0 0 [(0, .ref (gA g 0 0 0)), (1, .int p0)] []
  refine z_aload_n hX dL_rally_0 0 rfl ?_
  refine z_iload_n hX dL_rally_1 1 rfl ?_
  refine zx_callV hX hM cv_RL_26 zRc0 dL_rally_2 ⟨hY, by decide, by decide⟩ rfl rfl (Nat.le_of_ble_eq_true rfl) (fun r h => by cases h) (fun E h => ?_)
  cases h
  refine z_catch (pre := [(0, 5, 6, 24), (0, 5, 9, 16)]) (x := (0, 5, 13, 18)) hX hTab rfl (fun z hz => by
    simp only [List.mem_cons, List.not_mem_nil, or_false] at hz
    rcases hz with rfl | rfl
    · exact ⟨by decide, _, ck_24, by decide +kernel⟩
    · exact ⟨by decide, _, ck_16, by decide +kernel⟩) (by decide) (by decide) ck_18 ct_UOE (fun q => ?_)
  refine z_astore_n (lv' := _) hX dL_rally_13 (by decide) rfl ?_
  refine z_bipush (v := -3) hX dL_rally_14 (by decide) ?_
  exact z_iretI hX dL_rally_16 (by decide) rfl (fun _ h => h)
abbrev hh_sideOf : List (Nat × Nat × Nat × Nat) := [(0, 5, 6, 24)]
set_option maxRecDepth 100000 in
theorem wh_sideOf : Cond.codeWith yL_sideOf cL_sideOf 3 (some .int) hh_sideOf ∈ gW := gW_I 784 rfl rfl
set_option maxRecDepth 100000 in
theorem hk_sideOf (l : Launch) {g : zG} {κ κ' : zKp} {ν : zMu} {ω : zOm} {lvlY : Nat} {p0 : Int32} {v : Int32} (hY : lvlY < 20) (hM : zM l g yX4_sideOf cX4_sideOf 2 (some .int) lvlY 0 [.ref (gA g 0 0 0), .int p0] κ ν ω κ' ν ω (some (.int v))) : zMW l g yL_sideOf cL_sideOf 3 hh_sideOf 20 1 [.ref (gA g 0 0 0), .int p0] κ ν ω κ' ν ω v := by
  refine zMW_of (by decide) (Nat.le_of_ble_eq_true rfl) (fun p e R s m args below meth c hX hTab => ?_)
  show zZ p l e R s m args below meth c g 3 _ _ _ _ 0 0 [(0, .ref (gA g 0 0 0)), (1, .int p0)] []
  refine z_aload_n hX dL_sideOf_0 0 rfl ?_
  refine z_iload_n hX dL_sideOf_1 1 rfl ?_
  refine z_callV1 hX hM cv_RL_30 zRc0 dL_sideOf_2 ⟨hY, by decide, by decide⟩ rfl rfl (Nat.le_of_ble_eq_true rfl) ?_
  exact z_iretI hX dL_sideOf_5 (by decide) rfl (fun _ h => h)
set_option maxRecDepth 100000 in
theorem he_sideOf_IOE (l : Launch) {g : zG} {κ κ' : zKp} {ν : zMu} {ω : zOm} {lvlY : Nat} {p0 : Int32} (hY : lvlY < 20) (hM : zMx l g yX4_sideOf cX4_sideOf 2 (some .int) lvlY 1 [.ref (gA g 0 0 0), .int p0] κ ν ω κ' ν ω (.error xIOE)) : zMW l g yL_sideOf cL_sideOf 3 hh_sideOf 20 1 [.ref (gA g 0 0 0), .int p0] κ ν ω κ' ν ω (-11) := by
  refine zMW_of (by decide) (Nat.le_of_ble_eq_true rfl) (fun p e R s m args below meth c hX hTab => ?_)
  show zZ p l e R s m args below meth c g 3 _ _ _ _ 0 0 [(0, .ref (gA g 0 0 0)), (1, .int p0)] []
  refine z_aload_n hX dL_sideOf_0 0 rfl ?_
  refine z_iload_n hX dL_sideOf_1 1 rfl ?_
  refine zx_callV hX hM cv_RL_30 zRc0 dL_sideOf_2 ⟨hY, by decide, by decide⟩ rfl rfl (Nat.le_of_ble_eq_true rfl) (fun r h => by cases h) (fun E h => ?_)
  cases h
  refine z_catch (pre := []) (x := (0, 5, 6, 24)) hX hTab rfl (fun z hz => by cases hz) (by decide) (by decide) ck_24 ct_IOE (fun q => ?_)
  refine z_astore_n (lv' := _) hX dL_sideOf_6 (by decide) rfl ?_
  refine z_bipush (v := -11) hX dL_sideOf_7 (by decide) ?_
  exact z_iretI hX dL_sideOf_9 (by decide) rfl (fun _ h => h)
abbrev hh_laneOf : List (Nat × Nat × Nat × Nat) := [(0, 5, 6, 24), (0, 5, 10, 36)]
set_option maxRecDepth 100000 in
theorem wh_laneOf : Cond.codeWith yL_laneOf cL_laneOf 3 (some .int) hh_laneOf ∈ gW := gW_I 680 rfl rfl
set_option maxRecDepth 100000 in
theorem hk_laneOf (l : Launch) {g : zG} {κ κ' : zKp} {ν : zMu} {ω : zOm} {lvlY : Nat} {p0 : Int32} {v : Int32} (hY : lvlY < 20) (hM : zM l g yX4_laneOf cX4_laneOf 2 (some .int) lvlY 0 [.ref (gA g 0 0 0), .int p0] κ ν ω κ' ν ω (some (.int v))) : zMW l g yL_laneOf cL_laneOf 3 hh_laneOf 20 1 [.ref (gA g 0 0 0), .int p0] κ ν ω κ' ν ω v := by
  refine zMW_of (by decide) (Nat.le_of_ble_eq_true rfl) (fun p e R s m args below meth c hX hTab => ?_)
  show zZ p l e R s m args below meth c g 3 _ _ _ _ 0 0 [(0, .ref (gA g 0 0 0)), (1, .int p0)] []
  refine z_aload_n hX dL_laneOf_0 0 rfl ?_
  refine z_iload_n hX dL_laneOf_1 1 rfl ?_
  refine z_callV1 hX hM cv_RL_33 zRc0 dL_laneOf_2 ⟨hY, by decide, by decide⟩ rfl rfl (Nat.le_of_ble_eq_true rfl) ?_
  exact z_iretI hX dL_laneOf_5 (by decide) rfl (fun _ h => h)
set_option maxRecDepth 100000 in
theorem he_laneOf_IOE (l : Launch) {g : zG} {κ κ' : zKp} {ν : zMu} {ω : zOm} {lvlY : Nat} {p0 : Int32} (hY : lvlY < 20) (hM : zMx l g yX4_laneOf cX4_laneOf 2 (some .int) lvlY 1 [.ref (gA g 0 0 0), .int p0] κ ν ω κ' ν ω (.error xIOE)) : zMW l g yL_laneOf cL_laneOf 3 hh_laneOf 20 1 [.ref (gA g 0 0 0), .int p0] κ ν ω κ' ν ω (-11) := by
  refine zMW_of (by decide) (Nat.le_of_ble_eq_true rfl) (fun p e R s m args below meth c hX hTab => ?_)
  show zZ p l e R s m args below meth c g 3 _ _ _ _ 0 0 [(0, .ref (gA g 0 0 0)), (1, .int p0)] []
  refine z_aload_n hX dL_laneOf_0 0 rfl ?_
  refine z_iload_n hX dL_laneOf_1 1 rfl ?_
  refine zx_callV hX hM cv_RL_33 zRc0 dL_laneOf_2 ⟨hY, by decide, by decide⟩ rfl rfl (Nat.le_of_ble_eq_true rfl) (fun r h => by cases h) (fun E h => ?_)
  cases h
  refine z_catch (pre := []) (x := (0, 5, 6, 24)) hX hTab rfl (fun z hz => by cases hz) (by decide) (by decide) ck_24 ct_IOE (fun q => ?_)
  refine z_astore_n (lv' := _) hX dL_laneOf_6 (by decide) rfl ?_
  refine z_bipush (v := -11) hX dL_laneOf_7 (by decide) ?_
  exact z_iretI hX dL_laneOf_9 (by decide) rfl (fun _ h => h)
set_option maxRecDepth 100000 in
theorem he_laneOf_NSE (l : Launch) {g : zG} {κ κ' : zKp} {ν : zMu} {ω : zOm} {lvlY : Nat} {p0 : Int32} (hY : lvlY < 20) (hM : zMx l g yX4_laneOf cX4_laneOf 2 (some .int) lvlY 1 [.ref (gA g 0 0 0), .int p0] κ ν ω κ' ν ω (.error xNSE)) : zMW l g yL_laneOf cL_laneOf 3 hh_laneOf 20 1 [.ref (gA g 0 0 0), .int p0] κ ν ω κ' ν ω (-13) := by
  refine zMW_of (by decide) (Nat.le_of_ble_eq_true rfl) (fun p e R s m args below meth c hX hTab => ?_)
  show zZ p l e R s m args below meth c g 3 _ _ _ _ 0 0 [(0, .ref (gA g 0 0 0)), (1, .int p0)] []
  refine z_aload_n hX dL_laneOf_0 0 rfl ?_
  refine z_iload_n hX dL_laneOf_1 1 rfl ?_
  refine zx_callV hX hM cv_RL_33 zRc0 dL_laneOf_2 ⟨hY, by decide, by decide⟩ rfl rfl (Nat.le_of_ble_eq_true rfl) (fun r h => by cases h) (fun E h => ?_)
  cases h
  refine z_catch (pre := [(0, 5, 6, 24)]) (x := (0, 5, 10, 36)) hX hTab rfl (fun z hz => by
    simp only [List.mem_cons, List.not_mem_nil, or_false] at hz
    rcases hz with rfl
    · exact ⟨by decide, _, ck_24, by decide +kernel⟩) (by decide) (by decide) ck_36 ct_NSE (fun q => ?_)
  refine z_astore_n (lv' := _) hX dL_laneOf_10 (by decide) rfl ?_
  refine z_bipush (v := -13) hX dL_laneOf_11 (by decide) ?_
  exact z_iretI hX dL_laneOf_13 (by decide) rfl (fun _ h => h)
abbrev hh_columnOf : List (Nat × Nat × Nat × Nat) := [(0, 5, 6, 24), (0, 5, 10, 36)]
set_option maxRecDepth 100000 in
theorem wh_columnOf : Cond.codeWith yL_columnOf cL_columnOf 3 (some .int) hh_columnOf ∈ gW := gW_I 701 rfl rfl
set_option maxRecDepth 100000 in
theorem hk_columnOf (l : Launch) {g : zG} {κ κ' : zKp} {ν : zMu} {ω : zOm} {lvlY : Nat} {p0 : Int32} {v : Int32} (hY : lvlY < 20) (hM : zM l g yX4_columnOf cX4_columnOf 2 (some .int) lvlY 0 [.ref (gA g 0 0 0), .int p0] κ ν ω κ' ν ω (some (.int v))) : zMW l g yL_columnOf cL_columnOf 3 hh_columnOf 20 1 [.ref (gA g 0 0 0), .int p0] κ ν ω κ' ν ω v := by
  refine zMW_of (by decide) (Nat.le_of_ble_eq_true rfl) (fun p e R s m args below meth c hX hTab => ?_)
  show zZ p l e R s m args below meth c g 3 _ _ _ _ 0 0 [(0, .ref (gA g 0 0 0)), (1, .int p0)] []
  refine z_aload_n hX dL_columnOf_0 0 rfl ?_
  refine z_iload_n hX dL_columnOf_1 1 rfl ?_
  refine z_callV1 hX hM cv_RL_38 zRc0 dL_columnOf_2 ⟨hY, by decide, by decide⟩ rfl rfl (Nat.le_of_ble_eq_true rfl) ?_
  exact z_iretI hX dL_columnOf_5 (by decide) rfl (fun _ h => h)
set_option maxRecDepth 100000 in
theorem he_columnOf_IOE (l : Launch) {g : zG} {κ κ' : zKp} {ν : zMu} {ω : zOm} {lvlY : Nat} {p0 : Int32} (hY : lvlY < 20) (hM : zMx l g yX4_columnOf cX4_columnOf 2 (some .int) lvlY 1 [.ref (gA g 0 0 0), .int p0] κ ν ω κ' ν ω (.error xIOE)) : zMW l g yL_columnOf cL_columnOf 3 hh_columnOf 20 1 [.ref (gA g 0 0 0), .int p0] κ ν ω κ' ν ω (-11) := by
  refine zMW_of (by decide) (Nat.le_of_ble_eq_true rfl) (fun p e R s m args below meth c hX hTab => ?_)
  show zZ p l e R s m args below meth c g 3 _ _ _ _ 0 0 [(0, .ref (gA g 0 0 0)), (1, .int p0)] []
  refine z_aload_n hX dL_columnOf_0 0 rfl ?_
  refine z_iload_n hX dL_columnOf_1 1 rfl ?_
  refine zx_callV hX hM cv_RL_38 zRc0 dL_columnOf_2 ⟨hY, by decide, by decide⟩ rfl rfl (Nat.le_of_ble_eq_true rfl) (fun r h => by cases h) (fun E h => ?_)
  cases h
  refine z_catch (pre := []) (x := (0, 5, 6, 24)) hX hTab rfl (fun z hz => by cases hz) (by decide) (by decide) ck_24 ct_IOE (fun q => ?_)
  refine z_astore_n (lv' := _) hX dL_columnOf_6 (by decide) rfl ?_
  refine z_bipush (v := -11) hX dL_columnOf_7 (by decide) ?_
  exact z_iretI hX dL_columnOf_9 (by decide) rfl (fun _ h => h)
set_option maxRecDepth 100000 in
theorem he_columnOf_NSE (l : Launch) {g : zG} {κ κ' : zKp} {ν : zMu} {ω : zOm} {lvlY : Nat} {p0 : Int32} (hY : lvlY < 20) (hM : zMx l g yX4_columnOf cX4_columnOf 2 (some .int) lvlY 1 [.ref (gA g 0 0 0), .int p0] κ ν ω κ' ν ω (.error xNSE)) : zMW l g yL_columnOf cL_columnOf 3 hh_columnOf 20 1 [.ref (gA g 0 0 0), .int p0] κ ν ω κ' ν ω (-13) := by
  refine zMW_of (by decide) (Nat.le_of_ble_eq_true rfl) (fun p e R s m args below meth c hX hTab => ?_)
  show zZ p l e R s m args below meth c g 3 _ _ _ _ 0 0 [(0, .ref (gA g 0 0 0)), (1, .int p0)] []
  refine z_aload_n hX dL_columnOf_0 0 rfl ?_
  refine z_iload_n hX dL_columnOf_1 1 rfl ?_
  refine zx_callV hX hM cv_RL_38 zRc0 dL_columnOf_2 ⟨hY, by decide, by decide⟩ rfl rfl (Nat.le_of_ble_eq_true rfl) (fun r h => by cases h) (fun E h => ?_)
  cases h
  refine z_catch (pre := [(0, 5, 6, 24)]) (x := (0, 5, 10, 36)) hX hTab rfl (fun z hz => by
    simp only [List.mem_cons, List.not_mem_nil, or_false] at hz
    rcases hz with rfl
    · exact ⟨by decide, _, ck_24, by decide +kernel⟩) (by decide) (by decide) ck_36 ct_NSE (fun q => ?_)
  refine z_astore_n (lv' := _) hX dL_columnOf_10 (by decide) rfl ?_
  refine z_bipush (v := -13) hX dL_columnOf_11 (by decide) ?_
  exact z_iretI hX dL_columnOf_13 (by decide) rfl (fun _ h => h)
abbrev hh_kindOf : List (Nat × Nat × Nat × Nat) := [(0, 5, 6, 24)]
set_option maxRecDepth 100000 in
theorem wh_kindOf : Cond.codeWith yL_kindOf cL_kindOf 3 (some .int) hh_kindOf ∈ gW := gW_I 721 rfl rfl
set_option maxRecDepth 100000 in
theorem hk_kindOf (l : Launch) {g : zG} {κ κ' : zKp} {ν : zMu} {ω : zOm} {lvlY : Nat} {p0 : Int32} {v : Int32} (hY : lvlY < 20) (hM : zM l g yX4_kindOf cX4_kindOf 2 (some .char) lvlY 0 [.ref (gA g 0 0 0), .int p0] κ ν ω κ' ν ω (some (.int v))) : zMW l g yL_kindOf cL_kindOf 3 hh_kindOf 20 1 [.ref (gA g 0 0 0), .int p0] κ ν ω κ' ν ω v := by
  refine zMW_of (by decide) (Nat.le_of_ble_eq_true rfl) (fun p e R s m args below meth c hX hTab => ?_)
  show zZ p l e R s m args below meth c g 3 _ _ _ _ 0 0 [(0, .ref (gA g 0 0 0)), (1, .int p0)] []
  refine z_aload_n hX dL_kindOf_0 0 rfl ?_
  refine z_iload_n hX dL_kindOf_1 1 rfl ?_
  refine z_callV1 hX hM cv_RL_41 zRc0 dL_kindOf_2 ⟨hY, by decide, by decide⟩ rfl rfl (Nat.le_of_ble_eq_true rfl) ?_
  exact z_iretI hX dL_kindOf_5 (by decide) rfl (fun _ h => h)
set_option maxRecDepth 100000 in
theorem he_kindOf_IOE (l : Launch) {g : zG} {κ κ' : zKp} {ν : zMu} {ω : zOm} {lvlY : Nat} {p0 : Int32} (hY : lvlY < 20) (hM : zMx l g yX4_kindOf cX4_kindOf 2 (some .char) lvlY 1 [.ref (gA g 0 0 0), .int p0] κ ν ω κ' ν ω (.error xIOE)) : zMW l g yL_kindOf cL_kindOf 3 hh_kindOf 20 1 [.ref (gA g 0 0 0), .int p0] κ ν ω κ' ν ω (-11) := by
  refine zMW_of (by decide) (Nat.le_of_ble_eq_true rfl) (fun p e R s m args below meth c hX hTab => ?_)
  show zZ p l e R s m args below meth c g 3 _ _ _ _ 0 0 [(0, .ref (gA g 0 0 0)), (1, .int p0)] []
  refine z_aload_n hX dL_kindOf_0 0 rfl ?_
  refine z_iload_n hX dL_kindOf_1 1 rfl ?_
  refine zx_callV hX hM cv_RL_41 zRc0 dL_kindOf_2 ⟨hY, by decide, by decide⟩ rfl rfl (Nat.le_of_ble_eq_true rfl) (fun r h => by cases h) (fun E h => ?_)
  cases h
  refine z_catch (pre := []) (x := (0, 5, 6, 24)) hX hTab rfl (fun z hz => by cases hz) (by decide) (by decide) ck_24 ct_IOE (fun q => ?_)
  refine z_astore_n (lv' := _) hX dL_kindOf_6 (by decide) rfl ?_
  refine z_bipush (v := -11) hX dL_kindOf_7 (by decide) ?_
  exact z_iretI hX dL_kindOf_9 (by decide) rfl (fun _ h => h)
abbrev hh_strength : List (Nat × Nat × Nat × Nat) := [(0, 5, 6, 24)]
set_option maxRecDepth 100000 in
theorem wh_strength : Cond.codeWith yL_strength cL_strength 3 (some .int) hh_strength ∈ gW := gW_I 728 rfl rfl
set_option maxRecDepth 100000 in
theorem hk_strength (l : Launch) {g : zG} {κ κ' : zKp} {ν : zMu} {ω : zOm} {lvlY : Nat} {p0 : Int32} {v : Int32} (hY : lvlY < 20) (hM : zM l g yX4_strengthOf cX4_strengthOf 2 (some .int) lvlY 0 [.ref (gA g 0 0 0), .int p0] κ ν ω κ' ν ω (some (.int v))) : zMW l g yL_strength cL_strength 3 hh_strength 20 1 [.ref (gA g 0 0 0), .int p0] κ ν ω κ' ν ω v := by
  refine zMW_of (by decide) (Nat.le_of_ble_eq_true rfl) (fun p e R s m args below meth c hX hTab => ?_)
  show zZ p l e R s m args below meth c g 3 _ _ _ _ 0 0 [(0, .ref (gA g 0 0 0)), (1, .int p0)] []
  refine z_aload_n hX dL_strength_0 0 rfl ?_
  refine z_iload_n hX dL_strength_1 1 rfl ?_
  refine z_callV1 hX hM cv_RL_45 zRc0 dL_strength_2 ⟨hY, by decide, by decide⟩ rfl rfl (Nat.le_of_ble_eq_true rfl) ?_
  exact z_iretI hX dL_strength_5 (by decide) rfl (fun _ h => h)
set_option maxRecDepth 100000 in
theorem he_strength_IOE (l : Launch) {g : zG} {κ κ' : zKp} {ν : zMu} {ω : zOm} {lvlY : Nat} {p0 : Int32} (hY : lvlY < 20) (hM : zMx l g yX4_strengthOf cX4_strengthOf 2 (some .int) lvlY 1 [.ref (gA g 0 0 0), .int p0] κ ν ω κ' ν ω (.error xIOE)) : zMW l g yL_strength cL_strength 3 hh_strength 20 1 [.ref (gA g 0 0 0), .int p0] κ ν ω κ' ν ω (-11) := by
  refine zMW_of (by decide) (Nat.le_of_ble_eq_true rfl) (fun p e R s m args below meth c hX hTab => ?_)
  show zZ p l e R s m args below meth c g 3 _ _ _ _ 0 0 [(0, .ref (gA g 0 0 0)), (1, .int p0)] []
  refine z_aload_n hX dL_strength_0 0 rfl ?_
  refine z_iload_n hX dL_strength_1 1 rfl ?_
  refine zx_callV hX hM cv_RL_45 zRc0 dL_strength_2 ⟨hY, by decide, by decide⟩ rfl rfl (Nat.le_of_ble_eq_true rfl) (fun r h => by cases h) (fun E h => ?_)
  cases h
  refine z_catch (pre := []) (x := (0, 5, 6, 24)) hX hTab rfl (fun z hz => by cases hz) (by decide) (by decide) ck_24 ct_IOE (fun q => ?_)
  refine z_astore_n (lv' := _) hX dL_strength_6 (by decide) rfl ?_
  refine z_bipush (v := -11) hX dL_strength_7 (by decide) ?_
  exact z_iretI hX dL_strength_9 (by decide) rfl (fun _ h => h)
abbrev hh_morale : List (Nat × Nat × Nat × Nat) := [(0, 5, 6, 24)]
set_option maxRecDepth 100000 in
theorem wh_morale : Cond.codeWith yL_morale cL_morale 3 (some .int) hh_morale ∈ gW := gW_I 735 rfl rfl
set_option maxRecDepth 100000 in
theorem hk_morale (l : Launch) {g : zG} {κ κ' : zKp} {ν : zMu} {ω : zOm} {lvlY : Nat} {p0 : Int32} {v : Int32} (hY : lvlY < 20) (hM : zM l g yX4_moraleOf cX4_moraleOf 2 (some .int) lvlY 0 [.ref (gA g 0 0 0), .int p0] κ ν ω κ' ν ω (some (.int v))) : zMW l g yL_morale cL_morale 3 hh_morale 20 1 [.ref (gA g 0 0 0), .int p0] κ ν ω κ' ν ω v := by
  refine zMW_of (by decide) (Nat.le_of_ble_eq_true rfl) (fun p e R s m args below meth c hX hTab => ?_)
  show zZ p l e R s m args below meth c g 3 _ _ _ _ 0 0 [(0, .ref (gA g 0 0 0)), (1, .int p0)] []
  refine z_aload_n hX dL_morale_0 0 rfl ?_
  refine z_iload_n hX dL_morale_1 1 rfl ?_
  refine z_callV1 hX hM cv_RL_48 zRc0 dL_morale_2 ⟨hY, by decide, by decide⟩ rfl rfl (Nat.le_of_ble_eq_true rfl) ?_
  exact z_iretI hX dL_morale_5 (by decide) rfl (fun _ h => h)
set_option maxRecDepth 100000 in
theorem he_morale_IOE (l : Launch) {g : zG} {κ κ' : zKp} {ν : zMu} {ω : zOm} {lvlY : Nat} {p0 : Int32} (hY : lvlY < 20) (hM : zMx l g yX4_moraleOf cX4_moraleOf 2 (some .int) lvlY 1 [.ref (gA g 0 0 0), .int p0] κ ν ω κ' ν ω (.error xIOE)) : zMW l g yL_morale cL_morale 3 hh_morale 20 1 [.ref (gA g 0 0 0), .int p0] κ ν ω κ' ν ω (-11) := by
  refine zMW_of (by decide) (Nat.le_of_ble_eq_true rfl) (fun p e R s m args below meth c hX hTab => ?_)
  show zZ p l e R s m args below meth c g 3 _ _ _ _ 0 0 [(0, .ref (gA g 0 0 0)), (1, .int p0)] []
  refine z_aload_n hX dL_morale_0 0 rfl ?_
  refine z_iload_n hX dL_morale_1 1 rfl ?_
  refine zx_callV hX hM cv_RL_48 zRc0 dL_morale_2 ⟨hY, by decide, by decide⟩ rfl rfl (Nat.le_of_ble_eq_true rfl) (fun r h => by cases h) (fun E h => ?_)
  cases h
  refine z_catch (pre := []) (x := (0, 5, 6, 24)) hX hTab rfl (fun z hz => by cases hz) (by decide) (by decide) ck_24 ct_IOE (fun q => ?_)
  refine z_astore_n (lv' := _) hX dL_morale_6 (by decide) rfl ?_
  refine z_bipush (v := -11) hX dL_morale_7 (by decide) ?_
  exact z_iretI hX dL_morale_9 (by decide) rfl (fun _ h => h)
abbrev hh_orderOf : List (Nat × Nat × Nat × Nat) := [(0, 5, 6, 24), (0, 5, 10, 16)]
set_option maxRecDepth 100000 in
theorem wh_orderOf : Cond.codeWith yL_orderOf cL_orderOf 3 (some .int) hh_orderOf ∈ gW := gW_I 748 rfl rfl
set_option maxRecDepth 100000 in
theorem hk_orderOf (l : Launch) {g : zG} {κ κ' : zKp} {ν : zMu} {ω : zOm} {lvlY : Nat} {p0 : Int32} {v : Int32} (hY : lvlY < 20) (hM : zM l g yX4_orderOf cX4_orderOf 3 (some .char) lvlY 0 [.ref (gA g 0 0 0), .int p0] κ ν ω κ' ν ω (some (.int v))) : zMW l g yL_orderOf cL_orderOf 3 hh_orderOf 20 1 [.ref (gA g 0 0 0), .int p0] κ ν ω κ' ν ω v := by
  refine zMW_of (by decide) (Nat.le_of_ble_eq_true rfl) (fun p e R s m args below meth c hX hTab => ?_)
  show zZ p l e R s m args below meth c g 3 _ _ _ _ 0 0 [(0, .ref (gA g 0 0 0)), (1, .int p0)] []
  refine z_aload_n hX dL_orderOf_0 0 rfl ?_
  refine z_iload_n hX dL_orderOf_1 1 rfl ?_
  refine z_callV1 hX hM cv_RL_51 zRc0 dL_orderOf_2 ⟨hY, by decide, by decide⟩ rfl rfl (Nat.le_of_ble_eq_true rfl) ?_
  exact z_iretI hX dL_orderOf_5 (by decide) rfl (fun _ h => h)
set_option maxRecDepth 100000 in
theorem he_orderOf_IOE (l : Launch) {g : zG} {κ κ' : zKp} {ν : zMu} {ω : zOm} {lvlY : Nat} {p0 : Int32} (hY : lvlY < 20) (hM : zMx l g yX4_orderOf cX4_orderOf 3 (some .char) lvlY 1 [.ref (gA g 0 0 0), .int p0] κ ν ω κ' ν ω (.error xIOE)) : zMW l g yL_orderOf cL_orderOf 3 hh_orderOf 20 1 [.ref (gA g 0 0 0), .int p0] κ ν ω κ' ν ω (-11) := by
  refine zMW_of (by decide) (Nat.le_of_ble_eq_true rfl) (fun p e R s m args below meth c hX hTab => ?_)
  show zZ p l e R s m args below meth c g 3 _ _ _ _ 0 0 [(0, .ref (gA g 0 0 0)), (1, .int p0)] []
  refine z_aload_n hX dL_orderOf_0 0 rfl ?_
  refine z_iload_n hX dL_orderOf_1 1 rfl ?_
  refine zx_callV hX hM cv_RL_51 zRc0 dL_orderOf_2 ⟨hY, by decide, by decide⟩ rfl rfl (Nat.le_of_ble_eq_true rfl) (fun r h => by cases h) (fun E h => ?_)
  cases h
  refine z_catch (pre := []) (x := (0, 5, 6, 24)) hX hTab rfl (fun z hz => by cases hz) (by decide) (by decide) ck_24 ct_IOE (fun q => ?_)
  refine z_astore_n (lv' := _) hX dL_orderOf_6 (by decide) rfl ?_
  refine z_bipush (v := -11) hX dL_orderOf_7 (by decide) ?_
  exact z_iretI hX dL_orderOf_9 (by decide) rfl (fun _ h => h)
set_option maxRecDepth 100000 in
theorem he_orderOf_ISE (l : Launch) {g : zG} {κ κ' : zKp} {ν : zMu} {ω : zOm} {lvlY : Nat} {p0 : Int32} (hY : lvlY < 20) (hM : zMx l g yX4_orderOf cX4_orderOf 3 (some .char) lvlY 1 [.ref (gA g 0 0 0), .int p0] κ ν ω κ' ν ω (.error xISE)) : zMW l g yL_orderOf cL_orderOf 3 hh_orderOf 20 1 [.ref (gA g 0 0 0), .int p0] κ ν ω κ' ν ω (-14) := by
  refine zMW_of (by decide) (Nat.le_of_ble_eq_true rfl) (fun p e R s m args below meth c hX hTab => ?_)
  show zZ p l e R s m args below meth c g 3 _ _ _ _ 0 0 [(0, .ref (gA g 0 0 0)), (1, .int p0)] []
  refine z_aload_n hX dL_orderOf_0 0 rfl ?_
  refine z_iload_n hX dL_orderOf_1 1 rfl ?_
  refine zx_callV hX hM cv_RL_51 zRc0 dL_orderOf_2 ⟨hY, by decide, by decide⟩ rfl rfl (Nat.le_of_ble_eq_true rfl) (fun r h => by cases h) (fun E h => ?_)
  cases h
  refine z_catch (pre := [(0, 5, 6, 24)]) (x := (0, 5, 10, 16)) hX hTab rfl (fun z hz => by
    simp only [List.mem_cons, List.not_mem_nil, or_false] at hz
    rcases hz with rfl
    · exact ⟨by decide, _, ck_24, by decide +kernel⟩) (by decide) (by decide) ck_16 ct_ISE (fun q => ?_)
  refine z_astore_n (lv' := _) hX dL_orderOf_10 (by decide) rfl ?_
  refine z_bipush (v := -14) hX dL_orderOf_11 (by decide) ?_
  exact z_iretI hX dL_orderOf_13 (by decide) rfl (fun _ h => h)
abbrev hh_isStanding : List (Nat × Nat × Nat × Nat) := [(0, 13, 14, 24)]
set_option maxRecDepth 100000 in
theorem wh_isStanding : Cond.codeWith yL_isStanding cL_isStanding 3 (some .int) hh_isStanding ∈ gW := gW_I 742 rfl rfl
set_option maxRecDepth 100000 in
theorem hk_isStanding (l : Launch) {g : zG} {κ κ' : zKp} {ν : zMu} {ω : zOm} {lvlY : Nat} {p0 : Int32} {v : Int32} (hY : lvlY < 20) (hM : zM l g yX4_isStanding cX4_isStanding 2 (some .boolean) lvlY 0 [.ref (gA g 0 0 0), .int p0] κ ν ω κ' ν ω (some (.int v))) : zMW l g yL_isStanding cL_isStanding 3 hh_isStanding 20 1 [.ref (gA g 0 0 0), .int p0] κ ν ω κ' ν ω (if v = 0 then 0 else 1) := by
  refine zMW_of (by decide) (Nat.le_of_ble_eq_true rfl) (fun p e R s m args below meth c hX hTab => ?_)
  show zZ p l e R s m args below meth c g 3 _ _ _ _ 0 0 [(0, .ref (gA g 0 0 0)), (1, .int p0)] []
  refine z_aload_n hX dL_isStanding_0 0 rfl ?_
  refine z_iload_n hX dL_isStanding_1 1 rfl ?_
  refine z_callV1 hX hM cv_RL_54 zRc0 dL_isStanding_2 ⟨hY, by decide, by decide⟩ rfl rfl (Nat.le_of_ble_eq_true rfl) ?_
  refine z_if_eq (tgt := 12) hX dL_isStanding_5 (by decide) (fun h => ?_) (fun h => ?_)
  · rw [if_pos h]
    refine z_iconst (v := 0) hX dL_isStanding_12 (by decide) ?_
    exact z_iretI hX dL_isStanding_13 (by decide) rfl (fun _ h => h)
  · rw [if_neg h]
    refine z_iconst (v := 1) hX dL_isStanding_8 (by decide) ?_
    refine z_goto (tgt := 13) hX dL_isStanding_9 (by decide) ?_
    exact z_iretI hX dL_isStanding_13 (by decide) rfl (fun _ h => h)
set_option maxRecDepth 100000 in
theorem he_isStanding_IOE (l : Launch) {g : zG} {κ κ' : zKp} {ν : zMu} {ω : zOm} {lvlY : Nat} {p0 : Int32} (hY : lvlY < 20) (hM : zMx l g yX4_isStanding cX4_isStanding 2 (some .boolean) lvlY 1 [.ref (gA g 0 0 0), .int p0] κ ν ω κ' ν ω (.error xIOE)) : zMW l g yL_isStanding cL_isStanding 3 hh_isStanding 20 1 [.ref (gA g 0 0 0), .int p0] κ ν ω κ' ν ω (-11) := by
  refine zMW_of (by decide) (Nat.le_of_ble_eq_true rfl) (fun p e R s m args below meth c hX hTab => ?_)
  show zZ p l e R s m args below meth c g 3 _ _ _ _ 0 0 [(0, .ref (gA g 0 0 0)), (1, .int p0)] []
  refine z_aload_n hX dL_isStanding_0 0 rfl ?_
  refine z_iload_n hX dL_isStanding_1 1 rfl ?_
  refine zx_callV hX hM cv_RL_54 zRc0 dL_isStanding_2 ⟨hY, by decide, by decide⟩ rfl rfl (Nat.le_of_ble_eq_true rfl) (fun r h => by cases h) (fun E h => ?_)
  cases h
  refine z_catch (pre := []) (x := (0, 13, 14, 24)) hX hTab rfl (fun z hz => by cases hz) (by decide) (by decide) ck_24 ct_IOE (fun q => ?_)
  refine z_astore_n (lv' := _) hX dL_isStanding_14 (by decide) rfl ?_
  refine z_bipush (v := -11) hX dL_isStanding_15 (by decide) ?_
  exact z_iretI hX dL_isStanding_17 (by decide) rfl (fun _ h => h)
abbrev hh_isRouted : List (Nat × Nat × Nat × Nat) := [(0, 13, 14, 24)]
set_option maxRecDepth 100000 in
theorem wh_isRouted : Cond.codeWith yL_isRouted cL_isRouted 3 (some .int) hh_isRouted ∈ gW := gW_I 745 rfl rfl
set_option maxRecDepth 100000 in
theorem hk_isRouted (l : Launch) {g : zG} {κ κ' : zKp} {ν : zMu} {ω : zOm} {lvlY : Nat} {p0 : Int32} {v : Int32} (hY : lvlY < 20) (hM : zM l g yX4_isRouted cX4_isRouted 2 (some .boolean) lvlY 0 [.ref (gA g 0 0 0), .int p0] κ ν ω κ' ν ω (some (.int v))) : zMW l g yL_isRouted cL_isRouted 3 hh_isRouted 20 1 [.ref (gA g 0 0 0), .int p0] κ ν ω κ' ν ω (if v = 0 then 0 else 1) := by
  refine zMW_of (by decide) (Nat.le_of_ble_eq_true rfl) (fun p e R s m args below meth c hX hTab => ?_)
  show zZ p l e R s m args below meth c g 3 _ _ _ _ 0 0 [(0, .ref (gA g 0 0 0)), (1, .int p0)] []
  refine z_aload_n hX dL_isRouted_0 0 rfl ?_
  refine z_iload_n hX dL_isRouted_1 1 rfl ?_
  refine z_callV1 hX hM cv_RL_58 zRc0 dL_isRouted_2 ⟨hY, by decide, by decide⟩ rfl rfl (Nat.le_of_ble_eq_true rfl) ?_
  refine z_if_eq (tgt := 12) hX dL_isRouted_5 (by decide) (fun h => ?_) (fun h => ?_)
  · rw [if_pos h]
    refine z_iconst (v := 0) hX dL_isRouted_12 (by decide) ?_
    exact z_iretI hX dL_isRouted_13 (by decide) rfl (fun _ h => h)
  · rw [if_neg h]
    refine z_iconst (v := 1) hX dL_isRouted_8 (by decide) ?_
    refine z_goto (tgt := 13) hX dL_isRouted_9 (by decide) ?_
    exact z_iretI hX dL_isRouted_13 (by decide) rfl (fun _ h => h)
set_option maxRecDepth 100000 in
theorem he_isRouted_IOE (l : Launch) {g : zG} {κ κ' : zKp} {ν : zMu} {ω : zOm} {lvlY : Nat} {p0 : Int32} (hY : lvlY < 20) (hM : zMx l g yX4_isRouted cX4_isRouted 2 (some .boolean) lvlY 1 [.ref (gA g 0 0 0), .int p0] κ ν ω κ' ν ω (.error xIOE)) : zMW l g yL_isRouted cL_isRouted 3 hh_isRouted 20 1 [.ref (gA g 0 0 0), .int p0] κ ν ω κ' ν ω (-11) := by
  refine zMW_of (by decide) (Nat.le_of_ble_eq_true rfl) (fun p e R s m args below meth c hX hTab => ?_)
  show zZ p l e R s m args below meth c g 3 _ _ _ _ 0 0 [(0, .ref (gA g 0 0 0)), (1, .int p0)] []
  refine z_aload_n hX dL_isRouted_0 0 rfl ?_
  refine z_iload_n hX dL_isRouted_1 1 rfl ?_
  refine zx_callV hX hM cv_RL_58 zRc0 dL_isRouted_2 ⟨hY, by decide, by decide⟩ rfl rfl (Nat.le_of_ble_eq_true rfl) (fun r h => by cases h) (fun E h => ?_)
  cases h
  refine z_catch (pre := []) (x := (0, 13, 14, 24)) hX hTab rfl (fun z hz => by cases hz) (by decide) (by decide) ck_24 ct_IOE (fun q => ?_)
  refine z_astore_n (lv' := _) hX dL_isRouted_14 (by decide) rfl ?_
  refine z_bipush (v := -11) hX dL_isRouted_15 (by decide) ?_
  exact z_iretI hX dL_isRouted_17 (by decide) rfl (fun _ h => h)
abbrev hh_routed : List (Nat × Nat × Nat × Nat) := [(0, 5, 6, 24)]
set_option maxRecDepth 100000 in
theorem wh_routed : Cond.codeWith yL_routed cL_routed 3 (some .int) hh_routed ∈ gW := gW_I 849 rfl rfl
set_option maxRecDepth 100000 in
theorem hk_routed (l : Launch) {g : zG} {κ κ' : zKp} {ν : zMu} {ω : zOm} {lvlY : Nat} {p0 : Int32} {v : Int32} (hY : lvlY < 20) (hM : zM l g yX4_routedTurns cX4_routedTurns 2 (some .int) lvlY 0 [.ref (gA g 0 0 0), .int p0] κ ν ω κ' ν ω (some (.int v))) : zMW l g yL_routed cL_routed 3 hh_routed 20 1 [.ref (gA g 0 0 0), .int p0] κ ν ω κ' ν ω v := by
  refine zMW_of (by decide) (Nat.le_of_ble_eq_true rfl) (fun p e R s m args below meth c hX hTab => ?_)
  show zZ p l e R s m args below meth c g 3 _ _ _ _ 0 0 [(0, .ref (gA g 0 0 0)), (1, .int p0)] []
  refine z_aload_n hX dL_routed_0 0 rfl ?_
  refine z_iload_n hX dL_routed_1 1 rfl ?_
  refine z_callV1 hX hM cv_RL_61 zRc0 dL_routed_2 ⟨hY, by decide, by decide⟩ rfl rfl (Nat.le_of_ble_eq_true rfl) ?_
  exact z_iretI hX dL_routed_5 (by decide) rfl (fun _ h => h)
set_option maxRecDepth 100000 in
theorem he_routed_IOE (l : Launch) {g : zG} {κ κ' : zKp} {ν : zMu} {ω : zOm} {lvlY : Nat} {p0 : Int32} (hY : lvlY < 20) (hM : zMx l g yX4_routedTurns cX4_routedTurns 2 (some .int) lvlY 1 [.ref (gA g 0 0 0), .int p0] κ ν ω κ' ν ω (.error xIOE)) : zMW l g yL_routed cL_routed 3 hh_routed 20 1 [.ref (gA g 0 0 0), .int p0] κ ν ω κ' ν ω (-11) := by
  refine zMW_of (by decide) (Nat.le_of_ble_eq_true rfl) (fun p e R s m args below meth c hX hTab => ?_)
  show zZ p l e R s m args below meth c g 3 _ _ _ _ 0 0 [(0, .ref (gA g 0 0 0)), (1, .int p0)] []
  refine z_aload_n hX dL_routed_0 0 rfl ?_
  refine z_iload_n hX dL_routed_1 1 rfl ?_
  refine zx_callV hX hM cv_RL_61 zRc0 dL_routed_2 ⟨hY, by decide, by decide⟩ rfl rfl (Nat.le_of_ble_eq_true rfl) (fun r h => by cases h) (fun E h => ?_)
  cases h
  refine z_catch (pre := []) (x := (0, 5, 6, 24)) hX hTab rfl (fun z hz => by cases hz) (by decide) (by decide) ck_24 ct_IOE (fun q => ?_)
  refine z_astore_n (lv' := _) hX dL_routed_6 (by decide) rfl ?_
  refine z_bipush (v := -11) hX dL_routed_7 (by decide) ?_
  exact z_iretI hX dL_routed_9 (by decide) rfl (fun _ h => h)
abbrev hh_lineIn : List (Nat × Nat × Nat × Nat) := [(0, 6, 7, 24), (0, 6, 11, 36)]
set_option maxRecDepth 100000 in
theorem wh_lineIn : Cond.codeWith yL_lineIn cL_lineIn 4 (some .int) hh_lineIn ∈ gW := gW_I 652 rfl rfl
set_option maxRecDepth 100000 in
theorem hk_lineIn (l : Launch) {g : zG} {κ κ' : zKp} {ν : zMu} {ω : zOm} {lvlY : Nat} {p0 p1 : Int32} {v : Int32} (hY : lvlY < 20) (hM : zM l g yX4_lineIn cX4_lineIn 4 (some .int) lvlY 0 [.ref (gA g 0 0 0), .int p0, .int p1] κ ν ω κ' ν ω (some (.int v))) : zMW l g yL_lineIn cL_lineIn 4 hh_lineIn 20 1 [.ref (gA g 0 0 0), .int p0, .int p1] κ ν ω κ' ν ω v := by
  refine zMW_of (by decide) (Nat.le_of_ble_eq_true rfl) (fun p e R s m args below meth c hX hTab => ?_)
  show zZ p l e R s m args below meth c g 4 _ _ _ _ 0 0 [(0, .ref (gA g 0 0 0)), (1, .int p0), (2, .int p1)] []
  refine z_aload_n hX dL_lineIn_0 0 rfl ?_
  refine z_iload_n hX dL_lineIn_1 1 rfl ?_
  refine z_iload_n hX dL_lineIn_2 2 rfl ?_
  refine z_callV1 hX hM cv_RL_64 zRc0 dL_lineIn_3 ⟨hY, by decide, by decide⟩ rfl rfl (Nat.le_of_ble_eq_true rfl) ?_
  exact z_iretI hX dL_lineIn_6 (by decide) rfl (fun _ h => h)
set_option maxRecDepth 100000 in
theorem he_lineIn_IOE (l : Launch) {g : zG} {κ κ' : zKp} {ν : zMu} {ω : zOm} {lvlY : Nat} {p0 p1 : Int32} (hY : lvlY < 20) (hM : zMx l g yX4_lineIn cX4_lineIn 4 (some .int) lvlY 1 [.ref (gA g 0 0 0), .int p0, .int p1] κ ν ω κ' ν ω (.error xIOE)) : zMW l g yL_lineIn cL_lineIn 4 hh_lineIn 20 1 [.ref (gA g 0 0 0), .int p0, .int p1] κ ν ω κ' ν ω (-11) := by
  refine zMW_of (by decide) (Nat.le_of_ble_eq_true rfl) (fun p e R s m args below meth c hX hTab => ?_)
  show zZ p l e R s m args below meth c g 4 _ _ _ _ 0 0 [(0, .ref (gA g 0 0 0)), (1, .int p0), (2, .int p1)] []
  refine z_aload_n hX dL_lineIn_0 0 rfl ?_
  refine z_iload_n hX dL_lineIn_1 1 rfl ?_
  refine z_iload_n hX dL_lineIn_2 2 rfl ?_
  refine zx_callV hX hM cv_RL_64 zRc0 dL_lineIn_3 ⟨hY, by decide, by decide⟩ rfl rfl (Nat.le_of_ble_eq_true rfl) (fun r h => by cases h) (fun E h => ?_)
  cases h
  refine z_catch (pre := []) (x := (0, 6, 7, 24)) hX hTab rfl (fun z hz => by cases hz) (by decide) (by decide) ck_24 ct_IOE (fun q => ?_)
  refine z_astore_n (lv' := _) hX dL_lineIn_7 (by decide) rfl ?_
  refine z_bipush (v := -11) hX dL_lineIn_8 (by decide) ?_
  exact z_iretI hX dL_lineIn_10 (by decide) rfl (fun _ h => h)
set_option maxRecDepth 100000 in
theorem he_lineIn_NSE (l : Launch) {g : zG} {κ κ' : zKp} {ν : zMu} {ω : zOm} {lvlY : Nat} {p0 p1 : Int32} (hY : lvlY < 20) (hM : zMx l g yX4_lineIn cX4_lineIn 4 (some .int) lvlY 1 [.ref (gA g 0 0 0), .int p0, .int p1] κ ν ω κ' ν ω (.error xNSE)) : zMW l g yL_lineIn cL_lineIn 4 hh_lineIn 20 1 [.ref (gA g 0 0 0), .int p0, .int p1] κ ν ω κ' ν ω (-13) := by
  refine zMW_of (by decide) (Nat.le_of_ble_eq_true rfl) (fun p e R s m args below meth c hX hTab => ?_)
  show zZ p l e R s m args below meth c g 4 _ _ _ _ 0 0 [(0, .ref (gA g 0 0 0)), (1, .int p0), (2, .int p1)] []
  refine z_aload_n hX dL_lineIn_0 0 rfl ?_
  refine z_iload_n hX dL_lineIn_1 1 rfl ?_
  refine z_iload_n hX dL_lineIn_2 2 rfl ?_
  refine zx_callV hX hM cv_RL_64 zRc0 dL_lineIn_3 ⟨hY, by decide, by decide⟩ rfl rfl (Nat.le_of_ble_eq_true rfl) (fun r h => by cases h) (fun E h => ?_)
  cases h
  refine z_catch (pre := [(0, 6, 7, 24)]) (x := (0, 6, 11, 36)) hX hTab rfl (fun z hz => by
    simp only [List.mem_cons, List.not_mem_nil, or_false] at hz
    rcases hz with rfl
    · exact ⟨by decide, _, ck_24, by decide +kernel⟩) (by decide) (by decide) ck_36 ct_NSE (fun q => ?_)
  refine z_astore_n (lv' := _) hX dL_lineIn_11 (by decide) rfl ?_
  refine z_bipush (v := -13) hX dL_lineIn_12 (by decide) ?_
  exact z_iretI hX dL_lineIn_14 (by decide) rfl (fun _ h => h)
abbrev hh_attack : List (Nat × Nat × Nat × Nat) := [(0, 5, 6, 24)]
set_option maxRecDepth 100000 in
theorem wh_attack : Cond.codeWith yL_attack cL_attack 3 (some .int) hh_attack ∈ gW := gW_I 755 rfl rfl
set_option maxRecDepth 100000 in
theorem hk_attack (l : Launch) {g : zG} {κ κ' : zKp} {ν : zMu} {ω : zOm} {lvlY : Nat} {p0 : Int32} {v : Int32} (hY : lvlY < 20) (hM : zM l g yX4_attackOf cX4_attackOf 2 (some .int) lvlY 0 [.ref (gA g 0 0 0), .int p0] κ ν ω κ' ν ω (some (.int v))) : zMW l g yL_attack cL_attack 3 hh_attack 20 1 [.ref (gA g 0 0 0), .int p0] κ ν ω κ' ν ω v := by
  refine zMW_of (by decide) (Nat.le_of_ble_eq_true rfl) (fun p e R s m args below meth c hX hTab => ?_)
  show zZ p l e R s m args below meth c g 3 _ _ _ _ 0 0 [(0, .ref (gA g 0 0 0)), (1, .int p0)] []
  refine z_aload_n hX dL_attack_0 0 rfl ?_
  refine z_iload_n hX dL_attack_1 1 rfl ?_
  refine z_callV1 hX hM cv_RL_68 zRc0 dL_attack_2 ⟨hY, by decide, by decide⟩ rfl rfl (Nat.le_of_ble_eq_true rfl) ?_
  exact z_iretI hX dL_attack_5 (by decide) rfl (fun _ h => h)
set_option maxRecDepth 100000 in
theorem he_attack_IOE (l : Launch) {g : zG} {κ κ' : zKp} {ν : zMu} {ω : zOm} {lvlY : Nat} {p0 : Int32} (hY : lvlY < 20) (hM : zMx l g yX4_attackOf cX4_attackOf 2 (some .int) lvlY 1 [.ref (gA g 0 0 0), .int p0] κ ν ω κ' ν ω (.error xIOE)) : zMW l g yL_attack cL_attack 3 hh_attack 20 1 [.ref (gA g 0 0 0), .int p0] κ ν ω κ' ν ω (-11) := by
  refine zMW_of (by decide) (Nat.le_of_ble_eq_true rfl) (fun p e R s m args below meth c hX hTab => ?_)
  show zZ p l e R s m args below meth c g 3 _ _ _ _ 0 0 [(0, .ref (gA g 0 0 0)), (1, .int p0)] []
  refine z_aload_n hX dL_attack_0 0 rfl ?_
  refine z_iload_n hX dL_attack_1 1 rfl ?_
  refine zx_callV hX hM cv_RL_68 zRc0 dL_attack_2 ⟨hY, by decide, by decide⟩ rfl rfl (Nat.le_of_ble_eq_true rfl) (fun r h => by cases h) (fun E h => ?_)
  cases h
  refine z_catch (pre := []) (x := (0, 5, 6, 24)) hX hTab rfl (fun z hz => by cases hz) (by decide) (by decide) ck_24 ct_IOE (fun q => ?_)
  refine z_astore_n (lv' := _) hX dL_attack_6 (by decide) rfl ?_
  refine z_bipush (v := -11) hX dL_attack_7 (by decide) ?_
  exact z_iretI hX dL_attack_9 (by decide) rfl (fun _ h => h)
abbrev hh_counter : List (Nat × Nat × Nat × Nat) := [(0, 5, 6, 24)]
set_option maxRecDepth 100000 in
theorem wh_counter : Cond.codeWith yL_counter cL_counter 3 (some .int) hh_counter ∈ gW := gW_I 766 rfl rfl
set_option maxRecDepth 100000 in
theorem hk_counter (l : Launch) {g : zG} {κ κ' : zKp} {ν : zMu} {ω : zOm} {lvlY : Nat} {p0 : Int32} {v : Int32} (hY : lvlY < 20) (hM : zM l g yX4_counterOf cX4_counterOf 2 (some .int) lvlY 0 [.ref (gA g 0 0 0), .int p0] κ ν ω κ' ν ω (some (.int v))) : zMW l g yL_counter cL_counter 3 hh_counter 20 1 [.ref (gA g 0 0 0), .int p0] κ ν ω κ' ν ω v := by
  refine zMW_of (by decide) (Nat.le_of_ble_eq_true rfl) (fun p e R s m args below meth c hX hTab => ?_)
  show zZ p l e R s m args below meth c g 3 _ _ _ _ 0 0 [(0, .ref (gA g 0 0 0)), (1, .int p0)] []
  refine z_aload_n hX dL_counter_0 0 rfl ?_
  refine z_iload_n hX dL_counter_1 1 rfl ?_
  refine z_callV1 hX hM cv_RL_71 zRc0 dL_counter_2 ⟨hY, by decide, by decide⟩ rfl rfl (Nat.le_of_ble_eq_true rfl) ?_
  exact z_iretI hX dL_counter_5 (by decide) rfl (fun _ h => h)
set_option maxRecDepth 100000 in
theorem he_counter_IOE (l : Launch) {g : zG} {κ κ' : zKp} {ν : zMu} {ω : zOm} {lvlY : Nat} {p0 : Int32} (hY : lvlY < 20) (hM : zMx l g yX4_counterOf cX4_counterOf 2 (some .int) lvlY 1 [.ref (gA g 0 0 0), .int p0] κ ν ω κ' ν ω (.error xIOE)) : zMW l g yL_counter cL_counter 3 hh_counter 20 1 [.ref (gA g 0 0 0), .int p0] κ ν ω κ' ν ω (-11) := by
  refine zMW_of (by decide) (Nat.le_of_ble_eq_true rfl) (fun p e R s m args below meth c hX hTab => ?_)
  show zZ p l e R s m args below meth c g 3 _ _ _ _ 0 0 [(0, .ref (gA g 0 0 0)), (1, .int p0)] []
  refine z_aload_n hX dL_counter_0 0 rfl ?_
  refine z_iload_n hX dL_counter_1 1 rfl ?_
  refine zx_callV hX hM cv_RL_71 zRc0 dL_counter_2 ⟨hY, by decide, by decide⟩ rfl rfl (Nat.le_of_ble_eq_true rfl) (fun r h => by cases h) (fun E h => ?_)
  cases h
  refine z_catch (pre := []) (x := (0, 5, 6, 24)) hX hTab rfl (fun z hz => by cases hz) (by decide) (by decide) ck_24 ct_IOE (fun q => ?_)
  refine z_astore_n (lv' := _) hX dL_counter_6 (by decide) rfl ?_
  refine z_bipush (v := -11) hX dL_counter_7 (by decide) ?_
  exact z_iretI hX dL_counter_9 (by decide) rfl (fun _ h => h)
abbrev hh_support : List (Nat × Nat × Nat × Nat) := [(0, 5, 6, 24), (0, 5, 10, 36)]
set_option maxRecDepth 100000 in
theorem wh_support : Cond.codeWith yL_support cL_support 3 (some .int) hh_support ∈ gW := gW_I 790 rfl rfl
set_option maxRecDepth 100000 in
theorem hk_support (l : Launch) {g : zG} {κ κ' : zKp} {ν : zMu} {ω : zOm} {lvlY : Nat} {p0 : Int32} {v : Int32} (hY : lvlY < 20) (hM : zM l g yX4_supportOf cX4_supportOf 2 (some .int) lvlY 0 [.ref (gA g 0 0 0), .int p0] κ ν ω κ' ν ω (some (.int v))) : zMW l g yL_support cL_support 3 hh_support 20 1 [.ref (gA g 0 0 0), .int p0] κ ν ω κ' ν ω v := by
  refine zMW_of (by decide) (Nat.le_of_ble_eq_true rfl) (fun p e R s m args below meth c hX hTab => ?_)
  show zZ p l e R s m args below meth c g 3 _ _ _ _ 0 0 [(0, .ref (gA g 0 0 0)), (1, .int p0)] []
  refine z_aload_n hX dL_support_0 0 rfl ?_
  refine z_iload_n hX dL_support_1 1 rfl ?_
  refine z_callV1 hX hM cv_RL_74 zRc0 dL_support_2 ⟨hY, by decide, by decide⟩ rfl rfl (Nat.le_of_ble_eq_true rfl) ?_
  exact z_iretI hX dL_support_5 (by decide) rfl (fun _ h => h)
set_option maxRecDepth 100000 in
theorem he_support_IOE (l : Launch) {g : zG} {κ κ' : zKp} {ν : zMu} {ω : zOm} {lvlY : Nat} {p0 : Int32} (hY : lvlY < 20) (hM : zMx l g yX4_supportOf cX4_supportOf 2 (some .int) lvlY 1 [.ref (gA g 0 0 0), .int p0] κ ν ω κ' ν ω (.error xIOE)) : zMW l g yL_support cL_support 3 hh_support 20 1 [.ref (gA g 0 0 0), .int p0] κ ν ω κ' ν ω (-11) := by
  refine zMW_of (by decide) (Nat.le_of_ble_eq_true rfl) (fun p e R s m args below meth c hX hTab => ?_)
  show zZ p l e R s m args below meth c g 3 _ _ _ _ 0 0 [(0, .ref (gA g 0 0 0)), (1, .int p0)] []
  refine z_aload_n hX dL_support_0 0 rfl ?_
  refine z_iload_n hX dL_support_1 1 rfl ?_
  refine zx_callV hX hM cv_RL_74 zRc0 dL_support_2 ⟨hY, by decide, by decide⟩ rfl rfl (Nat.le_of_ble_eq_true rfl) (fun r h => by cases h) (fun E h => ?_)
  cases h
  refine z_catch (pre := []) (x := (0, 5, 6, 24)) hX hTab rfl (fun z hz => by cases hz) (by decide) (by decide) ck_24 ct_IOE (fun q => ?_)
  refine z_astore_n (lv' := _) hX dL_support_6 (by decide) rfl ?_
  refine z_bipush (v := -11) hX dL_support_7 (by decide) ?_
  exact z_iretI hX dL_support_9 (by decide) rfl (fun _ h => h)
set_option maxRecDepth 100000 in
theorem he_support_NSE (l : Launch) {g : zG} {κ κ' : zKp} {ν : zMu} {ω : zOm} {lvlY : Nat} {p0 : Int32} (hY : lvlY < 20) (hM : zMx l g yX4_supportOf cX4_supportOf 2 (some .int) lvlY 1 [.ref (gA g 0 0 0), .int p0] κ ν ω κ' ν ω (.error xNSE)) : zMW l g yL_support cL_support 3 hh_support 20 1 [.ref (gA g 0 0 0), .int p0] κ ν ω κ' ν ω (-13) := by
  refine zMW_of (by decide) (Nat.le_of_ble_eq_true rfl) (fun p e R s m args below meth c hX hTab => ?_)
  show zZ p l e R s m args below meth c g 3 _ _ _ _ 0 0 [(0, .ref (gA g 0 0 0)), (1, .int p0)] []
  refine z_aload_n hX dL_support_0 0 rfl ?_
  refine z_iload_n hX dL_support_1 1 rfl ?_
  refine zx_callV hX hM cv_RL_74 zRc0 dL_support_2 ⟨hY, by decide, by decide⟩ rfl rfl (Nat.le_of_ble_eq_true rfl) (fun r h => by cases h) (fun E h => ?_)
  cases h
  refine z_catch (pre := [(0, 5, 6, 24)]) (x := (0, 5, 10, 36)) hX hTab rfl (fun z hz => by
    simp only [List.mem_cons, List.not_mem_nil, or_false] at hz
    rcases hz with rfl
    · exact ⟨by decide, _, ck_24, by decide +kernel⟩) (by decide) (by decide) ck_36 ct_NSE (fun q => ?_)
  refine z_astore_n (lv' := _) hX dL_support_10 (by decide) rfl ?_
  refine z_bipush (v := -13) hX dL_support_11 (by decide) ?_
  exact z_iretI hX dL_support_13 (by decide) rfl (fun _ h => h)
abbrev hh_byLines : List (Nat × Nat × Nat × Nat) := [(0, 5, 6, 24), (0, 5, 10, 36)]
set_option maxRecDepth 100000 in
theorem wh_byLines : Cond.codeWith yL_byLines cL_byLines 3 (some .int) hh_byLines ∈ gW := gW_I 801 rfl rfl
set_option maxRecDepth 100000 in
theorem hk_byLines (l : Launch) {g : zG} {κ κ' : zKp} {ν : zMu} {ω : zOm} {lvlY : Nat} {p0 : Int32} {v : Int32} (hY : lvlY < 20) (hM : zM l g yX4_supportByLines cX4_supportByLines 2 (some .int) lvlY 0 [.ref (gA g 0 0 0), .int p0] κ ν ω κ' ν ω (some (.int v))) : zMW l g yL_byLines cL_byLines 3 hh_byLines 20 1 [.ref (gA g 0 0 0), .int p0] κ ν ω κ' ν ω v := by
  refine zMW_of (by decide) (Nat.le_of_ble_eq_true rfl) (fun p e R s m args below meth c hX hTab => ?_)
  show zZ p l e R s m args below meth c g 3 _ _ _ _ 0 0 [(0, .ref (gA g 0 0 0)), (1, .int p0)] []
  refine z_aload_n hX dL_byLines_0 0 rfl ?_
  refine z_iload_n hX dL_byLines_1 1 rfl ?_
  refine z_callV1 hX hM cv_RL_77 zRc0 dL_byLines_2 ⟨hY, by decide, by decide⟩ rfl rfl (Nat.le_of_ble_eq_true rfl) ?_
  exact z_iretI hX dL_byLines_5 (by decide) rfl (fun _ h => h)
set_option maxRecDepth 100000 in
theorem he_byLines_IOE (l : Launch) {g : zG} {κ κ' : zKp} {ν : zMu} {ω : zOm} {lvlY : Nat} {p0 : Int32} (hY : lvlY < 20) (hM : zMx l g yX4_supportByLines cX4_supportByLines 2 (some .int) lvlY 1 [.ref (gA g 0 0 0), .int p0] κ ν ω κ' ν ω (.error xIOE)) : zMW l g yL_byLines cL_byLines 3 hh_byLines 20 1 [.ref (gA g 0 0 0), .int p0] κ ν ω κ' ν ω (-11) := by
  refine zMW_of (by decide) (Nat.le_of_ble_eq_true rfl) (fun p e R s m args below meth c hX hTab => ?_)
  show zZ p l e R s m args below meth c g 3 _ _ _ _ 0 0 [(0, .ref (gA g 0 0 0)), (1, .int p0)] []
  refine z_aload_n hX dL_byLines_0 0 rfl ?_
  refine z_iload_n hX dL_byLines_1 1 rfl ?_
  refine zx_callV hX hM cv_RL_77 zRc0 dL_byLines_2 ⟨hY, by decide, by decide⟩ rfl rfl (Nat.le_of_ble_eq_true rfl) (fun r h => by cases h) (fun E h => ?_)
  cases h
  refine z_catch (pre := []) (x := (0, 5, 6, 24)) hX hTab rfl (fun z hz => by cases hz) (by decide) (by decide) ck_24 ct_IOE (fun q => ?_)
  refine z_astore_n (lv' := _) hX dL_byLines_6 (by decide) rfl ?_
  refine z_bipush (v := -11) hX dL_byLines_7 (by decide) ?_
  exact z_iretI hX dL_byLines_9 (by decide) rfl (fun _ h => h)
set_option maxRecDepth 100000 in
theorem he_byLines_NSE (l : Launch) {g : zG} {κ κ' : zKp} {ν : zMu} {ω : zOm} {lvlY : Nat} {p0 : Int32} (hY : lvlY < 20) (hM : zMx l g yX4_supportByLines cX4_supportByLines 2 (some .int) lvlY 1 [.ref (gA g 0 0 0), .int p0] κ ν ω κ' ν ω (.error xNSE)) : zMW l g yL_byLines cL_byLines 3 hh_byLines 20 1 [.ref (gA g 0 0 0), .int p0] κ ν ω κ' ν ω (-13) := by
  refine zMW_of (by decide) (Nat.le_of_ble_eq_true rfl) (fun p e R s m args below meth c hX hTab => ?_)
  show zZ p l e R s m args below meth c g 3 _ _ _ _ 0 0 [(0, .ref (gA g 0 0 0)), (1, .int p0)] []
  refine z_aload_n hX dL_byLines_0 0 rfl ?_
  refine z_iload_n hX dL_byLines_1 1 rfl ?_
  refine zx_callV hX hM cv_RL_77 zRc0 dL_byLines_2 ⟨hY, by decide, by decide⟩ rfl rfl (Nat.le_of_ble_eq_true rfl) (fun r h => by cases h) (fun E h => ?_)
  cases h
  refine z_catch (pre := [(0, 5, 6, 24)]) (x := (0, 5, 10, 36)) hX hTab rfl (fun z hz => by
    simp only [List.mem_cons, List.not_mem_nil, or_false] at hz
    rcases hz with rfl
    · exact ⟨by decide, _, ck_24, by decide +kernel⟩) (by decide) (by decide) ck_36 ct_NSE (fun q => ?_)
  refine z_astore_n (lv' := _) hX dL_byLines_10 (by decide) rfl ?_
  refine z_bipush (v := -13) hX dL_byLines_11 (by decide) ?_
  exact z_iretI hX dL_byLines_13 (by decide) rfl (fun _ h => h)
abbrev hh_ahead : List (Nat × Nat × Nat × Nat) := [(0, 5, 6, 24), (0, 5, 10, 36)]
set_option maxRecDepth 100000 in
theorem wh_ahead : Cond.codeWith yL_ahead cL_ahead 3 (some .int) hh_ahead ∈ gW := gW_I 809 rfl rfl
set_option maxRecDepth 100000 in
theorem hk_ahead (l : Launch) {g : zG} {κ κ' : zKp} {ν : zMu} {ω : zOm} {lvlY : Nat} {p0 : Int32} {v : Int32} (hY : lvlY < 20) (hM : zM l g yX4_enemyAhead cX4_enemyAhead 3 (some .int) lvlY 0 [.ref (gA g 0 0 0), .int p0] κ ν ω κ' ν ω (some (.int v))) : zMW l g yL_ahead cL_ahead 3 hh_ahead 20 1 [.ref (gA g 0 0 0), .int p0] κ ν ω κ' ν ω v := by
  refine zMW_of (by decide) (Nat.le_of_ble_eq_true rfl) (fun p e R s m args below meth c hX hTab => ?_)
  show zZ p l e R s m args below meth c g 3 _ _ _ _ 0 0 [(0, .ref (gA g 0 0 0)), (1, .int p0)] []
  refine z_aload_n hX dL_ahead_0 0 rfl ?_
  refine z_iload_n hX dL_ahead_1 1 rfl ?_
  refine z_callV1 hX hM cv_RL_80 zRc0 dL_ahead_2 ⟨hY, by decide, by decide⟩ rfl rfl (Nat.le_of_ble_eq_true rfl) ?_
  exact z_iretI hX dL_ahead_5 (by decide) rfl (fun _ h => h)
set_option maxRecDepth 100000 in
theorem he_ahead_IOE (l : Launch) {g : zG} {κ κ' : zKp} {ν : zMu} {ω : zOm} {lvlY : Nat} {p0 : Int32} (hY : lvlY < 20) (hM : zMx l g yX4_enemyAhead cX4_enemyAhead 3 (some .int) lvlY 1 [.ref (gA g 0 0 0), .int p0] κ ν ω κ' ν ω (.error xIOE)) : zMW l g yL_ahead cL_ahead 3 hh_ahead 20 1 [.ref (gA g 0 0 0), .int p0] κ ν ω κ' ν ω (-11) := by
  refine zMW_of (by decide) (Nat.le_of_ble_eq_true rfl) (fun p e R s m args below meth c hX hTab => ?_)
  show zZ p l e R s m args below meth c g 3 _ _ _ _ 0 0 [(0, .ref (gA g 0 0 0)), (1, .int p0)] []
  refine z_aload_n hX dL_ahead_0 0 rfl ?_
  refine z_iload_n hX dL_ahead_1 1 rfl ?_
  refine zx_callV hX hM cv_RL_80 zRc0 dL_ahead_2 ⟨hY, by decide, by decide⟩ rfl rfl (Nat.le_of_ble_eq_true rfl) (fun r h => by cases h) (fun E h => ?_)
  cases h
  refine z_catch (pre := []) (x := (0, 5, 6, 24)) hX hTab rfl (fun z hz => by cases hz) (by decide) (by decide) ck_24 ct_IOE (fun q => ?_)
  refine z_astore_n (lv' := _) hX dL_ahead_6 (by decide) rfl ?_
  refine z_bipush (v := -11) hX dL_ahead_7 (by decide) ?_
  exact z_iretI hX dL_ahead_9 (by decide) rfl (fun _ h => h)
set_option maxRecDepth 100000 in
theorem he_ahead_NSE (l : Launch) {g : zG} {κ κ' : zKp} {ν : zMu} {ω : zOm} {lvlY : Nat} {p0 : Int32} (hY : lvlY < 20) (hM : zMx l g yX4_enemyAhead cX4_enemyAhead 3 (some .int) lvlY 1 [.ref (gA g 0 0 0), .int p0] κ ν ω κ' ν ω (.error xNSE)) : zMW l g yL_ahead cL_ahead 3 hh_ahead 20 1 [.ref (gA g 0 0 0), .int p0] κ ν ω κ' ν ω (-13) := by
  refine zMW_of (by decide) (Nat.le_of_ble_eq_true rfl) (fun p e R s m args below meth c hX hTab => ?_)
  show zZ p l e R s m args below meth c g 3 _ _ _ _ 0 0 [(0, .ref (gA g 0 0 0)), (1, .int p0)] []
  refine z_aload_n hX dL_ahead_0 0 rfl ?_
  refine z_iload_n hX dL_ahead_1 1 rfl ?_
  refine zx_callV hX hM cv_RL_80 zRc0 dL_ahead_2 ⟨hY, by decide, by decide⟩ rfl rfl (Nat.le_of_ble_eq_true rfl) (fun r h => by cases h) (fun E h => ?_)
  cases h
  refine z_catch (pre := [(0, 5, 6, 24)]) (x := (0, 5, 10, 36)) hX hTab rfl (fun z hz => by
    simp only [List.mem_cons, List.not_mem_nil, or_false] at hz
    rcases hz with rfl
    · exact ⟨by decide, _, ck_24, by decide +kernel⟩) (by decide) (by decide) ck_36 ct_NSE (fun q => ?_)
  refine z_astore_n (lv' := _) hX dL_ahead_10 (by decide) rfl ?_
  refine z_bipush (v := -13) hX dL_ahead_11 (by decide) ?_
  exact z_iretI hX dL_ahead_13 (by decide) rfl (fun _ h => h)
abbrev hh_byDistances : List (Nat × Nat × Nat × Nat) := [(0, 5, 6, 24), (0, 5, 10, 36)]
set_option maxRecDepth 100000 in
theorem wh_byDistances : Cond.codeWith yL_byDistances cL_byDistances 3 (some .int) hh_byDistances ∈ gW := gW_I 821 rfl rfl
set_option maxRecDepth 100000 in
theorem hk_byDistances (l : Launch) {g : zG} {κ κ' : zKp} {ν : zMu} {ω : zOm} {lvlY : Nat} {p0 : Int32} {v : Int32} (hY : lvlY < 20) (hM : zM l g yX4_enemyByDistances cX4_enemyByDistances 3 (some .int) lvlY 0 [.ref (gA g 0 0 0), .int p0] κ ν ω κ' ν ω (some (.int v))) : zMW l g yL_byDistances cL_byDistances 3 hh_byDistances 20 1 [.ref (gA g 0 0 0), .int p0] κ ν ω κ' ν ω v := by
  refine zMW_of (by decide) (Nat.le_of_ble_eq_true rfl) (fun p e R s m args below meth c hX hTab => ?_)
  show zZ p l e R s m args below meth c g 3 _ _ _ _ 0 0 [(0, .ref (gA g 0 0 0)), (1, .int p0)] []
  refine z_aload_n hX dL_byDistances_0 0 rfl ?_
  refine z_iload_n hX dL_byDistances_1 1 rfl ?_
  refine z_callV1 hX hM cv_RL_83 zRc0 dL_byDistances_2 ⟨hY, by decide, by decide⟩ rfl rfl (Nat.le_of_ble_eq_true rfl) ?_
  exact z_iretI hX dL_byDistances_5 (by decide) rfl (fun _ h => h)
set_option maxRecDepth 100000 in
theorem he_byDistances_IOE (l : Launch) {g : zG} {κ κ' : zKp} {ν : zMu} {ω : zOm} {lvlY : Nat} {p0 : Int32} (hY : lvlY < 20) (hM : zMx l g yX4_enemyByDistances cX4_enemyByDistances 3 (some .int) lvlY 1 [.ref (gA g 0 0 0), .int p0] κ ν ω κ' ν ω (.error xIOE)) : zMW l g yL_byDistances cL_byDistances 3 hh_byDistances 20 1 [.ref (gA g 0 0 0), .int p0] κ ν ω κ' ν ω (-11) := by
  refine zMW_of (by decide) (Nat.le_of_ble_eq_true rfl) (fun p e R s m args below meth c hX hTab => ?_)
  show zZ p l e R s m args below meth c g 3 _ _ _ _ 0 0 [(0, .ref (gA g 0 0 0)), (1, .int p0)] []
  refine z_aload_n hX dL_byDistances_0 0 rfl ?_
  refine z_iload_n hX dL_byDistances_1 1 rfl ?_
  refine zx_callV hX hM cv_RL_83 zRc0 dL_byDistances_2 ⟨hY, by decide, by decide⟩ rfl rfl (Nat.le_of_ble_eq_true rfl) (fun r h => by cases h) (fun E h => ?_)
  cases h
  refine z_catch (pre := []) (x := (0, 5, 6, 24)) hX hTab rfl (fun z hz => by cases hz) (by decide) (by decide) ck_24 ct_IOE (fun q => ?_)
  refine z_astore_n (lv' := _) hX dL_byDistances_6 (by decide) rfl ?_
  refine z_bipush (v := -11) hX dL_byDistances_7 (by decide) ?_
  exact z_iretI hX dL_byDistances_9 (by decide) rfl (fun _ h => h)
set_option maxRecDepth 100000 in
theorem he_byDistances_NSE (l : Launch) {g : zG} {κ κ' : zKp} {ν : zMu} {ω : zOm} {lvlY : Nat} {p0 : Int32} (hY : lvlY < 20) (hM : zMx l g yX4_enemyByDistances cX4_enemyByDistances 3 (some .int) lvlY 1 [.ref (gA g 0 0 0), .int p0] κ ν ω κ' ν ω (.error xNSE)) : zMW l g yL_byDistances cL_byDistances 3 hh_byDistances 20 1 [.ref (gA g 0 0 0), .int p0] κ ν ω κ' ν ω (-13) := by
  refine zMW_of (by decide) (Nat.le_of_ble_eq_true rfl) (fun p e R s m args below meth c hX hTab => ?_)
  show zZ p l e R s m args below meth c g 3 _ _ _ _ 0 0 [(0, .ref (gA g 0 0 0)), (1, .int p0)] []
  refine z_aload_n hX dL_byDistances_0 0 rfl ?_
  refine z_iload_n hX dL_byDistances_1 1 rfl ?_
  refine zx_callV hX hM cv_RL_83 zRc0 dL_byDistances_2 ⟨hY, by decide, by decide⟩ rfl rfl (Nat.le_of_ble_eq_true rfl) (fun r h => by cases h) (fun E h => ?_)
  cases h
  refine z_catch (pre := [(0, 5, 6, 24)]) (x := (0, 5, 10, 36)) hX hTab rfl (fun z hz => by
    simp only [List.mem_cons, List.not_mem_nil, or_false] at hz
    rcases hz with rfl
    · exact ⟨by decide, _, ck_24, by decide +kernel⟩) (by decide) (by decide) ck_36 ct_NSE (fun q => ?_)
  refine z_astore_n (lv' := _) hX dL_byDistances_10 (by decide) rfl ?_
  refine z_bipush (v := -13) hX dL_byDistances_11 (by decide) ?_
  exact z_iretI hX dL_byDistances_13 (by decide) rfl (fun _ h => h)
abbrev hh_jars : List (Nat × Nat × Nat × Nat) := [(0, 5, 6, 14)]
set_option maxRecDepth 100000 in
theorem wh_jars : Cond.codeWith yL_jars cL_jars 3 (some .int) hh_jars ∈ gW := gW_I 910 rfl rfl
set_option maxRecDepth 100000 in
theorem hk_jars (l : Launch) {g : zG} {κ κ' : zKp} {ν : zMu} {ω : zOm} {lvlY : Nat} {p0 : Int32} {v : Int32} (hY : lvlY < 20) (hM : zM l g yX4_jarsOf cX4_jarsOf 2 (some .int) lvlY 0 [.ref (gA g 0 0 0), .int p0] κ ν ω κ' ν ω (some (.int v))) : zMW l g yL_jars cL_jars 3 hh_jars 20 1 [.ref (gA g 0 0 0), .int p0] κ ν ω κ' ν ω v := by
  refine zMW_of (by decide) (Nat.le_of_ble_eq_true rfl) (fun p e R s m args below meth c hX hTab => ?_)
  show zZ p l e R s m args below meth c g 3 _ _ _ _ 0 0 [(0, .ref (gA g 0 0 0)), (1, .int p0)] []
  refine z_aload_n hX dL_jars_0 0 rfl ?_
  refine z_iload_n hX dL_jars_1 1 rfl ?_
  refine z_callV1 hX hM cv_RL_90 zRc0 dL_jars_2 ⟨hY, by decide, by decide⟩ rfl rfl (Nat.le_of_ble_eq_true rfl) ?_
  exact z_iretI hX dL_jars_5 (by decide) rfl (fun _ h => h)
set_option maxRecDepth 100000 in
theorem he_jars_IAE (l : Launch) {g : zG} {κ κ' : zKp} {ν : zMu} {ω : zOm} {lvlY : Nat} {p0 : Int32} (hY : lvlY < 20) (hM : zMx l g yX4_jarsOf cX4_jarsOf 2 (some .int) lvlY 1 [.ref (gA g 0 0 0), .int p0] κ ν ω κ' ν ω (.error xIAE)) : zMW l g yL_jars cL_jars 3 hh_jars 20 1 [.ref (gA g 0 0 0), .int p0] κ ν ω κ' ν ω (-12) := by
  refine zMW_of (by decide) (Nat.le_of_ble_eq_true rfl) (fun p e R s m args below meth c hX hTab => ?_)
  show zZ p l e R s m args below meth c g 3 _ _ _ _ 0 0 [(0, .ref (gA g 0 0 0)), (1, .int p0)] []
  refine z_aload_n hX dL_jars_0 0 rfl ?_
  refine z_iload_n hX dL_jars_1 1 rfl ?_
  refine zx_callV hX hM cv_RL_90 zRc0 dL_jars_2 ⟨hY, by decide, by decide⟩ rfl rfl (Nat.le_of_ble_eq_true rfl) (fun r h => by cases h) (fun E h => ?_)
  cases h
  refine z_catch (pre := []) (x := (0, 5, 6, 14)) hX hTab rfl (fun z hz => by cases hz) (by decide) (by decide) ck_14 ct_IAE (fun q => ?_)
  refine z_astore_n (lv' := _) hX dL_jars_6 (by decide) rfl ?_
  refine z_bipush (v := -12) hX dL_jars_7 (by decide) ?_
  exact z_iretI hX dL_jars_9 (by decide) rfl (fun _ h => h)
abbrev hh_sumOf : List (Nat × Nat × Nat × Nat) := [(0, 5, 6, 14)]
set_option maxRecDepth 100000 in
theorem wh_sumOf : Cond.codeWith yL_sumOf cL_sumOf 3 (some .int) hh_sumOf ∈ gW := gW_I 873 rfl rfl
set_option maxRecDepth 100000 in
theorem hk_sumOf (l : Launch) {g : zG} {κ κ' : zKp} {ν : zMu} {ω : zOm} {lvlY : Nat} {p0 : Int32} {v : Int32} (hY : lvlY < 20) (hM : zM l g yX4_strengthOfSide cX4_strengthOfSide 2 (some .int) lvlY 0 [.ref (gA g 0 0 0), .int p0] κ ν ω κ' ν ω (some (.int v))) : zMW l g yL_sumOf cL_sumOf 3 hh_sumOf 20 1 [.ref (gA g 0 0 0), .int p0] κ ν ω κ' ν ω v := by
  refine zMW_of (by decide) (Nat.le_of_ble_eq_true rfl) (fun p e R s m args below meth c hX hTab => ?_)
  show zZ p l e R s m args below meth c g 3 _ _ _ _ 0 0 [(0, .ref (gA g 0 0 0)), (1, .int p0)] []
  refine z_aload_n hX dL_sumOf_0 0 rfl ?_
  refine z_iload_n hX dL_sumOf_1 1 rfl ?_
  refine z_callV1 hX hM cv_RL_93 zRc0 dL_sumOf_2 ⟨hY, by decide, by decide⟩ rfl rfl (Nat.le_of_ble_eq_true rfl) ?_
  exact z_iretI hX dL_sumOf_5 (by decide) rfl (fun _ h => h)
set_option maxRecDepth 100000 in
theorem he_sumOf_IAE (l : Launch) {g : zG} {κ κ' : zKp} {ν : zMu} {ω : zOm} {lvlY : Nat} {p0 : Int32} (hY : lvlY < 20) (hM : zMx l g yX4_strengthOfSide cX4_strengthOfSide 2 (some .int) lvlY 1 [.ref (gA g 0 0 0), .int p0] κ ν ω κ' ν ω (.error xIAE)) : zMW l g yL_sumOf cL_sumOf 3 hh_sumOf 20 1 [.ref (gA g 0 0 0), .int p0] κ ν ω κ' ν ω (-12) := by
  refine zMW_of (by decide) (Nat.le_of_ble_eq_true rfl) (fun p e R s m args below meth c hX hTab => ?_)
  show zZ p l e R s m args below meth c g 3 _ _ _ _ 0 0 [(0, .ref (gA g 0 0 0)), (1, .int p0)] []
  refine z_aload_n hX dL_sumOf_0 0 rfl ?_
  refine z_iload_n hX dL_sumOf_1 1 rfl ?_
  refine zx_callV hX hM cv_RL_93 zRc0 dL_sumOf_2 ⟨hY, by decide, by decide⟩ rfl rfl (Nat.le_of_ble_eq_true rfl) (fun r h => by cases h) (fun E h => ?_)
  cases h
  refine z_catch (pre := []) (x := (0, 5, 6, 14)) hX hTab rfl (fun z hz => by cases hz) (by decide) (by decide) ck_14 ct_IAE (fun q => ?_)
  refine z_astore_n (lv' := _) hX dL_sumOf_6 (by decide) rfl ?_
  refine z_bipush (v := -12) hX dL_sumOf_7 (by decide) ?_
  exact z_iretI hX dL_sumOf_9 (by decide) rfl (fun _ h => h)
abbrev hh_byCells : List (Nat × Nat × Nat × Nat) := [(0, 5, 6, 14)]
set_option maxRecDepth 100000 in
theorem wh_byCells : Cond.codeWith yL_byCells cL_byCells 3 (some .int) hh_byCells ∈ gW := gW_I 888 rfl rfl
set_option maxRecDepth 100000 in
theorem hk_byCells (l : Launch) {g : zG} {κ κ' : zKp} {ν : zMu} {ω : zOm} {lvlY : Nat} {p0 : Int32} {v : Int32} (hY : lvlY < 20) (hM : zM l g yX4_strengthByCells cX4_strengthByCells 2 (some .int) lvlY 0 [.ref (gA g 0 0 0), .int p0] κ ν ω κ' ν ω (some (.int v))) : zMW l g yL_byCells cL_byCells 3 hh_byCells 20 1 [.ref (gA g 0 0 0), .int p0] κ ν ω κ' ν ω v := by
  refine zMW_of (by decide) (Nat.le_of_ble_eq_true rfl) (fun p e R s m args below meth c hX hTab => ?_)
  show zZ p l e R s m args below meth c g 3 _ _ _ _ 0 0 [(0, .ref (gA g 0 0 0)), (1, .int p0)] []
  refine z_aload_n hX dL_byCells_0 0 rfl ?_
  refine z_iload_n hX dL_byCells_1 1 rfl ?_
  refine z_callV1 hX hM cv_RL_96 zRc0 dL_byCells_2 ⟨hY, by decide, by decide⟩ rfl rfl (Nat.le_of_ble_eq_true rfl) ?_
  exact z_iretI hX dL_byCells_5 (by decide) rfl (fun _ h => h)
set_option maxRecDepth 100000 in
theorem he_byCells_IAE (l : Launch) {g : zG} {κ κ' : zKp} {ν : zMu} {ω : zOm} {lvlY : Nat} {p0 : Int32} (hY : lvlY < 20) (hM : zMx l g yX4_strengthByCells cX4_strengthByCells 2 (some .int) lvlY 1 [.ref (gA g 0 0 0), .int p0] κ ν ω κ' ν ω (.error xIAE)) : zMW l g yL_byCells cL_byCells 3 hh_byCells 20 1 [.ref (gA g 0 0 0), .int p0] κ ν ω κ' ν ω (-12) := by
  refine zMW_of (by decide) (Nat.le_of_ble_eq_true rfl) (fun p e R s m args below meth c hX hTab => ?_)
  show zZ p l e R s m args below meth c g 3 _ _ _ _ 0 0 [(0, .ref (gA g 0 0 0)), (1, .int p0)] []
  refine z_aload_n hX dL_byCells_0 0 rfl ?_
  refine z_iload_n hX dL_byCells_1 1 rfl ?_
  refine zx_callV hX hM cv_RL_96 zRc0 dL_byCells_2 ⟨hY, by decide, by decide⟩ rfl rfl (Nat.le_of_ble_eq_true rfl) (fun r h => by cases h) (fun E h => ?_)
  cases h
  refine z_catch (pre := []) (x := (0, 5, 6, 14)) hX hTab rfl (fun z hz => by cases hz) (by decide) (by decide) ck_14 ct_IAE (fun q => ?_)
  refine z_astore_n (lv' := _) hX dL_byCells_6 (by decide) rfl ?_
  refine z_bipush (v := -12) hX dL_byCells_7 (by decide) ?_
  exact z_iretI hX dL_byCells_9 (by decide) rfl (fun _ h => h)
abbrev hh_fallen : List (Nat × Nat × Nat × Nat) := [(0, 5, 6, 14)]
set_option maxRecDepth 100000 in
theorem wh_fallen : Cond.codeWith yL_fallen cL_fallen 3 (some .int) hh_fallen ∈ gW := gW_I 899 rfl rfl
set_option maxRecDepth 100000 in
theorem hk_fallen (l : Launch) {g : zG} {κ κ' : zKp} {ν : zMu} {ω : zOm} {lvlY : Nat} {p0 : Int32} {v : Int32} (hY : lvlY < 20) (hM : zM l g yX4_fallenOf cX4_fallenOf 2 (some .int) lvlY 0 [.ref (gA g 0 0 0), .int p0] κ ν ω κ' ν ω (some (.int v))) : zMW l g yL_fallen cL_fallen 3 hh_fallen 20 1 [.ref (gA g 0 0 0), .int p0] κ ν ω κ' ν ω v := by
  refine zMW_of (by decide) (Nat.le_of_ble_eq_true rfl) (fun p e R s m args below meth c hX hTab => ?_)
  show zZ p l e R s m args below meth c g 3 _ _ _ _ 0 0 [(0, .ref (gA g 0 0 0)), (1, .int p0)] []
  refine z_aload_n hX dL_fallen_0 0 rfl ?_
  refine z_iload_n hX dL_fallen_1 1 rfl ?_
  refine z_callV1 hX hM cv_RL_99 zRc0 dL_fallen_2 ⟨hY, by decide, by decide⟩ rfl rfl (Nat.le_of_ble_eq_true rfl) ?_
  exact z_iretI hX dL_fallen_5 (by decide) rfl (fun _ h => h)
set_option maxRecDepth 100000 in
theorem he_fallen_IAE (l : Launch) {g : zG} {κ κ' : zKp} {ν : zMu} {ω : zOm} {lvlY : Nat} {p0 : Int32} (hY : lvlY < 20) (hM : zMx l g yX4_fallenOf cX4_fallenOf 2 (some .int) lvlY 1 [.ref (gA g 0 0 0), .int p0] κ ν ω κ' ν ω (.error xIAE)) : zMW l g yL_fallen cL_fallen 3 hh_fallen 20 1 [.ref (gA g 0 0 0), .int p0] κ ν ω κ' ν ω (-12) := by
  refine zMW_of (by decide) (Nat.le_of_ble_eq_true rfl) (fun p e R s m args below meth c hX hTab => ?_)
  show zZ p l e R s m args below meth c g 3 _ _ _ _ 0 0 [(0, .ref (gA g 0 0 0)), (1, .int p0)] []
  refine z_aload_n hX dL_fallen_0 0 rfl ?_
  refine z_iload_n hX dL_fallen_1 1 rfl ?_
  refine zx_callV hX hM cv_RL_99 zRc0 dL_fallen_2 ⟨hY, by decide, by decide⟩ rfl rfl (Nat.le_of_ble_eq_true rfl) (fun r h => by cases h) (fun E h => ?_)
  cases h
  refine z_catch (pre := []) (x := (0, 5, 6, 14)) hX hTab rfl (fun z hz => by cases hz) (by decide) (by decide) ck_14 ct_IAE (fun q => ?_)
  refine z_astore_n (lv' := _) hX dL_fallen_6 (by decide) rfl ?_
  refine z_bipush (v := -12) hX dL_fallen_7 (by decide) ?_
  exact z_iretI hX dL_fallen_9 (by decide) rfl (fun _ h => h)
abbrev hh_front : List (Nat × Nat × Nat × Nat) := [(0, 6, 7, 14), (0, 6, 11, 36)]
set_option maxRecDepth 100000 in
theorem wh_front : Cond.codeWith yL_front cL_front 4 (some .int) hh_front ∈ gW := gW_I 859 rfl rfl
set_option maxRecDepth 100000 in
theorem hk_front (l : Launch) {g : zG} {κ κ' : zKp} {ν : zMu} {ω : zOm} {lvlY : Nat} {p0 p1 : Int32} {v : Int32} (hY : lvlY < 20) (hM : zM l g yX4_frontOf cX4_frontOf 4 (some .int) lvlY 0 [.ref (gA g 0 0 0), .int p0, .int p1] κ ν ω κ' ν ω (some (.int v))) : zMW l g yL_front cL_front 4 hh_front 20 1 [.ref (gA g 0 0 0), .int p0, .int p1] κ ν ω κ' ν ω v := by
  refine zMW_of (by decide) (Nat.le_of_ble_eq_true rfl) (fun p e R s m args below meth c hX hTab => ?_)
  show zZ p l e R s m args below meth c g 4 _ _ _ _ 0 0 [(0, .ref (gA g 0 0 0)), (1, .int p0), (2, .int p1)] []
  refine z_aload_n hX dL_front_0 0 rfl ?_
  refine z_iload_n hX dL_front_1 1 rfl ?_
  refine z_iload_n hX dL_front_2 2 rfl ?_
  refine z_callV1 hX hM cv_RL_102 zRc0 dL_front_3 ⟨hY, by decide, by decide⟩ rfl rfl (Nat.le_of_ble_eq_true rfl) ?_
  exact z_iretI hX dL_front_6 (by decide) rfl (fun _ h => h)
set_option maxRecDepth 100000 in
theorem he_front_IAE (l : Launch) {g : zG} {κ κ' : zKp} {ν : zMu} {ω : zOm} {lvlY : Nat} {p0 p1 : Int32} (hY : lvlY < 20) (hM : zMx l g yX4_frontOf cX4_frontOf 4 (some .int) lvlY 1 [.ref (gA g 0 0 0), .int p0, .int p1] κ ν ω κ' ν ω (.error xIAE)) : zMW l g yL_front cL_front 4 hh_front 20 1 [.ref (gA g 0 0 0), .int p0, .int p1] κ ν ω κ' ν ω (-12) := by
  refine zMW_of (by decide) (Nat.le_of_ble_eq_true rfl) (fun p e R s m args below meth c hX hTab => ?_)
  show zZ p l e R s m args below meth c g 4 _ _ _ _ 0 0 [(0, .ref (gA g 0 0 0)), (1, .int p0), (2, .int p1)] []
  refine z_aload_n hX dL_front_0 0 rfl ?_
  refine z_iload_n hX dL_front_1 1 rfl ?_
  refine z_iload_n hX dL_front_2 2 rfl ?_
  refine zx_callV hX hM cv_RL_102 zRc0 dL_front_3 ⟨hY, by decide, by decide⟩ rfl rfl (Nat.le_of_ble_eq_true rfl) (fun r h => by cases h) (fun E h => ?_)
  cases h
  refine z_catch (pre := []) (x := (0, 6, 7, 14)) hX hTab rfl (fun z hz => by cases hz) (by decide) (by decide) ck_14 ct_IAE (fun q => ?_)
  refine z_astore_n (lv' := _) hX dL_front_7 (by decide) rfl ?_
  refine z_bipush (v := -12) hX dL_front_8 (by decide) ?_
  exact z_iretI hX dL_front_10 (by decide) rfl (fun _ h => h)
set_option maxRecDepth 100000 in
theorem he_front_NSE (l : Launch) {g : zG} {κ κ' : zKp} {ν : zMu} {ω : zOm} {lvlY : Nat} {p0 p1 : Int32} (hY : lvlY < 20) (hM : zMx l g yX4_frontOf cX4_frontOf 4 (some .int) lvlY 1 [.ref (gA g 0 0 0), .int p0, .int p1] κ ν ω κ' ν ω (.error xNSE)) : zMW l g yL_front cL_front 4 hh_front 20 1 [.ref (gA g 0 0 0), .int p0, .int p1] κ ν ω κ' ν ω (-13) := by
  refine zMW_of (by decide) (Nat.le_of_ble_eq_true rfl) (fun p e R s m args below meth c hX hTab => ?_)
  show zZ p l e R s m args below meth c g 4 _ _ _ _ 0 0 [(0, .ref (gA g 0 0 0)), (1, .int p0), (2, .int p1)] []
  refine z_aload_n hX dL_front_0 0 rfl ?_
  refine z_iload_n hX dL_front_1 1 rfl ?_
  refine z_iload_n hX dL_front_2 2 rfl ?_
  refine zx_callV hX hM cv_RL_102 zRc0 dL_front_3 ⟨hY, by decide, by decide⟩ rfl rfl (Nat.le_of_ble_eq_true rfl) (fun r h => by cases h) (fun E h => ?_)
  cases h
  refine z_catch (pre := [(0, 6, 7, 14)]) (x := (0, 6, 11, 36)) hX hTab rfl (fun z hz => by
    simp only [List.mem_cons, List.not_mem_nil, or_false] at hz
    rcases hz with rfl
    · exact ⟨by decide, _, ck_14, by decide +kernel⟩) (by decide) (by decide) ck_36 ct_NSE (fun q => ?_)
  refine z_astore_n (lv' := _) hX dL_front_11 (by decide) rfl ?_
  refine z_bipush (v := -13) hX dL_front_12 (by decide) ?_
  exact z_iretI hX dL_front_14 (by decide) rfl (fun _ h => h)
abbrev hh_leader : List (Nat × Nat × Nat × Nat) := [(0, 4, 5, 36)]
set_option maxRecDepth 100000 in
theorem wh_leader : Cond.codeWith yL_leader cL_leader 2 (some .int) hh_leader ∈ gW := gW_I 956 rfl rfl
set_option maxRecDepth 100000 in
theorem hk_leader (l : Launch) {g : zG} {κ κ' : zKp} {ν : zMu} {ω : zOm} {lvlY : Nat} {v : Int32} (hY : lvlY < 20) (hM : zM l g yX4_leader cX4_leader 2 (some .int) lvlY 0 [.ref (gA g 0 0 0)] κ ν ω κ' ν ω (some (.int v))) : zMW l g yL_leader cL_leader 2 hh_leader 20 1 [.ref (gA g 0 0 0)] κ ν ω κ' ν ω v := by
  refine zMW_of (by decide) (Nat.le_of_ble_eq_true rfl) (fun p e R s m args below meth c hX hTab => ?_)
  show zZ p l e R s m args below meth c g 2 _ _ _ _ 0 0 [(0, .ref (gA g 0 0 0))] []
  refine z_aload_n hX dL_leader_0 0 rfl ?_
  refine z_callV1 hX hM cv_RL_105 zRc0 dL_leader_1 ⟨hY, by decide, by decide⟩ rfl rfl (Nat.le_of_ble_eq_true rfl) ?_
  exact z_iretI hX dL_leader_4 (by decide) rfl (fun _ h => h)
set_option maxRecDepth 100000 in
theorem he_leader_NSE (l : Launch) {g : zG} {κ κ' : zKp} {ν : zMu} {ω : zOm} {lvlY : Nat} (hY : lvlY < 20) (hM : zMx l g yX4_leader cX4_leader 2 (some .int) lvlY 1 [.ref (gA g 0 0 0)] κ ν ω κ' ν ω (.error xNSE)) : zMW l g yL_leader cL_leader 2 hh_leader 20 1 [.ref (gA g 0 0 0)] κ ν ω κ' ν ω (-13) := by
  refine zMW_of (by decide) (Nat.le_of_ble_eq_true rfl) (fun p e R s m args below meth c hX hTab => ?_)
  show zZ p l e R s m args below meth c g 2 _ _ _ _ 0 0 [(0, .ref (gA g 0 0 0))] []
  refine z_aload_n hX dL_leader_0 0 rfl ?_
  refine zx_callV hX hM cv_RL_105 zRc0 dL_leader_1 ⟨hY, by decide, by decide⟩ rfl rfl (Nat.le_of_ble_eq_true rfl) (fun r h => by cases h) (fun E h => ?_)
  cases h
  refine z_catch (pre := []) (x := (0, 4, 5, 36)) hX hTab rfl (fun z hz => by cases hz) (by decide) (by decide) ck_36 ct_NSE (fun q => ?_)
  refine z_astore_n (lv' := _) hX dL_leader_5 (by decide) rfl ?_
  refine z_bipush (v := -13) hX dL_leader_6 (by decide) ?_
  exact z_iretI hX dL_leader_8 (by decide) rfl (fun _ h => h)
abbrev hh_byStrength : List (Nat × Nat × Nat × Nat) := [(0, 5, 6, 36)]
set_option maxRecDepth 100000 in
theorem wh_byStrength : Cond.codeWith yL_byStrength cL_byStrength 3 (some .int) hh_byStrength ∈ gW := gW_I 833 rfl rfl
set_option maxRecDepth 100000 in
theorem hk_byStrength (l : Launch) {g : zG} {κ κ' : zKp} {ν : zMu} {ω : zOm} {lvlY : Nat} {p0 : Int32} {v : Int32} (hY : lvlY < 20) (hM : zM l g yX4_lineByStrength cX4_lineByStrength 3 (some .int) lvlY 0 [.ref (gA g 0 0 0), .int p0] κ ν ω κ' ν ω (some (.int v))) : zMW l g yL_byStrength cL_byStrength 3 hh_byStrength 20 1 [.ref (gA g 0 0 0), .int p0] κ ν ω κ' ν ω v := by
  refine zMW_of (by decide) (Nat.le_of_ble_eq_true rfl) (fun p e R s m args below meth c hX hTab => ?_)
  show zZ p l e R s m args below meth c g 3 _ _ _ _ 0 0 [(0, .ref (gA g 0 0 0)), (1, .int p0)] []
  refine z_aload_n hX dL_byStrength_0 0 rfl ?_
  refine z_iload_n hX dL_byStrength_1 1 rfl ?_
  refine z_callV1 hX hM cv_RL_108 zRc0 dL_byStrength_2 ⟨hY, by decide, by decide⟩ rfl rfl (Nat.le_of_ble_eq_true rfl) ?_
  exact z_iretI hX dL_byStrength_5 (by decide) rfl (fun _ h => h)
set_option maxRecDepth 100000 in
theorem he_byStrength_NSE (l : Launch) {g : zG} {κ κ' : zKp} {ν : zMu} {ω : zOm} {lvlY : Nat} {p0 : Int32} (hY : lvlY < 20) (hM : zMx l g yX4_lineByStrength cX4_lineByStrength 3 (some .int) lvlY 1 [.ref (gA g 0 0 0), .int p0] κ ν ω κ' ν ω (.error xNSE)) : zMW l g yL_byStrength cL_byStrength 3 hh_byStrength 20 1 [.ref (gA g 0 0 0), .int p0] κ ν ω κ' ν ω (-13) := by
  refine zMW_of (by decide) (Nat.le_of_ble_eq_true rfl) (fun p e R s m args below meth c hX hTab => ?_)
  show zZ p l e R s m args below meth c g 3 _ _ _ _ 0 0 [(0, .ref (gA g 0 0 0)), (1, .int p0)] []
  refine z_aload_n hX dL_byStrength_0 0 rfl ?_
  refine z_iload_n hX dL_byStrength_1 1 rfl ?_
  refine zx_callV hX hM cv_RL_108 zRc0 dL_byStrength_2 ⟨hY, by decide, by decide⟩ rfl rfl (Nat.le_of_ble_eq_true rfl) (fun r h => by cases h) (fun E h => ?_)
  cases h
  refine z_catch (pre := []) (x := (0, 5, 6, 36)) hX hTab rfl (fun z hz => by cases hz) (by decide) (by decide) ck_36 ct_NSE (fun q => ?_)
  refine z_astore_n (lv' := _) hX dL_byStrength_6 (by decide) rfl ?_
  refine z_bipush (v := -13) hX dL_byStrength_7 (by decide) ?_
  exact z_iretI hX dL_byStrength_9 (by decide) rfl (fun _ h => h)
abbrev hh_writeLane : List (Nat × Nat × Nat × Nat) := [(0, 5, 6, 24)]
set_option maxRecDepth 100000 in
theorem wh_writeLane : Cond.codeWith yL_writeLane cL_writeLane 3 (some .int) hh_writeLane ∈ gW := gW_I 1199 rfl rfl
set_option maxRecDepth 100000 in
theorem hk_writeLane (l : Launch) {g : zG} {κ κ' : zKp} {ν : zMu} {ω : zOm} {lvlY : Nat} {p0 : Int32} {v : Int32} (hY : lvlY < 20) (hM : zM l g yX4_writeLane cX4_writeLane 4 (some .int) lvlY 0 [.ref (gA g 0 0 0), .int p0] κ ν ω κ' ν ω (some (.int v))) : zMW l g yL_writeLane cL_writeLane 3 hh_writeLane 20 1 [.ref (gA g 0 0 0), .int p0] κ ν ω κ' ν ω v := by
  refine zMW_of (by decide) (Nat.le_of_ble_eq_true rfl) (fun p e R s m args below meth c hX hTab => ?_)
  show zZ p l e R s m args below meth c g 3 _ _ _ _ 0 0 [(0, .ref (gA g 0 0 0)), (1, .int p0)] []
  refine z_aload_n hX dL_writeLane_0 0 rfl ?_
  refine z_iload_n hX dL_writeLane_1 1 rfl ?_
  refine z_callV1 hX hM cv_RL_111 zRc0 dL_writeLane_2 ⟨hY, by decide, by decide⟩ rfl rfl (Nat.le_of_ble_eq_true rfl) ?_
  exact z_iretI hX dL_writeLane_5 (by decide) rfl (fun _ h => h)
set_option maxRecDepth 100000 in
theorem he_writeLane_IOE (l : Launch) {g : zG} {κ κ' : zKp} {ν : zMu} {ω : zOm} {lvlY : Nat} {p0 : Int32} (hY : lvlY < 20) (hM : zMx l g yX4_writeLane cX4_writeLane 4 (some .int) lvlY 1 [.ref (gA g 0 0 0), .int p0] κ ν ω κ' ν ω (.error xIOE)) : zMW l g yL_writeLane cL_writeLane 3 hh_writeLane 20 1 [.ref (gA g 0 0 0), .int p0] κ ν ω κ' ν ω (-11) := by
  refine zMW_of (by decide) (Nat.le_of_ble_eq_true rfl) (fun p e R s m args below meth c hX hTab => ?_)
  show zZ p l e R s m args below meth c g 3 _ _ _ _ 0 0 [(0, .ref (gA g 0 0 0)), (1, .int p0)] []
  refine z_aload_n hX dL_writeLane_0 0 rfl ?_
  refine z_iload_n hX dL_writeLane_1 1 rfl ?_
  refine zx_callV hX hM cv_RL_111 zRc0 dL_writeLane_2 ⟨hY, by decide, by decide⟩ rfl rfl (Nat.le_of_ble_eq_true rfl) (fun r h => by cases h) (fun E h => ?_)
  cases h
  refine z_catch (pre := []) (x := (0, 5, 6, 24)) hX hTab rfl (fun z hz => by cases hz) (by decide) (by decide) ck_24 ct_IOE (fun q => ?_)
  refine z_astore_n (lv' := _) hX dL_writeLane_6 (by decide) rfl ?_
  refine z_bipush (v := -11) hX dL_writeLane_7 (by decide) ?_
  exact z_iretI hX dL_writeLane_9 (by decide) rfl (fun _ h => h)
abbrev hh_writtenAt : List (Nat × Nat × Nat × Nat) := [(0, 5, 6, 24)]
set_option maxRecDepth 100000 in
theorem wh_writtenAt : Cond.codeWith yL_writtenAt cL_writtenAt 3 (some .int) hh_writtenAt ∈ gW := gW_I 1219 rfl rfl
set_option maxRecDepth 100000 in
theorem hk_writtenAt (l : Launch) {g : zG} {κ κ' : zKp} {ν : zMu} {ω : zOm} {lvlY : Nat} {p0 : Int32} {v : Int32} (hY : lvlY < 20) (hM : zM l g yX4_writtenAt cX4_writtenAt 2 (some .char) lvlY 0 [.ref (gA g 0 0 0), .int p0] κ ν ω κ' ν ω (some (.int v))) : zMW l g yL_writtenAt cL_writtenAt 3 hh_writtenAt 20 1 [.ref (gA g 0 0 0), .int p0] κ ν ω κ' ν ω v := by
  refine zMW_of (by decide) (Nat.le_of_ble_eq_true rfl) (fun p e R s m args below meth c hX hTab => ?_)
  show zZ p l e R s m args below meth c g 3 _ _ _ _ 0 0 [(0, .ref (gA g 0 0 0)), (1, .int p0)] []
  refine z_aload_n hX dL_writtenAt_0 0 rfl ?_
  refine z_iload_n hX dL_writtenAt_1 1 rfl ?_
  refine z_callV1 hX hM cv_RL_114 zRc0 dL_writtenAt_2 ⟨hY, by decide, by decide⟩ rfl rfl (Nat.le_of_ble_eq_true rfl) ?_
  exact z_iretI hX dL_writtenAt_5 (by decide) rfl (fun _ h => h)
set_option maxRecDepth 100000 in
theorem he_writtenAt_IOE (l : Launch) {g : zG} {κ κ' : zKp} {ν : zMu} {ω : zOm} {lvlY : Nat} {p0 : Int32} (hY : lvlY < 20) (hM : zMx l g yX4_writtenAt cX4_writtenAt 2 (some .char) lvlY 1 [.ref (gA g 0 0 0), .int p0] κ ν ω κ' ν ω (.error xIOE)) : zMW l g yL_writtenAt cL_writtenAt 3 hh_writtenAt 20 1 [.ref (gA g 0 0 0), .int p0] κ ν ω κ' ν ω (-11) := by
  refine zMW_of (by decide) (Nat.le_of_ble_eq_true rfl) (fun p e R s m args below meth c hX hTab => ?_)
  show zZ p l e R s m args below meth c g 3 _ _ _ _ 0 0 [(0, .ref (gA g 0 0 0)), (1, .int p0)] []
  refine z_aload_n hX dL_writtenAt_0 0 rfl ?_
  refine z_iload_n hX dL_writtenAt_1 1 rfl ?_
  refine zx_callV hX hM cv_RL_114 zRc0 dL_writtenAt_2 ⟨hY, by decide, by decide⟩ rfl rfl (Nat.le_of_ble_eq_true rfl) (fun r h => by cases h) (fun E h => ?_)
  cases h
  refine z_catch (pre := []) (x := (0, 5, 6, 24)) hX hTab rfl (fun z hz => by cases hz) (by decide) (by decide) ck_24 ct_IOE (fun q => ?_)
  refine z_astore_n (lv' := _) hX dL_writtenAt_6 (by decide) rfl ?_
  refine z_bipush (v := -11) hX dL_writtenAt_7 (by decide) ?_
  exact z_iretI hX dL_writtenAt_9 (by decide) rfl (fun _ h => h)
abbrev hh_type : List (Nat × Nat × Nat × Nat) := [(0, 5, 6, 14), (0, 5, 10, 16)]
set_option maxRecDepth 100000 in
theorem wh_type : Cond.codeWith yL_type cL_type 3 (some .int) hh_type ∈ gW := gW_I 1256 rfl rfl
set_option maxRecDepth 100000 in
theorem hk_type (l : Launch) {g : zG} {κ κ' : zKp} {ν : zMu} {ω : zOm} {lvlY : Nat} {p0 : Int32} {v : Int32} (hY : lvlY < 20) (hM : zM l g yX4_type cX4_type 2 (some .int) lvlY 0 [.ref (gA g 0 0 0), .int p0] κ ν ω κ' ν ω (some (.int v))) : zMW l g yL_type cL_type 3 hh_type 20 1 [.ref (gA g 0 0 0), .int p0] κ ν ω κ' ν ω v := by
  refine zMW_of (by decide) (Nat.le_of_ble_eq_true rfl) (fun p e R s m args below meth c hX hTab => ?_)
  show zZ p l e R s m args below meth c g 3 _ _ _ _ 0 0 [(0, .ref (gA g 0 0 0)), (1, .int p0)] []
  refine z_aload_n hX dL_type_0 0 rfl ?_
  refine z_iload_n hX dL_type_1 1 rfl ?_
  refine z_callV1 hX hM cv_RL_117 zRc0 dL_type_2 ⟨hY, by decide, by decide⟩ rfl rfl (Nat.le_of_ble_eq_true rfl) ?_
  exact z_iretI hX dL_type_5 (by decide) rfl (fun _ h => h)
set_option maxRecDepth 100000 in
theorem he_type_IAE (l : Launch) {g : zG} {κ κ' : zKp} {ν : zMu} {ω : zOm} {lvlY : Nat} {p0 : Int32} (hY : lvlY < 20) (hM : zMx l g yX4_type cX4_type 2 (some .int) lvlY 1 [.ref (gA g 0 0 0), .int p0] κ ν ω κ' ν ω (.error xIAE)) : zMW l g yL_type cL_type 3 hh_type 20 1 [.ref (gA g 0 0 0), .int p0] κ ν ω κ' ν ω (-12) := by
  refine zMW_of (by decide) (Nat.le_of_ble_eq_true rfl) (fun p e R s m args below meth c hX hTab => ?_)
  show zZ p l e R s m args below meth c g 3 _ _ _ _ 0 0 [(0, .ref (gA g 0 0 0)), (1, .int p0)] []
  refine z_aload_n hX dL_type_0 0 rfl ?_
  refine z_iload_n hX dL_type_1 1 rfl ?_
  refine zx_callV hX hM cv_RL_117 zRc0 dL_type_2 ⟨hY, by decide, by decide⟩ rfl rfl (Nat.le_of_ble_eq_true rfl) (fun r h => by cases h) (fun E h => ?_)
  cases h
  refine z_catch (pre := []) (x := (0, 5, 6, 14)) hX hTab rfl (fun z hz => by cases hz) (by decide) (by decide) ck_14 ct_IAE (fun q => ?_)
  refine z_astore_n (lv' := _) hX dL_type_6 (by decide) rfl ?_
  refine z_bipush (v := -12) hX dL_type_7 (by decide) ?_
  exact z_iretI hX dL_type_9 (by decide) rfl (fun _ h => h)
set_option maxRecDepth 100000 in
theorem he_type_ISE (l : Launch) {g : zG} {κ κ' : zKp} {ν : zMu} {ω : zOm} {lvlY : Nat} {p0 : Int32} (hY : lvlY < 20) (hM : zMx l g yX4_type cX4_type 2 (some .int) lvlY 1 [.ref (gA g 0 0 0), .int p0] κ ν ω κ' ν ω (.error xISE)) : zMW l g yL_type cL_type 3 hh_type 20 1 [.ref (gA g 0 0 0), .int p0] κ ν ω κ' ν ω (-14) := by
  refine zMW_of (by decide) (Nat.le_of_ble_eq_true rfl) (fun p e R s m args below meth c hX hTab => ?_)
  show zZ p l e R s m args below meth c g 3 _ _ _ _ 0 0 [(0, .ref (gA g 0 0 0)), (1, .int p0)] []
  refine z_aload_n hX dL_type_0 0 rfl ?_
  refine z_iload_n hX dL_type_1 1 rfl ?_
  refine zx_callV hX hM cv_RL_117 zRc0 dL_type_2 ⟨hY, by decide, by decide⟩ rfl rfl (Nat.le_of_ble_eq_true rfl) (fun r h => by cases h) (fun E h => ?_)
  cases h
  refine z_catch (pre := [(0, 5, 6, 14)]) (x := (0, 5, 10, 16)) hX hTab rfl (fun z hz => by
    simp only [List.mem_cons, List.not_mem_nil, or_false] at hz
    rcases hz with rfl
    · exact ⟨by decide, _, ck_14, by decide +kernel⟩) (by decide) (by decide) ck_16 ct_ISE (fun q => ?_)
  refine z_astore_n (lv' := _) hX dL_type_10 (by decide) rfl ?_
  refine z_bipush (v := -14) hX dL_type_11 (by decide) ?_
  exact z_iretI hX dL_type_13 (by decide) rfl (fun _ h => h)
abbrev hh_executes : List (Nat × Nat × Nat × Nat) := [(0, 4, 5, 14), (0, 4, 8, 16)]
set_option maxRecDepth 100000 in
theorem wh_executes : Cond.codeWith yL_executes cL_executes 2 (some .int) hh_executes ∈ gW := gW_I 1269 rfl rfl
set_option maxRecDepth 100000 in
theorem hk_executes (l : Launch) {g : zG} {κ κ' : zKp} {ν : zMu} {ω : zOm} {lvlY : Nat} {v : Int32} (hY : lvlY < 20) (hM : zM l g yX4_execute cX4_execute 3 (some .int) lvlY 0 [.ref (gA g 0 0 0)] κ ν ω κ' ν ω (some (.int v))) : zMW l g yL_executes cL_executes 2 hh_executes 20 1 [.ref (gA g 0 0 0)] κ ν ω κ' ν ω v := by
  refine zMW_of (by decide) (Nat.le_of_ble_eq_true rfl) (fun p e R s m args below meth c hX hTab => ?_)
  show zZ p l e R s m args below meth c g 2 _ _ _ _ 0 0 [(0, .ref (gA g 0 0 0))] []
  refine z_aload_n hX dL_executes_0 0 rfl ?_
  refine z_callV1 hX hM cv_RL_121 zRc0 dL_executes_1 ⟨hY, by decide, by decide⟩ rfl rfl (Nat.le_of_ble_eq_true rfl) ?_
  exact z_iretI hX dL_executes_4 (by decide) rfl (fun _ h => h)
set_option maxRecDepth 100000 in
theorem he_executes_IAE (l : Launch) {g : zG} {κ κ' : zKp} {ν : zMu} {ω : zOm} {lvlY : Nat} (hY : lvlY < 20) (hM : zMx l g yX4_execute cX4_execute 3 (some .int) lvlY 1 [.ref (gA g 0 0 0)] κ ν ω κ' ν ω (.error xIAE)) : zMW l g yL_executes cL_executes 2 hh_executes 20 1 [.ref (gA g 0 0 0)] κ ν ω κ' ν ω (-1) := by
  refine zMW_of (by decide) (Nat.le_of_ble_eq_true rfl) (fun p e R s m args below meth c hX hTab => ?_)
  show zZ p l e R s m args below meth c g 2 _ _ _ _ 0 0 [(0, .ref (gA g 0 0 0))] []
  refine z_aload_n hX dL_executes_0 0 rfl ?_
  refine zx_callV hX hM cv_RL_121 zRc0 dL_executes_1 ⟨hY, by decide, by decide⟩ rfl rfl (Nat.le_of_ble_eq_true rfl) (fun r h => by cases h) (fun E h => ?_)
  cases h
  refine z_catch (pre := []) (x := (0, 4, 5, 14)) hX hTab rfl (fun z hz => by cases hz) (by decide) (by decide) ck_14 ct_IAE (fun q => ?_)
  refine z_astore_n (lv' := _) hX dL_executes_5 (by decide) rfl ?_
  refine z_iconst (v := -1) hX dL_executes_6 (by decide) ?_
  exact z_iretI hX dL_executes_7 (by decide) rfl (fun _ h => h)
set_option maxRecDepth 100000 in
theorem he_executes_ISE (l : Launch) {g : zG} {κ κ' : zKp} {ν : zMu} {ω : zOm} {lvlY : Nat} (hY : lvlY < 20) (hM : zMx l g yX4_execute cX4_execute 3 (some .int) lvlY 1 [.ref (gA g 0 0 0)] κ ν ω κ' ν ω (.error xISE)) : zMW l g yL_executes cL_executes 2 hh_executes 20 1 [.ref (gA g 0 0 0)] κ ν ω κ' ν ω (-2) := by
  refine zMW_of (by decide) (Nat.le_of_ble_eq_true rfl) (fun p e R s m args below meth c hX hTab => ?_)
  show zZ p l e R s m args below meth c g 2 _ _ _ _ 0 0 [(0, .ref (gA g 0 0 0))] []
  refine z_aload_n hX dL_executes_0 0 rfl ?_
  refine zx_callV hX hM cv_RL_121 zRc0 dL_executes_1 ⟨hY, by decide, by decide⟩ rfl rfl (Nat.le_of_ble_eq_true rfl) (fun r h => by cases h) (fun E h => ?_)
  cases h
  refine z_catch (pre := [(0, 4, 5, 14)]) (x := (0, 4, 8, 16)) hX hTab rfl (fun z hz => by
    simp only [List.mem_cons, List.not_mem_nil, or_false] at hz
    rcases hz with rfl
    · exact ⟨by decide, _, ck_14, by decide +kernel⟩) (by decide) (by decide) ck_16 ct_ISE (fun q => ?_)
  refine z_astore_n (lv' := _) hX dL_executes_8 (by decide) rfl ?_
  refine z_bipush (v := -2) hX dL_executes_9 (by decide) ?_
  exact z_iretI hX dL_executes_11 (by decide) rfl (fun _ h => h)
abbrev hh_undo : List (Nat × Nat × Nat × Nat) := [(0, 4, 5, 16)]
set_option maxRecDepth 100000 in
theorem wh_undo : Cond.codeWith yL_undo cL_undo 2 (some .int) hh_undo ∈ gW := gW_I 1341 rfl rfl
set_option maxRecDepth 100000 in
theorem hk_undo (l : Launch) {g : zG} {κ κ' : zKp} {ν : zMu} {ω : zOm} {lvlY : Nat} {v : Int32} (hY : lvlY < 20) (hM : zM l g yX4_undo cX4_undo 1 (some .int) lvlY 0 [.ref (gA g 0 0 0)] κ ν ω κ' ν ω (some (.int v))) : zMW l g yL_undo cL_undo 2 hh_undo 20 1 [.ref (gA g 0 0 0)] κ ν ω κ' ν ω v := by
  refine zMW_of (by decide) (Nat.le_of_ble_eq_true rfl) (fun p e R s m args below meth c hX hTab => ?_)
  show zZ p l e R s m args below meth c g 2 _ _ _ _ 0 0 [(0, .ref (gA g 0 0 0))] []
  refine z_aload_n hX dL_undo_0 0 rfl ?_
  refine z_callV1 hX hM cv_RL_130 zRc0 dL_undo_1 ⟨hY, by decide, by decide⟩ rfl rfl (Nat.le_of_ble_eq_true rfl) ?_
  exact z_iretI hX dL_undo_4 (by decide) rfl (fun _ h => h)
set_option maxRecDepth 100000 in
theorem he_undo_ISE (l : Launch) {g : zG} {κ κ' : zKp} {ν : zMu} {ω : zOm} {lvlY : Nat} (hY : lvlY < 20) (hM : zMx l g yX4_undo cX4_undo 1 (some .int) lvlY 1 [.ref (gA g 0 0 0)] κ ν ω κ' ν ω (.error xISE)) : zMW l g yL_undo cL_undo 2 hh_undo 20 1 [.ref (gA g 0 0 0)] κ ν ω κ' ν ω (-1) := by
  refine zMW_of (by decide) (Nat.le_of_ble_eq_true rfl) (fun p e R s m args below meth c hX hTab => ?_)
  show zZ p l e R s m args below meth c g 2 _ _ _ _ 0 0 [(0, .ref (gA g 0 0 0))] []
  refine z_aload_n hX dL_undo_0 0 rfl ?_
  refine zx_callV hX hM cv_RL_130 zRc0 dL_undo_1 ⟨hY, by decide, by decide⟩ rfl rfl (Nat.le_of_ble_eq_true rfl) (fun r h => by cases h) (fun E h => ?_)
  cases h
  refine z_catch (pre := []) (x := (0, 4, 5, 16)) hX hTab rfl (fun z hz => by cases hz) (by decide) (by decide) ck_16 ct_ISE (fun q => ?_)
  refine z_astore_n (lv' := _) hX dL_undo_5 (by decide) rfl ?_
  refine z_iconst (v := -1) hX dL_undo_6 (by decide) ?_
  exact z_iretI hX dL_undo_7 (by decide) rfl (fun _ h => h)
end ZHQ
section ZHC
theorem cc_141 : GoodIn gW (va_wsS RL 141 yL_type (.codeWith yL_type cL_type 3 (some .int) hh_type :: gW)) ∧ yL_type.cls ≠ "java/lang/invoke/MethodHandle" ∧ yL_type.cls ≠ "java/lang/invoke/VarHandle" ∧ (parseMethodDescriptor yL_type.desc).map (fun d => d.parameters.length) = some 2 := ⟨gW_S (gW_I 1254 (by decide +kernel) rfl) (gW_I 1255 (by decide +kernel) rfl) (gW_I 0 (by decide +kernel) rfl) wh_type, by decide, by decide, by decide +kernel⟩
theorem cc_146 : GoodIn gW (va_wsS RL 146 yL_executes (.codeWith yL_executes cL_executes 2 (some .int) hh_executes :: gW)) ∧ yL_executes.cls ≠ "java/lang/invoke/MethodHandle" ∧ yL_executes.cls ≠ "java/lang/invoke/VarHandle" ∧ (parseMethodDescriptor yL_executes.desc).map (fun d => d.parameters.length) = some 1 := ⟨gW_S (gW_I 1267 (by decide +kernel) rfl) (gW_I 1268 (by decide +kernel) rfl) (gW_I 0 (by decide +kernel) rfl) wh_executes, by decide, by decide, by decide +kernel⟩
theorem cc_157 : GoodIn gW (va_wsS RL 157 yL_addLine (.codeWith yL_addLine cL_addLine 6 (some .int) hh_addLine :: gW)) ∧ yL_addLine.cls ≠ "java/lang/invoke/MethodHandle" ∧ yL_addLine.cls ≠ "java/lang/invoke/VarHandle" ∧ (parseMethodDescriptor yL_addLine.desc).map (fun d => d.parameters.length) = some 5 := ⟨gW_S (gW_I 267 (by decide +kernel) rfl) (gW_I 268 (by decide +kernel) rfl) (gW_I 0 (by decide +kernel) rfl) wh_addLine, by decide, by decide, by decide +kernel⟩
theorem cc_165 : GoodIn gW (va_wsS RL 165 yL_setOrder (.codeWith yL_setOrder cL_setOrder 4 (some .int) hh_setOrder :: gW)) ∧ yL_setOrder.cls ≠ "java/lang/invoke/MethodHandle" ∧ yL_setOrder.cls ≠ "java/lang/invoke/VarHandle" ∧ (parseMethodDescriptor yL_setOrder.desc).map (fun d => d.parameters.length) = some 3 := ⟨gW_S (gW_I 502 (by decide +kernel) rfl) (gW_I 503 (by decide +kernel) rfl) (gW_I 0 (by decide +kernel) rfl) wh_setOrder, by decide, by decide, by decide +kernel⟩
theorem cc_168 : GoodIn gW (va_wsS RL 168 yL_rally (.codeWith yL_rally cL_rally 3 (some .int) hh_rally :: gW)) ∧ yL_rally.cls ≠ "java/lang/invoke/MethodHandle" ∧ yL_rally.cls ≠ "java/lang/invoke/VarHandle" ∧ (parseMethodDescriptor yL_rally.desc).map (fun d => d.parameters.length) = some 2 := ⟨gW_S (gW_I 561 (by decide +kernel) rfl) (gW_I 562 (by decide +kernel) rfl) (gW_I 0 (by decide +kernel) rfl) wh_rally, by decide, by decide, by decide +kernel⟩
theorem cc_174 : GoodIn gW (va_wsS RL 174 yL_lineIn (.codeWith yL_lineIn cL_lineIn 4 (some .int) hh_lineIn :: gW)) ∧ yL_lineIn.cls ≠ "java/lang/invoke/MethodHandle" ∧ yL_lineIn.cls ≠ "java/lang/invoke/VarHandle" ∧ (parseMethodDescriptor yL_lineIn.desc).map (fun d => d.parameters.length) = some 3 := ⟨gW_S (gW_I 650 (by decide +kernel) rfl) (gW_I 651 (by decide +kernel) rfl) (gW_I 0 (by decide +kernel) rfl) wh_lineIn, by decide, by decide, by decide +kernel⟩
theorem cc_195 : GoodIn gW (va_wsS RL 195 yL_laneOf (.codeWith yL_laneOf cL_laneOf 3 (some .int) hh_laneOf :: gW)) ∧ yL_laneOf.cls ≠ "java/lang/invoke/MethodHandle" ∧ yL_laneOf.cls ≠ "java/lang/invoke/VarHandle" ∧ (parseMethodDescriptor yL_laneOf.desc).map (fun d => d.parameters.length) = some 2 := ⟨gW_S (gW_I 678 (by decide +kernel) rfl) (gW_I 679 (by decide +kernel) rfl) (gW_I 0 (by decide +kernel) rfl) wh_laneOf, by decide, by decide, by decide +kernel⟩
theorem cc_197 : GoodIn gW (va_wsS RL 197 yL_columnOf (.codeWith yL_columnOf cL_columnOf 3 (some .int) hh_columnOf :: gW)) ∧ yL_columnOf.cls ≠ "java/lang/invoke/MethodHandle" ∧ yL_columnOf.cls ≠ "java/lang/invoke/VarHandle" ∧ (parseMethodDescriptor yL_columnOf.desc).map (fun d => d.parameters.length) = some 2 := ⟨gW_S (gW_I 699 (by decide +kernel) rfl) (gW_I 700 (by decide +kernel) rfl) (gW_I 0 (by decide +kernel) rfl) wh_columnOf, by decide, by decide, by decide +kernel⟩
theorem cc_203 : GoodIn gW (va_wsS RL 203 yL_kindOf (.codeWith yL_kindOf cL_kindOf 3 (some .int) hh_kindOf :: gW)) ∧ yL_kindOf.cls ≠ "java/lang/invoke/MethodHandle" ∧ yL_kindOf.cls ≠ "java/lang/invoke/VarHandle" ∧ (parseMethodDescriptor yL_kindOf.desc).map (fun d => d.parameters.length) = some 2 := ⟨gW_S (gW_I 719 (by decide +kernel) rfl) (gW_I 720 (by decide +kernel) rfl) (gW_I 0 (by decide +kernel) rfl) wh_kindOf, by decide, by decide, by decide +kernel⟩
theorem cc_205 : GoodIn gW (va_wsS RL 205 yL_strength (.codeWith yL_strength cL_strength 3 (some .int) hh_strength :: gW)) ∧ yL_strength.cls ≠ "java/lang/invoke/MethodHandle" ∧ yL_strength.cls ≠ "java/lang/invoke/VarHandle" ∧ (parseMethodDescriptor yL_strength.desc).map (fun d => d.parameters.length) = some 2 := ⟨gW_S (gW_I 726 (by decide +kernel) rfl) (gW_I 727 (by decide +kernel) rfl) (gW_I 0 (by decide +kernel) rfl) wh_strength, by decide, by decide, by decide +kernel⟩
theorem cc_208 : GoodIn gW (va_wsS RL 208 yL_morale (.codeWith yL_morale cL_morale 3 (some .int) hh_morale :: gW)) ∧ yL_morale.cls ≠ "java/lang/invoke/MethodHandle" ∧ yL_morale.cls ≠ "java/lang/invoke/VarHandle" ∧ (parseMethodDescriptor yL_morale.desc).map (fun d => d.parameters.length) = some 2 := ⟨gW_S (gW_I 733 (by decide +kernel) rfl) (gW_I 734 (by decide +kernel) rfl) (gW_I 0 (by decide +kernel) rfl) wh_morale, by decide, by decide, by decide +kernel⟩
theorem cc_211 : GoodIn gW (va_wsS RL 211 yL_isStanding (.codeWith yL_isStanding cL_isStanding 3 (some .int) hh_isStanding :: gW)) ∧ yL_isStanding.cls ≠ "java/lang/invoke/MethodHandle" ∧ yL_isStanding.cls ≠ "java/lang/invoke/VarHandle" ∧ (parseMethodDescriptor yL_isStanding.desc).map (fun d => d.parameters.length) = some 2 := ⟨gW_S (gW_I 740 (by decide +kernel) rfl) (gW_I 741 (by decide +kernel) rfl) (gW_I 0 (by decide +kernel) rfl) wh_isStanding, by decide, by decide, by decide +kernel⟩
theorem cc_213 : GoodIn gW (va_wsS RL 213 yL_isRouted (.codeWith yL_isRouted cL_isRouted 3 (some .int) hh_isRouted :: gW)) ∧ yL_isRouted.cls ≠ "java/lang/invoke/MethodHandle" ∧ yL_isRouted.cls ≠ "java/lang/invoke/VarHandle" ∧ (parseMethodDescriptor yL_isRouted.desc).map (fun d => d.parameters.length) = some 2 := ⟨gW_S (gW_I 743 (by decide +kernel) rfl) (gW_I 744 (by decide +kernel) rfl) (gW_I 0 (by decide +kernel) rfl) wh_isRouted, by decide, by decide, by decide +kernel⟩
theorem cc_215 : GoodIn gW (va_wsS RL 215 yL_orderOf (.codeWith yL_orderOf cL_orderOf 3 (some .int) hh_orderOf :: gW)) ∧ yL_orderOf.cls ≠ "java/lang/invoke/MethodHandle" ∧ yL_orderOf.cls ≠ "java/lang/invoke/VarHandle" ∧ (parseMethodDescriptor yL_orderOf.desc).map (fun d => d.parameters.length) = some 2 := ⟨gW_S (gW_I 746 (by decide +kernel) rfl) (gW_I 747 (by decide +kernel) rfl) (gW_I 0 (by decide +kernel) rfl) wh_orderOf, by decide, by decide, by decide +kernel⟩
theorem cc_217 : GoodIn gW (va_wsS RL 217 yL_attack (.codeWith yL_attack cL_attack 3 (some .int) hh_attack :: gW)) ∧ yL_attack.cls ≠ "java/lang/invoke/MethodHandle" ∧ yL_attack.cls ≠ "java/lang/invoke/VarHandle" ∧ (parseMethodDescriptor yL_attack.desc).map (fun d => d.parameters.length) = some 2 := ⟨gW_S (gW_I 753 (by decide +kernel) rfl) (gW_I 754 (by decide +kernel) rfl) (gW_I 0 (by decide +kernel) rfl) wh_attack, by decide, by decide, by decide +kernel⟩
theorem cc_223 : GoodIn gW (va_wsS RL 223 yL_counter (.codeWith yL_counter cL_counter 3 (some .int) hh_counter :: gW)) ∧ yL_counter.cls ≠ "java/lang/invoke/MethodHandle" ∧ yL_counter.cls ≠ "java/lang/invoke/VarHandle" ∧ (parseMethodDescriptor yL_counter.desc).map (fun d => d.parameters.length) = some 2 := ⟨gW_S (gW_I 764 (by decide +kernel) rfl) (gW_I 765 (by decide +kernel) rfl) (gW_I 0 (by decide +kernel) rfl) wh_counter, by decide, by decide, by decide +kernel⟩
theorem cc_232 : GoodIn gW (va_wsS RL 232 yL_sideOf (.codeWith yL_sideOf cL_sideOf 3 (some .int) hh_sideOf :: gW)) ∧ yL_sideOf.cls ≠ "java/lang/invoke/MethodHandle" ∧ yL_sideOf.cls ≠ "java/lang/invoke/VarHandle" ∧ (parseMethodDescriptor yL_sideOf.desc).map (fun d => d.parameters.length) = some 2 := ⟨gW_S (gW_I 782 (by decide +kernel) rfl) (gW_I 783 (by decide +kernel) rfl) (gW_I 0 (by decide +kernel) rfl) wh_sideOf, by decide, by decide, by decide +kernel⟩
theorem cc_237 : GoodIn gW (va_wsS RL 237 yL_support (.codeWith yL_support cL_support 3 (some .int) hh_support :: gW)) ∧ yL_support.cls ≠ "java/lang/invoke/MethodHandle" ∧ yL_support.cls ≠ "java/lang/invoke/VarHandle" ∧ (parseMethodDescriptor yL_support.desc).map (fun d => d.parameters.length) = some 2 := ⟨gW_S (gW_I 788 (by decide +kernel) rfl) (gW_I 789 (by decide +kernel) rfl) (gW_I 0 (by decide +kernel) rfl) wh_support, by decide, by decide, by decide +kernel⟩
theorem cc_240 : GoodIn gW (va_wsS RL 240 yL_byLines (.codeWith yL_byLines cL_byLines 3 (some .int) hh_byLines :: gW)) ∧ yL_byLines.cls ≠ "java/lang/invoke/MethodHandle" ∧ yL_byLines.cls ≠ "java/lang/invoke/VarHandle" ∧ (parseMethodDescriptor yL_byLines.desc).map (fun d => d.parameters.length) = some 2 := ⟨gW_S (gW_I 799 (by decide +kernel) rfl) (gW_I 800 (by decide +kernel) rfl) (gW_I 0 (by decide +kernel) rfl) wh_byLines, by decide, by decide, by decide +kernel⟩
theorem cc_243 : GoodIn gW (va_wsS RL 243 yL_ahead (.codeWith yL_ahead cL_ahead 3 (some .int) hh_ahead :: gW)) ∧ yL_ahead.cls ≠ "java/lang/invoke/MethodHandle" ∧ yL_ahead.cls ≠ "java/lang/invoke/VarHandle" ∧ (parseMethodDescriptor yL_ahead.desc).map (fun d => d.parameters.length) = some 2 := ⟨gW_S (gW_I 807 (by decide +kernel) rfl) (gW_I 808 (by decide +kernel) rfl) (gW_I 0 (by decide +kernel) rfl) wh_ahead, by decide, by decide, by decide +kernel⟩
theorem cc_246 : GoodIn gW (va_wsS RL 246 yL_byDistances (.codeWith yL_byDistances cL_byDistances 3 (some .int) hh_byDistances :: gW)) ∧ yL_byDistances.cls ≠ "java/lang/invoke/MethodHandle" ∧ yL_byDistances.cls ≠ "java/lang/invoke/VarHandle" ∧ (parseMethodDescriptor yL_byDistances.desc).map (fun d => d.parameters.length) = some 2 := ⟨gW_S (gW_I 819 (by decide +kernel) rfl) (gW_I 820 (by decide +kernel) rfl) (gW_I 0 (by decide +kernel) rfl) wh_byDistances, by decide, by decide, by decide +kernel⟩
theorem cc_249 : GoodIn gW (va_wsS RL 249 yL_byStrength (.codeWith yL_byStrength cL_byStrength 3 (some .int) hh_byStrength :: gW)) ∧ yL_byStrength.cls ≠ "java/lang/invoke/MethodHandle" ∧ yL_byStrength.cls ≠ "java/lang/invoke/VarHandle" ∧ (parseMethodDescriptor yL_byStrength.desc).map (fun d => d.parameters.length) = some 2 := ⟨gW_S (gW_I 831 (by decide +kernel) rfl) (gW_I 832 (by decide +kernel) rfl) (gW_I 0 (by decide +kernel) rfl) wh_byStrength, by decide, by decide, by decide +kernel⟩
theorem cc_252 : GoodIn gW (va_wsS RL 252 yL_routed (.codeWith yL_routed cL_routed 3 (some .int) hh_routed :: gW)) ∧ yL_routed.cls ≠ "java/lang/invoke/MethodHandle" ∧ yL_routed.cls ≠ "java/lang/invoke/VarHandle" ∧ (parseMethodDescriptor yL_routed.desc).map (fun d => d.parameters.length) = some 2 := ⟨gW_S (gW_I 847 (by decide +kernel) rfl) (gW_I 848 (by decide +kernel) rfl) (gW_I 0 (by decide +kernel) rfl) wh_routed, by decide, by decide, by decide +kernel⟩
theorem cc_255 : GoodIn gW (va_wsS RL 255 yL_front (.codeWith yL_front cL_front 4 (some .int) hh_front :: gW)) ∧ yL_front.cls ≠ "java/lang/invoke/MethodHandle" ∧ yL_front.cls ≠ "java/lang/invoke/VarHandle" ∧ (parseMethodDescriptor yL_front.desc).map (fun d => d.parameters.length) = some 3 := ⟨gW_S (gW_I 857 (by decide +kernel) rfl) (gW_I 858 (by decide +kernel) rfl) (gW_I 0 (by decide +kernel) rfl) wh_front, by decide, by decide, by decide +kernel⟩
theorem cc_258 : GoodIn gW (va_wsS RL 258 yL_sumOf (.codeWith yL_sumOf cL_sumOf 3 (some .int) hh_sumOf :: gW)) ∧ yL_sumOf.cls ≠ "java/lang/invoke/MethodHandle" ∧ yL_sumOf.cls ≠ "java/lang/invoke/VarHandle" ∧ (parseMethodDescriptor yL_sumOf.desc).map (fun d => d.parameters.length) = some 2 := ⟨gW_S (gW_I 871 (by decide +kernel) rfl) (gW_I 872 (by decide +kernel) rfl) (gW_I 0 (by decide +kernel) rfl) wh_sumOf, by decide, by decide, by decide +kernel⟩
theorem cc_261 : GoodIn gW (va_wsS RL 261 yL_byCells (.codeWith yL_byCells cL_byCells 3 (some .int) hh_byCells :: gW)) ∧ yL_byCells.cls ≠ "java/lang/invoke/MethodHandle" ∧ yL_byCells.cls ≠ "java/lang/invoke/VarHandle" ∧ (parseMethodDescriptor yL_byCells.desc).map (fun d => d.parameters.length) = some 2 := ⟨gW_S (gW_I 886 (by decide +kernel) rfl) (gW_I 887 (by decide +kernel) rfl) (gW_I 0 (by decide +kernel) rfl) wh_byCells, by decide, by decide, by decide +kernel⟩
theorem cc_264 : GoodIn gW (va_wsS RL 264 yL_fallen (.codeWith yL_fallen cL_fallen 3 (some .int) hh_fallen :: gW)) ∧ yL_fallen.cls ≠ "java/lang/invoke/MethodHandle" ∧ yL_fallen.cls ≠ "java/lang/invoke/VarHandle" ∧ (parseMethodDescriptor yL_fallen.desc).map (fun d => d.parameters.length) = some 2 := ⟨gW_S (gW_I 897 (by decide +kernel) rfl) (gW_I 898 (by decide +kernel) rfl) (gW_I 0 (by decide +kernel) rfl) wh_fallen, by decide, by decide, by decide +kernel⟩
theorem cc_267 : GoodIn gW (va_wsS RL 267 yL_jars (.codeWith yL_jars cL_jars 3 (some .int) hh_jars :: gW)) ∧ yL_jars.cls ≠ "java/lang/invoke/MethodHandle" ∧ yL_jars.cls ≠ "java/lang/invoke/VarHandle" ∧ (parseMethodDescriptor yL_jars.desc).map (fun d => d.parameters.length) = some 2 := ⟨gW_S (gW_I 908 (by decide +kernel) rfl) (gW_I 909 (by decide +kernel) rfl) (gW_I 0 (by decide +kernel) rfl) wh_jars, by decide, by decide, by decide +kernel⟩
theorem cc_278 : GoodIn gW (va_wsS RL 278 yL_leader (.codeWith yL_leader cL_leader 2 (some .int) hh_leader :: gW)) ∧ yL_leader.cls ≠ "java/lang/invoke/MethodHandle" ∧ yL_leader.cls ≠ "java/lang/invoke/VarHandle" ∧ (parseMethodDescriptor yL_leader.desc).map (fun d => d.parameters.length) = some 1 := ⟨gW_S (gW_I 954 (by decide +kernel) rfl) (gW_I 955 (by decide +kernel) rfl) (gW_I 0 (by decide +kernel) rfl) wh_leader, by decide, by decide, by decide +kernel⟩
theorem cc_284 : GoodIn gW (va_wsS RL 284 yL_writtenAt (.codeWith yL_writtenAt cL_writtenAt 3 (some .int) hh_writtenAt :: gW)) ∧ yL_writtenAt.cls ≠ "java/lang/invoke/MethodHandle" ∧ yL_writtenAt.cls ≠ "java/lang/invoke/VarHandle" ∧ (parseMethodDescriptor yL_writtenAt.desc).map (fun d => d.parameters.length) = some 2 := ⟨gW_S (gW_I 1217 (by decide +kernel) rfl) (gW_I 1218 (by decide +kernel) rfl) (gW_I 0 (by decide +kernel) rfl) wh_writtenAt, by decide, by decide, by decide +kernel⟩
theorem cc_309 : GoodIn gW (va_wsS RL 309 yL_writeLane (.codeWith yL_writeLane cL_writeLane 3 (some .int) hh_writeLane :: gW)) ∧ yL_writeLane.cls ≠ "java/lang/invoke/MethodHandle" ∧ yL_writeLane.cls ≠ "java/lang/invoke/VarHandle" ∧ (parseMethodDescriptor yL_writeLane.desc).map (fun d => d.parameters.length) = some 2 := ⟨gW_S (gW_I 1197 (by decide +kernel) rfl) (gW_I 1198 (by decide +kernel) rfl) (gW_I 0 (by decide +kernel) rfl) wh_writeLane, by decide, by decide, by decide +kernel⟩
theorem cc_353 : GoodIn gW (va_wsS RL 353 yL_undo (.codeWith yL_undo cL_undo 2 (some .int) hh_undo :: gW)) ∧ yL_undo.cls ≠ "java/lang/invoke/MethodHandle" ∧ yL_undo.cls ≠ "java/lang/invoke/VarHandle" ∧ (parseMethodDescriptor yL_undo.desc).map (fun d => d.parameters.length) = some 1 := ⟨gW_S (gW_I 1339 (by decide +kernel) rfl) (gW_I 1340 (by decide +kernel) rfl) (gW_I 0 (by decide +kernel) rfl) wh_undo, by decide, by decide, by decide +kernel⟩
end ZHC
