section ZCT
theorem n_call2 {p : Program} {l : Launch} {e : Env} {R : Room} {s : State} {m : MethodId} {args : Array Value} {below : List Frame} {meth : Method} {c : Code} {Q : State → Prop} {g : zG} {own : String} {cc : ByteArray} {n lvl mc : Nat} {ret : Option FieldType} {B N0 k : Nat} {X X2 : Nat → va_E} {pc : Nat} {lv : List (Nat × Value)} (hX : nX p s m args meth c R g B N0 own cc n ret lvl mc) {idx nY lvlY mcY nA i0 a : Nat} {y : MethodName} {cY : ByteArray} {As rest st0 : List Value} {e0 : va_E} {X1 : Nat → va_E} (hM : nM l g y cY nY lvlY mcY As (B + i0) e0 X1) (hi0 : N0 + k = i0 + 1) (ha : a = B + i0) (he : X i0 = e0) (hG : Cond.code y cY nY none ∈ gW) (hini : Cond.initialized y.cls ∈ gW) (hlink : Cond.methodLink own idx y ∈ gW) (hinst : Cond.instanceMethod y ∈ gW) (hy1 : y.name = "<init>") (hd : y.cls ≠ "java/lang/invoke/MethodHandle" ∧ y.cls ≠ "java/lang/invoke/VarHandle" ∧ (parseMethodDescriptor y.desc).map (fun d => d.parameters.length) = some nA) (d : decode cc pc = .ok (.invokespecial idx, 3)) (hlv : lvlY < lvl ∧ nY ≤ 81 ∧ k + mcY ≤ mc) (hA : As.length = nA) (hst : st0 = As.reverse ++ .ref a :: rest) (hcat : (rest.map fun v => v.category).sum ≤ 8) (h1 : ∀ j, j < i0 → X j = X2 j) (h2 : ∀ j, j ≤ mcY → X1 j = X2 (i0 + j)) (kk : nZ p l e R s m args below meth c g B N0 n Q (k + mcY) X2 (pc + 3) lv rest) : nZ p l e R s m args below meth c g B N0 n Q k X pc lv st0 := by
  refine n_call hX hM hi0 ha he hG hini hlink hinst hy1 hd d hlv hA hst hcat (n_eq (X' := X2) (fun j hj => ?_) kk)
  by_cases h : j < i0
  · rw [if_pos h]
    exact h1 j h
  · rw [if_neg h, h2 (j - i0) (by omega), show i0 + (j - i0) = j by omega]
theorem n_call2N {p : Program} {l : Launch} {e : Env} {R : Room} {s : State} {m : MethodId} {args : Array Value} {below : List Frame} {meth : Method} {c : Code} {Q : State → Prop} {g : zG} {own : String} {cc : ByteArray} {n lvl mc : Nat} {ret : Option FieldType} {B N0 k : Nat} {X X2 : Nat → va_E} {pc : Nat} {lv : List (Nat × Value)} (hX : nX p s m args meth c R g B N0 own cc n ret lvl mc) {idx nY lvlY mcY nA i0 a : Nat} {y : MethodName} {host : String} {cY : ByteArray} {As rest st0 : List Value} {e0 : va_E} {X1 : Nat → va_E} (hM : nM l g y cY nY lvlY mcY As (B + i0) e0 X1) (hi0 : N0 + k = i0 + 1) (ha : a = B + i0) (he : X i0 = e0) (hG : Cond.code y cY nY none ∈ gW) (hini : Cond.initialized y.cls ∈ gW) (hlink : Cond.methodLinkNest own idx y host ∈ tables_1) (hinst : Cond.instanceMethod y ∈ gW) (hy1 : y.name = "<init>") (hd : y.cls ≠ "java/lang/invoke/MethodHandle" ∧ y.cls ≠ "java/lang/invoke/VarHandle" ∧ (parseMethodDescriptor y.desc).map (fun d => d.parameters.length) = some nA) (d : decode cc pc = .ok (.invokespecial idx, 3)) (hlv : lvlY < lvl ∧ nY ≤ 81 ∧ k + mcY ≤ mc) (hA : As.length = nA) (hst : st0 = As.reverse ++ .ref a :: rest) (hcat : (rest.map fun v => v.category).sum ≤ 8) (h1 : ∀ j, j < i0 → X j = X2 j) (h2 : ∀ j, j ≤ mcY → X1 j = X2 (i0 + j)) (kk : nZ p l e R s m args below meth c g B N0 n Q (k + mcY) X2 (pc + 3) lv rest) : nZ p l e R s m args below meth c g B N0 n Q k X pc lv st0 := by
  refine n_callN hX hM hi0 ha he hG hini hlink hinst hy1 hd d hlv hA hst hcat (n_eq (X' := X2) (fun j hj => ?_) kk)
  by_cases h : j < i0
  · rw [if_pos h]
    exact h1 j h
  · rw [if_neg h, h2 (j - i0) (by omega), show i0 + (j - i0) = j by omega]
theorem up_o {X : Nat → va_E} {k j : Nat} {v : va_E} (h : ¬ j = k) : va_up X k v j = X j := va_up_ne X v h
/-- a new Line -/
def linE (x : Int32) : va_E := .inr (6, [.int x, .int 0, .int 0, .int 0, .int 112, .int 104, .int 0, .int 0, .int 2, .int 0])
def fldO (B : Nat) : va_E := .inr (4, [.ref (B + 1), .ref (B + 2), .int 0, .int 0, .int 0, .int 3, .int 3])
def fldA (g : zG) (B i : Nat) : va_E := .inl (gQ g 3, 12, .inr (.inr (.inr (.inr (fun r => if r < i then some (B + (3 + r)) else none)))))
def fldC (g : zG) (x : Int32) : va_E := .inl (gQ g 1, 30, .inl (fun r => if r < 30 then x else 0))
/-- a new Field at B -/
def fldX (g : zG) (B : Nat) (j : Nat) : va_E := match j with
  | 0 => fldO B
  | 1 => fldA g B 12
  | 2 => fldC g (-1)
  | j + 3 => linE (nI j)
def txtO (B : Nat) : va_E := .inr (3, [.ref (B + 1), .int 0, .int 0, .int 0, .int 0, .int 0, .int 0, .int 0])
def chrA (g : zG) (N : Nat) : va_E := .inl (gQ g 0, N, .inl (fun _ => 0))
def intA (g : zG) (N : Nat) : va_E := .inl (gQ g 1, N, .inl (fun _ => 0))
def txtX (g : zG) (B j : Nat) : va_E := if j = 0 then txtO B else chrA g 60
def hisO (B : Nat) : va_E := .inr (5, [.ref (B + 1), .int 0, .int 0])
def hisA (g : zG) (B i : Nat) : va_E := .inl (gQ g 2, 8, .inr (.inr (.inr (.inr (fun r => if r < i then some (B + (2 + 15 * r)) else none)))))
def hisX (g : zG) (B j : Nat) : va_E := if j = 0 then hisO B else if j = 1 then hisA g B 8 else fldX g (B + (2 + 15 * ((j - 2) / 15))) ((j - 2) % 15)
def batO (B : Nat) : va_E := .inr (7, [.ref (B + 1), .ref (B + 16), .ref (B + 31), .ref (B + 46), .ref (B + 168), .ref (B + 170), .int 0, .int 0, .int (-1), .int (-1)])
def batX (g : zG) (B j : Nat) : va_E := if j = 0 then batO B else if j < 16 then fldX g (B + 1) (j - 1) else if j < 31 then fldX g (B + 16) (j - 16) else if j < 46 then fldX g (B + 31) (j - 31) else if j < 168 then hisX g (B + 46) (j - 46) else if j < 170 then txtX g (B + 168) (j - 168) else chrA g 20
set_option maxHeartbeats 1000000 in
set_option maxRecDepth 100000 in
theorem ct_X3 (l : Launch) {g : zG} {B : Nat} {x : Int32} : nM l g yX3_init cX3_init 2 1 0 [.int x] B (.inr (6, [.int 0, .int 0, .int 0, .int 0, .int 0, .int 0, .int 0, .int 0, .int 0, .int 0])) (fun _ => linE x) := by
  refine nM_of (by decide) (Nat.le_of_ble_eq_true rfl) (fun p e R s m args below meth c hi0 hX => ?_)
  show nZ p l e R s m args below meth c g B 1 2 _ 0 _ 0 [(0, .ref B), (1, .int x)] []
  refine n_aload_n hX dX3_init_0 0 rfl ?_
  refine n_obj hX (gW_I 52 (by decide +kernel) rfl) dX3_init_1 (by decide) ?_
  refine n_aload_n hX dX3_init_4 0 rfl ?_
  refine n_iconst (v := 0) hX dX3_init_5 (by decide) ?_
  refine n_put hX (j := 0) (q := 1) (ty0 := tyX3) (C := RX3) (T := TX3) (NN := 10) (by omega) rfl rfl rfl win_X3 tyX3_ok nmX3 (by decide) rfl rfl (gW_I 56 (by decide +kernel) rfl) (ty := .int) (by decide +kernel) rfl rfl (Nat.le_of_ble_eq_true rfl) dX3_init_6 ?_
  refine n_aload_n hX dX3_init_9 0 rfl ?_
  refine n_iconst (v := 0) hX dX3_init_10 (by decide) ?_
  refine n_put hX (j := 0) (q := 2) (ty0 := tyX3) (C := RX3) (T := TX3) (NN := 10) (by omega) rfl rfl rfl win_X3 tyX3_ok nmX3 (by decide) rfl rfl (gW_I 59 (by decide +kernel) rfl) (ty := .int) (by decide +kernel) rfl rfl (Nat.le_of_ble_eq_true rfl) dX3_init_11 ?_
  refine n_aload_n hX dX3_init_14 0 rfl ?_
  refine n_iconst (v := 0) hX dX3_init_15 (by decide) ?_
  refine n_put hX (j := 0) (q := 3) (ty0 := tyX3) (C := RX3) (T := TX3) (NN := 10) (by omega) rfl rfl rfl win_X3 tyX3_ok nmX3 (by decide) rfl rfl (gW_I 62 (by decide +kernel) rfl) (ty := .int) (by decide +kernel) rfl rfl (Nat.le_of_ble_eq_true rfl) dX3_init_16 ?_
  refine n_aload_n hX dX3_init_19 0 rfl ?_
  refine n_bipush (v := 112) hX dX3_init_20 (by decide) ?_
  refine n_put hX (j := 0) (q := 4) (ty0 := tyX3) (C := RX3) (T := TX3) (NN := 10) (by omega) rfl rfl rfl win_X3 tyX3_ok nmX3 (by decide) rfl rfl (gW_I 65 (by decide +kernel) rfl) (ty := .char) (by decide +kernel) rfl rfl (Nat.le_of_ble_eq_true rfl) dX3_init_22 ?_
  refine n_aload_n hX dX3_init_25 0 rfl ?_
  refine n_bipush (v := 104) hX dX3_init_26 (by decide) ?_
  refine n_put hX (j := 0) (q := 5) (ty0 := tyX3) (C := RX3) (T := TX3) (NN := 10) (by omega) rfl rfl rfl win_X3 tyX3_ok nmX3 (by decide) rfl rfl (gW_I 68 (by decide +kernel) rfl) (ty := .char) (by decide +kernel) rfl rfl (Nat.le_of_ble_eq_true rfl) dX3_init_28 ?_
  refine n_aload_n hX dX3_init_31 0 rfl ?_
  refine n_iconst (v := 0) hX dX3_init_32 (by decide) ?_
  refine n_put hX (j := 0) (q := 6) (ty0 := tyX3) (C := RX3) (T := TX3) (NN := 10) (by omega) rfl rfl rfl win_X3 tyX3_ok nmX3 (by decide) rfl rfl (gW_I 71 (by decide +kernel) rfl) (ty := .int) (by decide +kernel) rfl rfl (Nat.le_of_ble_eq_true rfl) dX3_init_33 ?_
  refine n_aload_n hX dX3_init_36 0 rfl ?_
  refine n_iconst (v := 0) hX dX3_init_37 (by decide) ?_
  refine n_put hX (j := 0) (q := 7) (ty0 := tyX3) (C := RX3) (T := TX3) (NN := 10) (by omega) rfl rfl rfl win_X3 tyX3_ok nmX3 (by decide) rfl rfl (gW_I 74 (by decide +kernel) rfl) (ty := .int) (by decide +kernel) rfl rfl (Nat.le_of_ble_eq_true rfl) dX3_init_38 ?_
  refine n_aload_n hX dX3_init_41 0 rfl ?_
  refine n_iconst (v := 2) hX dX3_init_42 (by decide) ?_
  refine n_put hX (j := 0) (q := 8) (ty0 := tyX3) (C := RX3) (T := TX3) (NN := 10) (by omega) rfl rfl rfl win_X3 tyX3_ok nmX3 (by decide) rfl rfl (gW_I 77 (by decide +kernel) rfl) (ty := .int) (by decide +kernel) rfl rfl (Nat.le_of_ble_eq_true rfl) dX3_init_43 ?_
  refine n_aload_n hX dX3_init_46 0 rfl ?_
  refine n_iconst (v := 0) hX dX3_init_47 (by decide) ?_
  refine n_put hX (j := 0) (q := 9) (ty0 := tyX3) (C := RX3) (T := TX3) (NN := 10) (by omega) rfl rfl rfl win_X3 tyX3_ok nmX3 (by decide) rfl rfl (gW_I 79 (by decide +kernel) rfl) (ty := .int) (by decide +kernel) rfl rfl (Nat.le_of_ble_eq_true rfl) dX3_init_48 ?_
  refine n_aload_n hX dX3_init_51 0 rfl ?_
  refine n_iload_n hX dX3_init_52 1 rfl ?_
  refine n_putF hX hi0 (j := 0) (q := 0) (ty0 := tyX3) (C := RX3) (T := TX3) (NN := 10) (by omega) rfl rfl rfl win_X3 tyX3_ok nmX3 (by decide) rfl rfl rfl (gW_I 53 (by decide +kernel) rfl) (ty := .int) (by decide +kernel) rfl rfl (Nat.le_of_ble_eq_true rfl) dX3_init_53 ?_
  exact n_vret hX dX3_init_56 rfl (fun j hj => by rw [show j = 0 by omega]; rfl)
def nF (l : Launch) (g : zG) (a sz M : Nat) (v : Int32) (f : Nat → Int32) : Prop := Met l yJ7_fill_53178 (.code yJ7_fill_53178 cJ7_fill_53178 4 none :: gW) { frames := 0, cells := 0, slots := 0, locals := 0 } (va_Pc [.ref a, .int v] (fun U => U.heap.size = sz ∧ va_P (gD g) vwCl [(a, .inl (gQ g 1, M, .inl f))] U.heap ∧ gK g U)) (fun _ st oc t => oc = .returned none ∧ t.heap.size = sz ∧ va_P (gD g) vwCl [(a, .inl (gQ g 1, M, .inl (fun r => if r < M then v else f r)))] t.heap ∧ va_F (fun q => q = a) st t) 0 0 (fun q => q = a)
set_option maxHeartbeats 1000000 in
set_option maxRecDepth 100000 in
theorem ok_fill (l : Launch) {g : zG} {a sz M : Nat} {v : Int32} {f : Nat → Int32} (hM : M < 100000) : nF l g a sz M v f := by
  refine Met.ofW (cc := cJ7_fill_53178) (maxL := 4) (ret := none) (by decide) rfl ?_
  intro p e s m args below meth c s₁ Bd hml hv
  obtain ⟨rfl, hz, hP, hK⟩ := hv
  have hx := Bd.exec
  have hb := Bd.bytes
  have hr := Bd.returns
  have hlk := Bd.notSynchronized
  have hl := lv_entry ([.ref a, .int v]) (n := 4) (Nat.le_of_ble_eq_true rfl)
  rw [lg_entry_eq]
  generalize (lg_sl ([.ref a, .int v]) ++ List.replicate (4 - (lg_sl ([.ref a, .int v])).length) Slot.unset).toArray = ls at hl ⊢
  have hl : lv_has ls 4 [(0, .ref a), (1, .int v)] := hl
  refine lv_iconst (v := 0) hx hb dJ7_fill_53178_0 (by decide) ?_
  refine lv_istore_n (lv' := [(2, _), (0, _), (1, _)]) hx hb dJ7_fill_53178_1 rfl hl (by decide) rfl (fun ls hl => ?_)
  refine lv_aload_n hx hb dJ7_fill_53178_2 rfl (lv_at hl 1 rfl) ?_
  refine va_alen (v := nI M) hx hb hK hP 0 1 rfl rfl rfl dJ7_fill_53178_3 ?_
  refine lv_istore_n (lv' := [(3, _), (2, _), (0, _), (1, _)]) hx hb dJ7_fill_53178_4 rfl hl (by decide) rfl (fun ls hl => ?_)
  have hL : ∀ (dz i : Nat) (H : Heap) (ls : Array Slot) (locs : List Loc), M - i = dz → i ≤ M → lv_has ls 4 [(0, .ref a), (1, .int v), (2, .int (nI i)), (3, .int (nI M))] → va_S (fun q => q = a) s.heap H locs → H.size = s.heap.size → va_P (gD g) vwCl [(a, .inl (gQ g 1, M, .inl (fun r => if r < i then v else f r)))] H → W p l e (headSpec (.code yJ7_fill_53178 cJ7_fill_53178 4 none :: gW) { frames := 0, cells := 0, slots := 0, locals := 0 }).room s m #[Value.ref a, Value.int v] below meth c H locs 0 0 (MQ below (fun _ st oc t => oc = .returned none ∧ t.heap.size = sz ∧ va_P (gD g) vwCl [(a, .inl (gQ g 1, M, .inl (fun r => if r < M then v else f r)))] t.heap ∧ va_F (fun q => q = a) st t) #[Value.ref a, Value.int v] s 0 0 (fun q => q = a)) (F0 m 5 ls []) := by
    intro dz
    induction dz with
    | zero =>
      intro i H ls locs hd hi hl hS hz2 hP
      have hiM : i = M := by omega
      subst hiM
      refine lv_iload_n hx hb dJ7_fill_53178_5 rfl (lv_at hl 2 rfl) ?_
      refine lv_iload_n hx hb dJ7_fill_53178_6 rfl (lv_at hl 3 rfl) ?_
      refine lv_icmp_ge (tgt := 20) hx hb dJ7_fill_53178_7 (by decide) (fun _ => ?_) (fun h => absurd (Int32.le_refl _) h)
      exact W.vret hx hb hr (fun t ht _ => ⟨rfl, by rw [ht]; omega, by rw [ht]; exact hP, hS.F ht⟩) hS.2.2 dJ7_fill_53178_20 hlk
    | succ dz ih =>
      intro i H ls locs hd hi hl hS hz2 hP
      have hiM : i < M := by omega
      refine lv_iload_n hx hb dJ7_fill_53178_5 rfl (lv_at hl 2 rfl) ?_
      refine lv_iload_n hx hb dJ7_fill_53178_6 rfl (lv_at hl 3 rfl) ?_
      refine lv_icmp_ge (tgt := 20) hx hb dJ7_fill_53178_7 (by decide) (fun h => absurd h (nle_i hiM hM)) (fun _ => ?_)
      refine lv_aload_n hx hb dJ7_fill_53178_10 rfl (lv_at hl 0 rfl) ?_
      refine lv_iload_n hx hb dJ7_fill_53178_11 rfl (lv_at hl 2 rfl) ?_
      refine lv_iload_n hx hb dJ7_fill_53178_12 rfl (lv_at hl 1 rfl) ?_
      have hD : va_D (fun q => q = a) [(a, (.inl (gQ g 1, M, .inl (fun r => if r < i then v else f r)) : va_E))] := by
        refine ⟨fun x y p q hx hy _ => ?_, fun x q hx => ?_⟩
        · have h1 : x < 1 := (List.getElem?_eq_some_iff.mp hx).1
          have h2 : y < 1 := (List.getElem?_eq_some_iff.mp hy).1
          omega
        · have h1 : x < 1 := (List.getElem?_eq_some_iff.mp hx).1
          rw [show x = 0 by omega] at hx
          cases hx
          rfl
      refine va_iast (H0 := H) hx hb hK hP hD hS.self 0 1 rfl rfl (vp_in_nI hiM (Nat.lt_trans hM (by decide))) dJ7_fill_53178_13 (fun H1 locs1 hP1 hD1 hS1 => ?_)
      refine W.sized (fun hz3 => ?_)
      refine lv_iinc (lv' := [(2, _), (0, _), (1, _), (3, _)]) hx hb dJ7_fill_53178_14 hl (k := 2) rfl (nI_1 i) (by decide) rfl (fun ls hl => ?_)
      refine lv_goto (tgt := 5) hx hb dJ7_fill_53178_17 (by decide) ?_
      refine ih (i + 1) H1 ls locs1 (by omega) (by omega) (lv_sub hl [1, 2, 0, 3] rfl) (hS.then hS1) (by have := hS1.1; omega) ?_
      have he : upd (fun r => if r < i then v else f r) (nI i).toNatClampNeg v = fun r => if r < i + 1 then v else f r := by
        funext r
        rw [nI_clamp (by omega)]
        show (if r = i then v else if r < i then v else f r) = _
        by_cases h1 : r = i
        · rw [if_pos h1, if_pos (by omega)]
        · rw [if_neg h1]
          by_cases h2 : r < i
          · rw [if_pos h2, if_pos (by omega)]
          · rw [if_neg h2, if_neg (by omega)]
      rw [he] at hP1
      exact hP1
  refine hL M 0 s.heap ls [] (by omega) (Nat.zero_le _) (lv_sub hl [2, 3, 1, 0] rfl) va_S.rf rfl ?_
  have he : (fun r => if r < 0 then v else f r) = f := funext fun r => if_neg (by omega)
  rw [he]
  exact hP
theorem n_fill {p : Program} {l : Launch} {e : Env} {R : Room} {s : State} {m : MethodId} {args : Array Value} {below : List Frame} {meth : Method} {c : Code} {Q : State → Prop} {g : zG} {own : String} {cc : ByteArray} {n lvl mc : Nat} {ret : Option FieldType} {B N0 k : Nat} {X X2 : Nat → va_E} {pc : Nat} {lv : List (Nat × Value)} {st : List Value} (hX : nX p s m args meth c R g B N0 own cc n ret lvl mc) {idx j a M : Nat} {v : Int32} {f : Nat → Int32} (hlink : Cond.methodLink own idx yJ7_fill_53178 ∈ gW) (hj : j < N0 + k) (ha : a = B + j) (he : X j = .inl (gQ g 1, M, .inl f)) (hM : M < 100000) (d : decode cc pc = .ok (.invokestatic idx, 3)) (hlv : 1 ≤ lvl) (hkm : k ≤ mc) (hcat : (st.map fun v => v.category).sum ≤ 8) (h1 : ∀ q, q < N0 + k → X2 q = if q = j then .inl (gQ g 1, M, .inl (fun r => if r < M then v else f r)) else X q) (kk : nZ p l e R s m args below meth c g B N0 n Q k X2 (pc + 3) lv st) : nZ p l e R s m args below meth c g B N0 n Q k X pc lv (.int v :: .ref a :: st) := fun H ls locs hl hS hz hP => by
  obtain ⟨hx, hb, hml, hown, hts, hK, hAO, hB, hR, -⟩ := id hX
  subst ha
  have h3 := hP j _ (nW_get hj)
  rw [he] at h3
  have hr := va_runS (nL := n) (m := m) (H := H) (cells := k) (slots := 1000 * k) (below := below) (meth := meth) (locs := locs) (p := p) (l := l) (e := e) ⟨hx, hb, hml, hown, hts⟩ (ok_fill l (g := g) (a := B + j) (sz := H.size) (v := v) (f := f) hM) (va_cwS 2 hts (gW_S hlink wt_J7_fill_53178 wn_RJ7 wc_J7_fill_53178) rfl rfl rfl ⟨by decide, by decide, by decide +kernel⟩ ⟨Nat.le_trans hlv hR.1, Nat.le_trans (show 8 + (4 + 11) + 0 ≤ 100 * lvl by omega) hR.2.1⟩) ⟨fun A U fr mk h => ⟨h.1, h.2.1, h.2.2.1, gK.moved (u := U) (U := U.calling fr mk A) (Vm.Alike.refl U.vm) h.2.2.2⟩, fun U hU hw => ⟨rfl, by rw [hU], (by
    intro q z hq
    have hq1 : q < 1 := (List.getElem?_eq_some_iff.mp hq).1
    rw [show q = 0 by omega] at hq
    cases hq
    rw [hU]
    exact h3), gK.moved hw.alike hK⟩⟩ (g := F0 m pc ls (([.ref (B + j), .int v] : List Value).reverse ++ st)) rfl rfl hl.1 rfl (lv_room hcat) d ⟨by omega, by omega⟩
  intro T hT X0
  obtain ⟨u, st₀, t, T', L, h0, X', hL, e1, e2, ⟨hv, hsz, hP1, hF⟩, stp⟩ := hr T hT X0
  cases hv
  have hSz : st₀.heap.size = B + (N0 + k) := by rw [h0]; exact hz
  have hS' : va_S (fun q => B ≤ q) s.heap T'.heap (locs ++ L) := by
    refine ⟨by rw [e1]; omega, fun q h1 h2 => ?_, fun q hq => ?_⟩
    · rw [e1, hF.2 q (by omega) (by omega), h0]
      exact hS.2.1 q h1 h2
    · rcases List.mem_append.mp hq with h | h
      · exact hS.2.2 q h
      · have h9 : q.base = B + j := hL q h
        exact Nat.le_trans (Nat.le_add_right B j) (Nat.le_of_eq h9.symm)
  have hP' : va_P (gD g) vwCl (nW B (N0 + k) X2) T'.heap := fun q z hq => by
    obtain ⟨hqn, rfl⟩ := nW_inv hq
    rw [e1, h1 q hqn]
    by_cases hq2 : q = j
    · rw [if_pos hq2]
      subst hq2
      exact hP1 0 _ rfl
    · rw [if_neg hq2]
      refine (hP q _ (nW_get hqn)).kept ?_
      rw [← h0]
      exact hF.2 (B + q) (by omega) (by omega)
  obtain ⟨t2, a1, b1⟩ := kk T'.heap ls (locs ++ L) hl hS' (by rw [e1]; omega) hP' T' rfl X'
  exact ⟨t2, stp t2 a1, b1⟩
set_option maxHeartbeats 1000000 in
set_option maxRecDepth 100000 in
theorem ct_X1 (l : Launch) {g : zG} {B : Nat} : nM l g yX1_init cX1_init 2 2 14 [] B (.inr (4, [.null, .null, .int 0, .int 0, .int 0, .int 0, .int 0])) (fldX g B) := by
  refine nM_of (by decide) (Nat.le_of_ble_eq_true rfl) (fun p e R s m args below meth c hi0 hX => ?_)
  show nZ p l e R s m args below meth c g B 1 2 _ 0 _ 0 [(0, .ref B)] []
  refine n_aload_n hX dX1_init_0 0 rfl ?_
  refine n_obj hX (gW_I 45 (by decide +kernel) rfl) dX1_init_1 (by decide) ?_
  refine n_aload_n hX dX1_init_4 0 rfl ?_
  refine n_bipush (v := 12) hX dX1_init_5 (by decide) ?_
  refine n_newq hX (t0 := 3) (M := 12) (gW_I 46 (by decide +kernel) rfl) hX.2.2.2.2.2.2.1.1 rfl (by decide) (by decide) (by omega) (by decide) dX1_init_7 ?_
  refine n_putF hX hi0 (j := 0) (q := 0) (ty0 := tyX1) (C := RX1) (T := TX1) (NN := 7) (by omega) rfl rfl rfl win_X1 tyX1_ok nmX1 (by decide) rfl rfl rfl (gW_I 107 (by decide +kernel) rfl) (ty := (.array (.object "LineBattle$Line"))) (by decide +kernel) rfl rfl (Nat.le_of_ble_eq_true rfl) dX1_init_10 ?_
  refine n_aload_n hX dX1_init_13 0 rfl ?_
  refine n_bipush (v := 30) hX dX1_init_14 (by decide) ?_
  refine n_newa hX (t0 := 1) (M := 30) (a0 := (30, .inl (fun _ => 0))) (ty := .int) rfl (gW_I 103 (by decide +kernel) rfl) rfl (fun _ => rfl) (by decide) (by decide) (by decide) (by omega) (by decide) dX1_init_16 ?_
  refine n_putF hX hi0 (j := 0) (q := 1) (ty0 := tyX1) (C := RX1) (T := TX1) (NN := 7) (by omega) rfl rfl rfl win_X1 tyX1_ok nmX1 (by decide) rfl rfl rfl (gW_I 108 (by decide +kernel) rfl) (ty := (.array .int)) (by decide +kernel) rfl rfl (Nat.le_of_ble_eq_true rfl) dX1_init_18 ?_
  refine n_aload_n hX dX1_init_21 0 rfl ?_
  refine n_iconst (v := 0) hX dX1_init_22 (by decide) ?_
  refine n_put hX (j := 0) (q := 2) (ty0 := tyX1) (C := RX1) (T := TX1) (NN := 7) (by omega) rfl rfl rfl win_X1 tyX1_ok nmX1 (by decide) rfl rfl (gW_I 109 (by decide +kernel) rfl) (ty := .int) (by decide +kernel) rfl rfl (Nat.le_of_ble_eq_true rfl) dX1_init_23 ?_
  refine n_aload_n hX dX1_init_26 0 rfl ?_
  refine n_iconst (v := 0) hX dX1_init_27 (by decide) ?_
  refine n_put hX (j := 0) (q := 3) (ty0 := tyX1) (C := RX1) (T := TX1) (NN := 7) (by omega) rfl rfl rfl win_X1 tyX1_ok nmX1 (by decide) rfl rfl (gW_I 111 (by decide +kernel) rfl) (ty := .int) (by decide +kernel) rfl rfl (Nat.le_of_ble_eq_true rfl) dX1_init_28 ?_
  refine n_aload_n hX dX1_init_31 0 rfl ?_
  refine n_iconst (v := 0) hX dX1_init_32 (by decide) ?_
  refine n_put hX (j := 0) (q := 4) (ty0 := tyX1) (C := RX1) (T := TX1) (NN := 7) (by omega) rfl rfl rfl win_X1 tyX1_ok nmX1 (by decide) rfl rfl (gW_I 113 (by decide +kernel) rfl) (ty := .int) (by decide +kernel) rfl rfl (Nat.le_of_ble_eq_true rfl) dX1_init_33 ?_
  refine n_aload_n hX dX1_init_36 0 rfl ?_
  refine n_iconst (v := 3) hX dX1_init_37 (by decide) ?_
  refine n_put hX (j := 0) (q := 5) (ty0 := tyX1) (C := RX1) (T := TX1) (NN := 7) (by omega) rfl rfl rfl win_X1 tyX1_ok nmX1 (by decide) rfl rfl (gW_I 115 (by decide +kernel) rfl) (ty := .int) (by decide +kernel) rfl rfl (Nat.le_of_ble_eq_true rfl) dX1_init_38 ?_
  refine n_aload_n hX dX1_init_41 0 rfl ?_
  refine n_iconst (v := 3) hX dX1_init_42 (by decide) ?_
  refine n_put hX (j := 0) (q := 6) (ty0 := tyX1) (C := RX1) (T := TX1) (NN := 7) (by omega) rfl rfl rfl win_X1 tyX1_ok nmX1 (by decide) rfl rfl (gW_I 116 (by decide +kernel) rfl) (ty := .int) (by decide +kernel) rfl rfl (Nat.le_of_ble_eq_true rfl) dX1_init_43 ?_
  refine n_iconst (v := 0) hX dX1_init_46 (by decide) ?_
  refine n_istore_n (lv' := [(1, _), (0, _)]) hX dX1_init_47 (by decide) rfl ?_
  have hL : ∀ (dz i : Nat), 12 - i = dz → i ≤ 12 → nZ p l e R s m args below meth c g B 1 2 (nQ g B 14 (fldX g B) below args s) (2 + i) (va_up (va_up (fldX g B) 1 (fldA g B i)) 2 (fldC g 0)) 48 [(0, .ref B), (1, .int (nI i))] [] := by
    intro dz
    induction dz with
    | zero =>
      intro i hd hi
      have hi12 : i = 12 := by omega
      subst hi12
      refine n_iload_n hX dX1_init_48 1 rfl ?_
      refine n_aload_n hX dX1_init_49 0 rfl ?_
      refine n_get hX (j := 0) (q := 0) (C := RX1) (T := TX1) (NN := 7) (by omega) rfl (show _ = fldO B from rfl) rfl win_X1 (by decide) rfl fl_RX1_11 rfl dX1_init_50 ?_
      refine n_alen hX (j := 1) (t0 := 3) (v := nI 12) (by omega) rfl (show _ = fldA g B 12 from rfl) rfl rfl dX1_init_53 ?_
      refine n_icmp_ge (tgt := 77) hX dX1_init_54 (by decide) (fun _ => ?_) (fun h => absurd (Int32.le_refl _) h)
      refine n_aload_n hX dX1_init_77 0 rfl ?_
      refine n_get hX (j := 0) (q := 1) (C := RX1) (T := TX1) (NN := 7) (by omega) rfl (show _ = fldO B from rfl) rfl win_X1 (by decide) rfl fl_RX1_17 rfl dX1_init_78 ?_
      refine n_iconst (v := -1) hX dX1_init_81 (by decide) ?_
      refine n_fill hX (j := 2) (X2 := fldX g B) ml_RX1_40 (by omega) rfl (show _ = fldC g 0 from rfl) (by decide) dX1_init_82 (by decide) (by omega) (Nat.le_of_ble_eq_true rfl) (fun q hq => ?_) ?_
      · by_cases h2 : q = 2
        · rw [if_pos h2]
          subst h2
          show fldC g (-1) = _
          unfold fldC
          congr 3
          exact congrArg Sum.inl (funext fun r => by by_cases h : r < 30 <;> simp [h])
        · rw [if_neg h2, up_o h2]
          by_cases h1 : q = 1
          · subst h1; rfl
          · rw [up_o h1]
      exact n_vret hX dX1_init_85 rfl (fun j hj => rfl)
    | succ dz ih =>
      intro i hd hi
      have hi12 : i < 12 := by omega
      refine n_iload_n hX dX1_init_48 1 rfl ?_
      refine n_aload_n hX dX1_init_49 0 rfl ?_
      refine n_get hX (j := 0) (q := 0) (C := RX1) (T := TX1) (NN := 7) (by omega) rfl (show _ = fldO B from rfl) rfl win_X1 (by decide) rfl fl_RX1_11 rfl dX1_init_50 ?_
      refine n_alen hX (j := 1) (t0 := 3) (v := nI 12) (by omega) rfl (show _ = fldA g B i from rfl) rfl rfl dX1_init_53 ?_
      refine n_icmp_ge (tgt := 77) hX dX1_init_54 (by decide) (fun h => absurd h (nle_i hi12 (by decide))) (fun _ => ?_)
      refine n_aload_n hX dX1_init_57 0 rfl ?_
      refine n_get hX (j := 0) (q := 0) (C := RX1) (T := TX1) (NN := 7) (by omega) rfl (show _ = fldO B from rfl) rfl win_X1 (by decide) rfl fl_RX1_11 rfl dX1_init_58 ?_
      refine n_iload_n hX dX1_init_61 1 rfl ?_
      refine n_new hX (ci := 6) (C := RX3) (T := TX3) (NN := 10) (fs := [.int 0, .int 0, .int 0, .int 0, .int 0, .int 0, .int 0, .int 0, .int 0, .int 0]) win_X3 tyX3_ok (gW_I 46 (by decide +kernel) rfl) (gW_I 48 (by decide +kernel) rfl) (gW_I 3 (by decide +kernel) rfl) rfl (fun j hj => by rcases (show j = 0 ∨ j = 1 ∨ j = 2 ∨ j = 3 ∨ j = 4 ∨ j = 5 ∨ j = 6 ∨ j = 7 ∨ j = 8 ∨ j = 9 by omega) with rfl | rfl | rfl | rfl | rfl | rfl | rfl | rfl | rfl | rfl <;> rfl) (by omega) (by decide) dX1_init_62 ?_
      refine n_dup hX dX1_init_65 rfl ?_
      refine n_iload_n hX dX1_init_66 1 rfl ?_
      refine n_call2 hX (X2 := va_up (va_up (fldX g B) 1 (fldA g B i)) 2 (fldC g 0)) (nA := 1) (ct_X3 l (x := nI i)) (i0 := 1 + (2 + i)) rfl rfl (va_up_self _ _ _) (gW_I 51 (by decide +kernel) rfl) (gW_I 3 (by decide +kernel) rfl) (gW_I 49 (by decide +kernel) rfl) (gW_I 50 (by decide +kernel) rfl) rfl (by decide +kernel) dX1_init_67 ⟨by decide, by decide, by omega⟩ rfl rfl (Nat.le_of_ble_eq_true rfl) (fun j hj => up_o (by omega)) (fun j hj => ?_) ?_
      · rw [show j = 0 by omega, up_o (by omega), up_o (by omega), show 1 + (2 + i) + 0 = i + 3 by omega]
        rfl
      refine n_aast hX (j := 1) (j2 := 1 + (2 + i)) (ci := 6) (r := (RX3, TX3, 10)) (t0 := 3) (M := 12) (vs := [.int (nI i), .int 0, .int 0, .int 0, .int 112, .int 104, .int 0, .int 0, .int 2, .int 0]) (by omega) rfl (show _ = fldA g B i from rfl) rfl (by omega) rfl (by rw [up_o (by omega), up_o (by omega), show 1 + (2 + i) = i + 3 by omega]; rfl) rfl (vp_in_nI hi12 (by decide)) dX1_init_70 ?_
      refine n_eq (X' := va_up (va_up (fldX g B) 1 (fldA g B (i + 1))) 2 (fldC g 0)) (fun j hj => ?_) ?_
      · by_cases h1 : j = 1
        · subst h1
          rw [va_up_self, up_o (by decide), va_up_self]
          unfold fldA
          rw [nI_clamp (by omega)]
          refine congrArg (fun z : Nat → Option Nat => (.inl (gQ g 3, 12, .inr (.inr (.inr (.inr z)))) : va_E)) (funext fun r => ?_)
          show (if r = i then some (B + (1 + (2 + i))) else if r < i then some (B + (3 + r)) else none) = _
          by_cases h2 : r = i
          · subst h2
            rw [if_pos rfl, if_pos (by omega)]
            rw [show 1 + (2 + r) = 3 + r by omega]
          · rw [if_neg h2]
            by_cases h3 : r < i
            · rw [if_pos h3, if_pos (by omega)]
            · rw [if_neg h3, if_neg (by omega)]
        · rw [up_o h1]
          by_cases h2 : j = 2
          · subst h2; rfl
          · rw [up_o h2, up_o h1, up_o h2, up_o h1]
      refine n_iinc (lv' := [(1, _), (0, _)]) hX dX1_init_71 1 rfl (nI_1 i) (by decide) rfl ?_
      refine n_goto (tgt := 48) hX dX1_init_74 (by decide) ?_
      refine n_sub [1, 0] rfl ?_
      exact ih (i + 1) (by omega) (by omega)
  refine n_sub [1, 0] rfl ?_
  refine n_eq (fun j hj => ?_) (hL 12 0 rfl (Nat.zero_le _))
  rcases (show j = 0 ∨ j = 1 ∨ j = 2 by omega) with rfl | rfl | rfl
  · rfl
  · rfl
  · show (.inl (gQ g 1, 30, .inl (fun _ => 0)) : va_E) = fldC g 0
    unfold fldC
    congr 3
    exact congrArg Sum.inl (funext fun r => by by_cases h : r < 30 <;> simp [h])
set_option maxHeartbeats 1000000 in
set_option maxRecDepth 100000 in
theorem ct_X0 (l : Launch) {g : zG} {B : Nat} : nM l g yX0_init cX0_init 1 1 1 [] B (.inr (3, [.null, .int 0, .int 0, .int 0, .int 0, .int 0, .int 0, .int 0])) (txtX g B) := by
  refine nM_of (by decide) (Nat.le_of_ble_eq_true rfl) (fun p e R s m args below meth c hi0 hX => ?_)
  show nZ p l e R s m args below meth c g B 1 1 _ 0 _ 0 [(0, .ref B)] []
  refine n_aload_n hX dX0_init_0 0 rfl ?_
  refine n_obj hX (gW_I 157 (by decide +kernel) rfl) dX0_init_1 (by decide) ?_
  refine n_aload_n hX dX0_init_4 0 rfl ?_
  refine n_bipush (v := 60) hX dX0_init_5 (by decide) ?_
  refine n_newa hX (t0 := 0) (M := 60) (a0 := (60, .inl (fun _ => 0))) (ty := .char) rfl (gW_I 190 (by decide +kernel) rfl) rfl (fun _ => rfl) (by decide) (by decide) (by decide) (by omega) (by decide) dX0_init_7 ?_
  refine n_putF hX hi0 (j := 0) (q := 0) (ty0 := tyX0) (C := RX0) (T := TX0) (NN := 8) (by omega) rfl rfl rfl win_X0 tyX0_ok nmX0 (by decide) rfl rfl rfl (gW_I 158 (by decide +kernel) rfl) (ty := (.array .char)) (by decide +kernel) rfl rfl (Nat.le_of_ble_eq_true rfl) dX0_init_9 ?_
  refine n_aload_n hX dX0_init_12 0 rfl ?_
  refine n_iconst (v := 0) hX dX0_init_13 (by decide) ?_
  refine n_put hX (j := 0) (q := 1) (ty0 := tyX0) (C := RX0) (T := TX0) (NN := 8) (by omega) rfl rfl rfl win_X0 tyX0_ok nmX0 (by decide) rfl rfl (gW_I 159 (by decide +kernel) rfl) (ty := .int) (by decide +kernel) rfl rfl (Nat.le_of_ble_eq_true rfl) dX0_init_14 ?_
  refine n_aload_n hX dX0_init_17 0 rfl ?_
  refine n_iconst (v := 0) hX dX0_init_18 (by decide) ?_
  refine n_put hX (j := 0) (q := 2) (ty0 := tyX0) (C := RX0) (T := TX0) (NN := 8) (by omega) rfl rfl rfl win_X0 tyX0_ok nmX0 (by decide) rfl rfl (gW_I 161 (by decide +kernel) rfl) (ty := .int) (by decide +kernel) rfl rfl (Nat.le_of_ble_eq_true rfl) dX0_init_19 ?_
  refine n_aload_n hX dX0_init_22 0 rfl ?_
  refine n_iconst (v := 0) hX dX0_init_23 (by decide) ?_
  refine n_put hX (j := 0) (q := 3) (ty0 := tyX0) (C := RX0) (T := TX0) (NN := 8) (by omega) rfl rfl rfl win_X0 tyX0_ok nmX0 (by decide) rfl rfl (gW_I 163 (by decide +kernel) rfl) (ty := .char) (by decide +kernel) rfl rfl (Nat.le_of_ble_eq_true rfl) dX0_init_24 ?_
  refine n_aload_n hX dX0_init_27 0 rfl ?_
  refine n_iconst (v := 0) hX dX0_init_28 (by decide) ?_
  refine n_put hX (j := 0) (q := 4) (ty0 := tyX0) (C := RX0) (T := TX0) (NN := 8) (by omega) rfl rfl rfl win_X0 tyX0_ok nmX0 (by decide) rfl rfl (gW_I 165 (by decide +kernel) rfl) (ty := .int) (by decide +kernel) rfl rfl (Nat.le_of_ble_eq_true rfl) dX0_init_29 ?_
  refine n_aload_n hX dX0_init_32 0 rfl ?_
  refine n_iconst (v := 0) hX dX0_init_33 (by decide) ?_
  refine n_put hX (j := 0) (q := 5) (ty0 := tyX0) (C := RX0) (T := TX0) (NN := 8) (by omega) rfl rfl rfl win_X0 tyX0_ok nmX0 (by decide) rfl rfl (gW_I 167 (by decide +kernel) rfl) (ty := .int) (by decide +kernel) rfl rfl (Nat.le_of_ble_eq_true rfl) dX0_init_34 ?_
  refine n_aload_n hX dX0_init_37 0 rfl ?_
  refine n_iconst (v := 0) hX dX0_init_38 (by decide) ?_
  refine n_put hX (j := 0) (q := 6) (ty0 := tyX0) (C := RX0) (T := TX0) (NN := 8) (by omega) rfl rfl rfl win_X0 tyX0_ok nmX0 (by decide) rfl rfl (gW_I 169 (by decide +kernel) rfl) (ty := .char) (by decide +kernel) rfl rfl (Nat.le_of_ble_eq_true rfl) dX0_init_39 ?_
  refine n_aload_n hX dX0_init_42 0 rfl ?_
  refine n_iconst (v := 0) hX dX0_init_43 (by decide) ?_
  refine n_put hX (j := 0) (q := 7) (ty0 := tyX0) (C := RX0) (T := TX0) (NN := 8) (by omega) rfl rfl rfl win_X0 tyX0_ok nmX0 (by decide) rfl rfl (gW_I 171 (by decide +kernel) rfl) (ty := .int) (by decide +kernel) rfl rfl (Nat.le_of_ble_eq_true rfl) dX0_init_44 ?_
  exact n_vret hX dX0_init_47 rfl (fun j hj => by rcases (show j = 0 ∨ j = 1 by omega) with rfl | rfl <;> rfl)
set_option maxHeartbeats 1000000 in
set_option maxRecDepth 100000 in
theorem ct_X2 (l : Launch) {g : zG} {B : Nat} : nM l g yX2_init cX2_init 2 3 121 [] B (.inr (5, [.null, .int 0, .int 0])) (hisX g B) := by
  refine nM_of (by decide) (Nat.le_of_ble_eq_true rfl) (fun p e R s m args below meth c hi0 hX => ?_)
  show nZ p l e R s m args below meth c g B 1 2 _ 0 _ 0 [(0, .ref B)] []
  refine n_aload_n hX dX2_init_0 0 rfl ?_
  refine n_obj hX (gW_I 137 (by decide +kernel) rfl) dX2_init_1 (by decide) ?_
  refine n_aload_n hX dX2_init_4 0 rfl ?_
  refine n_bipush (v := 8) hX dX2_init_5 (by decide) ?_
  refine n_newq hX (t0 := 2) (M := 8) (gW_I 138 (by decide +kernel) rfl) hX.2.2.2.2.2.2.1.2.1 rfl (by decide) (by decide) (by omega) (by decide) dX2_init_7 ?_
  refine n_putF hX hi0 (j := 0) (q := 0) (ty0 := tyX2) (C := RX2) (T := TX2) (NN := 3) (by omega) rfl rfl rfl win_X2 tyX2_ok nmX2 (by decide) rfl rfl rfl (gW_I 141 (by decide +kernel) rfl) (ty := (.array (.object "LineBattle$Field"))) (by decide +kernel) rfl rfl (Nat.le_of_ble_eq_true rfl) dX2_init_10 ?_
  refine n_aload_n hX dX2_init_13 0 rfl ?_
  refine n_iconst (v := 0) hX dX2_init_14 (by decide) ?_
  refine n_put hX (j := 0) (q := 1) (ty0 := tyX2) (C := RX2) (T := TX2) (NN := 3) (by omega) rfl rfl rfl win_X2 tyX2_ok nmX2 (by decide) rfl rfl (gW_I 142 (by decide +kernel) rfl) (ty := .int) (by decide +kernel) rfl rfl (Nat.le_of_ble_eq_true rfl) dX2_init_15 ?_
  refine n_aload_n hX dX2_init_18 0 rfl ?_
  refine n_iconst (v := 0) hX dX2_init_19 (by decide) ?_
  refine n_put hX (j := 0) (q := 2) (ty0 := tyX2) (C := RX2) (T := TX2) (NN := 3) (by omega) rfl rfl rfl win_X2 tyX2_ok nmX2 (by decide) rfl rfl (gW_I 143 (by decide +kernel) rfl) (ty := .int) (by decide +kernel) rfl rfl (Nat.le_of_ble_eq_true rfl) dX2_init_20 ?_
  refine n_iconst (v := 0) hX dX2_init_23 (by decide) ?_
  refine n_istore_n (lv' := [(1, _), (0, _)]) hX dX2_init_24 (by decide) rfl ?_
  have hL : ∀ (dz i : Nat), 8 - i = dz → i ≤ 8 → nZ p l e R s m args below meth c g B 1 2 (nQ g B 121 (hisX g B) below args s) (1 + 15 * i) (va_up (hisX g B) 1 (hisA g B i)) 25 [(0, .ref B), (1, .int (nI i))] [] := by
    intro dz
    induction dz with
    | zero =>
      intro i hd hi
      have hi8 : i = 8 := by omega
      subst hi8
      refine n_iload_n hX dX2_init_25 1 rfl ?_
      refine n_aload_n hX dX2_init_26 0 rfl ?_
      refine n_get hX (j := 0) (q := 0) (C := RX2) (T := TX2) (NN := 3) (by omega) rfl (show _ = hisO B from rfl) rfl win_X2 (by decide) rfl (gW_I 141 (by decide +kernel) rfl) rfl dX2_init_27 ?_
      refine n_alen hX (j := 1) (t0 := 2) (v := nI 8) (by omega) rfl (show _ = hisA g B 8 from rfl) rfl rfl dX2_init_30 ?_
      refine n_icmp_ge (tgt := 53) hX dX2_init_31 (by decide) (fun _ => ?_) (fun h => absurd (Int32.le_refl _) h)
      exact n_vret hX dX2_init_53 rfl (fun j hj => by
        by_cases h1 : j = 1
        · subst h1; rfl
        · exact up_o h1)
    | succ dz ih =>
      intro i hd hi
      have hi8 : i < 8 := by omega
      have hfl : ∀ j, j ≤ 14 → fldX g (B + (1 + (1 + 15 * i))) j = va_up (hisX g B) 1 (hisA g B i) (1 + (1 + 15 * i) + j) := fun j hj => by
        rw [up_o (by omega)]
        unfold hisX
        rw [if_neg (by omega), if_neg (by omega), show (1 + (1 + 15 * i) + j - 2) / 15 = i by omega, show (1 + (1 + 15 * i) + j - 2) % 15 = j by omega, show 2 + 15 * i = 1 + (1 + 15 * i) by omega]
      refine n_iload_n hX dX2_init_25 1 rfl ?_
      refine n_aload_n hX dX2_init_26 0 rfl ?_
      refine n_get hX (j := 0) (q := 0) (C := RX2) (T := TX2) (NN := 3) (by omega) rfl (show _ = hisO B from rfl) rfl win_X2 (by decide) rfl (gW_I 141 (by decide +kernel) rfl) rfl dX2_init_27 ?_
      refine n_alen hX (j := 1) (t0 := 2) (v := nI 8) (by omega) rfl (show _ = hisA g B i from rfl) rfl rfl dX2_init_30 ?_
      refine n_icmp_ge (tgt := 53) hX dX2_init_31 (by decide) (fun h => absurd h (nle_i hi8 (by decide))) (fun _ => ?_)
      refine n_aload_n hX dX2_init_34 0 rfl ?_
      refine n_get hX (j := 0) (q := 0) (C := RX2) (T := TX2) (NN := 3) (by omega) rfl (show _ = hisO B from rfl) rfl win_X2 (by decide) rfl (gW_I 141 (by decide +kernel) rfl) rfl dX2_init_35 ?_
      refine n_iload_n hX dX2_init_38 1 rfl ?_
      refine n_new hX (ci := 4) (C := RX1) (T := TX1) (NN := 7) (fs := [.null, .null, .int 0, .int 0, .int 0, .int 0, .int 0]) win_X1 tyX1_ok (gW_I 138 (by decide +kernel) rfl) (gW_I 41 (by decide +kernel) rfl) (gW_I 2 (by decide +kernel) rfl) rfl (fun j hj => by rcases (show j = 0 ∨ j = 1 ∨ j = 2 ∨ j = 3 ∨ j = 4 ∨ j = 5 ∨ j = 6 by omega) with rfl | rfl | rfl | rfl | rfl | rfl | rfl <;> rfl) (by omega) (by decide) dX2_init_39 ?_
      refine n_dup hX dX2_init_42 rfl ?_
      refine n_call2 hX (X2 := va_up (hisX g B) 1 (hisA g B i)) (nA := 0) (ct_X1 l) (i0 := 1 + (1 + 15 * i)) rfl rfl (va_up_self _ _ _) (gW_I 44 (by decide +kernel) rfl) (gW_I 2 (by decide +kernel) rfl) (gW_I 140 (by decide +kernel) rfl) (gW_I 43 (by decide +kernel) rfl) rfl (by decide +kernel) dX2_init_43 ⟨by decide, by decide, by omega⟩ rfl rfl (Nat.le_of_ble_eq_true rfl) (fun j hj => up_o (by omega)) hfl ?_
      refine n_aast hX (j := 1) (j2 := 1 + (1 + 15 * i)) (ci := 4) (r := (RX1, TX1, 7)) (t0 := 2) (M := 8) (by omega) rfl (show _ = hisA g B i from rfl) rfl (by omega) rfl ((hfl 0 (by omega)).symm.trans rfl) rfl (vp_in_nI hi8 (by decide)) dX2_init_46 ?_
      refine n_eq (X' := va_up (hisX g B) 1 (hisA g B (i + 1))) (fun j hj => ?_) ?_
      · by_cases h1 : j = 1
        · subst h1
          rw [va_up_self, va_up_self]
          unfold hisA
          rw [nI_clamp (by omega)]
          refine congrArg (fun z : Nat → Option Nat => (.inl (gQ g 2, 8, .inr (.inr (.inr (.inr z)))) : va_E)) (funext fun r => ?_)
          show (if r = i then some (B + (1 + (1 + 15 * i))) else if r < i then some (B + (2 + 15 * r)) else none) = _
          by_cases h2 : r = i
          · subst h2
            rw [if_pos rfl, if_pos (by omega), show 1 + (1 + 15 * r) = 2 + 15 * r by omega]
          · rw [if_neg h2]
            by_cases h3 : r < i
            · rw [if_pos h3, if_pos (by omega)]
            · rw [if_neg h3, if_neg (by omega)]
        · rw [up_o h1, up_o h1, up_o h1]
      refine n_iinc (lv' := [(1, _), (0, _)]) hX dX2_init_47 1 rfl (nI_1 i) (by decide) rfl ?_
      refine n_goto (tgt := 25) hX dX2_init_50 (by decide) ?_
      refine n_sub [1, 0] rfl ?_
      have h15 : 1 + 15 * (i + 1) = 1 + 15 * i + 1 + 14 := by omega
      have h := ih (i + 1) (by omega) (by omega)
      rw [h15] at h
      exact h
  refine n_sub [1, 0] rfl ?_
  refine n_eq (fun j hj => ?_) (hL 8 0 rfl (Nat.zero_le _))
  rcases (show j = 0 ∨ j = 1 by omega) with rfl | rfl
  · rfl
  · show (.inl (gQ g 2, 8, .inr (.inr (.inr (.inr (fun _ => none))))) : va_E) = hisA g B 0
    unfold hisA
    exact congrArg (fun z : Nat → Option Nat => (.inl (gQ g 2, 8, .inr (.inr (.inr (.inr z)))) : va_E)) (funext fun r => (if_neg (by omega)).symm)
set_option maxHeartbeats 1000000 in
set_option maxRecDepth 100000 in
theorem ct_X4 (l : Launch) {g : zG} {B : Nat} : nM l g yX4_init cX4_init 1 4 170 [] B (.inr (7, [.null, .null, .null, .null, .null, .null, .int 0, .int 0, .int 0, .int 0])) (batX g B) := by
  refine nM_of (by decide) (Nat.le_of_ble_eq_true rfl) (fun p e R s m args below meth c hi0 hX => ?_)
  show nZ p l e R s m args below meth c g B 1 1 _ 0 _ 0 [(0, .ref B)] []
  refine n_aload_n hX dX4_init_0 0 rfl ?_
  refine n_obj hX (gW_I 37 (by decide +kernel) rfl) dX4_init_1 (by decide) ?_
  refine n_eq (X' := va_up (batX g B) 0 (.inr (7, [.null, .null, .null, .null, .null, .null, .int 0, .int 0, .int 0, .int 0]))) (fun j hj => by rw [show j = 0 by omega]; rfl) ?_
  refine n_aload_n hX dX4_init_4 0 rfl ?_
  refine n_new hX (ci := 4) (C := RX1) (T := TX1) (NN := 7) (fs := [.null, .null, .int 0, .int 0, .int 0, .int 0, .int 0]) win_X1 tyX1_ok (gW_I 40 (by decide +kernel) rfl) (gW_I 41 (by decide +kernel) rfl) (gW_I 2 (by decide +kernel) rfl) rfl (fun j hj => by rcases (show j = 0 ∨ j = 1 ∨ j = 2 ∨ j = 3 ∨ j = 4 ∨ j = 5 ∨ j = 6 by omega) with rfl | rfl | rfl | rfl | rfl | rfl | rfl <;> rfl) (by omega) (by decide) dX4_init_5 ?_
  refine n_dup hX dX4_init_8 rfl ?_
  refine n_call2 hX (X2 := va_up (batX g B) 0 (.inr (7, [.null, .null, .null, .null, .null, .null, .int 0, .int 0, .int 0, .int 0]))) (nA := 0) (ct_X1 l) (i0 := 1) rfl rfl (va_up_self _ _ _) (gW_I 44 (by decide +kernel) rfl) (gW_I 2 (by decide +kernel) rfl) (gW_I 42 (by decide +kernel) rfl) (gW_I 43 (by decide +kernel) rfl) rfl (by decide +kernel) dX4_init_9 ⟨by decide, by decide, by omega⟩ rfl rfl (Nat.le_of_ble_eq_true rfl) (fun j hj => up_o (by omega)) (fun j hj => by
    rw [up_o (by omega)]
    unfold batX
    rw [if_neg (by omega), if_pos (by omega), show 1 + j - 1 = j by omega]) ?_
  refine n_putF hX hi0 (j := 0) (q := 0) (ty0 := tyX4) (C := RX4) (T := TX4) (NN := 10) (by omega) rfl rfl rfl win_X4 tyX4_ok nmX4 (by decide) rfl rfl rfl (gW_I 191 (by decide +kernel) rfl) (ty := (.object "LineBattle$Field")) (by decide +kernel) rfl rfl (Nat.le_of_ble_eq_true rfl) dX4_init_12 ?_
  refine n_eq (X' := va_up (batX g B) 0 (.inr (7, [.ref (B + 1), .null, .null, .null, .null, .null, .int 0, .int 0, .int 0, .int 0]))) (fun j hj => by
    by_cases h : j = 0
    · subst h; rfl
    · simp only [up_o h]) ?_
  refine n_aload_n hX dX4_init_15 0 rfl ?_
  refine n_new hX (ci := 4) (C := RX1) (T := TX1) (NN := 7) (fs := [.null, .null, .int 0, .int 0, .int 0, .int 0, .int 0]) win_X1 tyX1_ok (gW_I 40 (by decide +kernel) rfl) (gW_I 41 (by decide +kernel) rfl) (gW_I 2 (by decide +kernel) rfl) rfl (fun j hj => by rcases (show j = 0 ∨ j = 1 ∨ j = 2 ∨ j = 3 ∨ j = 4 ∨ j = 5 ∨ j = 6 by omega) with rfl | rfl | rfl | rfl | rfl | rfl | rfl <;> rfl) (by omega) (by decide) dX4_init_16 ?_
  refine n_dup hX dX4_init_19 rfl ?_
  refine n_call2 hX (X2 := va_up (batX g B) 0 (.inr (7, [.ref (B + 1), .null, .null, .null, .null, .null, .int 0, .int 0, .int 0, .int 0]))) (nA := 0) (ct_X1 l) (i0 := 16) rfl rfl (va_up_self _ _ _) (gW_I 44 (by decide +kernel) rfl) (gW_I 2 (by decide +kernel) rfl) (gW_I 42 (by decide +kernel) rfl) (gW_I 43 (by decide +kernel) rfl) rfl (by decide +kernel) dX4_init_20 ⟨by decide, by decide, by omega⟩ rfl rfl (Nat.le_of_ble_eq_true rfl) (fun j hj => up_o (by omega)) (fun j hj => by
    rw [up_o (by omega)]
    unfold batX
    rw [if_neg (by omega), if_neg (by omega), if_pos (by omega), show 16 + j - 16 = j by omega]) ?_
  refine n_putF hX hi0 (j := 0) (q := 1) (ty0 := tyX4) (C := RX4) (T := TX4) (NN := 10) (by omega) rfl rfl rfl win_X4 tyX4_ok nmX4 (by decide) rfl rfl rfl (gW_I 192 (by decide +kernel) rfl) (ty := (.object "LineBattle$Field")) (by decide +kernel) rfl rfl (Nat.le_of_ble_eq_true rfl) dX4_init_23 ?_
  refine n_eq (X' := va_up (batX g B) 0 (.inr (7, [.ref (B + 1), .ref (B + 16), .null, .null, .null, .null, .int 0, .int 0, .int 0, .int 0]))) (fun j hj => by
    by_cases h : j = 0
    · subst h; rfl
    · simp only [up_o h]) ?_
  refine n_aload_n hX dX4_init_26 0 rfl ?_
  refine n_new hX (ci := 4) (C := RX1) (T := TX1) (NN := 7) (fs := [.null, .null, .int 0, .int 0, .int 0, .int 0, .int 0]) win_X1 tyX1_ok (gW_I 40 (by decide +kernel) rfl) (gW_I 41 (by decide +kernel) rfl) (gW_I 2 (by decide +kernel) rfl) rfl (fun j hj => by rcases (show j = 0 ∨ j = 1 ∨ j = 2 ∨ j = 3 ∨ j = 4 ∨ j = 5 ∨ j = 6 by omega) with rfl | rfl | rfl | rfl | rfl | rfl | rfl <;> rfl) (by omega) (by decide) dX4_init_27 ?_
  refine n_dup hX dX4_init_30 rfl ?_
  refine n_call2 hX (X2 := va_up (batX g B) 0 (.inr (7, [.ref (B + 1), .ref (B + 16), .null, .null, .null, .null, .int 0, .int 0, .int 0, .int 0]))) (nA := 0) (ct_X1 l) (i0 := 31) rfl rfl (va_up_self _ _ _) (gW_I 44 (by decide +kernel) rfl) (gW_I 2 (by decide +kernel) rfl) (gW_I 42 (by decide +kernel) rfl) (gW_I 43 (by decide +kernel) rfl) rfl (by decide +kernel) dX4_init_31 ⟨by decide, by decide, by omega⟩ rfl rfl (Nat.le_of_ble_eq_true rfl) (fun j hj => up_o (by omega)) (fun j hj => by
    rw [up_o (by omega)]
    unfold batX
    rw [if_neg (by omega), if_neg (by omega), if_neg (by omega), if_pos (by omega), show 31 + j - 31 = j by omega]) ?_
  refine n_putF hX hi0 (j := 0) (q := 2) (ty0 := tyX4) (C := RX4) (T := TX4) (NN := 10) (by omega) rfl rfl rfl win_X4 tyX4_ok nmX4 (by decide) rfl rfl rfl (gW_I 193 (by decide +kernel) rfl) (ty := (.object "LineBattle$Field")) (by decide +kernel) rfl rfl (Nat.le_of_ble_eq_true rfl) dX4_init_34 ?_
  refine n_eq (X' := va_up (batX g B) 0 (.inr (7, [.ref (B + 1), .ref (B + 16), .ref (B + 31), .null, .null, .null, .int 0, .int 0, .int 0, .int 0]))) (fun j hj => by
    by_cases h : j = 0
    · subst h; rfl
    · simp only [up_o h]) ?_
  refine n_aload_n hX dX4_init_37 0 rfl ?_
  refine n_new hX (ci := 5) (C := RX2) (T := TX2) (NN := 3) (fs := [.null, .int 0, .int 0]) win_X2 tyX2_ok (gW_I 132 (by decide +kernel) rfl) (gW_I 133 (by decide +kernel) rfl) (gW_I 5 (by decide +kernel) rfl) rfl (fun j hj => by rcases (show j = 0 ∨ j = 1 ∨ j = 2 by omega) with rfl | rfl | rfl <;> rfl) (by omega) (by decide) dX4_init_38 ?_
  refine n_dup hX dX4_init_41 rfl ?_
  refine n_call2 hX (X2 := va_up (batX g B) 0 (.inr (7, [.ref (B + 1), .ref (B + 16), .ref (B + 31), .null, .null, .null, .int 0, .int 0, .int 0, .int 0]))) (nA := 0) (ct_X2 l) (i0 := 46) rfl rfl (va_up_self _ _ _) (gW_I 136 (by decide +kernel) rfl) (gW_I 5 (by decide +kernel) rfl) (gW_I 134 (by decide +kernel) rfl) (gW_I 135 (by decide +kernel) rfl) rfl (by decide +kernel) dX4_init_42 ⟨by decide, by decide, by omega⟩ rfl rfl (Nat.le_of_ble_eq_true rfl) (fun j hj => up_o (by omega)) (fun j hj => by
    rw [up_o (by omega)]
    unfold batX
    rw [if_neg (by omega), if_neg (by omega), if_neg (by omega), if_neg (by omega), if_pos (by omega), show 46 + j - 46 = j by omega]) ?_
  refine n_putF hX hi0 (j := 0) (q := 3) (ty0 := tyX4) (C := RX4) (T := TX4) (NN := 10) (by omega) rfl rfl rfl win_X4 tyX4_ok nmX4 (by decide) rfl rfl rfl (gW_I 194 (by decide +kernel) rfl) (ty := (.object "LineBattle$History")) (by decide +kernel) rfl rfl (Nat.le_of_ble_eq_true rfl) dX4_init_45 ?_
  refine n_eq (X' := va_up (batX g B) 0 (.inr (7, [.ref (B + 1), .ref (B + 16), .ref (B + 31), .ref (B + 46), .null, .null, .int 0, .int 0, .int 0, .int 0]))) (fun j hj => by
    by_cases h : j = 0
    · subst h; rfl
    · simp only [up_o h]) ?_
  refine n_aload_n hX dX4_init_48 0 rfl ?_
  refine n_new hX (ci := 3) (C := RX0) (T := TX0) (NN := 8) (fs := [.null, .int 0, .int 0, .int 0, .int 0, .int 0, .int 0, .int 0]) win_X0 tyX0_ok (gW_I 152 (by decide +kernel) rfl) (gW_I 153 (by decide +kernel) rfl) (gW_I 6 (by decide +kernel) rfl) rfl (fun j hj => by rcases (show j = 0 ∨ j = 1 ∨ j = 2 ∨ j = 3 ∨ j = 4 ∨ j = 5 ∨ j = 6 ∨ j = 7 by omega) with rfl | rfl | rfl | rfl | rfl | rfl | rfl | rfl <;> rfl) (by omega) (by decide) dX4_init_49 ?_
  refine n_dup hX dX4_init_52 rfl ?_
  refine n_call2N hX (host := "LineBattle") (X2 := va_up (batX g B) 0 (.inr (7, [.ref (B + 1), .ref (B + 16), .ref (B + 31), .ref (B + 46), .null, .null, .int 0, .int 0, .int 0, .int 0]))) (nA := 0) (ct_X0 l) (i0 := 168) rfl rfl (va_up_self _ _ _) (gW_I 156 (by decide +kernel) rfl) (gW_I 6 (by decide +kernel) rfl) (List.mem_of_getElem? (i := 154) (by decide +kernel)) (gW_I 155 (by decide +kernel) rfl) rfl (by decide +kernel) dX4_init_53 ⟨by decide, by decide, by omega⟩ rfl rfl (Nat.le_of_ble_eq_true rfl) (fun j hj => up_o (by omega)) (fun j hj => by
    rw [up_o (by omega)]
    unfold batX
    rw [if_neg (by omega), if_neg (by omega), if_neg (by omega), if_neg (by omega), if_neg (by omega), if_pos (by omega), show 168 + j - 168 = j by omega]) ?_
  refine n_putF hX hi0 (j := 0) (q := 4) (ty0 := tyX4) (C := RX4) (T := TX4) (NN := 10) (by omega) rfl rfl rfl win_X4 tyX4_ok nmX4 (by decide) rfl rfl rfl (gW_I 195 (by decide +kernel) rfl) (ty := (.object "LineBattle$CommandText")) (by decide +kernel) rfl rfl (Nat.le_of_ble_eq_true rfl) dX4_init_56 ?_
  refine n_eq (X' := va_up (batX g B) 0 (.inr (7, [.ref (B + 1), .ref (B + 16), .ref (B + 31), .ref (B + 46), .ref (B + 168), .null, .int 0, .int 0, .int 0, .int 0]))) (fun j hj => by
    by_cases h : j = 0
    · subst h; rfl
    · simp only [up_o h]) ?_
  refine n_aload_n hX dX4_init_59 0 rfl ?_
  refine n_bipush (v := 20) hX dX4_init_60 (by decide) ?_
  refine n_newa hX (t0 := 0) (M := 20) (a0 := (20, .inl (fun _ => 0))) (ty := .char) rfl (gW_I 190 (by decide +kernel) rfl) rfl (fun _ => rfl) (by decide) (by decide) (by decide) (by omega) (by decide) dX4_init_62 ?_
  refine n_putF hX hi0 (j := 0) (q := 5) (ty0 := tyX4) (C := RX4) (T := TX4) (NN := 10) (by omega) rfl rfl rfl win_X4 tyX4_ok nmX4 (by decide) rfl rfl rfl (gW_I 196 (by decide +kernel) rfl) (ty := (.array .char)) (by decide +kernel) rfl rfl (Nat.le_of_ble_eq_true rfl) dX4_init_64 ?_
  refine n_eq (X' := va_up (batX g B) 0 (.inr (7, [.ref (B + 1), .ref (B + 16), .ref (B + 31), .ref (B + 46), .ref (B + 168), .ref (B + 170), .int 0, .int 0, .int 0, .int 0]))) (fun j hj => by
    by_cases h : j = 0
    · subst h; rfl
    · rw [up_o h, up_o h]
      by_cases h2 : j = 170
      · subst h2; rfl
      · rw [up_o h2, up_o h]) ?_
  refine n_aload_n hX dX4_init_67 0 rfl ?_
  refine n_iconst (v := 0) hX dX4_init_68 (by decide) ?_
  refine n_put hX (j := 0) (q := 6) (ty0 := tyX4) (C := RX4) (T := TX4) (NN := 10) (by omega) rfl rfl rfl win_X4 tyX4_ok nmX4 (by decide) rfl rfl (gW_I 197 (by decide +kernel) rfl) (ty := .int) (by decide +kernel) rfl rfl (Nat.le_of_ble_eq_true rfl) dX4_init_69 ?_
  refine n_eq (X' := va_up (batX g B) 0 (.inr (7, [.ref (B + 1), .ref (B + 16), .ref (B + 31), .ref (B + 46), .ref (B + 168), .ref (B + 170), .int (0), .int 0, .int 0, .int 0]))) (fun j hj => by
    by_cases h : j = 0
    · subst h; rfl
    · simp only [up_o h]) ?_
  refine n_aload_n hX dX4_init_72 0 rfl ?_
  refine n_iconst (v := 0) hX dX4_init_73 (by decide) ?_
  refine n_put hX (j := 0) (q := 7) (ty0 := tyX4) (C := RX4) (T := TX4) (NN := 10) (by omega) rfl rfl rfl win_X4 tyX4_ok nmX4 (by decide) rfl rfl (gW_I 198 (by decide +kernel) rfl) (ty := .boolean) (by decide +kernel) rfl rfl (Nat.le_of_ble_eq_true rfl) dX4_init_74 ?_
  refine n_eq (X' := va_up (batX g B) 0 (.inr (7, [.ref (B + 1), .ref (B + 16), .ref (B + 31), .ref (B + 46), .ref (B + 168), .ref (B + 170), .int (0), .int (0), .int 0, .int 0]))) (fun j hj => by
    by_cases h : j = 0
    · subst h; rfl
    · simp only [up_o h]) ?_
  refine n_aload_n hX dX4_init_77 0 rfl ?_
  refine n_iconst (v := -1) hX dX4_init_78 (by decide) ?_
  refine n_put hX (j := 0) (q := 8) (ty0 := tyX4) (C := RX4) (T := TX4) (NN := 10) (by omega) rfl rfl rfl win_X4 tyX4_ok nmX4 (by decide) rfl rfl (gW_I 199 (by decide +kernel) rfl) (ty := .int) (by decide +kernel) rfl rfl (Nat.le_of_ble_eq_true rfl) dX4_init_79 ?_
  refine n_eq (X' := va_up (batX g B) 0 (.inr (7, [.ref (B + 1), .ref (B + 16), .ref (B + 31), .ref (B + 46), .ref (B + 168), .ref (B + 170), .int (0), .int (0), .int (-1), .int 0]))) (fun j hj => by
    by_cases h : j = 0
    · subst h; rfl
    · simp only [up_o h]) ?_
  refine n_aload_n hX dX4_init_82 0 rfl ?_
  refine n_iconst (v := -1) hX dX4_init_83 (by decide) ?_
  refine n_put hX (j := 0) (q := 9) (ty0 := tyX4) (C := RX4) (T := TX4) (NN := 10) (by omega) rfl rfl rfl win_X4 tyX4_ok nmX4 (by decide) rfl rfl (gW_I 200 (by decide +kernel) rfl) (ty := .int) (by decide +kernel) rfl rfl (Nat.le_of_ble_eq_true rfl) dX4_init_84 ?_
  refine n_eq (X' := va_up (batX g B) 0 (.inr (7, [.ref (B + 1), .ref (B + 16), .ref (B + 31), .ref (B + 46), .ref (B + 168), .ref (B + 170), .int (0), .int (0), .int (-1), .int (-1)]))) (fun j hj => by
    by_cases h : j = 0
    · subst h; rfl
    · simp only [up_o h]) ?_
  exact n_vret hX dX4_init_87 rfl (fun j hj => by
    by_cases h : j = 0
    · subst h; rfl
    · exact up_o h)
end ZCT
