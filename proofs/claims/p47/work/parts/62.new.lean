section ZNW
/-- cells that come one behind another from the address B -/
def nW (B N : Nat) (X : Nat → va_E) : va_W := (List.range N).map (fun j => (B + j, X j))
theorem nW_len {B N : Nat} {X : Nat → va_E} : (nW B N X).length = N := by rw [nW, List.length_map, List.length_range]
theorem nW_get {B N j : Nat} {X : Nat → va_E} (h : j < N) : (nW B N X)[j]? = some (B + j, X j) := by
  rw [nW, List.getElem?_map, List.getElem?_range h]
  rfl
theorem nW_inv {B N k : Nat} {X : Nat → va_E} {q : Nat × va_E} (h : (nW B N X)[k]? = some q) : k < N ∧ q = (B + k, X k) := by
  have hk : k < N := by
    have h1 := (List.getElem?_eq_some_iff.mp h).1
    rw [nW_len] at h1
    exact h1
  rw [nW_get hk] at h
  exact ⟨hk, (Option.some.inj h).symm⟩
theorem nW_D {B N : Nat} {X : Nat → va_E} : va_D (fun q => B ≤ q) (nW B N X) := by
  refine ⟨fun i j p q hi hj e => ?_, fun k q hk => ?_⟩
  · obtain ⟨-, rfl⟩ := nW_inv hi
    obtain ⟨-, rfl⟩ := nW_inv hj
    have e : B + i = B + j := e
    omega
  · obtain ⟨-, rfl⟩ := nW_inv hk
    exact Nat.le_add_right _ _
theorem nW_eq {B N : Nat} {X X' : Nat → va_E} (h : ∀ j, j < N → X j = X' j) : nW B N X = nW B N X' := by
  apply List.map_congr_left
  intro j hj
  rw [h j (List.mem_range.mp hj)]
theorem nW_set {B N j : Nat} {X : Nat → va_E} {e : va_E} (h : j < N) : (nW B N X).set j (B + j, e) = nW B N (va_up X j e) := by
  apply List.ext_getElem?
  intro k
  by_cases hk : k < N
  · rw [nW_get hk]
    by_cases hj : j = k
    · subst hj
      rw [List.getElem?_set_self (by rw [nW_len]; exact h), va_up_self]
    · rw [List.getElem?_set_ne hj, nW_get hk, va_up_ne _ _ (Ne.symm hj)]
  · rw [List.getElem?_eq_none (by rw [List.length_set, nW_len]; omega), List.getElem?_eq_none (by rw [nW_len]; omega)]
theorem nW_push {B N : Nat} {X : Nat → va_E} {e : va_E} : nW B N X ++ [(B + N, e)] = nW B (N + 1) (va_up X N e) := by
  apply List.ext_getElem?
  intro k
  by_cases hk : k < N
  · rw [List.getElem?_append_left (by rw [nW_len]; exact hk), nW_get hk, nW_get (by omega), va_up_ne _ _ (by omega)]
  · rw [List.getElem?_append_right (by rw [nW_len]; omega), nW_len]
    by_cases h2 : k = N
    · subst h2
      rw [Nat.sub_self, nW_get (by omega), va_up_self]
      rfl
    · rw [List.getElem?_eq_none (by rw [List.length_singleton]; omega), List.getElem?_eq_none (by rw [nW_len]; omega)]
theorem va_S.self {A : Nat → Prop} {H0 H : Heap} {locs : List Loc} (h : va_S A H0 H locs) : va_S A H H locs := ⟨Nat.le_refl _, fun _ _ _ => rfl, h.2.2⟩
theorem va_S.then {A : Nat → Prop} {H0 H H1 : Heap} {locs locs1 : List Loc} (h : va_S A H0 H locs) (h1 : va_S A H H1 locs1) : va_S A H0 H1 locs1 := ⟨Nat.le_trans h.1 h1.1, fun q a b => (h1.2.1 q (Nat.lt_of_lt_of_le a h.1) b).trans (h.2.1 q a b), h1.2.2⟩
theorem va_RA.one {U : State} {c1 c2 : ClassId} {ty : FieldType} (h1 : va_RA U c1 ty) (h2 : va_RA U c2 ty) : c1 = c2 := by
  cases ty with
  | object C =>
    obtain ⟨_, _, _, _, _, h3⟩ := h1
    obtain ⟨_, _, _, _, _, h4⟩ := h2
    exact Option.some.inj (h3.symm.trans h4)
  | _ => exact Option.some.inj (Eq.trans (Eq.symm h1) h2)
variable {p : Program} {l : Launch} {e : Env} {R : Room} {s : State} {m : MethodId} {args : Array Value} {below : List Frame} {meth : Method} {c : Code} {Q : State → Prop} {g : zG} {own : String} {cc : ByteArray} {n lvl mc : Nat} {ret : Option FieldType} {B N0 k : Nat} {X X' : Nat → va_E} {pc : Nat} {lv lv' : List (Nat × Value)} {st : List Value}
theorem W.sized {g : JFrame} {H : Heap} {locs : List Loc} {cells slots : Nat} (kk : H.size ≤ s.heap.size + cells → W p l e R s m args below meth c H locs cells slots Q g) : W p l e R s m args below meth c H locs cells slots Q g := fun T hT X => kk (by rw [← hT]; exact X.heapSize) T hT X
/-- the facts of a method that makes cells: N0 cells from B on stand there when it begins -/
def nX (p : Program) (s : State) (m : MethodId) (args : Array Value) (meth : Method) (c : Code) (R : Room) (g : zG) (B N0 : Nat) (own : String) (cc : ByteArray) (n : Nat) (ret : Option FieldType) (lvl mc : Nat) : Prop :=
  p.tables.exec = Jvm.exec ∧ c.code = cc ∧ c.maxLocals = n ∧ s.vm.findClass own = some m.cls ∧ (∀ w ∈ gW, w.before args s = true) ∧ gK g s ∧ (va_AO RX3 s ∧ va_AO RX1 s ∧ gNw s) ∧ s.heap.size = B + N0 ∧ (lvl ≤ R.frames ∧ 100 * lvl ≤ R.locals ∧ mc ≤ R.cells ∧ 1000 * mc ≤ R.slots) ∧ meth.locks = false ∧ meth.sig.returnType = ret
/-- from here, with k new cells, the method comes to Q -/
def nZ (p : Program) (l : Launch) (e : Env) (R : Room) (s : State) (m : MethodId) (args : Array Value) (below : List Frame) (meth : Method) (c : Code) (g : zG) (B N0 n : Nat) (Q : State → Prop) (k : Nat) (X : Nat → va_E) (pc : Nat) (lv : List (Nat × Value)) (st : List Value) : Prop :=
  ∀ (H : Heap) (ls : Array Slot) (locs : List Loc), lv_has ls n lv → va_S (fun q => B ≤ q) s.heap H locs → H.size = B + (N0 + k) → va_P (gD g) vwCl (nW B (N0 + k) X) H → W p l e R s m args below meth c H locs k (1000 * k) Q (F0 m pc ls st)
theorem n_eq (h : ∀ j, j < N0 + k → X j = X' j) (kk : nZ p l e R s m args below meth c g B N0 n Q k X' pc lv st) : nZ p l e R s m args below meth c g B N0 n Q k X pc lv st := fun H ls locs hl hS hz hP => kk H ls locs hl hS hz (by rw [← nW_eq h]; exact hP)
theorem n_sub (ks : List Nat) (hl : lv_pick lv ks = lv') (kk : nZ p l e R s m args below meth c g B N0 n Q k X pc lv' st) : nZ p l e R s m args below meth c g B N0 n Q k X pc lv st := fun H ls locs h1 h2 h3 h4 => kk H ls locs (lv_sub h1 ks hl) h2 h3 h4
theorem n_isv {x y : Int32} (h : x = y) (kk : nZ p l e R s m args below meth c g B N0 n Q k X pc lv (.int y :: st)) : nZ p l e R s m args below meth c g B N0 n Q k X pc lv (.int x :: st) := h ▸ kk
theorem n_iconst (hX : nX p s m args meth c R g B N0 own cc n ret lvl mc) {q : Int} {v : Int32} (d : decode cc pc = .ok (.iconst q, 1)) (hv : Int32.ofInt q = v) (kk : nZ p l e R s m args below meth c g B N0 n Q k X (pc + 1) lv (.int v :: st)) : nZ p l e R s m args below meth c g B N0 n Q k X pc lv st := fun H ls locs hl hS hz hP => lv_iconst hX.1 hX.2.1 d hv (kk H ls locs hl hS hz hP)
theorem n_bipush (hX : nX p s m args meth c R g B N0 own cc n ret lvl mc) {q : Int} {v : Int32} (d : decode cc pc = .ok (.bipush q, 2)) (hv : (Int8.ofInt q).toInt32 = v) (kk : nZ p l e R s m args below meth c g B N0 n Q k X (pc + 2) lv (.int v :: st)) : nZ p l e R s m args below meth c g B N0 n Q k X pc lv st := fun H ls locs hl hS hz hP => lv_bipush hX.1 hX.2.1 d hv (kk H ls locs hl hS hz hP)
theorem n_sipush (hX : nX p s m args meth c R g B N0 own cc n ret lvl mc) {q : Int} {v : Int32} (d : decode cc pc = .ok (.sipush q, 3)) (hv : (Int16.ofInt q).toInt32 = v) (kk : nZ p l e R s m args below meth c g B N0 n Q k X (pc + 3) lv (.int v :: st)) : nZ p l e R s m args below meth c g B N0 n Q k X pc lv st := fun H ls locs hl hS hz hP => lv_sipush hX.1 hX.2.1 d hv (kk H ls locs hl hS hz hP)
theorem n_aload_n (hX : nX p s m args meth c R g B N0 own cc n ret lvl mc) {q : Fin 4} {x : Nat} (d : decode cc pc = .ok (.aload_n q, 1)) (j : Nat) (hj : lv[j]? = some ((q : Nat), .ref x)) (kk : nZ p l e R s m args below meth c g B N0 n Q k X (pc + 1) lv (.ref x :: st)) : nZ p l e R s m args below meth c g B N0 n Q k X pc lv st := fun H ls locs hl hS hz hP => lv_aload_n hX.1 hX.2.1 d rfl (lv_at hl j hj) (kk H ls locs hl hS hz hP)
theorem n_iload_n (hX : nX p s m args meth c R g B N0 own cc n ret lvl mc) {q : Fin 4} {x : Int32} (d : decode cc pc = .ok (.iload_n q, 1)) (j : Nat) (hj : lv[j]? = some ((q : Nat), .int x)) (kk : nZ p l e R s m args below meth c g B N0 n Q k X (pc + 1) lv (.int x :: st)) : nZ p l e R s m args below meth c g B N0 n Q k X pc lv st := fun H ls locs hl hS hz hP => lv_iload_n hX.1 hX.2.1 d rfl (lv_at hl j hj) (kk H ls locs hl hS hz hP)
theorem n_istore_n (hX : nX p s m args meth c R g B N0 own cc n ret lvl mc) {q : Fin 4} {x : Int32} (d : decode cc pc = .ok (.istore_n q, 1)) (hn : (q : Nat) < n) (hl' : ((q : Nat), Value.int x) :: lv.filter (fun z => !(z.1 == (q : Nat)) && !(z.1 + 1 == (q : Nat) && z.2.category == 2)) = lv') (kk : nZ p l e R s m args below meth c g B N0 n Q k X (pc + 1) lv' st) : nZ p l e R s m args below meth c g B N0 n Q k X pc lv (.int x :: st) := fun H ls locs hl hS hz hP => lv_istore_n hX.1 hX.2.1 d rfl hl hn hl' (fun ls hl => kk H ls locs hl hS hz hP)
theorem n_astore_n (hX : nX p s m args meth c R g B N0 own cc n ret lvl mc) {q : Fin 4} {x : Nat} (d : decode cc pc = .ok (.astore_n q, 1)) (hn : (q : Nat) < n) (hl' : ((q : Nat), Value.ref x) :: lv.filter (fun z => !(z.1 == (q : Nat)) && !(z.1 + 1 == (q : Nat) && z.2.category == 2)) = lv') (kk : nZ p l e R s m args below meth c g B N0 n Q k X (pc + 1) lv' st) : nZ p l e R s m args below meth c g B N0 n Q k X pc lv (.ref x :: st) := fun H ls locs hl hS hz hP => lv_astore_n hX.1 hX.2.1 d rfl hl hn hl' (fun ls hl => kk H ls locs hl hS hz hP)
theorem n_iinc (hX : nX p s m args meth c R g B N0 own cc n ret lvl mc) {i : Nat} {q : Int} {x v : Int32} (d : decode cc pc = .ok (.iinc i q, 3)) (j : Nat) (hj : lv[j]? = some (i, .int x)) (hv : x + Int32.ofInt q = v) (hn : i < n) (hl' : (i, Value.int v) :: lv.filter (fun z => !(z.1 == i) && !(z.1 + 1 == i && z.2.category == 2)) = lv') (kk : nZ p l e R s m args below meth c g B N0 n Q k X (pc + 3) lv' st) : nZ p l e R s m args below meth c g B N0 n Q k X pc lv st := fun H ls locs hl hS hz hP => lv_iinc hX.1 hX.2.1 d hl hj hv hn hl' (fun ls hl => kk H ls locs hl hS hz hP)
theorem n_dup (hX : nX p s m args meth c R g B N0 own cc n ret lvl mc) {va : Value} (d : decode cc pc = .ok (.dup, 1)) (hva : va.category = 1) (kk : nZ p l e R s m args below meth c g B N0 n Q k X (pc + 1) lv (va :: va :: st)) : nZ p l e R s m args below meth c g B N0 n Q k X pc lv (va :: st) := fun H ls locs hl hS hz hP => lv_dup hX.1 hX.2.1 d hva (kk H ls locs hl hS hz hP)
theorem n_goto (hX : nX p s m args meth c R g B N0 own cc n ret lvl mc) {off : Int} {tgt : Nat} (d : decode cc pc = .ok (.goto off, 3)) (ht : (pc : Int) + off = (tgt : Int)) (kk : nZ p l e R s m args below meth c g B N0 n Q k X tgt lv st) : nZ p l e R s m args below meth c g B N0 n Q k X pc lv st := fun H ls locs hl hS hz hP => lv_goto hX.1 hX.2.1 d ht (kk H ls locs hl hS hz hP)
theorem n_icmp_ge (hX : nX p s m args meth c R g B N0 own cc n ret lvl mc) {x y : Int32} {off : Int} {tgt : Nat} (d : decode cc pc = .ok (.if_icmp .ge off, 3)) (ht : (pc : Int) + off = (tgt : Int)) (kt : y ≤ x → nZ p l e R s m args below meth c g B N0 n Q k X tgt lv st) (kf : ¬ y ≤ x → nZ p l e R s m args below meth c g B N0 n Q k X (pc + 3) lv st) : nZ p l e R s m args below meth c g B N0 n Q k X pc lv (.int y :: .int x :: st) := fun H ls locs hl hS hz hP => lv_icmp_ge hX.1 hX.2.1 d ht (fun h => kt h H ls locs hl hS hz hP) (fun h => kf h H ls locs hl hS hz hP)
theorem n_obj (hX : nX p s m args meth c R g B N0 own cc n ret lvl mc) {idx : Nat} {b : Nat} (hl0 : Cond.methodLink own idx Lib.objectInit ∈ gW) (d : decode cc pc = .ok (.invokespecial idx, 3)) (hlv : 1 ≤ lvl) (kk : nZ p l e R s m args below meth c g B N0 n Q k X (pc + 3) lv []) : nZ p l e R s m args below meth c g B N0 n Q k X pc lv [.ref b] := fun H ls locs hl hS hz hP => by
  obtain ⟨hx, hb, hml, hown, hts, hK, hAO, hB, hR, -⟩ := id hX
  exact W.objInit hx hb hown (hts _ hl0) (hts _ (gW_I 38 (by decide +kernel) rfl)) (hts _ (gW_I 39 (by decide +kernel) rfl)) rfl (hl.1.trans hml.symm) rfl d (Nat.le_trans hlv hR.1) (Nat.le_trans (show 12 ≤ 100 * lvl by omega) hR.2.1) (kk H ls locs hl hS hz hP)
theorem n_get (hX : nX p s m args meth c R g B N0 own cc n ret lvl mc) {j ci NN index q a : Nat} {C : String} {T : u_T} {fs : List Value} {v : Value} (hj : j < N0 + k) (ha : a = B + j) (he : X j = .inr (ci, fs)) (hc : vwCl[ci]? = some (C, T, NN)) (hin : ∀ w ∈ u_ws C T NN, w ∈ gW) (hq : q < NN) (hT : (T q).1 = C) (hlink : Cond.fieldLink own index C (T q).2.1 (T q).2.2.1 ∈ gW) (hv : fs[q]? = some v) (d : decode cc pc = .ok (.getfield index, 3)) (kk : nZ p l e R s m args below meth c g B N0 n Q k X (pc + 3) lv (v :: st)) : nZ p l e R s m args below meth c g B N0 n Q k X pc lv (.ref a :: st) := fun H ls locs hl hS hz hP => by
  subst ha
  have h2 := nW_get (B := B) (X := X) hj
  rw [he] at h2
  exact va_get (ref := C) hX.1 hX.2.1 hX.2.2.2.2.1 hin hX.2.2.2.1 hX.2.2.2.2.2.1 hP j h2 hc q hq (hX.2.2.2.2.1 _ hlink) (fun x h => by rw [hT] at h; exact h) hv d (kk H ls locs hl hS hz hP)
theorem n_put (hX : nX p s m args meth c R g B N0 own cc n ret lvl mc) {j ci NN index q a : Nat} {C : String} {T : u_T} {ty0 : Nat → FieldType} {ty : FieldType} {fs : List Value} {v : Value} (hj : j < N0 + k) (ha : a = B + j) (he : X j = .inr (ci, fs)) (hc : vwCl[ci]? = some (C, T, NN)) (hin : ∀ w ∈ u_ws C T NN, w ∈ gW) (hty : ∀ k, k < NN → parseFieldDescriptor (T k).2.2.1 = some (ty0 k)) (hnm : ∀ a, a < NN → ∀ b, b < NN → a ≠ b → (T a).2.1 ≠ (T b).2.1) (hq : q < NN) (hT : (T q).1 = C) (hfin : (T q).2.2.2 = false) (hlink : Cond.fieldLink own index C (T q).2.1 (T q).2.2.1 ∈ gW) (hd : parseFieldDescriptor (T q).2.2.1 = some ty) (hnv : narrow ty v = v) (hfv : fits ty v = true) (hlf : q < fs.length) (d : decode cc pc = .ok (.putfield index, 3)) (kk : nZ p l e R s m args below meth c g B N0 n Q k (va_up X j (.inr (ci, fs.set q v))) (pc + 3) lv st) : nZ p l e R s m args below meth c g B N0 n Q k X pc lv (v :: .ref a :: st) := fun H ls locs hl hS hz hP => by
  subst ha
  have h2 := nW_get (B := B) (X := X) hj
  rw [he] at h2
  refine va_put (ref := C) (H0 := H) hX.1 hX.2.1 hX.2.2.2.2.1 hin ty0 hty hnm hX.2.2.2.1 hX.2.2.2.2.2.1 hP nW_D hS.self j h2 hc q hq (hX.2.2.2.2.1 _ hlink) (fun x h => by rw [hT] at h; exact h) hfin hd hnv hfv hlf d (fun H1 locs1 hP1 hD1 hS1 => ?_)
  refine W.sized (fun hz1 => ?_)
  have hB := hX.2.2.2.2.2.2.2.1
  have h1 := hS1.1
  exact kk H1 ls locs1 hl (hS.then hS1) (by omega) (by rw [← nW_set hj]; exact hP1)
theorem n_putF (hX : nX p s m args meth c R g B N0 own cc n ret lvl mc) (hi0 : meth.name = "<init>") {j ci NN index q a : Nat} {C : String} {T : u_T} {ty0 : Nat → FieldType} {ty : FieldType} {fs : List Value} {v : Value} (hj : j < N0 + k) (ha : a = B + j) (he : X j = .inr (ci, fs)) (hc : vwCl[ci]? = some (C, T, NN)) (hin : ∀ w ∈ u_ws C T NN, w ∈ gW) (hty : ∀ k, k < NN → parseFieldDescriptor (T k).2.2.1 = some (ty0 k)) (hnm : ∀ a, a < NN → ∀ b, b < NN → a ≠ b → (T a).2.1 ≠ (T b).2.1) (hq : q < NN) (hT : (T q).1 = C) (hfin : (T q).2.2.2 = true) (hown0 : (T q).1 = own) (hlink : Cond.fieldLink own index C (T q).2.1 (T q).2.2.1 ∈ gW) (hd : parseFieldDescriptor (T q).2.2.1 = some ty) (hnv : narrow ty v = v) (hfv : fits ty v = true) (hlf : q < fs.length) (d : decode cc pc = .ok (.putfield index, 3)) (kk : nZ p l e R s m args below meth c g B N0 n Q k (va_up X j (.inr (ci, fs.set q v))) (pc + 3) lv st) : nZ p l e R s m args below meth c g B N0 n Q k X pc lv (v :: .ref a :: st) := fun H ls locs hl hS hz hP => by
  subst ha
  have h2 := nW_get (B := B) (X := X) hj
  rw [he] at h2
  refine va_putF (ref := C) (H0 := H) hX.1 hX.2.1 hX.2.2.2.2.1 hin ty0 hty hnm hX.2.2.2.1 hX.2.2.2.2.2.1 hP nW_D hS.self j h2 hc q hq (hX.2.2.2.2.1 _ hlink) (fun x h => by rw [hT] at h; exact h) hfin hi0 hown0 hd hnv hfv hlf d (fun H1 locs1 hP1 hD1 hS1 => ?_)
  refine W.sized (fun hz1 => ?_)
  have hB := hX.2.2.2.2.2.2.2.1
  have h1 := hS1.1
  exact kk H1 ls locs1 hl (hS.then hS1) (by omega) (by rw [← nW_set hj]; exact hP1)
theorem n_alen (hX : nX p s m args meth c R g B N0 own cc n ret lvl mc) {j t0 a : Nat} {cA : ClassId} {x : vp_A} {ty : FieldType} {v : Int32} (hj : j < N0 + k) (ha : a = B + j) (he : X j = .inl (cA, x)) (ht : (gT g)[t0]? = some (cA, ty)) (hv : Int32.ofNat x.1 = v) (d : decode cc pc = .ok (.arraylength, 1)) (kk : nZ p l e R s m args below meth c g B N0 n Q k X (pc + 1) lv (.int v :: st)) : nZ p l e R s m args below meth c g B N0 n Q k X pc lv (.ref a :: st) := fun H ls locs hl hS hz hP => by
  subst ha
  have h2 := nW_get (B := B) (X := X) hj
  rw [he] at h2
  exact va_alen hX.1 hX.2.1 hX.2.2.2.2.2.1 hP j t0 h2 ht hv d (kk H ls locs hl hS hz hP)
theorem n_iast (hX : nX p s m args meth c R g B N0 own cc n ret lvl mc) {j a M : Nat} {fn : Nat → Int32} {i x : Int32} (hj : j < N0 + k) (ha : a = B + j) (he : X j = .inl (gQ g 1, M, .inl fn)) (hin : vp_in i M) (d : decode cc pc = .ok (.iastore, 1)) (kk : nZ p l e R s m args below meth c g B N0 n Q k (va_up X j (.inl (gQ g 1, M, .inl (upd fn i.toNatClampNeg x)))) (pc + 1) lv st) : nZ p l e R s m args below meth c g B N0 n Q k X pc lv (.int x :: .int i :: .ref a :: st) := fun H ls locs hl hS hz hP => by
  subst ha
  have h2 := nW_get (B := B) (X := X) hj
  rw [he] at h2
  refine va_iast (H0 := H) hX.1 hX.2.1 hX.2.2.2.2.2.1 hP nW_D hS.self j 1 h2 rfl hin d (fun H1 locs1 hP1 hD1 hS1 => ?_)
  refine W.sized (fun hz1 => ?_)
  have hB := hX.2.2.2.2.2.2.2.1
  have h1 := hS1.1
  exact kk H1 ls locs1 hl (hS.then hS1) (by omega) (by rw [← nW_set hj]; exact hP1)
theorem n_aast (hX : nX p s m args meth c R g B N0 own cc n ret lvl mc) {j a j2 v M t0 ci : Nat} {cA : ClassId} {r : vw_C} {vs : List Value} {fn : Nat → Option Nat} {i : Int32} (hj : j < N0 + k) (ha : a = B + j) (he : X j = .inl (cA, M, .inr (.inr (.inr (.inr fn))))) (ht : (gT g)[t0]? = some (cA, .object r.1)) (hj2 : j2 < N0 + k) (hv : v = B + j2) (he2 : X j2 = .inr (ci, vs)) (hc : vwCl[ci]? = some r) (hin : vp_in i M) (d : decode cc pc = .ok (.aastore, 1)) (kk : nZ p l e R s m args below meth c g B N0 n Q k (va_up X j (.inl (cA, M, .inr (.inr (.inr (.inr (va_up fn i.toNatClampNeg (some v)))))))) (pc + 1) lv st) : nZ p l e R s m args below meth c g B N0 n Q k X pc lv (.ref v :: .int i :: .ref a :: st) := fun H ls locs hl hS hz hP => by
  subst ha hv
  have h2 := nW_get (B := B) (X := X) hj
  rw [he] at h2
  have h3 := nW_get (B := B) (X := X) hj2
  rw [he2] at h3
  refine va_astq (H0 := H) hX.1 hX.2.1 hX.2.2.2.2.2.1 hP nW_D hS.self j t0 j2 ci h2 ht h3 hc hin d (fun H1 locs1 hP1 hD1 hS1 => ?_)
  refine W.sized (fun hz1 => ?_)
  have hB := hX.2.2.2.2.2.2.2.1
  have h1 := hS1.1
  exact kk H1 ls locs1 hl (hS.then hS1) (by omega) (by rw [← nW_set hj]; exact hP1)
/-- a new cell comes behind the others -/
theorem nW_next {H1 : Heap} {q N S : Nat} {x : va_E} (hP1 : va_P (gD g) vwCl (nW B N X ++ [(q, x)]) H1) (hD1 : va_D (fun q => B ≤ q) (nW B N X ++ [(q, x)])) (hz : H1.size ≤ B + N + 1) : q = B + N ∧ H1.size = B + N + 1 := by
  have hg : (nW B N X ++ [(q, x)])[N]? = some (q, x) := by
    rw [List.getElem?_append_right (by rw [nW_len]; omega), nW_len, Nat.sub_self]
    rfl
  have h1 : q < H1.size := (hP1 N _ hg).lt
  have h2 : B ≤ q := hD1.2 N _ hg
  have h3 : ¬ q < B + N := fun h => by
    have hj : (nW B N X ++ [(q, x)])[q - B]? = some (B + (q - B), X (q - B)) := by
      rw [List.getElem?_append_left (by rw [nW_len]; omega)]
      exact nW_get (by omega)
    have h4 := hD1.1 _ _ _ _ hj hg (show B + (q - B) = q by omega)
    omega
  omega
theorem n_new (hX : nX p s m args meth c R g B N0 own cc n ret lvl mc) {ci NN index : Nat} {C : String} {T : u_T} {ty0 : Nat → FieldType} {fs : List Value} (hin : ∀ w ∈ u_ws C T NN, w ∈ gW) (hty : ∀ k, k < NN → parseFieldDescriptor (T k).2.2.1 = some (ty0 k)) (hcl : Cond.classLink own index C ∈ gW) (hinst : Cond.instantiable C NN ∈ gW) (hini : Cond.initialized C ∈ gW) (hc : vwCl[ci]? = some (C, T, NN)) (hfs : ∀ j, j < NN → defaultValue (ty0 j) = vp_V fs j) (hk : k + 1 ≤ mc) (hNN : NN ≤ 1000) (d : decode cc pc = .ok (.new index, 3)) (kk : nZ p l e R s m args below meth c g B N0 n Q (k + 1) (va_up X (N0 + k) (.inr (ci, fs))) (pc + 3) lv (.ref (B + (N0 + k)) :: st)) : nZ p l e R s m args below meth c g B N0 n Q k X pc lv st := fun H ls locs hl hS hz hP => by
  obtain ⟨hx, hb, hml, hown, hts, hK, hAO, hB, hR, -⟩ := id hX
  refine va_new (H0 := H) hx hb hts hin ty0 hty hown (hts _ hcl) (hts _ hinst) (hts _ hini) hK hP nW_D hS.self (fun q hq => by omega) hc hfs (by omega) (by omega) d (fun q H1 hP1 hD1 hS1 => ?_)
  refine W.sized (fun hz1 => ?_)
  obtain ⟨rfl, hz2⟩ := nW_next (S := 0) hP1 hD1 (by omega)
  refine W.widen (Nat.le_refl _) (show 1000 * k + NN ≤ 1000 * (k + 1) by omega) ?_
  exact kk H1 ls locs hl (hS.then hS1) (by omega) (by rw [← Nat.add_assoc, ← nW_push]; exact hP1)
theorem n_newa (hX : nX p s m args meth c R g B N0 own cc n ret lvl mc) {atype : ArrayType} {ty : FieldType} {t0 M : Nat} {cA : ClassId} {i : Int32} {a0 : vp_A} (hty : newarray.typeOf atype = ty) (harr : Cond.arrayClass ty ∈ gW) (ht : (gT g)[t0]? = some (cA, ty)) (ha : ∀ cA : ClassId, vp_cell cA a0 = arrV cA M (fun _ => defaultValue ty)) (hn : ¬ i < 0) (hN : i.toNatClampNeg = M) (hb0 : M * componentBytes ty ≤ 536870912) (hk : k + 1 ≤ mc) (hM : M ≤ 1000) (d : decode cc pc = .ok (.newarray atype, 2)) (kk : nZ p l e R s m args below meth c g B N0 n Q (k + 1) (va_up X (N0 + k) (.inl (cA, a0))) (pc + 2) lv (.ref (B + (N0 + k)) :: st)) : nZ p l e R s m args below meth c g B N0 n Q k X pc lv (.int i :: st) := fun H ls locs hl hS hz hP => by
  obtain ⟨hx, hb, hml, hown, hts, hK, hAO, hB, hR, -⟩ := id hX
  refine va_newa (H0 := H) hx hb (by rw [hty]; exact hts _ harr) hty hK hP nW_D hS.self (fun q hq => by omega) ha hn hN hb0 (by omega) (by omega) d (fun q cB H1 hK1 hP1 hD1 hS1 => ?_)
  have hcB : cB = cA := by
    have h1 := (hK1.2 (gT g).length _ (by rw [List.getElem?_append_right (Nat.le_refl _), Nat.sub_self]; rfl)).2
    exact va_RA.one h1 (hK.2 t0 _ ht).2
  subst hcB
  refine W.sized (fun hz1 => ?_)
  obtain ⟨rfl, hz2⟩ := nW_next (S := 0) hP1 hD1 (by omega)
  refine W.widen (Nat.le_refl _) (show 1000 * k + M ≤ 1000 * (k + 1) by omega) ?_
  exact kk H1 ls locs hl (hS.then hS1) (by omega) (by rw [← Nat.add_assoc, ← nW_push]; exact hP1)
theorem n_newq (hX : nX p s m args meth c R g B N0 own cc n ret lvl mc) {C : String} {index t0 M : Nat} {cA : ClassId} {i : Int32} (hcl : Cond.classLink own index C ∈ gW) (hover : va_AO C s) (ht : (gT g)[t0]? = some (cA, .object C)) (hn : ¬ i < 0) (hN : i.toNatClampNeg = M) (hk : k + 1 ≤ mc) (hM : M ≤ 1000) (d : decode cc pc = .ok (.anewarray index, 3)) (kk : nZ p l e R s m args below meth c g B N0 n Q (k + 1) (va_up X (N0 + k) (.inl (cA, M, .inr (.inr (.inr (.inr (fun _ => none))))))) (pc + 3) lv (.ref (B + (N0 + k)) :: st)) : nZ p l e R s m args below meth c g B N0 n Q k X pc lv (.int i :: st) := fun H ls locs hl hS hz hP => by
  obtain ⟨hx, hb, hml, hown, hts, hK, hAO, hB, hR, -⟩ := id hX
  refine va_newq (H0 := H) hx hb hown (hts _ hcl) hover hK hP nW_D hS.self (fun q hq => by omega) hn hN (by omega) (by omega) (by omega) d (fun q cB H1 hK1 hP1 hD1 hS1 => ?_)
  have hcB : cB = cA := by
    have h1 := (hK1.2 (gT g).length _ (by rw [List.getElem?_append_right (Nat.le_refl _), Nat.sub_self]; rfl)).2
    exact va_RA.one h1 (hK.2 t0 _ ht).2
  subst hcB
  refine W.sized (fun hz1 => ?_)
  obtain ⟨rfl, hz2⟩ := nW_next (S := 0) hP1 hD1 (by omega)
  refine W.widen (Nat.le_refl _) (show 1000 * k + M ≤ 1000 * (k + 1) by omega) ?_
  exact kk H1 ls locs hl (hS.then hS1) (by omega) (by rw [← Nat.add_assoc, ← nW_push]; exact hP1)
/-- a constructor's end -/
abbrev nP (g : zG) (B mc : Nat) (X1 : Nat → va_E) : Array Value → State → Outcome → State → Prop := fun _ st oc t => oc = .returned none ∧ t.heap.size = B + (1 + mc) ∧ va_P (gD g) vwCl (nW B (1 + mc) X1) t.heap ∧ va_F (fun q => B ≤ q) st t
/-- a constructor: the receiver stands at B; mc more cells come -/
def nM (l : Launch) (g : zG) (y : MethodName) (cc : ByteArray) (n lvl mc : Nat) (As : List Value) (B : Nat) (e0 : va_E) (X1 : Nat → va_E) : Prop :=
  Met l y (.code y cc n none :: gW) { frames := lvl, cells := mc, slots := 1000 * mc, locals := 100 * lvl } (va_Pc (.ref B :: As) (fun U => U.heap.size = B + 1 ∧ va_P (gD g) vwCl (nW B 1 (fun _ => e0)) U.heap ∧ gK g U ∧ va_AO RX3 U ∧ va_AO RX1 U ∧ gNw U)) (nP g B mc X1) mc (1000 * mc) (fun q => B ≤ q)
abbrev nQ (g : zG) (B mc : Nat) (X1 : Nat → va_E) (below : List Frame) (args : Array Value) (s : State) : State → Prop := MQ below (nP g B mc X1) args s mc (1000 * mc) (fun q => B ≤ q)
theorem nM_of {y : MethodName} {As : List Value} {e0 : va_E} {X1 : Nat → va_E} (hy : plainName y.cls = true) (hlen : (lg_sl (.ref B :: As)).length ≤ n) (body : ∀ (p : Program) (e : Env) (R : Room) (s : State) (m : MethodId) (args : Array Value) (below : List Frame) (meth : Method) (c : Code), meth.name = y.name → nX p s m args meth c R g B 1 y.cls cc n none lvl mc → nZ p l e R s m args below meth c g B 1 n (nQ g B mc X1 below args s) 0 (fun _ => e0) 0 (lv_args 0 (.ref B :: As)) []) : nM l g y cc n lvl mc As B e0 X1 := by
  refine Met.ofW (cc := cc) (maxL := n) (ret := none) hy rfl ?_
  intro p e s m args below meth c s₁ Bd hml hv
  obtain ⟨rfl, hz, hP, hK, hA1, hA2, hA3⟩ := hv
  have hts := atoms_spec (ws := .code y cc n none :: gW) Bd.pre
  have hl := lv_entry (.ref B :: As) (n := n) hlen
  rw [lg_entry_eq]
  exact body p e { frames := lvl, cells := mc, slots := 1000 * mc, locals := 100 * lvl } s m (.ref B :: As).toArray below meth c (name_of_methodNamed Bd.named Bd.method).1 ⟨Bd.exec, Bd.bytes, hml, findClass_of_methodNamed Bd.named, fun w hw => hts w (List.mem_cons_of_mem _ hw), hK, ⟨hA1, hA2, hA3⟩, hz, ⟨Nat.le_refl _, Nat.le_refl _, Nat.le_refl _, Nat.le_refl _⟩, Bd.notSynchronized, Bd.returns⟩ s.heap _ [] hl va_S.rf hz hP
theorem n_vret (hX : nX p s m args meth c R g B 1 own cc n none lvl mc) {X1 : Nat → va_E} (d : decode cc pc = .ok (.return_, 1)) (hk : k = mc) (hx : ∀ j, j < 1 + mc → X j = X1 j) : nZ p l e R s m args below meth c g B 1 n (nQ g B mc X1 below args s) k X pc lv [] := fun H ls locs hl hS hz hP => by
  subst hk
  obtain ⟨hx1, hb, hml, hown, hts, hK, hAO, hB, hR, hlk, hrt⟩ := hX
  exact W.vret hx1 hb hrt (fun t ht hw2 => ⟨rfl, by rw [ht]; exact hz, by rw [ht, ← nW_eq hx]; exact hP, hS.F ht⟩) hS.2.2 d hlk
theorem n_back (hX : nX p s m args meth c R g B N0 own cc n ret lvl mc) {mcY i0 : Nat} {rest st0 : List Value} {a : Array Value} {X1 : Nat → va_E} (hi0 : N0 + k = i0 + 1) {H : Heap} {ls : Array Slot} {locs : List Loc} (hl : lv_has ls n lv) (hS : va_S (fun q => B ≤ q) s.heap H locs) (hz : H.size = B + (N0 + k)) (hP : va_P (gD g) vwCl (nW B (N0 + k) X) H) (hr : va_Run p l e R s m args below meth c H locs k (1000 * k) mcY (1000 * mcY) (F0 m pc ls st0) rest (nP g (B + i0) mcY X1 a) (fun q => B + i0 ≤ q)) (kk : nZ p l e R s m args below meth c g B N0 n Q (k + mcY) (fun j => if j < i0 then X j else X1 (j - i0)) (pc + 3) lv rest) : W p l e R s m args below meth c H locs k (1000 * k) Q (F0 m pc ls st0) := by
  have hB := hX.2.2.2.2.2.2.2.1
  intro T hT X0
  obtain ⟨v, st₀, t, T', L, h0, X', hL, e1, e2, ⟨hv, hsz, hP1, hF⟩, stp⟩ := hr T hT X0
  cases hv
  have hSz : st₀.heap.size = B + (N0 + k) := by rw [h0]; exact hz
  have hS' : va_S (fun q => B ≤ q) s.heap T'.heap (locs ++ L) := by
    refine ⟨by rw [e1]; omega, fun q h1 h2 => ?_, fun q hq => ?_⟩
    · rw [e1, hF.2 q (by omega) (by omega), h0]
      exact hS.2.1 q h1 h2
    · rcases List.mem_append.mp hq with h | h
      · exact hS.2.2 q h
      · have := hL q h
        have h9 : B + i0 ≤ q.base := this
        show B ≤ q.base
        omega
  have hP' : va_P (gD g) vwCl (nW B (N0 + (k + mcY)) (fun j => if j < i0 then X j else X1 (j - i0))) T'.heap := fun q z hq => by
    obtain ⟨hqn, rfl⟩ := nW_inv hq
    rw [e1]
    by_cases hj : q < i0
    · rw [if_pos hj]
      refine (hP q _ (nW_get (by omega))).kept ?_
      rw [← h0]
      exact hF.2 (B + q) (by omega) (by omega)
    · rw [if_neg hj]
      have h5 := hP1 (q - i0) _ (nW_get (by omega))
      rw [show B + i0 + (q - i0) = B + q by omega] at h5
      exact h5
  rw [← Nat.mul_add] at X'
  obtain ⟨t2, a1, b1⟩ := kk T'.heap ls (locs ++ L) hl hS' (by rw [e1]; omega) hP' T' rfl X'
  exact ⟨t2, stp t2 a1, b1⟩
theorem n_call (hX : nX p s m args meth c R g B N0 own cc n ret lvl mc) {idx nY lvlY mcY nA i0 a : Nat} {y : MethodName} {cY : ByteArray} {As rest st0 : List Value} {e0 : va_E} {X1 : Nat → va_E} (hM : nM l g y cY nY lvlY mcY As (B + i0) e0 X1) (hi0 : N0 + k = i0 + 1) (ha : a = B + i0) (he : X i0 = e0) (hG : Cond.code y cY nY none ∈ gW) (hini : Cond.initialized y.cls ∈ gW) (hlink : Cond.methodLink own idx y ∈ gW) (hinst : Cond.instanceMethod y ∈ gW) (hy1 : y.name = "<init>") (hd : y.cls ≠ "java/lang/invoke/MethodHandle" ∧ y.cls ≠ "java/lang/invoke/VarHandle" ∧ (parseMethodDescriptor y.desc).map (fun d => d.parameters.length) = some nA) (d : decode cc pc = .ok (.invokespecial idx, 3)) (hlv : lvlY < lvl ∧ nY ≤ 81 ∧ k + mcY ≤ mc) (hA : As.length = nA) (hst : st0 = As.reverse ++ .ref a :: rest) (hcat : (rest.map fun v => v.category).sum ≤ 8) (kk : nZ p l e R s m args below meth c g B N0 n Q (k + mcY) (fun j => if j < i0 then X j else X1 (j - i0)) (pc + 3) lv rest) : nZ p l e R s m args below meth c g B N0 n Q k X pc lv st0 := fun H ls locs hl hS hz hP => by
  obtain ⟨hx, hb, hml, hown, hts, hK, hAO, hB, hR, -⟩ := id hX
  subst hst ha
  have h3 := hP i0 _ (nW_get (by omega))
  rw [he] at h3
  have hr := va_runI (nL := n) (m := m) (H := H) (cells := k) (slots := 1000 * k) (below := below) (meth := meth) (locs := locs) (p := p) (l := l) (e := e) ⟨hx, hb, hml, hown, hts⟩ hM (cwI nA hts (gW_C hG) rfl rfl rfl (hts _ hini) (hts _ hlink) (hts _ hinst) hy1 hd ⟨Nat.le_trans hlv.1 hR.1, Nat.le_trans (zroom hlv.1 hlv.2.1) hR.2.1⟩) ⟨fun A U fr mk h => ⟨h.1, h.2.1, h.2.2.1, gK.moved (u := U) (U := U.calling fr mk A) (Vm.Alike.refl U.vm) h.2.2.2.1, va_AO.moved (u := U) (U := U.calling fr mk A) (Vm.Alike.refl U.vm) h.2.2.2.2.1, va_AO.moved (u := U) (U := U.calling fr mk A) (Vm.Alike.refl U.vm) h.2.2.2.2.2.1, gNw.same (s := U) (U := U.calling fr mk A) rfl h.2.2.2.2.2.2⟩, fun U hU hw => ⟨rfl, by rw [hU]; omega, (by
    intro q z hq
    obtain ⟨hq1, rfl⟩ := nW_inv hq
    rw [hU]
    rw [show q = 0 by omega]
    exact h3), gK.moved hw.alike hK, va_AO.moved hw.alike hAO.1, va_AO.moved hw.alike hAO.2.1, gNw.warm hw hAO.2.2⟩⟩ (g := F0 m pc ls (As.reverse ++ .ref (B + i0) :: rest)) rfl hA hl.1 rfl (lv_room hcat) d ⟨by omega, by omega⟩
  exact n_back hX hi0 hl hS hz hP hr kk
theorem n_callN (hX : nX p s m args meth c R g B N0 own cc n ret lvl mc) {idx nY lvlY mcY nA i0 a : Nat} {y : MethodName} {host : String} {cY : ByteArray} {As rest st0 : List Value} {e0 : va_E} {X1 : Nat → va_E} (hM : nM l g y cY nY lvlY mcY As (B + i0) e0 X1) (hi0 : N0 + k = i0 + 1) (ha : a = B + i0) (he : X i0 = e0) (hG : Cond.code y cY nY none ∈ gW) (hini : Cond.initialized y.cls ∈ gW) (hlink : Cond.methodLinkNest own idx y host ∈ tables_1) (hinst : Cond.instanceMethod y ∈ gW) (hy1 : y.name = "<init>") (hd : y.cls ≠ "java/lang/invoke/MethodHandle" ∧ y.cls ≠ "java/lang/invoke/VarHandle" ∧ (parseMethodDescriptor y.desc).map (fun d => d.parameters.length) = some nA) (d : decode cc pc = .ok (.invokespecial idx, 3)) (hlv : lvlY < lvl ∧ nY ≤ 81 ∧ k + mcY ≤ mc) (hA : As.length = nA) (hst : st0 = As.reverse ++ .ref a :: rest) (hcat : (rest.map fun v => v.category).sum ≤ 8) (kk : nZ p l e R s m args below meth c g B N0 n Q (k + mcY) (fun j => if j < i0 then X j else X1 (j - i0)) (pc + 3) lv rest) : nZ p l e R s m args below meth c g B N0 n Q k X pc lv st0 := fun H ls locs hl hS hz hP => by
  obtain ⟨hx, hb, hml, hown, hts, hK, hAO, hB, hR, -⟩ := id hX
  subst hst ha
  have h3 := hP i0 _ (nW_get (by omega))
  rw [he] at h3
  have hr := va_runIN (host := host) (nL := n) (m := m) (H := H) (cells := k) (slots := 1000 * k) (below := below) (meth := meth) (locs := locs) (p := p) (l := l) (e := e) ⟨hx, hb, hml, hown, hts⟩ hM ⟨va_cnB nA hts (gW_C hG) rfl rfl rfl (hAO.2.2 _ hlink rfl) (hts _ hini) hd ⟨Nat.le_trans hlv.1 hR.1, Nat.le_trans (zroom hlv.1 hlv.2.1) hR.2.1⟩, hy1, hts _ hinst⟩ ⟨fun A U fr mk h => ⟨h.1, h.2.1, h.2.2.1, gK.moved (u := U) (U := U.calling fr mk A) (Vm.Alike.refl U.vm) h.2.2.2.1, va_AO.moved (u := U) (U := U.calling fr mk A) (Vm.Alike.refl U.vm) h.2.2.2.2.1, va_AO.moved (u := U) (U := U.calling fr mk A) (Vm.Alike.refl U.vm) h.2.2.2.2.2.1, gNw.same (s := U) (U := U.calling fr mk A) rfl h.2.2.2.2.2.2⟩, fun U hU hw => ⟨rfl, by rw [hU]; omega, (by
    intro q z hq
    obtain ⟨hq1, rfl⟩ := nW_inv hq
    rw [hU]
    rw [show q = 0 by omega]
    exact h3), gK.moved hw.alike hK, va_AO.moved hw.alike hAO.1, va_AO.moved hw.alike hAO.2.1, gNw.warm hw hAO.2.2⟩⟩ (g := F0 m pc ls (As.reverse ++ .ref (B + i0) :: rest)) rfl hA hl.1 rfl (lv_room hcat) d ⟨by omega, by omega⟩
  exact n_back hX hi0 hl hS hz hP hr kk
end ZNW
