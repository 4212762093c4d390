section ZFR
variable {p : Program} {l : Launch} {e : Env} {R : Room} {s : State} {m : MethodId} {args : Array Value} {below : List Frame} {meth : Method} {c : Code} {Q : State → Prop} {g : zG} {own : String} {cc : ByteArray} {n lvl mc : Nat} {ret : Option FieldType} {κ κ' : zKp} {μ μ' : zMu} {ω ω' : zOm} {k pc : Nat} {lv lv' : List (Nat × Value)} {st : List Value} {oc : Except String (Option Value)}
/-- the class's own cells -/
def zB0 (g : zG) (κ : zKp) (μ : zMu) : va_W := zIdx.map (fun q => (gA g q.1 q.2.1 q.2.2, zE g κ μ [] q.1 q.2.1 q.2.2))
theorem zWs_eq : zWs g κ μ ω = zB0 g κ μ ++ ω := by
  unfold zWs zB0
  exact congrArg (fun f : Nat × Nat × Nat → Nat × va_E => zIdx.map f ++ ω) (funext fun q => by rw [zE_om (μ' := μ) (μ := μ) (ω := []) (ω' := ω)])
theorem app_at {α : Type} {A B : List α} {j : Nat} {x : α} (h : B[j]? = some x) : (A ++ B)[A.length + j]? = some x := by
  rw [List.getElem?_append_right (Nat.le_add_right _ _), Nat.add_sub_cancel_left]
  exact h
theorem app_set {α : Type} {A B : List α} {j : Nat} {x : α} : (A ++ B).set (A.length + j) x = A ++ B.set j x := by
  rw [List.set_append_right _ _ (Nat.le_add_right _ _), Nat.add_sub_cancel_left]
theorem zq_at {j : Nat} {x : Nat × va_E} (h : ω[j]? = some x) : (zWs g κ μ ω)[(zB0 g κ μ).length + j]? = some x := by
  rw [zWs_eq]
  exact app_at h
theorem zq_set {j : Nat} {x : Nat × va_E} : (zWs g κ μ ω).set ((zB0 g κ μ).length + j) x = zWs g κ μ (ω.set j x) := by
  rw [zWs_eq, zWs_eq]
  exact app_set
theorem P_mem {D : va_G} {cl : List vw_C} {ws : va_W} {H : Heap} : va_P D cl ws H ↔ ∀ q, q ∈ ws → va_at D cl q H :=
  ⟨fun h q hq => by
    obtain ⟨k, hk⟩ := List.getElem?_of_mem hq
    exact h k q hk, fun h k q hk => h q (List.mem_of_getElem? hk)⟩
theorem D_pw {A : Nat → Prop} {ws : va_W} : va_D A ws ↔ ws.Pairwise (fun a b => ¬ a.1 = b.1) ∧ ∀ q, q ∈ ws → A q.1 := by
  constructor
  · intro h
    refine ⟨List.pairwise_iff_getElem.mpr (fun i j hi hj hij q => ?_), fun q hq => ?_⟩
    · have h1 := h.1 i j _ _ (List.getElem?_eq_getElem hi) (List.getElem?_eq_getElem hj) q
      omega
    · obtain ⟨k, hk⟩ := List.getElem?_of_mem hq
      exact h.2 k q hk
  · intro h
    refine ⟨fun i j u v hi hj q => ?_, fun k q hk => h.2 q (List.mem_of_getElem? hk)⟩
    have h1 := List.pairwise_iff_getElem.mp h.1
    obtain ⟨hi1, rfl⟩ := List.getElem?_eq_some_iff.mp hi
    obtain ⟨hj1, rfl⟩ := List.getElem?_eq_some_iff.mp hj
    rcases Nat.lt_trichotomy i j with w | w | w
    · exact absurd q (h1 i j hi1 hj1 w)
    · exact w
    · exact absurd q.symm (h1 j i hj1 hi1 w)
theorem PD_perm {D : va_G} {cl : List vw_C} {A : Nat → Prop} {ws ws' : va_W} {H : Heap} (hp : ws.Perm ws') (h : va_P D cl ws H ∧ va_D A ws) : va_P D cl ws' H ∧ va_D A ws' := by
  refine ⟨P_mem.mpr (fun q hq => P_mem.mp h.1 q (hp.mem_iff.mpr hq)), D_pw.mpr ⟨?_, fun q hq => (D_pw.mp h.2).2 q (hp.mem_iff.mpr hq)⟩⟩
  exact (List.Perm.pairwise_iff (R := fun a b : Nat × va_E => ¬ a.1 = b.1) (fun h q => h q.symm) hp).mp (D_pw.mp h.2).1
theorem PD_sub {D : va_G} {cl : List vw_C} {A : Nat → Prop} {ws ws' : va_W} {H : Heap} (hp : ws'.Sublist ws) (h : va_P D cl ws H ∧ va_D A ws) : va_P D cl ws' H ∧ va_D A ws' :=
  ⟨P_mem.mpr (fun q hq => P_mem.mp h.1 q (hp.subset hq)), D_pw.mpr ⟨(D_pw.mp h.2).1.sublist hp, fun q hq => (D_pw.mp h.2).2 q (hp.subset hq)⟩⟩
theorem WW_perm {H : Heap} (hp : ω.Perm ω') (h : WW g κ μ ω H) : WW g κ μ ω' H := by
  unfold WW at h ⊢
  rw [zWs_eq] at h ⊢
  exact PD_perm (List.Perm.append_left _ hp) h
theorem WW_sub {H : Heap} (hp : ω'.Sublist ω) (h : WW g κ μ ω H) : WW g κ μ ω' H := by
  unfold WW at h ⊢
  rw [zWs_eq] at h ⊢
  exact PD_sub (List.Sublist.append (List.Sublist.refl _) hp) h
theorem WW_push {H : Heap} {z : Nat × va_E} (h1 : va_P (gD g) vwCl (zWs g κ μ ω ++ [z]) H) (h2 : va_D (zA g) (zWs g κ μ ω ++ [z])) : WW g κ μ (z :: ω) H := by
  rw [zWs_eq, List.append_assoc] at h1 h2
  unfold WW
  rw [zWs_eq]
  exact PD_perm (List.Perm.append_left _ (List.perm_append_singleton z ω)) ⟨h1, h2⟩
theorem zE_mu {t f i : Nat} : zE g κ μ' ω' t f i = zE g κ μ ω t f i := zE_om
theorem zq_get (hX : zX p l s m args meth c R g own cc n ret lvl mc) {j a ci N index q : Nat} {C ref : String} {T : u_T} {fs : List Value} {v : Value} (hj : ω[j]? = some (a, .inr (ci, fs))) (hc : vwCl[ci]? = some (C, T, N)) (hin : ∀ w ∈ u_ws C T N, w ∈ gW) (hq : q < N) (hT : (T q).1 = ref) (hlink : Cond.fieldLink own index ref (T q).2.1 (T q).2.2.1 ∈ gW) (hv : fs[q]? = some v) (d : decode cc pc = .ok (.getfield index, 3)) (kk : zZ p l e R s m args below meth c g n Q κ μ ω k (pc + 3) lv (v :: st)) : zZ p l e R s m args below meth c g n Q κ μ ω k pc lv (.ref a :: st) := fun H ls locs hl hS hW =>
  va_get (ref := ref) hX.1 hX.2.1 hX.2.2.2.2.1 hin hX.2.2.2.1 hX.2.2.2.2.2.1 hW.1 _ (zq_at hj) hc q hq (hX.2.2.2.2.1 _ hlink) (fun x h => by rw [hT] at h; exact h) hv d (kk H ls locs hl hS hW)
theorem zq_put (hX : zX p l s m args meth c R g own cc n ret lvl mc) {j a ci N index q : Nat} {C ref : String} {T : u_T} {ty0 : Nat → FieldType} {ty : FieldType} {fs : List Value} {v : Value} (hj : ω[j]? = some (a, .inr (ci, fs))) (hc : vwCl[ci]? = some (C, T, N)) (hin : ∀ w ∈ u_ws C T N, w ∈ gW) (hty : ∀ k, k < N → parseFieldDescriptor (T k).2.2.1 = some (ty0 k)) (hnm : ∀ a, a < N → ∀ b, b < N → a ≠ b → (T a).2.1 ≠ (T b).2.1) (hq : q < N) (hT : (T q).1 = ref) (hfin : (T q).2.2.2 = false) (hlink : Cond.fieldLink own index ref (T q).2.1 (T q).2.2.1 ∈ gW) (hd : parseFieldDescriptor (T q).2.2.1 = some ty) (hnv : narrow ty v = v) (hfv : fits ty v = true) (hlf : q < fs.length) (d : decode cc pc = .ok (.putfield index, 3)) (kk : zZ p l e R s m args below meth c g n Q κ μ (ω.set j (a, .inr (ci, fs.set q v))) k (pc + 3) lv (st)) : zZ p l e R s m args below meth c g n Q κ μ ω k pc lv (v :: .ref a :: st) := fun H ls locs hl hS hW => by
  refine va_put (ref := ref) (H0 := s.heap) hX.1 hX.2.1 hX.2.2.2.2.1 hin ty0 hty hnm hX.2.2.2.1 hX.2.2.2.2.2.1 hW.1 hW.2 hS _ (zq_at hj) hc q hq (hX.2.2.2.2.1 _ hlink) (fun x h => by rw [hT] at h; exact h) hfin hd hnv hfv hlf d (fun H1 locs1 hP hD hS1 => ?_)
  rw [zq_set] at hP hD
  exact kk H1 ls locs1 hl hS1 ⟨hP, hD⟩
theorem zq_putF (hX : zX p l s m args meth c R g own cc n ret lvl mc) (hi0 : meth.name = "<init>") {j a ci N index q : Nat} {C ref : String} {T : u_T} {ty0 : Nat → FieldType} {ty : FieldType} {fs : List Value} {v : Value} (hj : ω[j]? = some (a, .inr (ci, fs))) (hc : vwCl[ci]? = some (C, T, N)) (hin : ∀ w ∈ u_ws C T N, w ∈ gW) (hty : ∀ k, k < N → parseFieldDescriptor (T k).2.2.1 = some (ty0 k)) (hnm : ∀ a, a < N → ∀ b, b < N → a ≠ b → (T a).2.1 ≠ (T b).2.1) (hq : q < N) (hT : (T q).1 = ref) (hfin : (T q).2.2.2 = true) (hdecl : (T q).1 = own) (hlink : Cond.fieldLink own index ref (T q).2.1 (T q).2.2.1 ∈ gW) (hd : parseFieldDescriptor (T q).2.2.1 = some ty) (hnv : narrow ty v = v) (hfv : fits ty v = true) (hlf : q < fs.length) (d : decode cc pc = .ok (.putfield index, 3)) (kk : zZ p l e R s m args below meth c g n Q κ μ (ω.set j (a, .inr (ci, fs.set q v))) k (pc + 3) lv (st)) : zZ p l e R s m args below meth c g n Q κ μ ω k pc lv (v :: .ref a :: st) := fun H ls locs hl hS hW => by
  refine va_putF (ref := ref) (H0 := s.heap) hX.1 hX.2.1 hX.2.2.2.2.1 hin ty0 hty hnm hX.2.2.2.1 hX.2.2.2.2.2.1 hW.1 hW.2 hS _ (zq_at hj) hc q hq (hX.2.2.2.2.1 _ hlink) (fun x h => by rw [hT] at h; exact h) hfin hi0 hdecl hd hnv hfv hlf d (fun H1 locs1 hP hD hS1 => ?_)
  rw [zq_set] at hP hD
  exact kk H1 ls locs1 hl hS1 ⟨hP, hD⟩
theorem zq_alen (hX : zX p l s m args meth c R g own cc n ret lvl mc) {j a t0 : Nat} {cA : ClassId} {x : vp_A} {ty : FieldType} {v : Int32} (hj : ω[j]? = some (a, .inl (cA, x))) (ht : (gT g)[t0]? = some (cA, ty)) (hv : Int32.ofNat x.1 = v) (d : decode cc pc = .ok (.arraylength, 1)) (kk : zZ p l e R s m args below meth c g n Q κ μ ω k (pc + 1) lv (.int v :: st)) : zZ p l e R s m args below meth c g n Q κ μ ω k pc lv (.ref a :: st) := fun H ls locs hl hS hW => va_alen hX.1 hX.2.1 hX.2.2.2.2.2.1 hW.1 _ t0 (zq_at hj) ht hv d (kk H ls locs hl hS hW)
theorem zq_iald (hX : zX p l s m args meth c R g own cc n ret lvl mc) {j a N q : Nat} {fn : Nat → Int32} {x : Int32} (hj : ω[j]? = some (a, .inl (gQ g 1, N, .inl fn))) (hx : x = nI q) (hq : q < N) (hN : N < 100000) (d : decode cc pc = .ok (.iaload, 1)) (kk : zZ p l e R s m args below meth c g n Q κ μ ω k (pc + 1) lv (.int (fn q) :: st)) : zZ p l e R s m args below meth c g n Q κ μ ω k pc lv (.int x :: .ref a :: st) := fun H ls locs hl hS hW => by
  subst hx
  refine va_iald hX.1 hX.2.1 hX.2.2.2.2.2.1 hW.1 _ 1 (zq_at hj) rfl (vp_in_nI hq (by omega)) d ?_
  rw [nI_clamp (by omega)]
  exact kk H ls locs hl hS hW
theorem zq_bald (hX : zX p l s m args meth c R g own cc n ret lvl mc) {j a N q : Nat} {fn : Nat → Int32} {x : Int32} (hj : ω[j]? = some (a, .inl (gQ g 5, N, .inl fn))) (hx : x = nI q) (hq : q < N) (hN : N < 100000) (d : decode cc pc = .ok (.baload, 1)) (kk : zZ p l e R s m args below meth c g n Q κ μ ω k (pc + 1) lv (.int (fn q) :: st)) : zZ p l e R s m args below meth c g n Q κ μ ω k pc lv (.int x :: .ref a :: st) := fun H ls locs hl hS hW => by
  subst hx
  refine va_bald hX.1 hX.2.1 hX.2.2.2.2.2.1 hW.1 _ 5 (zq_at hj) rfl (vp_in_nI hq (by omega)) d ?_
  rw [nI_clamp (by omega)]
  exact kk H ls locs hl hS hW
theorem zq_lald (hX : zX p l s m args meth c R g own cc n ret lvl mc) {j a N q : Nat} {fn : Nat → Int64} {x : Int32} (hj : ω[j]? = some (a, .inl (gQ g 4, N, .inr (.inl fn)))) (hx : x = nI q) (hq : q < N) (hN : N < 100000) (d : decode cc pc = .ok (.laload, 1)) (kk : zZ p l e R s m args below meth c g n Q κ μ ω k (pc + 1) lv (.long (fn q) :: st)) : zZ p l e R s m args below meth c g n Q κ μ ω k pc lv (.int x :: .ref a :: st) := fun H ls locs hl hS hW => by
  subst hx
  refine va_lald hX.1 hX.2.1 hX.2.2.2.2.2.1 hW.1 _ 4 (zq_at hj) rfl (vp_in_nI hq (by omega)) d ?_
  rw [nI_clamp (by omega)]
  exact kk H ls locs hl hS hW
theorem zq_iast (hX : zX p l s m args meth c R g own cc n ret lvl mc) {j a N q : Nat} {fn : Nat → Int32} {x : Int32} {y : Int32} (hj : ω[j]? = some (a, .inl (gQ g 1, N, .inl fn))) (hx : x = nI q) (hq : q < N) (hN : N < 100000) (d : decode cc pc = .ok (.iastore, 1)) (kk : zZ p l e R s m args below meth c g n Q κ μ (ω.set j (a, .inl (gQ g 1, N, .inl (upd fn q y)))) k (pc + 1) lv (st)) : zZ p l e R s m args below meth c g n Q κ μ ω k pc lv (.int y :: .int x :: .ref a :: st) := fun H ls locs hl hS hW => by
  subst hx
  refine va_iast (H0 := s.heap) hX.1 hX.2.1 hX.2.2.2.2.2.1 hW.1 hW.2 hS _ 1 (zq_at hj) rfl (vp_in_nI hq (by omega)) d (fun H1 locs1 hP hD hS1 => ?_)
  rw [nI_clamp (by omega)] at hP hD
  rw [zq_set] at hP hD
  exact kk H1 ls locs1 hl hS1 ⟨hP, hD⟩
theorem zq_bast (hX : zX p l s m args meth c R g own cc n ret lvl mc) {j a N q : Nat} {fn : Nat → Int32} {x : Int32} {y : Int32} (hj : ω[j]? = some (a, .inl (gQ g 5, N, .inl fn))) (hx : x = nI q) (hq : q < N) (hN : N < 100000) (d : decode cc pc = .ok (.bastore, 1)) (kk : zZ p l e R s m args below meth c g n Q κ μ (ω.set j (a, .inl (gQ g 5, N, .inl (upd fn q (vp_nar .byte y))))) k (pc + 1) lv (st)) : zZ p l e R s m args below meth c g n Q κ μ ω k pc lv (.int y :: .int x :: .ref a :: st) := fun H ls locs hl hS hW => by
  subst hx
  refine va_bast (H0 := s.heap) hX.1 hX.2.1 hX.2.2.2.2.2.1 hW.1 hW.2 hS _ 5 (zq_at hj) rfl (vp_in_nI hq (by omega)) d (fun H1 locs1 hP hD hS1 => ?_)
  rw [nI_clamp (by omega)] at hP hD
  rw [zq_set] at hP hD
  exact kk H1 ls locs1 hl hS1 ⟨hP, hD⟩
theorem zq_last (hX : zX p l s m args meth c R g own cc n ret lvl mc) {j a N q : Nat} {fn : Nat → Int64} {x : Int32} {y : Int64} (hj : ω[j]? = some (a, .inl (gQ g 4, N, .inr (.inl fn)))) (hx : x = nI q) (hq : q < N) (hN : N < 100000) (d : decode cc pc = .ok (.lastore, 1)) (kk : zZ p l e R s m args below meth c g n Q κ μ (ω.set j (a, .inl (gQ g 4, N, .inr (.inl (vp_updL fn q y))))) k (pc + 1) lv (st)) : zZ p l e R s m args below meth c g n Q κ μ ω k pc lv (.long y :: .int x :: .ref a :: st) := fun H ls locs hl hS hW => by
  subst hx
  refine va_last (H0 := s.heap) hX.1 hX.2.1 hX.2.2.2.2.2.1 hW.1 hW.2 hS _ 4 (zq_at hj) rfl (vp_in_nI hq (by omega)) d (fun H1 locs1 hP hD hS1 => ?_)
  rw [nI_clamp (by omega)] at hP hD
  rw [zq_set] at hP hD
  exact kk H1 ls locs1 hl hS1 ⟨hP, hD⟩
theorem zA_new (hX : zX p l s m args meth c R g own cc n ret lvl mc) : ∀ q, s.heap.size ≤ q → zA g q := fun q hq => by
  obtain ⟨-, -, -, -, -, -, -, hs, -⟩ := hX
  exact Nat.le_trans hs hq
theorem zq_newa (hX : zX p l s m args meth c R g own cc n ret lvl mc) {atype : ArrayType} {ty : FieldType} {t0 N r : Nat} {cA : ClassId} {v : Int32} {a0 : vp_A} (hty : newarray.typeOf atype = ty) (harr : Cond.arrayClass ty ∈ gW) (ht : (gT g)[t0]? = some (cA, ty)) (ha : ∀ cA : ClassId, vp_cell cA a0 = arrV cA N (fun _ => defaultValue ty)) (hv : v = nI N) (hN : N < 100000) (hb0 : N * componentBytes ty ≤ 536870912) (hr : 1 ≤ r ∧ N ≤ 6 * r) (hk : k + r ≤ mc) (d : decode cc pc = .ok (.newarray atype, 2)) (kk : ∀ a : Nat, zZ p l e R s m args below meth c g n Q κ μ ((a, .inl (cA, a0)) :: ω) (k + r) (pc + 2) lv (.ref a :: st)) : zZ p l e R s m args below meth c g n Q κ μ ω k pc lv (.int v :: st) := fun H ls locs hl hS hW => by
  obtain ⟨hx, hb, hml, hown, hts, hK, hB, hs, hR, -⟩ := id hX
  subst hv
  refine va_newa (H0 := s.heap) hx hb (by rw [hty]; exact hts _ harr) hty hK hW.1 hW.2 hS (zA_new hX) ha (nI_pos (by omega)) (nI_clamp (by omega)) hb0 (by omega) (by omega) d (fun q cB H1 hK1 hP1 hD1 hS1 => ?_)
  have hcB : cB = cA := by
    have h1 := (hK1.2 (gT g).length _ (by rw [List.getElem?_append_right (Nat.le_refl _), Nat.sub_self]; rfl)).2
    exact va_RA.one h1 (hK.2 t0 _ ht).2
  subst hcB
  refine W.widen (show k + 1 ≤ k + r by omega) (show 6 * k + N ≤ 6 * (k + r) by omega) ?_
  exact kk q H1 ls locs hl hS1 (WW_push hP1 hD1)
theorem zq_new (hX : zX p l s m args meth c R g own cc n ret lvl mc) {ci NN index : Nat} {C : String} {T : u_T} {ty0 : Nat → FieldType} {fs : List Value} (hin : ∀ w ∈ u_ws C T NN, w ∈ gW) (hty : ∀ k, k < NN → parseFieldDescriptor (T k).2.2.1 = some (ty0 k)) (hcl : Cond.classLink own index C ∈ gW) (hinst : Cond.instantiable C NN ∈ gW) (hini : Cond.initialized C ∈ gW) (hc : vwCl[ci]? = some (C, T, NN)) (hfs : ∀ j, j < NN → defaultValue (ty0 j) = vp_V fs j) (hk : k + 1 ≤ mc) (hNN : NN ≤ 6) (d : decode cc pc = .ok (.new index, 3)) (kk : ∀ a : Nat, zZ p l e R s m args below meth c g n Q κ μ ((a, .inr (ci, fs)) :: ω) (k + 1) (pc + 3) lv (.ref a :: st)) : zZ p l e R s m args below meth c g n Q κ μ ω k pc lv (st) := fun H ls locs hl hS hW => by
  obtain ⟨hx, hb, hml, hown, hts, hK, hB, hs, hR, -⟩ := id hX
  refine va_new (H0 := s.heap) hx hb hts hin ty0 hty hown (hts _ hcl) (hts _ hinst) (hts _ hini) hK hW.1 hW.2 hS (zA_new hX) hc hfs (by omega) (by omega) d (fun q H1 hP1 hD1 hS1 => ?_)
  refine W.widen (Nat.le_refl _) (show 6 * k + NN ≤ 6 * (k + 1) by omega) ?_
  exact kk q H1 ls locs hl hS1 (WW_push hP1 hD1)
/-- a method that returns, with further cells perhaps -/
def zPE (g : zG) (κ : zKp) (μ : zMu) (P0 : zOm → Option Value → Prop) : Array Value → State → Outcome → State → Prop := fun _ st oc t => ∃ (ω' : zOm) (r : Option Value), P0 ω' r ∧ oc = .returned r ∧ WW g κ μ ω' t.heap ∧ va_F (zA g) st t
def zME (l : Launch) (g : zG) (y : MethodName) (cc : ByteArray) (n : Nat) (ret : Option FieldType) (lvl mc : Nat) (As : List Value) (κ : zKp) (μ : zMu) (ω : zOm) (κ' : zKp) (μ' : zMu) (P0 : zOm → Option Value → Prop) : Prop :=
  Met l y (.code y cc n ret :: gW) (zR lvl mc) (va_Pc As (zPre g κ μ ω)) (zPE g κ' μ' P0) mc (6 * mc) (zA g)
abbrev zQE (g : zG) (κ' : zKp) (μ' : zMu) (P0 : zOm → Option Value → Prop) (below : List Frame) (args : Array Value) (s : State) (mc : Nat) : State → Prop := MQ below (zPE g κ' μ' P0) args s mc (6 * mc) (zA g)
theorem zE_of {r : Option Value} {P0 : zOm → Option Value → Prop} (h : P0 ω' r) (kk : zZ p l e R s m args below meth c g n (zQ g κ' μ' ω' r below args s mc) κ μ ω k pc lv st) : zZ p l e R s m args below meth c g n (zQE g κ' μ' P0 below args s mc) κ μ ω k pc lv st := fun H ls locs hl hS hW => W_mono (fun t ht => by
  obtain ⟨o, h1, h2, ⟨h3, h4, h5⟩, h6⟩ := ht
  exact ⟨o, h1, h2, ⟨ω', r, h, h3, h4, h5⟩, h6⟩) (kk H ls locs hl hS hW)
theorem zME_of {y : MethodName} {As : List Value} {P0 : zOm → Option Value → Prop} (hy : plainName y.cls = true) (hlen : (lg_sl As).length ≤ n) (body : ∀ (p : Program) (e : Env) (R : Room) (s : State) (m : MethodId) (args : Array Value) (below : List Frame) (meth : Method) (c : Code), meth.name = y.name → zX p l s m args meth c R g y.cls cc n ret lvl mc → zZ p l e R s m args below meth c g n (zQE g κ' μ' P0 below args s mc) κ μ ω 0 0 (lv_args 0 As) []) : zME l g y cc n ret lvl mc As κ μ ω κ' μ' P0 := by
  refine Met.ofW (cc := cc) (maxL := n) (ret := ret) hy rfl ?_
  intro p e s m args below meth c s₁ B hml hv
  obtain ⟨rfl, hW, hK, hB, hs⟩ := hv
  have hts := atoms_spec (ws := .code y cc n ret :: gW) B.pre
  have hl := lv_entry As (n := n) hlen
  rw [lg_entry_eq]
  exact body p e (zR lvl mc) s m As.toArray below meth c (name_of_methodNamed B.named B.method).1 ⟨B.exec, B.bytes, hml, findClass_of_methodNamed B.named, fun w hw => hts w (List.mem_cons_of_mem _ hw), hK, hB, hs, ⟨Nat.le_refl _, Nat.le_refl _, Nat.le_refl _, Nat.le_refl _⟩, B.notSynchronized, B.returns⟩ s.heap _ [] hl va_S.rf hW
theorem zM.toE {y : MethodName} {As : List Value} {cY : ByteArray} {nY lvlY mcY : Nat} {retY : Option FieldType} {r : Option Value} (h : zM l g y cY nY retY lvlY mcY As κ μ ω κ' μ' ω' r) : zME l g y cY nY retY lvlY mcY As κ μ ω κ' μ' (fun w q => w = ω' ∧ q = r) := by
  have e : zPE g κ' μ' (fun w q => w = ω' ∧ q = r) = zPost g κ' μ' ω' r := by
    funext a st oc t
    refine propext ⟨fun ⟨w, q, ⟨h1, h2⟩, h3⟩ => ?_, fun h => ⟨ω', r, ⟨rfl, rfl⟩, h⟩⟩
    subst h1 h2
    exact h3
  unfold zME
  rw [e]
  exact h
theorem zE_back {P0 : zOm → Option Value → Prop} {mcY : Nat} {rest st0 : List Value} {a : Array Value} {H : Heap} {ls : Array Slot} {locs : List Loc} (hl : lv_has ls n lv) (hS : va_S (zA g) s.heap H locs)
    (hr : va_Run p l e R s m args below meth c H locs k (6 * k) mcY (6 * mcY) (F0 m pc ls st0) rest (zPE g κ' μ' P0 a) (zA g)) (kk : ∀ (ω' : zOm) (r : Option Value), P0 ω' r → zZ p l e R s m args below meth c g n Q κ' μ' ω' (k + mcY) (pc + 3) lv (r.toList ++ rest)) : W p l e R s m args below meth c H locs k (6 * k) Q (F0 m pc ls st0) := by
  intro T hT X
  obtain ⟨v, st₀, t, T', L, h0, X', hL, e1, e2, ⟨w, r, hp, hv, hw, hF⟩, stp⟩ := hr T hT X
  cases hv
  have hS' : va_S (zA g) s.heap T'.heap (locs ++ L) := by
    refine ⟨Nat.le_trans hS.1 (by rw [e1, ← h0]; exact hF.1), fun q h1 h2 => ?_, fun q hq => ?_⟩
    · rw [e1, hF.2 q (by rw [h0]; exact Nat.lt_of_lt_of_le h1 hS.1) h2, h0]
      exact hS.2.1 q h1 h2
    · rcases List.mem_append.mp hq with h | h
      · exact hS.2.2 q h
      · exact hL q h
  rw [← Nat.mul_add] at X'
  obtain ⟨t2, a1, b1⟩ := kk w v hp T'.heap ls (locs ++ L) hl hS' (by rw [e1]; exact hw) T' rfl X'
  exact ⟨t2, stp t2 a1, b1⟩
/-- the receiver at b is of class C -/
def zRv (s : State) (g : zG) (κ : zKp) (μ : zMu) (ω : zOm) (C : String) (b : Nat) : Prop := ∀ (H : Heap) (locs : List Loc), va_S (zA g) s.heap H locs → WW g κ μ ω H → ∃ cell : Cell, H[b]? = some cell ∧ cell.vm.isStatics = false ∧ s.vm.findClass C = some cell.cls
theorem zRv_at (hX : zX p l s m args meth c R g own cc n ret lvl mc) {j a ci N : Nat} {C : String} {T : u_T} {fs : List Value} (hj : ω[j]? = some (a, .inr (ci, fs))) (hc : vwCl[ci]? = some (C, T, N)) : zRv s g κ μ ω C a := fun H locs hS hW => va_recv hX.2.2.2.2.2.1 hW.1 hc (zq_at hj)
theorem zRv_of (hX : zX p l s m args meth c R g own cc n ret lvl mc) {C : String} {b : Nat} (h : zRc g C b) : zRv s g κ μ ω C b := fun H locs hS hW => h κ μ ω s H hX.2.2.2.2.2.1 hW
/-- a call place for a receiver of class C -/
def zCU (own : String) (idx : Nat) (C : String) (y : MethodName) (cY : ByteArray) (nY : Nat) (retY : Option FieldType) (nA : Nat) : Prop := GoodIn gW (wsV own idx C y (.code y cY nY retY :: gW)) ∧ Cond.initialized y.cls ∈ gW ∧ y.cls ≠ "java/lang/invoke/MethodHandle" ∧ y.cls ≠ "java/lang/invoke/VarHandle" ∧ (parseMethodDescriptor y.desc).map (fun d => d.parameters.length) = some nA
theorem zCU_of {own C : String} {idx nA : Nat} {y : MethodName} {cY : ByteArray} {nY : Nat} {retY : Option FieldType} (h1 : Cond.methodLink own idx y ∈ gW) (h2 : Cond.instanceMethod y ∈ gW) (h3 : Cond.selects C y y ∈ gW) (h4 : Cond.initialized C ∈ gW) (h5 : Cond.code y cY nY retY ∈ gW) (h6 : Cond.initialized y.cls ∈ gW) (h7 : y.cls ≠ "java/lang/invoke/MethodHandle" ∧ y.cls ≠ "java/lang/invoke/VarHandle" ∧ (parseMethodDescriptor y.desc).map (fun d => d.parameters.length) = some nA) : zCU own idx C y cY nY retY nA := ⟨gW_V h1 h2 h3 h4 h5, h6, h7⟩
theorem zCU.of {idx nA : Nat} {y : MethodName} {cY : ByteArray} {nY : Nat} {retY : Option FieldType} (h : zCV own idx y cY nY retY nA) : zCU own idx y.cls y cY nY retY nA := ⟨h.1, (h.1 (.initialized y.cls) (by simp [wsV])).1, h.2⟩
theorem zCU.callW {R0 : Room} {s0 : State} {args0 : Array Value} {C : String} {idx nA nY lvlY mcY : Nat} {y : MethodName} {cY : ByteArray} {retY : Option FieldType} (h : zCU own idx C y cY nY retY nA) (hts : ∀ w ∈ gW, w.before args0 s0 = true) (hR : lvlY + 1 ≤ R0.frames ∧ 8 + (nY + 11) + 100 * lvlY ≤ R0.locals) : CallW R0 s0 args0 own C idx y cY nY retY (.code y cY nY retY :: gW) (zR lvlY mcY) mcY (6 * mcY) nA := by
  obtain ⟨hG, hini, h1, h2, h3⟩ := h
  have ok : ∀ w ∈ wsV own idx C y (.code y cY nY retY :: gW), w.before args0 s0 = true := fun w hw => hts w (hG w hw).1
  have hGc : GoodIn gW (.code y cY nY retY :: gW) := fun w hw => hG w (List.mem_append_right _ hw)
  exact ⟨callB_of nA hts hGc rfl rfl rfl (hts _ hini) (ok _ (by simp [wsV])) ⟨h1, h2, h3⟩ hR, ok _ (by simp [wsV]), ok _ (by simp [wsV])⟩
theorem zE_callV (hX : zX p l s m args meth c R g own cc n ret lvl mc) {idx nY lvlY mcY nA : Nat} {y : MethodName} {cY : ByteArray} {retY : Option FieldType} {As rest : List Value} {P0 : zOm → Option Value → Prop} {b : Nat} {C : String} (hM : zME l g y cY nY retY lvlY mcY (.ref b :: As) κ μ ω κ' μ' P0) (hC : zCU own idx C y cY nY retY nA) (hrc : zRv s g κ μ ω C b) (d : decode cc pc = .ok (.invokevirtual idx, 3)) (hlv : lvlY < lvl ∧ nY ≤ 81 ∧ k + mcY ≤ mc) (hA : As.length = nA) (hst : st = As.reverse ++ .ref b :: rest) (hcat : (rest.map fun v => v.category).sum ≤ 8) (kk : ∀ (ω' : zOm) (r : Option Value), P0 ω' r → zZ p l e R s m args below meth c g n Q κ' μ' ω' (k + mcY) (pc + 3) lv (r.toList ++ rest)) : zZ p l e R s m args below meth c g n Q κ μ ω k pc lv st := fun H ls locs hl hS hW => by
  obtain ⟨hx, hb, hml, hown, hts, hK, hB, hs, hR, -⟩ := id hX
  subst hst
  exact zE_back hl hS (va_runV (nL := n) ⟨hx, hb, hml, hown, hts⟩ hM (hC.callW hts ⟨Nat.le_trans hlv.1 hR.1, Nat.le_trans (zroom hlv.1 hlv.2.1) hR.2.1⟩) ⟨zPre_blind, hrc H locs hS hW, fun U hU hw => ⟨rfl, hX.pre hS hW hU hw⟩⟩ rfl hA hl.1 rfl (lv_room hcat) d ⟨Nat.le_trans hlv.2.2 hR.2.2.1, by rw [← Nat.mul_add]; exact Nat.le_trans (Nat.mul_le_mul_left 6 hlv.2.2) hR.2.2.2⟩) kk
theorem zE_callS (hX : zX p l s m args meth c R g own cc n ret lvl mc) {idx nY lvlY mcY nA : Nat} {y : MethodName} {cY : ByteArray} {retY : Option FieldType} {As rest : List Value} {P0 : zOm → Option Value → Prop} (hM : zME l g y cY nY retY lvlY mcY As κ μ ω κ' μ' P0) (hC : zCS own idx y cY nY retY nA) (d : decode cc pc = .ok (.invokestatic idx, 3)) (hlv : lvlY < lvl ∧ nY ≤ 81 ∧ k + mcY ≤ mc) (hA : As.length = nA) (hst : st = As.reverse ++ rest) (hcat : (rest.map fun v => v.category).sum ≤ 8) (kk : ∀ (ω' : zOm) (r : Option Value), P0 ω' r → zZ p l e R s m args below meth c g n Q κ' μ' ω' (k + mcY) (pc + 3) lv (r.toList ++ rest)) : zZ p l e R s m args below meth c g n Q κ μ ω k pc lv st := fun H ls locs hl hS hW => by
  obtain ⟨hx, hb, hml, hown, hts, hK, hB, hs, hR, -⟩ := id hX
  obtain ⟨hG, h1, h2, h3⟩ := hC
  subst hst
  exact zE_back hl hS (va_runS (nL := n) ⟨hx, hb, hml, hown, hts⟩ hM (va_cwS nA hts hG rfl rfl rfl ⟨h1, h2, h3⟩ ⟨Nat.le_trans hlv.1 hR.1, Nat.le_trans (zroom hlv.1 hlv.2.1) hR.2.1⟩) ⟨zPre_blind, fun U hU hw => ⟨rfl, hX.pre hS hW hU hw⟩⟩ rfl hA hl.1 rfl (lv_room hcat) d ⟨Nat.le_trans hlv.2.2 hR.2.2.1, by rw [← Nat.mul_add]; exact Nat.le_trans (Nat.mul_le_mul_left 6 hlv.2.2) hR.2.2.2⟩) kk
/-- the super's method -/
theorem zE_callU (hX : zX p l s m args meth c R g own cc n ret lvl mc) {idx nY lvlY mcY nA : Nat} {y : MethodName} {cY : ByteArray} {retY : Option FieldType} {As rest : List Value} {P0 : zOm → Option Value → Prop} {b ci N : Nat} {C : String} {T : u_T} (hc : vwCl[ci]? = some (C, T, N)) (hM : zME l g y cY nY retY lvlY mcY (.ref b :: As) κ μ ω κ' μ' P0) (hC : GoodIn gW (va_wsSU own idx y (.code y cY nY retY :: gW)) ∧ y.name ≠ "<init>" ∧ (parseMethodDescriptor y.desc).map (fun d => d.parameters.length) = some nA) (hrc : zRv s g κ μ ω C b) (d : decode cc pc = .ok (.invokespecial idx, 3)) (hlv : lvlY < lvl ∧ nY ≤ 81 ∧ k + mcY ≤ mc) (hA : As.length = nA) (hst : st = As.reverse ++ .ref b :: rest) (hcat : (rest.map fun v => v.category).sum ≤ 8) (kk : ∀ (ω' : zOm) (r : Option Value), P0 ω' r → zZ p l e R s m args below meth c g n Q κ' μ' ω' (k + mcY) (pc + 3) lv (r.toList ++ rest)) : zZ p l e R s m args below meth c g n Q κ μ ω k pc lv st := fun H ls locs hl hS hW => by
  obtain ⟨hx, hb, hml, hown, hts, hK, hB, hs, hR, -⟩ := id hX
  subst hst
  exact zE_back hl hS (va_runSU (nL := n) (hK.1 ci _ hc).2 ⟨hx, hb, hml, hown, hts⟩ hM (va_cwSU nA hts hC.1 rfl rfl rfl hC.2 ⟨Nat.le_trans hlv.1 hR.1, Nat.le_trans (zroom hlv.1 hlv.2.1) hR.2.1⟩) ⟨zPre_blind, hrc H locs hS hW, fun U hU hw => ⟨rfl, hX.pre hS hW hU hw⟩⟩ rfl hA hl.1 rfl (lv_room hcat) d ⟨Nat.le_trans hlv.2.2 hR.2.2.1, by rw [← Nat.mul_add]; exact Nat.le_trans (Nat.mul_le_mul_left 6 hlv.2.2) hR.2.2.2⟩) kk
/-- another method than the one that is named -/
theorem zE_callO (hX : zX p l s m args meth c R g own cc n ret lvl mc) {idx nY lvlY mcY nA : Nat} {y : MethodName} {cY : ByteArray} {retY : Option FieldType} {As rest : List Value} {P0 : zOm → Option Value → Prop} {b : Nat} {x : MethodName} {C owner : String} {b0 : ByteArray} {m0 : Nat} {r0 : Option FieldType} (hM : zME l g y cY nY retY lvlY mcY (.ref b :: As) κ μ ω κ' μ' P0) (hC : GoodIn gW (va_wsO own idx C owner x y (.code y cY nY retY :: gW)) ∧ Cond.code ⟨owner, x.name, x.desc⟩ b0 m0 r0 ∈ gW ∧ owner ≠ "java/lang/invoke/MethodHandle" ∧ owner ≠ "java/lang/invoke/VarHandle" ∧ (parseMethodDescriptor x.desc).map (fun d => d.parameters.length) = some nA) (hrc : zRv s g κ μ ω C b) (d : decode cc pc = .ok (.invokevirtual idx, 3)) (hlv : lvlY < lvl ∧ nY ≤ 81 ∧ k + mcY ≤ mc) (hA : As.length = nA) (hst : st = As.reverse ++ .ref b :: rest) (hcat : (rest.map fun v => v.category).sum ≤ 8) (kk : ∀ (ω' : zOm) (r : Option Value), P0 ω' r → zZ p l e R s m args below meth c g n Q κ' μ' ω' (k + mcY) (pc + 3) lv (r.toList ++ rest)) : zZ p l e R s m args below meth c g n Q κ μ ω k pc lv st := fun H ls locs hl hS hW => by
  obtain ⟨hx, hb, hml, hown, hts, hK, hB, hs, hR, -⟩ := id hX
  obtain ⟨hG, h0, hd⟩ := hC
  subst hst
  exact zE_back hl hS (va_runU (nL := n) ⟨hx, hb, hml, hown, hts⟩ hM (va_cwO nA hts hG rfl rfl rfl h0 hd ⟨Nat.le_trans hlv.1 hR.1, Nat.le_trans (zroom hlv.1 hlv.2.1) hR.2.1⟩) ⟨zPre_blind, hrc H locs hS hW, fun U hU hw => ⟨rfl, hX.pre hS hW hU hw⟩⟩ rfl hA hl.1 rfl (lv_room hcat) d ⟨Nat.le_trans hlv.2.2 hR.2.2.1, by rw [← Nat.mul_add]; exact Nat.le_trans (Nat.mul_le_mul_left 6 hlv.2.2) hR.2.2.2⟩) kk
/-- a constructor -/
theorem zE_callI (hX : zX p l s m args meth c R g own cc n ret lvl mc) {idx nY lvlY mcY nA b : Nat} {y : MethodName} {cY : ByteArray} {As rest : List Value} {P0 : zOm → Option Value → Prop} (hM : zME l g y cY nY none lvlY mcY (.ref b :: As) κ μ ω κ' μ' P0) (hG : Cond.code y cY nY none ∈ gW) (hini : Cond.initialized y.cls ∈ gW) (hlink : Cond.methodLink own idx y ∈ gW) (hinst : Cond.instanceMethod y ∈ gW) (hy1 : y.name = "<init>") (hd : y.cls ≠ "java/lang/invoke/MethodHandle" ∧ y.cls ≠ "java/lang/invoke/VarHandle" ∧ (parseMethodDescriptor y.desc).map (fun d => d.parameters.length) = some nA) (d : decode cc pc = .ok (.invokespecial idx, 3)) (hlv : lvlY < lvl ∧ nY ≤ 81 ∧ k + mcY ≤ mc) (hA : As.length = nA) (hst : st = As.reverse ++ .ref b :: rest) (hcat : (rest.map fun v => v.category).sum ≤ 8) (kk : ∀ (ω' : zOm) (r : Option Value), P0 ω' r → zZ p l e R s m args below meth c g n Q κ' μ' ω' (k + mcY) (pc + 3) lv (r.toList ++ rest)) : zZ p l e R s m args below meth c g n Q κ μ ω k pc lv st := fun H ls locs hl hS hW => by
  obtain ⟨hx, hb, hml, hown, hts, hK, hB, hs, hR, -⟩ := id hX
  subst hst
  exact zE_back hl hS (va_runI (nL := n) ⟨hx, hb, hml, hown, hts⟩ hM (cwI nA hts (gW_C hG) rfl rfl rfl (hts _ hini) (hts _ hlink) (hts _ hinst) hy1 hd ⟨Nat.le_trans hlv.1 hR.1, Nat.le_trans (zroom hlv.1 hlv.2.1) hR.2.1⟩) ⟨zPre_blind, fun U hU hw => ⟨rfl, hX.pre hS hW hU hw⟩⟩ rfl hA hl.1 rfl (lv_room hcat) d ⟨Nat.le_trans hlv.2.2 hR.2.2.1, by rw [← Nat.mul_add]; exact Nat.le_trans (Nat.mul_le_mul_left 6 hlv.2.2) hR.2.2.2⟩) kk
theorem zE_obj (hX : zX p l s m args meth c R g own cc n ret lvl mc) {idx b : Nat} (hl0 : Cond.methodLink own idx Lib.objectInit ∈ gW) (d : decode cc pc = .ok (.invokespecial idx, 3)) (hlv : 1 ≤ lvl) (kk : zZ p l e R s m args below meth c g n Q κ μ ω k (pc + 3) lv []) : zZ p l e R s m args below meth c g n Q κ μ ω k pc lv [.ref b] := fun H ls locs hl hS hW => by
  obtain ⟨hx, hb, hml, hown, hts, hK, hB, hs, hR, -⟩ := id hX
  exact W.objInit hx hb hown (hts _ hl0) (hts _ (gW_I 38 (by decide +kernel) rfl)) (hts _ (gW_I 39 (by decide +kernel) rfl)) rfl (hl.1.trans hml.symm) rfl d (Nat.le_trans hlv hR.1) (Nat.le_trans (show 12 ≤ 100 * lvl by omega) hR.2.1) (kk H ls locs hl hS hW)
theorem z_ishl (hX : zX p l s m args meth c R g own cc n ret lvl mc) {x y : Int32} (d : decode cc pc = .ok (.ishl, 1)) (kk : zZ p l e R s m args below meth c g n Q κ μ ω k (pc + 1) lv (.int (x <<< (y &&& 31)) :: st)) : zZ p l e R s m args below meth c g n Q κ μ ω k pc lv (.int y :: .int x :: st) := fun H ls locs hl hS hW => lv_ishl hX.1 hX.2.1 d (kk H ls locs hl hS hW)
theorem z_iushr (hX : zX p l s m args meth c R g own cc n ret lvl mc) {x y v : Int32} (d : decode cc pc = .ok (.iushr, 1)) (hv : (x.toUInt32 >>> (y.toUInt32 &&& Int32.toUInt32 31)).toInt32 = v) (kk : zZ p l e R s m args below meth c g n Q κ μ ω k (pc + 1) lv (.int v :: st)) : zZ p l e R s m args below meth c g n Q κ μ ω k pc lv (.int y :: .int x :: st) := fun H ls locs hl hS hW => lv_iushr hX.1 hX.2.1 d hv (kk H ls locs hl hS hW)
theorem z_ladd (hX : zX p l s m args meth c R g own cc n ret lvl mc) {x y : Int64} (d : decode cc pc = .ok (.ladd, 1)) (kk : zZ p l e R s m args below meth c g n Q κ μ ω k (pc + 1) lv (.long (x + y) :: st)) : zZ p l e R s m args below meth c g n Q κ μ ω k pc lv (.long y :: .long x :: st) := fun H ls locs hl hS hW => lv_ladd hX.1 hX.2.1 d (kk H ls locs hl hS hW)
theorem z_lmul (hX : zX p l s m args meth c R g own cc n ret lvl mc) {x y : Int64} (d : decode cc pc = .ok (.lmul, 1)) (kk : zZ p l e R s m args below meth c g n Q κ μ ω k (pc + 1) lv (.long (x * y) :: st)) : zZ p l e R s m args below meth c g n Q κ μ ω k pc lv (.long y :: .long x :: st) := fun H ls locs hl hS hW => lv_lmul hX.1 hX.2.1 d (kk H ls locs hl hS hW)
theorem z_dup_x1 (hX : zX p l s m args meth c R g own cc n ret lvl mc) {va vb : Value} (d : decode cc pc = .ok (.dup_x1, 1)) (hva : va.category = 1) (hvb : vb.category = 1) (kk : zZ p l e R s m args below meth c g n Q κ μ ω k (pc + 1) lv (va :: vb :: va :: st)) : zZ p l e R s m args below meth c g n Q κ μ ω k pc lv (va :: vb :: st) := fun H ls locs hl hS hW => lv_dup_x1 hX.1 hX.2.1 d hva hvb (kk H ls locs hl hS hW)
theorem z_ldcI (hX : zX p l s m args meth c R g own cc n ret lvl mc) {index : Nat} {v : Int32} (hc : Cond.constant own index v ∈ gW) (d : decode cc pc = .ok (.ldc index, 2)) (kk : zZ p l e R s m args below meth c g n Q κ μ ω k (pc + 2) lv (.int v :: st)) : zZ p l e R s m args below meth c g n Q κ μ ω k pc lv (st) := fun H ls locs hl hS hW => lv_ldc hX.1 hX.2.1 hX.2.2.2.1 (hX.2.2.2.2.1 _ hc) d (kk H ls locs hl hS hW)
theorem z_ldc2 (hX : zX p l s m args meth c R g own cc n ret lvl mc) {index : Nat} {v : Int64} (hc : Cond.constantLong own index v ∈ gW) (d : decode cc pc = .ok (.ldc2_w index, 3)) (kk : zZ p l e R s m args below meth c g n Q κ μ ω k (pc + 3) lv (.long v :: st)) : zZ p l e R s m args below meth c g n Q κ μ ω k pc lv (st) := fun H ls locs hl hS hW => lv_ldc2 hX.1 hX.2.1 hX.2.2.2.1 (hX.2.2.2.2.1 _ hc) d (kk H ls locs hl hS hW)
theorem z_lload_n (hX : zX p l s m args meth c R g own cc n ret lvl mc) {q : Fin 4} {x : Int64} (d : decode cc pc = .ok (.lload_n q, 1)) (j : Nat) (hj : lv[j]? = some ((q : Nat), .long x)) (kk : zZ p l e R s m args below meth c g n Q κ μ ω k (pc + 1) lv (.long x :: st)) : zZ p l e R s m args below meth c g n Q κ μ ω k pc lv (st) := fun H ls locs hl hS hW => lv_lload_n hX.1 hX.2.1 d rfl (lv_at hl j hj) (kk H ls locs hl hS hW)
theorem z_lstore_n (hX : zX p l s m args meth c R g own cc n ret lvl mc) {q : Fin 4} {x : Int64} (d : decode cc pc = .ok (.lstore_n q, 1)) (hn : (q : Nat) + 1 < n) (hl' : ((q : Nat), Value.long x) :: lv.filter (fun z => !(z.1 == (q : Nat)) && (!(z.1 == (q : Nat) + 1) && !(z.1 + 1 == (q : Nat) && z.2.category == 2))) = lv') (kk : zZ p l e R s m args below meth c g n Q κ μ ω k (pc + 1) lv' (st)) : zZ p l e R s m args below meth c g n Q κ μ ω k pc lv (.long x :: st) := fun H ls locs hl hS hW => lv_lstore_n hX.1 hX.2.1 d rfl hl hn hl' (fun ls hl => kk H ls locs hl hS hW)
theorem z_lcmp (hX : zX p l s m args meth c R g own cc n ret lvl mc) {x y : Int64} (d : decode cc pc = .ok (.lcmp, 1)) (kk : zZ p l e R s m args below meth c g n Q κ μ ω k (pc + 1) lv (.int (lg_cmp x y) :: st)) : zZ p l e R s m args below meth c g n Q κ μ ω k pc lv (.long y :: .long x :: st) := fun H ls locs hl hS hW => W.lcmp hX.1 hX.2.1 d (kk H ls locs hl hS hW)
theorem z_fcmp (hX : zX p l s m args meth c R g own cc n ret lvl mc) {x y : UInt32} {op : CmpOp} (d : decode cc pc = .ok (.fcmp op, 1)) (kk : zZ p l e R s m args below meth c g n Q κ μ ω k (pc + 1) lv (.int (Op.cmpValue (FP.fcmp x y) op) :: st)) : zZ p l e R s m args below meth c g n Q κ μ ω k pc lv (.float y :: .float x :: st) := fun H ls locs hl hS hW => lv_fcmp hX.1 hX.2.1 d (kk H ls locs hl hS hW)
theorem z_dcmp (hX : zX p l s m args meth c R g own cc n ret lvl mc) {x y : UInt64} {op : CmpOp} (d : decode cc pc = .ok (.dcmp op, 1)) (kk : zZ p l e R s m args below meth c g n Q κ μ ω k (pc + 1) lv (.int (Op.cmpValue (FP.dcmp x y) op) :: st)) : zZ p l e R s m args below meth c g n Q κ μ ω k pc lv (.double y :: .double x :: st) := fun H ls locs hl hS hW => lv_dcmp hX.1 hX.2.1 d (kk H ls locs hl hS hW)
theorem z_ldcW (hX : zX p l s m args meth c R g own cc n ret lvl mc) {i index : Nat} {tx : String} (hl0 : zLit[i]? = some (own, index, tx)) (d : decode cc pc = .ok (.ldc_w index, 3)) (kk : zZ p l e R s m args below meth c g n Q κ μ ω k (pc + 3) lv (.ref (gAK g i) :: st)) : zZ p l e R s m args below meth c g n Q κ μ ω k pc lv (st) := fun H ls locs hl hS hW => by
  obtain ⟨hx, hb, hml, hown, hts, hK, hB, hs, hR, -⟩ := id hX
  have hZ := hB.2.1 i _ hl0
  intro T hT X
  obtain ⟨t, a1, b1⟩ := kk H ls locs hl hS hW T hT X
  exact ⟨t, X.ldcStringW hx hown (text := tx) (a := gAK g i) hZ.1 hZ.2 (g := F0 m pc ls st) rfl (by rw [hb]; exact d) t a1, b1⟩
theorem z_aretA {r : Option Value} {v : Value} {ty : FieldType} (hX : zX p l s m args meth c R g own cc n (some (.array ty)) lvl mc) (d : decode cc pc = .ok (.areturn, 1)) (hk : k ≤ mc) (hv : v = .null ∨ ∃ a, v = .ref a) (hr : r = some v) (hw : ∀ H, WW g κ μ ω H → WW g κ' μ' ω' H) : zZ p l e R s m args below meth c g n (zQ g κ' μ' ω' r below args s mc) κ μ ω k pc lv [v] := fun H ls locs hl hS hW => by
  subst hr
  obtain ⟨hx, hb, hml, hown, hts, hK, hB, hs, hR, hlk, hrt⟩ := hX
  exact W.widen hk (Nat.mul_le_mul_left 6 hk) (W.aret hx hb hrt (Or.inr ⟨_, rfl⟩) hv (fun t ht hw2 => ⟨rfl, by rw [ht]; exact hw H hW, hS.F ht⟩) hS.2.2 d hlk)
theorem z_lret {r : Option Value} {v : Int64} (hX : zX p l s m args meth c R g own cc n (some .long) lvl mc) (d : decode cc pc = .ok (.lreturn, 1)) (hk : k ≤ mc) (hr : r = some (.long v)) (hw : ∀ H, WW g κ μ ω H → WW g κ' μ' ω' H) : zZ p l e R s m args below meth c g n (zQ g κ' μ' ω' r below args s mc) κ μ ω k pc lv [.long v] := fun H ls locs hl hS hW => by
  subst hr
  obtain ⟨hx, hb, hml, hown, hts, hK, hB, hs, hR, hlk, hrt⟩ := hX
  exact W.widen hk (Nat.mul_le_mul_left 6 hk) (W.lret hx hb hrt (fun t ht hw2 => ⟨rfl, by rw [ht]; exact hw H hW, hS.F ht⟩) hS.2.2 d hlk)
end ZFR
