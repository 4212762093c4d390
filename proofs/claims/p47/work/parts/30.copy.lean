section ZCO
variable {p : Program} {l : Launch} {e : Env} {R : Room} {s : State} {m : MethodId} {args : Array Value} {below : List Frame} {meth : Method} {c : Code} {Q : State → Prop} {g : zG} {own : String} {cc : ByteArray} {n lvl mc : Nat} {ret : Option FieldType} {κ κ' : zKp} {μ μ' : zMu} {ω ω' : zOm} {k pc : Nat} {lv lv' : List (Nat × Value)} {st : List Value} {oc : Except String (Option Value)}
theorem arr_ext {cA : ClassId} {N : Nat} {f f' : Nat → Int32} (h : ∀ j, j < N → f' j = f j) : vp_cell cA (N, .inl f') = vp_cell cA (N, .inl f) := by
  have e : (fun (j : Fin N) => Value.int (f' j.val)) = fun j => .int (f j.val) := funext fun j => by rw [h _ j.isLt]
  exact congrArg (fun z => ({ cls := cA, slots := Array.ofFn (n := N) z, vm := .none } : Cell)) e
/-- the world doesn't see what lies beyond an array's end -/
theorem WW_ext {H : Heap} (h : ∀ t f i, zV t f i → zE g κ' μ' ω t f i = zE g κ μ ω t f i ∨ ∃ (cA : ClassId) (N : Nat) (x x' : Nat → Int32), zE g κ μ ω t f i = .inl (cA, N, .inl x) ∧ zE g κ' μ' ω t f i = .inl (cA, N, .inl x') ∧ ∀ j, j < N → x' j = x j) (hW : WW g κ μ ω H) : WW g κ' μ' ω H := by
  have key : ∀ (k : Nat) (q : Nat × va_E), (zWs g κ' μ' ω)[k]? = some q → ∃ q0, (zWs g κ μ ω)[k]? = some q0 ∧ q0.1 = q.1 ∧ (q = q0 ∨ ∃ z : Nat × Nat × Nat, zV z.1 z.2.1 z.2.2 ∧ q = (gA g z.1 z.2.1 z.2.2, zE g κ' μ' ω z.1 z.2.1 z.2.2) ∧ q0 = (gA g z.1 z.2.1 z.2.2, zE g κ μ ω z.1 z.2.1 z.2.2)) := by
    intro k q hk
    by_cases hl : k < zIdx.length
    · rw [zWs, List.getElem?_append_left (by rw [List.length_map]; exact hl), List.getElem?_map] at hk
      cases hz : zIdx[k]? with
      | none => rw [hz] at hk; cases hk
      | some z =>
        rw [hz] at hk
        refine ⟨(gA g z.1 z.2.1 z.2.2, zE g κ μ ω z.1 z.2.1 z.2.2), by rw [zWs, List.getElem?_append_left (by rw [List.length_map]; exact hl), List.getElem?_map, hz]; rfl, ?_, Or.inr ⟨z, List.mem_of_getElem? hz, (Option.some.inj hk).symm, rfl⟩⟩
        rw [← Option.some.inj hk]
    · refine ⟨q, ?_, rfl, Or.inl rfl⟩
      rw [zWs, List.getElem?_append_right (by rw [List.length_map]; omega), List.length_map] at hk ⊢
      exact hk
  refine ⟨fun k q hk => ?_, fun i j u v hi hj e => ?_, fun k q hk => ?_⟩
  · obtain ⟨q0, h0, -, rfl | ⟨z, hz, rfl, rfl⟩⟩ := key k q hk
    · exact hW.1 k _ h0
    have h1 := hW.1 k _ h0
    rcases h z.1 z.2.1 z.2.2 hz with w | ⟨cA, N, x, x', e1, e2, e3⟩
    · rw [w]; exact h1
    · rw [e2]
      rw [e1] at h1
      have h2 : H[gA g z.1 z.2.1 z.2.2]? = some (vp_cell cA (N, .inl x)) := h1
      show H[gA g z.1 z.2.1 z.2.2]? = some (vp_cell cA (N, .inl x'))
      rw [arr_ext e3]; exact h2
  · obtain ⟨u0, h0, a0, -⟩ := key i u hi
    obtain ⟨v0, h2, a2, -⟩ := key j v hj
    exact hW.2.1 i j _ _ h0 h2 (a0.trans (e.trans a2.symm))
  · obtain ⟨q0, h0, a0, -⟩ := key k q hk
    rw [← a0]
    exact hW.2.2 k q0 h0
end ZCO
