section ZL2
theorem wl_RR4 {κ : zKp} {μ : zMu} (h : RR κ μ) {a : Nat} (ha : a < 3) : ∃ μ' : zMu, RR (wlK κ (μ 1) a) μ' ∧ μ' 1 = μ 1 ∧ μ' 0 4 = μ 0 4 := ⟨_, h.write (Nat.le_trans (ln_le 10) (by omega)) (fun q hq => by
  obtain ⟨b, hb, e⟩ := ln_ch h.bI ha 10 (by omega) q hq
  exact ⟨b, hb, e⟩), rfl, rfl⟩
theorem tx_RR4 {κ : zKp} {μ : zMu} (h : RR κ μ) : ∃ μ' : zMu, RR (txK κ (μ 1)) μ' ∧ μ' 1 = μ 1 ∧ μ' 0 4 = μ 0 4 := by
  obtain ⟨m1, h1, e1, f1⟩ := wl_RR4 h (a := 0) (by decide)
  obtain ⟨m2, h2, e2, f2⟩ := wl_RR4 h1 (a := 1) (by decide)
  rw [e1] at h2
  obtain ⟨m3, h3, e3, f3⟩ := wl_RR4 h2 (a := 2) (by decide)
  rw [e2, e1] at h3
  exact ⟨m3, h3, e3.trans (e2.trans e1), f3.trans (f2.trans f1)⟩
/-- what holds before the battle is there -/
def nPre (g : zG) (U : State) : Prop := U.heap.size = gS g ∧ gK g U ∧ gB g U U.heap ∧ va_AO RX3 U ∧ va_AO RX1 U
def zMD (l : Launch) (g : zG) (y : MethodName) (cc : ByteArray) (n : Nat) (ret : Option FieldType) (lvl mc : Nat) (As : List Value) (ν : zMu) (P0 : zKp → zOm → Option Value → Prop) : Prop :=
  Met l y (.code y cc n ret :: gW) (zR lvl mc) (va_Pc As (nPre g)) (zPG g ν P0) mc (6 * mc) (zA g)
theorem nPre_blind {g : zG} {As : List Value} : FrameBlind (va_Pc As (nPre g)) := fun a U fr mk h => ⟨h.1, h.2.1, gK.moved (u := U) (U := U.calling fr mk a) (Vm.Alike.refl U.vm) h.2.2.1, gB.same (u := U) (U := U.calling fr mk a) rfl h.2.2.2.1, va_AO.moved (u := U) (U := U.calling fr mk a) (Vm.Alike.refl U.vm) h.2.2.2.2.1, va_AO.moved (u := U) (U := U.calling fr mk a) (Vm.Alike.refl U.vm) h.2.2.2.2.2⟩
theorem nD_callS {p : Program} {l : Launch} {e : Env} {R : Room} {s : State} {m : MethodId} {args : Array Value} {below : List Frame} {meth : Method} {c : Code} {Q : State → Prop} {g : zG} {own : String} {cc : ByteArray} {n lvl mc : Nat} {ret : Option FieldType} {ν : zMu} {pc : Nat} {lv : List (Nat × Value)} {st : List Value} (hX : zX p l s m args meth c R g own cc n ret lvl mc) (hz : s.heap.size = gS g) (hA1 : va_AO RX3 s) (hA2 : va_AO RX1 s) {idx nY lvlY mcY nA : Nat} {y : MethodName} {cY : ByteArray} {retY : Option FieldType} {As rest : List Value} {P0 : zKp → zOm → Option Value → Prop} (hM : zMD l g y cY nY retY lvlY mcY As ν P0) (hC : zCS own idx y cY nY retY nA) (d : decode cc pc = .ok (.invokestatic idx, 3)) (hlv : lvlY < lvl ∧ nY ≤ 81 ∧ 0 + mcY ≤ mc) (hA : As.length = nA) (hst : st = As.reverse ++ rest) (hcat : (rest.map fun v => v.category).sum ≤ 8) (kk : ∀ (κ' : zKp) (ω' : zOm) (r : Option Value), P0 κ' ω' r → zZ p l e R s m args below meth c g n Q κ' ν ω' (0 + mcY) (pc + 3) lv (r.toList ++ rest)) {ls : Array Slot} (hl : lv_has ls n lv) : W p l e R s m args below meth c s.heap [] 0 (6 * 0) Q (F0 m pc ls st) := by
  obtain ⟨hx, hb, hml, hown, hts, hK, hB, hs, hR, -⟩ := id hX
  obtain ⟨hG, h1, h2, h3⟩ := hC
  subst hst
  exact zG_back hl va_S.rf (va_runS (nL := n) ⟨hx, hb, hml, hown, hts⟩ hM (va_cwS nA hts hG rfl rfl rfl ⟨h1, h2, h3⟩ ⟨Nat.le_trans hlv.1 hR.1, Nat.le_trans (zroom hlv.1 hlv.2.1) hR.2.1⟩) ⟨nPre_blind, fun U hU hw => ⟨rfl, by rw [hU]; exact hz, gK.moved hw.alike hK, by rw [hU]; exact hB.warm hw, va_AO.moved hw.alike hA1, va_AO.moved hw.alike hA2⟩⟩ rfl hA hl.1 rfl (lv_room hcat) d ⟨Nat.le_trans hlv.2.2 hR.2.2.1, by rw [← Nat.mul_add]; exact Nat.le_trans (Nat.mul_le_mul_left 6 hlv.2.2) hR.2.2.2⟩) kk
set_option maxHeartbeats 4000000 in
set_option maxRecDepth 100000 in
theorem lw_drawn (l : Launch) (hl0 : l.stackTraces = false) {D : va_G} {qC : Nat → ClassId} {B : Nat} {AK AV : Nat → Nat} {xb xL : Nat} {xf : Nat → Nat} {ν : zMu} : zMD l (iG D qC B AK AV xb xL xf) yL_drawn cL_drawn 8 (some (.object "LineBattle")) 24 31000 [.ref xb] ν (drP (iG D qC B AK AV xb xL xf)) := by
  refine Met.ofW (cc := cL_drawn) (maxL := 8) (ret := some (.object "LineBattle")) (by decide) rfl ?_
  intro p e s m args below meth c s₁ Bd hml hv
  obtain ⟨rfl, hz, hK, hB, hA1, hA2⟩ := hv
  have hz2 : s.heap.size = B := hz
  have hts := atoms_spec (ws := .code yL_drawn cL_drawn 8 (some (.object "LineBattle")) :: gW) Bd.pre
  have hl := lv_entry [.ref xb] (n := 8) (Nat.le_of_ble_eq_true rfl)
  rw [lg_entry_eq]
  have hN : nX p s m [Value.ref xb].toArray meth c (zR 24 31000) (iG D qC B AK AV xb xL xf) B 0 RL cL_drawn 8 (some (.object "LineBattle")) 24 171 := ⟨Bd.exec, Bd.bytes, hml, findClass_of_methodNamed Bd.named, fun w hw => hts w (List.mem_cons_of_mem _ hw), hK, ⟨hA1, hA2, hB.2.2.2.2.2.1⟩, hz2, ⟨Nat.le_refl _, Nat.le_refl _, Nat.le_of_ble_eq_true rfl, Nat.le_of_ble_eq_true rfl⟩, Bd.notSynchronized, Bd.returns⟩
  have hZ : zX p l s m [Value.ref xb].toArray meth c (zR 24 31000) (iG D qC B AK AV xb xL xf) RL cL_drawn 8 (some (.object "LineBattle")) 24 31000 := ⟨Bd.exec, Bd.bytes, hml, findClass_of_methodNamed Bd.named, fun w hw => hts w (List.mem_cons_of_mem _ hw), hK, hB, Nat.le_of_eq hz.symm, ⟨Nat.le_refl _, Nat.le_refl _, Nat.le_refl _, Nat.le_refl _⟩, Bd.notSynchronized, Bd.returns⟩
  have zz := dr_from8 (e := e) (below := below) (ν := ν) (K := 30400) hZ (by omega) hl0 (by omega)
  refine (?_ : nZ p l e (zR 24 31000) s m [Value.ref xb].toArray below meth c (iG D qC B AK AV xb xL xf) B 0 8 (zQG (iG D qC B AK AV xb xL xf) ν (drP (iG D qC B AK AV xb xL xf)) below [Value.ref xb].toArray s 31000) 0 (iX (iG D qC B AK AV xb xL xf) B) 0 [(0, .ref xb)] []) s.heap _ [] hl va_S.rf hz2 (fun k q hk => absurd (nW_inv hk).1 (Nat.not_lt_zero _))
  refine n_new hN (ci := 7) (C := RX4) (T := TX4) (NN := 10) (fs := [.null, .null, .null, .null, .null, .null, .int 0, .int 0, .int 0, .int 0]) win_X4 tyX4_ok (gW_I 32 (by decide +kernel) rfl) (gW_I 33 (by decide +kernel) rfl) (gW_I 1 (by decide +kernel) rfl) rfl (fun j hj => by rcases (show j = 0 ∨ j = 1 ∨ j = 2 ∨ j = 3 ∨ j = 4 ∨ j = 5 ∨ j = 6 ∨ j = 7 ∨ j = 8 ∨ j = 9 by omega) with rfl | rfl | rfl | rfl | rfl | rfl | rfl | rfl | rfl | rfl <;> rfl) (by omega) (by decide) dL_drawn_0 ?_
  refine n_dup hN dL_drawn_3 rfl ?_
  refine n_call2 hN (X2 := iX (iG D qC B AK AV xb xL xf) B) (nA := 0) (ct_X4 l) (i0 := 0) rfl rfl (va_up_self _ _ _) (gW_I 36 rfl rfl) (gW_I 1 (by decide +kernel) rfl) (gW_I 34 (by decide +kernel) rfl) (gW_I 35 (by decide +kernel) rfl) rfl (by decide +kernel) dL_drawn_4 ⟨by omega, by decide, by omega⟩ rfl rfl (Nat.le_of_ble_eq_true rfl) (fun j hj => absurd hj (Nat.not_lt_zero _)) (fun j hj => by
    show batX (iG D qC B AK AV xb xL xf) B j = iX (iG D qC B AK AV xb xL xf) B (0 + j)
    rw [Nat.zero_add]
    unfold iX
    rw [if_pos (by omega)]) ?_
  refine n_astore_n (lv' := [(1, .ref B), (0, .ref xb)]) hN dL_drawn_7 (by decide) rfl ?_
  intro H ls locs hl hS hz hP
  exact W.widen (k := 30400) (n := 6 * 30400) (Nat.le_of_ble_eq_true rfl) (Nat.le_of_ble_eq_true rfl) (zz H ls locs hl hS (iWW hP))
/-- the law, from its entry to its last instruction -/
theorem law_walk {p : Program} {l : Launch} {e : Env} {R : Room} {s : State} {m : MethodId} {args : Array Value} {below : List Frame} {meth : Method} {c : Code} {Q : State → Prop} {D : va_G} {qC : Nat → ClassId} {B : Nat} {AK AV : Nat → Nat} {xb xL : Nat} {xf : Nat → Nat} {ν : zMu} {mc : Nat} {ret : Option FieldType} (hX : zX p l s m args meth c R (iG D qC B AK AV xb xL xf) RL cL_law 2 ret 30 mc) (hl0 : l.stackTraces = false) (hz : s.heap.size = B) (hA1 : va_AO RX3 s) (hA2 : va_AO RX1 s) (hmc : 40000 ≤ mc) (hend : ∀ (κ : zKp) (ω : zOm) (k : Nat), k ≤ 40000 → zZ p l e R s m args below meth c (iG D qC B AK AV xb xL xf) 2 Q κ ν ω k 43 [(1, .ref (gA (iG D qC B AK AV xb xL xf) 0 0 0)), (0, .ref xb)] [.int 1]) {ls : Array Slot} (hl : lv_has ls 2 [(0, .ref xb)]) : W p l e R s m args below meth c s.heap [] 0 (6 * 0) Q (F0 m 0 ls []) := by
  refine lv_aload_n hX.1 hX.2.1 dL_law_0 rfl (lv_at hl 0 rfl) ?_
  refine nD_callS hX hz hA1 hA2 (lw_drawn l hl0 (ν := ν)) cs_RL_177 dL_law_1 ⟨by omega, by decide, by omega⟩ rfl rfl (Nat.le_of_ble_eq_true rfl) (fun κ ω r hP => ?_) hl
  obtain ⟨rfl, rfl, μ, h, hr, h2, hm⟩ := hP
  have hn0 : ¬ μ 1 0 = 0 := fun q => by
    have h12 := h.n.1
    have e := nI_inj2 (a := bn (μ 1)) (b := 0) (by omega) (by omega) (h.n.2.symm.trans q)
    omega
  obtain ⟨μ2, hR2, e2, f2⟩ := tx_RR4 h
  refine z_astore_n (lv' := [(1, _), (0, _)]) hX dL_law_4 (by decide) rfl ?_
  refine z_aload_n hX dL_law_5 0 rfl ?_
  refine z_ifnull hX dL_law_6 ?_
  refine z_aload_n hX dL_law_9 0 rfl ?_
  refine z_callS1 hX (lw_lines l hl0 h hr) cs_RL_181 dL_law_10 ⟨by omega, by decide, by omega⟩ rfl rfl (Nat.le_of_ble_eq_true rfl) ?_
  refine z_if_eq (tgt := 42) hX dL_law_13 (by decide) (fun q => absurd q (by decide)) (fun _ => ?_)
  refine z_aload_n hX dL_law_16 0 rfl ?_
  refine z_callS1 hX (lw_sides l hl0 h hn0) cs_RL_185 dL_law_17 ⟨by omega, by decide, by omega⟩ rfl rfl (Nat.le_of_ble_eq_true rfl) ?_
  refine z_if_eq (tgt := 42) hX dL_law_20 (by decide) (fun q => absurd q (by decide)) (fun _ => ?_)
  refine z_aload_n hX dL_law_23 0 rfl ?_
  refine z_callS1 hX (lw_texts l hl0 h) cs_RL_188 dL_law_24 ⟨by omega, by decide, by omega⟩ rfl rfl (Nat.le_of_ble_eq_true rfl) ?_
  refine z_if_eq (tgt := 42) hX dL_law_27 (by decide) (fun q => absurd q (by decide)) (fun _ => ?_)
  refine z_aload_n hX dL_law_30 1 rfl ?_
  refine z_aload_n hX dL_law_31 0 rfl ?_
  refine zG_callS hX (lw_undone l hl0 hR2 (f2.trans hm)) cs_RL_191 dL_law_32 ⟨by omega, by decide, by omega⟩ rfl rfl (Nat.le_of_ble_eq_true rfl) (fun κ3 ω3 r3 hP3 => ?_)
  subst hP3
  refine z_if_eq (tgt := 42) hX dL_law_35 (by decide) (fun q => absurd q (by decide)) (fun _ => ?_)
  refine z_iconst (v := 1) hX dL_law_38 (by decide) ?_
  refine z_goto (tgt := 43) hX dL_law_39 (by decide) ?_
  exact hend κ3 ω3 _ (by omega)
end ZL2
