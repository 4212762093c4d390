section ZTX
theorem fit_0 : sb_Fit (fun _ => 0) := fun _ => (by decide : fits .byte (.int 0) = true)
set_option maxHeartbeats 4000000 in
set_option maxRecDepth 100000 in
theorem tx_pre49 {p : Program} {l : Launch} {e : Env} {R : Room} {s : State} {m : MethodId} {args : Array Value} {below : List Frame} {meth : Method} {c : Code} {Q : State → Prop} {g : zG} {mc lvl : Nat} {κ : zKp} {ν : zMu} {ω : zOm} {k : Nat} (hX : zX p l s m args meth c R g RL cL_texts 6 (some .boolean) lvl mc) (hlv : 22 < lvl) {a t u N : Nat} {f : Nat → Int32} {y z i2 : Int32} (hs : sD g ω t u N f) (hc : ascB f N) (hN : N ≤ 60) (hk : k + 26 ≤ mc) (kk : ∀ (b v M : Nat) (f2 : Nat → Int32), N ≤ M → M ≤ 132 → sb_Fit f2 → (∀ j, j < N → f2 j = f j) → zZ p l e R s m args below meth c g 6 Q κ ν (sbW g b v N M f2 ω) (k + 26) 60 [(0, .ref (gA g 0 0 0)), (1, .int (nI a)), (2, .ref t), (3, .int y), (4, .int z), (5, .int i2)] [.ref b]) : zZ p l e R s m args below meth c g 6 Q κ ν ω k 49 [(0, .ref (gA g 0 0 0)), (1, .int (nI a)), (2, .ref t), (3, .int y), (4, .int z), (5, .int i2)] [] := by
  refine zq_new hX (ci := 1) (C := RJ4) (T := TJ4) (NN := 4) (ty0 := tyJ4) (fs := [.null, .int 0, .int 0, .int 0]) win_J4 tyJ4_ok (gW_I 980 (by decide +kernel) rfl) (gW_I 981 (by decide +kernel) rfl) (gW_I 24 (by decide +kernel) rfl) rfl (fun j hj => by rcases (show j = 0 ∨ j = 1 ∨ j = 2 ∨ j = 3 by omega) with rfl | rfl | rfl | rfl <;> rfl) (by omega) (by decide) dL_texts_49 (fun b => ?_)
  refine z_dup hX dL_texts_52 rfl ?_
  refine zE_callI (nA := 0) hX (bJ4_init l) (gW_I 984 rfl rfl) (gW_I 24 (by decide +kernel) rfl) (gW_I 982 (by decide +kernel) rfl) (gW_I 983 (by decide +kernel) rfl) rfl ⟨by decide, by decide, by decide +kernel⟩ dL_texts_53 ⟨by omega, by decide, by omega⟩ rfl rfl (Nat.le_of_ble_eq_true rfl) (fun w r hw => ?_)
  obtain ⟨rfl, v, rfl⟩ := hw
  refine z_aload_n hX dL_texts_56 2 rfl ?_
  refine zE_callV hX (bJ4_appendS l hs hc (by omega) (by omega) (by omega) fit_0) (zCU.of cv_RL_294) (zRv_at hX (j := 0) rfl rfl) dL_texts_57 ⟨by omega, by decide, by omega⟩ rfl rfl (Nat.le_of_ble_eq_true rfl) (fun w r hw => ?_)
  obtain ⟨rfl, v2, M2, f2, rfl, h1, h2, h3, h4, h5⟩ := hw
  rw [Nat.zero_add] at h1 ⊢
  refine z_widen (k2 := k + 26) (by omega) ?_
  exact kk b v2 M2 f2 h1 h2 h3 (fun j hj => by have q := h5 j hj; rw [Nat.zero_add] at q; exact q)
set_option maxHeartbeats 4000000 in
set_option maxRecDepth 100000 in
theorem tx_pre99 {p : Program} {l : Launch} {e : Env} {R : Room} {s : State} {m : MethodId} {args : Array Value} {below : List Frame} {meth : Method} {c : Code} {Q : State → Prop} {g : zG} {mc lvl : Nat} {κ : zKp} {ν : zMu} {ω : zOm} {k : Nat} (hX : zX p l s m args meth c R g RL cL_texts 6 (some .boolean) lvl mc) (hlv : 22 < lvl) {a t u N : Nat} {f : Nat → Int32} {y z i2 : Int32} (hs : sD g ω t u N f) (hc : ascB f N) (hN : N ≤ 60) (hk : k + 26 ≤ mc) (kk : ∀ (b v M : Nat) (f2 : Nat → Int32), N ≤ M → M ≤ 132 → sb_Fit f2 → (∀ j, j < N → f2 j = f j) → zZ p l e R s m args below meth c g 6 Q κ ν (sbW g b v N M f2 ω) (k + 26) 110 [(0, .ref (gA g 0 0 0)), (1, .int (nI a)), (2, .ref t), (3, .int y), (4, .int z), (5, .int i2)] [.ref b]) : zZ p l e R s m args below meth c g 6 Q κ ν ω k 99 [(0, .ref (gA g 0 0 0)), (1, .int (nI a)), (2, .ref t), (3, .int y), (4, .int z), (5, .int i2)] [] := by
  refine zq_new hX (ci := 1) (C := RJ4) (T := TJ4) (NN := 4) (ty0 := tyJ4) (fs := [.null, .int 0, .int 0, .int 0]) win_J4 tyJ4_ok (gW_I 980 (by decide +kernel) rfl) (gW_I 981 (by decide +kernel) rfl) (gW_I 24 (by decide +kernel) rfl) rfl (fun j hj => by rcases (show j = 0 ∨ j = 1 ∨ j = 2 ∨ j = 3 by omega) with rfl | rfl | rfl | rfl <;> rfl) (by omega) (by decide) dL_texts_99 (fun b => ?_)
  refine z_dup hX dL_texts_102 rfl ?_
  refine zE_callI (nA := 0) hX (bJ4_init l) (gW_I 984 rfl rfl) (gW_I 24 (by decide +kernel) rfl) (gW_I 982 (by decide +kernel) rfl) (gW_I 983 (by decide +kernel) rfl) rfl ⟨by decide, by decide, by decide +kernel⟩ dL_texts_103 ⟨by omega, by decide, by omega⟩ rfl rfl (Nat.le_of_ble_eq_true rfl) (fun w r hw => ?_)
  obtain ⟨rfl, v, rfl⟩ := hw
  refine z_aload_n hX dL_texts_106 2 rfl ?_
  refine zE_callV hX (bJ4_appendS l hs hc (by omega) (by omega) (by omega) fit_0) (zCU.of cv_RL_294) (zRv_at hX (j := 0) rfl rfl) dL_texts_107 ⟨by omega, by decide, by omega⟩ rfl rfl (Nat.le_of_ble_eq_true rfl) (fun w r hw => ?_)
  obtain ⟨rfl, v2, M2, f2, rfl, h1, h2, h3, h4, h5⟩ := hw
  rw [Nat.zero_add] at h1 ⊢
  refine z_widen (k2 := k + 26) (by omega) ?_
  exact kk b v2 M2 f2 h1 h2 h3 (fun j hj => by have q := h5 j hj; rw [Nat.zero_add] at q; exact q)
set_option maxHeartbeats 4000000 in
set_option maxRecDepth 100000 in
theorem tx_str95 {p : Program} {l : Launch} {e : Env} {R : Room} {s : State} {m : MethodId} {args : Array Value} {below : List Frame} {meth : Method} {c : Code} {Q : State → Prop} {g : zG} {mc lvl : Nat} {κ : zKp} {ν : zMu} {ω : zOm} {k : Nat} (hX : zX p l s m args meth c R g RL cL_texts 6 (some .boolean) lvl mc) (hlv : 22 < lvl) {a N : Nat} {f : Nat → Int32} {y z i2 : Int32} {b v M t2 : Nat} (hN : N ≤ M) (hM : M ≤ 132) (hf : sb_Fit f) (hk : k + 23 ≤ mc) (kk : ∀ (om : zOm) (t u : Nat) (f2 : Nat → Int32), sD g om t u N f2 → ω.Sublist om → (∀ j, j < N → f2 j = f j) → zZ p l e R s m args below meth c g 6 Q κ ν om (k + 23) 99 [(0, .ref (gA g 0 0 0)), (1, .int (nI a)), (2, .ref t), (3, .int y), (4, .int z), (5, .int i2)] []) : zZ p l e R s m args below meth c g 6 Q κ ν (sbW g b v N M f ω) k 95 [(0, .ref (gA g 0 0 0)), (1, .int (nI a)), (2, .ref t2), (3, .int y), (4, .int z), (5, .int i2)] [.ref b] := by
  refine zE_callV hX (bJ4_toString l hf hN hM) (zCU.of cv_RL_303) (zRv_at hX (j := 0) rfl rfl) dL_texts_95 ⟨by omega, by decide, by omega⟩ rfl rfl (Nat.le_of_ble_eq_true rfl) (fun w r hw => ?_)
  obtain ⟨x, rfl, u, f2, rfl, h1⟩ := hw
  refine z_astore_n (lv' := [(2, _), (0, _), (1, _), (3, _), (4, _), (5, _)]) hX dL_texts_98 (by decide) rfl ?_
  refine z_sub [1, 2, 0, 3, 4, 5] rfl ?_
  exact kk _ x u f2 sD.head (List.Sublist.cons _ (List.Sublist.cons _ (List.Sublist.cons _ (List.sublist_cons_self _ _)))) h1
set_option maxHeartbeats 4000000 in
set_option maxRecDepth 100000 in
theorem tx_str136 {p : Program} {l : Launch} {e : Env} {R : Room} {s : State} {m : MethodId} {args : Array Value} {below : List Frame} {meth : Method} {c : Code} {Q : State → Prop} {g : zG} {mc lvl : Nat} {κ : zKp} {ν : zMu} {ω : zOm} {k : Nat} (hX : zX p l s m args meth c R g RL cL_texts 6 (some .boolean) lvl mc) (hlv : 22 < lvl) {a N : Nat} {f : Nat → Int32} {y z i2 : Int32} {b v M t2 : Nat} (hN : N ≤ M) (hM : M ≤ 132) (hf : sb_Fit f) (hk : k + 23 ≤ mc) (kk : ∀ (om : zOm) (t u : Nat) (f2 : Nat → Int32), sD g om t u N f2 → ω.Sublist om → (∀ j, j < N → f2 j = f j) → zZ p l e R s m args below meth c g 6 Q κ ν om (k + 23) 140 [(0, .ref (gA g 0 0 0)), (1, .int (nI a)), (2, .ref t), (3, .int y), (4, .int z), (5, .int i2)] []) : zZ p l e R s m args below meth c g 6 Q κ ν (sbW g b v N M f ω) k 136 [(0, .ref (gA g 0 0 0)), (1, .int (nI a)), (2, .ref t2), (3, .int y), (4, .int z), (5, .int i2)] [.ref b] := by
  refine zE_callV hX (bJ4_toString l hf hN hM) (zCU.of cv_RL_303) (zRv_at hX (j := 0) rfl rfl) dL_texts_136 ⟨by omega, by decide, by omega⟩ rfl rfl (Nat.le_of_ble_eq_true rfl) (fun w r hw => ?_)
  obtain ⟨x, rfl, u, f2, rfl, h1⟩ := hw
  refine z_astore_n (lv' := [(2, _), (0, _), (1, _), (3, _), (4, _), (5, _)]) hX dL_texts_139 (by decide) rfl ?_
  refine z_sub [1, 2, 0, 3, 4, 5] rfl ?_
  exact kk _ x u f2 sD.head (List.Sublist.cons _ (List.Sublist.cons _ (List.Sublist.cons _ (List.sublist_cons_self _ _)))) h1
theorem lp_14 : sB 14 = [112, 110, 99, 115] := rfl
theorem lp_37 : sB 37 = [80, 78, 67, 83] := rfl
theorem lp_39 : sB 39 = [33] := rfl
theorem lp_35 : sB 35 = [] := rfl
theorem kin_q {x : Int32} (h : x = 112 ∨ x = 110 ∨ x = 99 ∨ x = 115) : ∃ q, q < 4 ∧ x = sBa 14 q ∧ x - 32 = sBa 37 q ∧ (∀ j, j < q → ¬ sBa 14 j = sBa 14 q) ∧ ∃ b, b < 128 ∧ x = nI b ∧ ∃ d, d < 128 ∧ x - 32 = nI d := by
  rcases h with rfl | rfl | rfl | rfl
  · exact ⟨0, by decide, rfl, rfl, by decide, 112, by decide, rfl, 80, by decide, rfl⟩
  · exact ⟨1, by decide, rfl, rfl, by decide, 110, by decide, rfl, 78, by decide, rfl⟩
  · exact ⟨2, by decide, rfl, rfl, by decide, 99, by decide, rfl, 67, by decide, rfl⟩
  · exact ⟨3, by decide, rfl, rfl, by decide, 115, by decide, rfl, 83, by decide, rfl⟩
theorem asc_14 : ascB (sBa 14) 4 := fun q hq => by
  rcases (show q = 0 ∨ q = 1 ∨ q = 2 ∨ q = 3 by omega) with rfl | rfl | rfl | rfl
  · exact ⟨112, by decide, rfl⟩
  · exact ⟨110, by decide, rfl⟩
  · exact ⟨99, by decide, rfl⟩
  · exact ⟨115, by decide, rfl⟩
theorem asc_37 : ascB (sBa 37) 4 := fun q hq => by
  rcases (show q = 0 ∨ q = 1 ∨ q = 2 ∨ q = 3 by omega) with rfl | rfl | rfl | rfl
  · exact ⟨80, by decide, rfl⟩
  · exact ⟨78, by decide, rfl⟩
  · exact ⟨67, by decide, rfl⟩
  · exact ⟨83, by decide, rfl⟩
theorem lt_b {b : zB} {j : Nat} (hL : lineW b j) : ∃ x, x < 128 ∧ ltB b j = nI x := by
  obtain ⟨x, hx, e⟩ := lt_of hL
  exact ⟨x, by omega, e⟩
set_option maxHeartbeats 4000000 in
set_option maxRecDepth 100000 in
theorem tx_none {p : Program} {l : Launch} {e : Env} {R : Room} {s : State} {m : MethodId} {args : Array Value} {below : List Frame} {meth : Method} {c : Code} {Q : State → Prop} {g : zG} {mc lvl : Nat} {κ : zKp} {ν : zMu} {ω : zOm} {k : Nat} (hX : zX p l s m args meth c R g RL cL_texts 6 (some .boolean) lvl mc) (hlv : 22 < lvl) {a t u N : Nat} {f : Nat → Int32} {y z i2 : Int32} {b : Nat} (hz : z < 0) (kk : zZ p l e R s m args below meth c g 6 Q κ ν ω k 92 [(0, .ref (gA g 0 0 0)), (1, .int (nI a)), (2, .ref t), (3, .int y), (4, .int z), (5, .int i2)] [.int (nI 46), .ref b]) : zZ p l e R s m args below meth c g 6 Q κ ν ω k 60 [(0, .ref (gA g 0 0 0)), (1, .int (nI a)), (2, .ref t), (3, .int y), (4, .int z), (5, .int i2)] [.ref b] := by
  refine z_iload hX dL_texts_60 4 rfl ?_
  refine z_if_ge (tgt := 70) hX dL_texts_62 (by decide) (fun q => absurd hz (Int32.not_lt.mpr q)) (fun _ => ?_)
  refine z_bipush (v := nI 46) hX dL_texts_65 (by decide) ?_
  exact z_goto (tgt := 92) hX dL_texts_67 (by decide) kk
theorem tx_some {p : Program} {l : Launch} {e : Env} {R : Room} {s : State} {m : MethodId} {args : Array Value} {below : List Frame} {meth : Method} {c : Code} {Q : State → Prop} {g : zG} {mc lvl : Nat} {κ : zKp} {μ ν : zMu} {ω : zOm} {k : Nat} (hX : zX p l s m args meth c R g RL cL_texts 6 (some .boolean) lvl mc) (hlv : 22 < lvl) (h : RR κ μ) {a t u N : Nat} {f : Nat → Int32} {y z i2 : Int32} {b j q : Nat} (hj : j < bn (μ 1)) (ez : z = nI j) (hq : q < 4) (e1 : bf (μ 1) j 3 = sBa 14 q) (e2 : bf (μ 1) j 3 - 32 = sBa 37 q) (ei : i2 = nI q) (hk : k ≤ mc) (kk : zZ p l e R s m args below meth c g 6 Q κ ν ω k 92 [(0, .ref (gA g 0 0 0)), (1, .int (nI a)), (2, .ref t), (3, .int y), (4, .int z), (5, .int i2)] [.int (ltB (μ 1) j), .ref b]) : zZ p l e R s m args below meth c g 6 Q κ ν ω k 60 [(0, .ref (gA g 0 0 0)), (1, .int (nI a)), (2, .ref t), (3, .int y), (4, .int z), (5, .int i2)] [.ref b] := by
  have h12 := h.n.1
  subst ez ei
  refine z_iload hX dL_texts_60 4 rfl ?_
  refine z_if_ge (tgt := 70) hX dL_texts_62 (by decide) (fun _ => ?_) (fun q => absurd (ge_i (by omega)) q)
  refine z_aload_n hX dL_texts_70 0 rfl ?_
  refine z_iload hX dL_texts_71 4 rfl ?_
  refine z_callV1 hX (dm_sideOf l h hj) cv_RL_30 zRc0 dL_texts_73 ⟨by omega, by decide, by omega⟩ rfl rfl (Nat.le_of_ble_eq_true rfl) ?_
  refine z_if_ne (tgt := 84) hX dL_texts_76 (by decide) (fun h0 => ?_) (fun h0 => ?_)
  · refine z_ldcW hX (i := 37) rfl dL_texts_84 ?_
    refine z_iload hX dL_texts_87 5 rfl ?_
    refine zk_callV1 hX (by decide : 37 < 45) rfl (sJ0_charAt l (sD.const (by decide)) (by decide) asc_37 hq) cv_RL_138 dL_texts_89 ⟨by omega, by decide, by omega⟩ rfl rfl (Nat.le_of_ble_eq_true rfl) ?_
    have e3 : ltB (μ 1) j = sBa 37 q := by unfold ltB; rw [if_neg h0, e2]
    rw [e3] at kk
    exact kk
  · refine zk_ldc hX (i := 14) rfl dL_texts_79 ?_
    refine z_goto (tgt := 87) hX dL_texts_81 (by decide) ?_
    refine z_iload hX dL_texts_87 5 rfl ?_
    refine zk_callV1 hX (by decide : 14 < 45) rfl (sJ0_charAt l (sD.const (by decide)) (by decide) asc_14 hq) cv_RL_138 dL_texts_89 ⟨by omega, by decide, by omega⟩ rfl rfl (Nat.le_of_ble_eq_true rfl) ?_
    have e3 : ltB (μ 1) j = sBa 14 q := by unfold ltB; rw [if_pos h0, e1]
    rw [e3] at kk
    exact kk
/-- the first joining: the text and its sign -/
theorem tx_A {p : Program} {l : Launch} {e : Env} {R : Room} {s : State} {m : MethodId} {args : Array Value} {below : List Frame} {meth : Method} {c : Code} {Q : State → Prop} {g : zG} {mc lvl : Nat} {κ : zKp} {ν : zMu} {ω : zOm} {k : Nat} (hX : zX p l s m args meth c R g RL cL_texts 6 (some .boolean) lvl mc) (hlv : 22 < lvl) {a t u N : Nat} {f : Nat → Int32} {y z i2 : Int32} (hs : sD g ω t u N f) (hc : ascB f N) (hN : N ≤ 60) (hk : k + 71 ≤ mc) {x : Nat} (hx : x < 128) (hch : ∀ (kz b : Nat) (om : zOm), kz ≤ mc → zZ p l e R s m args below meth c g 6 Q κ ν om kz 92 [(0, .ref (gA g 0 0 0)), (1, .int (nI a)), (2, .ref t), (3, .int y), (4, .int z), (5, .int i2)] [.int (nI x), .ref b] → zZ p l e R s m args below meth c g 6 Q κ ν om kz 60 [(0, .ref (gA g 0 0 0)), (1, .int (nI a)), (2, .ref t), (3, .int y), (4, .int z), (5, .int i2)] [.ref b]) (kk : ∀ (om : zOm) (t u : Nat) (f2 : Nat → Int32), sD g om t u (N + 1) f2 → ω.Sublist om → (∀ j, j < N → f2 j = f j) → f2 N = nI x → zZ p l e R s m args below meth c g 6 Q κ ν om (k + 71) 99 [(0, .ref (gA g 0 0 0)), (1, .int (nI a)), (2, .ref t), (3, .int y), (4, .int z), (5, .int i2)] []) : zZ p l e R s m args below meth c g 6 Q κ ν ω k 49 [(0, .ref (gA g 0 0 0)), (1, .int (nI a)), (2, .ref t), (3, .int y), (4, .int z), (5, .int i2)] [] := by
  refine tx_pre49 hX hlv hs hc hN (by omega) (fun b v M f2 h1 h2 h3 h4 => ?_)
  refine hch _ b _ (by omega) ?_
  refine zE_callV hX (bJ4_appendC l hx h1 (by omega) h2 h3) (zCU.of cv_RL_300) (zRv_at hX (j := 0) rfl rfl) dL_texts_92 ⟨by omega, by decide, by omega⟩ rfl rfl (Nat.le_of_ble_eq_true rfl) (fun w r hw => ?_)
  obtain ⟨rfl, v2, M2, f3, rfl, q1, q2, q3, q4, q5⟩ := hw
  refine tx_str95 hX hlv q1 q2 q3 (by omega) (fun om t2 u2 f4 w1 w2 w3 => ?_)
  exact kk om t2 u2 f4 w1 w2 (fun j hj => (w3 j (by omega)).trans ((q4 j hj).trans (h4 j hj))) ((w3 N (by omega)).trans (q5 0 (by decide)))
/-- the second: the mark of those who flee, or nothing -/
theorem tx_B {p : Program} {l : Launch} {e : Env} {R : Room} {s : State} {m : MethodId} {args : Array Value} {below : List Frame} {meth : Method} {c : Code} {Q : State → Prop} {g : zG} {mc lvl : Nat} {κ : zKp} {ν : zMu} {ω : zOm} {k : Nat} (hX : zX p l s m args meth c R g RL cL_texts 6 (some .boolean) lvl mc) (hlv : 22 < lvl) {a t u N : Nat} {f : Nat → Int32} {y z i2 : Int32} {K i : Nat} (hi : i < 45) (eK : (sB i).length = K) (hK : K ≤ 1) (ha : ascB (sBa i) K) (hs : sD g ω t u N f) (hc : ascB f N) (hN : N ≤ 60) (hk : k + 71 ≤ mc) (hch : ∀ (kz b : Nat) (om : zOm), kz ≤ mc → zZ p l e R s m args below meth c g 6 Q κ ν om kz 133 [(0, .ref (gA g 0 0 0)), (1, .int (nI a)), (2, .ref t), (3, .int y), (4, .int z), (5, .int i2)] [.ref (gAK g i), .ref b] → zZ p l e R s m args below meth c g 6 Q κ ν om kz 110 [(0, .ref (gA g 0 0 0)), (1, .int (nI a)), (2, .ref t), (3, .int y), (4, .int z), (5, .int i2)] [.ref b]) (kk : ∀ (om : zOm) (t u : Nat) (f2 : Nat → Int32), sD g om t u (N + K) f2 → ω.Sublist om → (∀ j, j < N → f2 j = f j) → (∀ j, j < K → f2 (N + j) = sBa i j) → zZ p l e R s m args below meth c g 6 Q κ ν om (k + 71) 140 [(0, .ref (gA g 0 0 0)), (1, .int (nI a)), (2, .ref t), (3, .int y), (4, .int z), (5, .int i2)] []) : zZ p l e R s m args below meth c g 6 Q κ ν ω k 99 [(0, .ref (gA g 0 0 0)), (1, .int (nI a)), (2, .ref t), (3, .int y), (4, .int z), (5, .int i2)] [] := by
  refine tx_pre99 hX hlv hs hc hN (by omega) (fun b v M f2 h1 h2 h3 h4 => ?_)
  refine hch _ b _ (by omega) ?_
  have hs2 : sD g ω (gAK g i) (gAV g i) K (sBa i) := by rw [← eK]; exact sD.const hi
  refine zE_callV hX (bJ4_appendS l hs2 ha h1 (by omega) h2 h3) (zCU.of cv_RL_294) (zRv_at hX (j := 0) rfl rfl) dL_texts_133 ⟨by omega, by decide, by omega⟩ rfl rfl (Nat.le_of_ble_eq_true rfl) (fun w r hw => ?_)
  obtain ⟨rfl, v2, M2, f3, rfl, q1, q2, q3, q4, q5⟩ := hw
  refine tx_str136 hX hlv q1 q2 q3 (by omega) (fun om t2 u2 f4 w1 w2 w3 => ?_)
  exact kk om t2 u2 f4 w1 w2 (fun j hj => (w3 j (by omega)).trans ((q4 j hj).trans (h4 j hj))) (fun j hj => (w3 (N + j) (by omega)).trans (q5 j hj))
set_option maxHeartbeats 4000000 in
set_option maxRecDepth 100000 in
theorem tx_mark {p : Program} {l : Launch} {e : Env} {R : Room} {s : State} {m : MethodId} {args : Array Value} {below : List Frame} {meth : Method} {c : Code} {Q : State → Prop} {g : zG} {mc lvl : Nat} {κ : zKp} {μ ν : zMu} {ω : zOm} {k : Nat} (hX : zX p l s m args meth c R g RL cL_texts 6 (some .boolean) lvl mc) (hlv : 22 < lvl) (h : RR κ μ) {a t u N : Nat} {f : Nat → Int32} {y z i2 : Int32} {b j : Nat} (hj : j < bn (μ 1)) (ez : z = nI j) (h7 : bf (μ 1) j 7 = 1) (hk : k ≤ mc) (kk : zZ p l e R s m args below meth c g 6 Q κ ν ω k 133 [(0, .ref (gA g 0 0 0)), (1, .int (nI a)), (2, .ref t), (3, .int y), (4, .int z), (5, .int i2)] [.ref (gAK g 39), .ref b]) : zZ p l e R s m args below meth c g 6 Q κ ν ω k 110 [(0, .ref (gA g 0 0 0)), (1, .int (nI a)), (2, .ref t), (3, .int y), (4, .int z), (5, .int i2)] [.ref b] := by
  have h12 := h.n.1
  subst ez
  refine z_iload hX dL_texts_110 4 rfl ?_
  refine z_if_lt (tgt := 130) hX dL_texts_112 (by decide) (fun q => absurd q (nI_pos (by omega))) (fun _ => ?_)
  refine z_aload_n hX dL_texts_115 0 rfl ?_
  refine z_iload hX dL_texts_116 4 rfl ?_
  refine z_callV1 hX (dm_isRouted l h hj) cv_RL_58 zRc0 dL_texts_118 ⟨by omega, by decide, by omega⟩ rfl rfl (Nat.le_of_ble_eq_true rfl) ?_
  refine z_if_eqB (tgt := 130) hX dL_texts_121 (by decide) (fun q => absurd h7 q) (fun _ => ?_)
  refine z_ldcW hX (i := 39) rfl dL_texts_124 ?_
  exact z_goto (tgt := 133) hX dL_texts_127 (by decide) kk
theorem tx_plain {p : Program} {l : Launch} {e : Env} {R : Room} {s : State} {m : MethodId} {args : Array Value} {below : List Frame} {meth : Method} {c : Code} {Q : State → Prop} {g : zG} {mc lvl : Nat} {κ : zKp} {μ ν : zMu} {ω : zOm} {k : Nat} (hX : zX p l s m args meth c R g RL cL_texts 6 (some .boolean) lvl mc) (hlv : 22 < lvl) (h : RR κ μ) {a t u N : Nat} {f : Nat → Int32} {y z i2 : Int32} {b j : Nat} (hj : j < bn (μ 1)) (ez : z = nI j) (h7 : ¬ bf (μ 1) j 7 = 1) (hk : k ≤ mc) (kk : zZ p l e R s m args below meth c g 6 Q κ ν ω k 133 [(0, .ref (gA g 0 0 0)), (1, .int (nI a)), (2, .ref t), (3, .int y), (4, .int z), (5, .int i2)] [.ref (gAK g 35), .ref b]) : zZ p l e R s m args below meth c g 6 Q κ ν ω k 110 [(0, .ref (gA g 0 0 0)), (1, .int (nI a)), (2, .ref t), (3, .int y), (4, .int z), (5, .int i2)] [.ref b] := by
  have h12 := h.n.1
  subst ez
  refine z_iload hX dL_texts_110 4 rfl ?_
  refine z_if_lt (tgt := 130) hX dL_texts_112 (by decide) (fun q => absurd q (nI_pos (by omega))) (fun _ => ?_)
  refine z_aload_n hX dL_texts_115 0 rfl ?_
  refine z_iload hX dL_texts_116 4 rfl ?_
  refine z_callV1 hX (dm_isRouted l h hj) cv_RL_58 zRc0 dL_texts_118 ⟨by omega, by decide, by omega⟩ rfl rfl (Nat.le_of_ble_eq_true rfl) ?_
  refine z_if_eqB (tgt := 130) hX dL_texts_121 (by decide) (fun _ => ?_) (fun q => absurd q h7)
  exact z_ldcW hX (i := 35) rfl dL_texts_130 kk
theorem tx_empty {p : Program} {l : Launch} {e : Env} {R : Room} {s : State} {m : MethodId} {args : Array Value} {below : List Frame} {meth : Method} {c : Code} {Q : State → Prop} {g : zG} {mc lvl : Nat} {κ : zKp} {ν : zMu} {ω : zOm} {k : Nat} (hX : zX p l s m args meth c R g RL cL_texts 6 (some .boolean) lvl mc) (hlv : 22 < lvl) {a t u N : Nat} {f : Nat → Int32} {y z i2 : Int32} {b : Nat} (hz : z < 0) (kk : zZ p l e R s m args below meth c g 6 Q κ ν ω k 133 [(0, .ref (gA g 0 0 0)), (1, .int (nI a)), (2, .ref t), (3, .int y), (4, .int z), (5, .int i2)] [.ref (gAK g 35), .ref b]) : zZ p l e R s m args below meth c g 6 Q κ ν ω k 110 [(0, .ref (gA g 0 0 0)), (1, .int (nI a)), (2, .ref t), (3, .int y), (4, .int z), (5, .int i2)] [.ref b] := by
  refine z_iload hX dL_texts_110 4 rfl ?_
  refine z_if_lt (tgt := 130) hX dL_texts_112 (by decide) (fun _ => ?_) (fun q => absurd hz q)
  exact z_ldcW hX (i := 35) rfl dL_texts_130 kk
/-- the text so far: what the reference's lane says after x columns -/
def txP2 (g : zG) (b : zB) (a x : Nat) (W0 : Nat → Int32) (om : zOm) (t : Nat) : Prop := ∃ (u : Nat) (f : Nat → Int32), sD g om t u (lnS b a W0 x).1 f ∧ ∀ j, j < (lnS b a W0 x).1 → f j = (lnS b a W0 x).2 j
set_option maxHeartbeats 4000000 in
set_option maxRecDepth 100000 in
theorem tx_col {p : Program} {l : Launch} {e : Env} {R : Room} {s : State} {m : MethodId} {args : Array Value} {below : List Frame} {meth : Method} {c : Code} {Q : State → Prop} {g : zG} {mc lvl : Nat} {κ : zKp} {μ ν : zMu} {ω : zOm} {k : Nat} (hX : zX p l s m args meth c R g RL cL_texts 6 (some .boolean) lvl mc) (hlv : 22 < lvl) (hl0 : l.stackTraces = false) (h : RR κ μ) {a x t : Nat} (ha : a < 3) (hx : x < 10) {W0 : Nat → Int32} (hT : txP2 g (μ 1) a x W0 ω t) (hk : k + 143 ≤ mc) (kk : ∀ (om : zOm) (t : Nat), ω.Sublist om → txP2 g (μ 1) a (x + 1) W0 om t → zZ p l e R s m args below meth c g 6 Q κ ν om (k + 143) 13 [(0, .ref (gA g 0 0 0)), (1, .int (nI a)), (2, .ref t), (3, .int (nI (x + 1)))] []) : zZ p l e R s m args below meth c g 6 Q κ ν ω k 13 [(0, .ref (gA g 0 0 0)), (1, .int (nI a)), (2, .ref t), (3, .int (nI x))] [] := by
  obtain ⟨u, f, hs, hf⟩ := hT
  have h12 := h.n.1
  have hN : (lnS (μ 1) a W0 x).1 ≤ 20 := Nat.le_trans (ln_le x) (by omega)
  have hc : ascB f (lnS (μ 1) a W0 x).1 := fun q hq => by
    obtain ⟨b, hb, e⟩ := ln_ch h.bI ha x (by omega) q hq
    exact ⟨b, by omega, (hf q hq).trans e⟩
  have hl3 : 0 ≤ nI a ∧ nI a < 3 := ⟨ge_i (by omega), lt_i (b := 3) ha (by decide)⟩
  have hx9 : 0 ≤ nI x ∧ nI x < 10 := ⟨ge_i (by omega), lt_i (b := 10) hx (by decide)⟩
  have fin : ∀ (om : zOm) (t2 : Nat) (z i2 : Int32), ω.Sublist om → txP2 g (μ 1) a (x + 1) W0 om t2 → zZ p l e R s m args below meth c g 6 Q κ ν om (k + 1 + 71 + 71) 140 [(0, .ref (gA g 0 0 0)), (1, .int (nI a)), (2, .ref t2), (3, .int (nI x)), (4, .int z), (5, .int i2)] [] := fun om t2 z i2 q1 q2 => by
    refine z_iinc (v := nI (x + 1)) (lv' := [(3, _), (0, _), (1, _), (2, _), (4, _), (5, _)]) hX dL_texts_140 3 rfl (nI_1 x) (by decide) rfl ?_
    refine z_goto (tgt := 13) hX dL_texts_143 (by decide) ?_
    refine z_sub [1, 2, 3, 0] rfl ?_
    exact kk om t2 q1 q2
  refine z_iload_n hX dL_texts_13 3 rfl ?_
  refine z_bipush (v := 10) hX dL_texts_14 (by decide) ?_
  refine z_icmp_ge (tgt := 146) hX dL_texts_16 (by decide) (fun q => absurd q (nle_i (a := x) (b := 10) hx (by decide))) (fun _ => ?_)
  refine z_aload_n hX dL_texts_19 0 rfl ?_
  refine z_iload_n hX dL_texts_20 1 rfl ?_
  refine z_iload_n hX dL_texts_21 3 rfl ?_
  rcases occ_c h.n (x := nI a) (y := nI x) ⟨a, ha, rfl⟩ (gl_col.mp hx9) with ⟨ho, ec⟩ | ⟨j, hj, ho, ec⟩
  · refine z_callW hX (go_lineIn l hl0 h ⟨hl3, hx9⟩ ho) cc_174 dL_texts_22 ⟨by omega, by decide, by omega⟩ rfl rfl (Nat.le_of_ble_eq_true rfl) ?_
    refine z_istore (lv' := [(4, _), (0, _), (1, _), (2, _), (3, _)]) hX dL_texts_25 (by decide) rfl ?_
    refine z_iload hX dL_texts_27 0 rfl ?_
    refine z_if_ge (tgt := 36) hX dL_texts_29 (by decide) (fun q => absurd q (by decide)) (fun _ => ?_)
    refine z_iconst (v := 0) hX dL_texts_32 (by decide) ?_
    refine z_goto (tgt := 47) hX dL_texts_33 (by decide) ?_
    refine z_istore (lv' := [(5, _), (4, _), (0, _), (1, _), (2, _), (3, _)]) hX dL_texts_47 (by decide) rfl ?_
    refine z_sub [2, 3, 4, 5, 1, 0] rfl ?_
    refine tx_A hX hlv hs hc (by omega) (by omega) (x := 46) (by decide) (fun kz b om _ k2 => tx_none hX hlv (t := t) (u := u) (N := 0) (f := f) (by decide) k2) (fun om1 t1 u1 f1 s1 w1 w2 w3 => ?_)
    have hc1 : ascB f1 ((lnS (μ 1) a W0 x).1 + 1) := fun q hq => by
      by_cases e : q = (lnS (μ 1) a W0 x).1
      · subst e; exact ⟨46, by decide, w3⟩
      · obtain ⟨b, hb, e2⟩ := hc q (by omega)
        exact ⟨b, hb, (w2 q (by omega)).trans e2⟩
    refine tx_B hX hlv (K := 0) (i := 35) (by decide) rfl (by decide) (fun q hq => absurd hq (Nat.not_lt_zero q)) s1 hc1 (by omega) (by omega) (fun kz b om _ k2 => tx_empty hX hlv (t := t1) (u := u1) (N := 0) (f := f1) (by decide) k2) (fun om2 t2 u2 f2 s2 v1 v2 v3 => ?_)
    refine fin om2 t2 _ _ (w1.trans v1) ⟨u2, f2, ?_⟩
    rw [ln_n (by rw [ec]; decide)]
    refine ⟨s2, fun q hq => ?_⟩
    have hq2 : q < (lnS (μ 1) a W0 x).1 + 1 := hq
    show f2 q = if q = (lnS (μ 1) a W0 x).1 then 46 else (lnS (μ 1) a W0 x).2 q
    rw [v2 q hq2]
    by_cases e : q = (lnS (μ 1) a W0 x).1
    · rw [if_pos e, e]; exact w3
    · rw [if_neg e, w2 q (by omega)]; exact hf q (by omega)
  · have hL := h.bI.1.2.2.1 j hj
    obtain ⟨q, hq4, e1, e2, hne, -⟩ := kin_q hL.2.2.2.1
    obtain ⟨cx, hcx, ecx⟩ := lt_b hL
    refine z_callW hX (in_lineIn l hl0 h ⟨hl3, hx9⟩ ho) cc_174 dL_texts_22 ⟨by omega, by decide, by omega⟩ rfl rfl (Nat.le_of_ble_eq_true rfl) ?_
    refine z_istore (lv' := [(4, _), (0, _), (1, _), (2, _), (3, _)]) hX dL_texts_25 (by decide) rfl ?_
    refine z_iload hX dL_texts_27 0 rfl ?_
    refine z_if_ge (tgt := 36) hX dL_texts_29 (by decide) (fun _ => ?_) (fun q => absurd (ge_i (by omega)) q)
    refine zk_ldc hX (i := 14) rfl dL_texts_36 ?_
    refine z_aload_n hX dL_texts_38 1 rfl ?_
    refine z_iload hX dL_texts_39 0 rfl ?_
    refine z_callV1 hX (dm_kindOf l h hj) cv_RL_41 zRc0 dL_texts_41 ⟨by omega, by decide, by omega⟩ rfl rfl (Nat.le_of_ble_eq_true rfl) ?_
    refine z_isv e1 ?_
    refine zk_callV1 hX (by decide : 14 < 45) rfl (ok_indexOf l (by decide) (q := q) hq4 hne) cv_RL_288 dL_texts_44 ⟨by omega, by decide, by omega⟩ rfl rfl (Nat.le_of_ble_eq_true rfl) ?_
    refine z_istore (lv' := [(5, _), (4, _), (0, _), (1, _), (2, _), (3, _)]) hX dL_texts_47 (by decide) rfl ?_
    refine z_sub [2, 3, 4, 5, 1, 0] rfl ?_
    refine tx_A hX hlv hs hc (by omega) (by omega) (x := cx) hcx (fun kz b om hkz k2 => tx_some hX hlv h (u := u) (N := 0) (f := f) hj rfl hq4 e1 e2 rfl hkz (by rw [ecx]; exact k2)) (fun om1 t1 u1 f1 s1 w1 w2 w3 => ?_)
    have hc1 : ascB f1 ((lnS (μ 1) a W0 x).1 + 1) := fun q hq => by
      by_cases e : q = (lnS (μ 1) a W0 x).1
      · subst e; exact ⟨cx, hcx, w3⟩
      · obtain ⟨b, hb, e2⟩ := hc q (by omega)
        exact ⟨b, hb, (w2 q (by omega)).trans e2⟩
    by_cases h7 : bf (μ 1) j 7 = 1
    · refine tx_B hX hlv (K := 1) (i := 39) (by decide) rfl (by decide) (fun q hq => ⟨33, by decide, by rw [show q = 0 by omega]; rfl⟩) s1 hc1 (by omega) (by omega) (fun kz b om hkz k2 => tx_mark hX hlv h (u := u1) (N := 0) (f := f1) hj rfl h7 hkz k2) (fun om2 t2 u2 f2 s2 v1 v2 v3 => ?_)
      refine fin om2 t2 _ _ (w1.trans v1) ⟨u2, f2, ?_⟩
      rw [ln_r (by omega) ec h7]
      refine ⟨s2, fun q hq => ?_⟩
      have hq2 : q < (lnS (μ 1) a W0 x).1 + 1 + 1 := hq
      show f2 q = if q = (lnS (μ 1) a W0 x).1 + 1 then 33 else if q = (lnS (μ 1) a W0 x).1 then ltB (μ 1) j else (lnS (μ 1) a W0 x).2 q
      by_cases e3 : q = (lnS (μ 1) a W0 x).1 + 1
      · rw [if_pos e3, e3]; exact v3 0 (by decide)
      · rw [if_neg e3, v2 q (by omega)]
        by_cases e : q = (lnS (μ 1) a W0 x).1
        · rw [if_pos e, e, ecx]; exact w3
        · rw [if_neg e, w2 q (by omega)]; exact hf q (by omega)
    · refine tx_B hX hlv (K := 0) (i := 35) (by decide) rfl (by decide) (fun q hq => absurd hq (Nat.not_lt_zero q)) s1 hc1 (by omega) (by omega) (fun kz b om hkz k2 => tx_plain hX hlv h (u := u1) (N := 0) (f := f1) hj rfl h7 hkz k2) (fun om2 t2 u2 f2 s2 v1 v2 v3 => ?_)
      refine fin om2 t2 _ _ (w1.trans v1) ⟨u2, f2, ?_⟩
      rw [ln_s (by omega) ec h7]
      refine ⟨s2, fun q hq => ?_⟩
      have hq2 : q < (lnS (μ 1) a W0 x).1 + 1 := hq
      show f2 q = if q = (lnS (μ 1) a W0 x).1 then ltB (μ 1) j else (lnS (μ 1) a W0 x).2 q
      rw [v2 q hq2]
      by_cases e : q = (lnS (μ 1) a W0 x).1
      · rw [if_pos e, e, ecx]; exact w3
      · rw [if_neg e, w2 q (by omega)]; exact hf q (by omega)
set_option maxHeartbeats 4000000 in
set_option maxRecDepth 100000 in
theorem lw_spells (l : Launch) (hl0 : l.stackTraces = false) {g : zG} {κ : zKp} {μ ν : zMu} {ω : zOm} (h : RR κ μ) {t u w : Nat} {f : Nat → Int32} (hs : sD g ω t u w f) (hw : w ≤ 20) (k0 : κ 0 0 0 = nI w) (hW : ∀ q, q < w → ∃ b : Nat, b < 127 ∧ κ 1 0 q = nI b ∧ f q = nI b) : zM l g yL_spells cL_spells 5 (some .boolean) 21 30 [.ref (gA g 0 0 0), .int (nI w), .ref t] κ ν ω κ ν ω (some (.int 1)) := by
  have hasc : ascB f w := fun q hq => by
    obtain ⟨b, hb, -, e⟩ := hW q hq
    exact ⟨b, by omega, e⟩
  refine zM_of (by decide) (Nat.le_of_ble_eq_true rfl) (fun p e R s m args below meth c hX => ?_)
  show zZ p l e R s m args below meth c g 5 _ _ _ _ 0 0 [(0, .ref (gA g 0 0 0)), (1, .int (nI w)), (2, .ref t)] []
  refine z_iload_n hX dL_spells_0 1 rfl ?_
  refine z_aload_n hX dL_spells_1 2 rfl ?_
  refine z_callU1 hX (sJ0_length l hs (by omega)) (zCU.of cv_RL_133) (zs_recv hX hs) dL_spells_2 ⟨by omega, by decide, by omega⟩ rfl rfl (Nat.le_of_ble_eq_true rfl) ?_
  refine z_icmp_ne (tgt := 12) hX dL_spells_5 (by decide) (fun h5 => absurd h5 (fun q => q rfl)) (fun h5 => ?_)
  refine z_iconst (v := 1) hX dL_spells_8 (by decide) ?_
  refine z_goto (tgt := 13) hX dL_spells_9 (by decide) ?_
  refine z_istore_n (lv' := [(3, _), (0, _), (1, _), (2, _)]) hX dL_spells_13 (by decide) rfl ?_
  refine z_iconst (v := 0) hX dL_spells_14 (by decide) ?_
  refine z_istore (lv' := [(4, _), (3, _), (0, _), (1, _), (2, _)]) hX dL_spells_15 (by decide) rfl ?_
  refine z_widen (k2 := 1 * 0) (by omega) ?_
  have hS : ∀ (dz : Nat) (q : Nat), w - q = dz → q ≤ w → zZ p l e R s m args below meth c g 5 (zQ g κ ν ω (some (.int 1)) below args s 30) κ ν ω (1 * q) 17 [(0, .ref (gA g 0 0 0)), (1, .int (nI w)), (2, .ref t), (3, .int 1), (4, .int (nI q))] [] := by
    intro dz
    induction dz with
    | zero =>
      intro q hd hq1
      have hin : q = w := by omega
      refine z_iload hX dL_spells_17 4 rfl ?_
      refine z_aload_n hX dL_spells_19 2 rfl ?_
      refine z_callU1 hX (sJ0_length l hs (by omega)) (zCU.of cv_RL_133) (zs_recv hX hs) dL_spells_20 ⟨by omega, by decide, by omega⟩ rfl rfl (Nat.le_of_ble_eq_true rfl) ?_
      refine z_icmp_ge (tgt := 57) hX dL_spells_23 (by decide) (fun h23 => ?_) (fun h23 => absurd h23 (fun q => q (by rw [hin]; exact Int32.le_refl _)))
      refine z_iload_n hX dL_spells_57 3 rfl ?_
      refine z_if_eq (tgt := 75) hX dL_spells_58 (by decide) (fun h58 => absurd h58 (by decide)) (fun h58 => ?_)
      refine z_aload_n hX dL_spells_61 0 rfl ?_
      refine z_iload_n hX dL_spells_62 1 rfl ?_
      refine z_callW hX (out_writtenAt l hl0 h hw k0 (Or.inr (Int32.le_refl _))) cc_284 dL_spells_63 ⟨by omega, by decide, by omega⟩ rfl rfl (Nat.le_of_ble_eq_true rfl) ?_
      refine z_bipush (v := -11) hX dL_spells_66 (by decide) ?_
      refine z_icmp_ne (tgt := 75) hX dL_spells_68 (by decide) (fun h68 => absurd h68 (by decide)) (fun h68 => ?_)
      refine z_iconst (v := 1) hX dL_spells_71 (by decide) ?_
      refine z_goto (tgt := 76) hX dL_spells_72 (by decide) ?_
      exact z_iret hX dL_spells_76 (by omega) rfl rfl (fun _ h => h)
    | succ dz ih =>
      intro q hd hq1
      have hq : q < w := by omega
      obtain ⟨b, hb, eb, ef⟩ := hW q hq
      refine z_iload hX dL_spells_17 4 rfl ?_
      refine z_aload_n hX dL_spells_19 2 rfl ?_
      refine z_callU1 hX (sJ0_length l hs (by omega)) (zCU.of cv_RL_133) (zs_recv hX hs) dL_spells_20 ⟨by omega, by decide, by omega⟩ rfl rfl (Nat.le_of_ble_eq_true rfl) ?_
      refine z_icmp_ge (tgt := 57) hX dL_spells_23 (by decide) (fun h23 => absurd h23 (nle_i hq (by omega))) (fun h23 => ?_)
      refine z_iload_n hX dL_spells_26 3 rfl ?_
      refine z_if_eq (tgt := 57) hX dL_spells_27 (by decide) (fun h27 => absurd h27 (by decide)) (fun h27 => ?_)
      refine z_aload_n hX dL_spells_30 0 rfl ?_
      refine z_iload hX dL_spells_31 4 rfl ?_
      refine z_callW hX (in_writtenAt l hl0 h hq hw k0 hb eb) cc_284 dL_spells_33 ⟨by omega, by decide, by omega⟩ rfl rfl (Nat.le_of_ble_eq_true rfl) ?_
      refine z_aload_n hX dL_spells_36 2 rfl ?_
      refine z_iload hX dL_spells_37 4 rfl ?_
      refine z_callU1 hX (sJ0_charAt l hs (by omega) hasc hq) (zCU.of cv_RL_138) (zs_recv hX hs) dL_spells_39 ⟨by omega, by decide, by omega⟩ rfl rfl (Nat.le_of_ble_eq_true rfl) ?_
      refine z_isv ef ?_
      refine z_icmp_ne (tgt := 49) hX dL_spells_42 (by decide) (fun h42 => absurd h42 (fun q => q rfl)) (fun h42 => ?_)
      refine z_iconst (v := 1) hX dL_spells_45 (by decide) ?_
      refine z_goto (tgt := 50) hX dL_spells_46 (by decide) ?_
      refine z_istore_n (lv' := [(3, _), (0, _), (1, _), (2, _), (4, _)]) hX dL_spells_50 (by decide) rfl ?_
      refine z_iinc (v := nI (q + 1)) (lv' := [(4, _), (3, _), (0, _), (1, _), (2, _)]) hX dL_spells_51 4 rfl (nI_1 q) (by decide) rfl ?_
      refine z_goto (tgt := 17) hX dL_spells_54 (by decide) ?_
      refine z_sub [2, 3, 4, 1, 0] rfl ?_
      exact (z_widen (k2 := 1 * (q + 1)) (by omega) (ih (q + 1) (by omega) (by omega)))
  refine z_sub [2, 3, 4, 1, 0] rfl ?_
  exact (hS w 0 (by omega) (by omega))
/-- a lane is written: the class's own text -/
def wlK (κ : zKp) (b : zB) (a : Nat) : zKp := zWr κ (lnS b a (κ 1 0) 10).1 (lnS b a (κ 1 0) 10).2
theorem wl_RR {κ : zKp} {μ : zMu} (h : RR κ μ) {a : Nat} (ha : a < 3) : ∃ μ' : zMu, RR (wlK κ (μ 1) a) μ' ∧ μ' 1 = μ 1 := ⟨_, h.write (Nat.le_trans (ln_le 10) (by omega)) (fun q hq => by
  obtain ⟨b, hb, e⟩ := ln_ch h.bI ha 10 (by omega) q hq
  exact ⟨b, hb, e⟩), rfl⟩
set_option maxHeartbeats 4000000 in
set_option maxRecDepth 100000 in
theorem tx_lane {p : Program} {l : Launch} {e : Env} {R : Room} {s : State} {m : MethodId} {args : Array Value} {below : List Frame} {meth : Method} {c : Code} {Q : State → Prop} {g : zG} {mc lvl : Nat} {κ : zKp} {μ ν : zMu} {ω : zOm} {k : Nat} (hX : zX p l s m args meth c R g RL cL_texts 6 (some .boolean) lvl mc) (hlv : 22 < lvl) (hl0 : l.stackTraces = false) (h : RR κ μ) {bt : zB} (eb : μ 1 = bt) {a : Nat} (ha : a < 3) (hk : k + 1461 ≤ mc) (kk : ∀ om : zOm, ω.Sublist om → zZ p l e R s m args below meth c g 6 Q (wlK κ bt a) ν om (k + 1461) 2 [(0, .ref (gA g 0 0 0)), (1, .int (nI (a + 1)))] []) : zZ p l e R s m args below meth c g 6 Q κ ν ω k 2 [(0, .ref (gA g 0 0 0)), (1, .int (nI a))] [] := by
  subst eb
  refine z_iload_n hX dL_texts_2 1 rfl ?_
  refine z_iconst (v := 3) hX dL_texts_3 (by decide) ?_
  refine z_icmp_ge (tgt := 167) hX dL_texts_4 (by decide) (fun q => absurd q (nle_i (a := a) (b := 3) ha (by decide))) (fun _ => ?_)
  refine z_ldcW hX (i := 35) rfl dL_texts_7 ?_
  refine z_astore_n (lv' := [(2, _), (0, _), (1, _)]) hX dL_texts_10 (by decide) rfl ?_
  refine z_iconst (v := 0) hX dL_texts_11 (by decide) ?_
  refine z_istore_n (lv' := [(3, _), (2, _), (0, _), (1, _)]) hX dL_texts_12 (by decide) rfl ?_
  obtain ⟨μ2, hR2, hm2⟩ := wl_RR h ha
  have hn20 : (lnS (μ 1) a (κ 1 0) 10).1 ≤ 20 := Nat.le_trans (ln_le 10) (by omega)
  have hL : ∀ (dz x t : Nat) (om : zOm), 10 - x = dz → x ≤ 10 → ω.Sublist om → txP2 g (μ 1) a x (κ 1 0) om t → zZ p l e R s m args below meth c g 6 Q κ ν om (k + 143 * x) 13 [(0, .ref (gA g 0 0 0)), (1, .int (nI a)), (2, .ref t), (3, .int (nI x))] [] := by
    intro dz
    induction dz with
    | zero =>
      intro x t om hd hx hsub hT
      have hx10 : x = 10 := by omega
      subst hx10
      obtain ⟨u, f, hs, hf⟩ := hT
      refine z_iload_n hX dL_texts_13 3 rfl ?_
      refine z_bipush (v := 10) hX dL_texts_14 (by decide) ?_
      refine z_icmp_ge (tgt := 146) hX dL_texts_16 (by decide) (fun _ => ?_) (fun q => absurd (Int32.le_refl _) q)
      refine z_aload_n hX dL_texts_146 0 rfl ?_
      refine z_aload_n hX dL_texts_147 0 rfl ?_
      refine z_iload_n hX dL_texts_148 1 rfl ?_
      refine z_callW hX (hk_writeLane l (by decide) (ok_X4_writeLane l h.ba.1 h.ba.2.2 h.bI rfl ha)) cc_309 dL_texts_149 ⟨by omega, by decide, by omega⟩ rfl rfl (Nat.le_of_ble_eq_true rfl) ?_
      refine z_aload_n hX dL_texts_152 2 rfl ?_
      refine z_callS1 hX (lw_spells l hl0 hR2 hs hn20 rfl (fun q hq => by
        obtain ⟨b, hb, e⟩ := ln_ch h.bI ha 10 (by omega) q hq
        exact ⟨b, hb, e, (hf q hq).trans e⟩)) cs_RL_311 dL_texts_153 ⟨by omega, by decide, by omega⟩ rfl rfl (Nat.le_of_ble_eq_true rfl) ?_
      refine z_if_ne (tgt := 161) hX dL_texts_156 (by decide) (fun _ => ?_) (fun q => absurd q (by decide))
      refine z_iinc (v := nI (a + 1)) (lv' := [(1, _), (0, _), (2, _), (3, _)]) hX dL_texts_161 1 rfl (nI_1 a) (by decide) rfl ?_
      refine z_goto (tgt := 2) hX dL_texts_164 (by decide) ?_
      refine z_sub [1, 0] rfl ?_
      exact z_widen (k2 := k + 1461) (by omega) (kk om hsub)
    | succ dz ih =>
      intro x t om hd hx hsub hT
      refine tx_col hX hlv hl0 h ha (by omega) hT (by omega) (fun om2 t2 q1 q2 => ?_)
      exact ih (x + 1) t2 om2 (by omega) (by omega) (hsub.trans q1) q2
  refine z_sub [2, 3, 1, 0] rfl ?_
  exact hL 10 0 _ ω (by omega) (by omega) (List.Sublist.refl _) ⟨_, _, sD.const (by decide : 35 < 45), fun j hj => absurd hj (Nat.not_lt_zero j)⟩
def txK (κ : zKp) (b : zB) : zKp := wlK (wlK (wlK κ b 0) b 1) b 2
theorem tx_RR {κ : zKp} {μ : zMu} (h : RR κ μ) : ∃ μ' : zMu, RR (txK κ (μ 1)) μ' ∧ μ' 1 = μ 1 := by
  obtain ⟨m1, h1, e1⟩ := wl_RR h (a := 0) (by decide)
  obtain ⟨m2, h2, e2⟩ := wl_RR h1 (a := 1) (by decide)
  rw [e1] at h2
  obtain ⟨m3, h3, e3⟩ := wl_RR h2 (a := 2) (by decide)
  rw [e2, e1] at h3
  exact ⟨m3, h3, e3.trans (e2.trans e1)⟩
set_option maxHeartbeats 4000000 in
set_option maxRecDepth 100000 in
theorem lw_texts (l : Launch) (hl0 : l.stackTraces = false) {g : zG} {κ : zKp} {μ ν : zMu} {ω : zOm} (h : RR κ μ) : zM l g yL_texts cL_texts 6 (some .boolean) 23 4400 [.ref (gA g 0 0 0)] κ ν ω (txK κ (μ 1)) ν ω (some (.int 1)) := by
  obtain ⟨m1, h1, e1⟩ := wl_RR h (a := 0) (by decide)
  obtain ⟨m2, h2, e2⟩ := wl_RR h1 (a := 1) (by decide)
  rw [e1] at h2
  have e21 : m2 1 = μ 1 := e2.trans e1
  obtain ⟨m3, h3, e3⟩ := wl_RR h2 (a := 2) (by decide)
  rw [e21] at h3
  refine zM_of (by decide) (Nat.le_of_ble_eq_true rfl) (fun p e R s m args below meth c hX => ?_)
  show zZ p l e R s m args below meth c g 6 _ _ _ _ 0 0 [(0, .ref (gA g 0 0 0))] []
  refine z_iconst (v := 0) hX dL_texts_0 (by decide) ?_
  refine z_istore_n (lv' := [(1, _), (0, _)]) hX dL_texts_1 (by decide) rfl ?_
  refine z_sub [1, 0] rfl ?_
  refine tx_lane hX (by omega) hl0 h rfl (a := 0) (k := 0) (by omega) (by omega) (fun o1 s1 => ?_)
  refine tx_lane hX (by omega) hl0 h1 e1 (a := 1) (by omega) (by omega) (fun o2 s2 => ?_)
  refine tx_lane hX (by omega) hl0 h2 e21 (a := 2) (by omega) (by omega) (fun o3 s3 => ?_)
  refine z_iload_n hX dL_texts_2 1 rfl ?_
  refine z_iconst (v := 3) hX dL_texts_3 (by decide) ?_
  refine z_icmp_ge (tgt := 167) hX dL_texts_4 (by decide) (fun _ => ?_) (fun q => absurd (by decide) q)
  refine z_aload_n hX dL_texts_167 0 rfl ?_
  refine z_iconst (v := 3) hX dL_texts_168 (by decide) ?_
  refine z_callW hX (out_writeLane l hl0 h3 (by decide)) cc_309 dL_texts_169 ⟨by omega, by decide, by omega⟩ rfl rfl (Nat.le_of_ble_eq_true rfl) ?_
  refine z_bipush (v := -11) hX dL_texts_172 (by decide) ?_
  refine z_icmp_ne (tgt := 191) hX dL_texts_174 (by decide) (fun q => absurd rfl q) (fun _ => ?_)
  refine z_aload_n hX dL_texts_177 0 rfl ?_
  refine z_iconst (v := -1) hX dL_texts_178 (by decide) ?_
  refine z_callW hX (out_writeLane l hl0 h3 (by decide)) cc_309 dL_texts_179 ⟨by omega, by decide, by omega⟩ rfl rfl (Nat.le_of_ble_eq_true rfl) ?_
  refine z_bipush (v := -11) hX dL_texts_182 (by decide) ?_
  refine z_icmp_ne (tgt := 191) hX dL_texts_184 (by decide) (fun q => absurd rfl q) (fun _ => ?_)
  refine z_iconst (v := 1) hX dL_texts_187 (by decide) ?_
  refine z_goto (tgt := 192) hX dL_texts_188 (by decide) ?_
  exact z_iret hX dL_texts_192 (by omega) rfl rfl (fun _ h => WW_sub (s1.trans (s2.trans s3)) h)
end ZTX
