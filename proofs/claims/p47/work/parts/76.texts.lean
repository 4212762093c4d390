section ZTX
theorem fit_0 : sb_Fit (fun _ => 0) := fun _ => (by decide : fits .byte (.int 0) = true)
set_option maxHeartbeats 4000000 in
set_option maxRecDepth 100000 in
theorem tx_pre49 {p : Program} {l : Launch} {e : Env} {R : Room} {s : State} {m : MethodId} {args : Array Value} {below : List Frame} {meth : Method} {c : Code} {Q : State → Prop} {g : zG} {mc lvl : Nat} {κ : zKp} {ν : zMu} {ω : zOm} {k : Nat} (hX : zX p l s m args meth c R g RL cL_texts 6 (some .boolean) lvl mc) (hlv : 22 < lvl) {a t u N : Nat} {f : Nat → Int32} {y z i2 : Int32} (hs : sD g ω t u N f) (hc : ascB f N) (hN : N ≤ 60) (hk : k + 26 ≤ mc) (kk : ∀ (b v M : Nat) (f2 : Nat → Int32), N ≤ M → M ≤ 132 → sb_Fit f2 → (∀ j, j < N → f2 j = f j) → zZ p l e R s m args below meth c g 6 Q κ ν (sbW g b v N M f2 ω) (k + 26) 60 [(0, .ref (gA g 0 0 0)), (1, .int (nI a)), (2, .ref t), (3, .int y), (4, .int z), (5, .int i2)] [.ref b]) : zZ p l e R s m args below meth c g 6 Q κ ν ω k 49 [(0, .ref (gA g 0 0 0)), (1, .int (nI a)), (2, .ref t), (3, .int y), (4, .int z), (5, .int i2)] [] := by
  refine zq_new hX (ci := 1) (C := RJ4) (T := TJ4) (NN := 4) (ty0 := tyJ4) (fs := [.null, .int 0, .int 0, .int 0]) win_J4 tyJ4_ok (gW_I 980 (by decide +kernel) rfl) (gW_I 981 (by decide +kernel) rfl) (gW_I 24 (by decide +kernel) rfl) rfl (fun j hj => by rcases (show j = 0 ∨ j = 1 ∨ j = 2 ∨ j = 3 by omega) with rfl | rfl | rfl | rfl <;> rfl) (by omega) (by decide) dL_texts_49 (fun b => ?_)
  refine z_dup hX dL_texts_52 rfl ?_
  refine zE_callI (nA := 0) hX (bJ4_init l) (gW_I 984 rfl rfl) (gW_I 24 (by decide +kernel) rfl) (gW_I 982 (by decide +kernel) rfl) (gW_I 983 (by decide +kernel) rfl) rfl ⟨by decide, by decide, by decide +kernel⟩ dL_texts_53 ⟨by omega, by decide, by omega⟩ rfl rfl (Nat.le_of_ble_eq_true rfl) (fun w r hw => ?_)
  obtain ⟨rfl, v, rfl⟩ := hw
  refine z_aload_n hX dL_texts_56 2 rfl ?_
  refine zE_callV hX (bJ4_appendS l hs hc (by omega) (by omega) (by omega) fit_0) (zCU.of cv_RL_294) (zRv_at hX (j := 0) rfl rfl) dL_texts_57 ⟨by omega, by decide, by omega⟩ rfl rfl (Nat.le_of_ble_eq_true rfl) (fun w r hw => ?_)
  obtain ⟨rfl, v2, M2, f2, rfl, h1, h2, h3, h4, h5⟩ := hw
  rw [Nat.zero_add] at h1 ⊢
  refine z_widen (k2 := k + 26) (by omega) ?_
  exact kk b v2 M2 f2 h1 h2 h3 (fun j hj => by have q := h5 j hj; rw [Nat.zero_add] at q; exact q)
set_option maxHeartbeats 4000000 in
set_option maxRecDepth 100000 in
theorem tx_pre99 {p : Program} {l : Launch} {e : Env} {R : Room} {s : State} {m : MethodId} {args : Array Value} {below : List Frame} {meth : Method} {c : Code} {Q : State → Prop} {g : zG} {mc lvl : Nat} {κ : zKp} {ν : zMu} {ω : zOm} {k : Nat} (hX : zX p l s m args meth c R g RL cL_texts 6 (some .boolean) lvl mc) (hlv : 22 < lvl) {a t u N : Nat} {f : Nat → Int32} {y z i2 : Int32} (hs : sD g ω t u N f) (hc : ascB f N) (hN : N ≤ 60) (hk : k + 26 ≤ mc) (kk : ∀ (b v M : Nat) (f2 : Nat → Int32), N ≤ M → M ≤ 132 → sb_Fit f2 → (∀ j, j < N → f2 j = f j) → zZ p l e R s m args below meth c g 6 Q κ ν (sbW g b v N M f2 ω) (k + 26) 110 [(0, .ref (gA g 0 0 0)), (1, .int (nI a)), (2, .ref t), (3, .int y), (4, .int z), (5, .int i2)] [.ref b]) : zZ p l e R s m args below meth c g 6 Q κ ν ω k 99 [(0, .ref (gA g 0 0 0)), (1, .int (nI a)), (2, .ref t), (3, .int y), (4, .int z), (5, .int i2)] [] := by
  refine zq_new hX (ci := 1) (C := RJ4) (T := TJ4) (NN := 4) (ty0 := tyJ4) (fs := [.null, .int 0, .int 0, .int 0]) win_J4 tyJ4_ok (gW_I 980 (by decide +kernel) rfl) (gW_I 981 (by decide +kernel) rfl) (gW_I 24 (by decide +kernel) rfl) rfl (fun j hj => by rcases (show j = 0 ∨ j = 1 ∨ j = 2 ∨ j = 3 by omega) with rfl | rfl | rfl | rfl <;> rfl) (by omega) (by decide) dL_texts_99 (fun b => ?_)
  refine z_dup hX dL_texts_102 rfl ?_
  refine zE_callI (nA := 0) hX (bJ4_init l) (gW_I 984 rfl rfl) (gW_I 24 (by decide +kernel) rfl) (gW_I 982 (by decide +kernel) rfl) (gW_I 983 (by decide +kernel) rfl) rfl ⟨by decide, by decide, by decide +kernel⟩ dL_texts_103 ⟨by omega, by decide, by omega⟩ rfl rfl (Nat.le_of_ble_eq_true rfl) (fun w r hw => ?_)
  obtain ⟨rfl, v, rfl⟩ := hw
  refine z_aload_n hX dL_texts_106 2 rfl ?_
  refine zE_callV hX (bJ4_appendS l hs hc (by omega) (by omega) (by omega) fit_0) (zCU.of cv_RL_294) (zRv_at hX (j := 0) rfl rfl) dL_texts_107 ⟨by omega, by decide, by omega⟩ rfl rfl (Nat.le_of_ble_eq_true rfl) (fun w r hw => ?_)
  obtain ⟨rfl, v2, M2, f2, rfl, h1, h2, h3, h4, h5⟩ := hw
  rw [Nat.zero_add] at h1 ⊢
  refine z_widen (k2 := k + 26) (by omega) ?_
  exact kk b v2 M2 f2 h1 h2 h3 (fun j hj => by have q := h5 j hj; rw [Nat.zero_add] at q; exact q)
set_option maxHeartbeats 4000000 in
set_option maxRecDepth 100000 in
theorem tx_str95 {p : Program} {l : Launch} {e : Env} {R : Room} {s : State} {m : MethodId} {args : Array Value} {below : List Frame} {meth : Method} {c : Code} {Q : State → Prop} {g : zG} {mc lvl : Nat} {κ : zKp} {ν : zMu} {ω : zOm} {k : Nat} (hX : zX p l s m args meth c R g RL cL_texts 6 (some .boolean) lvl mc) (hlv : 22 < lvl) {a N : Nat} {f : Nat → Int32} {y z i2 : Int32} {b v M t2 : Nat} (hN : N ≤ M) (hM : M ≤ 132) (hf : sb_Fit f) (hk : k + 23 ≤ mc) (kk : ∀ (om : zOm) (t u : Nat) (f2 : Nat → Int32), sD g om t u N f2 → ω.Sublist om → (∀ j, j < N → f2 j = f j) → zZ p l e R s m args below meth c g 6 Q κ ν om (k + 23) 99 [(0, .ref (gA g 0 0 0)), (1, .int (nI a)), (2, .ref t), (3, .int y), (4, .int z), (5, .int i2)] []) : zZ p l e R s m args below meth c g 6 Q κ ν (sbW g b v N M f ω) k 95 [(0, .ref (gA g 0 0 0)), (1, .int (nI a)), (2, .ref t2), (3, .int y), (4, .int z), (5, .int i2)] [.ref b] := by
  refine zE_callV hX (bJ4_toString l hf hN hM) (zCU.of cv_RL_303) (zRv_at hX (j := 0) rfl rfl) dL_texts_95 ⟨by omega, by decide, by omega⟩ rfl rfl (Nat.le_of_ble_eq_true rfl) (fun w r hw => ?_)
  obtain ⟨x, rfl, u, f2, rfl, h1⟩ := hw
  refine z_astore_n (lv' := [(2, _), (0, _), (1, _), (3, _), (4, _), (5, _)]) hX dL_texts_98 (by decide) rfl ?_
  refine z_sub [1, 2, 0, 3, 4, 5] rfl ?_
  exact kk _ x u f2 sD.head (List.Sublist.cons _ (List.Sublist.cons _ (List.Sublist.cons _ (List.sublist_cons_self _ _)))) h1
set_option maxHeartbeats 4000000 in
set_option maxRecDepth 100000 in
theorem tx_str136 {p : Program} {l : Launch} {e : Env} {R : Room} {s : State} {m : MethodId} {args : Array Value} {below : List Frame} {meth : Method} {c : Code} {Q : State → Prop} {g : zG} {mc lvl : Nat} {κ : zKp} {ν : zMu} {ω : zOm} {k : Nat} (hX : zX p l s m args meth c R g RL cL_texts 6 (some .boolean) lvl mc) (hlv : 22 < lvl) {a N : Nat} {f : Nat → Int32} {y z i2 : Int32} {b v M t2 : Nat} (hN : N ≤ M) (hM : M ≤ 132) (hf : sb_Fit f) (hk : k + 23 ≤ mc) (kk : ∀ (om : zOm) (t u : Nat) (f2 : Nat → Int32), sD g om t u N f2 → ω.Sublist om → (∀ j, j < N → f2 j = f j) → zZ p l e R s m args below meth c g 6 Q κ ν om (k + 23) 140 [(0, .ref (gA g 0 0 0)), (1, .int (nI a)), (2, .ref t), (3, .int y), (4, .int z), (5, .int i2)] []) : zZ p l e R s m args below meth c g 6 Q κ ν (sbW g b v N M f ω) k 136 [(0, .ref (gA g 0 0 0)), (1, .int (nI a)), (2, .ref t2), (3, .int y), (4, .int z), (5, .int i2)] [.ref b] := by
  refine zE_callV hX (bJ4_toString l hf hN hM) (zCU.of cv_RL_303) (zRv_at hX (j := 0) rfl rfl) dL_texts_136 ⟨by omega, by decide, by omega⟩ rfl rfl (Nat.le_of_ble_eq_true rfl) (fun w r hw => ?_)
  obtain ⟨x, rfl, u, f2, rfl, h1⟩ := hw
  refine z_astore_n (lv' := [(2, _), (0, _), (1, _), (3, _), (4, _), (5, _)]) hX dL_texts_139 (by decide) rfl ?_
  refine z_sub [1, 2, 0, 3, 4, 5] rfl ?_
  exact kk _ x u f2 sD.head (List.Sublist.cons _ (List.Sublist.cons _ (List.Sublist.cons _ (List.sublist_cons_self _ _)))) h1
theorem lp_14 : sB 14 = [112, 110, 99, 115] := rfl
theorem lp_37 : sB 37 = [80, 78, 67, 83] := rfl
theorem lp_39 : sB 39 = [33] := rfl
theorem lp_35 : sB 35 = [] := rfl
theorem kin_q {x : Int32} (h : x = 112 ∨ x = 110 ∨ x = 99 ∨ x = 115) : ∃ q, q < 4 ∧ x = sBa 14 q ∧ x - 32 = sBa 37 q ∧ (∀ j, j < q → ¬ sBa 14 j = sBa 14 q) ∧ ∃ b, b < 128 ∧ x = nI b ∧ ∃ d, d < 128 ∧ x - 32 = nI d := by
  rcases h with rfl | rfl | rfl | rfl
  · exact ⟨0, by decide, rfl, rfl, by decide, 112, by decide, rfl, 80, by decide, rfl⟩
  · exact ⟨1, by decide, rfl, rfl, by decide, 110, by decide, rfl, 78, by decide, rfl⟩
  · exact ⟨2, by decide, rfl, rfl, by decide, 99, by decide, rfl, 67, by decide, rfl⟩
  · exact ⟨3, by decide, rfl, rfl, by decide, 115, by decide, rfl, 83, by decide, rfl⟩
theorem asc_14 : ascB (sBa 14) 4 := fun q hq => by
  rcases (show q = 0 ∨ q = 1 ∨ q = 2 ∨ q = 3 by omega) with rfl | rfl | rfl | rfl
  · exact ⟨112, by decide, rfl⟩
  · exact ⟨110, by decide, rfl⟩
  · exact ⟨99, by decide, rfl⟩
  · exact ⟨115, by decide, rfl⟩
theorem asc_37 : ascB (sBa 37) 4 := fun q hq => by
  rcases (show q = 0 ∨ q = 1 ∨ q = 2 ∨ q = 3 by omega) with rfl | rfl | rfl | rfl
  · exact ⟨80, by decide, rfl⟩
  · exact ⟨78, by decide, rfl⟩
  · exact ⟨67, by decide, rfl⟩
  · exact ⟨83, by decide, rfl⟩
theorem lt_b {b : zB} {j : Nat} (hL : lineW b j) : ∃ x, x < 128 ∧ ltB b j = nI x := by
  obtain ⟨x, hx, e⟩ := lt_of hL
  exact ⟨x, by omega, e⟩
set_option maxHeartbeats 4000000 in
set_option maxRecDepth 100000 in
theorem tx_none {p : Program} {l : Launch} {e : Env} {R : Room} {s : State} {m : MethodId} {args : Array Value} {below : List Frame} {meth : Method} {c : Code} {Q : State → Prop} {g : zG} {mc lvl : Nat} {κ : zKp} {ν : zMu} {ω : zOm} {k : Nat} (hX : zX p l s m args meth c R g RL cL_texts 6 (some .boolean) lvl mc) (hlv : 22 < lvl) {a t u N : Nat} {f : Nat → Int32} {y z i2 : Int32} {b : Nat} (hz : z < 0) (kk : zZ p l e R s m args below meth c g 6 Q κ ν ω k 92 [(0, .ref (gA g 0 0 0)), (1, .int (nI a)), (2, .ref t), (3, .int y), (4, .int z), (5, .int i2)] [.int (nI 46), .ref b]) : zZ p l e R s m args below meth c g 6 Q κ ν ω k 60 [(0, .ref (gA g 0 0 0)), (1, .int (nI a)), (2, .ref t), (3, .int y), (4, .int z), (5, .int i2)] [.ref b] := by
  refine z_iload hX dL_texts_60 4 rfl ?_
  refine z_if_ge (tgt := 70) hX dL_texts_62 (by decide) (fun q => absurd hz (Int32.not_lt.mpr q)) (fun _ => ?_)
  refine z_bipush (v := nI 46) hX dL_texts_65 (by decide) ?_
  exact z_goto (tgt := 92) hX dL_texts_67 (by decide) kk
theorem tx_some {p : Program} {l : Launch} {e : Env} {R : Room} {s : State} {m : MethodId} {args : Array Value} {below : List Frame} {meth : Method} {c : Code} {Q : State → Prop} {g : zG} {mc lvl : Nat} {κ : zKp} {μ ν : zMu} {ω : zOm} {k : Nat} (hX : zX p l s m args meth c R g RL cL_texts 6 (some .boolean) lvl mc) (hlv : 22 < lvl) (h : RR κ μ) {a t u N : Nat} {f : Nat → Int32} {y z i2 : Int32} {b j q : Nat} (hj : j < bn (μ 1)) (ez : z = nI j) (hq : q < 4) (e1 : bf (μ 1) j 3 = sBa 14 q) (e2 : bf (μ 1) j 3 - 32 = sBa 37 q) (ei : i2 = nI q) (hk : k ≤ mc) (kk : zZ p l e R s m args below meth c g 6 Q κ ν ω k 92 [(0, .ref (gA g 0 0 0)), (1, .int (nI a)), (2, .ref t), (3, .int y), (4, .int z), (5, .int i2)] [.int (ltB (μ 1) j), .ref b]) : zZ p l e R s m args below meth c g 6 Q κ ν ω k 60 [(0, .ref (gA g 0 0 0)), (1, .int (nI a)), (2, .ref t), (3, .int y), (4, .int z), (5, .int i2)] [.ref b] := by
  have h12 := h.n.1
  subst ez ei
  refine z_iload hX dL_texts_60 4 rfl ?_
  refine z_if_ge (tgt := 70) hX dL_texts_62 (by decide) (fun _ => ?_) (fun q => absurd (ge_i (by omega)) q)
  refine z_aload_n hX dL_texts_70 0 rfl ?_
  refine z_iload hX dL_texts_71 4 rfl ?_
  refine z_callV1 hX (dm_sideOf l h hj) cv_RL_30 zRc0 dL_texts_73 ⟨by omega, by decide, by omega⟩ rfl rfl (Nat.le_of_ble_eq_true rfl) ?_
  refine z_if_ne (tgt := 84) hX dL_texts_76 (by decide) (fun h0 => ?_) (fun h0 => ?_)
  · refine z_ldcW hX (i := 37) rfl dL_texts_84 ?_
    refine z_iload hX dL_texts_87 5 rfl ?_
    refine zk_callV1 hX (by decide : 37 < 45) rfl (sJ0_charAt l (sD.const (by decide)) (by decide) asc_37 hq) cv_RL_138 dL_texts_89 ⟨by omega, by decide, by omega⟩ rfl rfl (Nat.le_of_ble_eq_true rfl) ?_
    have e3 : ltB (μ 1) j = sBa 37 q := by unfold ltB; rw [if_neg h0, e2]
    rw [e3] at kk
    exact kk
  · refine zk_ldc hX (i := 14) rfl dL_texts_79 ?_
    refine z_goto (tgt := 87) hX dL_texts_81 (by decide) ?_
    refine z_iload hX dL_texts_87 5 rfl ?_
    refine zk_callV1 hX (by decide : 14 < 45) rfl (sJ0_charAt l (sD.const (by decide)) (by decide) asc_14 hq) cv_RL_138 dL_texts_89 ⟨by omega, by decide, by omega⟩ rfl rfl (Nat.le_of_ble_eq_true rfl) ?_
    have e3 : ltB (μ 1) j = sBa 14 q := by unfold ltB; rw [if_pos h0, e1]
    rw [e3] at kk
    exact kk
/-- the first joining: the text and its sign -/
theorem tx_A {p : Program} {l : Launch} {e : Env} {R : Room} {s : State} {m : MethodId} {args : Array Value} {below : List Frame} {meth : Method} {c : Code} {Q : State → Prop} {g : zG} {mc lvl : Nat} {κ : zKp} {ν : zMu} {ω : zOm} {k : Nat} (hX : zX p l s m args meth c R g RL cL_texts 6 (some .boolean) lvl mc) (hlv : 22 < lvl) {a t u N : Nat} {f : Nat → Int32} {y z i2 : Int32} (hs : sD g ω t u N f) (hc : ascB f N) (hN : N ≤ 60) (hk : k + 71 ≤ mc) {x : Nat} (hx : x < 128) (hch : ∀ (kz b : Nat) (om : zOm), kz ≤ mc → zZ p l e R s m args below meth c g 6 Q κ ν om kz 92 [(0, .ref (gA g 0 0 0)), (1, .int (nI a)), (2, .ref t), (3, .int y), (4, .int z), (5, .int i2)] [.int (nI x), .ref b] → zZ p l e R s m args below meth c g 6 Q κ ν om kz 60 [(0, .ref (gA g 0 0 0)), (1, .int (nI a)), (2, .ref t), (3, .int y), (4, .int z), (5, .int i2)] [.ref b]) (kk : ∀ (om : zOm) (t u : Nat) (f2 : Nat → Int32), sD g om t u (N + 1) f2 → ω.Sublist om → (∀ j, j < N → f2 j = f j) → f2 N = nI x → zZ p l e R s m args below meth c g 6 Q κ ν om (k + 71) 99 [(0, .ref (gA g 0 0 0)), (1, .int (nI a)), (2, .ref t), (3, .int y), (4, .int z), (5, .int i2)] []) : zZ p l e R s m args below meth c g 6 Q κ ν ω k 49 [(0, .ref (gA g 0 0 0)), (1, .int (nI a)), (2, .ref t), (3, .int y), (4, .int z), (5, .int i2)] [] := by
  refine tx_pre49 hX hlv hs hc hN (by omega) (fun b v M f2 h1 h2 h3 h4 => ?_)
  refine hch _ b _ (by omega) ?_
  refine zE_callV hX (bJ4_appendC l hx h1 (by omega) h2 h3) (zCU.of cv_RL_300) (zRv_at hX (j := 0) rfl rfl) dL_texts_92 ⟨by omega, by decide, by omega⟩ rfl rfl (Nat.le_of_ble_eq_true rfl) (fun w r hw => ?_)
  obtain ⟨rfl, v2, M2, f3, rfl, q1, q2, q3, q4, q5⟩ := hw
  refine tx_str95 hX hlv q1 q2 q3 (by omega) (fun om t2 u2 f4 w1 w2 w3 => ?_)
  exact kk om t2 u2 f4 w1 w2 (fun j hj => (w3 j (by omega)).trans ((q4 j hj).trans (h4 j hj))) ((w3 N (by omega)).trans (q5 0 (by decide)))
/-- the second: the mark of those who flee, or nothing -/
theorem tx_B {p : Program} {l : Launch} {e : Env} {R : Room} {s : State} {m : MethodId} {args : Array Value} {below : List Frame} {meth : Method} {c : Code} {Q : State → Prop} {g : zG} {mc lvl : Nat} {κ : zKp} {ν : zMu} {ω : zOm} {k : Nat} (hX : zX p l s m args meth c R g RL cL_texts 6 (some .boolean) lvl mc) (hlv : 22 < lvl) {a t u N : Nat} {f : Nat → Int32} {y z i2 : Int32} {K i : Nat} (hi : i < 45) (eK : (sB i).length = K) (hK : K ≤ 1) (ha : ascB (sBa i) K) (hs : sD g ω t u N f) (hc : ascB f N) (hN : N ≤ 60) (hk : k + 71 ≤ mc) (hch : ∀ (kz b : Nat) (om : zOm), kz ≤ mc → zZ p l e R s m args below meth c g 6 Q κ ν om kz 133 [(0, .ref (gA g 0 0 0)), (1, .int (nI a)), (2, .ref t), (3, .int y), (4, .int z), (5, .int i2)] [.ref (gAK g i), .ref b] → zZ p l e R s m args below meth c g 6 Q κ ν om kz 110 [(0, .ref (gA g 0 0 0)), (1, .int (nI a)), (2, .ref t), (3, .int y), (4, .int z), (5, .int i2)] [.ref b]) (kk : ∀ (om : zOm) (t u : Nat) (f2 : Nat → Int32), sD g om t u (N + K) f2 → ω.Sublist om → (∀ j, j < N → f2 j = f j) → (∀ j, j < K → f2 (N + j) = sBa i j) → zZ p l e R s m args below meth c g 6 Q κ ν om (k + 71) 140 [(0, .ref (gA g 0 0 0)), (1, .int (nI a)), (2, .ref t), (3, .int y), (4, .int z), (5, .int i2)] []) : zZ p l e R s m args below meth c g 6 Q κ ν ω k 99 [(0, .ref (gA g 0 0 0)), (1, .int (nI a)), (2, .ref t), (3, .int y), (4, .int z), (5, .int i2)] [] := by
  refine tx_pre99 hX hlv hs hc hN (by omega) (fun b v M f2 h1 h2 h3 h4 => ?_)
  refine hch _ b _ (by omega) ?_
  have hs2 : sD g ω (gAK g i) (gAV g i) K (sBa i) := by rw [← eK]; exact sD.const hi
  refine zE_callV hX (bJ4_appendS l hs2 ha h1 (by omega) h2 h3) (zCU.of cv_RL_294) (zRv_at hX (j := 0) rfl rfl) dL_texts_133 ⟨by omega, by decide, by omega⟩ rfl rfl (Nat.le_of_ble_eq_true rfl) (fun w r hw => ?_)
  obtain ⟨rfl, v2, M2, f3, rfl, q1, q2, q3, q4, q5⟩ := hw
  refine tx_str136 hX hlv q1 q2 q3 (by omega) (fun om t2 u2 f4 w1 w2 w3 => ?_)
  exact kk om t2 u2 f4 w1 w2 (fun j hj => (w3 j (by omega)).trans ((q4 j hj).trans (h4 j hj))) (fun j hj => (w3 (N + j) (by omega)).trans (q5 j hj))
set_option maxHeartbeats 4000000 in
set_option maxRecDepth 100000 in
theorem tx_mark {p : Program} {l : Launch} {e : Env} {R : Room} {s : State} {m : MethodId} {args : Array Value} {below : List Frame} {meth : Method} {c : Code} {Q : State → Prop} {g : zG} {mc lvl : Nat} {κ : zKp} {μ ν : zMu} {ω : zOm} {k : Nat} (hX : zX p l s m args meth c R g RL cL_texts 6 (some .boolean) lvl mc) (hlv : 22 < lvl) (h : RR κ μ) {a t u N : Nat} {f : Nat → Int32} {y z i2 : Int32} {b j : Nat} (hj : j < bn (μ 1)) (ez : z = nI j) (h7 : bf (μ 1) j 7 = 1) (hk : k ≤ mc) (kk : zZ p l e R s m args below meth c g 6 Q κ ν ω k 133 [(0, .ref (gA g 0 0 0)), (1, .int (nI a)), (2, .ref t), (3, .int y), (4, .int z), (5, .int i2)] [.ref (gAK g 39), .ref b]) : zZ p l e R s m args below meth c g 6 Q κ ν ω k 110 [(0, .ref (gA g 0 0 0)), (1, .int (nI a)), (2, .ref t), (3, .int y), (4, .int z), (5, .int i2)] [.ref b] := by
  have h12 := h.n.1
  subst ez
  refine z_iload hX dL_texts_110 4 rfl ?_
  refine z_if_lt (tgt := 130) hX dL_texts_112 (by decide) (fun q => absurd q (nI_pos (by omega))) (fun _ => ?_)
  refine z_aload_n hX dL_texts_115 0 rfl ?_
  refine z_iload hX dL_texts_116 4 rfl ?_
  refine z_callV1 hX (dm_isRouted l h hj) cv_RL_58 zRc0 dL_texts_118 ⟨by omega, by decide, by omega⟩ rfl rfl (Nat.le_of_ble_eq_true rfl) ?_
  refine z_if_eqB (tgt := 130) hX dL_texts_121 (by decide) (fun q => absurd h7 q) (fun _ => ?_)
  refine z_ldcW hX (i := 39) rfl dL_texts_124 ?_
  exact z_goto (tgt := 133) hX dL_texts_127 (by decide) kk
theorem tx_plain {p : Program} {l : Launch} {e : Env} {R : Room} {s : State} {m : MethodId} {args : Array Value} {below : List Frame} {meth : Method} {c : Code} {Q : State → Prop} {g : zG} {mc lvl : Nat} {κ : zKp} {μ ν : zMu} {ω : zOm} {k : Nat} (hX : zX p l s m args meth c R g RL cL_texts 6 (some .boolean) lvl mc) (hlv : 22 < lvl) (h : RR κ μ) {a t u N : Nat} {f : Nat → Int32} {y z i2 : Int32} {b j : Nat} (hj : j < bn (μ 1)) (ez : z = nI j) (h7 : ¬ bf (μ 1) j 7 = 1) (hk : k ≤ mc) (kk : zZ p l e R s m args below meth c g 6 Q κ ν ω k 133 [(0, .ref (gA g 0 0 0)), (1, .int (nI a)), (2, .ref t), (3, .int y), (4, .int z), (5, .int i2)] [.ref (gAK g 35), .ref b]) : zZ p l e R s m args below meth c g 6 Q κ ν ω k 110 [(0, .ref (gA g 0 0 0)), (1, .int (nI a)), (2, .ref t), (3, .int y), (4, .int z), (5, .int i2)] [.ref b] := by
  have h12 := h.n.1
  subst ez
  refine z_iload hX dL_texts_110 4 rfl ?_
  refine z_if_lt (tgt := 130) hX dL_texts_112 (by decide) (fun q => absurd q (nI_pos (by omega))) (fun _ => ?_)
  refine z_aload_n hX dL_texts_115 0 rfl ?_
  refine z_iload hX dL_texts_116 4 rfl ?_
  refine z_callV1 hX (dm_isRouted l h hj) cv_RL_58 zRc0 dL_texts_118 ⟨by omega, by decide, by omega⟩ rfl rfl (Nat.le_of_ble_eq_true rfl) ?_
  refine z_if_eqB (tgt := 130) hX dL_texts_121 (by decide) (fun _ => ?_) (fun q => absurd q h7)
  exact z_ldcW hX (i := 35) rfl dL_texts_130 kk
theorem tx_empty {p : Program} {l : Launch} {e : Env} {R : Room} {s : State} {m : MethodId} {args : Array Value} {below : List Frame} {meth : Method} {c : Code} {Q : State → Prop} {g : zG} {mc lvl : Nat} {κ : zKp} {ν : zMu} {ω : zOm} {k : Nat} (hX : zX p l s m args meth c R g RL cL_texts 6 (some .boolean) lvl mc) (hlv : 22 < lvl) {a t u N : Nat} {f : Nat → Int32} {y z i2 : Int32} {b : Nat} (hz : z < 0) (kk : zZ p l e R s m args below meth c g 6 Q κ ν ω k 133 [(0, .ref (gA g 0 0 0)), (1, .int (nI a)), (2, .ref t), (3, .int y), (4, .int z), (5, .int i2)] [.ref (gAK g 35), .ref b]) : zZ p l e R s m args below meth c g 6 Q κ ν ω k 110 [(0, .ref (gA g 0 0 0)), (1, .int (nI a)), (2, .ref t), (3, .int y), (4, .int z), (5, .int i2)] [.ref b] := by
  refine z_iload hX dL_texts_110 4 rfl ?_
  refine z_if_lt (tgt := 130) hX dL_texts_112 (by decide) (fun _ => ?_) (fun q => absurd hz q)
  exact z_ldcW hX (i := 35) rfl dL_texts_130 kk
/-- the text so far: what the reference's lane says after x columns -/
def txP2 (g : zG) (b : zB) (a x : Nat) (W0 : Nat → Int32) (om : zOm) (t : Nat) : Prop := ∃ (u : Nat) (f : Nat → Int32), sD g om t u (lnS b a W0 x).1 f ∧ ∀ j, j < (lnS b a W0 x).1 → f j = (lnS b a W0 x).2 j
set_option maxHeartbeats 4000000 in
set_option maxRecDepth 100000 in
theorem tx_col {p : Program} {l : Launch} {e : Env} {R : Room} {s : State} {m : MethodId} {args : Array Value} {below : List Frame} {meth : Method} {c : Code} {Q : State → Prop} {g : zG} {mc lvl : Nat} {κ : zKp} {μ ν : zMu} {ω : zOm} {k : Nat} (hX : zX p l s m args meth c R g RL cL_texts 6 (some .boolean) lvl mc) (hlv : 22 < lvl) (hl0 : l.stackTraces = false) (h : RR κ μ) {a x t : Nat} (ha : a < 3) (hx : x < 10) {W0 : Nat → Int32} (hT : txP2 g (μ 1) a x W0 ω t) (hk : k + 143 ≤ mc) (kk : ∀ (om : zOm) (t : Nat), ω.Sublist om → txP2 g (μ 1) a (x + 1) W0 om t → zZ p l e R s m args below meth c g 6 Q κ ν om (k + 143) 13 [(0, .ref (gA g 0 0 0)), (1, .int (nI a)), (2, .ref t), (3, .int (nI (x + 1)))] []) : zZ p l e R s m args below meth c g 6 Q κ ν ω k 13 [(0, .ref (gA g 0 0 0)), (1, .int (nI a)), (2, .ref t), (3, .int (nI x))] [] := by
  obtain ⟨u, f, hs, hf⟩ := hT
  have h12 := h.n.1
  have hN : (lnS (μ 1) a W0 x).1 ≤ 20 := Nat.le_trans (ln_le x) (by omega)
  have hc : ascB f (lnS (μ 1) a W0 x).1 := fun q hq => by
    obtain ⟨b, hb, e⟩ := ln_ch h.bI ha x (by omega) q hq
    exact ⟨b, by omega, (hf q hq).trans e⟩
  have hl3 : 0 ≤ nI a ∧ nI a < 3 := ⟨ge_i (by omega), lt_i (b := 3) ha (by decide)⟩
  have hx9 : 0 ≤ nI x ∧ nI x < 10 := ⟨ge_i (by omega), lt_i (b := 10) hx (by decide)⟩
  have fin : ∀ (om : zOm) (t2 : Nat) (z i2 : Int32), ω.Sublist om → txP2 g (μ 1) a (x + 1) W0 om t2 → zZ p l e R s m args below meth c g 6 Q κ ν om (k + 1 + 71 + 71) 140 [(0, .ref (gA g 0 0 0)), (1, .int (nI a)), (2, .ref t2), (3, .int (nI x)), (4, .int z), (5, .int i2)] [] := fun om t2 z i2 q1 q2 => by
    refine z_iinc (v := nI (x + 1)) (lv' := [(3, _), (0, _), (1, _), (2, _), (4, _), (5, _)]) hX dL_texts_140 3 rfl (nI_1 x) (by decide) rfl ?_
    refine z_goto (tgt := 13) hX dL_texts_143 (by decide) ?_
    refine z_sub [1, 2, 3, 0] rfl ?_
    exact kk om t2 q1 q2
  refine z_iload_n hX dL_texts_13 3 rfl ?_
  refine z_bipush (v := 10) hX dL_texts_14 (by decide) ?_
  refine z_icmp_ge (tgt := 146) hX dL_texts_16 (by decide) (fun q => absurd q (nle_i (a := x) (b := 10) hx (by decide))) (fun _ => ?_)
  refine z_aload_n hX dL_texts_19 0 rfl ?_
  refine z_iload_n hX dL_texts_20 1 rfl ?_
  refine z_iload_n hX dL_texts_21 3 rfl ?_
  rcases occ_c h.n (x := nI a) (y := nI x) ⟨a, ha, rfl⟩ (gl_col.mp hx9) with ⟨ho, ec⟩ | ⟨j, hj, ho, ec⟩
  · refine z_callW hX (go_lineIn l hl0 h ⟨hl3, hx9⟩ ho) cc_174 dL_texts_22 ⟨by omega, by decide, by omega⟩ rfl rfl (Nat.le_of_ble_eq_true rfl) ?_
    refine z_istore (lv' := [(4, _), (0, _), (1, _), (2, _), (3, _)]) hX dL_texts_25 (by decide) rfl ?_
    refine z_iload hX dL_texts_27 0 rfl ?_
    refine z_if_ge (tgt := 36) hX dL_texts_29 (by decide) (fun q => absurd q (by decide)) (fun _ => ?_)
    refine z_iconst (v := 0) hX dL_texts_32 (by decide) ?_
    refine z_goto (tgt := 47) hX dL_texts_33 (by decide) ?_
    refine z_istore (lv' := [(5, _), (4, _), (0, _), (1, _), (2, _), (3, _)]) hX dL_texts_47 (by decide) rfl ?_
    refine z_sub [2, 3, 4, 5, 1, 0] rfl ?_
    refine tx_A hX hlv hs hc (by omega) (by omega) (x := 46) (by decide) (fun kz b om _ k2 => tx_none hX hlv (t := t) (u := u) (N := 0) (f := f) (by decide) k2) (fun om1 t1 u1 f1 s1 w1 w2 w3 => ?_)
    have hc1 : ascB f1 ((lnS (μ 1) a W0 x).1 + 1) := fun q hq => by
      by_cases e : q = (lnS (μ 1) a W0 x).1
      · subst e; exact ⟨46, by decide, w3⟩
      · obtain ⟨b, hb, e2⟩ := hc q (by omega)
        exact ⟨b, hb, (w2 q (by omega)).trans e2⟩
    refine tx_B hX hlv (K := 0) (i := 35) (by decide) rfl (by decide) (fun q hq => absurd hq (Nat.not_lt_zero q)) s1 hc1 (by omega) (by omega) (fun kz b om _ k2 => tx_empty hX hlv (t := t1) (u := u1) (N := 0) (f := f1) (by decide) k2) (fun om2 t2 u2 f2 s2 v1 v2 v3 => ?_)
    refine fin om2 t2 _ _ (w1.trans v1) ⟨u2, f2, ?_⟩
    rw [ln_n (by rw [ec]; decide)]
    refine ⟨s2, fun q hq => ?_⟩
    have hq2 : q < (lnS (μ 1) a W0 x).1 + 1 := hq
    show f2 q = if q = (lnS (μ 1) a W0 x).1 then 46 else (lnS (μ 1) a W0 x).2 q
    rw [v2 q hq2]
    by_cases e : q = (lnS (μ 1) a W0 x).1
    · rw [if_pos e, e]; exact w3
    · rw [if_neg e, w2 q (by omega)]; exact hf q (by omega)
  · have hL := h.bI.1.2.2.1 j hj
    obtain ⟨q, hq4, e1, e2, hne, -⟩ := kin_q hL.2.2.2.1
    obtain ⟨cx, hcx, ecx⟩ := lt_b hL
    refine z_callW hX (in_lineIn l hl0 h ⟨hl3, hx9⟩ ho) cc_174 dL_texts_22 ⟨by omega, by decide, by omega⟩ rfl rfl (Nat.le_of_ble_eq_true rfl) ?_
    refine z_istore (lv' := [(4, _), (0, _), (1, _), (2, _), (3, _)]) hX dL_texts_25 (by decide) rfl ?_
    refine z_iload hX dL_texts_27 0 rfl ?_
    refine z_if_ge (tgt := 36) hX dL_texts_29 (by decide) (fun _ => ?_) (fun q => absurd (ge_i (by omega)) q)
    refine zk_ldc hX (i := 14) rfl dL_texts_36 ?_
    refine z_aload_n hX dL_texts_38 1 rfl ?_
    refine z_iload hX dL_texts_39 0 rfl ?_
    refine z_callV1 hX (dm_kindOf l h hj) cv_RL_41 zRc0 dL_texts_41 ⟨by omega, by decide, by omega⟩ rfl rfl (Nat.le_of_ble_eq_true rfl) ?_
    refine z_isv e1 ?_
    refine zk_callV1 hX (by decide : 14 < 45) rfl (ok_indexOf l (by decide) (q := q) hq4 hne) cv_RL_288 dL_texts_44 ⟨by omega, by decide, by omega⟩ rfl rfl (Nat.le_of_ble_eq_true rfl) ?_
    refine z_istore (lv' := [(5, _), (4, _), (0, _), (1, _), (2, _), (3, _)]) hX dL_texts_47 (by decide) rfl ?_
    refine z_sub [2, 3, 4, 5, 1, 0] rfl ?_
    refine tx_A hX hlv hs hc (by omega) (by omega) (x := cx) hcx (fun kz b om hkz k2 => tx_some hX hlv h (u := u) (N := 0) (f := f) hj rfl hq4 e1 e2 rfl hkz (by rw [ecx]; exact k2)) (fun om1 t1 u1 f1 s1 w1 w2 w3 => ?_)
    have hc1 : ascB f1 ((lnS (μ 1) a W0 x).1 + 1) := fun q hq => by
      by_cases e : q = (lnS (μ 1) a W0 x).1
      · subst e; exact ⟨cx, hcx, w3⟩
      · obtain ⟨b, hb, e2⟩ := hc q (by omega)
        exact ⟨b, hb, (w2 q (by omega)).trans e2⟩
    by_cases h7 : bf (μ 1) j 7 = 1
    · refine tx_B hX hlv (K := 1) (i := 39) (by decide) rfl (by decide) (fun q hq => ⟨33, by decide, by rw [show q = 0 by omega]; rfl⟩) s1 hc1 (by omega) (by omega) (fun kz b om hkz k2 => tx_mark hX hlv h (u := u1) (N := 0) (f := f1) hj rfl h7 hkz k2) (fun om2 t2 u2 f2 s2 v1 v2 v3 => ?_)
      refine fin om2 t2 _ _ (w1.trans v1) ⟨u2, f2, ?_⟩
      rw [ln_r (by omega) ec h7]
      refine ⟨s2, fun q hq => ?_⟩
      have hq2 : q < (lnS (μ 1) a W0 x).1 + 1 + 1 := hq
      show f2 q = if q = (lnS (μ 1) a W0 x).1 + 1 then 33 else if q = (lnS (μ 1) a W0 x).1 then ltB (μ 1) j else (lnS (μ 1) a W0 x).2 q
      by_cases e3 : q = (lnS (μ 1) a W0 x).1 + 1
      · rw [if_pos e3, e3]; exact v3 0 (by decide)
      · rw [if_neg e3, v2 q (by omega)]
        by_cases e : q = (lnS (μ 1) a W0 x).1
        · rw [if_pos e, e, ecx]; exact w3
        · rw [if_neg e, w2 q (by omega)]; exact hf q (by omega)
    · refine tx_B hX hlv (K := 0) (i := 35) (by decide) rfl (by decide) (fun q hq => absurd hq (Nat.not_lt_zero q)) s1 hc1 (by omega) (by omega) (fun kz b om hkz k2 => tx_plain hX hlv h (u := u1) (N := 0) (f := f1) hj rfl h7 hkz k2) (fun om2 t2 u2 f2 s2 v1 v2 v3 => ?_)
      refine fin om2 t2 _ _ (w1.trans v1) ⟨u2, f2, ?_⟩
      rw [ln_s (by omega) ec h7]
      refine ⟨s2, fun q hq => ?_⟩
      have hq2 : q < (lnS (μ 1) a W0 x).1 + 1 := hq
      show f2 q = if q = (lnS (μ 1) a W0 x).1 then ltB (μ 1) j else (lnS (μ 1) a W0 x).2 q
      rw [v2 q hq2]
      by_cases e : q = (lnS (μ 1) a W0 x).1
      · rw [if_pos e, e, ecx]; exact w3
      · rw [if_neg e, w2 q (by omega)]; exact hf q (by omega)
end ZTX
