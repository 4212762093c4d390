section ZUN
section
variable {p : Program} {l : Launch} {e : Env} {R : Room} {s : State} {m : MethodId} {args : Array Value} {below : List Frame} {meth : Method} {c : Code} {Q : State → Prop} {g : zG} {own : String} {cc : ByteArray} {n lvl mc : Nat} {ret : Option FieldType} {κ : zKp} {μ : zMu} {ω : zOm} {k pc : Nat} {lv : List (Nat × Value)} {st : List Value}
theorem z_tabIn (hX : zX p l s m args meth c R g own cc n ret lvl mc) {dflt lo hi : Int} {offs : Array Int} {len : Nat} {x : Int32} {off : Int} {tgt : Nat} (d : decode cc pc = .ok (.tableswitch dflt lo hi offs, len)) (h1 : ¬ x.toInt < lo) (h2 : ¬ hi < x.toInt) (ho : offs[(x.toInt - lo).toNat]? = some off) (ht : (pc : Int) + off = (tgt : Int)) (kk : zZ p l e R s m args below meth c g n Q κ μ ω k tgt lv st) : zZ p l e R s m args below meth c g n Q κ μ ω k pc lv (.int x :: st) := fun H ls locs hl hS hW => lv_tableIn hX.1 hX.2.1 d h1 h2 ho ht (kk H ls locs hl hS hW)
theorem z_tabOut (hX : zX p l s m args meth c R g own cc n ret lvl mc) {dflt lo hi : Int} {offs : Array Int} {len : Nat} {x : Int32} {tgt : Nat} (d : decode cc pc = .ok (.tableswitch dflt lo hi offs, len)) (h : x.toInt < lo ∨ hi < x.toInt) (ht : (pc : Int) + dflt = (tgt : Int)) (kk : zZ p l e R s m args below meth c g n Q κ μ ω k tgt lv st) : zZ p l e R s m args below meth c g n Q κ μ ω k pc lv (.int x :: st) := fun H ls locs hl hS hW => lv_tableOut hX.1 hX.2.1 d h ht (kk H ls locs hl hS hW)
end
/-- signs that may be typed -/
abbrev typC (f : Nat → Int32) (N : Nat) : Prop := ∀ q, q < N → ∃ b : Nat, 32 ≤ b ∧ b < 127 ∧ f q = nI b
theorem typC.asc {f : Nat → Int32} {N : Nat} (h : typC f N) : ascB f N := fun q hq => by
  obtain ⟨b, h1, h2, h3⟩ := h q hq
  exact ⟨b, by omega, h3⟩
theorem typC.app {f f2 t : Nat → Int32} {N K : Nat} (h : typC f N) (ht : typC t K) (h1 : ∀ j, j < N → f2 j = f j) (h2 : ∀ j, j < K → f2 (N + j) = t j) : typC f2 (N + K) := fun q hq => by
  by_cases e : q < N
  · rw [h1 q e]; exact h q e
  · obtain ⟨j, rfl⟩ : ∃ j, q = N + j := ⟨q - N, by omega⟩
    rw [h2 j (by omega)]; exact ht j (by omega)
theorem typ_lit {i N : Nat} (h : (List.range N).all (fun q => decide (32 ≤ (sBa i q).toNatClampNeg) && decide ((sBa i q).toNatClampNeg < 127) && decide (sBa i q = nI (sBa i q).toNatClampNeg)) = true) : typC (sBa i) N := fun q hq => by
  have h2 := List.all_eq_true.mp h q (List.mem_range.mpr hq)
  rw [Bool.and_eq_true, Bool.and_eq_true, decide_eq_true_eq, decide_eq_true_eq, decide_eq_true_eq] at h2
  exact ⟨_, h2.1.1, h2.1.2, h2.2⟩
theorem typ_42 : typC (sBa 42) 6 := typ_lit (by decide +kernel)
theorem typ_43 : typC (sBa 43) 14 := typ_lit (by decide +kernel)
theorem typ_44 : typC (sBa 44) 7 := typ_lit (by decide +kernel)
theorem typ_dec {a : Nat} (ha : a < 12) : typC (decB a) (digB a) := fun q hq => by
  unfold decB digB at *
  by_cases h10 : a < 10
  · rw [if_pos h10]; exact ⟨48 + a, by omega, by omega, rfl⟩
  · rw [if_neg h10] at hq ⊢
    by_cases h0 : q = 0
    · rw [if_pos h0]; exact ⟨48 + a / 10, by omega, by omega, rfl⟩
    · rw [if_neg h0]; exact ⟨48 + a % 10, by omega, by omega, rfl⟩
theorem OpR.before {μ μ1 : zMu} {κ' : zKp} {μ' : zMu} {v : Int32} (h1 : μ1 1 = μ 1) (h2 : ∀ L, preH μ L → preH μ1 L) (h3 : μ' 0 4 = nI 0) (h : OpR μ1 κ' μ' v) : OpR μ κ' μ' v := ⟨h.1, fun _ => h3, by
  rcases h.2.2 with ⟨q1, q2, q3⟩ | ⟨q1, q2⟩
  · exact Or.inl ⟨q1, q2.trans h1, fun L hL => q3 L (h2 L hL)⟩
  · exact Or.inr ⟨q1, fun L hl hL => by have q := q2 L hl (h2 L hL); rw [h1] at q; exact q⟩⟩
set_option maxHeartbeats 4000000 in
set_option maxRecDepth 100000 in
theorem ex_loop (l : Launch) (hl0 : l.stackTraces = false) {g : zG} {ν : zMu} {ω : zOm} {t u N : Nat} {f : Nat → Int32} (hs : sD g ω t u N f) (hN : N ≤ 60) (hc : typC f N) : ∀ (dz i : Nat) (κ : zKp) (μ : zMu), N - i = dz → i ≤ N → RR κ μ → μ 0 4 = nI i → ∃ (κ' : zKp) (μ' : zMu) (r : Int32), OpR μ κ' μ' r ∧ μ' 0 4 = nI 0 ∧ ∀ (p : Program) (e : Env) (R : Room) (s : State) (m : MethodId) (args : Array Value) (below : List Frame) (meth : Method) (c : Code), zX p l s m args meth c R g RL cL_execute 3 (some .int) 21 70 → zZ p l e R s m args below meth c g 3 (zQ g κ' ν ω (some (.int r)) below args s 70) κ ν ω i 2 [(0, .ref (gA g 0 0 0)), (1, .ref t), (2, .int (nI i))] [] := by
  intro dz
  induction dz with
  | zero =>
    intro i κ μ hd hi h hm
    have hin : i = N := by omega
    obtain ⟨κ', μ', r, hW, hR, hm2, hO⟩ := op_executes l hl0 (g := g) (ν := ν) (ω := ω) h
    refine ⟨κ', μ', r, ⟨hR, fun _ => hm2, hO⟩, hm2, fun p e R s m args below meth c hX => ?_⟩
    refine z_iload_n hX dL_execute_2 2 rfl ?_
    refine z_aload_n hX dL_execute_3 1 rfl ?_
    refine z_callU1 hX (sJ0_length l hs (by omega)) (zCU.of cv_RL_133) (zs_recv hX hs) dL_execute_4 ⟨by omega, by decide, by omega⟩ rfl rfl (Nat.le_of_ble_eq_true rfl) ?_
    refine z_icmp_ge (tgt := 34) hX dL_execute_7 (by decide) (fun _ => ?_) (fun q => absurd (by rw [hin]; exact Int32.le_refl _) q)
    refine z_aload_n hX dL_execute_34 0 rfl ?_
    refine z_callW hX hW cc_146 dL_execute_35 ⟨by omega, by decide, by omega⟩ rfl rfl (Nat.le_of_ble_eq_true rfl) ?_
    exact z_iretI hX dL_execute_38 (by omega) rfl (fun _ h => h)
  | succ dz ih =>
    intro i κ μ hd hi h hm
    have hlt : i < N := by omega
    obtain ⟨b, hb1, hb2, eb⟩ := hc i hlt
    obtain ⟨κ1, μ1, hW, hR1, hm1, e1, hp1⟩ := op_type l (g := g) (ν := ν) (ω := ω) h hm (by omega) ⟨hb1, hb2⟩
    obtain ⟨κ', μ', r, hO, hm2, hz⟩ := ih (i + 1) κ1 μ1 (by omega) (by omega) hR1 hm1
    refine ⟨κ', μ', r, hO.before e1 hp1 hm2, hm2, fun p e R s m args below meth c hX => ?_⟩
    refine z_iload_n hX dL_execute_2 2 rfl ?_
    refine z_aload_n hX dL_execute_3 1 rfl ?_
    refine z_callU1 hX (sJ0_length l hs (by omega)) (zCU.of cv_RL_133) (zs_recv hX hs) dL_execute_4 ⟨by omega, by decide, by omega⟩ rfl rfl (Nat.le_of_ble_eq_true rfl) ?_
    refine z_icmp_ge (tgt := 34) hX dL_execute_7 (by decide) (fun q => absurd q (nle_i hlt (by omega))) (fun _ => ?_)
    refine z_aload_n hX dL_execute_10 0 rfl ?_
    refine z_aload_n hX dL_execute_11 1 rfl ?_
    refine z_iload_n hX dL_execute_12 2 rfl ?_
    refine z_callU1 hX (sJ0_charAt l hs (by omega) hc.asc hlt) (zCU.of cv_RL_138) (zs_recv hX hs) dL_execute_13 ⟨by omega, by decide, by omega⟩ rfl rfl (Nat.le_of_ble_eq_true rfl) ?_
    refine z_isv eb ?_
    refine z_callW hX hW cc_141 dL_execute_16 ⟨by omega, by decide, by omega⟩ rfl rfl (Nat.le_of_ble_eq_true rfl) ?_
    refine z_iload_n hX dL_execute_19 2 rfl ?_
    refine z_iconst (v := 1) hX dL_execute_20 (by decide) ?_
    refine z_iadd hX dL_execute_21 ?_
    refine z_isv (nI_1 i) ?_
    refine z_icmp_eq (tgt := 28) hX dL_execute_22 (by decide) (fun _ => ?_) (fun q => absurd rfl q)
    refine z_iinc (v := nI (i + 1)) (lv' := [(2, _), (0, _), (1, _)]) hX dL_execute_28 2 rfl (nI_1 i) (by decide) rfl ?_
    refine z_goto (tgt := 2) hX dL_execute_31 (by decide) ?_
    refine z_sub [1, 2, 0] rfl ?_
    exact z_widen (k2 := i + 1) (by omega) (hz p e R s m args below meth c hX)
theorem lw_execute (l : Launch) (hl0 : l.stackTraces = false) {g : zG} {κ : zKp} {μ ν : zMu} {ω : zOm} (h : RR κ μ) (hm : μ 0 4 = nI 0) {t u N : Nat} {f : Nat → Int32} (hs : sD g ω t u N f) (hN : N ≤ 60) (hc : typC f N) : ∃ (κ' : zKp) (μ' : zMu) (r : Int32), OpR μ κ' μ' r ∧ zM l g yL_execute cL_execute 3 (some .int) 21 70 [.ref (gA g 0 0 0), .ref t] κ ν ω κ' ν ω (some (.int r)) := by
  obtain ⟨κ', μ', r, hO, -, hz⟩ := ex_loop l hl0 (g := g) (ν := ν) hs hN hc N 0 κ μ (by omega) (by omega) h hm
  refine ⟨κ', μ', r, hO, zM_of (by decide) (Nat.le_of_ble_eq_true rfl) (fun p e R s m args below meth c hX => ?_)⟩
  show zZ p l e R s m args below meth c g 3 _ _ _ _ 0 0 [(0, .ref (gA g 0 0 0)), (1, .ref t)] []
  refine z_iconst (v := 0) hX dL_execute_0 (by decide) ?_
  refine z_istore_n (lv' := [(2, _), (0, _), (1, _)]) hX dL_execute_1 (by decide) rfl ?_
  refine z_sub [1, 2, 0] rfl ?_
  exact hz p e R s m args below meth c hX
theorem asc_40 : ascB (sBa 40) 5 := (typ_lit (i := 40) (N := 5) (by decide +kernel)).asc
theorem asc_41 : ascB (sBa 41) 4 := (typ_lit (i := 41) (N := 4) (by decide +kernel)).asc
set_option maxHeartbeats 4000000 in
set_option maxRecDepth 100000 in
theorem un_0 {p : Program} {l : Launch} {e : Env} {R : Room} {s : State} {m : MethodId} {args : Array Value} {below : List Frame} {meth : Method} {c : Code} {Q : State → Prop} {g : zG} {mc lvl : Nat} {κ : zKp} {ν : zMu} {ω : zOm} {k : Nat} (hX : zX p l s m args meth c R g RL cL_undone 8 (some .boolean) lvl mc) (hlv : 22 < lvl) {a D i cq eq : Nat} (he : eq < 2 ^ 31) {κ1 : zKp} {r : Int32} (hW : zAd l g ν ω κ κ1 (nI (eq % 3)) (nI (eq / 2 ^ 2 % 4)) (sBa 40 (eq / 2 ^ 4 % 5)) (nI (eq / 2 ^ 7 % 101)) r) (hk : k + 300 ≤ mc) (kk : zZ p l e R s m args below meth c g 8 Q κ1 ν ω (k + 300) 220 [(0, .ref (gA g 11 0 0)), (1, .ref (gA g 0 0 0)), (2, .ref a), (3, .int (nI D)), (4, .int (nI i)), (7, .int r)] []) : zZ p l e R s m args below meth c g 8 Q κ ν ω k 80 [(0, .ref (gA g 11 0 0)), (1, .ref (gA g 0 0 0)), (2, .ref a), (3, .int (nI D)), (4, .int (nI i)), (5, .int (nI cq)), (6, .int (nI eq))] [] := by
  have h31 : (2 : Nat) ^ 31 = 2147483648 := by decide
  have h32 : (2 : Nat) ^ 32 = 4294967296 := by decide
  refine z_aload_n hX dL_undone_80 1 rfl ?_
  refine z_iload hX dL_undone_81 6 rfl ?_
  refine z_iconst (v := 3) hX dL_undone_83 (by decide) ?_
  refine z_irem hX dL_undone_84 (by decide) ?_
  refine z_isv (show nI (eq) - nI (eq) / nI 3 * nI 3 = nI (eq % 3) from pk_rem (by omega) (by decide) (by decide)) ?_
  refine z_iload hX dL_undone_85 6 rfl ?_
  refine z_iconst (v := 2) hX dL_undone_87 (by decide) ?_
  refine z_iushr (v := nI (eq / 2 ^ 2)) hX dL_undone_88 (pk_ushrN (by omega) 2 2 (by decide)) ?_
  refine z_iconst (v := 4) hX dL_undone_89 (by decide) ?_
  refine z_irem hX dL_undone_90 (by decide) ?_
  refine z_isv (show nI (eq / 2 ^ 2) - nI (eq / 2 ^ 2) / nI 4 * nI 4 = nI (eq / 2 ^ 2 % 4) from pk_rem (by omega) (by decide) (by decide)) ?_
  refine z_ldcW hX (i := 40) rfl dL_undone_91 ?_
  refine z_iload hX dL_undone_94 6 rfl ?_
  refine z_iconst (v := 4) hX dL_undone_96 (by decide) ?_
  refine z_iushr (v := nI (eq / 2 ^ 4)) hX dL_undone_97 (pk_ushrN (by omega) 4 4 (by decide)) ?_
  refine z_iconst (v := 5) hX dL_undone_98 (by decide) ?_
  refine z_irem hX dL_undone_99 (by decide) ?_
  refine z_isv (show nI (eq / 2 ^ 4) - nI (eq / 2 ^ 4) / nI 5 * nI 5 = nI (eq / 2 ^ 4 % 5) from pk_rem (by omega) (by decide) (by decide)) ?_
  refine zk_callV1 hX (by decide : 40 < 45) rfl (sJ0_charAt l (sD.const (by decide)) (by decide) asc_40 (q := eq / 2 ^ 4 % 5) (show _ < 5 from Nat.mod_lt _ (by decide))) cv_RL_138 dL_undone_100 ⟨by omega, by decide, by omega⟩ rfl rfl (Nat.le_of_ble_eq_true rfl) ?_
  refine z_iload hX dL_undone_103 6 rfl ?_
  refine z_bipush (v := 7) hX dL_undone_105 (by decide) ?_
  refine z_iushr (v := nI (eq / 2 ^ 7)) hX dL_undone_107 (pk_ushrN (by omega) 7 7 (by decide)) ?_
  refine z_bipush (v := 101) hX dL_undone_108 (by decide) ?_
  refine z_irem hX dL_undone_110 (by decide) ?_
  refine z_isv (show nI (eq / 2 ^ 7) - nI (eq / 2 ^ 7) / nI 101 * nI 101 = nI (eq / 2 ^ 7 % 101) from pk_rem (by omega) (by decide) (by decide)) ?_
  refine z_callW hX (hW) cc_157 dL_undone_111 ⟨by omega, by decide, by omega⟩ rfl rfl (Nat.le_of_ble_eq_true rfl) ?_
  refine z_istore (lv' := [(7, _), (0, _), (1, _), (2, _), (3, _), (4, _), (5, _), (6, _)]) hX dL_undone_114 (by decide) rfl ?_
  refine z_goto (tgt := 220) hX dL_undone_116 (by decide) ?_
  refine z_sub [1, 2, 3, 4, 5, 0] rfl ?_
  exact z_widen (by omega) kk
set_option maxHeartbeats 4000000 in
set_option maxRecDepth 100000 in
theorem un_1 {p : Program} {l : Launch} {e : Env} {R : Room} {s : State} {m : MethodId} {args : Array Value} {below : List Frame} {meth : Method} {c : Code} {Q : State → Prop} {g : zG} {mc lvl : Nat} {κ : zKp} {ν : zMu} {ω : zOm} {k : Nat} (hX : zX p l s m args meth c R g RL cL_undone 8 (some .boolean) lvl mc) (hlv : 22 < lvl) {a D i cq eq : Nat} (he : eq < 2 ^ 31) {κ1 : zKp} {r : Int32} (hW : zMW l g yL_setOrder cL_setOrder 4 hh_setOrder 20 1 [.ref (gA g 0 0 0), .int (nI (eq % 13)), .int (sBa 41 (eq / 2 ^ 4 % 4))] κ ν ω κ1 ν ω r) (hk : k + 300 ≤ mc) (kk : zZ p l e R s m args below meth c g 8 Q κ1 ν ω (k + 300) 220 [(0, .ref (gA g 11 0 0)), (1, .ref (gA g 0 0 0)), (2, .ref a), (3, .int (nI D)), (4, .int (nI i)), (7, .int r)] []) : zZ p l e R s m args below meth c g 8 Q κ ν ω k 119 [(0, .ref (gA g 11 0 0)), (1, .ref (gA g 0 0 0)), (2, .ref a), (3, .int (nI D)), (4, .int (nI i)), (5, .int (nI cq)), (6, .int (nI eq))] [] := by
  have h31 : (2 : Nat) ^ 31 = 2147483648 := by decide
  have h32 : (2 : Nat) ^ 32 = 4294967296 := by decide
  refine z_aload_n hX dL_undone_119 1 rfl ?_
  refine z_iload hX dL_undone_120 6 rfl ?_
  refine z_bipush (v := 13) hX dL_undone_122 (by decide) ?_
  refine z_irem hX dL_undone_124 (by decide) ?_
  refine z_isv (show nI (eq) - nI (eq) / nI 13 * nI 13 = nI (eq % 13) from pk_rem (by omega) (by decide) (by decide)) ?_
  refine z_ldcW hX (i := 41) rfl dL_undone_125 ?_
  refine z_iload hX dL_undone_128 6 rfl ?_
  refine z_iconst (v := 4) hX dL_undone_130 (by decide) ?_
  refine z_iushr (v := nI (eq / 2 ^ 4)) hX dL_undone_131 (pk_ushrN (by omega) 4 4 (by decide)) ?_
  refine z_iconst (v := 4) hX dL_undone_132 (by decide) ?_
  refine z_irem hX dL_undone_133 (by decide) ?_
  refine z_isv (show nI (eq / 2 ^ 4) - nI (eq / 2 ^ 4) / nI 4 * nI 4 = nI (eq / 2 ^ 4 % 4) from pk_rem (by omega) (by decide) (by decide)) ?_
  refine zk_callV1 hX (by decide : 41 < 45) rfl (sJ0_charAt l (sD.const (by decide)) (by decide) asc_41 (q := eq / 2 ^ 4 % 4) (show _ < 4 from Nat.mod_lt _ (by decide))) cv_RL_138 dL_undone_134 ⟨by omega, by decide, by omega⟩ rfl rfl (Nat.le_of_ble_eq_true rfl) ?_
  refine z_callW hX (hW) cc_165 dL_undone_137 ⟨by omega, by decide, by omega⟩ rfl rfl (Nat.le_of_ble_eq_true rfl) ?_
  refine z_istore (lv' := [(7, _), (0, _), (1, _), (2, _), (3, _), (4, _), (5, _), (6, _)]) hX dL_undone_140 (by decide) rfl ?_
  refine z_goto (tgt := 220) hX dL_undone_142 (by decide) ?_
  refine z_sub [1, 2, 3, 4, 5, 0] rfl ?_
  exact z_widen (by omega) kk
set_option maxHeartbeats 4000000 in
set_option maxRecDepth 100000 in
theorem un_2 {p : Program} {l : Launch} {e : Env} {R : Room} {s : State} {m : MethodId} {args : Array Value} {below : List Frame} {meth : Method} {c : Code} {Q : State → Prop} {g : zG} {mc lvl : Nat} {κ : zKp} {ν : zMu} {ω : zOm} {k : Nat} (hX : zX p l s m args meth c R g RL cL_undone 8 (some .boolean) lvl mc) (hlv : 22 < lvl) {a D i cq eq : Nat} (he : eq < 2 ^ 31) {κ1 : zKp} {r : Int32} (hW : zMW l g yL_rally cL_rally 3 hh_rally 20 1 [.ref (gA g 0 0 0), .int (nI (eq % 13))] κ ν ω κ1 ν ω r) (hk : k + 300 ≤ mc) (kk : zZ p l e R s m args below meth c g 8 Q κ1 ν ω (k + 300) 220 [(0, .ref (gA g 11 0 0)), (1, .ref (gA g 0 0 0)), (2, .ref a), (3, .int (nI D)), (4, .int (nI i)), (7, .int r)] []) : zZ p l e R s m args below meth c g 8 Q κ ν ω k 145 [(0, .ref (gA g 11 0 0)), (1, .ref (gA g 0 0 0)), (2, .ref a), (3, .int (nI D)), (4, .int (nI i)), (5, .int (nI cq)), (6, .int (nI eq))] [] := by
  have h31 : (2 : Nat) ^ 31 = 2147483648 := by decide
  have h32 : (2 : Nat) ^ 32 = 4294967296 := by decide
  refine z_aload_n hX dL_undone_145 1 rfl ?_
  refine z_iload hX dL_undone_146 6 rfl ?_
  refine z_bipush (v := 13) hX dL_undone_148 (by decide) ?_
  refine z_irem hX dL_undone_150 (by decide) ?_
  refine z_isv (show nI (eq) - nI (eq) / nI 13 * nI 13 = nI (eq % 13) from pk_rem (by omega) (by decide) (by decide)) ?_
  refine z_callW hX (hW) cc_168 dL_undone_151 ⟨by omega, by decide, by omega⟩ rfl rfl (Nat.le_of_ble_eq_true rfl) ?_
  refine z_istore (lv' := [(7, _), (0, _), (1, _), (2, _), (3, _), (4, _), (5, _), (6, _)]) hX dL_undone_154 (by decide) rfl ?_
  refine z_goto (tgt := 220) hX dL_undone_156 (by decide) ?_
  refine z_sub [1, 2, 3, 4, 5, 0] rfl ?_
  exact z_widen (by omega) kk
set_option maxHeartbeats 4000000 in
set_option maxRecDepth 100000 in
theorem un_4 {p : Program} {l : Launch} {e : Env} {R : Room} {s : State} {m : MethodId} {args : Array Value} {below : List Frame} {meth : Method} {c : Code} {Q : State → Prop} {g : zG} {mc lvl : Nat} {κ : zKp} {ν : zMu} {ω : zOm} {k : Nat} (hX : zX p l s m args meth c R g RL cL_undone 8 (some .boolean) lvl mc) (hlv : 22 < lvl) {a D i cq eq : Nat} (he : eq < 2 ^ 31) {κ1 : zKp} {r : Int32} (hW : zM l g yX4_turn cX4_turn 1 (some .int) 7 0 [.ref (gA g 0 0 0)] κ ν ω κ1 ν ω (some (.int r))) (hk : k + 300 ≤ mc) (kk : zZ p l e R s m args below meth c g 8 Q κ1 ν ω (k + 300) 220 [(0, .ref (gA g 11 0 0)), (1, .ref (gA g 0 0 0)), (2, .ref a), (3, .int (nI D)), (4, .int (nI i)), (7, .int r)] []) : zZ p l e R s m args below meth c g 8 Q κ ν ω k 214 [(0, .ref (gA g 11 0 0)), (1, .ref (gA g 0 0 0)), (2, .ref a), (3, .int (nI D)), (4, .int (nI i)), (5, .int (nI cq)), (6, .int (nI eq))] [] := by
  refine z_aload_n hX dL_undone_214 1 rfl ?_
  refine z_callV1 hX (hW) cv_RL_171 zRc0 dL_undone_215 ⟨by omega, by decide, by omega⟩ rfl rfl (Nat.le_of_ble_eq_true rfl) ?_
  refine z_istore (lv' := [(7, _), (0, _), (1, _), (2, _), (3, _), (4, _), (5, _), (6, _)]) hX dL_undone_218 (by decide) rfl ?_
  refine z_sub [1, 2, 3, 4, 5, 0] rfl ?_
  exact z_widen (by omega) kk
section
variable {p : Program} {l : Launch} {e : Env} {R : Room} {s : State} {m : MethodId} {args : Array Value} {below : List Frame} {meth : Method} {c : Code} {Q : State → Prop} {g : zG} {own : String} {cc : ByteArray} {n lvl mc : Nat} {ret : Option FieldType} {κ κ' : zKp} {μ : zMu} {ω ω' : zOm} {k pc : Nat} {lv : List (Nat × Value)} {st : List Value}
def zPG (g : zG) (μ : zMu) (P0 : zKp → zOm → Option Value → Prop) : Array Value → State → Outcome → State → Prop := fun _ st oc t => ∃ (κ' : zKp) (ω' : zOm) (r : Option Value), P0 κ' ω' r ∧ oc = .returned r ∧ WW g κ' μ ω' t.heap ∧ va_F (zA g) st t
def zMG (l : Launch) (g : zG) (y : MethodName) (cc : ByteArray) (n : Nat) (ret : Option FieldType) (lvl mc : Nat) (As : List Value) (κ : zKp) (μ : zMu) (ω : zOm) (P0 : zKp → zOm → Option Value → Prop) : Prop :=
  Met l y (.code y cc n ret :: gW) (zR lvl mc) (va_Pc As (zPre g κ μ ω)) (zPG g μ P0) mc (6 * mc) (zA g)
abbrev zQG (g : zG) (μ : zMu) (P0 : zKp → zOm → Option Value → Prop) (below : List Frame) (args : Array Value) (s : State) (mc : Nat) : State → Prop := MQ below (zPG g μ P0) args s mc (6 * mc) (zA g)
theorem zG_of {r : Option Value} {P0 : zKp → zOm → Option Value → Prop} (h : P0 κ' ω' r) (kk : zZ p l e R s m args below meth c g n (zQ g κ' μ ω' r below args s mc) κ μ ω k pc lv st) : zZ p l e R s m args below meth c g n (zQG g μ P0 below args s mc) κ μ ω k pc lv st := fun H ls locs hl hS hW => W_mono (fun t ht => by
  obtain ⟨o, h1, h2, ⟨h3, h4, h5⟩, h6⟩ := ht
  exact ⟨o, h1, h2, ⟨κ', ω', r, h, h3, h4, h5⟩, h6⟩) (kk H ls locs hl hS hW)
theorem zMG_of {y : MethodName} {As : List Value} {P0 : zKp → zOm → Option Value → Prop} (hy : plainName y.cls = true) (hlen : (lg_sl As).length ≤ n) (body : ∀ (p : Program) (e : Env) (R : Room) (s : State) (m : MethodId) (args : Array Value) (below : List Frame) (meth : Method) (c : Code), zX p l s m args meth c R g y.cls cc n ret lvl mc → zZ p l e R s m args below meth c g n (zQG g μ P0 below args s mc) κ μ ω 0 0 (lv_args 0 As) []) : zMG l g y cc n ret lvl mc As κ μ ω P0 := by
  refine Met.ofW (cc := cc) (maxL := n) (ret := ret) hy rfl ?_
  intro p e s m args below meth c s₁ B hml hv
  obtain ⟨rfl, hW, hK, hB, hs⟩ := hv
  have hts := atoms_spec (ws := .code y cc n ret :: gW) B.pre
  have hl := lv_entry As (n := n) hlen
  rw [lg_entry_eq]
  exact body p e (zR lvl mc) s m As.toArray below meth c ⟨B.exec, B.bytes, hml, findClass_of_methodNamed B.named, fun w hw => hts w (List.mem_cons_of_mem _ hw), hK, hB, hs, ⟨Nat.le_refl _, Nat.le_refl _, Nat.le_refl _, Nat.le_refl _⟩, B.notSynchronized, B.returns⟩ s.heap _ [] hl va_S.rf hW
theorem zG_back {P0 : zKp → zOm → Option Value → Prop} {mcY : Nat} {rest st0 : List Value} {a : Array Value} {H : Heap} {ls : Array Slot} {locs : List Loc} (hl : lv_has ls n lv) (hS : va_S (zA g) s.heap H locs)
    (hr : va_Run p l e R s m args below meth c H locs k (6 * k) mcY (6 * mcY) (F0 m pc ls st0) rest (zPG g μ P0 a) (zA g)) (kk : ∀ (κ' : zKp) (ω' : zOm) (r : Option Value), P0 κ' ω' r → zZ p l e R s m args below meth c g n Q κ' μ ω' (k + mcY) (pc + 3) lv (r.toList ++ rest)) : W p l e R s m args below meth c H locs k (6 * k) Q (F0 m pc ls st0) := by
  intro T hT X
  obtain ⟨v, st₀, t, T', L, h0, X', hL, e1, e2, ⟨kp, w, r, hp, hv, hw, hF⟩, stp⟩ := hr T hT X
  cases hv
  have hS' : va_S (zA g) s.heap T'.heap (locs ++ L) := by
    refine ⟨Nat.le_trans hS.1 (by rw [e1, ← h0]; exact hF.1), fun q h1 h2 => ?_, fun q hq => ?_⟩
    · rw [e1, hF.2 q (by rw [h0]; exact Nat.lt_of_lt_of_le h1 hS.1) h2, h0]
      exact hS.2.1 q h1 h2
    · rcases List.mem_append.mp hq with h | h
      · exact hS.2.2 q h
      · exact hL q h
  rw [← Nat.mul_add] at X'
  obtain ⟨t2, a1, b1⟩ := kk kp w v hp T'.heap ls (locs ++ L) hl hS' (by rw [e1]; exact hw) T' rfl X'
  exact ⟨t2, stp t2 a1, b1⟩
theorem zG_callS (hX : zX p l s m args meth c R g own cc n ret lvl mc) {idx nY lvlY mcY nA : Nat} {y : MethodName} {cY : ByteArray} {retY : Option FieldType} {As rest : List Value} {P0 : zKp → zOm → Option Value → Prop} (hM : zMG l g y cY nY retY lvlY mcY As κ μ ω P0) (hC : zCS own idx y cY nY retY nA) (d : decode cc pc = .ok (.invokestatic idx, 3)) (hlv : lvlY < lvl ∧ nY ≤ 81 ∧ k + mcY ≤ mc) (hA : As.length = nA) (hst : st = As.reverse ++ rest) (hcat : (rest.map fun v => v.category).sum ≤ 8) (kk : ∀ (κ' : zKp) (ω' : zOm) (r : Option Value), P0 κ' ω' r → zZ p l e R s m args below meth c g n Q κ' μ ω' (k + mcY) (pc + 3) lv (r.toList ++ rest)) : zZ p l e R s m args below meth c g n Q κ μ ω k pc lv st := fun H ls locs hl hS hW => by
  obtain ⟨hx, hb, hml, hown, hts, hK, hB, hs, hR, -⟩ := id hX
  obtain ⟨hG, h1, h2, h3⟩ := hC
  subst hst
  exact zG_back hl hS (va_runS (nL := n) ⟨hx, hb, hml, hown, hts⟩ hM (va_cwS nA hts hG rfl rfl rfl ⟨h1, h2, h3⟩ ⟨Nat.le_trans hlv.1 hR.1, Nat.le_trans (zroom hlv.1 hlv.2.1) hR.2.1⟩) ⟨zPre_blind, fun U hU hw => ⟨rfl, hX.pre hS hW hU hw⟩⟩ rfl hA hl.1 rfl (lv_room hcat) d ⟨Nat.le_trans hlv.2.2 hR.2.2.1, by rw [← Nat.mul_add]; exact Nat.le_trans (Nat.mul_le_mul_left 6 hlv.2.2) hR.2.2.2⟩) kk
end
set_option maxHeartbeats 4000000 in
set_option maxRecDepth 100000 in
theorem un_3 {p : Program} {l : Launch} {e : Env} {R : Room} {s : State} {m : MethodId} {args : Array Value} {below : List Frame} {meth : Method} {c : Code} {Q : State → Prop} {g : zG} {mc lvl : Nat} {κ : zKp} {μ ν : zMu} {ω : zOm} {k : Nat} (hX : zX p l s m args meth c R g RL cL_undone 8 (some .boolean) lvl mc) (hlv : 22 < lvl) (hl0 : l.stackTraces = false) (h : RR κ μ) (hm : μ 0 4 = nI 0) {a D i cq eq : Nat} (he : eq < 2 ^ 31) (hk : k + 300 ≤ mc) (kk : ∀ (κ1 : zKp) (μ1 : zMu) (r : Int32), OpR μ κ1 μ1 r → zZ p l e R s m args below meth c g 8 Q κ1 ν ω (k + 300) 220 [(0, .ref (gA g 11 0 0)), (1, .ref (gA g 0 0 0)), (2, .ref a), (3, .int (nI D)), (4, .int (nI i)), (7, .int r)] []) : zZ p l e R s m args below meth c g 8 Q κ ν ω k 159 [(0, .ref (gA g 11 0 0)), (1, .ref (gA g 0 0 0)), (2, .ref a), (3, .int (nI D)), (4, .int (nI i)), (5, .int (nI cq)), (6, .int (nI eq))] [] := by
  have h31 : (2 : Nat) ^ 31 = 2147483648 := by decide
  have h32 : (2 : Nat) ^ 32 = 4294967296 := by decide
  have hA : eq % 12 < 12 := Nat.mod_lt _ (by decide)
  have hB : eq / 2 ^ 4 % 12 < 12 := Nat.mod_lt _ (by decide)
  have dA : digB (eq % 12) ≤ 2 := by unfold digB; split <;> omega
  have dB : digB (eq / 2 ^ 4 % 12) ≤ 2 := by unfold digB; split <;> omega
  refine z_aload_n hX dL_undone_159 1 rfl ?_
  refine zq_new hX (ci := 1) (C := RJ4) (T := TJ4) (NN := 4) (ty0 := tyJ4) (fs := [.null, .int 0, .int 0, .int 0]) win_J4 tyJ4_ok (gW_I 980 (by decide +kernel) rfl) (gW_I 981 (by decide +kernel) rfl) (gW_I 24 (by decide +kernel) rfl) rfl (fun j hj => by rcases (show j = 0 ∨ j = 1 ∨ j = 2 ∨ j = 3 by omega) with rfl | rfl | rfl | rfl <;> rfl) (by omega) (by decide) dL_undone_160 (fun b => ?_)
  refine z_dup hX dL_undone_163 rfl ?_
  refine zE_callI (nA := 0) hX (bJ4_init l) (gW_I 984 rfl rfl) (gW_I 24 (by decide +kernel) rfl) (gW_I 982 (by decide +kernel) rfl) (gW_I 983 (by decide +kernel) rfl) rfl ⟨by decide, by decide, by decide +kernel⟩ dL_undone_164 ⟨by omega, by decide, by omega⟩ rfl rfl (Nat.le_of_ble_eq_true rfl) (fun w r hw => ?_)
  obtain ⟨rfl, v, rfl⟩ := hw
  refine z_ldcW hX (i := 42) rfl dL_undone_167 ?_
  refine zE_callV hX (bJ4_appendS l (K := 6) (sD.const (by decide : 42 < 45)) typ_42.asc (by decide) (by decide) (by decide) fit_0) (zCU.of cv_RL_294) (zRv_at hX (j := 0) rfl rfl) dL_undone_170 ⟨by omega, by decide, by omega⟩ rfl rfl (Nat.le_of_ble_eq_true rfl) (fun w r hw => ?_)
  obtain ⟨rfl, v1, M1, f1, rfl, a1, b1, c1, d1, t1⟩ := hw
  have p1 : typC f1 (0 + 6) := typC.app (fun q hq => absurd hq (Nat.not_lt_zero q)) typ_42 d1 t1
  refine z_iload hX dL_undone_173 6 rfl ?_
  refine z_bipush (v := 12) hX dL_undone_175 (by decide) ?_
  refine z_irem hX dL_undone_177 (by decide) ?_
  refine z_isv (show nI eq - nI eq / nI 12 * nI 12 = nI (eq % 12) from pk_rem (by omega) (by decide) (by decide)) ?_
  refine zE_callV hX (bJ4_appendI l hA a1 (by decide) b1 c1) (zCU.of cv_RL_343) (zRv_at hX (j := 0) rfl rfl) dL_undone_178 ⟨by omega, by decide, by omega⟩ rfl rfl (Nat.le_of_ble_eq_true rfl) (fun w r hw => ?_)
  obtain ⟨rfl, v2, M2, f2, rfl, a2, b2, c2, d2, t2⟩ := hw
  have p2 := typC.app p1 (typ_dec hA) d2 t2
  refine z_ldcW hX (i := 43) rfl dL_undone_181 ?_
  refine zE_callV hX (bJ4_appendS l (K := 14) (sD.const (by decide : 43 < 45)) typ_43.asc a2 (by show 0 + 6 + digB (eq % 12) + 14 ≤ 64; omega) b2 c2) (zCU.of cv_RL_294) (zRv_at hX (j := 0) rfl rfl) dL_undone_184 ⟨by omega, by decide, by omega⟩ rfl rfl (Nat.le_of_ble_eq_true rfl) (fun w r hw => ?_)
  obtain ⟨rfl, v3, M3, f3, rfl, a3, b3, c3, d3, t3⟩ := hw
  have p3 := typC.app p2 typ_43 d3 t3
  refine z_iload hX dL_undone_187 6 rfl ?_
  refine z_iconst (v := 4) hX dL_undone_189 (by decide) ?_
  refine z_iushr (v := nI (eq / 2 ^ 4)) hX dL_undone_190 (pk_ushrN (by omega) 4 4 (by decide)) ?_
  refine z_bipush (v := 12) hX dL_undone_191 (by decide) ?_
  refine z_irem hX dL_undone_193 (by decide) ?_
  refine z_isv (show nI (eq / 2 ^ 4) - nI (eq / 2 ^ 4) / nI 12 * nI 12 = nI (eq / 2 ^ 4 % 12) from pk_rem (by omega) (by decide) (by decide)) ?_
  refine zE_callV hX (bJ4_appendI l hB a3 (by omega) b3 c3) (zCU.of cv_RL_343) (zRv_at hX (j := 0) rfl rfl) dL_undone_194 ⟨by omega, by decide, by omega⟩ rfl rfl (Nat.le_of_ble_eq_true rfl) (fun w r hw => ?_)
  obtain ⟨rfl, v4, M4, f4, rfl, a4, b4, c4, d4, t4⟩ := hw
  have p4 := typC.app p3 (typ_dec hB) d4 t4
  refine z_ldcW hX (i := 44) rfl dL_undone_197 ?_
  refine zE_callV hX (bJ4_appendS l (K := 7) (sD.const (by decide : 44 < 45)) typ_44.asc a4 (by omega) b4 c4) (zCU.of cv_RL_294) (zRv_at hX (j := 0) rfl rfl) dL_undone_200 ⟨by omega, by decide, by omega⟩ rfl rfl (Nat.le_of_ble_eq_true rfl) (fun w r hw => ?_)
  obtain ⟨rfl, v5, M5, f5, rfl, a5, b5, c5, d5, t5⟩ := hw
  have p5 := typC.app p4 typ_44 d5 t5
  refine zE_callV hX (bJ4_toString l c5 a5 b5) (zCU.of cv_RL_303) (zRv_at hX (j := 0) rfl rfl) dL_undone_203 ⟨by omega, by decide, by omega⟩ rfl rfl (Nat.le_of_ble_eq_true rfl) (fun w r hw => ?_)
  obtain ⟨t, rfl, u, f6, rfl, h6⟩ := hw
  have p6 : typC f6 (0 + 6 + digB (eq % 12) + 14 + digB (eq / 2 ^ 4 % 12) + 7) := fun q hq => by rw [h6 q hq]; exact p5 q hq
  obtain ⟨κ1, μ1, r, hO, hM⟩ := lw_execute l hl0 (g := g) (ν := ν) h hm (sD.head (ω := sbW g b v5 (0 + 6 + digB (eq % 12) + 14 + digB (eq / 2 ^ 4 % 12) + 7) M5 f5 ω) (a := t) (v := u)) (by omega) p6
  refine z_callS1 hX hM cs_RL_350 dL_undone_206 ⟨by omega, by decide, by omega⟩ rfl rfl (Nat.le_of_ble_eq_true rfl) ?_
  refine z_world (fun H hH => WW_sub (List.Sublist.cons _ (List.Sublist.cons _ (List.Sublist.cons _ (List.sublist_cons_self _ _)))) hH) ?_
  refine z_istore (lv' := [(7, _), (0, _), (1, _), (2, _), (3, _), (4, _), (5, _), (6, _)]) hX dL_undone_209 (by decide) rfl ?_
  refine z_goto (tgt := 220) hX dL_undone_211 (by decide) ?_
  refine z_sub [1, 2, 3, 4, 5, 0] rfl ?_
  exact z_widen (by omega) (kk κ1 μ1 r hO)
/-- one command, whichever -/
theorem un_op {p : Program} {l : Launch} {e : Env} {R : Room} {s : State} {m : MethodId} {args : Array Value} {below : List Frame} {meth : Method} {c : Code} {Q : State → Prop} {g : zG} {mc lvl : Nat} {κ : zKp} {μ ν : zMu} {ω : zOm} {k : Nat} (hX : zX p l s m args meth c R g RL cL_undone 8 (some .boolean) lvl mc) (hlv : 22 < lvl) (hl0 : l.stackTraces = false) (h : RR κ μ) (hm : μ 0 4 = nI 0) {a D i cq eq : Nat} (hc : cq < 2 ^ 31) (he : eq < 2 ^ 31) (hk : k + 300 ≤ mc) (kk : ∀ (κ1 : zKp) (μ1 : zMu) (r : Int32), OpR μ κ1 μ1 r → zZ p l e R s m args below meth c g 8 Q κ1 ν ω (k + 300) 220 [(0, .ref (gA g 11 0 0)), (1, .ref (gA g 0 0 0)), (2, .ref a), (3, .int (nI D)), (4, .int (nI i)), (7, .int r)] []) : zZ p l e R s m args below meth c g 8 Q κ ν ω k 48 [(0, .ref (gA g 11 0 0)), (1, .ref (gA g 0 0 0)), (2, .ref a), (3, .int (nI D)), (4, .int (nI i)), (5, .int (nI cq)), (6, .int (nI eq))] [.int (nI (cq % 6))] := by
  have h6 : cq % 6 < 6 := Nat.mod_lt _ (by decide)
  rcases (show cq % 6 = 0 ∨ cq % 6 = 1 ∨ cq % 6 = 2 ∨ cq % 6 = 3 ∨ cq % 6 = 4 ∨ cq % 6 = 5 by omega) with q | q | q | q | q | q
  · rw [q]
    refine z_tabIn (off := 32) (tgt := 80) hX dL_undone_48 (by decide) (by decide) (by decide) (by decide) ?_
    obtain ⟨κ1, μ1, r, hW, hO, -⟩ := op_addLine l hl0 (g := g) (ν := ν) (ω := ω) h (nI (eq % 3)) (nI (eq / 2 ^ 2 % 4)) (sBa 40 (eq / 2 ^ 4 % 5)) (nI (eq / 2 ^ 7 % 101))
    exact un_0 hX hlv he hW hk (kk κ1 μ1 r hO)
  · rw [q]
    refine z_tabIn (off := 71) (tgt := 119) hX dL_undone_48 (by decide) (by decide) (by decide) (by decide) ?_
    obtain ⟨κ1, μ1, r, hW, hO, -⟩ := op_setOrder l hl0 (g := g) (ν := ν) (ω := ω) h (nI (eq % 13)) (sBa 41 (eq / 2 ^ 4 % 4))
    exact un_1 hX hlv he hW hk (kk κ1 μ1 r hO)
  · rw [q]
    refine z_tabIn (off := 97) (tgt := 145) hX dL_undone_48 (by decide) (by decide) (by decide) (by decide) ?_
    obtain ⟨κ1, μ1, r, hW, hO, -⟩ := op_rally l hl0 (g := g) (ν := ν) (ω := ω) h (nI (eq % 13))
    exact un_2 hX hlv he hW hk (kk κ1 μ1 r hO)
  · rw [q]
    refine z_tabIn (off := 111) (tgt := 159) hX dL_undone_48 (by decide) (by decide) (by decide) (by decide) ?_
    exact un_3 hX hlv hl0 h hm he hk kk
  all_goals
    rw [q]
    refine z_tabOut (tgt := 214) hX dL_undone_48 (by decide) (by decide) ?_
    obtain ⟨κ1, μ1, r, hW, hO, -⟩ := op_turn l (g := g) (ν := ν) (ω := ω) h
    exact un_4 hX hlv he hW hk (kk κ1 μ1 r hO)
end ZUN
