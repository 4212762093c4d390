section ZST
variable {p : Program} {l : Launch} {e : Env} {R : Room} {s : State} {m : MethodId} {args : Array Value} {below : List Frame} {meth : Method} {c : Code} {Q : State → Prop} {g : zG} {own : String} {cc : ByteArray} {n lvl mc : Nat} {ret : Option FieldType} {κ κ' : zKp} {μ μ' : zMu} {ω ω' : zOm} {k pc : Nat} {lv lv' : List (Nat × Value)} {st : List Value} {oc : Except String (Option Value)}
theorem z_getsR (hX : zX p l s m args meth c R g own cc n ret lvl mc) {C nm ds : String} {v : Value} {index : Nat} (hZ : va_Z C nm ds v (zA g) s s.heap) (hlink : Cond.fieldLink own index C nm ds ∈ gW) (d : decode cc pc = .ok (.getstatic index, 3)) (kk : zZ p l e R s m args below meth c g n Q κ μ ω k (pc + 3) lv (v :: st)) : zZ p l e R s m args below meth c g n Q κ μ ω k pc lv (st) := fun H ls locs hl hS hW => by
  obtain ⟨hx, hb, hml, hown, hts, hK, hB, hs, hR, -⟩ := id hX
  exact va_gets hx hb hZ hS hown (hts _ hlink) (fun x h => h) d (kk H ls locs hl hS hW)
theorem z_tbald (hX : zX p l s m args meth c R g own cc n ret lvl mc) {t N q : Nat} {fn : Nat → Value} {x : Int32} {v : Value} (hT : va_T .byte t N fn (zA g) s s.heap) (hx : x = nI q) (hq : q < N) (hN : N < 100000) (hv : fn q = v) (d : decode cc pc = .ok (.baload, 1)) (kk : zZ p l e R s m args below meth c g n Q κ μ ω k (pc + 1) lv (v :: st)) : zZ p l e R s m args below meth c g n Q κ μ ω k pc lv (.int x :: .ref t :: st) := fun H ls locs hl hS hW => by
  subst hx
  obtain ⟨hx, hb, hml, hown, hts, hK, hB, hs, hR, -⟩ := id hX
  exact va_tb hx hb hT hS (vp_in_nI hq (by omega)) (by rw [nI_clamp (by omega)]; exact hv) d (kk H ls locs hl hS hW)
theorem zX.dg (hX : zX p l s m args meth c R g own cc n ret lvl mc) : ∃ t1 t2 : Nat, va_Z "java/lang/Integer" "DigitOnes" "[B" (.ref t1) (zA g) s s.heap ∧ va_T .byte t1 100 (fun j => .int (nI (48 + j % 10))) (zA g) s s.heap ∧ va_Z "java/lang/Integer" "DigitTens" "[B" (.ref t2) (zA g) s s.heap ∧ va_T .byte t2 100 (fun j => .int (nI (48 + j / 10))) (zA g) s s.heap := hX.2.2.2.2.2.2.1.2.2.2.2.2.2.2.2.1
theorem zX.sc (hX : zX p l s m args meth c R g own cc n ret lvl mc) : va_T .int (gA g 11 0 0) (gA g 11 1 0) (fun j => .int (nI (gA g 11 2 j))) (zA g) s s.heap ∧ gA g 11 1 0 ≤ 2560 := hX.2.2.2.2.2.2.1.2.2.2.2.2.2.2.2.2
theorem zq_clone (hX : zX p l s m args meth c R g RJ7 cc n ret lvl mc) {v N j r : Nat} {f : Nat → Int32} (hj : ω[j]? = some (v, bA g N f)) (hf : sb_Fit f) (hr : 1 ≤ r ∧ N ≤ 6 * r) (hk : k + r ≤ mc) (d : decode cc pc = .ok (.invokevirtual 310, 3)) (hlv : 1 ≤ lvl) (hcat : (st.map fun v => v.category).sum ≤ 8) (kk : ∀ a : Nat, zZ p l e R s m args below meth c g n Q κ μ ((a, bA g N f) :: ω) (k + r) (pc + 3) lv (.ref a :: st)) : zZ p l e R s m args below meth c g n Q κ μ ω k pc lv (.ref v :: st) := fun H ls locs hl hS hW => by
  obtain ⟨hx, hb, hml, hown, hts, hK, hB, hs, hR, -⟩ := id hX
  have hn : s.vm.findClass "[B" = some (gQ g 5) := by
    have h1 : va_RA s (gQ g 5) .byte := (hK.2 5 _ rfl).2
    have e : "[" ++ FieldType.byte.toString = "[B" := by decide +kernel
    rw [← e]
    exact h1
  refine va_clone (ad := "[B") hx hb (hml.trans hl.1.symm) hown (hts _ (gW_I 1041 (by decide +kernel) rfl)) (hts _ (gW_I 1042 (by decide +kernel) rfl)) (hts _ (gW_I 1043 (by decide +kernel) rfl)) (hts _ (gW_I 1044 (by decide +kernel) rfl)) (hts _ (gW_I 1045 (by decide +kernel) rfl)) (hB.2.2.2.2.2.1 _ (List.mem_of_getElem? (i := 1046) (by decide +kernel)) rfl) hK hW.1 hW.2 hS (zA_new hX) _ 5 (zq_at hj) rfl hn (va_fit (fun i _ => hf i)) (Nat.le_trans hlv hR.1) (Nat.le_trans (by omega) hR.2.1) (by omega) (by show 6 * k + N ≤ _; omega) d (fun q H1 _ hP1 hD1 hS1 => ?_)
  refine W.widen (show k + 1 ≤ k + r by omega) (show 6 * k + N ≤ 6 * (k + r) by omega) ?_
  exact kk q H1 ls locs hl hS1 (WW_push hP1 hD1)
theorem zq_castB (hX : zX p l s m args meth c R g RJ7 cc n ret lvl mc) {v N j : Nat} {f : Nat → Int32} (hj : ω[j]? = some (v, bA g N f)) (d : decode cc pc = .ok (.checkcast 311, 3)) (kk : zZ p l e R s m args below meth c g n Q κ μ ω k (pc + 3) lv (.ref v :: st)) : zZ p l e R s m args below meth c g n Q κ μ ω k pc lv (.ref v :: st) := fun H ls locs hl hS hW => by
  obtain ⟨hx, hb, hml, hown, hts, hK, hB, hs, hR, -⟩ := id hX
  have hn : s.vm.findClass "[B" = some (gQ g 5) := by
    have h1 : va_RA s (gQ g 5) .byte := (hK.2 5 _ rfl).2
    have e : "[" ++ FieldType.byte.toString = "[B" := by decide +kernel
    rw [← e]
    exact h1
  exact va_castA hx hb hown (hts _ (gW_I 1047 (by decide +kernel) rfl)) hW.1 _ (zq_at hj) hn d (kk H ls locs hl hS hW)
end ZST
section ZSU
def digB (a : Nat) : Nat := if a < 10 then 1 else 2
def decB (a : Nat) (j : Nat) : Int32 := if a < 10 then nI (48 + a) else if j = 0 then nI (48 + a / 10) else nI (48 + a % 10)
theorem pred_i (E : Nat) : nI (E + 1) + Int32.ofInt (-1) = nI E := by
  rw [show Int32.ofInt (-1) = -1 from rfl, ← Int32.sub_eq_add_neg]
  exact nI_pred E
theorem dig_neg : ∀ a, a < 12 → (0 - nI a ≤ -10 ↔ ¬ a < 10) ∧ ¬ (0 - nI a ≤ -100) ∧ (-100 < 0 - nI a) ∧ (-9 ≤ 0 - nI a ↔ a < 10) ∧ 0 - (0 - nI a) = nI a := by decide +kernel
theorem dig_nar : ∀ a, a < 12 → vp_nar .byte (nI (48 + a % 10)) = nI (48 + a % 10) ∧ vp_nar .byte (nI (48 + a / 10)) = nI (48 + a / 10) := by decide +kernel
theorem dig_fit : ∀ a, a < 12 → fits .byte (.int (nI (48 + a % 10))) = true ∧ fits .byte (.int (nI (48 + a / 10))) = true := by decide +kernel
set_option maxHeartbeats 1000000 in
set_option maxRecDepth 100000 in
theorem bJ6_stringSize (l : Launch) {g : zG} {κ : zKp} {μ : zMu} {ω : zOm} {a : Nat} (ha : a < 12) : zM l g yJ6_stringSize_0f7a4 cJ6_stringSize_0f7a4 4 (some .int) 1 0 [.int (nI a)] κ μ (ω) κ μ (ω) (some (.int (nI (digB a)))) := by
  refine zM_of (by decide) (Nat.le_of_ble_eq_true rfl) (fun p e R s m args below meth c hX => ?_)
  show zZ p l e R s m args below meth c g 4 _ _ _ _ 0 0 [(0, .int (nI a))] []
  obtain ⟨n1, n2, n3, n4, n5⟩ := dig_neg a ha
  refine z_iconst (v := 1) hX dJ6_stringSize_0f7a4_0 (by decide) ?_
  refine z_istore_n (lv' := [(1, _), (0, _)]) hX dJ6_stringSize_0f7a4_1 (by decide) rfl ?_
  refine z_iload_n hX dJ6_stringSize_0f7a4_2 1 rfl ?_
  refine z_if_lt (tgt := 11) hX dJ6_stringSize_0f7a4_3 (by decide) (fun h => absurd h (nI_pos (by omega))) (fun _ => ?_)
  refine z_iconst (v := 0) hX dJ6_stringSize_0f7a4_6 (by decide) ?_
  refine z_istore_n (lv' := [(1, _), (0, _)]) hX dJ6_stringSize_0f7a4_7 (by decide) rfl ?_
  refine z_iload_n hX dJ6_stringSize_0f7a4_8 1 rfl ?_
  refine z_ineg hX dJ6_stringSize_0f7a4_9 ?_
  refine z_istore_n (lv' := [(0, _), (1, _)]) hX dJ6_stringSize_0f7a4_10 (by decide) rfl ?_
  refine z_bipush (v := -10) hX dJ6_stringSize_0f7a4_11 (by decide) ?_
  refine z_istore_n (lv' := [(2, _), (0, _), (1, _)]) hX dJ6_stringSize_0f7a4_13 (by decide) rfl ?_
  refine z_iconst (v := 1) hX dJ6_stringSize_0f7a4_14 (by decide) ?_
  refine z_istore_n (lv' := [(3, _), (2, _), (0, _), (1, _)]) hX dJ6_stringSize_0f7a4_15 (by decide) rfl ?_
  refine z_iload_n hX dJ6_stringSize_0f7a4_16 0 rfl ?_
  refine z_bipush (v := 10) hX dJ6_stringSize_0f7a4_17 (by decide) ?_
  refine z_icmp_ge (tgt := 42) hX dJ6_stringSize_0f7a4_19 (by decide) (fun h => absurd h (by decide)) (fun _ => ?_)
  refine z_iload_n hX dJ6_stringSize_0f7a4_22 2 rfl ?_
  refine z_iload_n hX dJ6_stringSize_0f7a4_23 1 rfl ?_
  refine z_icmp_le (tgt := 31) hX dJ6_stringSize_0f7a4_24 (by decide) (fun h => ?_) (fun h => ?_)
  · have h1 := n1.mp h
    refine z_bipush (v := 10) hX dJ6_stringSize_0f7a4_31 (by decide) ?_
    refine z_iload_n hX dJ6_stringSize_0f7a4_33 1 rfl ?_
    refine z_imul hX dJ6_stringSize_0f7a4_34 ?_
    refine z_istore_n (lv' := [(2, .int (-100)), (3, _), (0, _), (1, _)]) hX dJ6_stringSize_0f7a4_35 (by decide) rfl ?_
    refine z_iinc (v := 2) (lv' := [(3, _), (2, _), (0, _), (1, _)]) hX dJ6_stringSize_0f7a4_36 1 rfl rfl (by decide) rfl ?_
    refine z_goto (tgt := 16) hX dJ6_stringSize_0f7a4_39 (by decide) ?_
    refine z_iload_n hX dJ6_stringSize_0f7a4_16 0 rfl ?_
    refine z_bipush (v := 10) hX dJ6_stringSize_0f7a4_17 (by decide) ?_
    refine z_icmp_ge (tgt := 42) hX dJ6_stringSize_0f7a4_19 (by decide) (fun h => absurd h (by decide)) (fun _ => ?_)
    refine z_iload_n hX dJ6_stringSize_0f7a4_22 2 rfl ?_
    refine z_iload_n hX dJ6_stringSize_0f7a4_23 1 rfl ?_
    refine z_icmp_le (tgt := 31) hX dJ6_stringSize_0f7a4_24 (by decide) (fun h => absurd h n2) (fun h => ?_)
    refine z_iload_n hX dJ6_stringSize_0f7a4_27 0 rfl ?_
    refine z_iload_n hX dJ6_stringSize_0f7a4_28 3 rfl ?_
    refine z_iadd hX dJ6_stringSize_0f7a4_29 ?_
    exact z_iretI hX dJ6_stringSize_0f7a4_30 (by decide) (by unfold digB; rw [if_neg h1]; rfl) (fun _ h => h)
  · have h1 : a < 10 := Classical.not_not.mp (fun z => h (n1.mpr z))
    refine z_iload_n hX dJ6_stringSize_0f7a4_27 0 rfl ?_
    refine z_iload_n hX dJ6_stringSize_0f7a4_28 3 rfl ?_
    refine z_iadd hX dJ6_stringSize_0f7a4_29 ?_
    exact z_iretI hX dJ6_stringSize_0f7a4_30 (by decide) (by unfold digB; rw [if_pos h1]; rfl) (fun _ h => h)
set_option maxHeartbeats 1000000 in
set_option maxRecDepth 100000 in
theorem bJ6_getChars1 (l : Launch) {g : zG} {κ : zKp} {μ : zMu} {ω : zOm} {a v M E j : Nat} {h : Nat → Int32} (ha : a < 12) (h10 : a < 10) (hj : ω[j]? = some (v, bA g M h)) (hM : E + 1 ≤ M) (hM2 : M < 100000) : zM l g yJ6_getChars_ba4f3 cJ6_getChars_ba4f3 7 (some .int) 1 0 [.int (nI a), .int (nI (E + 1)), .ref v] κ μ (ω) κ μ (ω.set j (v, bA g M (upd h E (nI (48 + a % 10))))) (some (.int (nI E))) := by
  refine zM_of (by decide) (Nat.le_of_ble_eq_true rfl) (fun p e R s m args below meth c hX => ?_)
  show zZ p l e R s m args below meth c g 7 _ _ _ _ 0 0 [(0, .int (nI a)), (1, .int (nI (E + 1))), (2, .ref v)] []
  obtain ⟨n1, n2, n3, n4, n5⟩ := dig_neg a ha
  obtain ⟨m1, m2⟩ := dig_nar a ha
  obtain ⟨t1, t2, d1, d2, d3, d4⟩ := hX.dg
  refine z_iload_n hX dJ6_getChars_ba4f3_0 1 rfl ?_
  refine z_istore (lv' := [(5, _), (0, _), (1, _), (2, _)]) hX dJ6_getChars_ba4f3_1 (by decide) rfl ?_
  refine z_iload_n hX dJ6_getChars_ba4f3_3 1 rfl ?_
  refine z_if_ge (tgt := 11) hX dJ6_getChars_ba4f3_4 (by decide) (fun _ => ?_) (fun h => absurd (nI_pos' (by omega)) h)
  refine z_iconst (v := 0) hX dJ6_getChars_ba4f3_11 (by decide) ?_
  refine z_istore (lv' := [(6, _), (5, _), (0, _), (1, _), (2, _)]) hX dJ6_getChars_ba4f3_12 (by decide) rfl ?_
  refine z_iload hX dJ6_getChars_ba4f3_14 0 rfl ?_
  refine z_if_ne (tgt := 22) hX dJ6_getChars_ba4f3_16 (by decide) (fun h => absurd rfl h) (fun _ => ?_)
  refine z_iload_n hX dJ6_getChars_ba4f3_19 2 rfl ?_
  refine z_ineg hX dJ6_getChars_ba4f3_20 ?_
  refine z_istore_n (lv' := [(0, _), (6, _), (5, _), (1, _), (2, _)]) hX dJ6_getChars_ba4f3_21 (by decide) rfl ?_
  refine z_iload_n hX dJ6_getChars_ba4f3_22 0 rfl ?_
  refine z_bipush (v := -100) hX dJ6_getChars_ba4f3_23 (by decide) ?_
  refine z_icmp_gt (tgt := 72) hX dJ6_getChars_ba4f3_25 (by decide) (fun _ => ?_) (fun h => absurd n3 h)
  refine z_aload_n hX dJ6_getChars_ba4f3_72 4 rfl ?_
  refine z_iinc (v := nI E) (lv' := [(5, _), (0, _), (6, _), (1, _), (2, _)]) hX dJ6_getChars_ba4f3_73 2 rfl (pred_i E) (by decide) rfl ?_
  refine z_iload hX dJ6_getChars_ba4f3_76 0 rfl ?_
  refine z_getsR hX d1 fl_RJ6_83 dJ6_getChars_ba4f3_78 ?_
  refine z_iload_n hX dJ6_getChars_ba4f3_81 1 rfl ?_
  refine z_ineg hX dJ6_getChars_ba4f3_82 ?_
  refine z_tbald hX d2 n5 (by omega) (by decide) rfl dJ6_getChars_ba4f3_83 ?_
  refine zq_bast hX hj rfl (by omega) hM2 dJ6_getChars_ba4f3_84 ?_
  rw [m1]
  refine z_iload_n hX dJ6_getChars_ba4f3_85 1 rfl ?_
  refine z_bipush (v := -9) hX dJ6_getChars_ba4f3_86 (by decide) ?_
  
  refine z_icmp_ge (tgt := 104) hX dJ6_getChars_ba4f3_88 (by decide) (fun _ => ?_) (fun q => absurd (n4.mpr h10) q)
  refine z_iload hX dJ6_getChars_ba4f3_104 2 rfl ?_
  refine z_if_eq (tgt := 118) hX dJ6_getChars_ba4f3_106 (by decide) (fun _ => ?_) (fun q => absurd rfl q)
  refine z_iload hX dJ6_getChars_ba4f3_118 0 rfl ?_
  exact z_iretI hX dJ6_getChars_ba4f3_120 (by decide) rfl (fun _ h => h)
set_option maxHeartbeats 1000000 in
set_option maxRecDepth 100000 in
theorem bJ6_getChars2 (l : Launch) {g : zG} {κ : zKp} {μ : zMu} {ω : zOm} {a v M E j : Nat} {h : Nat → Int32} (ha : a < 12) (h10 : ¬ a < 10) (hj : ω[j]? = some (v, bA g M h)) (hM : E + 2 ≤ M) (hM2 : M < 100000) : zM l g yJ6_getChars_ba4f3 cJ6_getChars_ba4f3 7 (some .int) 1 0 [.int (nI a), .int (nI (E + 1 + 1)), .ref v] κ μ (ω) κ μ (ω.set j (v, bA g M (upd (upd h (E + 1) (nI (48 + a % 10))) E (nI (48 + a / 10))))) (some (.int (nI E))) := by
  refine zM_of (by decide) (Nat.le_of_ble_eq_true rfl) (fun p e R s m args below meth c hX => ?_)
  show zZ p l e R s m args below meth c g 7 _ _ _ _ 0 0 [(0, .int (nI a)), (1, .int (nI (E + 1 + 1))), (2, .ref v)] []
  obtain ⟨n1, n2, n3, n4, n5⟩ := dig_neg a ha
  obtain ⟨m1, m2⟩ := dig_nar a ha
  obtain ⟨t1, t2, d1, d2, d3, d4⟩ := hX.dg
  refine z_iload_n hX dJ6_getChars_ba4f3_0 1 rfl ?_
  refine z_istore (lv' := [(5, _), (0, _), (1, _), (2, _)]) hX dJ6_getChars_ba4f3_1 (by decide) rfl ?_
  refine z_iload_n hX dJ6_getChars_ba4f3_3 1 rfl ?_
  refine z_if_ge (tgt := 11) hX dJ6_getChars_ba4f3_4 (by decide) (fun _ => ?_) (fun h => absurd (nI_pos' (by omega)) h)
  refine z_iconst (v := 0) hX dJ6_getChars_ba4f3_11 (by decide) ?_
  refine z_istore (lv' := [(6, _), (5, _), (0, _), (1, _), (2, _)]) hX dJ6_getChars_ba4f3_12 (by decide) rfl ?_
  refine z_iload hX dJ6_getChars_ba4f3_14 0 rfl ?_
  refine z_if_ne (tgt := 22) hX dJ6_getChars_ba4f3_16 (by decide) (fun h => absurd rfl h) (fun _ => ?_)
  refine z_iload_n hX dJ6_getChars_ba4f3_19 2 rfl ?_
  refine z_ineg hX dJ6_getChars_ba4f3_20 ?_
  refine z_istore_n (lv' := [(0, _), (6, _), (5, _), (1, _), (2, _)]) hX dJ6_getChars_ba4f3_21 (by decide) rfl ?_
  refine z_iload_n hX dJ6_getChars_ba4f3_22 0 rfl ?_
  refine z_bipush (v := -100) hX dJ6_getChars_ba4f3_23 (by decide) ?_
  refine z_icmp_gt (tgt := 72) hX dJ6_getChars_ba4f3_25 (by decide) (fun _ => ?_) (fun h => absurd n3 h)
  refine z_aload_n hX dJ6_getChars_ba4f3_72 4 rfl ?_
  refine z_iinc (v := nI (E + 1)) (lv' := [(5, _), (0, _), (6, _), (1, _), (2, _)]) hX dJ6_getChars_ba4f3_73 2 rfl (pred_i (E + 1)) (by decide) rfl ?_
  refine z_iload hX dJ6_getChars_ba4f3_76 0 rfl ?_
  refine z_getsR hX d1 fl_RJ6_83 dJ6_getChars_ba4f3_78 ?_
  refine z_iload_n hX dJ6_getChars_ba4f3_81 1 rfl ?_
  refine z_ineg hX dJ6_getChars_ba4f3_82 ?_
  refine z_tbald hX d2 n5 (by omega) (by decide) rfl dJ6_getChars_ba4f3_83 ?_
  refine zq_bast hX hj rfl (by omega) hM2 dJ6_getChars_ba4f3_84 ?_
  rw [m1]
  refine z_iload_n hX dJ6_getChars_ba4f3_85 1 rfl ?_
  refine z_bipush (v := -9) hX dJ6_getChars_ba4f3_86 (by decide) ?_
  
  refine z_icmp_ge (tgt := 104) hX dJ6_getChars_ba4f3_88 (by decide) (fun q => absurd (n4.mp q) h10) (fun _ => ?_)
  refine z_aload_n hX dJ6_getChars_ba4f3_91 4 rfl ?_
  refine z_iinc (v := nI E) (lv' := [(5, _), (0, _), (6, _), (1, _), (2, _)]) hX dJ6_getChars_ba4f3_92 0 rfl (pred_i E) (by decide) rfl ?_
  refine z_iload hX dJ6_getChars_ba4f3_95 0 rfl ?_
  refine z_getsR hX d3 fl_RJ6_87 dJ6_getChars_ba4f3_97 ?_
  refine z_iload_n hX dJ6_getChars_ba4f3_100 1 rfl ?_
  refine z_ineg hX dJ6_getChars_ba4f3_101 ?_
  refine z_tbald hX d4 n5 (by omega) (by decide) rfl dJ6_getChars_ba4f3_102 ?_
  refine zq_bast hX (j := j) (List.getElem?_set_self (List.getElem?_eq_some_iff.mp hj).1) rfl (by omega) hM2 dJ6_getChars_ba4f3_103 ?_
  rw [m2, List.set_set]
  refine z_iload hX dJ6_getChars_ba4f3_104 2 rfl ?_
  refine z_if_eq (tgt := 118) hX dJ6_getChars_ba4f3_106 (by decide) (fun _ => ?_) (fun q => absurd rfl q)
  refine z_iload hX dJ6_getChars_ba4f3_118 0 rfl ?_
  exact z_iretI hX dJ6_getChars_ba4f3_120 (by decide) rfl (fun _ h => h)
theorem app_1 {g : zG} {b v N M M0 a : Nat} {f f1 : Nat → Int32} {ω : zOm} (ha : a < 12) (h10 : a < 10) (hf : sb_Fit f1) (hM : N + digB a ≤ M) (hM2 : M ≤ 132) (h0 : N ≤ M0) (hk : ∀ j, j < M0 → f1 j = f j) : appB g b N (digB a) f (decB a) ω (sbW g b v (N + digB a) M (upd f1 N (nI (48 + a % 10))) ω) := by
  refine ⟨v, M, _, rfl, hM, hM2, sb_fitU hf (dig_fit a ha).1, fun j hj => ?_, fun j hj => ?_⟩
  · unfold upd
    rw [if_neg (by omega)]
    exact hk j (by omega)
  · unfold digB at hj
    rw [if_pos h10] at hj
    unfold upd decB
    rw [if_pos (by omega), if_pos h10, Nat.mod_eq_of_lt h10]
theorem app_2 {g : zG} {b v N M M0 a : Nat} {f f1 : Nat → Int32} {ω : zOm} (ha : a < 12) (h10 : ¬ a < 10) (hf : sb_Fit f1) (hM : N + digB a ≤ M) (hM2 : M ≤ 132) (h0 : N ≤ M0) (hk : ∀ j, j < M0 → f1 j = f j) : appB g b N (digB a) f (decB a) ω (sbW g b v (N + digB a) M (upd (upd f1 (N + 1) (nI (48 + a % 10))) N (nI (48 + a / 10))) ω) := by
  refine ⟨v, M, _, rfl, hM, hM2, sb_fitU (sb_fitU hf (dig_fit a ha).1) (dig_fit a ha).2, fun j hj => ?_, fun j hj => ?_⟩
  · unfold upd
    rw [if_neg (by omega), if_neg (by omega)]
    exact hk j (by omega)
  · unfold digB at hj
    rw [if_neg h10] at hj
    unfold upd decB
    rw [if_neg h10]
    rcases (show j = 0 ∨ j = 1 by omega) with rfl | rfl
    · rw [if_pos (Nat.add_zero N), if_pos rfl]
    · rw [if_neg (by omega), if_pos rfl, if_neg (by decide)]
set_option maxHeartbeats 1000000 in
set_option maxRecDepth 100000 in
theorem bJ5_appendI (l : Launch) {g : zG} {κ : zKp} {μ : zMu} {ω : zOm} {b v N M : Nat} {f : Nat → Int32} {a : Nat} (ha : a < 12) (hN : N ≤ M) (hK : N + 2 ≤ 64) (hM2 : M ≤ 132) (hf : sb_Fit f) : zME l g yJ5_append_c97b9 cJ5_append_c97b9 4 (some (.object "java/lang/AbstractStringBuilder")) 5 22 [.ref b, .int (nI a)] κ μ (sbW g b v N M f ω) κ μ (fun w r => r = some (.ref b) ∧ appB g b N (digB a) f (decB a) ω w) := by
  refine zME_of (by decide) (Nat.le_of_ble_eq_true rfl) (fun p e R s m args below meth c hi0 hX => ?_)
  show zZ p l e R s m args below meth c g 4 _ _ _ _ 0 0 [(0, .ref b), (1, .int (nI a))] []
  have hd2 : digB a ≤ 2 := by unfold digB; split <;> omega
  refine z_aload_n hX dJ5_append_c97b9_0 0 rfl ?_
  refine zb_count hX (j := 0) rfl fl_RJ5_79 dJ5_append_c97b9_1 ?_
  refine z_istore_n (lv' := [(2, _), (0, _), (1, _)]) hX dJ5_append_c97b9_4 (by decide) rfl ?_
  refine z_iload_n hX dJ5_append_c97b9_5 0 rfl ?_
  refine z_iload_n hX dJ5_append_c97b9_6 2 rfl ?_
  refine z_callS1 hX (bJ6_stringSize l ha) cs_RJ5_245 dJ5_append_c97b9_7 ⟨by decide, by decide, by decide⟩ rfl rfl (Nat.le_of_ble_eq_true rfl) ?_
  refine z_iadd hX dJ5_append_c97b9_10 ?_
  refine z_isv (nI_add _ _) ?_
  refine z_istore_n (lv' := [(3, _), (2, _), (0, _), (1, _)]) hX dJ5_append_c97b9_11 (by decide) rfl ?_
  refine z_aload_n hX dJ5_append_c97b9_12 2 rfl ?_
  refine z_iload_n hX dJ5_append_c97b9_13 0 rfl ?_
  refine zE_callV hX (bJ5_ensure l (q := N + digB a) (by omega) hM2 hf) cu_RJ5_100 (zRv_at hX (j := 0) rfl rfl) dJ5_append_c97b9_14 ⟨by decide, by decide, by omega⟩ rfl rfl (Nat.le_of_ble_eq_true rfl) (fun w r h => ?_)
  obtain ⟨rfl, v2, M2, f2, rfl, h1, h2, h3, h4, h5⟩ := h
  refine z_aload_n hX dJ5_append_c97b9_17 2 rfl ?_
  refine z_callU1 hX (bJ5_isLatin1 l) cu_RJ5_83 (zRv_at hX (j := 0) rfl rfl) dJ5_append_c97b9_18 ⟨by decide, by decide, by omega⟩ rfl rfl (Nat.le_of_ble_eq_true rfl) ?_
  refine z_if_eq (tgt := 37) hX dJ5_append_c97b9_21 (by decide) (fun h => absurd h (by decide)) (fun _ => ?_)
  refine z_iload_n hX dJ5_append_c97b9_24 3 rfl ?_
  refine z_iload_n hX dJ5_append_c97b9_25 0 rfl ?_
  refine z_aload_n hX dJ5_append_c97b9_26 2 rfl ?_
  refine zb_value hX (j := 0) rfl fl_RJ5_15 dJ5_append_c97b9_27 ?_
  by_cases h10 : a < 10
  · have e1 : digB a = 1 := if_pos h10
    refine z_callS1 hX (bJ6_getChars1 l (j := 1) (E := N) (M := M2) (h := f2) ha h10 rfl (by omega) (by omega)) cs_RJ5_248 dJ5_append_c97b9_30 ⟨by decide, by decide, by omega⟩ rfl (by rw [e1]; rfl) (Nat.le_of_ble_eq_true rfl) ?_
    refine z_pop hX dJ5_append_c97b9_33 rfl ?_
    refine z_goto (tgt := 48) hX dJ5_append_c97b9_34 (by decide) ?_
    refine z_aload_n hX dJ5_append_c97b9_48 2 rfl ?_
    refine z_iload_n hX dJ5_append_c97b9_49 0 rfl ?_
    refine zb_pcount hX (j := 0) rfl rfl fl_RJ5_79 dJ5_append_c97b9_50 ?_
    refine z_aload_n hX dJ5_append_c97b9_53 2 rfl ?_
    exact zE_of ⟨rfl, app_1 ha h10 h4 h1 h3 hN h5⟩ (z_aret hX dJ5_append_c97b9_54 (by decide) (Or.inr ⟨_, rfl⟩) rfl (fun _ h => h))
  · have e1 : digB a = 2 := if_neg h10
    refine z_callS1 hX (bJ6_getChars2 l (j := 1) (E := N) (M := M2) (h := f2) ha h10 rfl (by omega) (by omega)) cs_RJ5_248 dJ5_append_c97b9_30 ⟨by decide, by decide, by omega⟩ rfl (by rw [e1]; rfl) (Nat.le_of_ble_eq_true rfl) ?_
    refine z_pop hX dJ5_append_c97b9_33 rfl ?_
    refine z_goto (tgt := 48) hX dJ5_append_c97b9_34 (by decide) ?_
    refine z_aload_n hX dJ5_append_c97b9_48 2 rfl ?_
    refine z_iload_n hX dJ5_append_c97b9_49 0 rfl ?_
    refine zb_pcount hX (j := 0) rfl rfl fl_RJ5_79 dJ5_append_c97b9_50 ?_
    refine z_aload_n hX dJ5_append_c97b9_53 2 rfl ?_
    exact zE_of ⟨rfl, app_2 ha h10 h4 h1 h3 hN h5⟩ (z_aret hX dJ5_append_c97b9_54 (by decide) (Or.inr ⟨_, rfl⟩) rfl (fun _ h => h))
set_option maxHeartbeats 1000000 in
set_option maxRecDepth 100000 in
theorem bJ4_appendI (l : Launch) {g : zG} {κ : zKp} {μ : zMu} {ω : zOm} {b v N M : Nat} {f : Nat → Int32} {a : Nat} (ha : a < 12) (hN : N ≤ M) (hK : N + 2 ≤ 64) (hM2 : M ≤ 132) (hf : sb_Fit f) : zME l g yJ4_append_bf812 cJ4_append_bf812 2 (some (.object "java/lang/StringBuilder")) 6 22 [.ref b, .int (nI a)] κ μ (sbW g b v N M f ω) κ μ (fun w r => r = some (.ref b) ∧ appB g b N (digB a) f (decB a) ω w) := by
  refine zME_of (by decide) (Nat.le_of_ble_eq_true rfl) (fun p e R s m args below meth c hi0 hX => ?_)
  show zZ p l e R s m args below meth c g 2 _ _ _ _ 0 0 [(0, .ref b), (1, .int (nI a))] []
  refine z_aload_n hX dJ4_append_bf812_0 0 rfl ?_
  refine z_iload_n hX dJ4_append_bf812_1 1 rfl ?_
  refine zE_callU hX (ci := 1) rfl (bJ5_appendI l ha hN hK hM2 hf) cw_RJ4_53 (zRv_at hX (j := 0) rfl rfl) dJ4_append_bf812_2 ⟨by decide, by decide, by omega⟩ rfl rfl (Nat.le_of_ble_eq_true rfl) (fun w r h => ?_)
  obtain ⟨rfl, h⟩ := h
  refine z_pop hX dJ4_append_bf812_5 rfl ?_
  refine z_aload_n hX dJ4_append_bf812_6 0 rfl ?_
  exact zE_of ⟨rfl, h⟩ (z_aret hX dJ4_append_bf812_7 (by decide) (Or.inr ⟨_, rfl⟩) rfl (fun _ h => h))
set_option maxHeartbeats 1000000 in
set_option maxRecDepth 100000 in
theorem bJ5_getValue (l : Launch) {g : zG} {κ : zKp} {μ : zMu} {ω : zOm} {b v N : Nat}  : zM l g yJ5_getValue_6d5f1 cJ5_getValue_6d5f1 1 (some (.array .byte)) 1 0 [.ref b] κ μ ((b, sbO v N) :: ω) κ μ ((b, sbO v N) :: ω) (some (.ref v)) := by
  refine zM_of (by decide) (Nat.le_of_ble_eq_true rfl) (fun p e R s m args below meth c hX => ?_)
  show zZ p l e R s m args below meth c g 1 _ _ _ _ 0 0 [(0, .ref b)] []
  refine z_aload_n hX dJ5_getValue_6d5f1_0 0 rfl ?_
  refine zb_value hX (j := 0) rfl fl_RJ5_15 dJ5_getValue_6d5f1_1 ?_
  exact z_aretA hX dJ5_getValue_6d5f1_4 (by decide) (Or.inr ⟨_, rfl⟩) rfl (fun _ h => h)
set_option maxHeartbeats 1000000 in
set_option maxRecDepth 100000 in
theorem bJ5_length (l : Launch) {g : zG} {κ : zKp} {μ : zMu} {ω : zOm} {b v N j : Nat} (hj : ω[j]? = some (b, sbO v N)) : zM l g yJ5_length_8abf5 cJ5_length_8abf5 1 (some .int) 1 0 [.ref b] κ μ (ω) κ μ (ω) (some (.int (nI N))) := by
  refine zM_of (by decide) (Nat.le_of_ble_eq_true rfl) (fun p e R s m args below meth c hX => ?_)
  show zZ p l e R s m args below meth c g 1 _ _ _ _ 0 0 [(0, .ref b)] []
  refine z_aload_n hX dJ5_length_8abf5_0 0 rfl ?_
  refine zb_count hX hj fl_RJ5_79 dJ5_length_8abf5_1 ?_
  exact z_iretI hX dJ5_length_8abf5_4 (by decide) rfl (fun _ h => h)
set_option maxHeartbeats 1000000 in
set_option maxRecDepth 100000 in
theorem bJ4_length (l : Launch) {g : zG} {κ : zKp} {μ : zMu} {ω : zOm} {b v N j : Nat} (hj : ω[j]? = some (b, sbO v N)) : zM l g yJ4_length_8abf5 cJ4_length_8abf5 1 (some .int) 2 0 [.ref b] κ μ (ω) κ μ (ω) (some (.int (nI N))) := by
  refine zM_of (by decide) (Nat.le_of_ble_eq_true rfl) (fun p e R s m args below meth c hX => ?_)
  show zZ p l e R s m args below meth c g 1 _ _ _ _ 0 0 [(0, .ref b)] []
  refine z_aload_n hX dJ4_length_8abf5_0 0 rfl ?_
  refine zE_callU hX (ci := 1) rfl (bJ5_length l hj).toE cw_RJ4_343 (zRv_at hX hj rfl) dJ4_length_8abf5_1 ⟨by decide, by decide, by omega⟩ rfl rfl (Nat.le_of_ble_eq_true rfl) (fun w r h => ?_)
  obtain ⟨rfl, rfl⟩ := h
  exact z_iretI hX dJ4_length_8abf5_4 (by decide) rfl (fun _ h => h)
set_option maxHeartbeats 1000000 in
set_option maxRecDepth 100000 in
theorem bJ7_checkLength (l : Launch) {g : zG} {κ : zKp} {μ : zMu} {ω : zOm} {N : Nat} (hN : N < 100000) : zM l g yJ7_checkLength_df160 cJ7_checkLength_df160 2 none 1 0 [.int 0, .int (nI N)] κ μ (ω) κ μ (ω) (none) := by
  refine zM_of (by decide) (Nat.le_of_ble_eq_true rfl) (fun p e R s m args below meth c hX => ?_)
  show zZ p l e R s m args below meth c g 2 _ _ _ _ 0 0 [(0, .int 0), (1, .int (nI N))] []
  refine z_iload_n hX dJ7_checkLength_df160_0 1 rfl ?_
  refine z_iload_n hX dJ7_checkLength_df160_1 0 rfl ?_
  refine z_icmp_ge (tgt := 37) hX dJ7_checkLength_df160_2 (by decide) (fun _ => ?_) (fun h => absurd (nI_pos' (by omega)) h)
  exact z_vret hX dJ7_checkLength_df160_37 (by decide) (fun _ h => h)
/-- the first N bytes, copied -/
abbrev cpyB (g : zG) (N : Nat) (f : Nat → Int32) (ω w : zOm) (r : Option Value) : Prop := ∃ (a : Nat) (f2 : Nat → Int32), r = some (.ref a) ∧ w = (a, bA g N f2) :: ω ∧ ∀ j, j < N → f2 j = f j
set_option maxHeartbeats 1000000 in
set_option maxRecDepth 100000 in
theorem bJ7_copyOfRangeByte (l : Launch) {g : zG} {κ : zKp} {μ : zMu} {ω : zOm} {v M N j : Nat} {f : Nat → Int32} (hj : ω[j]? = some (v, bA g M f)) (hf : sb_Fit f) (hN : N ≤ M) (hM : M ≤ 132) : zME l g yJ7_copyOfRangeByte_39247 cJ7_copyOfRangeByte_39247 5 (some (.array .byte)) 2 22 [.ref v, .int 0, .int (nI N)] κ μ (ω) κ μ (cpyB g N f ω) := by
  refine zME_of (by decide) (Nat.le_of_ble_eq_true rfl) (fun p e R s m args below meth c hi0 hX => ?_)
  show zZ p l e R s m args below meth c g 5 _ _ _ _ 0 0 [(0, .ref v), (1, .int 0), (2, .int (nI N))] []
  refine z_iload_n hX dJ7_copyOfRangeByte_39247_0 1 rfl ?_
  refine z_iload_n hX dJ7_copyOfRangeByte_39247_1 2 rfl ?_
  refine z_callS0 hX (bJ7_checkLength l (by omega)) cs_RJ7_343 dJ7_copyOfRangeByte_39247_2 ⟨by decide, by decide, by decide⟩ rfl rfl (Nat.le_of_ble_eq_true rfl) ?_
  refine z_iload_n hX dJ7_copyOfRangeByte_39247_5 2 rfl ?_
  refine z_iload_n hX dJ7_copyOfRangeByte_39247_6 1 rfl ?_
  refine z_isub hX dJ7_copyOfRangeByte_39247_7 ?_
  refine z_isv (Int32.sub_zero _) ?_
  refine z_istore_n (lv' := [(3, _), (0, _), (1, _), (2, _)]) hX dJ7_copyOfRangeByte_39247_8 (by decide) rfl ?_
  refine z_iload_n hX dJ7_copyOfRangeByte_39247_9 0 rfl ?_
  refine zq_newa hX (t0 := 5) (N := N) (r := 22) (a0 := (N, .inl (fun _ => 0))) (ty := .byte) rfl (gW_I 439 (by decide +kernel) rfl) rfl (fun _ => rfl) rfl (by omega) (by show N * 1 ≤ _; omega) (by omega) (by decide) dJ7_copyOfRangeByte_39247_10 (fun a => ?_)
  refine z_astore (lv' := [(4, _), (3, _), (0, _), (1, _), (2, _)]) hX dJ7_copyOfRangeByte_39247_12 (by decide) rfl ?_
  refine z_aload_n hX dJ7_copyOfRangeByte_39247_14 2 rfl ?_
  refine z_iload_n hX dJ7_copyOfRangeByte_39247_15 3 rfl ?_
  refine z_aload hX dJ7_copyOfRangeByte_39247_16 0 rfl ?_
  refine z_iconst (v := 0) hX dJ7_copyOfRangeByte_39247_18 (by decide) ?_
  refine z_aload_n hX dJ7_copyOfRangeByte_39247_19 2 rfl ?_
  refine zq_alen hX (t0 := 5) (v := nI M) (j := j + 1) hj rfl rfl dJ7_copyOfRangeByte_39247_20 ?_
  refine z_iload_n hX dJ7_copyOfRangeByte_39247_21 3 rfl ?_
  refine z_isub hX dJ7_copyOfRangeByte_39247_22 ?_
  refine z_isv (Int32.sub_zero _) ?_
  refine z_iload_n hX dJ7_copyOfRangeByte_39247_23 1 rfl ?_
  refine z_min hX ml_RJ7_304 dJ7_copyOfRangeByte_39247_24 (by decide) (Nat.le_of_ble_eq_true rfl) ?_
  refine z_isv (y := nI N) (by
    by_cases q : nI N < nI M
    · rw [if_pos q]
    · rw [if_neg q]
      exact Int32.le_antisymm (Int32.not_lt.mp q) (nI_le hN (by omega))) ?_
  refine zq_copyb hX (j2 := j + 1) (j := 0) hj hf rfl rfl ⟨Nat.le_refl _, hN⟩ (by omega) ml_ac7 dJ7_copyOfRangeByte_39247_27 (by decide) (Nat.le_of_ble_eq_true rfl) ?_
  refine z_aload hX dJ7_copyOfRangeByte_39247_30 0 rfl ?_
  refine zE_of ⟨a, va_cpy f (fun _ => 0) 0 0 N, rfl, rfl, fun q hq => ?_⟩ (z_aretA hX dJ7_copyOfRangeByte_39247_32 (by decide) (Or.inr ⟨_, rfl⟩) rfl (fun _ h => h))
  unfold va_cpy
  rw [if_pos (by omega), Nat.zero_add, Nat.sub_zero]
set_option maxHeartbeats 1000000 in
set_option maxRecDepth 100000 in
theorem bJ7_copyOfRange (l : Launch) {g : zG} {κ : zKp} {μ : zMu} {ω : zOm} {v M N j : Nat} {f : Nat → Int32} (hj : ω[j]? = some (v, bA g M f)) (hf : sb_Fit f) (hN : N ≤ M) (hM : M ≤ 132) : zME l g yJ7_copyOfRange_39247 cJ7_copyOfRange_39247 3 (some (.array .byte)) 3 22 [.ref v, .int 0, .int (nI N)] κ μ (ω) κ μ (cpyB g N f ω) := by
  refine zME_of (by decide) (Nat.le_of_ble_eq_true rfl) (fun p e R s m args below meth c hi0 hX => ?_)
  show zZ p l e R s m args below meth c g 3 _ _ _ _ 0 0 [(0, .ref v), (1, .int 0), (2, .int (nI N))] []
  refine z_iload_n hX dJ7_copyOfRange_39247_0 1 rfl ?_
  refine z_if_ne (tgt := 10) hX dJ7_copyOfRange_39247_1 (by decide) (fun h => absurd rfl h) (fun _ => ?_)
  refine z_iload_n hX dJ7_copyOfRange_39247_4 2 rfl ?_
  refine z_aload_n hX dJ7_copyOfRange_39247_5 0 rfl ?_
  refine zq_alen hX (t0 := 5) (v := nI M) hj rfl rfl dJ7_copyOfRange_39247_6 ?_
  refine z_icmp_eq (tgt := 17) hX dJ7_copyOfRange_39247_7 (by decide) (fun h => ?_) (fun h => ?_)
  · have e : N = M := (nI_eq (by omega) (by omega)).mp h
    subst e
    refine z_aload_n hX dJ7_copyOfRange_39247_17 0 rfl ?_
    refine zq_clone hX (r := 22) hj hf (by omega) (by decide) dJ7_copyOfRange_39247_18 (by decide) (Nat.le_of_ble_eq_true rfl) (fun a => ?_)
    refine zq_castB hX (j := 0) rfl dJ7_copyOfRange_39247_21 ?_
    exact zE_of ⟨a, f, rfl, rfl, fun _ _ => rfl⟩ (z_aretA hX dJ7_copyOfRange_39247_24 (by decide) (Or.inr ⟨_, rfl⟩) rfl (fun _ h => h))
  · refine z_aload_n hX dJ7_copyOfRange_39247_10 0 rfl ?_
    refine z_iload_n hX dJ7_copyOfRange_39247_11 1 rfl ?_
    refine z_iload_n hX dJ7_copyOfRange_39247_12 2 rfl ?_
    refine zE_callS hX (bJ7_copyOfRangeByte l hj hf hN hM) cs_RJ7_339 dJ7_copyOfRange_39247_13 ⟨by decide, by decide, by omega⟩ rfl rfl (Nat.le_of_ble_eq_true rfl) (fun w r h => ?_)
    obtain ⟨a, f2, rfl, rfl, h2⟩ := h
    exact zE_of ⟨a, f2, rfl, rfl, h2⟩ (z_aretA hX dJ7_copyOfRange_39247_16 (by decide) (Or.inr ⟨_, rfl⟩) rfl (fun _ h => h))
/-- a new string beside its builder -/
abbrev newS (g : zG) (a b v N M : Nat) (f : Nat → Int32) (ω w : zOm) : Prop := ∃ (u : Nat) (f2 : Nat → Int32), w = (a, stO u) :: (u, bA g N f2) :: sbW g b v N M f ω ∧ ∀ j, j < N → f2 j = f j
set_option maxHeartbeats 1000000 in
set_option maxRecDepth 100000 in
theorem sJ5_getValue (l : Launch) {g : zG} {κ : zKp} {μ : zMu} {ω : zOm} {b v N j : Nat} (hj : ω[j]? = some (b, sbO v N)) : zM l g yJ5_getValue_6d5f1 cJ5_getValue_6d5f1 1 (some (.array .byte)) 1 0 [.ref b] κ μ (ω) κ μ (ω) (some (.ref v)) := by
  refine zM_of (by decide) (Nat.le_of_ble_eq_true rfl) (fun p e R s m args below meth c hX => ?_)
  show zZ p l e R s m args below meth c g 1 _ _ _ _ 0 0 [(0, .ref b)] []
  refine z_aload_n hX dJ5_getValue_6d5f1_0 0 rfl ?_
  refine zb_value hX hj fl_RJ5_15 dJ5_getValue_6d5f1_1 ?_
  exact z_aretA hX dJ5_getValue_6d5f1_4 (by decide) (Or.inr ⟨_, rfl⟩) rfl (fun _ h => h)
set_option maxHeartbeats 1000000 in
set_option maxRecDepth 100000 in
theorem sJ5_isLatin1 (l : Launch) {g : zG} {κ : zKp} {μ : zMu} {ω : zOm} {b v N j : Nat} (hj : ω[j]? = some (b, sbO v N)) : zM l g yJ5_isLatin1_aae02 cJ5_isLatin1_aae02 1 (some .boolean) 1 0 [.ref b] κ μ (ω) κ μ (ω) (some (.int 1)) := by
  refine zM_of (by decide) (Nat.le_of_ble_eq_true rfl) (fun p e R s m args below meth c hX => ?_)
  show zZ p l e R s m args below meth c g 1 _ _ _ _ 0 0 [(0, .ref b)] []
  refine zk_gets hX fl_RJ5_18 dJ5_isLatin1_aae02_0 ?_
  refine z_if_eq (tgt := 17) hX dJ5_isLatin1_aae02_3 (by decide) (fun h => absurd h (by decide)) (fun _ => ?_)
  refine z_aload_n hX dJ5_isLatin1_aae02_6 0 rfl ?_
  refine zb_coder hX hj fl_RJ5_22 dJ5_isLatin1_aae02_7 ?_
  refine z_if_ne (tgt := 17) hX dJ5_isLatin1_aae02_10 (by decide) (fun h => absurd rfl h) (fun _ => ?_)
  refine z_iconst (v := 1) hX dJ5_isLatin1_aae02_13 (by decide) ?_
  refine z_goto (tgt := 18) hX dJ5_isLatin1_aae02_14 (by decide) ?_
  exact z_iret hX dJ5_isLatin1_aae02_18 (by decide) rfl rfl (fun _ h => h)
set_option maxHeartbeats 1000000 in
set_option maxRecDepth 100000 in
theorem sJ0_init2 (l : Launch) {g : zG} {κ : zKp} {μ : zMu} {ω : zOm} {a b v N M : Nat} {f : Nat → Int32} (hf : sb_Fit f) (hN : N ≤ M) (hM : M ≤ 132) : zME l g yJ0_init_db425 cJ0_init_db425 5 none 4 22 [.ref a, .ref b, .null] κ μ ((a, .inr (0, [.null, .int 0, .int 0, .int 0])) :: sbW g b v N M f ω) κ μ (fun w r => r = none ∧ newS g a b v N M f ω w) := by
  refine zME_of (by decide) (Nat.le_of_ble_eq_true rfl) (fun p e R s m args below meth c hi0 hX => ?_)
  show zZ p l e R s m args below meth c g 5 _ _ _ _ 0 0 [(0, .ref a), (1, .ref b), (2, .null)] []
  refine z_aload_n hX dJ0_init_db425_0 0 rfl ?_
  refine zE_obj hX (gW_I 1123 (by decide +kernel) rfl) dJ0_init_db425_1 (by decide) ?_
  refine z_aload_n hX dJ0_init_db425_4 1 rfl ?_
  have e0 : zM l g yJ5_getValue_6d5f1 cJ5_getValue_6d5f1 1 (some (.array .byte)) 1 0 [.ref b] κ μ ((a, .inr (0, [.null, .int 0, .int 0, .int 0])) :: sbW g b v N M f ω) κ μ ((a, .inr (0, [.null, .int 0, .int 0, .int 0])) :: sbW g b v N M f ω) (some (.ref v)) := sJ5_getValue l (j := 1) rfl
  refine z_callU1 hX e0 cu_RJ0_552 (zRv_at hX (j := 1) rfl rfl) dJ0_init_db425_5 ⟨by decide, by decide, by omega⟩ rfl rfl (Nat.le_of_ble_eq_true rfl) ?_
  refine z_astore_n (lv' := [(3, _), (0, _), (1, _), (2, _)]) hX dJ0_init_db425_8 (by decide) rfl ?_
  refine z_aload_n hX dJ0_init_db425_9 2 rfl ?_
  refine zE_callO hX (bJ4_length l (j := 1) rfl).toE cw_RJ0_549 (zRv_at hX (j := 1) rfl rfl) dJ0_init_db425_10 ⟨by decide, by decide, by omega⟩ rfl rfl (Nat.le_of_ble_eq_true rfl) (fun w r h => ?_)
  obtain ⟨rfl, rfl⟩ := h
  refine z_istore (lv' := [(4, _), (3, _), (0, _), (1, _), (2, _)]) hX dJ0_init_db425_13 (by decide) rfl ?_
  refine z_aload_n hX dJ0_init_db425_15 3 rfl ?_
  refine z_callU1 hX (sJ5_isLatin1 l (j := 1) rfl) cu_RJ0_1047 (zRv_at hX (j := 1) rfl rfl) dJ0_init_db425_16 ⟨by decide, by decide, by omega⟩ rfl rfl (Nat.le_of_ble_eq_true rfl) ?_
  refine z_if_eq (tgt := 41) hX dJ0_init_db425_19 (by decide) (fun h => absurd h (by decide)) (fun _ => ?_)
  refine z_aload_n hX dJ0_init_db425_22 2 rfl ?_
  refine z_iconst (v := 0) hX dJ0_init_db425_23 (by decide) ?_
  refine zq_putF hX hi0 (q := 1) (j := 0) (ty0 := tyJ0) (ty := .byte) (ref := RJ0) rfl rfl win_J0 tyJ0_ok nmJ0 (by decide) rfl rfl rfl fl_RJ0_15 (by decide +kernel) rfl rfl (Nat.le_of_ble_eq_true rfl) dJ0_init_db425_24 ?_
  refine z_aload_n hX dJ0_init_db425_27 2 rfl ?_
  refine z_aload_n hX dJ0_init_db425_28 1 rfl ?_
  refine z_iconst (v := 0) hX dJ0_init_db425_29 (by decide) ?_
  refine z_iload hX dJ0_init_db425_30 0 rfl ?_
  refine zE_callS hX (bJ7_copyOfRange l (j := 2) (M := M) rfl hf hN hM) cs_RJ0_54 dJ0_init_db425_32 ⟨by decide, by decide, by omega⟩ rfl rfl (Nat.le_of_ble_eq_true rfl) (fun w r h => ?_)
  obtain ⟨u, f2, rfl, rfl, h2⟩ := h
  refine zq_putF hX hi0 (q := 0) (j := 1) (ty0 := tyJ0) (ty := (.array .byte)) (ref := RJ0) rfl rfl win_J0 tyJ0_ok nmJ0 (by decide) rfl rfl rfl fl_RJ0_9 (by decide +kernel) rfl rfl (Nat.le_of_ble_eq_true rfl) dJ0_init_db425_35 ?_
  refine z_goto (tgt := 97) hX dJ0_init_db425_38 (by decide) ?_
  exact zE_of ⟨rfl, u, f2, rfl, h2⟩ (z_vret hX dJ0_init_db425_97 (by decide) (fun _ h => WW_perm (List.Perm.swap _ _ _) h))
set_option maxHeartbeats 1000000 in
set_option maxRecDepth 100000 in
theorem sJ0_init1 (l : Launch) {g : zG} {κ : zKp} {μ : zMu} {ω : zOm} {a b v N M : Nat} {f : Nat → Int32} (hf : sb_Fit f) (hN : N ≤ M) (hM : M ≤ 132) : zME l g yJ0_init_81219 cJ0_init_81219 2 none 5 22 [.ref a, .ref b] κ μ ((a, .inr (0, [.null, .int 0, .int 0, .int 0])) :: sbW g b v N M f ω) κ μ (fun w r => r = none ∧ newS g a b v N M f ω w) := by
  refine zME_of (by decide) (Nat.le_of_ble_eq_true rfl) (fun p e R s m args below meth c hi0 hX => ?_)
  show zZ p l e R s m args below meth c g 2 _ _ _ _ 0 0 [(0, .ref a), (1, .ref b)] []
  refine z_aload_n hX dJ0_init_81219_0 0 rfl ?_
  refine z_aload_n hX dJ0_init_81219_1 1 rfl ?_
  refine z_null hX dJ0_init_81219_2 ?_
  refine zE_callI (nA := 2) hX (sJ0_init2 l hf hN hM) (gW_I 1122 rfl rfl) (gW_I 7 (by decide +kernel) rfl) (gW_I 1120 (by decide +kernel) rfl) (gW_I 1121 (by decide +kernel) rfl) rfl ⟨by decide, by decide, by decide +kernel⟩ dJ0_init_81219_3 ⟨by decide, by decide, by omega⟩ rfl rfl (Nat.le_of_ble_eq_true rfl) (fun w r h => ?_)
  obtain ⟨rfl, h⟩ := h
  exact zE_of ⟨rfl, h⟩ (z_vret hX dJ0_init_81219_6 (by decide) (fun _ h => h))
set_option maxHeartbeats 1000000 in
set_option maxRecDepth 100000 in
theorem bJ4_toString (l : Launch) {g : zG} {κ : zKp} {μ : zMu} {ω : zOm} {b v N M : Nat} {f : Nat → Int32} (hf : sb_Fit f) (hN : N ≤ M) (hM : M ≤ 132) : zME l g yJ4_toString_0e30d cJ4_toString_0e30d 1 (some (.object "java/lang/String")) 6 23 [.ref b] κ μ (sbW g b v N M f ω) κ μ (fun w r => ∃ a, r = some (.ref a) ∧ newS g a b v N M f ω w) := by
  refine zME_of (by decide) (Nat.le_of_ble_eq_true rfl) (fun p e R s m args below meth c hi0 hX => ?_)
  show zZ p l e R s m args below meth c g 1 _ _ _ _ 0 0 [(0, .ref b)] []
  refine zq_new hX (ci := 0) (C := RJ0) (T := TJ0) (NN := 4) (ty0 := tyJ0) (fs := [.null, .int 0, .int 0, .int 0]) win_J0 tyJ0_ok (gW_I 1116 (by decide +kernel) rfl) (gW_I 524 (by decide +kernel) rfl) (gW_I 7 (by decide +kernel) rfl) rfl (fun j hj => by rcases (show j = 0 ∨ j = 1 ∨ j = 2 ∨ j = 3 by omega) with rfl | rfl | rfl | rfl <;> rfl) (by decide) (by decide) dJ4_toString_0e30d_0 (fun a => ?_)
  refine z_dup hX dJ4_toString_0e30d_3 rfl ?_
  refine z_aload_n hX dJ4_toString_0e30d_4 0 rfl ?_
  refine zE_callI (nA := 1) hX (sJ0_init1 l hf hN hM) (gW_I 1119 rfl rfl) (gW_I 7 (by decide +kernel) rfl) (gW_I 1117 (by decide +kernel) rfl) (gW_I 1118 (by decide +kernel) rfl) rfl ⟨by decide, by decide, by decide +kernel⟩ dJ4_toString_0e30d_5 ⟨by decide, by decide, by omega⟩ rfl rfl (Nat.le_of_ble_eq_true rfl) (fun w r h => ?_)
  obtain ⟨rfl, h⟩ := h
  exact zE_of ⟨a, rfl, h⟩ (z_aret hX dJ4_toString_0e30d_8 (by decide) (Or.inr ⟨_, rfl⟩) rfl (fun _ h => h))
set_option maxHeartbeats 1000000 in
set_option maxRecDepth 100000 in
theorem bJ5_init (l : Launch) {g : zG} {κ : zKp} {μ : zMu} {ω : zOm} {b : Nat}  : zME l g yJ5_init_d00df cJ5_init_d00df 2 none 2 3 [.ref b, .int 16] κ μ ((b, .inr (1, [.null, .int 0, .int 0, .int 0])) :: ω) κ μ (fun w r => r = none ∧ ∃ v, w = sbW g b v 0 16 (fun _ => 0) ω) := by
  refine zME_of (by decide) (Nat.le_of_ble_eq_true rfl) (fun p e R s m args below meth c hi0 hX => ?_)
  show zZ p l e R s m args below meth c g 2 _ _ _ _ 0 0 [(0, .ref b), (1, .int 16)] []
  refine z_aload_n hX dJ5_init_d00df_0 0 rfl ?_
  refine zE_obj hX (gW_I 988 (by decide +kernel) rfl) dJ5_init_d00df_1 (by decide) ?_
  refine zk_gets hX fl_RJ5_18 dJ5_init_d00df_4 ?_
  refine z_if_eq (tgt := 25) hX dJ5_init_d00df_7 (by decide) (fun h => absurd h (by decide)) (fun _ => ?_)
  refine z_aload_n hX dJ5_init_d00df_10 0 rfl ?_
  refine z_iload_n hX dJ5_init_d00df_11 1 rfl ?_
  refine zq_newa hX (t0 := 5) (N := 16) (r := 3) (a0 := (16, .inl (fun _ => 0))) (ty := .byte) rfl (gW_I 439 (by decide +kernel) rfl) rfl (fun _ => rfl) rfl (by decide) (by decide) (by decide) (by decide) dJ5_init_d00df_12 (fun v => ?_)
  refine zq_put hX (q := 0) (j := 1) (ty0 := tyJ4) (ty := .array .byte) (ref := RJ5) rfl rfl win_J4 tyJ4_ok nmJ4 (by decide) rfl rfl fl_RJ5_15 (by decide +kernel) rfl rfl (Nat.le_of_ble_eq_true rfl) dJ5_init_d00df_14 ?_
  refine z_aload_n hX dJ5_init_d00df_17 0 rfl ?_
  refine z_iconst (v := 0) hX dJ5_init_d00df_18 (by decide) ?_
  refine zq_put hX (q := 1) (j := 1) (ty0 := tyJ4) (ty := .byte) (ref := RJ5) rfl rfl win_J4 tyJ4_ok nmJ4 (by decide) rfl rfl fl_RJ5_22 (by decide +kernel) rfl rfl (Nat.le_of_ble_eq_true rfl) dJ5_init_d00df_19 ?_
  refine z_goto (tgt := 38) hX dJ5_init_d00df_22 (by decide) ?_
  exact zE_of ⟨rfl, v, rfl⟩ (z_vret hX dJ5_init_d00df_38 (by decide) (fun _ h => WW_perm (List.Perm.swap _ _ _) h))
set_option maxHeartbeats 1000000 in
set_option maxRecDepth 100000 in
theorem bJ4_init (l : Launch) {g : zG} {κ : zKp} {μ : zMu} {ω : zOm} {b : Nat}  : zME l g yJ4_init_da8c8 cJ4_init_da8c8 1 none 3 3 [.ref b] κ μ ((b, .inr (1, [.null, .int 0, .int 0, .int 0])) :: ω) κ μ (fun w r => r = none ∧ ∃ v, w = sbW g b v 0 16 (fun _ => 0) ω) := by
  refine zME_of (by decide) (Nat.le_of_ble_eq_true rfl) (fun p e R s m args below meth c hi0 hX => ?_)
  show zZ p l e R s m args below meth c g 1 _ _ _ _ 0 0 [(0, .ref b)] []
  refine z_aload_n hX dJ4_init_da8c8_0 0 rfl ?_
  refine z_bipush (v := 16) hX dJ4_init_da8c8_1 (by decide) ?_
  refine zE_callI (nA := 1) hX (bJ5_init l) (gW_I 987 rfl rfl) (gW_I 23 (by decide +kernel) rfl) (gW_I 985 (by decide +kernel) rfl) (gW_I 986 (by decide +kernel) rfl) rfl ⟨by decide, by decide, by decide +kernel⟩ dJ4_init_da8c8_3 ⟨by decide, by decide, by omega⟩ rfl rfl (Nat.le_of_ble_eq_true rfl) (fun w r h => ?_)
  obtain ⟨rfl, h⟩ := h
  exact zE_of ⟨rfl, h⟩ (z_vret hX dJ4_init_da8c8_6 (by decide) (fun _ h => h))
end ZSU
