section ZSW
theorem fl_RJ5_15 : Cond.fieldLink RJ5 15 RJ5 "value" "[B" ∈ gW := gW_I 997 (by decide +kernel) rfl
theorem fl_RJ5_18 : Cond.fieldLink RJ5 18 RJ0 "COMPACT_STRINGS" "Z" ∈ gW := gW_I 989 (by decide +kernel) rfl
theorem fl_RJ5_22 : Cond.fieldLink RJ5 22 RJ5 "coder" "B" ∈ gW := gW_I 998 (by decide +kernel) rfl
theorem fl_RJ5_79 : Cond.fieldLink RJ5 79 RJ5 "count" "I" ∈ gW := gW_I 1000 (by decide +kernel) rfl
theorem fl_RJ6_83 : Cond.fieldLink RJ6 83 RJ6 "DigitOnes" "[B" ∈ gW := gW_I 1163 (by decide +kernel) rfl
theorem fl_RJ6_87 : Cond.fieldLink RJ6 87 RJ6 "DigitTens" "[B" ∈ gW := gW_I 1165 (by decide +kernel) rfl
set_option maxRecDepth 100000 in
theorem cu_RJ0_335 : zCU RJ0 335 RJ0 yJ0_coder_7d493 cJ0_coder_7d493 1 (some .byte) 0 := zCU_of (gW_I 300 (by decide +kernel) rfl) (gW_I 301 (by decide +kernel) rfl) (gW_I 302 (by decide +kernel) rfl) (gW_I 7 (by decide +kernel) rfl) (gW_I 303 rfl rfl) (gW_I 7 (by decide +kernel) rfl) ⟨by decide, by decide, by decide +kernel⟩
set_option maxRecDepth 100000 in
theorem cu_RJ5_40 : zCU RJ5 40 RJ0 yJ0_coder_7d493 cJ0_coder_7d493 1 (some .byte) 0 := zCU_of (gW_I 1072 (by decide +kernel) rfl) (gW_I 301 (by decide +kernel) rfl) (gW_I 302 (by decide +kernel) rfl) (gW_I 7 (by decide +kernel) rfl) (gW_I 303 rfl rfl) (gW_I 7 (by decide +kernel) rfl) ⟨by decide, by decide, by decide +kernel⟩
set_option maxRecDepth 100000 in
theorem cu_RJ5_32 : zCU RJ5 32 RJ0 yJ0_length_8abf5 cJ0_length_8abf5 1 (some .int) 0 := zCU_of (gW_I 1063 (by decide +kernel) rfl) (gW_I 297 (by decide +kernel) rfl) (gW_I 298 (by decide +kernel) rfl) (gW_I 7 (by decide +kernel) rfl) (gW_I 299 rfl rfl) (gW_I 7 (by decide +kernel) rfl) ⟨by decide, by decide, by decide +kernel⟩
set_option maxRecDepth 100000 in
theorem cu_RJ5_399 : zCU RJ5 399 RJ0 yJ0_getBytes_840e7 cJ0_getBytes_840e7 4 none 3 := zCU_of (gW_I 1092 (by decide +kernel) rfl) (gW_I 1093 (by decide +kernel) rfl) (gW_I 1094 (by decide +kernel) rfl) (gW_I 7 (by decide +kernel) rfl) (gW_I 1095 rfl rfl) (gW_I 7 (by decide +kernel) rfl) ⟨by decide, by decide, by decide +kernel⟩
set_option maxRecDepth 100000 in
theorem cu_RJ0_492 : zCU RJ0 492 RJ0 yJ0_isLatin1_aae02 cJ0_isLatin1_aae02 1 (some .boolean) 0 := zCU_of (gW_I 231 (by decide +kernel) rfl) (gW_I 232 (by decide +kernel) rfl) (gW_I 233 (by decide +kernel) rfl) (gW_I 7 (by decide +kernel) rfl) (gW_I 234 rfl rfl) (gW_I 7 (by decide +kernel) rfl) ⟨by decide, by decide, by decide +kernel⟩
set_option maxRecDepth 100000 in
theorem cu_RJ5_83 : zCU RJ5 83 RJ4 yJ5_isLatin1_aae02 cJ5_isLatin1_aae02 1 (some .boolean) 0 := zCU_of (gW_I 1052 (by decide +kernel) rfl) (gW_I 1053 (by decide +kernel) rfl) (gW_I 1055 (by decide +kernel) rfl) (gW_I 24 (by decide +kernel) rfl) (gW_I 1056 rfl rfl) (gW_I 23 (by decide +kernel) rfl) ⟨by decide, by decide, by decide +kernel⟩
set_option maxRecDepth 100000 in
theorem cu_RJ5_100 : zCU RJ5 100 RJ4 yJ5_ensureCapacityInternal_d00df cJ5_ensureCapacityInternal_d00df 3 none 1 := zCU_of (gW_I 1021 (by decide +kernel) rfl) (gW_I 1023 (by decide +kernel) rfl) (gW_B (y := yJ5_ensureCapacityInternal_d00df) (by decide +kernel)) (gW_I 24 (by decide +kernel) rfl) (gW_I 1024 rfl rfl) (gW_I 23 (by decide +kernel) rfl) ⟨by decide, by decide, by decide +kernel⟩
set_option maxRecDepth 100000 in
theorem cu_RJ5_104 : zCU RJ5 104 RJ4 yJ5_newCapacity_0f7a4 cJ5_newCapacity_0f7a4 6 (some .int) 1 := zCU_of (gW_I 1025 (by decide +kernel) rfl) (gW_I 1027 (by decide +kernel) rfl) (gW_B (y := yJ5_newCapacity_0f7a4) (by decide +kernel)) (gW_I 24 (by decide +kernel) rfl) (gW_I 1028 rfl rfl) (gW_I 23 (by decide +kernel) rfl) ⟨by decide, by decide, by decide +kernel⟩
set_option maxRecDepth 100000 in
theorem cu_RJ5_208 : zCU RJ5 208 RJ4 yJ5_putStringAt_47b60 cJ5_putStringAt_47b60 3 none 2 := zCU_of (gW_I 1064 (by decide +kernel) rfl) (gW_I 1066 (by decide +kernel) rfl) (gW_B (y := yJ5_putStringAt_47b60) (by decide +kernel)) (gW_I 24 (by decide +kernel) rfl) (gW_I 1067 rfl rfl) (gW_I 23 (by decide +kernel) rfl) ⟨by decide, by decide, by decide +kernel⟩
set_option maxRecDepth 100000 in
theorem cu_RJ5_397 : zCU RJ5 397 RJ4 yJ5_inflateIfNeededFor_a7421 cJ5_inflateIfNeededFor_a7421 2 none 1 := zCU_of (gW_I 1068 (by decide +kernel) rfl) (gW_I 1070 (by decide +kernel) rfl) (gW_B (y := yJ5_inflateIfNeededFor_a7421) (by decide +kernel)) (gW_I 24 (by decide +kernel) rfl) (gW_I 1071 rfl rfl) (gW_I 23 (by decide +kernel) rfl) ⟨by decide, by decide, by decide +kernel⟩
set_option maxRecDepth 100000 in
theorem cu_RJ0_552 : zCU RJ0 552 RJ4 yJ5_getValue_6d5f1 cJ5_getValue_6d5f1 1 (some (.array .byte)) 0 := zCU_of (gW_I 1124 (by decide +kernel) rfl) (gW_I 1125 (by decide +kernel) rfl) (gW_I 1127 (by decide +kernel) rfl) (gW_I 24 (by decide +kernel) rfl) (gW_I 1128 rfl rfl) (gW_I 23 (by decide +kernel) rfl) ⟨by decide, by decide, by decide +kernel⟩
set_option maxRecDepth 100000 in
theorem cu_RJ0_1047 : zCU RJ0 1047 RJ4 yJ5_isLatin1_aae02 cJ5_isLatin1_aae02 1 (some .boolean) 0 := zCU_of (gW_I 1137 (by decide +kernel) rfl) (gW_I 1053 (by decide +kernel) rfl) (gW_I 1055 (by decide +kernel) rfl) (gW_I 24 (by decide +kernel) rfl) (gW_I 1056 rfl rfl) (gW_I 23 (by decide +kernel) rfl) ⟨by decide, by decide, by decide +kernel⟩
set_option maxRecDepth 100000 in
theorem cw_RJ4_50 : GoodIn gW (va_wsSU RJ4 50 yJ5_append_3fe6f (.code yJ5_append_3fe6f cJ5_append_3fe6f 2 (some (.object "java/lang/AbstractStringBuilder")) :: gW)) ∧ yJ5_append_3fe6f.name ≠ "<init>" ∧ (parseMethodDescriptor yJ5_append_3fe6f.desc).map (fun d => d.parameters.length) = some 1 := ⟨gW_in (fun v hv => by
  simp only [va_wsSU, List.mem_append, List.mem_cons, List.not_mem_nil, or_false] at hv
  rcases hv with (rfl | rfl | rfl | rfl | rfl) | rfl | hv
  · exact (gW_I 1103 (by decide +kernel) rfl)
  · exact (gW_I 1360 (by decide +kernel) rfl)
  · exact (gW_I 1009 (by decide +kernel) rfl)
  · exact (gW_I 1104 (by decide +kernel) rfl)
  · exact (gW_I 23 (by decide +kernel) rfl)
  · exact (gW_I 1105 rfl rfl)
  · exact hv), by decide, by decide +kernel⟩
set_option maxRecDepth 100000 in
theorem cw_RJ4_29 : GoodIn gW (va_wsSU RJ4 29 yJ5_append_cf1ce (.code yJ5_append_cf1ce cJ5_append_cf1ce 3 (some (.object "java/lang/AbstractStringBuilder")) :: gW)) ∧ yJ5_append_cf1ce.name ≠ "<init>" ∧ (parseMethodDescriptor yJ5_append_cf1ce.desc).map (fun d => d.parameters.length) = some 1 := ⟨gW_in (fun v hv => by
  simp only [va_wsSU, List.mem_append, List.mem_cons, List.not_mem_nil, or_false] at hv
  rcases hv with (rfl | rfl | rfl | rfl | rfl) | rfl | hv
  · exact (gW_I 1014 (by decide +kernel) rfl)
  · exact (gW_I 1353 (by decide +kernel) rfl)
  · exact (gW_I 1009 (by decide +kernel) rfl)
  · exact (gW_I 1015 (by decide +kernel) rfl)
  · exact (gW_I 23 (by decide +kernel) rfl)
  · exact (gW_I 1016 rfl rfl)
  · exact hv), by decide, by decide +kernel⟩
set_option maxRecDepth 100000 in
theorem cw_RJ4_53 : GoodIn gW (va_wsSU RJ4 53 yJ5_append_c97b9 (.code yJ5_append_c97b9 cJ5_append_c97b9 4 (some (.object "java/lang/AbstractStringBuilder")) :: gW)) ∧ yJ5_append_c97b9.name ≠ "<init>" ∧ (parseMethodDescriptor yJ5_append_c97b9.desc).map (fun d => d.parameters.length) = some 1 := ⟨gW_in (fun v hv => by
  simp only [va_wsSU, List.mem_append, List.mem_cons, List.not_mem_nil, or_false] at hv
  rcases hv with (rfl | rfl | rfl | rfl | rfl) | rfl | hv
  · exact (gW_I 1154 (by decide +kernel) rfl)
  · exact (gW_I 1361 (by decide +kernel) rfl)
  · exact (gW_I 1009 (by decide +kernel) rfl)
  · exact (gW_I 1155 (by decide +kernel) rfl)
  · exact (gW_I 23 (by decide +kernel) rfl)
  · exact (gW_I 1156 rfl rfl)
  · exact hv), by decide, by decide +kernel⟩
set_option maxRecDepth 100000 in
theorem cw_RJ4_343 : GoodIn gW (va_wsSU RJ4 343 yJ5_length_8abf5 (.code yJ5_length_8abf5 cJ5_length_8abf5 1 (some .int) :: gW)) ∧ yJ5_length_8abf5.name ≠ "<init>" ∧ (parseMethodDescriptor yJ5_length_8abf5.desc).map (fun d => d.parameters.length) = some 0 := ⟨gW_in (fun v hv => by
  simp only [va_wsSU, List.mem_append, List.mem_cons, List.not_mem_nil, or_false] at hv
  rcases hv with (rfl | rfl | rfl | rfl | rfl) | rfl | hv
  · exact (gW_I 1135 (by decide +kernel) rfl)
  · exact (gW_I 1131 (by decide +kernel) rfl)
  · exact (gW_I 1009 (by decide +kernel) rfl)
  · exact (gW_I 1130 (by decide +kernel) rfl)
  · exact (gW_I 23 (by decide +kernel) rfl)
  · exact (gW_I 1136 rfl rfl)
  · exact hv), by decide, by decide +kernel⟩
set_option maxRecDepth 100000 in
theorem cs_RJ5_245 : zCS RJ5 245 yJ6_stringSize_0f7a4 cJ6_stringSize_0f7a4 4 (some .int) 1 := ⟨gW_S (gW_I 1157 (by decide +kernel) rfl) (gW_I 1158 (by decide +kernel) rfl) (gW_I 28 (by decide +kernel) rfl) (gW_I 1159 rfl rfl), by decide, by decide, by decide +kernel⟩
set_option maxRecDepth 100000 in
theorem cs_RJ5_248 : zCS RJ5 248 yJ6_getChars_ba4f3 cJ6_getChars_ba4f3 7 (some .int) 3 := ⟨gW_S (gW_I 1160 (by decide +kernel) rfl) (gW_I 1161 (by decide +kernel) rfl) (gW_I 28 (by decide +kernel) rfl) (gW_I 1162 rfl rfl), by decide, by decide, by decide +kernel⟩
set_option maxRecDepth 100000 in
theorem cs_RJ5_191 : zCS RJ5 191 yJ1_canEncode_fc78d cJ1_canEncode_fc78d 1 (some .boolean) 1 := ⟨gW_S (gW_I 1106 (by decide +kernel) rfl) (gW_I 1107 (by decide +kernel) rfl) (gW_I 8 (by decide +kernel) rfl) (gW_I 1108 rfl rfl), by decide, by decide, by decide +kernel⟩
set_option maxRecDepth 100000 in
theorem cs_RJ5_108 : zCS RJ5 108 yJ7_copyOf_9075b cJ7_copyOf_9075b 3 (some (.array .byte)) 2 := ⟨gW_S (gW_I 1038 (by decide +kernel) rfl) (gW_I 1039 (by decide +kernel) rfl) (gW_I 4 (by decide +kernel) rfl) (gW_I 1040 rfl rfl), by decide, by decide, by decide +kernel⟩
set_option maxRecDepth 100000 in
theorem cs_RJ5_114 : zCS RJ5 114 yJ8_newLength_cabcc cJ8_newLength_cabcc 4 (some .int) 3 := ⟨gW_S (gW_I 1029 (by decide +kernel) rfl) (gW_I 1030 (by decide +kernel) rfl) (gW_I 25 (by decide +kernel) rfl) (gW_I 1031 rfl rfl), by decide, by decide, by decide +kernel⟩
set_option maxRecDepth 100000 in
theorem cs_RJ0_54 : zCS RJ0 54 yJ7_copyOfRange_39247 cJ7_copyOfRange_39247 3 (some (.array .byte)) 3 := ⟨gW_S (gW_I 1138 (by decide +kernel) rfl) (gW_I 1139 (by decide +kernel) rfl) (gW_I 4 (by decide +kernel) rfl) (gW_I 1140 rfl rfl), by decide, by decide, by decide +kernel⟩
set_option maxRecDepth 100000 in
theorem cs_RJ7_339 : zCS RJ7 339 yJ7_copyOfRangeByte_39247 cJ7_copyOfRangeByte_39247 5 (some (.array .byte)) 3 := ⟨gW_S (gW_I 1141 (by decide +kernel) rfl) (gW_I 1142 (by decide +kernel) rfl) (gW_I 4 (by decide +kernel) rfl) (gW_I 1143 rfl rfl), by decide, by decide, by decide +kernel⟩
set_option maxRecDepth 100000 in
theorem cs_RJ7_343 : zCS RJ7 343 yJ7_checkLength_df160 cJ7_checkLength_df160 2 none 2 := ⟨gW_S (gW_I 1144 (by decide +kernel) rfl) (gW_I 1145 (by decide +kernel) rfl) (gW_I 4 (by decide +kernel) rfl) (gW_I 1146 rfl rfl), by decide, by decide, by decide +kernel⟩
set_option maxRecDepth 100000 in
theorem cw_RJ0_549 : GoodIn gW (va_wsO RJ0 549 RJ4 RJ5 yJ5_length_8abf5 yJ4_length_8abf5 (.code yJ4_length_8abf5 cJ4_length_8abf5 1 (some .int) :: gW)) ∧ Cond.code ⟨RJ5, yJ5_length_8abf5.name, yJ5_length_8abf5.desc⟩ cJ5_length_8abf5 1 (some .int) ∈ gW ∧ RJ5 ≠ "java/lang/invoke/MethodHandle" ∧ RJ5 ≠ "java/lang/invoke/VarHandle" ∧ (parseMethodDescriptor yJ5_length_8abf5.desc).map (fun d => d.parameters.length) = some 0 := ⟨gW_in (fun v hv => by
  simp only [va_wsO, List.mem_append, List.mem_cons, List.not_mem_nil, or_false] at hv
  rcases hv with (rfl | rfl | rfl | rfl | rfl | rfl) | rfl | hv
  · exact (gW_I 1129 (by decide +kernel) rfl)
  · exact (gW_I 1131 (by decide +kernel) rfl)
  · exact (gW_I 1130 (by decide +kernel) rfl)
  · exact (gW_I 1132 (by decide +kernel) rfl)
  · exact (gW_I 1133 (by decide +kernel) rfl)
  · exact (gW_I 24 (by decide +kernel) rfl)
  · exact (gW_I 1134 rfl rfl)
  · exact hv), (gW_I 1136 rfl rfl), by decide, by decide, by decide +kernel⟩
theorem ml_RJ8_194 : Cond.methodLink RJ8 194 Lib.Math.max.name ∈ gW := (gW_I 1032 (by decide +kernel) rfl)
theorem ml_RJ7_304 : Cond.methodLink RJ7 304 Lib.Math.min.name ∈ gW := (gW_I 1048 (by decide +kernel) rfl)
theorem wt_ac : Cond.static arraycopyName ∈ gW := (gW_I 1050 (by decide +kernel) rfl)
theorem wc_ac : Cond.native arraycopyName ∈ gW := (gW_I 1051 (by decide +kernel) rfl)
theorem wn_ac : Cond.initialized "java/lang/System" ∈ gW := (gW_I 26 (by decide +kernel) rfl)
theorem ml_ac7 : Cond.methodLink RJ7 150 arraycopyName ∈ gW := (gW_I 1049 (by decide +kernel) rfl)
theorem ml_ac0 : Cond.methodLink RJ0 212 arraycopyName ∈ gW := (gW_I 1096 (by decide +kernel) rfl)
theorem win_J0 : ∀ w ∈ u_ws RJ0 TJ0 4, w ∈ gW := by
  have h : (u_ws RJ0 TJ0 4).all (fun w => decide (w ∈ tables_1) && goodWord w) = true := by decide +kernel
  intro w hw
  have h2 := List.all_eq_true.mp h w hw
  rw [Bool.and_eq_true, decide_eq_true_eq] at h2
  exact gW_T h2.1 h2.2
theorem win_J4 : ∀ w ∈ u_ws RJ4 TJ4 4, w ∈ gW := by
  have h : (u_ws RJ4 TJ4 4).all (fun w => decide (w ∈ tables_1) && goodWord w) = true := by decide +kernel
  intro w hw
  have h2 := List.all_eq_true.mp h w hw
  rw [Bool.and_eq_true, decide_eq_true_eq] at h2
  exact gW_T h2.1 h2.2
end ZSW
section ZSR
variable {p : Program} {l : Launch} {e : Env} {R : Room} {s : State} {m : MethodId} {args : Array Value} {below : List Frame} {meth : Method} {c : Code} {Q : State → Prop} {g : zG} {own : String} {cc : ByteArray} {n lvl mc : Nat} {ret : Option FieldType} {κ κ' : zKp} {μ μ' : zMu} {ω ω' : zOm} {k pc : Nat} {lv lv' : List (Nat × Value)} {st : List Value} {oc : Except String (Option Value)}
/-- a builder's object, a string's object, bytes -/
abbrev sbO (v n : Nat) : va_E := .inr (1, [.ref v, .int 0, .int 0, .int (nI n)])
abbrev stO (v : Nat) : va_E := .inr (0, [.ref v, .int 0, .int 0, .int 0])
abbrev bA (g : zG) (n : Nat) (f : Nat → Int32) : va_E := .inl (gQ g 5, n, .inl f)
abbrev sbW (g : zG) (b v n m : Nat) (f : Nat → Int32) (ω : zOm) : zOm := (b, sbO v n) :: (v, bA g m f) :: ω
/-- a string at a, its bytes at v: n of them, f -/
def sD (g : zG) (ω : zOm) (a v n : Nat) (f : Nat → Int32) : Prop := (∃ i, i < 45 ∧ a = gAK g i ∧ v = gAV g i ∧ n = (sB i).length ∧ f = sBa i) ∨ ((a, stO v) ∈ ω ∧ (v, bA g n f) ∈ ω)
theorem sD.cons {a v N : Nat} {f : Nat → Int32} {z : Nat × va_E} (h : sD g ω a v N f) : sD g (z :: ω) a v N f := by
  rcases h with h | ⟨h1, h2⟩
  · exact Or.inl h
  · exact Or.inr ⟨List.mem_cons_of_mem _ h1, List.mem_cons_of_mem _ h2⟩
theorem sD.head {a v N : Nat} {f : Nat → Int32} : sD g ((a, stO v) :: (v, bA g N f) :: ω) a v N f := Or.inr ⟨List.mem_cons_self, List.mem_cons_of_mem _ List.mem_cons_self⟩
theorem sD.const {i : Nat} (hi : i < 45) : sD g ω (gAK g i) (gAV g i) (sB i).length (sBa i) := Or.inl ⟨i, hi, rfl, rfl, rfl, rfl⟩
abbrev ascB (f : Nat → Int32) (N : Nat) : Prop := ∀ q, q < N → ∃ b, b < 128 ∧ f q = nI b
theorem fit128 : ∀ b, b < 128 → fits .byte (.int (nI b)) = true := by decide +kernel
theorem z_svalue (hX : zX p l s m args meth c R g own cc n ret lvl mc) {a v N index : Nat} {f : Nat → Int32} (hs : sD g ω a v N f) (hlink : Cond.fieldLink own index RJ0 "value" "[B" ∈ gW) (d : decode cc pc = .ok (.getfield index, 3)) (kk : zZ p l e R s m args below meth c g n Q κ μ ω k (pc + 3) lv (.ref v :: st)) : zZ p l e R s m args below meth c g n Q κ μ ω k pc lv (.ref a :: st) := by
  rcases hs with ⟨i, hi, rfl, rfl, rfl, rfl⟩ | ⟨h1, h2⟩
  · exact zk_value hX hi hlink d kk
  · obtain ⟨j, hj⟩ := List.getElem?_of_mem h1
    exact zq_get hX (q := 0) hj rfl win_J0 (by decide) rfl hlink rfl d kk
theorem z_scoder (hX : zX p l s m args meth c R g own cc n ret lvl mc) {a v N index : Nat} {f : Nat → Int32} (hs : sD g ω a v N f) (hlink : Cond.fieldLink own index RJ0 "coder" "B" ∈ gW) (d : decode cc pc = .ok (.getfield index, 3)) (kk : zZ p l e R s m args below meth c g n Q κ μ ω k (pc + 3) lv (.int 0 :: st)) : zZ p l e R s m args below meth c g n Q κ μ ω k pc lv (.ref a :: st) := by
  rcases hs with ⟨i, hi, rfl, rfl, rfl, rfl⟩ | ⟨h1, h2⟩
  · exact zk_coder hX hi hlink d kk
  · obtain ⟨j, hj⟩ := List.getElem?_of_mem h1
    exact zq_get hX (q := 1) hj rfl win_J0 (by decide) rfl hlink rfl d kk
theorem z_slen (hX : zX p l s m args meth c R g own cc n ret lvl mc) {a v N : Nat} {f : Nat → Int32} (hs : sD g ω a v N f) (d : decode cc pc = .ok (.arraylength, 1)) (kk : zZ p l e R s m args below meth c g n Q κ μ ω k (pc + 1) lv (.int (nI N) :: st)) : zZ p l e R s m args below meth c g n Q κ μ ω k pc lv (.ref v :: st) := by
  rcases hs with ⟨i, hi, rfl, rfl, rfl, rfl⟩ | ⟨h1, h2⟩
  · exact zk_len hX hi d kk
  · obtain ⟨j, hj⟩ := List.getElem?_of_mem h2
    exact zq_alen hX (t0 := 5) hj rfl rfl d kk
theorem z_sbald (hX : zX p l s m args meth c R g own cc n ret lvl mc) {a v N q : Nat} {f : Nat → Int32} {x : Int32} (hs : sD g ω a v N f) (hx : x = nI q) (hq : q < N) (hN : N < 100000) (d : decode cc pc = .ok (.baload, 1)) (kk : zZ p l e R s m args below meth c g n Q κ μ ω k (pc + 1) lv (.int (f q) :: st)) : zZ p l e R s m args below meth c g n Q κ μ ω k pc lv (.int x :: .ref v :: st) := by
  rcases hs with ⟨i, hi, rfl, rfl, rfl, rfl⟩ | ⟨h1, h2⟩
  · exact zk_bald hX hi hx hq d kk
  · obtain ⟨j, hj⟩ := List.getElem?_of_mem h2
    exact zq_bald hX hj hx hq hN d kk
theorem zs_recv (hX : zX p l s m args meth c R g own cc n ret lvl mc) {a v N : Nat} {f : Nat → Int32} (hs : sD g ω a v N f) : zRv s g κ μ ω RJ0 a := by
  rcases hs with ⟨i, hi, rfl, rfl, rfl, rfl⟩ | ⟨h1, h2⟩
  · intro H locs hS hW
    obtain ⟨hx, hb, hml, hown, hts, hK, hB, hs, hR, -⟩ := id hX
    obtain ⟨cell, q1, q2, q3, -⟩ := (hB.1 i hi).1.kept hS.2.1
    exact ⟨cell, q1, q2, q3⟩
  · obtain ⟨j, hj⟩ := List.getElem?_of_mem h1
    exact zRv_at hX hj rfl
/-- bytes of a string into bytes of the world -/
theorem z_scopy (hX : zX p l s m args meth c R g own cc n ret lvl mc) {a v N w M p0 j index : Nat} {f h : Nat → Int32} {dp nn : Int32} (hs : sD g ω a v N f) (hc : ascB f N) (hj : ω[j]? = some (w, bA g M h)) (hdp : dp = nI p0) (hnn : nn = nI N) (hM : p0 + N ≤ M) (hM2 : M < 100000) (hl0 : Cond.methodLink own index arraycopyName ∈ gW) (d : decode cc pc = .ok (.invokestatic index, 3)) (hlv : 1 ≤ lvl) (hcat : (st.map fun v => v.category).sum ≤ 8) (kk : zZ p l e R s m args below meth c g n Q κ μ (ω.set j (w, bA g M (va_cpy f h 0 p0 N))) k (pc + 3) lv (st)) : zZ p l e R s m args below meth c g n Q κ μ ω k pc lv (.int nn :: .int dp :: .ref w :: .int 0 :: .ref v :: st) := fun H ls locs hl hS hW => by
  subst hdp hnn
  obtain ⟨hx, hb, hml, hown, hts, hK, hB, hs0, hR, -⟩ := id hX
  have e0 : (0 : Int32).toNatClampNeg = 0 := by decide
  have ep : (nI p0).toNatClampNeg = p0 := nI_clamp (by omega)
  have en : (nI N).toNatClampNeg = N := nI_clamp (by omega)
  have hw : nativeFrameWords "java/lang/System" "arraycopy" 5 + 11 ≤ 92 := by decide
  have hfit : ∀ i : Nat, i < (nI N).toNatClampNeg → fits .byte (.int (f ((0 : Int32).toNatClampNeg + i))) = true := fun i hi => by
    rw [en] at hi
    rw [e0, Nat.zero_add]
    obtain ⟨b, hb1, hb2⟩ := hc i hi
    rw [hb2]
    exact fit128 b hb1
  rcases hs with ⟨i, hi, rfl, rfl, rfl, rfl⟩ | ⟨h1, h2⟩
  · refine vk_copyt hx hb (hml.trans hl.1.symm) hown (hts _ hl0) (hts _ wc_ac) (hts _ wt_ac) (hts _ wn_ac) hK hW.1 hW.2 hS (hB.1 i hi).2.2.2 _ 5 (zq_at hj) rfl (by decide) (nI_pos (by omega)) (nI_pos (by omega)) (by rw [e0, en]; exact Nat.le_of_eq (Nat.zero_add _)) (by rw [ep, en]; exact hM) hfit (Nat.le_trans hlv hR.1) (Nat.le_trans (by omega) hR.2.1) d (fun H1 locs1 hP hD hS1 => ?_)
    rw [e0, ep, en] at hP hD
    rw [zq_set] at hP hD
    exact kk H1 ls locs1 hl hS1 ⟨hP, hD⟩
  · obtain ⟨j2, hj2⟩ := List.getElem?_of_mem h2
    refine va_copyi hx hb (hml.trans hl.1.symm) hown (hts _ hl0) (hts _ wc_ac) (hts _ wt_ac) (hts _ wn_ac) hK hW.1 hW.2 hS _ _ 5 5 (zq_at hj2) (zq_at hj) rfl rfl rfl (by decide) (nI_pos (by omega)) (nI_pos (by omega)) (by rw [e0, en]; exact Nat.le_of_eq (Nat.zero_add _)) (by rw [ep, en]; exact hM) hfit (Nat.le_trans hlv hR.1) (Nat.le_trans (by omega) hR.2.1) d (fun H1 locs1 hP hD hS1 => ?_)
    rw [e0, ep, en] at hP hD
    rw [zq_set] at hP hD
    exact kk H1 ls locs1 hl hS1 ⟨hP, hD⟩
/-- bytes of the world into bytes of the world, from their beginnings -/
theorem zq_copyb (hX : zX p l s m args meth c R g own cc n ret lvl mc) {v w N M r j j2 index : Nat} {f h : Nat → Int32} {nn : Int32} (hj2 : ω[j2]? = some (v, bA g N f)) (hf : sb_Fit f) (hj : ω[j]? = some (w, bA g M h)) (hnn : nn = nI r) (hM : r ≤ M ∧ r ≤ N) (hM2 : M < 100000) (hl0 : Cond.methodLink own index arraycopyName ∈ gW) (d : decode cc pc = .ok (.invokestatic index, 3)) (hlv : 1 ≤ lvl) (hcat : (st.map fun v => v.category).sum ≤ 8) (kk : zZ p l e R s m args below meth c g n Q κ μ (ω.set j (w, bA g M (va_cpy f h 0 0 r))) k (pc + 3) lv (st)) : zZ p l e R s m args below meth c g n Q κ μ ω k pc lv (.int nn :: .int 0 :: .ref w :: .int 0 :: .ref v :: st) := fun H ls locs hl hS hW => by
  subst hnn
  obtain ⟨hx, hb, hml, hown, hts, hK, hB, hs0, hR, -⟩ := id hX
  have e0 : (0 : Int32).toNatClampNeg = 0 := by decide
  have en : (nI r).toNatClampNeg = r := nI_clamp (by omega)
  have hw : nativeFrameWords "java/lang/System" "arraycopy" 5 + 11 ≤ 92 := by decide
  refine va_copyi hx hb (hml.trans hl.1.symm) hown (hts _ hl0) (hts _ wc_ac) (hts _ wt_ac) (hts _ wn_ac) hK hW.1 hW.2 hS _ _ 5 5 (zq_at hj2) (zq_at hj) rfl rfl rfl (by decide) (by decide) (nI_pos (by omega)) (by rw [e0, en]; omega) (by rw [e0, en]; omega) (fun i _ => hf _) (Nat.le_trans hlv hR.1) (Nat.le_trans (by omega) hR.2.1) d (fun H1 locs1 hP hD hS1 => ?_)
  rw [e0, en] at hP hD
  rw [zq_set] at hP hD
  exact kk H1 ls locs1 hl hS1 ⟨hP, hD⟩
theorem zb_value (hX : zX p l s m args meth c R g own cc n ret lvl mc) {j b v N index : Nat} (hj : ω[j]? = some (b, sbO v N)) (hlink : Cond.fieldLink own index RJ5 "value" "[B" ∈ gW) (d : decode cc pc = .ok (.getfield index, 3)) (kk : zZ p l e R s m args below meth c g n Q κ μ ω k (pc + 3) lv (.ref v :: st)) : zZ p l e R s m args below meth c g n Q κ μ ω k pc lv (.ref b :: st) := zq_get hX (q := 0) hj rfl win_J4 (by decide) rfl hlink rfl d kk
theorem zb_coder (hX : zX p l s m args meth c R g own cc n ret lvl mc) {j b v N index : Nat} (hj : ω[j]? = some (b, sbO v N)) (hlink : Cond.fieldLink own index RJ5 "coder" "B" ∈ gW) (d : decode cc pc = .ok (.getfield index, 3)) (kk : zZ p l e R s m args below meth c g n Q κ μ ω k (pc + 3) lv (.int 0 :: st)) : zZ p l e R s m args below meth c g n Q κ μ ω k pc lv (.ref b :: st) := zq_get hX (q := 1) hj rfl win_J4 (by decide) rfl hlink rfl d kk
theorem zb_count (hX : zX p l s m args meth c R g own cc n ret lvl mc) {j b v N index : Nat} (hj : ω[j]? = some (b, sbO v N)) (hlink : Cond.fieldLink own index RJ5 "count" "I" ∈ gW) (d : decode cc pc = .ok (.getfield index, 3)) (kk : zZ p l e R s m args below meth c g n Q κ μ ω k (pc + 3) lv (.int (nI N) :: st)) : zZ p l e R s m args below meth c g n Q κ μ ω k pc lv (.ref b :: st) := zq_get hX (q := 3) hj rfl win_J4 (by decide) rfl hlink rfl d kk
theorem zb_pvalue (hX : zX p l s m args meth c R g own cc n ret lvl mc) {j b v w N index : Nat} (hj : ω[j]? = some (b, sbO v N)) (hlink : Cond.fieldLink own index RJ5 "value" "[B" ∈ gW) (d : decode cc pc = .ok (.putfield index, 3)) (kk : zZ p l e R s m args below meth c g n Q κ μ (ω.set j (b, sbO w N)) k (pc + 3) lv (st)) : zZ p l e R s m args below meth c g n Q κ μ ω k pc lv (.ref w :: .ref b :: st) := zq_put hX (q := 0) (ty0 := tyJ4) (ty := .array .byte) hj rfl win_J4 tyJ4_ok nmJ4 (by decide) rfl rfl hlink (by decide +kernel) rfl rfl (Nat.le_of_ble_eq_true rfl) d kk
theorem zb_pcount (hX : zX p l s m args meth c R g own cc n ret lvl mc) {j b v N M index : Nat} {x : Int32} (hj : ω[j]? = some (b, sbO v N)) (hx : x = nI M) (hlink : Cond.fieldLink own index RJ5 "count" "I" ∈ gW) (d : decode cc pc = .ok (.putfield index, 3)) (kk : zZ p l e R s m args below meth c g n Q κ μ (ω.set j (b, sbO v M)) k (pc + 3) lv (st)) : zZ p l e R s m args below meth c g n Q κ μ ω k pc lv (.int x :: .ref b :: st) := by
  subst hx
  exact zq_put hX (q := 3) (ty0 := tyJ4) (ty := .int) hj rfl win_J4 tyJ4_ok nmJ4 (by decide) rfl rfl hlink (by decide +kernel) rfl rfl (Nat.le_of_ble_eq_true rfl) d kk
theorem z_callU1 (hX : zX p l s m args meth c R g own cc n ret lvl mc) {idx nY lvlY mcY nA b : Nat} {C : String} {y : MethodName} {cY : ByteArray} {retY : Option FieldType} {As rest : List Value} {v : Value} (hM : zM l g y cY nY retY lvlY mcY (.ref b :: As) κ μ ω κ' μ' ω' (some v)) (hC : zCU own idx C y cY nY retY nA) (hrc : zRv s g κ μ ω C b) (d : decode cc pc = .ok (.invokevirtual idx, 3)) (hlv : lvlY < lvl ∧ nY ≤ 81 ∧ k + mcY ≤ mc) (hA : As.length = nA) (hst : st = As.reverse ++ .ref b :: rest) (hcat : (rest.map fun v => v.category).sum ≤ 8) (kk : zZ p l e R s m args below meth c g n Q κ' μ' ω' (k + mcY) (pc + 3) lv (v :: rest)) : zZ p l e R s m args below meth c g n Q κ μ ω k pc lv st := zE_callV hX hM.toE hC hrc d hlv hA hst hcat (fun w q h => by
  obtain ⟨rfl, rfl⟩ := h
  exact kk)
theorem z_callU0 (hX : zX p l s m args meth c R g own cc n ret lvl mc) {idx nY lvlY mcY nA b : Nat} {C : String} {y : MethodName} {cY : ByteArray} {retY : Option FieldType} {As rest : List Value} (hM : zM l g y cY nY retY lvlY mcY (.ref b :: As) κ μ ω κ' μ' ω' none) (hC : zCU own idx C y cY nY retY nA) (hrc : zRv s g κ μ ω C b) (d : decode cc pc = .ok (.invokevirtual idx, 3)) (hlv : lvlY < lvl ∧ nY ≤ 81 ∧ k + mcY ≤ mc) (hA : As.length = nA) (hst : st = As.reverse ++ .ref b :: rest) (hcat : (rest.map fun v => v.category).sum ≤ 8) (kk : zZ p l e R s m args below meth c g n Q κ' μ' ω' (k + mcY) (pc + 3) lv rest) : zZ p l e R s m args below meth c g n Q κ μ ω k pc lv st := zE_callV hX hM.toE hC hrc d hlv hA hst hcat (fun w q h => by
  obtain ⟨rfl, rfl⟩ := h
  exact kk)
theorem shl_0 {n : Nat} : nI n <<< ((0 : Int32) &&& 31) = nI n := sb_shl0 _
end ZSR
section ZSC
set_option maxHeartbeats 1000000 in
set_option maxRecDepth 100000 in
theorem sJ0_coder (l : Launch) {g : zG} {κ : zKp} {μ : zMu} {ω : zOm} {a v N : Nat} {f : Nat → Int32} (hs : sD g ω a v N f)  : zM l g yJ0_coder_7d493 cJ0_coder_7d493 1 (some .byte) 1 0 [.ref a] κ μ (ω) κ μ (ω) (some (.int 0)) := by
  refine zM_of (by decide) (Nat.le_of_ble_eq_true rfl) (fun p e R s m args below meth c hX => ?_)
  show zZ p l e R s m args below meth c g 1 _ _ _ _ 0 0 [(0, .ref a)] []
  refine zk_gets hX fl_RJ0_38 dJ0_coder_7d493_0 ?_
  refine z_if_eq (tgt := 13) hX dJ0_coder_7d493_3 (by decide) (fun h => absurd h (by decide)) (fun _ => ?_)
  refine z_aload_n hX dJ0_coder_7d493_6 0 rfl ?_
  refine z_scoder hX hs fl_RJ0_15 dJ0_coder_7d493_7 ?_
  refine z_goto (tgt := 14) hX dJ0_coder_7d493_10 (by decide) ?_
  exact z_iret hX dJ0_coder_7d493_14 (by decide) rfl rfl (fun _ h => h)
set_option maxHeartbeats 1000000 in
set_option maxRecDepth 100000 in
theorem sJ0_isLatin1 (l : Launch) {g : zG} {κ : zKp} {μ : zMu} {ω : zOm} {a v N : Nat} {f : Nat → Int32} (hs : sD g ω a v N f)  : zM l g yJ0_isLatin1_aae02 cJ0_isLatin1_aae02 1 (some .boolean) 1 0 [.ref a] κ μ (ω) κ μ (ω) (some (.int 1)) := by
  refine zM_of (by decide) (Nat.le_of_ble_eq_true rfl) (fun p e R s m args below meth c hX => ?_)
  show zZ p l e R s m args below meth c g 1 _ _ _ _ 0 0 [(0, .ref a)] []
  refine zk_gets hX fl_RJ0_38 dJ0_isLatin1_aae02_0 ?_
  refine z_if_eq (tgt := 17) hX dJ0_isLatin1_aae02_3 (by decide) (fun h => absurd h (by decide)) (fun _ => ?_)
  refine z_aload_n hX dJ0_isLatin1_aae02_6 0 rfl ?_
  refine z_scoder hX hs fl_RJ0_15 dJ0_isLatin1_aae02_7 ?_
  refine z_if_ne (tgt := 17) hX dJ0_isLatin1_aae02_10 (by decide) (fun h => absurd rfl h) (fun _ => ?_)
  refine z_iconst (v := 1) hX dJ0_isLatin1_aae02_13 (by decide) ?_
  refine z_goto (tgt := 18) hX dJ0_isLatin1_aae02_14 (by decide) ?_
  exact z_iret hX dJ0_isLatin1_aae02_18 (by decide) rfl rfl (fun _ h => h)
set_option maxHeartbeats 1000000 in
set_option maxRecDepth 100000 in
theorem sJ0_length (l : Launch) {g : zG} {κ : zKp} {μ : zMu} {ω : zOm} {a v N : Nat} {f : Nat → Int32} (hs : sD g ω a v N f) (hN : N < 100000) : zM l g yJ0_length_8abf5 cJ0_length_8abf5 1 (some .int) 2 0 [.ref a] κ μ (ω) κ μ (ω) (some (.int (nI N))) := by
  refine zM_of (by decide) (Nat.le_of_ble_eq_true rfl) (fun p e R s m args below meth c hX => ?_)
  show zZ p l e R s m args below meth c g 1 _ _ _ _ 0 0 [(0, .ref a)] []
  refine z_aload_n hX dJ0_length_8abf5_0 0 rfl ?_
  refine z_svalue hX hs fl_RJ0_9 dJ0_length_8abf5_1 ?_
  refine z_slen hX hs dJ0_length_8abf5_4 ?_
  refine z_aload_n hX dJ0_length_8abf5_5 0 rfl ?_
  refine z_callU1 hX (sJ0_coder l hs) cu_RJ0_335 (zs_recv hX hs) dJ0_length_8abf5_6 ⟨by decide, by decide, by omega⟩ rfl rfl (Nat.le_of_ble_eq_true rfl) ?_
  refine z_ishr hX dJ0_length_8abf5_9 ?_
  refine z_isv (shr_0 hN) ?_
  exact z_iretI hX dJ0_length_8abf5_10 (by decide) rfl (fun _ h => h)
set_option maxHeartbeats 1000000 in
set_option maxRecDepth 100000 in
theorem sJ1_charAt (l : Launch) {g : zG} {κ : zKp} {μ : zMu} {ω : zOm} {a v N : Nat} {f : Nat → Int32} (hs : sD g ω a v N f) {q : Nat} (hN : N < 100000) (hc : ascB f N) (hq : q < N) : zM l g yJ1_charAt_3b067 cJ1_charAt_3b067 2 (some .char) 3 0 [.ref v, .int (nI q)] κ μ (ω) κ μ (ω) (some (.int (f q))) := by
  refine zM_of (by decide) (Nat.le_of_ble_eq_true rfl) (fun p e R s m args below meth c hX => ?_)
  show zZ p l e R s m args below meth c g 2 _ _ _ _ 0 0 [(0, .ref v), (1, .int (nI q))] []
  obtain ⟨b0, hb0, hb1⟩ := hc q hq
  refine z_iload_n hX dJ1_charAt_3b067_0 1 rfl ?_
  refine z_aload_n hX dJ1_charAt_3b067_1 0 rfl ?_
  refine z_slen hX hs dJ1_charAt_3b067_2 ?_
  refine z_callS0 hX (ok_J0_checkIndex_df160 l (ge_i (by omega)) (lt_i hq (by omega))) cs_RJ1_9 dJ1_charAt_3b067_3 (by decide) rfl rfl (Nat.le_of_ble_eq_true rfl) ?_
  refine z_aload_n hX dJ1_charAt_3b067_6 0 rfl ?_
  refine z_iload_n hX dJ1_charAt_3b067_7 1 rfl ?_
  refine z_sbald hX hs rfl hq hN dJ1_charAt_3b067_8 ?_
  refine z_sipush (v := 255) hX dJ1_charAt_3b067_9 (by decide) ?_
  refine z_iand hX dJ1_charAt_3b067_12 ?_
  refine z_i2c hX dJ1_charAt_3b067_13 ?_
  refine z_isv (show _ = f q by rw [hb1]; exact c16_b b0 hb0) ?_
  exact z_iret hX dJ1_charAt_3b067_14 (by decide) (by rw [hb1]; exact (pk_charN (by omega)).1) rfl (fun _ h => h)
set_option maxHeartbeats 1000000 in
set_option maxRecDepth 100000 in
theorem sJ0_charAt (l : Launch) {g : zG} {κ : zKp} {μ : zMu} {ω : zOm} {a v N : Nat} {f : Nat → Int32} (hs : sD g ω a v N f) {q : Nat} (hN : N < 100000) (hc : ascB f N) (hq : q < N) : zM l g yJ0_charAt_5068e cJ0_charAt_5068e 2 (some .char) 4 0 [.ref a, .int (nI q)] κ μ (ω) κ μ (ω) (some (.int (f q))) := by
  refine zM_of (by decide) (Nat.le_of_ble_eq_true rfl) (fun p e R s m args below meth c hX => ?_)
  show zZ p l e R s m args below meth c g 2 _ _ _ _ 0 0 [(0, .ref a), (1, .int (nI q))] []
  obtain ⟨b0, hb0, hb1⟩ := hc q hq
  refine z_aload_n hX dJ0_charAt_5068e_0 0 rfl ?_
  refine z_callU1 hX (sJ0_isLatin1 l hs) cu_RJ0_492 (zs_recv hX hs) dJ0_charAt_5068e_1 ⟨by decide, by decide, by omega⟩ rfl rfl (Nat.le_of_ble_eq_true rfl) ?_
  refine z_if_eq (tgt := 16) hX dJ0_charAt_5068e_4 (by decide) (fun h => absurd h (by decide)) (fun _ => ?_)
  refine z_aload_n hX dJ0_charAt_5068e_7 0 rfl ?_
  refine z_svalue hX hs fl_RJ0_9 dJ0_charAt_5068e_8 ?_
  refine z_iload_n hX dJ0_charAt_5068e_11 1 rfl ?_
  refine z_callS1 hX (sJ1_charAt l hs hN hc hq) cs_RJ0_495 dJ0_charAt_5068e_12 (by decide) rfl rfl (Nat.le_of_ble_eq_true rfl) ?_
  exact z_iret hX dJ0_charAt_5068e_15 (by decide) (by rw [hb1]; exact (pk_charN (by omega)).1) rfl (fun _ h => h)
set_option maxHeartbeats 1000000 in
set_option maxRecDepth 100000 in
theorem sJ0_getBytes (l : Launch) {g : zG} {κ : zKp} {μ : zMu} {ω : zOm} {a v N : Nat} {f : Nat → Int32} (hs : sD g ω a v N f) {w M p0 j : Nat} {h : Nat → Int32} (hc : ascB f N) (hj : ω[j]? = some (w, bA g M h)) (hM : p0 + N ≤ M) (hM2 : M < 100000) : zM l g yJ0_getBytes_840e7 cJ0_getBytes_840e7 4 none 2 0 [.ref a, .ref w, .int (nI p0), .int 0] κ μ (ω) κ μ (ω.set j (w, bA g M (va_cpy f h 0 p0 N))) (none) := by
  refine zM_of (by decide) (Nat.le_of_ble_eq_true rfl) (fun p e R s m args below meth c hX => ?_)
  show zZ p l e R s m args below meth c g 4 _ _ _ _ 0 0 [(0, .ref a), (1, .ref w), (2, .int (nI p0)), (3, .int 0)] []
  refine z_aload_n hX dJ0_getBytes_840e7_0 0 rfl ?_
  refine z_callU1 hX (sJ0_coder l hs) cu_RJ0_335 (zs_recv hX hs) dJ0_getBytes_840e7_1 ⟨by decide, by decide, by omega⟩ rfl rfl (Nat.le_of_ble_eq_true rfl) ?_
  refine z_iload_n hX dJ0_getBytes_840e7_4 3 rfl ?_
  refine z_icmp_ne (tgt := 28) hX dJ0_getBytes_840e7_5 (by decide) (fun h => absurd rfl h) (fun _ => ?_)
  refine z_aload_n hX dJ0_getBytes_840e7_8 0 rfl ?_
  refine z_svalue hX hs fl_RJ0_9 dJ0_getBytes_840e7_9 ?_
  refine z_iconst (v := 0) hX dJ0_getBytes_840e7_12 (by decide) ?_
  refine z_aload_n hX dJ0_getBytes_840e7_13 1 rfl ?_
  refine z_iload_n hX dJ0_getBytes_840e7_14 2 rfl ?_
  refine z_iload_n hX dJ0_getBytes_840e7_15 3 rfl ?_
  refine z_ishl hX dJ0_getBytes_840e7_16 ?_
  refine z_isv shl_0 ?_
  refine z_aload_n hX dJ0_getBytes_840e7_17 0 rfl ?_
  refine z_svalue hX hs fl_RJ0_9 dJ0_getBytes_840e7_18 ?_
  refine z_slen hX hs dJ0_getBytes_840e7_21 ?_
  refine z_scopy hX hs hc hj rfl rfl hM hM2 ml_ac0 dJ0_getBytes_840e7_22 (by decide) (Nat.le_of_ble_eq_true rfl) ?_
  refine z_goto (tgt := 43) hX dJ0_getBytes_840e7_25 (by decide) ?_
  exact z_vret hX dJ0_getBytes_840e7_43 (by decide) (fun _ h => h)
set_option maxHeartbeats 1000000 in
set_option maxRecDepth 100000 in
theorem bJ5_isLatin1 (l : Launch) {g : zG} {κ : zKp} {μ : zMu} {ω : zOm} {b v N : Nat}  : zM l g yJ5_isLatin1_aae02 cJ5_isLatin1_aae02 1 (some .boolean) 1 0 [.ref b] κ μ ((b, sbO v N) :: ω) κ μ ((b, sbO v N) :: ω) (some (.int 1)) := by
  refine zM_of (by decide) (Nat.le_of_ble_eq_true rfl) (fun p e R s m args below meth c hX => ?_)
  show zZ p l e R s m args below meth c g 1 _ _ _ _ 0 0 [(0, .ref b)] []
  refine zk_gets hX fl_RJ5_18 dJ5_isLatin1_aae02_0 ?_
  refine z_if_eq (tgt := 17) hX dJ5_isLatin1_aae02_3 (by decide) (fun h => absurd h (by decide)) (fun _ => ?_)
  refine z_aload_n hX dJ5_isLatin1_aae02_6 0 rfl ?_
  refine zb_coder hX (j := 0) rfl fl_RJ5_22 dJ5_isLatin1_aae02_7 ?_
  refine z_if_ne (tgt := 17) hX dJ5_isLatin1_aae02_10 (by decide) (fun h => absurd rfl h) (fun _ => ?_)
  refine z_iconst (v := 1) hX dJ5_isLatin1_aae02_13 (by decide) ?_
  refine z_goto (tgt := 18) hX dJ5_isLatin1_aae02_14 (by decide) ?_
  exact z_iret hX dJ5_isLatin1_aae02_18 (by decide) rfl rfl (fun _ h => h)
set_option maxHeartbeats 1000000 in
set_option maxRecDepth 100000 in
theorem bJ8_newLength (l : Launch) {g : zG} {κ : zKp} {μ : zMu} {ω : zOm} {A0 B0 C0 : Nat} (h1 : 0 < A0 + C0) (h2 : A0 + B0 + C0 < 100000) : zM l g yJ8_newLength_cabcc cJ8_newLength_cabcc 4 (some .int) 2 0 [.int (nI A0), .int (nI B0), .int (nI C0)] κ μ (ω) κ μ (ω) (some (.int (nI (A0 + (if B0 < C0 then C0 else B0))))) := by
  refine zM_of (by decide) (Nat.le_of_ble_eq_true rfl) (fun p e R s m args below meth c hX => ?_)
  show zZ p l e R s m args below meth c g 4 _ _ _ _ 0 0 [(0, .int (nI A0)), (1, .int (nI B0)), (2, .int (nI C0))] []
  refine z_iload_n hX dJ8_newLength_cabcc_0 0 rfl ?_
  refine z_iload_n hX dJ8_newLength_cabcc_1 1 rfl ?_
  refine z_iload_n hX dJ8_newLength_cabcc_2 2 rfl ?_
  refine z_max hX ml_RJ8_194 dJ8_newLength_cabcc_3 (by decide) (Nat.le_of_ble_eq_true rfl) ?_
  refine z_isv (y := nI (if B0 < C0 then C0 else B0)) (by
    by_cases h : B0 < C0
    · rw [if_pos h, if_pos (lt_i h (by omega))]
    · rw [if_neg h, if_neg (nI_nlt (by omega) (by omega))]) ?_
  refine z_iadd hX dJ8_newLength_cabcc_6 ?_
  refine z_isv (nI_add _ _) ?_
  have e1 : 0 < A0 + (if B0 < C0 then C0 else B0) ∧ A0 + (if B0 < C0 then C0 else B0) < 200000 := by
    by_cases h : B0 < C0
    · rw [if_pos h]; omega
    · rw [if_neg h]; omega
  refine z_istore_n (lv' := [(3, _), (0, _), (1, _), (2, _)]) hX dJ8_newLength_cabcc_7 (by decide) rfl ?_
  refine z_iconst (v := 0) hX dJ8_newLength_cabcc_8 (by decide) ?_
  refine z_iload_n hX dJ8_newLength_cabcc_9 0 rfl ?_
  refine z_icmp_ge (tgt := 21) hX dJ8_newLength_cabcc_10 (by decide) (fun h => absurd h (nI_nle e1.1 (by omega))) (fun _ => ?_)
  refine z_iload_n hX dJ8_newLength_cabcc_13 0 rfl ?_
  refine z_ldcI (v := 2147483639) hX (gW_I 1033 (by decide +kernel) rfl) dJ8_newLength_cabcc_14 ?_
  refine z_icmp_gt (tgt := 21) hX dJ8_newLength_cabcc_16 (by decide) (fun h => absurd h (nI_nlt (a := 2147483639) (by omega) (by decide))) (fun _ => ?_)
  refine z_iload_n hX dJ8_newLength_cabcc_19 0 rfl ?_
  exact z_iretI hX dJ8_newLength_cabcc_20 (by decide) rfl (fun _ h => h)
/-- the capacity after q places are asked for -/
def capB (q M : Nat) : Nat := M + (if q - M < M + 2 then M + 2 else q - M)
theorem cap_ge {q M : Nat} : q ≤ capB q M ∧ M < capB q M := by
  unfold capB
  split <;> omega
theorem cap_le {q M : Nat} (hq : q ≤ 64) (hM : M < q) : capB q M ≤ 132 := by
  unfold capB
  split <;> omega
set_option maxHeartbeats 1000000 in
set_option maxRecDepth 100000 in
theorem bJ5_newCapacity (l : Launch) {g : zG} {κ : zKp} {μ : zMu} {ω : zOm} {b v N M : Nat} {f : Nat → Int32} {q : Nat} (hq : q ≤ 64) (hM : M < q) : zM l g yJ5_newCapacity_0f7a4 cJ5_newCapacity_0f7a4 6 (some .int) 3 0 [.ref b, .int (nI q)] κ μ (sbW g b v N M f ω) κ μ (sbW g b v N M f ω) (some (.int (nI (capB q M)))) := by
  refine zM_of (by decide) (Nat.le_of_ble_eq_true rfl) (fun p e R s m args below meth c hX => ?_)
  show zZ p l e R s m args below meth c g 6 _ _ _ _ 0 0 [(0, .ref b), (1, .int (nI q))] []
  refine z_aload_n hX dJ5_newCapacity_0f7a4_0 0 rfl ?_
  refine zb_value hX (j := 0) rfl fl_RJ5_15 dJ5_newCapacity_0f7a4_1 ?_
  refine zq_alen hX (j := 1) (t0 := 5) (v := nI M) rfl rfl rfl dJ5_newCapacity_0f7a4_4 ?_
  refine z_istore_n (lv' := [(2, _), (0, _), (1, _)]) hX dJ5_newCapacity_0f7a4_5 (by decide) rfl ?_
  refine z_iload_n hX dJ5_newCapacity_0f7a4_6 2 rfl ?_
  refine z_aload_n hX dJ5_newCapacity_0f7a4_7 1 rfl ?_
  refine zb_coder hX (j := 0) rfl fl_RJ5_22 dJ5_newCapacity_0f7a4_8 ?_
  refine z_ishl hX dJ5_newCapacity_0f7a4_11 ?_
  refine z_isv shl_0 ?_
  refine z_istore_n (lv' := [(3, _), (2, _), (0, _), (1, _)]) hX dJ5_newCapacity_0f7a4_12 (by decide) rfl ?_
  refine z_iload_n hX dJ5_newCapacity_0f7a4_13 0 rfl ?_
  refine z_iload_n hX dJ5_newCapacity_0f7a4_14 1 rfl ?_
  refine z_isub hX dJ5_newCapacity_0f7a4_15 ?_
  refine z_isv (pk_sub (a := q) (b := M) (by omega)) ?_
  refine z_istore (lv' := [(4, _), (3, _), (2, _), (0, _), (1, _)]) hX dJ5_newCapacity_0f7a4_16 (by decide) rfl ?_
  refine z_iload_n hX dJ5_newCapacity_0f7a4_18 2 rfl ?_
  refine z_iload hX dJ5_newCapacity_0f7a4_19 0 rfl ?_
  refine z_iload_n hX dJ5_newCapacity_0f7a4_21 2 rfl ?_
  refine z_iconst (v := 2) hX dJ5_newCapacity_0f7a4_22 (by decide) ?_
  refine z_aload_n hX dJ5_newCapacity_0f7a4_23 3 rfl ?_
  refine zb_coder hX (j := 0) rfl fl_RJ5_22 dJ5_newCapacity_0f7a4_24 ?_
  refine z_ishl hX dJ5_newCapacity_0f7a4_27 ?_
  refine z_isv (show (2 : Int32) <<< ((0 : Int32) &&& 31) = nI 2 by decide) ?_
  refine z_iadd hX dJ5_newCapacity_0f7a4_28 ?_
  refine z_isv (nI_add _ _) ?_
  refine z_callS1 hX (bJ8_newLength l (by omega) (by omega)) cs_RJ5_114 dJ5_newCapacity_0f7a4_29 (by decide) rfl rfl (Nat.le_of_ble_eq_true rfl) ?_
  have hc := cap_le hq hM
  refine z_istore (lv' := [(5, .int (nI (capB q M))), (4, _), (3, _), (2, _), (0, _), (1, _)]) hX dJ5_newCapacity_0f7a4_32 (by decide) rfl ?_
  refine z_iload hX dJ5_newCapacity_0f7a4_34 0 rfl ?_
  refine z_ldcI (v := 2147483647) hX (gW_I 1037 (by decide +kernel) rfl) dJ5_newCapacity_0f7a4_36 ?_
  refine z_icmp_ne (tgt := 51) hX dJ5_newCapacity_0f7a4_38 (by decide) (fun _ => ?_) (fun h => absurd ((nI_eq (a := capB q M) (b := 2147483647) (by omega) (by decide)).mp h) (by omega))
  refine z_iload hX dJ5_newCapacity_0f7a4_51 0 rfl ?_
  refine z_aload_n hX dJ5_newCapacity_0f7a4_53 4 rfl ?_
  refine zb_coder hX (j := 0) rfl fl_RJ5_22 dJ5_newCapacity_0f7a4_54 ?_
  refine z_ishr hX dJ5_newCapacity_0f7a4_57 ?_
  refine z_isv (shr_0 (by omega)) ?_
  exact z_iretI hX dJ5_newCapacity_0f7a4_58 (by decide) rfl (fun _ h => h)
set_option maxHeartbeats 1000000 in
set_option maxRecDepth 100000 in
theorem bJ7_copyOf (l : Launch) {g : zG} {κ : zKp} {μ : zMu} {ω : zOm} {v M c0 j : Nat} {f : Nat → Int32} (hj : ω[j]? = some (v, bA g M f)) (hf : sb_Fit f) (hc : M < c0) (hc2 : c0 ≤ 132) : zME l g yJ7_copyOf_9075b cJ7_copyOf_9075b 3 (some (.array .byte)) 2 22 [.ref v, .int (nI c0)] κ μ (ω) κ μ (fun w r => ∃ a, r = some (.ref a) ∧ w = (a, bA g c0 (va_cpy f (fun _ => 0) 0 0 M)) :: ω) := by
  refine zME_of (by decide) (Nat.le_of_ble_eq_true rfl) (fun p e R s m args below meth c hi0 hX => ?_)
  show zZ p l e R s m args below meth c g 3 _ _ _ _ 0 0 [(0, .ref v), (1, .int (nI c0))] []
  refine z_iload_n hX dJ7_copyOf_9075b_0 1 rfl ?_
  refine z_aload_n hX dJ7_copyOf_9075b_1 0 rfl ?_
  refine zq_alen hX (t0 := 5) (v := nI M) hj rfl rfl dJ7_copyOf_9075b_2 ?_
  refine z_icmp_ne (tgt := 14) hX dJ7_copyOf_9075b_3 (by decide) (fun _ => ?_) (fun h => absurd ((nI_eq (a := c0) (b := M) (by omega) (by omega)).mp h) (by omega))
  refine z_iload_n hX dJ7_copyOf_9075b_14 1 rfl ?_
  refine zq_newa hX (t0 := 5) (N := c0) (r := 22) (a0 := (c0, .inl (fun _ => 0))) (ty := .byte) rfl (gW_I 439 (by decide +kernel) rfl) rfl (fun _ => rfl) rfl (by omega) (by show c0 * 1 ≤ _; omega) (by omega) (by decide) dJ7_copyOf_9075b_15 (fun a => ?_)
  refine z_astore_n (lv' := [(2, _), (0, _), (1, _)]) hX dJ7_copyOf_9075b_17 (by decide) rfl ?_
  refine z_aload_n hX dJ7_copyOf_9075b_18 1 rfl ?_
  refine z_iconst (v := 0) hX dJ7_copyOf_9075b_19 (by decide) ?_
  refine z_aload_n hX dJ7_copyOf_9075b_20 0 rfl ?_
  refine z_iconst (v := 0) hX dJ7_copyOf_9075b_21 (by decide) ?_
  refine z_aload_n hX dJ7_copyOf_9075b_22 1 rfl ?_
  refine zq_alen hX (t0 := 5) (v := nI M) (j := j + 1) hj rfl rfl dJ7_copyOf_9075b_23 ?_
  refine z_iload_n hX dJ7_copyOf_9075b_24 2 rfl ?_
  refine z_min hX ml_RJ7_304 dJ7_copyOf_9075b_25 (by decide) (Nat.le_of_ble_eq_true rfl) ?_
  refine z_isv (y := nI M) (if_neg (nI_nlt (by omega) (by omega))) ?_
  refine zq_copyb hX (j2 := j + 1) (j := 0) hj hf rfl rfl ⟨by omega, Nat.le_refl _⟩ (by omega) ml_ac7 dJ7_copyOf_9075b_28 (by decide) (Nat.le_of_ble_eq_true rfl) ?_
  refine z_aload_n hX dJ7_copyOf_9075b_31 0 rfl ?_
  exact zE_of ⟨a, rfl, rfl⟩ (z_aretA hX dJ7_copyOf_9075b_32 (by decide) (Or.inr ⟨_, rfl⟩) rfl (fun _ h => h))
/-- a builder with room for q places -/
abbrev roomB (g : zG) (b N M q : Nat) (f : Nat → Int32) (ω w : zOm) : Prop := ∃ (v2 M2 : Nat) (f2 : Nat → Int32), w = sbW g b v2 N M2 f2 ω ∧ q ≤ M2 ∧ M ≤ M2 ∧ M2 ≤ 132 ∧ sb_Fit f2 ∧ ∀ j, j < M → f2 j = f j
theorem pk_subi {a b : Nat} (ha : a < 100000) (hb : b < 100000) : nI a - nI b ≤ 0 ↔ a ≤ b := by
  have e1 : (nI a - nI b).toInt = (a : Int) - b := pk_sub_toInt (by omega) (by omega)
  rw [Int32.le_iff_toInt_le, e1, Int32.toInt_zero]
  omega
set_option maxHeartbeats 1000000 in
set_option maxRecDepth 100000 in
theorem bJ5_ensure (l : Launch) {g : zG} {κ : zKp} {μ : zMu} {ω : zOm} {b v N M : Nat} {f : Nat → Int32} {q : Nat} (hq : q ≤ 64) (hM2 : M ≤ 132) (hf : sb_Fit f) : zME l g yJ5_ensureCapacityInternal_d00df cJ5_ensureCapacityInternal_d00df 3 none 4 22 [.ref b, .int (nI q)] κ μ (sbW g b v N M f ω) κ μ (fun w r => r = none ∧ roomB g b N M q f ω w) := by
  refine zME_of (by decide) (Nat.le_of_ble_eq_true rfl) (fun p e R s m args below meth c hi0 hX => ?_)
  show zZ p l e R s m args below meth c g 3 _ _ _ _ 0 0 [(0, .ref b), (1, .int (nI q))] []
  refine z_aload_n hX dJ5_ensureCapacityInternal_d00df_0 0 rfl ?_
  refine zb_value hX (j := 0) rfl fl_RJ5_15 dJ5_ensureCapacityInternal_d00df_1 ?_
  refine zq_alen hX (j := 1) (t0 := 5) (v := nI M) rfl rfl rfl dJ5_ensureCapacityInternal_d00df_4 ?_
  refine z_aload_n hX dJ5_ensureCapacityInternal_d00df_5 0 rfl ?_
  refine zb_coder hX (j := 0) rfl fl_RJ5_22 dJ5_ensureCapacityInternal_d00df_6 ?_
  refine z_ishr hX dJ5_ensureCapacityInternal_d00df_9 ?_
  refine z_isv (shr_0 (by omega)) ?_
  refine z_istore_n (lv' := [(2, _), (0, _), (1, _)]) hX dJ5_ensureCapacityInternal_d00df_10 (by decide) rfl ?_
  refine z_iload_n hX dJ5_ensureCapacityInternal_d00df_11 2 rfl ?_
  refine z_iload_n hX dJ5_ensureCapacityInternal_d00df_12 0 rfl ?_
  refine z_isub hX dJ5_ensureCapacityInternal_d00df_13 ?_
  refine z_if_le (tgt := 38) hX dJ5_ensureCapacityInternal_d00df_14 (by decide) (fun h => ?_) (fun h => ?_)
  · have h1 := (pk_subi (a := q) (b := M) (by omega) (by omega)).mp h
    exact zE_of ⟨rfl, v, M, f, rfl, h1, Nat.le_refl _, hM2, hf, fun _ _ => rfl⟩ (z_vret hX dJ5_ensureCapacityInternal_d00df_38 (by decide) (fun _ h => h))
  · have h1 : M < q := Nat.lt_of_not_le (fun z => h ((pk_subi (a := q) (b := M) (by omega) (by omega)).mpr z))
    have hc := cap_le hq h1
    have hg := cap_ge (q := q) (M := M)
    refine z_aload_n hX dJ5_ensureCapacityInternal_d00df_17 1 rfl ?_
    refine z_aload_n hX dJ5_ensureCapacityInternal_d00df_18 1 rfl ?_
    refine zb_value hX (j := 0) rfl fl_RJ5_15 dJ5_ensureCapacityInternal_d00df_19 ?_
    refine z_aload_n hX dJ5_ensureCapacityInternal_d00df_22 1 rfl ?_
    refine z_iload_n hX dJ5_ensureCapacityInternal_d00df_23 2 rfl ?_
    refine z_callU1 hX (bJ5_newCapacity l hq h1) cu_RJ5_104 (zRv_at hX (j := 0) rfl rfl) dJ5_ensureCapacityInternal_d00df_24 ⟨by decide, by decide, by omega⟩ rfl rfl (Nat.le_of_ble_eq_true rfl) ?_
    refine z_aload_n hX dJ5_ensureCapacityInternal_d00df_27 1 rfl ?_
    refine zb_coder hX (j := 0) rfl fl_RJ5_22 dJ5_ensureCapacityInternal_d00df_28 ?_
    refine z_ishl hX dJ5_ensureCapacityInternal_d00df_31 ?_
    refine z_isv shl_0 ?_
    refine zE_callS hX (bJ7_copyOf l (j := 1) rfl hf hg.2 hc) cs_RJ5_108 dJ5_ensureCapacityInternal_d00df_32 ⟨by decide, by decide, by omega⟩ rfl rfl (Nat.le_of_ble_eq_true rfl) (fun w r h => ?_)
    obtain ⟨a, rfl, rfl⟩ := h
    refine zb_pvalue hX (j := 1) rfl fl_RJ5_15 dJ5_ensureCapacityInternal_d00df_35 ?_
    refine zE_of ⟨rfl, a, capB q M, va_cpy f (fun _ => 0) 0 0 M, rfl, hg.1, by omega, hc, sb_fitC hf sb_fit0, fun j hj => ?_⟩ (z_vret hX dJ5_ensureCapacityInternal_d00df_38 (by decide) (fun H h => ?_))
    · unfold va_cpy
      rw [if_pos (by omega), Nat.zero_add, Nat.sub_zero]
    · refine WW_sub (ω := (b, sbO a N) :: (a, bA g (capB q M) (va_cpy f (fun _ => 0) 0 0 M)) :: (v, bA g M f) :: ω) (List.Sublist.cons_cons _ (List.Sublist.cons_cons _ (List.sublist_cons_self _ _))) ?_
      exact WW_perm (List.Perm.swap _ _ _) h
set_option maxHeartbeats 1000000 in
set_option maxRecDepth 100000 in
theorem bJ5_inflate (l : Launch) {g : zG} {κ : zKp} {μ : zMu} {ω : zOm} {b v N M : Nat} {f : Nat → Int32} {a u K : Nat} {t : Nat → Int32} (hs : sD g ω a u K t) : zM l g yJ5_inflateIfNeededFor_a7421 cJ5_inflateIfNeededFor_a7421 2 none 2 0 [.ref b, .ref a] κ μ (sbW g b v N M f ω) κ μ (sbW g b v N M f ω) (none) := by
  refine zM_of (by decide) (Nat.le_of_ble_eq_true rfl) (fun p e R s m args below meth c hX => ?_)
  show zZ p l e R s m args below meth c g 2 _ _ _ _ 0 0 [(0, .ref b), (1, .ref a)] []
  refine zk_gets hX fl_RJ5_18 dJ5_inflateIfNeededFor_a7421_0 ?_
  refine z_if_eq (tgt := 21) hX dJ5_inflateIfNeededFor_a7421_3 (by decide) (fun h => absurd h (by decide)) (fun _ => ?_)
  refine z_aload_n hX dJ5_inflateIfNeededFor_a7421_6 0 rfl ?_
  refine zb_coder hX (j := 0) rfl fl_RJ5_22 dJ5_inflateIfNeededFor_a7421_7 ?_
  refine z_aload_n hX dJ5_inflateIfNeededFor_a7421_10 1 rfl ?_
  refine z_callU1 hX (sJ0_coder l hs.cons.cons) cu_RJ5_40 (zs_recv hX hs.cons.cons) dJ5_inflateIfNeededFor_a7421_11 ⟨by decide, by decide, by omega⟩ rfl rfl (Nat.le_of_ble_eq_true rfl) ?_
  refine z_icmp_eq (tgt := 21) hX dJ5_inflateIfNeededFor_a7421_14 (by decide) (fun _ => ?_) (fun h => absurd rfl h)
  exact z_vret hX dJ5_inflateIfNeededFor_a7421_21 (by decide) (fun _ h => h)
set_option maxHeartbeats 1000000 in
set_option maxRecDepth 100000 in
theorem bJ5_putStringAt (l : Launch) {g : zG} {κ : zKp} {μ : zMu} {ω : zOm} {b v N M : Nat} {f : Nat → Int32} {a u K p0 : Nat} {t : Nat → Int32} (hs : sD g ω a u K t) (hc : ascB t K) (hM : p0 + K ≤ M) (hM2 : M ≤ 132) : zM l g yJ5_putStringAt_47b60 cJ5_putStringAt_47b60 3 none 3 0 [.ref b, .int (nI p0), .ref a] κ μ (sbW g b v N M f ω) κ μ (sbW g b v N M (va_cpy t f 0 p0 K) ω) (none) := by
  refine zM_of (by decide) (Nat.le_of_ble_eq_true rfl) (fun p e R s m args below meth c hX => ?_)
  show zZ p l e R s m args below meth c g 3 _ _ _ _ 0 0 [(0, .ref b), (1, .int (nI p0)), (2, .ref a)] []
  refine z_aload_n hX dJ5_putStringAt_47b60_0 0 rfl ?_
  refine z_aload_n hX dJ5_putStringAt_47b60_1 2 rfl ?_
  refine z_callU0 hX (bJ5_inflate l hs) cu_RJ5_397 (zRv_at hX (j := 0) rfl rfl) dJ5_putStringAt_47b60_2 ⟨by decide, by decide, by omega⟩ rfl rfl (Nat.le_of_ble_eq_true rfl) ?_
  refine z_aload_n hX dJ5_putStringAt_47b60_5 2 rfl ?_
  refine z_aload_n hX dJ5_putStringAt_47b60_6 0 rfl ?_
  refine zb_value hX (j := 0) rfl fl_RJ5_15 dJ5_putStringAt_47b60_7 ?_
  refine z_iload_n hX dJ5_putStringAt_47b60_10 1 rfl ?_
  refine z_aload_n hX dJ5_putStringAt_47b60_11 0 rfl ?_
  refine zb_coder hX (j := 0) rfl fl_RJ5_22 dJ5_putStringAt_47b60_12 ?_
  refine z_callU0 hX (sJ0_getBytes l hs.cons.cons (j := 1) hc rfl hM (by omega)) cu_RJ5_399 (zs_recv hX hs.cons.cons) dJ5_putStringAt_47b60_15 ⟨by decide, by decide, by omega⟩ rfl rfl (Nat.le_of_ble_eq_true rfl) ?_
  exact z_vret hX dJ5_putStringAt_47b60_18 (by decide) (fun _ h => h)
/-- a builder to which the text t of K letters was appended -/
abbrev appB (g : zG) (b N K : Nat) (f t : Nat → Int32) (ω w : zOm) : Prop := ∃ (v2 M2 : Nat) (f2 : Nat → Int32), w = sbW g b v2 (N + K) M2 f2 ω ∧ N + K ≤ M2 ∧ M2 ≤ 132 ∧ sb_Fit f2 ∧ (∀ j, j < N → f2 j = f j) ∧ ∀ j, j < K → f2 (N + j) = t j
theorem fit_cpyA {t f : Nat → Int32} {p0 K : Nat} (hc : ascB t K) (hf : sb_Fit f) : sb_Fit (va_cpy t f 0 p0 K) := fun j => by
  unfold va_cpy
  by_cases h : p0 ≤ j ∧ j < p0 + K
  · rw [if_pos h]
    obtain ⟨x, hx, e⟩ := hc (0 + (j - p0)) (by omega)
    rw [e]
    exact fit128 x hx
  · rw [if_neg h]
    exact hf j
theorem app_of {g : zG} {b v N K M M0 : Nat} {f f1 t : Nat → Int32} {ω : zOm} (hc : ascB t K) (hf : sb_Fit f1) (hM : N + K ≤ M) (hM2 : M ≤ 132) (h0 : N ≤ M0) (hk : ∀ j, j < M0 → f1 j = f j) : appB g b N K f t ω (sbW g b v (N + K) M (va_cpy t f1 0 N K) ω) := by
  refine ⟨v, M, _, rfl, hM, hM2, fit_cpyA hc hf, fun j hj => ?_, fun j hj => ?_⟩
  · unfold va_cpy
    rw [if_neg (by omega)]
    exact hk j (by omega)
  · unfold va_cpy
    rw [if_pos (by omega), show 0 + (N + j - N) = j by omega]
set_option maxHeartbeats 1000000 in
set_option maxRecDepth 100000 in
theorem bJ5_appendS (l : Launch) {g : zG} {κ : zKp} {μ : zMu} {ω : zOm} {b v N M : Nat} {f : Nat → Int32} {a u K : Nat} {t : Nat → Int32} (hs : sD g ω a u K t) (hc : ascB t K) (hN : N ≤ M) (hK : N + K ≤ 64) (hM2 : M ≤ 132) (hf : sb_Fit f) : zME l g yJ5_append_cf1ce cJ5_append_cf1ce 3 (some (.object "java/lang/AbstractStringBuilder")) 5 22 [.ref b, .ref a] κ μ (sbW g b v N M f ω) κ μ (fun w r => r = some (.ref b) ∧ appB g b N K f t ω w) := by
  refine zME_of (by decide) (Nat.le_of_ble_eq_true rfl) (fun p e R s m args below meth c hi0 hX => ?_)
  show zZ p l e R s m args below meth c g 3 _ _ _ _ 0 0 [(0, .ref b), (1, .ref a)] []
  refine z_aload_n hX dJ5_append_cf1ce_0 1 rfl ?_
  refine z_ifnonnull (tgt := 9) hX dJ5_append_cf1ce_1 (by decide) ?_
  refine z_aload_n hX dJ5_append_cf1ce_9 1 rfl ?_
  refine z_callU1 hX (sJ0_length l hs.cons.cons (by omega)) cu_RJ5_32 (zs_recv hX hs.cons.cons) dJ5_append_cf1ce_10 ⟨by decide, by decide, by omega⟩ rfl rfl (Nat.le_of_ble_eq_true rfl) ?_
  refine z_istore_n (lv' := [(2, _), (0, _), (1, _)]) hX dJ5_append_cf1ce_13 (by decide) rfl ?_
  refine z_aload_n hX dJ5_append_cf1ce_14 1 rfl ?_
  refine z_aload_n hX dJ5_append_cf1ce_15 1 rfl ?_
  refine zb_count hX (j := 0) rfl fl_RJ5_79 dJ5_append_cf1ce_16 ?_
  refine z_iload_n hX dJ5_append_cf1ce_19 0 rfl ?_
  refine z_iadd hX dJ5_append_cf1ce_20 ?_
  refine z_isv (nI_add _ _) ?_
  refine zE_callV hX (bJ5_ensure l hK hM2 hf) cu_RJ5_100 (zRv_at hX (j := 0) rfl rfl) dJ5_append_cf1ce_21 ⟨by decide, by decide, by omega⟩ rfl rfl (Nat.le_of_ble_eq_true rfl) (fun w r h => ?_)
  obtain ⟨rfl, v2, M2, f2, rfl, h1, h2, h3, h4, h5⟩ := h
  refine z_aload_n hX dJ5_append_cf1ce_24 1 rfl ?_
  refine z_aload_n hX dJ5_append_cf1ce_25 1 rfl ?_
  refine zb_count hX (j := 0) rfl fl_RJ5_79 dJ5_append_cf1ce_26 ?_
  refine z_aload_n hX dJ5_append_cf1ce_29 2 rfl ?_
  refine z_callU0 hX (bJ5_putStringAt l hs hc h1 h3) cu_RJ5_208 (zRv_at hX (j := 0) rfl rfl) dJ5_append_cf1ce_30 ⟨by decide, by decide, by omega⟩ rfl rfl (Nat.le_of_ble_eq_true rfl) ?_
  refine z_aload_n hX dJ5_append_cf1ce_33 1 rfl ?_
  refine z_dup hX dJ5_append_cf1ce_34 rfl ?_
  refine zb_count hX (j := 0) rfl fl_RJ5_79 dJ5_append_cf1ce_35 ?_
  refine z_iload_n hX dJ5_append_cf1ce_38 0 rfl ?_
  refine z_iadd hX dJ5_append_cf1ce_39 ?_
  refine zb_pcount hX (j := 0) rfl (nI_add _ _) fl_RJ5_79 dJ5_append_cf1ce_40 ?_
  refine z_aload_n hX dJ5_append_cf1ce_43 1 rfl ?_
  exact zE_of ⟨rfl, app_of hc h4 h1 h3 hN h5⟩ (z_aret hX dJ5_append_cf1ce_44 (by decide) (Or.inr ⟨_, rfl⟩) rfl (fun _ h => h))
set_option maxHeartbeats 1000000 in
set_option maxRecDepth 100000 in
theorem bJ4_appendS (l : Launch) {g : zG} {κ : zKp} {μ : zMu} {ω : zOm} {b v N M : Nat} {f : Nat → Int32} {a u K : Nat} {t : Nat → Int32} (hs : sD g ω a u K t) (hc : ascB t K) (hN : N ≤ M) (hK : N + K ≤ 64) (hM2 : M ≤ 132) (hf : sb_Fit f) : zME l g yJ4_append_15ec4 cJ4_append_15ec4 2 (some (.object "java/lang/StringBuilder")) 6 22 [.ref b, .ref a] κ μ (sbW g b v N M f ω) κ μ (fun w r => r = some (.ref b) ∧ appB g b N K f t ω w) := by
  refine zME_of (by decide) (Nat.le_of_ble_eq_true rfl) (fun p e R s m args below meth c hi0 hX => ?_)
  show zZ p l e R s m args below meth c g 2 _ _ _ _ 0 0 [(0, .ref b), (1, .ref a)] []
  refine z_aload_n hX dJ4_append_15ec4_0 0 rfl ?_
  refine z_aload_n hX dJ4_append_15ec4_1 1 rfl ?_
  refine zE_callU hX (ci := 1) rfl (bJ5_appendS l hs hc hN hK hM2 hf) cw_RJ4_29 (zRv_at hX (j := 0) rfl rfl) dJ4_append_15ec4_2 ⟨by decide, by decide, by omega⟩ rfl rfl (Nat.le_of_ble_eq_true rfl) (fun w r h => ?_)
  obtain ⟨rfl, h⟩ := h
  refine z_pop hX dJ4_append_15ec4_5 rfl ?_
  refine z_aload_n hX dJ4_append_15ec4_6 0 rfl ?_
  exact zE_of ⟨rfl, h⟩ (z_aret hX dJ4_append_15ec4_7 (by decide) (Or.inr ⟨_, rfl⟩) rfl (fun _ h => h))
set_option maxHeartbeats 1000000 in
set_option maxRecDepth 100000 in
theorem bJ1_canEncode (l : Launch) {g : zG} {κ : zKp} {μ : zMu} {ω : zOm} {x : Nat} (hx : x < 128) : zM l g yJ1_canEncode_fc78d cJ1_canEncode_fc78d 1 (some .boolean) 1 0 [.int (nI x)] κ μ (ω) κ μ (ω) (some (.int 1)) := by
  refine zM_of (by decide) (Nat.le_of_ble_eq_true rfl) (fun p e R s m args below meth c hX => ?_)
  show zZ p l e R s m args below meth c g 1 _ _ _ _ 0 0 [(0, .int (nI x))] []
  refine z_iload_n hX dJ1_canEncode_fc78d_0 0 rfl ?_
  refine z_sipush (v := 255) hX dJ1_canEncode_fc78d_1 (by decide) ?_
  refine z_icmp_gt (tgt := 11) hX dJ1_canEncode_fc78d_4 (by decide) (fun h => absurd h (nI_nlt (a := 255) (by omega) (by decide))) (fun _ => ?_)
  refine z_iconst (v := 1) hX dJ1_canEncode_fc78d_7 (by decide) ?_
  refine z_goto (tgt := 12) hX dJ1_canEncode_fc78d_8 (by decide) ?_
  exact z_iret hX dJ1_canEncode_fc78d_12 (by decide) rfl rfl (fun _ h => h)
theorem nar128 : ∀ b, b < 128 → vp_nar .byte (nI b).toInt8.toInt32 = nI b := by decide +kernel
theorem app_c {g : zG} {b v N M M0 x : Nat} {f f1 : Nat → Int32} {ω : zOm} (hx : x < 128) (hf : sb_Fit f1) (hM : N + 1 ≤ M) (hM2 : M ≤ 132) (h0 : N ≤ M0) (hk : ∀ j, j < M0 → f1 j = f j) : appB g b N 1 f (fun _ => nI x) ω (sbW g b v (N + 1) M (upd f1 N (nI x)) ω) := by
  refine ⟨v, M, _, rfl, hM, hM2, sb_fitU hf (fit128 x hx), fun j hj => ?_, fun j hj => ?_⟩
  · unfold upd
    rw [if_neg (by omega)]
    exact hk j (by omega)
  · unfold upd
    rw [if_pos (by omega)]
set_option maxHeartbeats 1000000 in
set_option maxRecDepth 100000 in
theorem bJ5_appendC (l : Launch) {g : zG} {κ : zKp} {μ : zMu} {ω : zOm} {b v N M : Nat} {f : Nat → Int32} {x : Nat} (hx : x < 128) (hN : N ≤ M) (hK : N + 1 ≤ 64) (hM2 : M ≤ 132) (hf : sb_Fit f) : zME l g yJ5_append_3fe6f cJ5_append_3fe6f 2 (some (.object "java/lang/AbstractStringBuilder")) 5 22 [.ref b, .int (nI x)] κ μ (sbW g b v N M f ω) κ μ (fun w r => r = some (.ref b) ∧ appB g b N 1 f (fun _ => nI x) ω w) := by
  refine zME_of (by decide) (Nat.le_of_ble_eq_true rfl) (fun p e R s m args below meth c hi0 hX => ?_)
  show zZ p l e R s m args below meth c g 2 _ _ _ _ 0 0 [(0, .ref b), (1, .int (nI x))] []
  refine z_aload_n hX dJ5_append_3fe6f_0 0 rfl ?_
  refine z_aload_n hX dJ5_append_3fe6f_1 0 rfl ?_
  refine zb_count hX (j := 0) rfl fl_RJ5_79 dJ5_append_3fe6f_2 ?_
  refine z_iconst (v := 1) hX dJ5_append_3fe6f_5 (by decide) ?_
  refine z_iadd hX dJ5_append_3fe6f_6 ?_
  refine z_isv (nI_1 N) ?_
  refine zE_callV hX (bJ5_ensure l hK hM2 hf) cu_RJ5_100 (zRv_at hX (j := 0) rfl rfl) dJ5_append_3fe6f_7 ⟨by decide, by decide, by omega⟩ rfl rfl (Nat.le_of_ble_eq_true rfl) (fun w r h => ?_)
  obtain ⟨rfl, v2, M2, f2, rfl, h1, h2, h3, h4, h5⟩ := h
  refine z_aload_n hX dJ5_append_3fe6f_10 0 rfl ?_
  refine z_callU1 hX (bJ5_isLatin1 l) cu_RJ5_83 (zRv_at hX (j := 0) rfl rfl) dJ5_append_3fe6f_11 ⟨by decide, by decide, by omega⟩ rfl rfl (Nat.le_of_ble_eq_true rfl) ?_
  refine z_if_eq (tgt := 45) hX dJ5_append_3fe6f_14 (by decide) (fun h => absurd h (by decide)) (fun _ => ?_)
  refine z_iload_n hX dJ5_append_3fe6f_17 1 rfl ?_
  refine z_callS1 hX (bJ1_canEncode l hx) cs_RJ5_191 dJ5_append_3fe6f_18 ⟨by decide, by decide, by decide⟩ rfl rfl (Nat.le_of_ble_eq_true rfl) ?_
  refine z_if_eq (tgt := 45) hX dJ5_append_3fe6f_21 (by decide) (fun h => absurd h (by decide)) (fun _ => ?_)
  refine z_aload_n hX dJ5_append_3fe6f_24 0 rfl ?_
  refine zb_value hX (j := 0) rfl fl_RJ5_15 dJ5_append_3fe6f_25 ?_
  refine z_aload_n hX dJ5_append_3fe6f_28 0 rfl ?_
  refine z_dup hX dJ5_append_3fe6f_29 rfl ?_
  refine zb_count hX (j := 0) rfl fl_RJ5_79 dJ5_append_3fe6f_30 ?_
  refine z_dup_x1 hX dJ5_append_3fe6f_33 rfl rfl ?_
  refine z_iconst (v := 1) hX dJ5_append_3fe6f_34 (by decide) ?_
  refine z_iadd hX dJ5_append_3fe6f_35 ?_
  refine zb_pcount hX (j := 0) rfl (nI_1 N) fl_RJ5_79 dJ5_append_3fe6f_36 ?_
  refine z_iload_n hX dJ5_append_3fe6f_39 1 rfl ?_
  refine z_i2b hX dJ5_append_3fe6f_40 ?_
  refine zq_bast hX (j := 1) rfl rfl (show N < M2 by omega) (by omega) dJ5_append_3fe6f_41 ?_
  refine z_goto (tgt := 75) hX dJ5_append_3fe6f_42 (by decide) ?_
  refine z_aload_n hX dJ5_append_3fe6f_75 0 rfl ?_
  exact zE_of ⟨rfl, app_c hx h4 h1 h3 hN h5⟩ (z_aret hX dJ5_append_3fe6f_76 (by decide) (Or.inr ⟨_, rfl⟩) rfl (fun _ h => by
    have e := nar128 x hx
    simp only [List.set_cons_zero, List.set_cons_succ] at h
    rw [e] at h
    exact h))
set_option maxHeartbeats 1000000 in
set_option maxRecDepth 100000 in
theorem bJ4_appendC (l : Launch) {g : zG} {κ : zKp} {μ : zMu} {ω : zOm} {b v N M : Nat} {f : Nat → Int32} {x : Nat} (hx : x < 128) (hN : N ≤ M) (hK : N + 1 ≤ 64) (hM2 : M ≤ 132) (hf : sb_Fit f) : zME l g yJ4_append_cf468 cJ4_append_cf468 2 (some (.object "java/lang/StringBuilder")) 6 22 [.ref b, .int (nI x)] κ μ (sbW g b v N M f ω) κ μ (fun w r => r = some (.ref b) ∧ appB g b N 1 f (fun _ => nI x) ω w) := by
  refine zME_of (by decide) (Nat.le_of_ble_eq_true rfl) (fun p e R s m args below meth c hi0 hX => ?_)
  show zZ p l e R s m args below meth c g 2 _ _ _ _ 0 0 [(0, .ref b), (1, .int (nI x))] []
  refine z_aload_n hX dJ4_append_cf468_0 0 rfl ?_
  refine z_iload_n hX dJ4_append_cf468_1 1 rfl ?_
  refine zE_callU hX (ci := 1) rfl (bJ5_appendC l hx hN hK hM2 hf) cw_RJ4_50 (zRv_at hX (j := 0) rfl rfl) dJ4_append_cf468_2 ⟨by decide, by decide, by omega⟩ rfl rfl (Nat.le_of_ble_eq_true rfl) (fun w r h => ?_)
  obtain ⟨rfl, h⟩ := h
  refine z_pop hX dJ4_append_cf468_5 rfl ?_
  refine z_aload_n hX dJ4_append_cf468_6 0 rfl ?_
  exact zE_of ⟨rfl, h⟩ (z_aret hX dJ4_append_cf468_7 (by decide) (Or.inr ⟨_, rfl⟩) rfl (fun _ h => h))
end ZSC
