section ZJW
theorem fl_RJ0_9 : Cond.fieldLink RJ0 9 RJ0 "value" "[B" ∈ gW := gW_I 1189 (by decide +kernel) rfl
theorem ml_RJ0_335 : Cond.methodLink RJ0 335 yJ0_coder_7d493 ∈ gW := gW_I 300 (by decide +kernel) rfl
theorem wi_J0_coder_7d493 : Cond.instanceMethod yJ0_coder_7d493 ∈ gW := gW_I 301 (by decide +kernel) rfl
set_option maxRecDepth 100000 in
theorem wc_J0_coder_7d493 : Cond.code yJ0_coder_7d493 cJ0_coder_7d493 1 (some .byte) ∈ gW := gW_I 303 rfl rfl
theorem we_J0_coder_7d493 : Cond.selects RJ0 yJ0_coder_7d493 yJ0_coder_7d493 ∈ gW := gW_I 302 (by decide +kernel) rfl
theorem cv_RJ0_335 : zCV RJ0 335 yJ0_coder_7d493 cJ0_coder_7d493 1 (some .byte) 0 := ⟨gW_V ml_RJ0_335 wi_J0_coder_7d493 we_J0_coder_7d493 wn_RJ0 wc_J0_coder_7d493, by decide, by decide, by decide +kernel⟩
theorem fl_RJ0_38 : Cond.fieldLink RJ0 38 RJ0 "COMPACT_STRINGS" "Z" ∈ gW := gW_I 235 (by decide +kernel) rfl
theorem fl_RJ0_15 : Cond.fieldLink RJ0 15 RJ0 "coder" "B" ∈ gW := gW_I 1190 (by decide +kernel) rfl
theorem ml_RJ0_492 : Cond.methodLink RJ0 492 yJ0_isLatin1_aae02 ∈ gW := gW_I 231 (by decide +kernel) rfl
theorem wi_J0_isLatin1_aae02 : Cond.instanceMethod yJ0_isLatin1_aae02 ∈ gW := gW_I 232 (by decide +kernel) rfl
set_option maxRecDepth 100000 in
theorem wc_J0_isLatin1_aae02 : Cond.code yJ0_isLatin1_aae02 cJ0_isLatin1_aae02 1 (some .boolean) ∈ gW := gW_I 234 rfl rfl
theorem we_J0_isLatin1_aae02 : Cond.selects RJ0 yJ0_isLatin1_aae02 yJ0_isLatin1_aae02 ∈ gW := gW_I 233 (by decide +kernel) rfl
theorem cv_RJ0_492 : zCV RJ0 492 yJ0_isLatin1_aae02 cJ0_isLatin1_aae02 1 (some .boolean) 0 := ⟨gW_V ml_RJ0_492 wi_J0_isLatin1_aae02 we_J0_isLatin1_aae02 wn_RJ0 wc_J0_isLatin1_aae02, by decide, by decide, by decide +kernel⟩
theorem ml_RJ0_495 : Cond.methodLink RJ0 495 yJ1_charAt_3b067 ∈ gW := gW_I 237 (by decide +kernel) rfl
theorem wt_J1_charAt_3b067 : Cond.static yJ1_charAt_3b067 ∈ gW := gW_I 238 (by decide +kernel) rfl
theorem wn_RJ1 : Cond.initialized RJ1 ∈ gW := gW_I 8 (by decide +kernel) rfl
set_option maxRecDepth 100000 in
theorem wc_J1_charAt_3b067 : Cond.code yJ1_charAt_3b067 cJ1_charAt_3b067 2 (some .char) ∈ gW := gW_I 239 rfl rfl
theorem cs_RJ0_495 : zCS RJ0 495 yJ1_charAt_3b067 cJ1_charAt_3b067 2 (some .char) 2 := ⟨gW_S ml_RJ0_495 wt_J1_charAt_3b067 wn_RJ1 wc_J1_charAt_3b067, by decide, by decide, by decide +kernel⟩
theorem fl_RJ0_1053 : Cond.fieldLink RJ0 1053 RJ3 "SIOOBE_FORMATTER" "Ljava/util/function/BiFunction;" ∈ gW := gW_I 243 (by decide +kernel) rfl
theorem ml_RJ0_1059 : Cond.methodLink RJ0 1059 yJ3_checkIndex_8e157 ∈ gW := gW_I 245 (by decide +kernel) rfl
theorem wt_J3_checkIndex_8e157 : Cond.static yJ3_checkIndex_8e157 ∈ gW := gW_I 246 (by decide +kernel) rfl
theorem wn_RJ3 : Cond.initialized RJ3 ∈ gW := gW_I 9 (by decide +kernel) rfl
set_option maxRecDepth 100000 in
theorem wc_J3_checkIndex_8e157 : Cond.code yJ3_checkIndex_8e157 cJ3_checkIndex_8e157 3 (some .int) ∈ gW := gW_I 247 rfl rfl
theorem cs_RJ0_1059 : zCS RJ0 1059 yJ3_checkIndex_8e157 cJ3_checkIndex_8e157 3 (some .int) 3 := ⟨gW_S ml_RJ0_1059 wt_J3_checkIndex_8e157 wn_RJ3 wc_J3_checkIndex_8e157, by decide, by decide, by decide +kernel⟩
theorem ml_RJ0_633 : Cond.methodLink RJ0 633 yJ0_indexOf_7cf53 ∈ gW := gW_I 292 (by decide +kernel) rfl
theorem wi_J0_indexOf_7cf53 : Cond.instanceMethod yJ0_indexOf_7cf53 ∈ gW := gW_I 293 (by decide +kernel) rfl
set_option maxRecDepth 100000 in
theorem wc_J0_indexOf_7cf53 : Cond.code yJ0_indexOf_7cf53 cJ0_indexOf_7cf53 3 (some .int) ∈ gW := gW_I 295 rfl rfl
theorem we_J0_indexOf_7cf53 : Cond.selects RJ0 yJ0_indexOf_7cf53 yJ0_indexOf_7cf53 ∈ gW := gW_I 294 (by decide +kernel) rfl
theorem cv_RJ0_633 : zCV RJ0 633 yJ0_indexOf_7cf53 cJ0_indexOf_7cf53 3 (some .int) 2 := ⟨gW_V ml_RJ0_633 wi_J0_indexOf_7cf53 we_J0_indexOf_7cf53 wn_RJ0 wc_J0_indexOf_7cf53, by decide, by decide, by decide +kernel⟩
theorem ml_RJ0_505 : Cond.methodLink RJ0 505 yJ0_length_8abf5 ∈ gW := gW_I 296 (by decide +kernel) rfl
theorem cv_RJ0_505 : zCV RJ0 505 yJ0_length_8abf5 cJ0_length_8abf5 1 (some .int) 0 := ⟨gW_V ml_RJ0_505 wi_J0_length_8abf5 we_J0_length_8abf5 wn_RJ0 wc_J0_length_8abf5, by decide, by decide, by decide +kernel⟩
theorem ml_RJ0_637 : Cond.methodLink RJ0 637 yJ1_indexOf_4cfef ∈ gW := gW_I 304 (by decide +kernel) rfl
theorem wt_J1_indexOf_4cfef : Cond.static yJ1_indexOf_4cfef ∈ gW := gW_I 305 (by decide +kernel) rfl
set_option maxRecDepth 100000 in
theorem wc_J1_indexOf_4cfef : Cond.code yJ1_indexOf_4cfef cJ1_indexOf_4cfef 4 (some .int) ∈ gW := gW_I 306 rfl rfl
theorem cs_RJ0_637 : zCS RJ0 637 yJ1_indexOf_4cfef cJ1_indexOf_4cfef 4 (some .int) 4 := ⟨gW_S ml_RJ0_637 wt_J1_indexOf_4cfef wn_RJ1 wc_J1_indexOf_4cfef, by decide, by decide, by decide +kernel⟩
theorem ml_RJ1_9 : Cond.methodLink RJ1 9 yJ0_checkIndex_df160 ∈ gW := gW_I 240 (by decide +kernel) rfl
theorem wt_J0_checkIndex_df160 : Cond.static yJ0_checkIndex_df160 ∈ gW := gW_I 241 (by decide +kernel) rfl
set_option maxRecDepth 100000 in
theorem wc_J0_checkIndex_df160 : Cond.code yJ0_checkIndex_df160 cJ0_checkIndex_df160 2 none ∈ gW := gW_I 242 rfl rfl
theorem cs_RJ1_9 : zCS RJ1 9 yJ0_checkIndex_df160 cJ0_checkIndex_df160 2 none 2 := ⟨gW_S ml_RJ1_9 wt_J0_checkIndex_df160 wn_RJ0 wc_J0_checkIndex_df160, by decide, by decide, by decide +kernel⟩
theorem ml_RJ1_88 : Cond.methodLink RJ1 88 yJ1_canEncode_9a6ad ∈ gW := gW_I 307 (by decide +kernel) rfl
theorem wt_J1_canEncode_9a6ad : Cond.static yJ1_canEncode_9a6ad ∈ gW := gW_I 308 (by decide +kernel) rfl
set_option maxRecDepth 100000 in
theorem wc_J1_canEncode_9a6ad : Cond.code yJ1_canEncode_9a6ad cJ1_canEncode_9a6ad 1 (some .boolean) ∈ gW := gW_I 309 rfl rfl
theorem cs_RJ1_88 : zCS RJ1 88 yJ1_canEncode_9a6ad cJ1_canEncode_9a6ad 1 (some .boolean) 1 := ⟨gW_S ml_RJ1_88 wt_J1_canEncode_9a6ad wn_RJ1 wc_J1_canEncode_9a6ad, by decide, by decide, by decide +kernel⟩
theorem ml_RJ1_92 : Cond.methodLink RJ1 92 Lib.Math.max.name ∈ gW := gW_I 310 (by decide +kernel) rfl
theorem ml_RJ1_38 : Cond.methodLink RJ1 38 Lib.Math.min.name ∈ gW := gW_I 313 (by decide +kernel) rfl
theorem ml_RJ1_95 : Cond.methodLink RJ1 95 yJ1_indexOfChar_4cfef ∈ gW := gW_I 316 (by decide +kernel) rfl
theorem wt_J1_indexOfChar_4cfef : Cond.static yJ1_indexOfChar_4cfef ∈ gW := gW_I 317 (by decide +kernel) rfl
set_option maxRecDepth 100000 in
theorem wc_J1_indexOfChar_4cfef : Cond.code yJ1_indexOfChar_4cfef cJ1_indexOfChar_4cfef 6 (some .int) ∈ gW := gW_I 318 rfl rfl
theorem cs_RJ1_95 : zCS RJ1 95 yJ1_indexOfChar_4cfef cJ1_indexOfChar_4cfef 6 (some .int) 4 := ⟨gW_S ml_RJ1_95 wt_J1_indexOfChar_4cfef wn_RJ1 wc_J1_indexOfChar_4cfef, by decide, by decide, by decide +kernel⟩
end ZJW
section ZJR
variable {p : Program} {l : Launch} {e : Env} {R : Room} {s : State} {m : MethodId} {args : Array Value} {below : List Frame} {meth : Method} {c : Code} {Q : State → Prop} {g : zG} {own : String} {cc : ByteArray} {n lvl mc : Nat} {ret : Option FieldType} {κ κ' : zKp} {μ μ' : zMu} {ω ω' : zOm} {k pc : Nat} {lv lv' : List (Nat × Value)} {st : List Value}
abbrev sB (i : Nat) : List Int32 := zByt.getD i []
abbrev sBa (i j : Nat) : Int32 := (sB i).getD j 0
theorem sB_lt : ∀ i, i < 45 → (sB i).length < 100 := by decide +kernel
theorem sB_all : ∀ i, i < 45 → ∀ b ∈ sB i, 0 ≤ b ∧ b < 128 := by decide +kernel
theorem sB_b {i j : Nat} (hi : i < 45) (hj : j < (sB i).length) : ∃ b, b < 128 ∧ sBa i j = nI b := by
  have h : sBa i j ∈ sB i := by
    rw [sBa, List.getD_eq_getElem?_getD, List.getElem?_eq_getElem hj]
    exact List.getElem_mem hj
  obtain ⟨h1, h2⟩ := sB_all i hi _ h
  exact in_of (M := 128) (n := 128) rfl (by decide) h1 h2
theorem i2b_lo : ∀ n, n < 128 → (nI n).toInt8.toInt32 = nI n := by decide +kernel
theorem i2b_hi : ∀ n, n < 256 → 128 ≤ n → (nI n).toInt8.toInt32 < 0 := by decide +kernel
theorem c16_b : ∀ n, n < 128 → ((nI n &&& 255).toUInt32 % 65536).toInt32 = nI n := by decide +kernel
theorem shr_0 {n : Nat} (h : n < 100000) : nI n >>> ((0 : Int32) &&& 31) = nI n := by
  rw [pk_shrN (by omega) ((0 : Int32) &&& 31) 0 (by decide), Nat.pow_zero, Nat.div_one]
theorem zk_ldc (hX : zX p l s m args meth c R g own cc n ret lvl mc) {i index : Nat} {tx : String} (hl0 : zLit[i]? = some (own, index, tx)) (d : decode cc pc = .ok (.ldc index, 2)) (kk : zZ p l e R s m args below meth c g n Q κ μ ω k (pc + 2) lv (.ref (gAK g i) :: st)) : zZ p l e R s m args below meth c g n Q κ μ ω k pc lv st := fun H ls locs hl hS hW => by
  obtain ⟨hx, hb, hml, hown, hts, hK, hB, hs, hR, -⟩ := id hX
  exact va_ldcS hx hb hown (hB.2.1 i _ hl0) d (kk H ls locs hl hS hW)
theorem zk_gets (hX : zX p l s m args meth c R g own cc n ret lvl mc) {index : Nat} (hlink : Cond.fieldLink own index RJ0 "COMPACT_STRINGS" "Z" ∈ gW) (d : decode cc pc = .ok (.getstatic index, 3)) (kk : zZ p l e R s m args below meth c g n Q κ μ ω k (pc + 3) lv (.int 1 :: st)) : zZ p l e R s m args below meth c g n Q κ μ ω k pc lv st := fun H ls locs hl hS hW => by
  obtain ⟨hx, hb, hml, hown, hts, hK, hB, hs, hR, -⟩ := id hX
  exact va_gets hx hb hB.2.2.2.2.1 hS hown (hts _ hlink) (fun x h => h) d (kk H ls locs hl hS hW)
theorem zk_getF (hX : zX p l s m args meth c R g own cc n ret lvl mc) {index : Nat} (hlink : Cond.fieldLink own index RJ3 "SIOOBE_FORMATTER" "Ljava/util/function/BiFunction;" ∈ gW) (d : decode cc pc = .ok (.getstatic index, 3)) (kn : zZ p l e R s m args below meth c g n Q κ μ ω k (pc + 3) lv (.null :: st)) (kr : ∀ t : Nat, zZ p l e R s m args below meth c g n Q κ μ ω k (pc + 3) lv (.ref t :: st)) : zZ p l e R s m args below meth c g n Q κ μ ω k pc lv st := fun H ls locs hl hS hW => by
  obtain ⟨hx, hb, hml, hown, hts, hK, hB, hs, hR, -⟩ := id hX
  rcases hB.2.2.2.2.2.2.2.1 with h | ⟨t, h⟩
  · exact va_gets hx hb h hS hown (hts _ hlink) (fun x h => h) d (kn H ls locs hl hS hW)
  · exact va_gets hx hb h hS hown (hts _ hlink) (fun x h => h) d (kr t H ls locs hl hS hW)
theorem zk_value (hX : zX p l s m args meth c R g own cc n ret lvl mc) {i index : Nat} (hi : i < 45) (hlink : Cond.fieldLink own index RJ0 "value" "[B" ∈ gW) (d : decode cc pc = .ok (.getfield index, 3)) (kk : zZ p l e R s m args below meth c g n Q κ μ ω k (pc + 3) lv (.ref (gAV g i) :: st)) : zZ p l e R s m args below meth c g n Q κ μ ω k pc lv (.ref (gAK g i) :: st) := fun H ls locs hl hS hW => by
  obtain ⟨hx, hb, hml, hown, hts, hK, hB, hs, hR, -⟩ := id hX
  exact vk_getf hx hb (hB.1 i hi).2.2.1 hS hown (hts _ hlink) (fun x h => h) d (kk H ls locs hl hS hW)
theorem zk_coder (hX : zX p l s m args meth c R g own cc n ret lvl mc) {i index : Nat} (hi : i < 45) (hlink : Cond.fieldLink own index RJ0 "coder" "B" ∈ gW) (d : decode cc pc = .ok (.getfield index, 3)) (kk : zZ p l e R s m args below meth c g n Q κ μ ω k (pc + 3) lv (.int 0 :: st)) : zZ p l e R s m args below meth c g n Q κ μ ω k pc lv (.ref (gAK g i) :: st) := fun H ls locs hl hS hW => by
  obtain ⟨hx, hb, hml, hown, hts, hK, hB, hs, hR, -⟩ := id hX
  exact vk_getf hx hb (hB.1 i hi).2.1 hS hown (hts _ hlink) (fun x h => h) d (kk H ls locs hl hS hW)
theorem zk_len (hX : zX p l s m args meth c R g own cc n ret lvl mc) {i : Nat} (hi : i < 45) (d : decode cc pc = .ok (.arraylength, 1)) (kk : zZ p l e R s m args below meth c g n Q κ μ ω k (pc + 1) lv (.int (nI (sB i).length) :: st)) : zZ p l e R s m args below meth c g n Q κ μ ω k pc lv (.ref (gAV g i) :: st) := fun H ls locs hl hS hW => by
  obtain ⟨hx, hb, hml, hown, hts, hK, hB, hs, hR, -⟩ := id hX
  exact va_tlen hx hb (hB.1 i hi).2.2.2 hS rfl d (kk H ls locs hl hS hW)
theorem zk_bald (hX : zX p l s m args meth c R g own cc n ret lvl mc) {i q : Nat} {j : Int32} (hi : i < 45) (hj : j = nI q) (hq : q < (sB i).length) (d : decode cc pc = .ok (.baload, 1)) (kk : zZ p l e R s m args below meth c g n Q κ μ ω k (pc + 1) lv (.int (sBa i q) :: st)) : zZ p l e R s m args below meth c g n Q κ μ ω k pc lv (.int j :: .ref (gAV g i) :: st) := fun H ls locs hl hS hW => by
  subst hj
  obtain ⟨hx, hb, hml, hown, hts, hK, hB, hs, hR, -⟩ := id hX
  have h9 := sB_lt i hi
  exact va_tb hx hb (hB.1 i hi).2.2.2 hS (vp_in_nI hq (show (sB i).length < 2 ^ 31 by omega)) (by rw [nI_clamp (by omega)]) d (kk H ls locs hl hS hW)
theorem z_i2b (hX : zX p l s m args meth c R g own cc n ret lvl mc) {x : Int32} (d : decode cc pc = .ok (.i2b, 1)) (kk : zZ p l e R s m args below meth c g n Q κ μ ω k (pc + 1) lv (.int x.toInt8.toInt32 :: st)) : zZ p l e R s m args below meth c g n Q κ μ ω k pc lv (.int x :: st) := fun H ls locs hl hS hW => lv_i2b hX.1 hX.2.1 d rfl (kk H ls locs hl hS hW)
theorem z_ishr (hX : zX p l s m args meth c R g own cc n ret lvl mc) {x y : Int32} (d : decode cc pc = .ok (.ishr, 1)) (kk : zZ p l e R s m args below meth c g n Q κ μ ω k (pc + 1) lv (.int (x >>> (y &&& 31)) :: st)) : zZ p l e R s m args below meth c g n Q κ μ ω k pc lv (.int y :: .int x :: st) := fun H ls locs hl hS hW => lv_ishr hX.1 hX.2.1 d (kk H ls locs hl hS hW)
theorem zk_callV (hX : zX p l s m args meth c R g own cc n ret lvl mc) {idx nY lvlY mcY i nA : Nat} {y : MethodName} {cY : ByteArray} {retY : Option FieldType} {As rest : List Value} {r : Option Value} (hi : i < 45) (hy : y.cls = "java/lang/String") (hM : zM l g y cY nY retY lvlY mcY (.ref (gAK g i) :: As) κ μ ω κ' μ' ω' r) (hC : zCV own idx y cY nY retY nA) (d : decode cc pc = .ok (.invokevirtual idx, 3)) (hlv : lvlY < lvl ∧ nY ≤ 81 ∧ k + mcY ≤ mc) (hA : As.length = nA) (hst : st = As.reverse ++ .ref (gAK g i) :: rest) (hcat : (rest.map fun v => v.category).sum ≤ 8) (kk : zZ p l e R s m args below meth c g n Q κ' μ' ω' (k + mcY) (pc + 3) lv (r.toList ++ rest)) : zZ p l e R s m args below meth c g n Q κ μ ω k pc lv st := fun H ls locs hl hS hW => by
  obtain ⟨hx, hb, hml, hown, hts, hK, hB, hs, hR, -⟩ := id hX
  obtain ⟨hG, h1, h2, h3⟩ := hC
  subst hst
  have hrc : ∃ cell : Cell, H[gAK g i]? = some cell ∧ cell.vm.isStatics = false ∧ s.vm.findClass y.cls = some cell.cls := by
    obtain ⟨cell, q1, q2, q3, -⟩ := (hB.1 i hi).1.kept hS.2.1
    exact ⟨cell, q1, q2, by rw [hy]; exact q3⟩
  exact z_back hl hS (va_runV (nL := n) ⟨hx, hb, hml, hown, hts⟩ hM (cwV nA hts hG rfl rfl rfl ⟨rfl, h1, h2, h3⟩ ⟨Nat.le_trans hlv.1 hR.1, Nat.le_trans (zroom hlv.1 hlv.2.1) hR.2.1⟩) ⟨zPre_blind, hrc, fun U hU hw => ⟨rfl, hX.pre hS hW hU hw⟩⟩ rfl hA hl.1 rfl (lv_room hcat) d ⟨Nat.le_trans hlv.2.2 hR.2.2.1, by rw [← Nat.mul_add]; exact Nat.le_trans (Nat.mul_le_mul_left 6 hlv.2.2) hR.2.2.2⟩) kk
theorem zk_callV1 (hX : zX p l s m args meth c R g own cc n ret lvl mc) {idx nY lvlY mcY i nA : Nat} {y : MethodName} {cY : ByteArray} {retY : Option FieldType} {As rest : List Value} {v : Value} (hi : i < 45) (hy : y.cls = "java/lang/String") (hM : zM l g y cY nY retY lvlY mcY (.ref (gAK g i) :: As) κ μ ω κ' μ' ω' (some v)) (hC : zCV own idx y cY nY retY nA) (d : decode cc pc = .ok (.invokevirtual idx, 3)) (hlv : lvlY < lvl ∧ nY ≤ 81 ∧ k + mcY ≤ mc) (hA : As.length = nA) (hst : st = As.reverse ++ .ref (gAK g i) :: rest) (hcat : (rest.map fun v => v.category).sum ≤ 8) (kk : zZ p l e R s m args below meth c g n Q κ' μ' ω' (k + mcY) (pc + 3) lv (v :: rest)) : zZ p l e R s m args below meth c g n Q κ μ ω k pc lv st := zk_callV hX hi hy hM hC d hlv hA hst hcat kk
end ZJR
section ZJC
set_option maxHeartbeats 4000000 in
set_option maxRecDepth 100000 in
theorem ok_J0_coder_7d493 (l : Launch) {g : zG} {κ : zKp} {μ : zMu} {ω : zOm} {i : Nat} (hi : i < 45)  : zM l g yJ0_coder_7d493 cJ0_coder_7d493 1 (some .byte) 1 0 [.ref (gAK g i)] κ μ ω κ μ ω (some (.int 0)) := by
  refine zM_of (by decide) (Nat.le_of_ble_eq_true rfl) (fun p e R s m args below meth c hX => ?_)
  show zZ p l e R s m args below meth c g 1 _ _ _ _ 0 0 [(0, .ref (gAK g i))] []
  refine zk_gets hX fl_RJ0_38 dJ0_coder_7d493_0 ?_
  refine z_if_eq (tgt := 13) hX dJ0_coder_7d493_3 (by decide) (fun h3 => absurd h3 (by decide)) (fun h3 => ?_)
  refine z_aload_n hX dJ0_coder_7d493_6 0 rfl ?_
  refine zk_coder hX hi fl_RJ0_15 dJ0_coder_7d493_7 ?_
  refine z_goto (tgt := 14) hX dJ0_coder_7d493_10 (by decide) ?_
  exact z_iret hX dJ0_coder_7d493_14 (by decide) rfl rfl (fun _ h => h)
set_option maxHeartbeats 4000000 in
set_option maxRecDepth 100000 in
theorem ok_J0_isLatin1_aae02 (l : Launch) {g : zG} {κ : zKp} {μ : zMu} {ω : zOm} {i : Nat} (hi : i < 45)  : zM l g yJ0_isLatin1_aae02 cJ0_isLatin1_aae02 1 (some .boolean) 1 0 [.ref (gAK g i)] κ μ ω κ μ ω (some (.int 1)) := by
  refine zM_of (by decide) (Nat.le_of_ble_eq_true rfl) (fun p e R s m args below meth c hX => ?_)
  show zZ p l e R s m args below meth c g 1 _ _ _ _ 0 0 [(0, .ref (gAK g i))] []
  refine zk_gets hX fl_RJ0_38 dJ0_isLatin1_aae02_0 ?_
  refine z_if_eq (tgt := 17) hX dJ0_isLatin1_aae02_3 (by decide) (fun h3 => absurd h3 (by decide)) (fun h3 => ?_)
  refine z_aload_n hX dJ0_isLatin1_aae02_6 0 rfl ?_
  refine zk_coder hX hi fl_RJ0_15 dJ0_isLatin1_aae02_7 ?_
  refine z_if_ne (tgt := 17) hX dJ0_isLatin1_aae02_10 (by decide) (fun h10 => absurd h10 (by decide)) (fun h10 => ?_)
  refine z_iconst (v := 1) hX dJ0_isLatin1_aae02_13 (by decide) ?_
  refine z_goto (tgt := 18) hX dJ0_isLatin1_aae02_14 (by decide) ?_
  exact z_iret hX dJ0_isLatin1_aae02_18 (by decide) rfl rfl (fun _ h => h)
set_option maxHeartbeats 4000000 in
set_option maxRecDepth 100000 in
theorem ok_J0_length_8abf5 (l : Launch) {g : zG} {κ : zKp} {μ : zMu} {ω : zOm} {i : Nat} (hi : i < 45)  : zM l g yJ0_length_8abf5 cJ0_length_8abf5 1 (some .int) 2 0 [.ref (gAK g i)] κ μ ω κ μ ω (some (.int (nI (sB i).length))) := by
  refine zM_of (by decide) (Nat.le_of_ble_eq_true rfl) (fun p e R s m args below meth c hX => ?_)
  show zZ p l e R s m args below meth c g 1 _ _ _ _ 0 0 [(0, .ref (gAK g i))] []
  refine z_aload_n hX dJ0_length_8abf5_0 0 rfl ?_
  refine zk_value hX hi fl_RJ0_9 dJ0_length_8abf5_1 ?_
  refine zk_len hX hi dJ0_length_8abf5_4 ?_
  refine z_aload_n hX dJ0_length_8abf5_5 0 rfl ?_
  refine zk_callV1 hX hi rfl (ok_J0_coder_7d493 l hi) cv_RJ0_335 dJ0_length_8abf5_6 (by decide) rfl rfl (Nat.le_of_ble_eq_true rfl) ?_
  refine z_ishr hX dJ0_length_8abf5_9 ?_
  refine z_isv (shr_0 (by have := sB_lt i hi; omega)) ?_
  exact z_iretI hX dJ0_length_8abf5_10 (by decide) rfl (fun _ h => h)
set_option maxHeartbeats 4000000 in
set_option maxRecDepth 100000 in
theorem ok_J3_ciN (l : Launch) {g : zG} {κ : zKp} {μ : zMu} {ω : zOm} {x y : Int32} {t : Nat} (hp0 : 0 ≤ x) (hp1 : x < y) : zM l g yJ3_checkIndex_8e157 cJ3_checkIndex_8e157 3 (some .int) 1 0 [.int x, .int y, .null] κ μ ω κ μ ω (some (.int x)) := by
  refine zM_of (by decide) (Nat.le_of_ble_eq_true rfl) (fun p e R s m args below meth c hX => ?_)
  show zZ p l e R s m args below meth c g 3 _ _ _ _ 0 0 [(0, .int x), (1, .int y), (2, .null)] []
  refine z_iload_n hX dJ3_checkIndex_8e157_0 0 rfl ?_
  refine z_if_lt (tgt := 9) hX dJ3_checkIndex_8e157_1 (by decide) (fun h1 => absurd h1 (Int32.not_lt.mpr hp0)) (fun h1 => ?_)
  refine z_iload_n hX dJ3_checkIndex_8e157_4 0 rfl ?_
  refine z_iload_n hX dJ3_checkIndex_8e157_5 1 rfl ?_
  refine z_icmp_lt (tgt := 16) hX dJ3_checkIndex_8e157_6 (by decide) (fun h6 => ?_) (fun h6 => absurd h6 (Classical.not_not.mpr hp1))
  refine z_iload_n hX dJ3_checkIndex_8e157_16 0 rfl ?_
  exact z_iretI hX dJ3_checkIndex_8e157_17 (by decide) rfl (fun _ h => h)
set_option maxHeartbeats 4000000 in
set_option maxRecDepth 100000 in
theorem ok_J3_ciR (l : Launch) {g : zG} {κ : zKp} {μ : zMu} {ω : zOm} {x y : Int32} {t : Nat} (hp0 : 0 ≤ x) (hp1 : x < y) : zM l g yJ3_checkIndex_8e157 cJ3_checkIndex_8e157 3 (some .int) 1 0 [.int x, .int y, .ref t] κ μ ω κ μ ω (some (.int x)) := by
  refine zM_of (by decide) (Nat.le_of_ble_eq_true rfl) (fun p e R s m args below meth c hX => ?_)
  show zZ p l e R s m args below meth c g 3 _ _ _ _ 0 0 [(0, .int x), (1, .int y), (2, .ref t)] []
  refine z_iload_n hX dJ3_checkIndex_8e157_0 0 rfl ?_
  refine z_if_lt (tgt := 9) hX dJ3_checkIndex_8e157_1 (by decide) (fun h1 => absurd h1 (Int32.not_lt.mpr hp0)) (fun h1 => ?_)
  refine z_iload_n hX dJ3_checkIndex_8e157_4 0 rfl ?_
  refine z_iload_n hX dJ3_checkIndex_8e157_5 1 rfl ?_
  refine z_icmp_lt (tgt := 16) hX dJ3_checkIndex_8e157_6 (by decide) (fun h6 => ?_) (fun h6 => absurd h6 (Classical.not_not.mpr hp1))
  refine z_iload_n hX dJ3_checkIndex_8e157_16 0 rfl ?_
  exact z_iretI hX dJ3_checkIndex_8e157_17 (by decide) rfl (fun _ h => h)
set_option maxHeartbeats 4000000 in
set_option maxRecDepth 100000 in
theorem ok_J0_checkIndex_df160 (l : Launch) {g : zG} {κ : zKp} {μ : zMu} {ω : zOm} {x y : Int32} (hp0 : 0 ≤ x) (hp1 : x < y) : zM l g yJ0_checkIndex_df160 cJ0_checkIndex_df160 2 none 2 0 [.int x, .int y] κ μ ω κ μ ω none := by
  refine zM_of (by decide) (Nat.le_of_ble_eq_true rfl) (fun p e R s m args below meth c hX => ?_)
  show zZ p l e R s m args below meth c g 2 _ _ _ _ 0 0 [(0, .int x), (1, .int y)] []
  refine z_iload_n hX dJ0_checkIndex_df160_0 0 rfl ?_
  refine z_iload_n hX dJ0_checkIndex_df160_1 1 rfl ?_
  refine zk_getF hX fl_RJ0_1053 dJ0_checkIndex_df160_2 ?_ (fun t => ?_)
  · refine z_callS1 hX (ok_J3_ciN l (t := 0) hp0 hp1) cs_RJ0_1059 dJ0_checkIndex_df160_5 (by decide) rfl rfl (Nat.le_of_ble_eq_true rfl) ?_
    refine z_pop hX dJ0_checkIndex_df160_8 rfl ?_
    exact z_vret hX dJ0_checkIndex_df160_9 (by decide) (fun _ h => h)
  · refine z_callS1 hX (ok_J3_ciR l (t := t) hp0 hp1) cs_RJ0_1059 dJ0_checkIndex_df160_5 (by decide) rfl rfl (Nat.le_of_ble_eq_true rfl) ?_
    refine z_pop hX dJ0_checkIndex_df160_8 rfl ?_
    exact z_vret hX dJ0_checkIndex_df160_9 (by decide) (fun _ h => h)
set_option maxHeartbeats 4000000 in
set_option maxRecDepth 100000 in
theorem ok_J1_charAt_3b067 (l : Launch) {g : zG} {κ : zKp} {μ : zMu} {ω : zOm} {i : Nat} (hi : i < 45) {q : Nat} (hq : q < (sB i).length)  : zM l g yJ1_charAt_3b067 cJ1_charAt_3b067 2 (some .char) 3 0 [.ref (gAV g i), .int (nI q)] κ μ ω κ μ ω (some (.int (sBa i q))) := by
  have h9 := sB_lt i hi
  obtain ⟨b0, hb0, hb1⟩ := sB_b hi hq
  refine zM_of (by decide) (Nat.le_of_ble_eq_true rfl) (fun p e R s m args below meth c hX => ?_)
  show zZ p l e R s m args below meth c g 2 _ _ _ _ 0 0 [(0, .ref (gAV g i)), (1, .int (nI q))] []
  refine z_iload_n hX dJ1_charAt_3b067_0 1 rfl ?_
  refine z_aload_n hX dJ1_charAt_3b067_1 0 rfl ?_
  refine zk_len hX hi dJ1_charAt_3b067_2 ?_
  refine z_callS0 hX (ok_J0_checkIndex_df160 l (ge_i (by omega)) (lt_i hq (by omega))) cs_RJ1_9 dJ1_charAt_3b067_3 (by decide) rfl rfl (Nat.le_of_ble_eq_true rfl) ?_
  refine z_aload_n hX dJ1_charAt_3b067_6 0 rfl ?_
  refine z_iload_n hX dJ1_charAt_3b067_7 1 rfl ?_
  refine zk_bald hX hi rfl hq dJ1_charAt_3b067_8 ?_
  refine z_sipush (v := 255) hX dJ1_charAt_3b067_9 (by decide) ?_
  refine z_iand hX dJ1_charAt_3b067_12 ?_
  refine z_i2c hX dJ1_charAt_3b067_13 ?_
  refine z_isv (show _ = sBa i q by rw [hb1]; exact c16_b b0 hb0) ?_
  exact z_iret hX dJ1_charAt_3b067_14 (by decide) (by rw [hb1]; exact (pk_charN (by omega)).1) rfl (fun _ h => h)
set_option maxHeartbeats 4000000 in
set_option maxRecDepth 100000 in
theorem ok_J0_charAt_5068e (l : Launch) {g : zG} {κ : zKp} {μ : zMu} {ω : zOm} {i : Nat} (hi : i < 45) {q : Nat} (hq : q < (sB i).length)  : zM l g yJ0_charAt_5068e cJ0_charAt_5068e 2 (some .char) 4 0 [.ref (gAK g i), .int (nI q)] κ μ ω κ μ ω (some (.int (sBa i q))) := by
  obtain ⟨b0, hb0, hb1⟩ := sB_b hi hq
  refine zM_of (by decide) (Nat.le_of_ble_eq_true rfl) (fun p e R s m args below meth c hX => ?_)
  show zZ p l e R s m args below meth c g 2 _ _ _ _ 0 0 [(0, .ref (gAK g i)), (1, .int (nI q))] []
  refine z_aload_n hX dJ0_charAt_5068e_0 0 rfl ?_
  refine zk_callV1 hX hi rfl (ok_J0_isLatin1_aae02 l hi) cv_RJ0_492 dJ0_charAt_5068e_1 (by decide) rfl rfl (Nat.le_of_ble_eq_true rfl) ?_
  refine z_if_eq (tgt := 16) hX dJ0_charAt_5068e_4 (by decide) (fun h4 => absurd h4 (by decide)) (fun h4 => ?_)
  refine z_aload_n hX dJ0_charAt_5068e_7 0 rfl ?_
  refine zk_value hX hi fl_RJ0_9 dJ0_charAt_5068e_8 ?_
  refine z_iload_n hX dJ0_charAt_5068e_11 1 rfl ?_
  refine z_callS1 hX (ok_J1_charAt_3b067 l hi hq) cs_RJ0_495 dJ0_charAt_5068e_12 (by decide) rfl rfl (Nat.le_of_ble_eq_true rfl) ?_
  exact z_iret hX dJ0_charAt_5068e_15 (by decide) (by rw [hb1]; exact (pk_charN (by omega)).1) rfl (fun _ h => h)
set_option maxHeartbeats 4000000 in
set_option maxRecDepth 100000 in
theorem ok_J1_canEncode_9a6ad (l : Launch) {g : zG} {κ : zKp} {μ : zMu} {ω : zOm} {x : Int32} (hp0 : 0 ≤ x) (hp1 : x ≤ 255) : zM l g yJ1_canEncode_9a6ad cJ1_canEncode_9a6ad 1 (some .boolean) 1 0 [.int x] κ μ ω κ μ ω (some (.int 1)) := by
  refine zM_of (by decide) (Nat.le_of_ble_eq_true rfl) (fun p e R s m args below meth c hX => ?_)
  show zZ p l e R s m args below meth c g 1 _ _ _ _ 0 0 [(0, .int x)] []
  refine z_iload_n hX dJ1_canEncode_9a6ad_0 0 rfl ?_
  refine z_if_lt (tgt := 15) hX dJ1_canEncode_9a6ad_1 (by decide) (fun h1 => absurd h1 (Int32.not_lt.mpr hp0)) (fun h1 => ?_)
  refine z_iload_n hX dJ1_canEncode_9a6ad_4 0 rfl ?_
  refine z_sipush (v := 255) hX dJ1_canEncode_9a6ad_5 (by decide) ?_
  refine z_icmp_gt (tgt := 15) hX dJ1_canEncode_9a6ad_8 (by decide) (fun h8 => absurd h8 (Int32.not_lt.mpr hp1)) (fun h8 => ?_)
  refine z_iconst (v := 1) hX dJ1_canEncode_9a6ad_11 (by decide) ?_
  refine z_goto (tgt := 16) hX dJ1_canEncode_9a6ad_12 (by decide) ?_
  exact z_iret hX dJ1_canEncode_9a6ad_16 (by decide) rfl rfl (fun _ h => h)
set_option maxHeartbeats 4000000 in
set_option maxRecDepth 100000 in
theorem no_canEncode (l : Launch) {g : zG} {κ : zKp} {μ : zMu} {ω : zOm} {x : Int32} (hp0 : ¬ (0 ≤ x ∧ x ≤ 255)) : zM l g yJ1_canEncode_9a6ad cJ1_canEncode_9a6ad 1 (some .boolean) 1 0 [.int x] κ μ ω κ μ ω (some (.int 0)) := by
  refine zM_of (by decide) (Nat.le_of_ble_eq_true rfl) (fun p e R s m args below meth c hX => ?_)
  show zZ p l e R s m args below meth c g 1 _ _ _ _ 0 0 [(0, .int x)] []
  refine z_iload_n hX dJ1_canEncode_9a6ad_0 0 rfl ?_
  refine z_if_lt (tgt := 15) hX dJ1_canEncode_9a6ad_1 (by decide) (fun h1 => ?_) (fun h1 => ?_)
  · skip
    refine z_iconst (v := 0) hX dJ1_canEncode_9a6ad_15 (by decide) ?_
    exact z_iret hX dJ1_canEncode_9a6ad_16 (by decide) rfl rfl (fun _ h => h)
  · skip
    refine z_iload_n hX dJ1_canEncode_9a6ad_4 0 rfl ?_
    refine z_sipush (v := 255) hX dJ1_canEncode_9a6ad_5 (by decide) ?_
    refine z_icmp_gt (tgt := 15) hX dJ1_canEncode_9a6ad_8 (by decide) (fun h8 => ?_) (fun h8 => absurd h8 (fun q => hp0 ⟨Int32.not_lt.mp h1, Int32.not_lt.mp q⟩))
    refine z_iconst (v := 0) hX dJ1_canEncode_9a6ad_15 (by decide) ?_
    exact z_iret hX dJ1_canEncode_9a6ad_16 (by decide) rfl rfl (fun _ h => h)
set_option maxHeartbeats 4000000 in
set_option maxRecDepth 100000 in
theorem no_indexOfChar (l : Launch) {g : zG} {κ : zKp} {μ : zMu} {ω : zOm} {i : Nat} (hi : i < 45) {x : Int32} (hne : ∀ j, j < (sB i).length → ¬ sBa i j = x.toInt8.toInt32) : zM l g yJ1_indexOfChar_4cfef cJ1_indexOfChar_4cfef 6 (some .int) 1 0 [.ref (gAV g i), .int x, .int 0, .int (nI (sB i).length)] κ μ ω κ μ ω (some (.int (-1))) := by
  have h9 := sB_lt i hi
  refine zM_of (by decide) (Nat.le_of_ble_eq_true rfl) (fun p e R s m args below meth c hX => ?_)
  show zZ p l e R s m args below meth c g 6 _ _ _ _ 0 0 [(0, .ref (gAV g i)), (1, .int x), (2, .int 0), (3, .int (nI (sB i).length))] []
  refine z_iload_n hX dJ1_indexOfChar_4cfef_0 1 rfl ?_
  refine z_i2b hX dJ1_indexOfChar_4cfef_1 ?_
  refine z_istore (lv' := [(4, _), (0, _), (1, _), (2, _), (3, _)]) hX dJ1_indexOfChar_4cfef_2 (by decide) rfl ?_
  refine z_iload_n hX dJ1_indexOfChar_4cfef_4 3 rfl ?_
  refine z_istore (lv' := [(5, _), (4, _), (0, _), (1, _), (2, _), (3, _)]) hX dJ1_indexOfChar_4cfef_5 (by decide) rfl ?_
  have hL : ∀ (dz : Nat) (k : Nat), (sB i).length - k = dz → k ≤ (sB i).length → zZ p l e R s m args below meth c g 6 (zQ g κ μ ω (some (.int (-1))) below args s 0) κ μ ω 0 7 [(0, .ref (gAV g i)), (1, .int x), (2, .int 0), (3, .int (nI (sB i).length)), (4, .int x.toInt8.toInt32), (5, .int (nI k))] [] := by
    intro dz
    induction dz with
    | zero =>
      intro k hd hk
      have hkn : k = (sB i).length := by omega
      refine z_iload hX dJ1_indexOfChar_4cfef_7 5 rfl ?_
      refine z_iload_n hX dJ1_indexOfChar_4cfef_9 3 rfl ?_
      refine z_icmp_ge (tgt := 31) hX dJ1_indexOfChar_4cfef_10 (by decide) (fun h10 => ?_) (fun h10 => absurd h10 (Classical.not_not.mpr (le_i (by omega) (by omega))))
      refine z_iconst (v := -1) hX dJ1_indexOfChar_4cfef_31 (by decide) ?_
      exact z_iretI hX dJ1_indexOfChar_4cfef_32 (by decide) rfl (fun _ h => h)
    | succ dz ih =>
      intro k hd hk
      have hkn : k < (sB i).length := by omega
      refine z_iload hX dJ1_indexOfChar_4cfef_7 5 rfl ?_
      refine z_iload_n hX dJ1_indexOfChar_4cfef_9 3 rfl ?_
      refine z_icmp_ge (tgt := 31) hX dJ1_indexOfChar_4cfef_10 (by decide) (fun h10 => absurd h10 (nle_i hkn (by omega))) (fun h10 => ?_)
      refine z_aload_n hX dJ1_indexOfChar_4cfef_13 0 rfl ?_
      refine z_iload hX dJ1_indexOfChar_4cfef_14 5 rfl ?_
      refine zk_bald hX hi rfl hkn dJ1_indexOfChar_4cfef_16 ?_
      refine z_iload hX dJ1_indexOfChar_4cfef_17 4 rfl ?_
      refine z_icmp_ne (tgt := 25) hX dJ1_indexOfChar_4cfef_19 (by decide) (fun h19 => ?_) (fun h19 => absurd h19 (hne k hkn))
      refine z_iinc (v := nI (k + 1)) (lv' := [(5, _), (0, _), (1, _), (2, _), (3, _), (4, _)]) hX dJ1_indexOfChar_4cfef_25 5 rfl (nI_1 k) (by decide) rfl ?_
      refine z_goto (tgt := 7) hX dJ1_indexOfChar_4cfef_28 (by decide) ?_
      refine z_sub [1, 2, 3, 4, 5, 0] rfl ?_
      exact ih (k + 1) (by omega) hkn
  refine z_sub [2, 3, 4, 5, 1, 0] rfl ?_
  exact hL (sB i).length 0 (Nat.sub_zero _) (Nat.zero_le _)
set_option maxHeartbeats 4000000 in
set_option maxRecDepth 100000 in
theorem ok_indexOfChar (l : Launch) {g : zG} {κ : zKp} {μ : zMu} {ω : zOm} {i : Nat} (hi : i < 45) {q : Nat} (hq : q < (sB i).length) {x : Int32} (hyes : sBa i q = x.toInt8.toInt32) (hne : ∀ j, j < q → ¬ sBa i j = x.toInt8.toInt32) : zM l g yJ1_indexOfChar_4cfef cJ1_indexOfChar_4cfef 6 (some .int) 1 0 [.ref (gAV g i), .int x, .int 0, .int (nI (sB i).length)] κ μ ω κ μ ω (some (.int (nI q))) := by
  have h9 := sB_lt i hi
  refine zM_of (by decide) (Nat.le_of_ble_eq_true rfl) (fun p e R s m args below meth c hX => ?_)
  show zZ p l e R s m args below meth c g 6 _ _ _ _ 0 0 [(0, .ref (gAV g i)), (1, .int x), (2, .int 0), (3, .int (nI (sB i).length))] []
  refine z_iload_n hX dJ1_indexOfChar_4cfef_0 1 rfl ?_
  refine z_i2b hX dJ1_indexOfChar_4cfef_1 ?_
  refine z_istore (lv' := [(4, _), (0, _), (1, _), (2, _), (3, _)]) hX dJ1_indexOfChar_4cfef_2 (by decide) rfl ?_
  refine z_iload_n hX dJ1_indexOfChar_4cfef_4 3 rfl ?_
  refine z_istore (lv' := [(5, _), (4, _), (0, _), (1, _), (2, _), (3, _)]) hX dJ1_indexOfChar_4cfef_5 (by decide) rfl ?_
  have hL : ∀ (dz : Nat) (k : Nat), q - k = dz → k ≤ q → zZ p l e R s m args below meth c g 6 (zQ g κ μ ω (some (.int (nI q))) below args s 0) κ μ ω 0 7 [(0, .ref (gAV g i)), (1, .int x), (2, .int 0), (3, .int (nI (sB i).length)), (4, .int x.toInt8.toInt32), (5, .int (nI k))] [] := by
    intro dz
    induction dz with
    | zero =>
      intro k hd hk
      have hkn : k = q := by omega
      refine z_iload hX dJ1_indexOfChar_4cfef_7 5 rfl ?_
      refine z_iload_n hX dJ1_indexOfChar_4cfef_9 3 rfl ?_
      refine z_icmp_ge (tgt := 31) hX dJ1_indexOfChar_4cfef_10 (by decide) (fun h10 => absurd h10 (nle_i (by omega) (by omega))) (fun h10 => ?_)
      refine z_aload_n hX dJ1_indexOfChar_4cfef_13 0 rfl ?_
      refine z_iload hX dJ1_indexOfChar_4cfef_14 5 rfl ?_
      refine zk_bald hX hi rfl (by omega) dJ1_indexOfChar_4cfef_16 ?_
      refine z_iload hX dJ1_indexOfChar_4cfef_17 4 rfl ?_
      refine z_icmp_ne (tgt := 25) hX dJ1_indexOfChar_4cfef_19 (by decide) (fun h19 => absurd h19 (Classical.not_not.mpr (by rw [hkn]; exact hyes))) (fun h19 => ?_)
      refine z_iload hX dJ1_indexOfChar_4cfef_22 5 rfl ?_
      exact z_iretI hX dJ1_indexOfChar_4cfef_24 (by decide) (by rw [hkn]) (fun _ h => h)
    | succ dz ih =>
      intro k hd hk
      have hkn : k < q := by omega
      refine z_iload hX dJ1_indexOfChar_4cfef_7 5 rfl ?_
      refine z_iload_n hX dJ1_indexOfChar_4cfef_9 3 rfl ?_
      refine z_icmp_ge (tgt := 31) hX dJ1_indexOfChar_4cfef_10 (by decide) (fun h10 => absurd h10 (nle_i (by omega) (by omega))) (fun h10 => ?_)
      refine z_aload_n hX dJ1_indexOfChar_4cfef_13 0 rfl ?_
      refine z_iload hX dJ1_indexOfChar_4cfef_14 5 rfl ?_
      refine zk_bald hX hi rfl (by omega) dJ1_indexOfChar_4cfef_16 ?_
      refine z_iload hX dJ1_indexOfChar_4cfef_17 4 rfl ?_
      refine z_icmp_ne (tgt := 25) hX dJ1_indexOfChar_4cfef_19 (by decide) (fun h19 => ?_) (fun h19 => absurd h19 (hne k hkn))
      refine z_iinc (v := nI (k + 1)) (lv' := [(5, _), (0, _), (1, _), (2, _), (3, _), (4, _)]) hX dJ1_indexOfChar_4cfef_25 5 rfl (nI_1 k) (by decide) rfl ?_
      refine z_goto (tgt := 7) hX dJ1_indexOfChar_4cfef_28 (by decide) ?_
      refine z_sub [1, 2, 3, 4, 5, 0] rfl ?_
      exact ih (k + 1) (by omega) hkn
  refine z_sub [2, 3, 4, 5, 1, 0] rfl ?_
  exact hL q 0 (Nat.sub_zero _) (Nat.zero_le _)
theorem no_i2b {i : Nat} {x : Int32} (hi : i < 45) (hce : 0 ≤ x ∧ x ≤ 255) (hne : ∀ j, j < (sB i).length → ¬ sBa i j = x) : ∀ j, j < (sB i).length → ¬ sBa i j = x.toInt8.toInt32 := by
  intro j hj hb
  obtain ⟨b, hb1, hb2⟩ := sB_b hi hj
  obtain ⟨n, hn, rfl⟩ := nI_of (Int32.not_lt.mpr hce.1)
  have h256 : n < 256 := by
    rcases Nat.lt_or_ge n 256 with w | w
    · exact w
    · exact absurd hce.2 (nI_ge (a := 255) (b := n) (by omega) hn)
  rcases Nat.lt_or_ge n 128 with w | w
  · exact hne j hj (hb.trans (i2b_lo n w))
  · exact absurd (by rw [← hb2, hb]; exact i2b_hi n h256 w) (nn_i (i := b) (by omega))
set_option maxHeartbeats 4000000 in
set_option maxRecDepth 100000 in
theorem no_indexOfL (l : Launch) {g : zG} {κ : zKp} {μ : zMu} {ω : zOm} {i : Nat} (hi : i < 45) {x : Int32} (hne : ∀ j, j < (sB i).length → ¬ sBa i j = x) : zM l g yJ1_indexOf_4cfef cJ1_indexOf_4cfef 4 (some .int) 2 0 [.ref (gAV g i), .int x, .int 0, .int (nI (sB i).length)] κ μ ω κ μ ω (some (.int (-1))) := by
  have h9 := sB_lt i hi
  refine zM_of (by decide) (Nat.le_of_ble_eq_true rfl) (fun p e R s m args below meth c hX => ?_)
  show zZ p l e R s m args below meth c g 4 _ _ _ _ 0 0 [(0, .ref (gAV g i)), (1, .int x), (2, .int 0), (3, .int (nI (sB i).length))] []
  refine z_iload_n hX dJ1_indexOf_4cfef_0 1 rfl ?_
  by_cases hce : 0 ≤ x ∧ x ≤ 255
  · skip
    refine z_callS1 hX (ok_J1_canEncode_9a6ad l hce.1 hce.2) cs_RJ1_88 dJ1_indexOf_4cfef_1 (by decide) rfl rfl (Nat.le_of_ble_eq_true rfl) ?_
    refine z_if_ne (tgt := 9) hX dJ1_indexOf_4cfef_4 (by decide) (fun h4 => ?_) (fun h4 => absurd h4 (by decide))
    refine z_iload_n hX dJ1_indexOf_4cfef_9 2 rfl ?_
    refine z_iconst (v := 0) hX dJ1_indexOf_4cfef_10 (by decide) ?_
    refine z_max hX ml_RJ1_92 dJ1_indexOf_4cfef_11 (by decide) (Nat.le_of_ble_eq_true rfl) ?_
    refine z_isv (show (if (0 : Int32) < 0 then (0 : Int32) else 0) = 0 from rfl) ?_
    refine z_istore_n (lv' := [(2, _), (0, _), (1, _), (3, _)]) hX dJ1_indexOf_4cfef_14 (by decide) rfl ?_
    refine z_iload_n hX dJ1_indexOf_4cfef_15 3 rfl ?_
    refine z_aload_n hX dJ1_indexOf_4cfef_16 1 rfl ?_
    refine zk_len hX hi dJ1_indexOf_4cfef_17 ?_
    refine z_min hX ml_RJ1_38 dJ1_indexOf_4cfef_18 (by decide) (Nat.le_of_ble_eq_true rfl) ?_
    refine z_isv (show (if nI (sB i).length < nI (sB i).length then nI (sB i).length else nI (sB i).length) = nI (sB i).length from ite_self _) ?_
    refine z_istore_n (lv' := [(3, _), (2, _), (0, _), (1, _)]) hX dJ1_indexOf_4cfef_21 (by decide) rfl ?_
    refine z_iload_n hX dJ1_indexOf_4cfef_22 1 rfl ?_
    refine z_iload_n hX dJ1_indexOf_4cfef_23 0 rfl ?_
    refine z_icmp_lt (tgt := 29) hX dJ1_indexOf_4cfef_24 (by decide) (fun h24 => ?_) (fun h24 => ?_)
    · skip
      refine z_aload_n hX dJ1_indexOf_4cfef_29 2 rfl ?_
      refine z_iload_n hX dJ1_indexOf_4cfef_30 3 rfl ?_
      refine z_iload_n hX dJ1_indexOf_4cfef_31 1 rfl ?_
      refine z_iload_n hX dJ1_indexOf_4cfef_32 0 rfl ?_
      refine z_callS1 hX (no_indexOfChar l hi (no_i2b hi hce hne)) cs_RJ1_95 dJ1_indexOf_4cfef_33 (by decide) rfl rfl (Nat.le_of_ble_eq_true rfl) ?_
      exact z_iretI hX dJ1_indexOf_4cfef_36 (by decide) rfl (fun _ h => h)
    · skip
      refine z_iconst (v := -1) hX dJ1_indexOf_4cfef_27 (by decide) ?_
      exact z_iretI hX dJ1_indexOf_4cfef_28 (by decide) rfl (fun _ h => h)
  · skip
    refine z_callS1 hX (no_canEncode l hce) cs_RJ1_88 dJ1_indexOf_4cfef_1 (by decide) rfl rfl (Nat.le_of_ble_eq_true rfl) ?_
    refine z_if_ne (tgt := 9) hX dJ1_indexOf_4cfef_4 (by decide) (fun h4 => absurd h4 (by decide)) (fun h4 => ?_)
    refine z_iconst (v := -1) hX dJ1_indexOf_4cfef_7 (by decide) ?_
    exact z_iretI hX dJ1_indexOf_4cfef_8 (by decide) rfl (fun _ h => h)
set_option maxHeartbeats 4000000 in
set_option maxRecDepth 100000 in
theorem ok_indexOfL (l : Launch) {g : zG} {κ : zKp} {μ : zMu} {ω : zOm} {i : Nat} (hi : i < 45) {q : Nat} (hq : q < (sB i).length) (hne : ∀ j, j < q → ¬ sBa i j = sBa i q) : zM l g yJ1_indexOf_4cfef cJ1_indexOf_4cfef 4 (some .int) 2 0 [.ref (gAV g i), .int (sBa i q), .int 0, .int (nI (sB i).length)] κ μ ω κ μ ω (some (.int (nI q))) := by
  have h9 := sB_lt i hi
  obtain ⟨b0, hb0, hb1⟩ := sB_b hi hq
  have hb2 : (sBa i q).toInt8.toInt32 = sBa i q := by rw [hb1]; exact i2b_lo b0 hb0
  have hb3 : 0 ≤ sBa i q := by rw [hb1]; exact ge_i (by omega)
  have hb4 : sBa i q ≤ 255 := by rw [hb1]; exact le_i (b := 255) (by omega) (by decide)
  refine zM_of (by decide) (Nat.le_of_ble_eq_true rfl) (fun p e R s m args below meth c hX => ?_)
  show zZ p l e R s m args below meth c g 4 _ _ _ _ 0 0 [(0, .ref (gAV g i)), (1, .int (sBa i q)), (2, .int 0), (3, .int (nI (sB i).length))] []
  refine z_iload_n hX dJ1_indexOf_4cfef_0 1 rfl ?_
  refine z_callS1 hX (ok_J1_canEncode_9a6ad l hb3 hb4) cs_RJ1_88 dJ1_indexOf_4cfef_1 (by decide) rfl rfl (Nat.le_of_ble_eq_true rfl) ?_
  refine z_if_ne (tgt := 9) hX dJ1_indexOf_4cfef_4 (by decide) (fun h4 => ?_) (fun h4 => absurd h4 (by decide))
  refine z_iload_n hX dJ1_indexOf_4cfef_9 2 rfl ?_
  refine z_iconst (v := 0) hX dJ1_indexOf_4cfef_10 (by decide) ?_
  refine z_max hX ml_RJ1_92 dJ1_indexOf_4cfef_11 (by decide) (Nat.le_of_ble_eq_true rfl) ?_
  refine z_isv (show (if (0 : Int32) < 0 then (0 : Int32) else 0) = 0 from rfl) ?_
  refine z_istore_n (lv' := [(2, _), (0, _), (1, _), (3, _)]) hX dJ1_indexOf_4cfef_14 (by decide) rfl ?_
  refine z_iload_n hX dJ1_indexOf_4cfef_15 3 rfl ?_
  refine z_aload_n hX dJ1_indexOf_4cfef_16 1 rfl ?_
  refine zk_len hX hi dJ1_indexOf_4cfef_17 ?_
  refine z_min hX ml_RJ1_38 dJ1_indexOf_4cfef_18 (by decide) (Nat.le_of_ble_eq_true rfl) ?_
  refine z_isv (show (if nI (sB i).length < nI (sB i).length then nI (sB i).length else nI (sB i).length) = nI (sB i).length from ite_self _) ?_
  refine z_istore_n (lv' := [(3, _), (2, _), (0, _), (1, _)]) hX dJ1_indexOf_4cfef_21 (by decide) rfl ?_
  refine z_iload_n hX dJ1_indexOf_4cfef_22 1 rfl ?_
  refine z_iload_n hX dJ1_indexOf_4cfef_23 0 rfl ?_
  refine z_icmp_lt (tgt := 29) hX dJ1_indexOf_4cfef_24 (by decide) (fun h24 => ?_) (fun h24 => absurd h24 (Classical.not_not.mpr (lt_i (a := 0) (by omega) (by omega))))
  refine z_aload_n hX dJ1_indexOf_4cfef_29 2 rfl ?_
  refine z_iload_n hX dJ1_indexOf_4cfef_30 3 rfl ?_
  refine z_iload_n hX dJ1_indexOf_4cfef_31 1 rfl ?_
  refine z_iload_n hX dJ1_indexOf_4cfef_32 0 rfl ?_
  refine z_callS1 hX (ok_indexOfChar l hi hq hb2.symm (by rw [hb2]; exact hne)) cs_RJ1_95 dJ1_indexOf_4cfef_33 (by decide) rfl rfl (Nat.le_of_ble_eq_true rfl) ?_
  exact z_iretI hX dJ1_indexOf_4cfef_36 (by decide) rfl (fun _ h => h)
set_option maxHeartbeats 4000000 in
set_option maxRecDepth 100000 in
theorem no_indexOf2 (l : Launch) {g : zG} {κ : zKp} {μ : zMu} {ω : zOm} {i : Nat} (hi : i < 45) {x : Int32} (hne : ∀ j, j < (sB i).length → ¬ sBa i j = x) : zM l g yJ0_indexOf_7cf53 cJ0_indexOf_7cf53 3 (some .int) 3 0 [.ref (gAK g i), .int x, .int 0] κ μ ω κ μ ω (some (.int (-1))) := by
  refine zM_of (by decide) (Nat.le_of_ble_eq_true rfl) (fun p e R s m args below meth c hX => ?_)
  show zZ p l e R s m args below meth c g 3 _ _ _ _ 0 0 [(0, .ref (gAK g i)), (1, .int x), (2, .int 0)] []
  refine z_aload_n hX dJ0_indexOf_7cf53_0 0 rfl ?_
  refine zk_callV1 hX hi rfl (ok_J0_isLatin1_aae02 l hi) cv_RJ0_492 dJ0_indexOf_7cf53_1 (by decide) rfl rfl (Nat.le_of_ble_eq_true rfl) ?_
  refine z_if_eq (tgt := 23) hX dJ0_indexOf_7cf53_4 (by decide) (fun h4 => absurd h4 (by decide)) (fun h4 => ?_)
  refine z_aload_n hX dJ0_indexOf_7cf53_7 0 rfl ?_
  refine zk_value hX hi fl_RJ0_9 dJ0_indexOf_7cf53_8 ?_
  refine z_iload_n hX dJ0_indexOf_7cf53_11 1 rfl ?_
  refine z_iload_n hX dJ0_indexOf_7cf53_12 2 rfl ?_
  refine z_aload_n hX dJ0_indexOf_7cf53_13 0 rfl ?_
  refine zk_callV1 hX hi rfl (ok_J0_length_8abf5 l hi) cv_RJ0_505 dJ0_indexOf_7cf53_14 (by decide) rfl rfl (Nat.le_of_ble_eq_true rfl) ?_
  refine z_callS1 hX (no_indexOfL l hi hne) cs_RJ0_637 dJ0_indexOf_7cf53_17 (by decide) rfl rfl (Nat.le_of_ble_eq_true rfl) ?_
  refine z_goto (tgt := 36) hX dJ0_indexOf_7cf53_20 (by decide) ?_
  exact z_iretI hX dJ0_indexOf_7cf53_36 (by decide) rfl (fun _ h => h)
set_option maxHeartbeats 4000000 in
set_option maxRecDepth 100000 in
theorem ok_indexOf2 (l : Launch) {g : zG} {κ : zKp} {μ : zMu} {ω : zOm} {i : Nat} (hi : i < 45) {q : Nat} (hq : q < (sB i).length) (hne : ∀ j, j < q → ¬ sBa i j = sBa i q) : zM l g yJ0_indexOf_7cf53 cJ0_indexOf_7cf53 3 (some .int) 3 0 [.ref (gAK g i), .int (sBa i q), .int 0] κ μ ω κ μ ω (some (.int (nI q))) := by
  refine zM_of (by decide) (Nat.le_of_ble_eq_true rfl) (fun p e R s m args below meth c hX => ?_)
  show zZ p l e R s m args below meth c g 3 _ _ _ _ 0 0 [(0, .ref (gAK g i)), (1, .int (sBa i q)), (2, .int 0)] []
  refine z_aload_n hX dJ0_indexOf_7cf53_0 0 rfl ?_
  refine zk_callV1 hX hi rfl (ok_J0_isLatin1_aae02 l hi) cv_RJ0_492 dJ0_indexOf_7cf53_1 (by decide) rfl rfl (Nat.le_of_ble_eq_true rfl) ?_
  refine z_if_eq (tgt := 23) hX dJ0_indexOf_7cf53_4 (by decide) (fun h4 => absurd h4 (by decide)) (fun h4 => ?_)
  refine z_aload_n hX dJ0_indexOf_7cf53_7 0 rfl ?_
  refine zk_value hX hi fl_RJ0_9 dJ0_indexOf_7cf53_8 ?_
  refine z_iload_n hX dJ0_indexOf_7cf53_11 1 rfl ?_
  refine z_iload_n hX dJ0_indexOf_7cf53_12 2 rfl ?_
  refine z_aload_n hX dJ0_indexOf_7cf53_13 0 rfl ?_
  refine zk_callV1 hX hi rfl (ok_J0_length_8abf5 l hi) cv_RJ0_505 dJ0_indexOf_7cf53_14 (by decide) rfl rfl (Nat.le_of_ble_eq_true rfl) ?_
  refine z_callS1 hX (ok_indexOfL l hi hq hne) cs_RJ0_637 dJ0_indexOf_7cf53_17 (by decide) rfl rfl (Nat.le_of_ble_eq_true rfl) ?_
  refine z_goto (tgt := 36) hX dJ0_indexOf_7cf53_20 (by decide) ?_
  exact z_iretI hX dJ0_indexOf_7cf53_36 (by decide) rfl (fun _ h => h)
set_option maxHeartbeats 4000000 in
set_option maxRecDepth 100000 in
theorem no_indexOf (l : Launch) {g : zG} {κ : zKp} {μ : zMu} {ω : zOm} {i : Nat} (hi : i < 45) {x : Int32} (hne : ∀ j, j < (sB i).length → ¬ sBa i j = x) : zM l g yJ0_indexOf_0f7a4 cJ0_indexOf_0f7a4 2 (some .int) 4 0 [.ref (gAK g i), .int x] κ μ ω κ μ ω (some (.int (-1))) := by
  refine zM_of (by decide) (Nat.le_of_ble_eq_true rfl) (fun p e R s m args below meth c hX => ?_)
  show zZ p l e R s m args below meth c g 2 _ _ _ _ 0 0 [(0, .ref (gAK g i)), (1, .int x)] []
  refine z_aload_n hX dJ0_indexOf_0f7a4_0 0 rfl ?_
  refine z_iload_n hX dJ0_indexOf_0f7a4_1 1 rfl ?_
  refine z_iconst (v := 0) hX dJ0_indexOf_0f7a4_2 (by decide) ?_
  refine zk_callV1 hX hi rfl (no_indexOf2 l hi hne) cv_RJ0_633 dJ0_indexOf_0f7a4_3 (by decide) rfl rfl (Nat.le_of_ble_eq_true rfl) ?_
  exact z_iretI hX dJ0_indexOf_0f7a4_6 (by decide) rfl (fun _ h => h)
set_option maxHeartbeats 4000000 in
set_option maxRecDepth 100000 in
theorem ok_indexOf (l : Launch) {g : zG} {κ : zKp} {μ : zMu} {ω : zOm} {i : Nat} (hi : i < 45) {q : Nat} (hq : q < (sB i).length) (hne : ∀ j, j < q → ¬ sBa i j = sBa i q) : zM l g yJ0_indexOf_0f7a4 cJ0_indexOf_0f7a4 2 (some .int) 4 0 [.ref (gAK g i), .int (sBa i q)] κ μ ω κ μ ω (some (.int (nI q))) := by
  refine zM_of (by decide) (Nat.le_of_ble_eq_true rfl) (fun p e R s m args below meth c hX => ?_)
  show zZ p l e R s m args below meth c g 2 _ _ _ _ 0 0 [(0, .ref (gAK g i)), (1, .int (sBa i q))] []
  refine z_aload_n hX dJ0_indexOf_0f7a4_0 0 rfl ?_
  refine z_iload_n hX dJ0_indexOf_0f7a4_1 1 rfl ?_
  refine z_iconst (v := 0) hX dJ0_indexOf_0f7a4_2 (by decide) ?_
  refine zk_callV1 hX hi rfl (ok_indexOf2 l hi hq hne) cv_RJ0_633 dJ0_indexOf_0f7a4_3 (by decide) rfl rfl (Nat.le_of_ble_eq_true rfl) ?_
  exact z_iretI hX dJ0_indexOf_0f7a4_6 (by decide) rfl (fun _ h => h)
end ZJC
