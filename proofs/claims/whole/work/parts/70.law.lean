section ZLW
theorem cmp_l {r : Option Ordering} (h : FP.cmpInt (-1) r = 0) : Op.cmpValue r .l = 0 := by
  cases r with
  | none => exact absurd h (by decide)
  | some o => cases o with
    | lt => exact absurd h (by decide)
    | eq => rfl
    | gt => exact absurd h (by decide)
theorem ok_X5_thrown (l : Launch) {g : zG} {κ : zKp} {μ : zMu} {ω : zOm} : zM l g yX5_thrown cX5_thrown 1 (some .int) 1 0 [.ref (gA g 10 0 0)] κ μ ω κ μ ω (some (.int (μ 0 2))) := by
  refine zM_of (by decide) (Nat.le_of_ble_eq_true rfl) (fun p e R s m args below meth c hX => ?_)
  show zZ p l e R s m args below meth c g 1 _ _ _ _ 0 0 [(0, .ref (gA g 10 0 0))] []
  refine z_world (μ' := zN μ (μ 0) (μ 1)) (fun _ h => by rw [zN_self]; exact h) ?_
  refine z_aload_n hX dX5_thrown_0 0 rfl ?_
  refine zg_X5_thrown hX fl_RX5_42 dX5_thrown_1 ?_
  exact z_iretI hX dX5_thrown_4 (by decide) rfl (fun _ h => by rw [zN_self] at h; exact h)
/-- the two answers that are doubles -/
def SimD (l : Launch) (g : zG) (κ : zKp) (μ : zMu) (ω : zOm) : Prop :=
  ∃ (μ' : zMu) (ω' : zOm) (kc : Int32) (b : UInt64) (lv : Nat), lv ≤ 19 ∧ RR κ μ' ∧ zMW l g yL_meanMorale cL_meanMorale 3 hh_meanMorale 20 1 [.ref (gA g 0 0 0), .ref (gA g 20 0 0)] κ μ ω κ μ ω' kc ∧ zM l g yX5_meanMorale cX5_meanMorale 4 (some .double) lv 0 [.ref (gA g 10 0 0)] κ μ ω' κ μ' ω' (some (.double b)) ∧ μ' 0 2 = kc ∧ (kc = 0 → Op.cmpValue (FP.dcmp ω'.2 b) .l = 0)
theorem sd_meanMorale (l : Launch) (hl0 : l.stackTraces = false) {g : zG} {κ : zKp} {μ : zMu} {ω : zOm} (h : RR κ μ) : SimD l g κ μ ω := by
  by_cases h0 : aliB (μ 1) = 0
  · have c := no_X4_meanMorale l hl0 (g := g) (κ := κ) (μ := μ) (ω := ω) (gb := μ 1) (cb := cellsOf (μ 1)) h.bI h0
    rw [h.eqF] at c
    have c3 := no_X5_meanMorale l (g := g) (κ := κ) (μ := μ) (ω := ω) (a := μ 0) (b := μ 1) h.bI h0
    rw [zN_self] at c3
    exact ⟨_, _, _, _, _, by decide, h.thr 1, he_meanMorale_ARE l (by decide) c, c3, rfl, fun q => absurd q (by decide)⟩
  · have c := ok_X4_meanMorale l (g := g) (κ := κ) (μ := μ) (ω := ω) (gb := μ 1) (cb := cellsOf (μ 1)) h.bI h0
    rw [h.eqF] at c
    have c2 := hk_meanMorale l (by decide) c
    have c3 := ok_X5_meanMorale l (g := g) (κ := κ) (μ := μ) (ω := (ω.1, FP.ddiv (FP.i2d (morB (μ 1))) (FP.i2d (aliB (μ 1))))) (a := μ 0) (b := μ 1) h.bI h0
    rw [zN_self] at c3
    obtain ⟨a0, ha0, ea⟩ := mor_of h.bI
    obtain ⟨b0, hb0, eb⟩ := ali_of h.bI
    exact ⟨_, _, _, _, _, by decide, h.thr 0, c2, c3, rfl, fun _ => cmp_l (by rw [ea, eb]; exact dd_cmp a0 (by omega) b0 (by omega) (ti_pos eb h0))⟩
def SimF (l : Launch) (g : zG) (κ : zKp) (μ : zMu) (ω : zOm) : Prop :=
  ∃ (μ' : zMu) (ω' : zOm) (kc : Int32) (b : UInt32) (lv : Nat), lv ≤ 19 ∧ RR κ μ' ∧ zMW l g yL_standingShare cL_standingShare 3 hh_standingShare 20 1 [.ref (gA g 0 0 0), .ref (gA g 20 0 0)] κ μ ω κ μ ω' kc ∧ zM l g yX5_standingShare cX5_standingShare 3 (some .float) lv 0 [.ref (gA g 10 0 0)] κ μ ω' κ μ' ω' (some (.float b)) ∧ μ' 0 2 = kc ∧ (kc = 0 → vf_n64 (FP.f2d b) ∧ Op.cmpValue (FP.dcmp ω'.2 (FP.f2d b)) .l = 0)
theorem sd_standingShare (l : Launch) (hl0 : l.stackTraces = false) {g : zG} {κ : zKp} {μ : zMu} {ω : zOm} (h : RR κ μ) : SimF l g κ μ ω := by
  by_cases h0 : μ 1 0 = 0
  · have c := no_X4_standingShare l hl0 (g := g) (κ := κ) (μ := μ) (ω := ω) (gb := μ 1) (cb := cellsOf (μ 1)) h.bI h0
    rw [h.eqF] at c
    have c3 := no_X5_standingShare l (g := g) (κ := κ) (μ := μ) (ω := ω) (a := μ 0) (b := μ 1) h.bI h0
    rw [zN_self] at c3
    exact ⟨_, _, _, _, _, by decide, h.thr 1, he_standingShare_ARE l (by decide) c, c3, rfl, fun q => absurd q (by decide)⟩
  · have c := ok_X4_standingShare l (g := g) (κ := κ) (μ := μ) (ω := ω) (gb := μ 1) (cb := cellsOf (μ 1)) h.bI h0
    rw [h.eqF] at c
    obtain ⟨a0, ha0, ea⟩ := sta_of h.bI
    have h12 := h.n.1
    have hne : vf_n64 (FP.f2d (FP.fdiv (FP.i2f (staB (μ 1))) (FP.i2f (μ 1 0)))) := by
      rw [ea, h.n.2]
      exact fd_nan a0 (by omega) (bn (μ 1)) (by omega) (ti_pos h.n.2 h0)
    have c2 := hk_standingShare l hne (by decide) c
    have c3 := ok_X5_standingShare l (g := g) (κ := κ) (μ := μ) (ω := (ω.1, FP.f2d (FP.fdiv (FP.i2f (staB (μ 1))) (FP.i2f (μ 1 0))))) (a := μ 0) (b := μ 1) h.bI h0
    rw [zN_self] at c3
    exact ⟨_, _, _, _, _, by decide, h.thr 0, c2, c3, rfl, fun _ => ⟨hne, cmp_l (by rw [ea, h.n.2]; exact fd_cmp a0 (by omega) (bn (μ 1)) (by omega) (ti_pos h.n.2 h0))⟩⟩
section
variable {p : Program} {l : Launch} {e : Env} {R : Room} {s : State} {m : MethodId} {args : Array Value} {below : List Frame} {meth : Method} {c : Code} {Q : State → Prop} {g : zG} {own : String} {cc : ByteArray} {n lvl mc : Nat} {ret : Option FieldType} {κ κ' : zKp} {μ μ' : zMu} {ω ω' : zOm} {k pc : Nat} {lv lv' : List (Nat × Value)} {st : List Value} {b L : Nat} {xs : Nat → Int32}
/-- the script: its cells stay -/
def scX (s : State) (g : zG) (b L : Nat) (xs : Nat → Int32) : Prop := va_X b L xs s s.heap ∧ b < s.heap.size ∧ b < gS g ∧ L ≤ 2560
theorem z_sld (hX : zX p l s m args meth c R g own cc n ret lvl mc) (hx : scX s g b L xs) {q : Nat} (hq : q < L) (d : decode cc pc = .ok (.iaload, 1)) (kk : zZ p l e R s m args below meth c g n Q κ μ ω k (pc + 1) lv (.int (xs q) :: st)) : zZ p l e R s m args below meth c g n Q κ μ ω k pc lv (.int (nI q) :: .ref b :: st) := fun H ls locs hl hS hW => by
  have hL := hx.2.2.2
  refine va_sld hX.1 hX.2.1 hx.1 hx.2.1 (fun h => absurd h (Nat.not_le.mpr hx.2.2.1)) hS (vp_in_nI hq (by omega)) d ?_
  rw [nI_clamp (by omega)]
  exact kk H ls locs hl hS hW
theorem z_slen (hX : zX p l s m args meth c R g own cc n ret lvl mc) (hx : scX s g b L xs) (d : decode cc pc = .ok (.arraylength, 1)) (kk : zZ p l e R s m args below meth c g n Q κ μ ω k (pc + 1) lv (.int (nI L) :: st)) : zZ p l e R s m args below meth c g n Q κ μ ω k pc lv (.ref b :: st) := fun H ls locs hl hS hW => va_slen hX.1 hX.2.1 hx.1 hx.2.1 (fun h => absurd h (Nat.not_le.mpr hx.2.2.1)) hS d (kk H ls locs hl hS hW)
theorem gW_W {own : String} {idx nY nA : Nat} {y : MethodName} {cY : ByteArray} {hh : List (Nat × Nat × Nat × Nat)} (h1 : Cond.methodLink own idx y ∈ gW) (h2 : Cond.static y ∈ gW) (h4 : Cond.initialized y.cls ∈ gW) (h5 : Cond.codeWith y cY nY (some .int) hh ∈ gW) (h6 : y.cls ≠ "java/lang/invoke/MethodHandle" ∧ y.cls ≠ "java/lang/invoke/VarHandle" ∧ (parseMethodDescriptor y.desc).map (fun d => d.parameters.length) = some nA) : GoodIn gW (va_wsS own idx y (.codeWith y cY nY (some .int) hh :: gW)) ∧ y.cls ≠ "java/lang/invoke/MethodHandle" ∧ y.cls ≠ "java/lang/invoke/VarHandle" ∧ (parseMethodDescriptor y.desc).map (fun d => d.parameters.length) = some nA := ⟨gW_S h1 h2 h4 h5, h6⟩
end
abbrev lvL (g : zG) (b n : Nat) : List (Nat × Value) := [(0, .ref b), (1, .ref (gA g 0 0 0)), (2, .ref (gA g 10 0 0)), (3, .ref (gA g 19 0 0)), (4, .ref (gA g 20 0 0)), (5, .int (nI n))]
set_option maxRecDepth 100000 in
theorem bk_0 {p : Program} {l : Launch} {e : Env} {R : Room} {s : State} {m : MethodId} {args : Array Value} {below : List Frame} {meth : Method} {c : Code} {Q : State → Prop} {g : zG} {ret : Option FieldType} {mc : Nat} {κ : zKp} {μ : zMu} {ω : zOm} {k b L n : Nat} {xs : Nat → Int32} (hX : zX p l s m args meth c R g RL cL_law 9 ret 21 mc) (hl0 : l.stackTraces = false) (hx : scX s g b L xs) (h : RR κ μ) (hn : n + 5 ≤ L) (hk : k + 1 ≤ mc) (kk : ∀ κ' μ' ω', RR κ' μ' → zZ p l e R s m args below meth c g 9 Q κ' μ' ω' (k + 1) 2469 (lvL g b n) []) : zZ p l e R s m args below meth c g 9 Q κ μ ω k 236 (lvL g b n) [] := by
  obtain ⟨κ', μ', ω', kc, bb, lv, hlv, hR, hW, hM, h2, hv⟩ := sm_addLine l hl0 (g := g) (ω := ω) h ((xs (n + 1))) ((xs (n + 2))) ((((xs (n + 3))).toUInt32 % 65536).toInt32) ((xs (n + 4)))
  refine z_aload_n hX dL_law_236 1 rfl ?_
  refine z_aload_n hX dL_law_237 0 rfl ?_
  refine z_iload hX dL_law_238 5 rfl ?_
  refine z_iconst (v := 1) hX dL_law_240 (by decide) ?_
  refine z_iadd hX dL_law_241 ?_
  refine z_isv (nI_add n 1) ?_
  refine z_sld hX hx (q := n + 1) (by omega) dL_law_242 ?_
  refine z_aload_n hX dL_law_243 0 rfl ?_
  refine z_iload hX dL_law_244 5 rfl ?_
  refine z_iconst (v := 2) hX dL_law_246 (by decide) ?_
  refine z_iadd hX dL_law_247 ?_
  refine z_isv (nI_add n 2) ?_
  refine z_sld hX hx (q := n + 2) (by omega) dL_law_248 ?_
  refine z_aload_n hX dL_law_249 0 rfl ?_
  refine z_iload hX dL_law_250 5 rfl ?_
  refine z_iconst (v := 3) hX dL_law_252 (by decide) ?_
  refine z_iadd hX dL_law_253 ?_
  refine z_isv (nI_add n 3) ?_
  refine z_sld hX hx (q := n + 3) (by omega) dL_law_254 ?_
  refine z_i2c hX dL_law_255 ?_
  refine z_aload_n hX dL_law_256 0 rfl ?_
  refine z_iload hX dL_law_257 5 rfl ?_
  refine z_iconst (v := 4) hX dL_law_259 (by decide) ?_
  refine z_iadd hX dL_law_260 ?_
  refine z_isv (nI_add n 4) ?_
  refine z_sld hX hx (q := n + 4) (by omega) dL_law_261 ?_
  refine z_aload_n hX dL_law_262 3 rfl ?_
  refine z_callW (nA := 6) hX hW (gW_W (gW_I 372 (by decide +kernel) rfl) (gW_I 373 (by decide +kernel) rfl) (gW_I 0 (by decide +kernel) rfl) wh_addLine ⟨by decide, by decide, by decide +kernel⟩) dL_law_263 ⟨by decide, by decide, by omega⟩ rfl rfl (Nat.le_of_ble_eq_true rfl) ?_
  refine z_istore (lv' := _) hX dL_law_266 (by decide) rfl ?_
  refine z_aload_n hX dL_law_268 3 rfl ?_
  refine z_aload_n hX dL_law_269 1 rfl ?_
  refine z_iload hX dL_law_270 6 rfl ?_
  refine z_iconst (v := 1) hX dL_law_272 (by decide) ?_
  refine z_iadd hX dL_law_273 ?_
  refine z_isv (nI_add n 1) ?_
  refine z_sld hX hx (q := n + 1) (by omega) dL_law_274 ?_
  refine z_aload_n hX dL_law_275 1 rfl ?_
  refine z_iload hX dL_law_276 6 rfl ?_
  refine z_iconst (v := 2) hX dL_law_278 (by decide) ?_
  refine z_iadd hX dL_law_279 ?_
  refine z_isv (nI_add n 2) ?_
  refine z_sld hX hx (q := n + 2) (by omega) dL_law_280 ?_
  refine z_aload_n hX dL_law_281 1 rfl ?_
  refine z_iload hX dL_law_282 6 rfl ?_
  refine z_iconst (v := 3) hX dL_law_284 (by decide) ?_
  refine z_iadd hX dL_law_285 ?_
  refine z_isv (nI_add n 3) ?_
  refine z_sld hX hx (q := n + 3) (by omega) dL_law_286 ?_
  refine z_i2c hX dL_law_287 ?_
  refine z_aload_n hX dL_law_288 1 rfl ?_
  refine z_iload hX dL_law_289 6 rfl ?_
  refine z_iconst (v := 4) hX dL_law_291 (by decide) ?_
  refine z_iadd hX dL_law_292 ?_
  refine z_isv (nI_add n 4) ?_
  refine z_sld hX hx (q := n + 4) (by omega) dL_law_293 ?_
  refine z_callV1 hX hM cv_RL_154 zRc10 dL_law_294 ⟨by omega, by decide, by omega⟩ rfl rfl (Nat.le_of_ble_eq_true rfl) ?_
  refine z_istore (lv' := _) hX dL_law_297 (by decide) rfl ?_
  refine z_aload_n hX dL_law_299 4 rfl ?_
  refine z_callV1 hX (ok_X5_thrown l) cv_RL_155 zRc10 dL_law_300 ⟨by decide, by decide, by omega⟩ rfl rfl (Nat.le_of_ble_eq_true rfl) ?_
  refine z_iload hX dL_law_303 1 rfl ?_
  refine z_icmp_eq (tgt := 310) hX dL_law_305 (by decide) (fun _ => ?_) (fun q => absurd h2 q)
  refine z_iload hX dL_law_310 1 rfl ?_
  refine z_if_ne (tgt := 327) hX dL_law_312 (by decide) (fun _ => ?_) (fun q0 => ?_)
  · skip
    refine z_goto (tgt := 2469) hX dL_law_327 (by decide) ?_
    refine z_sub [2, 3, 4, 5, 6, 7] rfl ?_
    exact z_widen (by omega) (kk _ _ _ hR)
  · skip
    refine z_aload_n hX dL_law_315 5 rfl ?_
    refine z_iconst (v := 0) hX dL_law_316 (by decide) ?_
    refine z_lald hX dL_law_317 ?_
    refine z_iload hX dL_law_318 0 rfl ?_
    refine z_i2l hX dL_law_320 ?_
    refine z_lcmp0 hX dL_law_321 (hv q0) ?_
    refine z_if_eq (tgt := 327) hX dL_law_322 (by decide) (fun _ => ?_) (fun q => absurd rfl q)
    refine z_goto (tgt := 2469) hX dL_law_327 (by decide) ?_
    refine z_sub [2, 3, 4, 5, 6, 7] rfl ?_
    exact z_widen (by omega) (kk _ _ _ hR)
set_option maxRecDepth 100000 in
theorem bk_1 {p : Program} {l : Launch} {e : Env} {R : Room} {s : State} {m : MethodId} {args : Array Value} {below : List Frame} {meth : Method} {c : Code} {Q : State → Prop} {g : zG} {ret : Option FieldType} {mc : Nat} {κ : zKp} {μ : zMu} {ω : zOm} {k b L n : Nat} {xs : Nat → Int32} (hX : zX p l s m args meth c R g RL cL_law 9 ret 21 mc) (hl0 : l.stackTraces = false) (hx : scX s g b L xs) (h : RR κ μ) (hn : n + 5 ≤ L) (hk : k + 1 ≤ mc) (kk : ∀ κ' μ' ω', RR κ' μ' → zZ p l e R s m args below meth c g 9 Q κ' μ' ω' (k + 1) 2469 (lvL g b n) []) : zZ p l e R s m args below meth c g 9 Q κ μ ω k 330 (lvL g b n) [] := by
  obtain ⟨κ', μ', ω', kc, bb, lv, hlv, hR, hW, hM, h2, hv⟩ := sm_setOrder l hl0 (g := g) (ω := ω) h ((xs (n + 1))) ((((xs (n + 2))).toUInt32 % 65536).toInt32)
  refine z_aload_n hX dL_law_330 1 rfl ?_
  refine z_aload_n hX dL_law_331 0 rfl ?_
  refine z_iload hX dL_law_332 5 rfl ?_
  refine z_iconst (v := 1) hX dL_law_334 (by decide) ?_
  refine z_iadd hX dL_law_335 ?_
  refine z_isv (nI_add n 1) ?_
  refine z_sld hX hx (q := n + 1) (by omega) dL_law_336 ?_
  refine z_aload_n hX dL_law_337 0 rfl ?_
  refine z_iload hX dL_law_338 5 rfl ?_
  refine z_iconst (v := 2) hX dL_law_340 (by decide) ?_
  refine z_iadd hX dL_law_341 ?_
  refine z_isv (nI_add n 2) ?_
  refine z_sld hX hx (q := n + 2) (by omega) dL_law_342 ?_
  refine z_i2c hX dL_law_343 ?_
  refine z_aload_n hX dL_law_344 3 rfl ?_
  refine z_callW (nA := 4) hX hW (gW_W (gW_I 583 (by decide +kernel) rfl) (gW_I 584 (by decide +kernel) rfl) (gW_I 0 (by decide +kernel) rfl) wh_setOrder ⟨by decide, by decide, by decide +kernel⟩) dL_law_345 ⟨by decide, by decide, by omega⟩ rfl rfl (Nat.le_of_ble_eq_true rfl) ?_
  refine z_istore (lv' := _) hX dL_law_348 (by decide) rfl ?_
  refine z_aload_n hX dL_law_350 3 rfl ?_
  refine z_aload_n hX dL_law_351 1 rfl ?_
  refine z_iload hX dL_law_352 6 rfl ?_
  refine z_iconst (v := 1) hX dL_law_354 (by decide) ?_
  refine z_iadd hX dL_law_355 ?_
  refine z_isv (nI_add n 1) ?_
  refine z_sld hX hx (q := n + 1) (by omega) dL_law_356 ?_
  refine z_aload_n hX dL_law_357 1 rfl ?_
  refine z_iload hX dL_law_358 6 rfl ?_
  refine z_iconst (v := 2) hX dL_law_360 (by decide) ?_
  refine z_iadd hX dL_law_361 ?_
  refine z_isv (nI_add n 2) ?_
  refine z_sld hX hx (q := n + 2) (by omega) dL_law_362 ?_
  refine z_i2c hX dL_law_363 ?_
  refine z_callV1 hX hM cv_RL_161 zRc10 dL_law_364 ⟨by omega, by decide, by omega⟩ rfl rfl (Nat.le_of_ble_eq_true rfl) ?_
  refine z_istore (lv' := _) hX dL_law_367 (by decide) rfl ?_
  refine z_aload_n hX dL_law_369 4 rfl ?_
  refine z_callV1 hX (ok_X5_thrown l) cv_RL_155 zRc10 dL_law_370 ⟨by decide, by decide, by omega⟩ rfl rfl (Nat.le_of_ble_eq_true rfl) ?_
  refine z_iload hX dL_law_373 1 rfl ?_
  refine z_icmp_eq (tgt := 380) hX dL_law_375 (by decide) (fun _ => ?_) (fun q => absurd h2 q)
  refine z_iload hX dL_law_380 1 rfl ?_
  refine z_if_ne (tgt := 397) hX dL_law_382 (by decide) (fun _ => ?_) (fun q0 => ?_)
  · skip
    refine z_goto (tgt := 2469) hX dL_law_397 (by decide) ?_
    refine z_sub [2, 3, 4, 5, 6, 7] rfl ?_
    exact z_widen (by omega) (kk _ _ _ hR)
  · skip
    refine z_aload_n hX dL_law_385 5 rfl ?_
    refine z_iconst (v := 0) hX dL_law_386 (by decide) ?_
    refine z_lald hX dL_law_387 ?_
    refine z_iload hX dL_law_388 0 rfl ?_
    refine z_i2l hX dL_law_390 ?_
    refine z_lcmp0 hX dL_law_391 (hv q0) ?_
    refine z_if_eq (tgt := 397) hX dL_law_392 (by decide) (fun _ => ?_) (fun q => absurd rfl q)
    refine z_goto (tgt := 2469) hX dL_law_397 (by decide) ?_
    refine z_sub [2, 3, 4, 5, 6, 7] rfl ?_
    exact z_widen (by omega) (kk _ _ _ hR)
set_option maxRecDepth 100000 in
theorem bk_2 {p : Program} {l : Launch} {e : Env} {R : Room} {s : State} {m : MethodId} {args : Array Value} {below : List Frame} {meth : Method} {c : Code} {Q : State → Prop} {g : zG} {ret : Option FieldType} {mc : Nat} {κ : zKp} {μ : zMu} {ω : zOm} {k b L n : Nat} {xs : Nat → Int32} (hX : zX p l s m args meth c R g RL cL_law 9 ret 21 mc) (hl0 : l.stackTraces = false) (hx : scX s g b L xs) (h : RR κ μ) (hn : n + 5 ≤ L) (hk : k + 1 ≤ mc) (kk : ∀ κ' μ' ω', RR κ' μ' → zZ p l e R s m args below meth c g 9 Q κ' μ' ω' (k + 1) 2469 (lvL g b n) []) : zZ p l e R s m args below meth c g 9 Q κ μ ω k 400 (lvL g b n) [] := by
  obtain ⟨κ', μ', ω', kc, bb, lv, hlv, hR, hW, hM, h2, hv⟩ := sm_rally l hl0 (g := g) (ω := ω) h ((xs (n + 1)))
  refine z_aload_n hX dL_law_400 1 rfl ?_
  refine z_aload_n hX dL_law_401 0 rfl ?_
  refine z_iload hX dL_law_402 5 rfl ?_
  refine z_iconst (v := 1) hX dL_law_404 (by decide) ?_
  refine z_iadd hX dL_law_405 ?_
  refine z_isv (nI_add n 1) ?_
  refine z_sld hX hx (q := n + 1) (by omega) dL_law_406 ?_
  refine z_aload_n hX dL_law_407 3 rfl ?_
  refine z_callW (nA := 3) hX hW (gW_W (gW_I 638 (by decide +kernel) rfl) (gW_I 639 (by decide +kernel) rfl) (gW_I 0 (by decide +kernel) rfl) wh_rally ⟨by decide, by decide, by decide +kernel⟩) dL_law_408 ⟨by decide, by decide, by omega⟩ rfl rfl (Nat.le_of_ble_eq_true rfl) ?_
  refine z_istore (lv' := _) hX dL_law_411 (by decide) rfl ?_
  refine z_aload_n hX dL_law_413 3 rfl ?_
  refine z_aload_n hX dL_law_414 1 rfl ?_
  refine z_iload hX dL_law_415 6 rfl ?_
  refine z_iconst (v := 1) hX dL_law_417 (by decide) ?_
  refine z_iadd hX dL_law_418 ?_
  refine z_isv (nI_add n 1) ?_
  refine z_sld hX hx (q := n + 1) (by omega) dL_law_419 ?_
  refine z_callV1 hX hM cv_RL_165 zRc10 dL_law_420 ⟨by omega, by decide, by omega⟩ rfl rfl (Nat.le_of_ble_eq_true rfl) ?_
  refine z_istore (lv' := _) hX dL_law_423 (by decide) rfl ?_
  refine z_aload_n hX dL_law_425 4 rfl ?_
  refine z_callV1 hX (ok_X5_thrown l) cv_RL_155 zRc10 dL_law_426 ⟨by decide, by decide, by omega⟩ rfl rfl (Nat.le_of_ble_eq_true rfl) ?_
  refine z_iload hX dL_law_429 1 rfl ?_
  refine z_icmp_eq (tgt := 436) hX dL_law_431 (by decide) (fun _ => ?_) (fun q => absurd h2 q)
  refine z_iload hX dL_law_436 1 rfl ?_
  refine z_if_ne (tgt := 453) hX dL_law_438 (by decide) (fun _ => ?_) (fun q0 => ?_)
  · skip
    refine z_goto (tgt := 2469) hX dL_law_453 (by decide) ?_
    refine z_sub [2, 3, 4, 5, 6, 7] rfl ?_
    exact z_widen (by omega) (kk _ _ _ hR)
  · skip
    refine z_aload_n hX dL_law_441 5 rfl ?_
    refine z_iconst (v := 0) hX dL_law_442 (by decide) ?_
    refine z_lald hX dL_law_443 ?_
    refine z_iload hX dL_law_444 0 rfl ?_
    refine z_i2l hX dL_law_446 ?_
    refine z_lcmp0 hX dL_law_447 (hv q0) ?_
    refine z_if_eq (tgt := 453) hX dL_law_448 (by decide) (fun _ => ?_) (fun q => absurd rfl q)
    refine z_goto (tgt := 2469) hX dL_law_453 (by decide) ?_
    refine z_sub [2, 3, 4, 5, 6, 7] rfl ?_
    exact z_widen (by omega) (kk _ _ _ hR)
set_option maxRecDepth 100000 in
theorem bk_3 {p : Program} {l : Launch} {e : Env} {R : Room} {s : State} {m : MethodId} {args : Array Value} {below : List Frame} {meth : Method} {c : Code} {Q : State → Prop} {g : zG} {ret : Option FieldType} {mc : Nat} {κ : zKp} {μ : zMu} {ω : zOm} {k b L n : Nat} {xs : Nat → Int32} (hX : zX p l s m args meth c R g RL cL_law 9 ret 21 mc) (hl0 : l.stackTraces = false) (hx : scX s g b L xs) (h : RR κ μ) (hn : n + 5 ≤ L) (hk : k + 1 ≤ mc) (kk : ∀ κ' μ' ω', RR κ' μ' → zZ p l e R s m args below meth c g 9 Q κ' μ' ω' (k + 1) 2469 (lvL g b n) []) : zZ p l e R s m args below meth c g 9 Q κ μ ω k 456 (lvL g b n) [] := by
  obtain ⟨κ', μ', bb, lx, lm, hlx, hlm, hR, hM1, hM2⟩ := sb_turn l (g := g) (ω := ω) h
  refine z_aload_n hX dL_law_456 1 rfl ?_
  refine z_callV1 hX hM1 cv_RL_166 zRc0 dL_law_457 ⟨by omega, by decide, by omega⟩ rfl rfl (Nat.le_of_ble_eq_true rfl) ?_
  refine z_aload_n hX dL_law_460 2 rfl ?_
  refine z_callV1 hX hM2 cv_RL_169 zRc10 dL_law_461 ⟨by omega, by decide, by omega⟩ rfl rfl (Nat.le_of_ble_eq_true rfl) ?_
  refine z_icmp_eq (tgt := 2469) hX dL_law_464 (by decide) (fun _ => z_widen (by omega) (kk κ' μ' ω hR)) (fun q => absurd rfl q)
set_option maxRecDepth 100000 in
theorem bk_4 {p : Program} {l : Launch} {e : Env} {R : Room} {s : State} {m : MethodId} {args : Array Value} {below : List Frame} {meth : Method} {c : Code} {Q : State → Prop} {g : zG} {ret : Option FieldType} {mc : Nat} {κ : zKp} {μ : zMu} {ω : zOm} {k b L n : Nat} {xs : Nat → Int32} (hX : zX p l s m args meth c R g RL cL_law 9 ret 21 mc) (hl0 : l.stackTraces = false) (hx : scX s g b L xs) (h : RR κ μ) (hn : n + 5 ≤ L) (hk : k + 1 ≤ mc) (kk : ∀ κ' μ' ω', RR κ' μ' → zZ p l e R s m args below meth c g 9 Q κ' μ' ω' (k + 1) 2469 (lvL g b n) []) : zZ p l e R s m args below meth c g 9 Q κ μ ω k 469 (lvL g b n) [] := by
  obtain ⟨κ', μ', bb, lx, lm, hlx, hlm, hR, hM1, hM2⟩ := sb_lineCount l (g := g) (ω := ω) h
  refine z_aload_n hX dL_law_469 1 rfl ?_
  refine z_callV1 hX hM1 cv_RL_170 zRc0 dL_law_470 ⟨by omega, by decide, by omega⟩ rfl rfl (Nat.le_of_ble_eq_true rfl) ?_
  refine z_aload_n hX dL_law_473 2 rfl ?_
  refine z_callV1 hX hM2 cv_RL_173 zRc10 dL_law_474 ⟨by omega, by decide, by omega⟩ rfl rfl (Nat.le_of_ble_eq_true rfl) ?_
  refine z_icmp_eq (tgt := 2469) hX dL_law_477 (by decide) (fun _ => z_widen (by omega) (kk κ' μ' ω hR)) (fun q => absurd rfl q)
set_option maxRecDepth 100000 in
theorem bk_5 {p : Program} {l : Launch} {e : Env} {R : Room} {s : State} {m : MethodId} {args : Array Value} {below : List Frame} {meth : Method} {c : Code} {Q : State → Prop} {g : zG} {ret : Option FieldType} {mc : Nat} {κ : zKp} {μ : zMu} {ω : zOm} {k b L n : Nat} {xs : Nat → Int32} (hX : zX p l s m args meth c R g RL cL_law 9 ret 21 mc) (hl0 : l.stackTraces = false) (hx : scX s g b L xs) (h : RR κ μ) (hn : n + 5 ≤ L) (hk : k + 1 ≤ mc) (kk : ∀ κ' μ' ω', RR κ' μ' → zZ p l e R s m args below meth c g 9 Q κ' μ' ω' (k + 1) 2469 (lvL g b n) []) : zZ p l e R s m args below meth c g 9 Q κ μ ω k 482 (lvL g b n) [] := by
  obtain ⟨κ', μ', ω', kc, bb, lv, hlv, hR, hW, hM, h2, hv⟩ := sm_sideOf l hl0 (g := g) (ω := ω) h ((xs (n + 1)))
  refine z_aload_n hX dL_law_482 1 rfl ?_
  refine z_aload_n hX dL_law_483 0 rfl ?_
  refine z_iload hX dL_law_484 5 rfl ?_
  refine z_iconst (v := 1) hX dL_law_486 (by decide) ?_
  refine z_iadd hX dL_law_487 ?_
  refine z_isv (nI_add n 1) ?_
  refine z_sld hX hx (q := n + 1) (by omega) dL_law_488 ?_
  refine z_aload_n hX dL_law_489 3 rfl ?_
  refine z_callW (nA := 3) hX hW (gW_W (gW_I 659 (by decide +kernel) rfl) (gW_I 660 (by decide +kernel) rfl) (gW_I 0 (by decide +kernel) rfl) wh_sideOf ⟨by decide, by decide, by decide +kernel⟩) dL_law_490 ⟨by decide, by decide, by omega⟩ rfl rfl (Nat.le_of_ble_eq_true rfl) ?_
  refine z_istore (lv' := _) hX dL_law_493 (by decide) rfl ?_
  refine z_aload_n hX dL_law_495 3 rfl ?_
  refine z_aload_n hX dL_law_496 1 rfl ?_
  refine z_iload hX dL_law_497 6 rfl ?_
  refine z_iconst (v := 1) hX dL_law_499 (by decide) ?_
  refine z_iadd hX dL_law_500 ?_
  refine z_isv (nI_add n 1) ?_
  refine z_sld hX hx (q := n + 1) (by omega) dL_law_501 ?_
  refine z_callV1 hX hM cv_RL_176 zRc10 dL_law_502 ⟨by omega, by decide, by omega⟩ rfl rfl (Nat.le_of_ble_eq_true rfl) ?_
  refine z_istore (lv' := _) hX dL_law_505 (by decide) rfl ?_
  refine z_aload_n hX dL_law_507 4 rfl ?_
  refine z_callV1 hX (ok_X5_thrown l) cv_RL_155 zRc10 dL_law_508 ⟨by decide, by decide, by omega⟩ rfl rfl (Nat.le_of_ble_eq_true rfl) ?_
  refine z_iload hX dL_law_511 1 rfl ?_
  refine z_icmp_eq (tgt := 518) hX dL_law_513 (by decide) (fun _ => ?_) (fun q => absurd h2 q)
  refine z_iload hX dL_law_518 1 rfl ?_
  refine z_if_ne (tgt := 535) hX dL_law_520 (by decide) (fun _ => ?_) (fun q0 => ?_)
  · skip
    refine z_goto (tgt := 2469) hX dL_law_535 (by decide) ?_
    refine z_sub [2, 3, 4, 5, 6, 7] rfl ?_
    exact z_widen (by omega) (kk _ _ _ hR)
  · skip
    refine z_aload_n hX dL_law_523 5 rfl ?_
    refine z_iconst (v := 0) hX dL_law_524 (by decide) ?_
    refine z_lald hX dL_law_525 ?_
    refine z_iload hX dL_law_526 0 rfl ?_
    refine z_i2l hX dL_law_528 ?_
    refine z_lcmp0 hX dL_law_529 (hv q0) ?_
    refine z_if_eq (tgt := 535) hX dL_law_530 (by decide) (fun _ => ?_) (fun q => absurd rfl q)
    refine z_goto (tgt := 2469) hX dL_law_535 (by decide) ?_
    refine z_sub [2, 3, 4, 5, 6, 7] rfl ?_
    exact z_widen (by omega) (kk _ _ _ hR)
set_option maxRecDepth 100000 in
theorem bk_6 {p : Program} {l : Launch} {e : Env} {R : Room} {s : State} {m : MethodId} {args : Array Value} {below : List Frame} {meth : Method} {c : Code} {Q : State → Prop} {g : zG} {ret : Option FieldType} {mc : Nat} {κ : zKp} {μ : zMu} {ω : zOm} {k b L n : Nat} {xs : Nat → Int32} (hX : zX p l s m args meth c R g RL cL_law 9 ret 21 mc) (hl0 : l.stackTraces = false) (hx : scX s g b L xs) (h : RR κ μ) (hn : n + 5 ≤ L) (hk : k + 1 ≤ mc) (kk : ∀ κ' μ' ω', RR κ' μ' → zZ p l e R s m args below meth c g 9 Q κ' μ' ω' (k + 1) 2469 (lvL g b n) []) : zZ p l e R s m args below meth c g 9 Q κ μ ω k 538 (lvL g b n) [] := by
  obtain ⟨κ', μ', ω', kc, bb, lv, hlv, hR, hW, hM, h2, hv⟩ := sm_laneOf l hl0 (g := g) (ω := ω) h ((xs (n + 1)))
  refine z_aload_n hX dL_law_538 1 rfl ?_
  refine z_aload_n hX dL_law_539 0 rfl ?_
  refine z_iload hX dL_law_540 5 rfl ?_
  refine z_iconst (v := 1) hX dL_law_542 (by decide) ?_
  refine z_iadd hX dL_law_543 ?_
  refine z_isv (nI_add n 1) ?_
  refine z_sld hX hx (q := n + 1) (by omega) dL_law_544 ?_
  refine z_aload_n hX dL_law_545 3 rfl ?_
  refine z_callW (nA := 3) hX hW (gW_W (gW_I 671 (by decide +kernel) rfl) (gW_I 672 (by decide +kernel) rfl) (gW_I 0 (by decide +kernel) rfl) wh_laneOf ⟨by decide, by decide, by decide +kernel⟩) dL_law_546 ⟨by decide, by decide, by omega⟩ rfl rfl (Nat.le_of_ble_eq_true rfl) ?_
  refine z_istore (lv' := _) hX dL_law_549 (by decide) rfl ?_
  refine z_aload_n hX dL_law_551 3 rfl ?_
  refine z_aload_n hX dL_law_552 1 rfl ?_
  refine z_iload hX dL_law_553 6 rfl ?_
  refine z_iconst (v := 1) hX dL_law_555 (by decide) ?_
  refine z_iadd hX dL_law_556 ?_
  refine z_isv (nI_add n 1) ?_
  refine z_sld hX hx (q := n + 1) (by omega) dL_law_557 ?_
  refine z_callV1 hX hM cv_RL_179 zRc10 dL_law_558 ⟨by omega, by decide, by omega⟩ rfl rfl (Nat.le_of_ble_eq_true rfl) ?_
  refine z_istore (lv' := _) hX dL_law_561 (by decide) rfl ?_
  refine z_aload_n hX dL_law_563 4 rfl ?_
  refine z_callV1 hX (ok_X5_thrown l) cv_RL_155 zRc10 dL_law_564 ⟨by decide, by decide, by omega⟩ rfl rfl (Nat.le_of_ble_eq_true rfl) ?_
  refine z_iload hX dL_law_567 1 rfl ?_
  refine z_icmp_eq (tgt := 574) hX dL_law_569 (by decide) (fun _ => ?_) (fun q => absurd h2 q)
  refine z_iload hX dL_law_574 1 rfl ?_
  refine z_if_ne (tgt := 591) hX dL_law_576 (by decide) (fun _ => ?_) (fun q0 => ?_)
  · skip
    refine z_goto (tgt := 2469) hX dL_law_591 (by decide) ?_
    refine z_sub [2, 3, 4, 5, 6, 7] rfl ?_
    exact z_widen (by omega) (kk _ _ _ hR)
  · skip
    refine z_aload_n hX dL_law_579 5 rfl ?_
    refine z_iconst (v := 0) hX dL_law_580 (by decide) ?_
    refine z_lald hX dL_law_581 ?_
    refine z_iload hX dL_law_582 0 rfl ?_
    refine z_i2l hX dL_law_584 ?_
    refine z_lcmp0 hX dL_law_585 (hv q0) ?_
    refine z_if_eq (tgt := 591) hX dL_law_586 (by decide) (fun _ => ?_) (fun q => absurd rfl q)
    refine z_goto (tgt := 2469) hX dL_law_591 (by decide) ?_
    refine z_sub [2, 3, 4, 5, 6, 7] rfl ?_
    exact z_widen (by omega) (kk _ _ _ hR)
set_option maxRecDepth 100000 in
theorem bk_7 {p : Program} {l : Launch} {e : Env} {R : Room} {s : State} {m : MethodId} {args : Array Value} {below : List Frame} {meth : Method} {c : Code} {Q : State → Prop} {g : zG} {ret : Option FieldType} {mc : Nat} {κ : zKp} {μ : zMu} {ω : zOm} {k b L n : Nat} {xs : Nat → Int32} (hX : zX p l s m args meth c R g RL cL_law 9 ret 21 mc) (hl0 : l.stackTraces = false) (hx : scX s g b L xs) (h : RR κ μ) (hn : n + 5 ≤ L) (hk : k + 1 ≤ mc) (kk : ∀ κ' μ' ω', RR κ' μ' → zZ p l e R s m args below meth c g 9 Q κ' μ' ω' (k + 1) 2469 (lvL g b n) []) : zZ p l e R s m args below meth c g 9 Q κ μ ω k 594 (lvL g b n) [] := by
  obtain ⟨κ', μ', ω', kc, bb, lv, hlv, hR, hW, hM, h2, hv⟩ := sm_columnOf l hl0 (g := g) (ω := ω) h ((xs (n + 1)))
  refine z_aload_n hX dL_law_594 1 rfl ?_
  refine z_aload_n hX dL_law_595 0 rfl ?_
  refine z_iload hX dL_law_596 5 rfl ?_
  refine z_iconst (v := 1) hX dL_law_598 (by decide) ?_
  refine z_iadd hX dL_law_599 ?_
  refine z_isv (nI_add n 1) ?_
  refine z_sld hX hx (q := n + 1) (by omega) dL_law_600 ?_
  refine z_aload_n hX dL_law_601 3 rfl ?_
  refine z_callW (nA := 3) hX hW (gW_W (gW_I 700 (by decide +kernel) rfl) (gW_I 701 (by decide +kernel) rfl) (gW_I 0 (by decide +kernel) rfl) wh_columnOf ⟨by decide, by decide, by decide +kernel⟩) dL_law_602 ⟨by decide, by decide, by omega⟩ rfl rfl (Nat.le_of_ble_eq_true rfl) ?_
  refine z_istore (lv' := _) hX dL_law_605 (by decide) rfl ?_
  refine z_aload_n hX dL_law_607 3 rfl ?_
  refine z_aload_n hX dL_law_608 1 rfl ?_
  refine z_iload hX dL_law_609 6 rfl ?_
  refine z_iconst (v := 1) hX dL_law_611 (by decide) ?_
  refine z_iadd hX dL_law_612 ?_
  refine z_isv (nI_add n 1) ?_
  refine z_sld hX hx (q := n + 1) (by omega) dL_law_613 ?_
  refine z_callV1 hX hM cv_RL_182 zRc10 dL_law_614 ⟨by omega, by decide, by omega⟩ rfl rfl (Nat.le_of_ble_eq_true rfl) ?_
  refine z_istore (lv' := _) hX dL_law_617 (by decide) rfl ?_
  refine z_aload_n hX dL_law_619 4 rfl ?_
  refine z_callV1 hX (ok_X5_thrown l) cv_RL_155 zRc10 dL_law_620 ⟨by decide, by decide, by omega⟩ rfl rfl (Nat.le_of_ble_eq_true rfl) ?_
  refine z_iload hX dL_law_623 1 rfl ?_
  refine z_icmp_eq (tgt := 630) hX dL_law_625 (by decide) (fun _ => ?_) (fun q => absurd h2 q)
  refine z_iload hX dL_law_630 1 rfl ?_
  refine z_if_ne (tgt := 647) hX dL_law_632 (by decide) (fun _ => ?_) (fun q0 => ?_)
  · skip
    refine z_goto (tgt := 2469) hX dL_law_647 (by decide) ?_
    refine z_sub [2, 3, 4, 5, 6, 7] rfl ?_
    exact z_widen (by omega) (kk _ _ _ hR)
  · skip
    refine z_aload_n hX dL_law_635 5 rfl ?_
    refine z_iconst (v := 0) hX dL_law_636 (by decide) ?_
    refine z_lald hX dL_law_637 ?_
    refine z_iload hX dL_law_638 0 rfl ?_
    refine z_i2l hX dL_law_640 ?_
    refine z_lcmp0 hX dL_law_641 (hv q0) ?_
    refine z_if_eq (tgt := 647) hX dL_law_642 (by decide) (fun _ => ?_) (fun q => absurd rfl q)
    refine z_goto (tgt := 2469) hX dL_law_647 (by decide) ?_
    refine z_sub [2, 3, 4, 5, 6, 7] rfl ?_
    exact z_widen (by omega) (kk _ _ _ hR)
set_option maxRecDepth 100000 in
theorem bk_8 {p : Program} {l : Launch} {e : Env} {R : Room} {s : State} {m : MethodId} {args : Array Value} {below : List Frame} {meth : Method} {c : Code} {Q : State → Prop} {g : zG} {ret : Option FieldType} {mc : Nat} {κ : zKp} {μ : zMu} {ω : zOm} {k b L n : Nat} {xs : Nat → Int32} (hX : zX p l s m args meth c R g RL cL_law 9 ret 21 mc) (hl0 : l.stackTraces = false) (hx : scX s g b L xs) (h : RR κ μ) (hn : n + 5 ≤ L) (hk : k + 1 ≤ mc) (kk : ∀ κ' μ' ω', RR κ' μ' → zZ p l e R s m args below meth c g 9 Q κ' μ' ω' (k + 1) 2469 (lvL g b n) []) : zZ p l e R s m args below meth c g 9 Q κ μ ω k 650 (lvL g b n) [] := by
  obtain ⟨κ', μ', ω', kc, bb, lv, hlv, hR, hW, hM, h2, hv⟩ := sm_kindOf l hl0 (g := g) (ω := ω) h ((xs (n + 1)))
  refine z_aload_n hX dL_law_650 1 rfl ?_
  refine z_aload_n hX dL_law_651 0 rfl ?_
  refine z_iload hX dL_law_652 5 rfl ?_
  refine z_iconst (v := 1) hX dL_law_654 (by decide) ?_
  refine z_iadd hX dL_law_655 ?_
  refine z_isv (nI_add n 1) ?_
  refine z_sld hX hx (q := n + 1) (by omega) dL_law_656 ?_
  refine z_aload_n hX dL_law_657 3 rfl ?_
  refine z_callW (nA := 3) hX hW (gW_W (gW_I 707 (by decide +kernel) rfl) (gW_I 708 (by decide +kernel) rfl) (gW_I 0 (by decide +kernel) rfl) wh_kindOf ⟨by decide, by decide, by decide +kernel⟩) dL_law_658 ⟨by decide, by decide, by omega⟩ rfl rfl (Nat.le_of_ble_eq_true rfl) ?_
  refine z_istore (lv' := _) hX dL_law_661 (by decide) rfl ?_
  refine z_aload_n hX dL_law_663 3 rfl ?_
  refine z_aload_n hX dL_law_664 1 rfl ?_
  refine z_iload hX dL_law_665 6 rfl ?_
  refine z_iconst (v := 1) hX dL_law_667 (by decide) ?_
  refine z_iadd hX dL_law_668 ?_
  refine z_isv (nI_add n 1) ?_
  refine z_sld hX hx (q := n + 1) (by omega) dL_law_669 ?_
  refine z_callV1 hX hM cv_RL_185 zRc10 dL_law_670 ⟨by omega, by decide, by omega⟩ rfl rfl (Nat.le_of_ble_eq_true rfl) ?_
  refine z_istore (lv' := _) hX dL_law_673 (by decide) rfl ?_
  refine z_aload_n hX dL_law_675 4 rfl ?_
  refine z_callV1 hX (ok_X5_thrown l) cv_RL_155 zRc10 dL_law_676 ⟨by decide, by decide, by omega⟩ rfl rfl (Nat.le_of_ble_eq_true rfl) ?_
  refine z_iload hX dL_law_679 1 rfl ?_
  refine z_icmp_eq (tgt := 686) hX dL_law_681 (by decide) (fun _ => ?_) (fun q => absurd h2 q)
  refine z_iload hX dL_law_686 1 rfl ?_
  refine z_if_ne (tgt := 703) hX dL_law_688 (by decide) (fun _ => ?_) (fun q0 => ?_)
  · skip
    refine z_goto (tgt := 2469) hX dL_law_703 (by decide) ?_
    refine z_sub [2, 3, 4, 5, 6, 7] rfl ?_
    exact z_widen (by omega) (kk _ _ _ hR)
  · skip
    refine z_aload_n hX dL_law_691 5 rfl ?_
    refine z_iconst (v := 0) hX dL_law_692 (by decide) ?_
    refine z_lald hX dL_law_693 ?_
    refine z_iload hX dL_law_694 0 rfl ?_
    refine z_i2l hX dL_law_696 ?_
    refine z_lcmp0 hX dL_law_697 (hv q0) ?_
    refine z_if_eq (tgt := 703) hX dL_law_698 (by decide) (fun _ => ?_) (fun q => absurd rfl q)
    refine z_goto (tgt := 2469) hX dL_law_703 (by decide) ?_
    refine z_sub [2, 3, 4, 5, 6, 7] rfl ?_
    exact z_widen (by omega) (kk _ _ _ hR)
set_option maxRecDepth 100000 in
theorem bk_9 {p : Program} {l : Launch} {e : Env} {R : Room} {s : State} {m : MethodId} {args : Array Value} {below : List Frame} {meth : Method} {c : Code} {Q : State → Prop} {g : zG} {ret : Option FieldType} {mc : Nat} {κ : zKp} {μ : zMu} {ω : zOm} {k b L n : Nat} {xs : Nat → Int32} (hX : zX p l s m args meth c R g RL cL_law 9 ret 21 mc) (hl0 : l.stackTraces = false) (hx : scX s g b L xs) (h : RR κ μ) (hn : n + 5 ≤ L) (hk : k + 1 ≤ mc) (kk : ∀ κ' μ' ω', RR κ' μ' → zZ p l e R s m args below meth c g 9 Q κ' μ' ω' (k + 1) 2469 (lvL g b n) []) : zZ p l e R s m args below meth c g 9 Q κ μ ω k 706 (lvL g b n) [] := by
  obtain ⟨κ', μ', ω', kc, bb, lv, hlv, hR, hW, hM, h2, hv⟩ := sm_strengthOf l hl0 (g := g) (ω := ω) h ((xs (n + 1)))
  refine z_aload_n hX dL_law_706 1 rfl ?_
  refine z_aload_n hX dL_law_707 0 rfl ?_
  refine z_iload hX dL_law_708 5 rfl ?_
  refine z_iconst (v := 1) hX dL_law_710 (by decide) ?_
  refine z_iadd hX dL_law_711 ?_
  refine z_isv (nI_add n 1) ?_
  refine z_sld hX hx (q := n + 1) (by omega) dL_law_712 ?_
  refine z_aload_n hX dL_law_713 3 rfl ?_
  refine z_callW (nA := 3) hX hW (gW_W (gW_I 714 (by decide +kernel) rfl) (gW_I 715 (by decide +kernel) rfl) (gW_I 0 (by decide +kernel) rfl) wh_strengthOf ⟨by decide, by decide, by decide +kernel⟩) dL_law_714 ⟨by decide, by decide, by omega⟩ rfl rfl (Nat.le_of_ble_eq_true rfl) ?_
  refine z_istore (lv' := _) hX dL_law_717 (by decide) rfl ?_
  refine z_aload_n hX dL_law_719 3 rfl ?_
  refine z_aload_n hX dL_law_720 1 rfl ?_
  refine z_iload hX dL_law_721 6 rfl ?_
  refine z_iconst (v := 1) hX dL_law_723 (by decide) ?_
  refine z_iadd hX dL_law_724 ?_
  refine z_isv (nI_add n 1) ?_
  refine z_sld hX hx (q := n + 1) (by omega) dL_law_725 ?_
  refine z_callV1 hX hM cv_RL_188 zRc10 dL_law_726 ⟨by omega, by decide, by omega⟩ rfl rfl (Nat.le_of_ble_eq_true rfl) ?_
  refine z_istore (lv' := _) hX dL_law_729 (by decide) rfl ?_
  refine z_aload_n hX dL_law_731 4 rfl ?_
  refine z_callV1 hX (ok_X5_thrown l) cv_RL_155 zRc10 dL_law_732 ⟨by decide, by decide, by omega⟩ rfl rfl (Nat.le_of_ble_eq_true rfl) ?_
  refine z_iload hX dL_law_735 1 rfl ?_
  refine z_icmp_eq (tgt := 742) hX dL_law_737 (by decide) (fun _ => ?_) (fun q => absurd h2 q)
  refine z_iload hX dL_law_742 1 rfl ?_
  refine z_if_ne (tgt := 759) hX dL_law_744 (by decide) (fun _ => ?_) (fun q0 => ?_)
  · skip
    refine z_goto (tgt := 2469) hX dL_law_759 (by decide) ?_
    refine z_sub [2, 3, 4, 5, 6, 7] rfl ?_
    exact z_widen (by omega) (kk _ _ _ hR)
  · skip
    refine z_aload_n hX dL_law_747 5 rfl ?_
    refine z_iconst (v := 0) hX dL_law_748 (by decide) ?_
    refine z_lald hX dL_law_749 ?_
    refine z_iload hX dL_law_750 0 rfl ?_
    refine z_i2l hX dL_law_752 ?_
    refine z_lcmp0 hX dL_law_753 (hv q0) ?_
    refine z_if_eq (tgt := 759) hX dL_law_754 (by decide) (fun _ => ?_) (fun q => absurd rfl q)
    refine z_goto (tgt := 2469) hX dL_law_759 (by decide) ?_
    refine z_sub [2, 3, 4, 5, 6, 7] rfl ?_
    exact z_widen (by omega) (kk _ _ _ hR)
set_option maxRecDepth 100000 in
theorem bk_10 {p : Program} {l : Launch} {e : Env} {R : Room} {s : State} {m : MethodId} {args : Array Value} {below : List Frame} {meth : Method} {c : Code} {Q : State → Prop} {g : zG} {ret : Option FieldType} {mc : Nat} {κ : zKp} {μ : zMu} {ω : zOm} {k b L n : Nat} {xs : Nat → Int32} (hX : zX p l s m args meth c R g RL cL_law 9 ret 21 mc) (hl0 : l.stackTraces = false) (hx : scX s g b L xs) (h : RR κ μ) (hn : n + 5 ≤ L) (hk : k + 1 ≤ mc) (kk : ∀ κ' μ' ω', RR κ' μ' → zZ p l e R s m args below meth c g 9 Q κ' μ' ω' (k + 1) 2469 (lvL g b n) []) : zZ p l e R s m args below meth c g 9 Q κ μ ω k 762 (lvL g b n) [] := by
  obtain ⟨κ', μ', ω', kc, bb, lv, hlv, hR, hW, hM, h2, hv⟩ := sm_moraleOf l hl0 (g := g) (ω := ω) h ((xs (n + 1)))
  refine z_aload_n hX dL_law_762 1 rfl ?_
  refine z_aload_n hX dL_law_763 0 rfl ?_
  refine z_iload hX dL_law_764 5 rfl ?_
  refine z_iconst (v := 1) hX dL_law_766 (by decide) ?_
  refine z_iadd hX dL_law_767 ?_
  refine z_isv (nI_add n 1) ?_
  refine z_sld hX hx (q := n + 1) (by omega) dL_law_768 ?_
  refine z_aload_n hX dL_law_769 3 rfl ?_
  refine z_callW (nA := 3) hX hW (gW_W (gW_I 721 (by decide +kernel) rfl) (gW_I 722 (by decide +kernel) rfl) (gW_I 0 (by decide +kernel) rfl) wh_moraleOf ⟨by decide, by decide, by decide +kernel⟩) dL_law_770 ⟨by decide, by decide, by omega⟩ rfl rfl (Nat.le_of_ble_eq_true rfl) ?_
  refine z_istore (lv' := _) hX dL_law_773 (by decide) rfl ?_
  refine z_aload_n hX dL_law_775 3 rfl ?_
  refine z_aload_n hX dL_law_776 1 rfl ?_
  refine z_iload hX dL_law_777 6 rfl ?_
  refine z_iconst (v := 1) hX dL_law_779 (by decide) ?_
  refine z_iadd hX dL_law_780 ?_
  refine z_isv (nI_add n 1) ?_
  refine z_sld hX hx (q := n + 1) (by omega) dL_law_781 ?_
  refine z_callV1 hX hM cv_RL_191 zRc10 dL_law_782 ⟨by omega, by decide, by omega⟩ rfl rfl (Nat.le_of_ble_eq_true rfl) ?_
  refine z_istore (lv' := _) hX dL_law_785 (by decide) rfl ?_
  refine z_aload_n hX dL_law_787 4 rfl ?_
  refine z_callV1 hX (ok_X5_thrown l) cv_RL_155 zRc10 dL_law_788 ⟨by decide, by decide, by omega⟩ rfl rfl (Nat.le_of_ble_eq_true rfl) ?_
  refine z_iload hX dL_law_791 1 rfl ?_
  refine z_icmp_eq (tgt := 798) hX dL_law_793 (by decide) (fun _ => ?_) (fun q => absurd h2 q)
  refine z_iload hX dL_law_798 1 rfl ?_
  refine z_if_ne (tgt := 815) hX dL_law_800 (by decide) (fun _ => ?_) (fun q0 => ?_)
  · skip
    refine z_goto (tgt := 2469) hX dL_law_815 (by decide) ?_
    refine z_sub [2, 3, 4, 5, 6, 7] rfl ?_
    exact z_widen (by omega) (kk _ _ _ hR)
  · skip
    refine z_aload_n hX dL_law_803 5 rfl ?_
    refine z_iconst (v := 0) hX dL_law_804 (by decide) ?_
    refine z_lald hX dL_law_805 ?_
    refine z_iload hX dL_law_806 0 rfl ?_
    refine z_i2l hX dL_law_808 ?_
    refine z_lcmp0 hX dL_law_809 (hv q0) ?_
    refine z_if_eq (tgt := 815) hX dL_law_810 (by decide) (fun _ => ?_) (fun q => absurd rfl q)
    refine z_goto (tgt := 2469) hX dL_law_815 (by decide) ?_
    refine z_sub [2, 3, 4, 5, 6, 7] rfl ?_
    exact z_widen (by omega) (kk _ _ _ hR)
set_option maxRecDepth 100000 in
theorem bk_11 {p : Program} {l : Launch} {e : Env} {R : Room} {s : State} {m : MethodId} {args : Array Value} {below : List Frame} {meth : Method} {c : Code} {Q : State → Prop} {g : zG} {ret : Option FieldType} {mc : Nat} {κ : zKp} {μ : zMu} {ω : zOm} {k b L n : Nat} {xs : Nat → Int32} (hX : zX p l s m args meth c R g RL cL_law 9 ret 21 mc) (hl0 : l.stackTraces = false) (hx : scX s g b L xs) (h : RR κ μ) (hn : n + 5 ≤ L) (hk : k + 1 ≤ mc) (kk : ∀ κ' μ' ω', RR κ' μ' → zZ p l e R s m args below meth c g 9 Q κ' μ' ω' (k + 1) 2469 (lvL g b n) []) : zZ p l e R s m args below meth c g 9 Q κ μ ω k 818 (lvL g b n) [] := by
  obtain ⟨κ', μ', ω', kc, bb, lv, hlv, hR, hW, hM, h2, hv⟩ := sm_orderOf l hl0 (g := g) (ω := ω) h ((xs (n + 1)))
  refine z_aload_n hX dL_law_818 1 rfl ?_
  refine z_aload_n hX dL_law_819 0 rfl ?_
  refine z_iload hX dL_law_820 5 rfl ?_
  refine z_iconst (v := 1) hX dL_law_822 (by decide) ?_
  refine z_iadd hX dL_law_823 ?_
  refine z_isv (nI_add n 1) ?_
  refine z_sld hX hx (q := n + 1) (by omega) dL_law_824 ?_
  refine z_aload_n hX dL_law_825 3 rfl ?_
  refine z_callW (nA := 3) hX hW (gW_W (gW_I 728 (by decide +kernel) rfl) (gW_I 729 (by decide +kernel) rfl) (gW_I 0 (by decide +kernel) rfl) wh_orderOf ⟨by decide, by decide, by decide +kernel⟩) dL_law_826 ⟨by decide, by decide, by omega⟩ rfl rfl (Nat.le_of_ble_eq_true rfl) ?_
  refine z_istore (lv' := _) hX dL_law_829 (by decide) rfl ?_
  refine z_aload_n hX dL_law_831 3 rfl ?_
  refine z_aload_n hX dL_law_832 1 rfl ?_
  refine z_iload hX dL_law_833 6 rfl ?_
  refine z_iconst (v := 1) hX dL_law_835 (by decide) ?_
  refine z_iadd hX dL_law_836 ?_
  refine z_isv (nI_add n 1) ?_
  refine z_sld hX hx (q := n + 1) (by omega) dL_law_837 ?_
  refine z_callV1 hX hM cv_RL_194 zRc10 dL_law_838 ⟨by omega, by decide, by omega⟩ rfl rfl (Nat.le_of_ble_eq_true rfl) ?_
  refine z_istore (lv' := _) hX dL_law_841 (by decide) rfl ?_
  refine z_aload_n hX dL_law_843 4 rfl ?_
  refine z_callV1 hX (ok_X5_thrown l) cv_RL_155 zRc10 dL_law_844 ⟨by decide, by decide, by omega⟩ rfl rfl (Nat.le_of_ble_eq_true rfl) ?_
  refine z_iload hX dL_law_847 1 rfl ?_
  refine z_icmp_eq (tgt := 854) hX dL_law_849 (by decide) (fun _ => ?_) (fun q => absurd h2 q)
  refine z_iload hX dL_law_854 1 rfl ?_
  refine z_if_ne (tgt := 871) hX dL_law_856 (by decide) (fun _ => ?_) (fun q0 => ?_)
  · skip
    refine z_goto (tgt := 2469) hX dL_law_871 (by decide) ?_
    refine z_sub [2, 3, 4, 5, 6, 7] rfl ?_
    exact z_widen (by omega) (kk _ _ _ hR)
  · skip
    refine z_aload_n hX dL_law_859 5 rfl ?_
    refine z_iconst (v := 0) hX dL_law_860 (by decide) ?_
    refine z_lald hX dL_law_861 ?_
    refine z_iload hX dL_law_862 0 rfl ?_
    refine z_i2l hX dL_law_864 ?_
    refine z_lcmp0 hX dL_law_865 (hv q0) ?_
    refine z_if_eq (tgt := 871) hX dL_law_866 (by decide) (fun _ => ?_) (fun q => absurd rfl q)
    refine z_goto (tgt := 2469) hX dL_law_871 (by decide) ?_
    refine z_sub [2, 3, 4, 5, 6, 7] rfl ?_
    exact z_widen (by omega) (kk _ _ _ hR)
set_option maxRecDepth 100000 in
theorem bk_12 {p : Program} {l : Launch} {e : Env} {R : Room} {s : State} {m : MethodId} {args : Array Value} {below : List Frame} {meth : Method} {c : Code} {Q : State → Prop} {g : zG} {ret : Option FieldType} {mc : Nat} {κ : zKp} {μ : zMu} {ω : zOm} {k b L n : Nat} {xs : Nat → Int32} (hX : zX p l s m args meth c R g RL cL_law 9 ret 21 mc) (hl0 : l.stackTraces = false) (hx : scX s g b L xs) (h : RR κ μ) (hn : n + 5 ≤ L) (hk : k + 1 ≤ mc) (kk : ∀ κ' μ' ω', RR κ' μ' → zZ p l e R s m args below meth c g 9 Q κ' μ' ω' (k + 1) 2469 (lvL g b n) []) : zZ p l e R s m args below meth c g 9 Q κ μ ω k 874 (lvL g b n) [] := by
  obtain ⟨κ', μ', ω', kc, bb, lv, hlv, hR, hW, hM, h2, hv⟩ := sm_isStanding l hl0 (g := g) (ω := ω) h ((xs (n + 1)))
  refine z_aload_n hX dL_law_874 1 rfl ?_
  refine z_aload_n hX dL_law_875 0 rfl ?_
  refine z_iload hX dL_law_876 5 rfl ?_
  refine z_iconst (v := 1) hX dL_law_878 (by decide) ?_
  refine z_iadd hX dL_law_879 ?_
  refine z_isv (nI_add n 1) ?_
  refine z_sld hX hx (q := n + 1) (by omega) dL_law_880 ?_
  refine z_aload_n hX dL_law_881 3 rfl ?_
  refine z_callW (nA := 3) hX hW (gW_W (gW_I 736 (by decide +kernel) rfl) (gW_I 737 (by decide +kernel) rfl) (gW_I 0 (by decide +kernel) rfl) wh_isStanding ⟨by decide, by decide, by decide +kernel⟩) dL_law_882 ⟨by decide, by decide, by omega⟩ rfl rfl (Nat.le_of_ble_eq_true rfl) ?_
  refine z_istore (lv' := _) hX dL_law_885 (by decide) rfl ?_
  refine z_aload_n hX dL_law_887 3 rfl ?_
  refine z_aload_n hX dL_law_888 1 rfl ?_
  refine z_iload hX dL_law_889 6 rfl ?_
  refine z_iconst (v := 1) hX dL_law_891 (by decide) ?_
  refine z_iadd hX dL_law_892 ?_
  refine z_isv (nI_add n 1) ?_
  refine z_sld hX hx (q := n + 1) (by omega) dL_law_893 ?_
  refine z_callV1 hX hM cv_RL_197 zRc10 dL_law_894 ⟨by omega, by decide, by omega⟩ rfl rfl (Nat.le_of_ble_eq_true rfl) ?_
  refine z_istore (lv' := _) hX dL_law_897 (by decide) rfl ?_
  refine z_aload_n hX dL_law_899 4 rfl ?_
  refine z_callV1 hX (ok_X5_thrown l) cv_RL_155 zRc10 dL_law_900 ⟨by decide, by decide, by omega⟩ rfl rfl (Nat.le_of_ble_eq_true rfl) ?_
  refine z_iload hX dL_law_903 1 rfl ?_
  refine z_icmp_eq (tgt := 910) hX dL_law_905 (by decide) (fun _ => ?_) (fun q => absurd h2 q)
  refine z_iload hX dL_law_910 1 rfl ?_
  refine z_if_ne (tgt := 934) hX dL_law_912 (by decide) (fun _ => ?_) (fun q0 => ?_)
  · skip
    refine z_goto (tgt := 2469) hX dL_law_934 (by decide) ?_
    refine z_sub [2, 3, 4, 5, 6, 7] rfl ?_
    exact z_widen (by omega) (kk _ _ _ hR)
  · skip
    refine z_aload_n hX dL_law_915 5 rfl ?_
    refine z_iconst (v := 0) hX dL_law_916 (by decide) ?_
    refine z_lald hX dL_law_917 ?_
    refine z_iload hX dL_law_918 0 rfl ?_
    refine z_if_eq (tgt := 927) hX dL_law_920 (by decide) (fun qb => ?_) (fun qb => ?_)
    · skip
      refine z_lconst (v := 0) hX dL_law_927 (by decide) ?_
      refine z_lcmp0 hX dL_law_928 ((hv q0).trans (if_pos qb)) ?_
      refine z_if_eq (tgt := 934) hX dL_law_929 (by decide) (fun _ => ?_) (fun q => absurd rfl q)
      refine z_goto (tgt := 2469) hX dL_law_934 (by decide) ?_
      refine z_sub [2, 3, 4, 5, 6, 7] rfl ?_
      exact z_widen (by omega) (kk _ _ _ hR)
    · skip
      refine z_lconst (v := 1) hX dL_law_923 (by decide) ?_
      refine z_goto (tgt := 928) hX dL_law_924 (by decide) ?_
      refine z_lcmp0 hX dL_law_928 ((hv q0).trans (if_neg qb)) ?_
      refine z_if_eq (tgt := 934) hX dL_law_929 (by decide) (fun _ => ?_) (fun q => absurd rfl q)
      refine z_goto (tgt := 2469) hX dL_law_934 (by decide) ?_
      refine z_sub [2, 3, 4, 5, 6, 7] rfl ?_
      exact z_widen (by omega) (kk _ _ _ hR)
set_option maxRecDepth 100000 in
theorem bk_13 {p : Program} {l : Launch} {e : Env} {R : Room} {s : State} {m : MethodId} {args : Array Value} {below : List Frame} {meth : Method} {c : Code} {Q : State → Prop} {g : zG} {ret : Option FieldType} {mc : Nat} {κ : zKp} {μ : zMu} {ω : zOm} {k b L n : Nat} {xs : Nat → Int32} (hX : zX p l s m args meth c R g RL cL_law 9 ret 21 mc) (hl0 : l.stackTraces = false) (hx : scX s g b L xs) (h : RR κ μ) (hn : n + 5 ≤ L) (hk : k + 1 ≤ mc) (kk : ∀ κ' μ' ω', RR κ' μ' → zZ p l e R s m args below meth c g 9 Q κ' μ' ω' (k + 1) 2469 (lvL g b n) []) : zZ p l e R s m args below meth c g 9 Q κ μ ω k 937 (lvL g b n) [] := by
  obtain ⟨κ', μ', ω', kc, bb, lv, hlv, hR, hW, hM, h2, hv⟩ := sm_isRouted l hl0 (g := g) (ω := ω) h ((xs (n + 1)))
  refine z_aload_n hX dL_law_937 1 rfl ?_
  refine z_aload_n hX dL_law_938 0 rfl ?_
  refine z_iload hX dL_law_939 5 rfl ?_
  refine z_iconst (v := 1) hX dL_law_941 (by decide) ?_
  refine z_iadd hX dL_law_942 ?_
  refine z_isv (nI_add n 1) ?_
  refine z_sld hX hx (q := n + 1) (by omega) dL_law_943 ?_
  refine z_aload_n hX dL_law_944 3 rfl ?_
  refine z_callW (nA := 3) hX hW (gW_W (gW_I 743 (by decide +kernel) rfl) (gW_I 744 (by decide +kernel) rfl) (gW_I 0 (by decide +kernel) rfl) wh_isRouted ⟨by decide, by decide, by decide +kernel⟩) dL_law_945 ⟨by decide, by decide, by omega⟩ rfl rfl (Nat.le_of_ble_eq_true rfl) ?_
  refine z_istore (lv' := _) hX dL_law_948 (by decide) rfl ?_
  refine z_aload_n hX dL_law_950 3 rfl ?_
  refine z_aload_n hX dL_law_951 1 rfl ?_
  refine z_iload hX dL_law_952 6 rfl ?_
  refine z_iconst (v := 1) hX dL_law_954 (by decide) ?_
  refine z_iadd hX dL_law_955 ?_
  refine z_isv (nI_add n 1) ?_
  refine z_sld hX hx (q := n + 1) (by omega) dL_law_956 ?_
  refine z_callV1 hX hM cv_RL_200 zRc10 dL_law_957 ⟨by omega, by decide, by omega⟩ rfl rfl (Nat.le_of_ble_eq_true rfl) ?_
  refine z_istore (lv' := _) hX dL_law_960 (by decide) rfl ?_
  refine z_aload_n hX dL_law_962 4 rfl ?_
  refine z_callV1 hX (ok_X5_thrown l) cv_RL_155 zRc10 dL_law_963 ⟨by decide, by decide, by omega⟩ rfl rfl (Nat.le_of_ble_eq_true rfl) ?_
  refine z_iload hX dL_law_966 1 rfl ?_
  refine z_icmp_eq (tgt := 973) hX dL_law_968 (by decide) (fun _ => ?_) (fun q => absurd h2 q)
  refine z_iload hX dL_law_973 1 rfl ?_
  refine z_if_ne (tgt := 997) hX dL_law_975 (by decide) (fun _ => ?_) (fun q0 => ?_)
  · skip
    refine z_goto (tgt := 2469) hX dL_law_997 (by decide) ?_
    refine z_sub [2, 3, 4, 5, 6, 7] rfl ?_
    exact z_widen (by omega) (kk _ _ _ hR)
  · skip
    refine z_aload_n hX dL_law_978 5 rfl ?_
    refine z_iconst (v := 0) hX dL_law_979 (by decide) ?_
    refine z_lald hX dL_law_980 ?_
    refine z_iload hX dL_law_981 0 rfl ?_
    refine z_if_eq (tgt := 990) hX dL_law_983 (by decide) (fun qb => ?_) (fun qb => ?_)
    · skip
      refine z_lconst (v := 0) hX dL_law_990 (by decide) ?_
      refine z_lcmp0 hX dL_law_991 ((hv q0).trans (if_pos qb)) ?_
      refine z_if_eq (tgt := 997) hX dL_law_992 (by decide) (fun _ => ?_) (fun q => absurd rfl q)
      refine z_goto (tgt := 2469) hX dL_law_997 (by decide) ?_
      refine z_sub [2, 3, 4, 5, 6, 7] rfl ?_
      exact z_widen (by omega) (kk _ _ _ hR)
    · skip
      refine z_lconst (v := 1) hX dL_law_986 (by decide) ?_
      refine z_goto (tgt := 991) hX dL_law_987 (by decide) ?_
      refine z_lcmp0 hX dL_law_991 ((hv q0).trans (if_neg qb)) ?_
      refine z_if_eq (tgt := 997) hX dL_law_992 (by decide) (fun _ => ?_) (fun q => absurd rfl q)
      refine z_goto (tgt := 2469) hX dL_law_997 (by decide) ?_
      refine z_sub [2, 3, 4, 5, 6, 7] rfl ?_
      exact z_widen (by omega) (kk _ _ _ hR)
set_option maxRecDepth 100000 in
theorem bk_14 {p : Program} {l : Launch} {e : Env} {R : Room} {s : State} {m : MethodId} {args : Array Value} {below : List Frame} {meth : Method} {c : Code} {Q : State → Prop} {g : zG} {ret : Option FieldType} {mc : Nat} {κ : zKp} {μ : zMu} {ω : zOm} {k b L n : Nat} {xs : Nat → Int32} (hX : zX p l s m args meth c R g RL cL_law 9 ret 21 mc) (hl0 : l.stackTraces = false) (hx : scX s g b L xs) (h : RR κ μ) (hn : n + 5 ≤ L) (hk : k + 1 ≤ mc) (kk : ∀ κ' μ' ω', RR κ' μ' → zZ p l e R s m args below meth c g 9 Q κ' μ' ω' (k + 1) 2469 (lvL g b n) []) : zZ p l e R s m args below meth c g 9 Q κ μ ω k 1000 (lvL g b n) [] := by
  obtain ⟨κ', μ', ω', kc, bb, lv, hlv, hR, hW, hM, h2, hv⟩ := sm_routedTurns l hl0 (g := g) (ω := ω) h ((xs (n + 1)))
  refine z_aload_n hX dL_law_1000 1 rfl ?_
  refine z_aload_n hX dL_law_1001 0 rfl ?_
  refine z_iload hX dL_law_1002 5 rfl ?_
  refine z_iconst (v := 1) hX dL_law_1004 (by decide) ?_
  refine z_iadd hX dL_law_1005 ?_
  refine z_isv (nI_add n 1) ?_
  refine z_sld hX hx (q := n + 1) (by omega) dL_law_1006 ?_
  refine z_aload_n hX dL_law_1007 3 rfl ?_
  refine z_callW (nA := 3) hX hW (gW_W (gW_I 751 (by decide +kernel) rfl) (gW_I 752 (by decide +kernel) rfl) (gW_I 0 (by decide +kernel) rfl) wh_routedTurns ⟨by decide, by decide, by decide +kernel⟩) dL_law_1008 ⟨by decide, by decide, by omega⟩ rfl rfl (Nat.le_of_ble_eq_true rfl) ?_
  refine z_istore (lv' := _) hX dL_law_1011 (by decide) rfl ?_
  refine z_aload_n hX dL_law_1013 3 rfl ?_
  refine z_aload_n hX dL_law_1014 1 rfl ?_
  refine z_iload hX dL_law_1015 6 rfl ?_
  refine z_iconst (v := 1) hX dL_law_1017 (by decide) ?_
  refine z_iadd hX dL_law_1018 ?_
  refine z_isv (nI_add n 1) ?_
  refine z_sld hX hx (q := n + 1) (by omega) dL_law_1019 ?_
  refine z_callV1 hX hM cv_RL_203 zRc10 dL_law_1020 ⟨by omega, by decide, by omega⟩ rfl rfl (Nat.le_of_ble_eq_true rfl) ?_
  refine z_istore (lv' := _) hX dL_law_1023 (by decide) rfl ?_
  refine z_aload_n hX dL_law_1025 4 rfl ?_
  refine z_callV1 hX (ok_X5_thrown l) cv_RL_155 zRc10 dL_law_1026 ⟨by decide, by decide, by omega⟩ rfl rfl (Nat.le_of_ble_eq_true rfl) ?_
  refine z_iload hX dL_law_1029 1 rfl ?_
  refine z_icmp_eq (tgt := 1036) hX dL_law_1031 (by decide) (fun _ => ?_) (fun q => absurd h2 q)
  refine z_iload hX dL_law_1036 1 rfl ?_
  refine z_if_ne (tgt := 1053) hX dL_law_1038 (by decide) (fun _ => ?_) (fun q0 => ?_)
  · skip
    refine z_goto (tgt := 2469) hX dL_law_1053 (by decide) ?_
    refine z_sub [2, 3, 4, 5, 6, 7] rfl ?_
    exact z_widen (by omega) (kk _ _ _ hR)
  · skip
    refine z_aload_n hX dL_law_1041 5 rfl ?_
    refine z_iconst (v := 0) hX dL_law_1042 (by decide) ?_
    refine z_lald hX dL_law_1043 ?_
    refine z_iload hX dL_law_1044 0 rfl ?_
    refine z_i2l hX dL_law_1046 ?_
    refine z_lcmp0 hX dL_law_1047 (hv q0) ?_
    refine z_if_eq (tgt := 1053) hX dL_law_1048 (by decide) (fun _ => ?_) (fun q => absurd rfl q)
    refine z_goto (tgt := 2469) hX dL_law_1053 (by decide) ?_
    refine z_sub [2, 3, 4, 5, 6, 7] rfl ?_
    exact z_widen (by omega) (kk _ _ _ hR)
set_option maxRecDepth 100000 in
theorem bk_15 {p : Program} {l : Launch} {e : Env} {R : Room} {s : State} {m : MethodId} {args : Array Value} {below : List Frame} {meth : Method} {c : Code} {Q : State → Prop} {g : zG} {ret : Option FieldType} {mc : Nat} {κ : zKp} {μ : zMu} {ω : zOm} {k b L n : Nat} {xs : Nat → Int32} (hX : zX p l s m args meth c R g RL cL_law 9 ret 21 mc) (hl0 : l.stackTraces = false) (hx : scX s g b L xs) (h : RR κ μ) (hn : n + 5 ≤ L) (hk : k + 1 ≤ mc) (kk : ∀ κ' μ' ω', RR κ' μ' → zZ p l e R s m args below meth c g 9 Q κ' μ' ω' (k + 1) 2469 (lvL g b n) []) : zZ p l e R s m args below meth c g 9 Q κ μ ω k 1056 (lvL g b n) [] := by
  obtain ⟨κ', μ', ω', kc, bb, lv, hlv, hR, hW, hM, h2, hv⟩ := sm_lineIn l hl0 (g := g) (ω := ω) h ((xs (n + 1))) ((xs (n + 2)))
  refine z_aload_n hX dL_law_1056 1 rfl ?_
  refine z_aload_n hX dL_law_1057 0 rfl ?_
  refine z_iload hX dL_law_1058 5 rfl ?_
  refine z_iconst (v := 1) hX dL_law_1060 (by decide) ?_
  refine z_iadd hX dL_law_1061 ?_
  refine z_isv (nI_add n 1) ?_
  refine z_sld hX hx (q := n + 1) (by omega) dL_law_1062 ?_
  refine z_aload_n hX dL_law_1063 0 rfl ?_
  refine z_iload hX dL_law_1064 5 rfl ?_
  refine z_iconst (v := 2) hX dL_law_1066 (by decide) ?_
  refine z_iadd hX dL_law_1067 ?_
  refine z_isv (nI_add n 2) ?_
  refine z_sld hX hx (q := n + 2) (by omega) dL_law_1068 ?_
  refine z_aload_n hX dL_law_1069 3 rfl ?_
  refine z_callW (nA := 4) hX hW (gW_W (gW_I 758 (by decide +kernel) rfl) (gW_I 759 (by decide +kernel) rfl) (gW_I 0 (by decide +kernel) rfl) wh_lineIn ⟨by decide, by decide, by decide +kernel⟩) dL_law_1070 ⟨by decide, by decide, by omega⟩ rfl rfl (Nat.le_of_ble_eq_true rfl) ?_
  refine z_istore (lv' := _) hX dL_law_1073 (by decide) rfl ?_
  refine z_aload_n hX dL_law_1075 3 rfl ?_
  refine z_aload_n hX dL_law_1076 1 rfl ?_
  refine z_iload hX dL_law_1077 6 rfl ?_
  refine z_iconst (v := 1) hX dL_law_1079 (by decide) ?_
  refine z_iadd hX dL_law_1080 ?_
  refine z_isv (nI_add n 1) ?_
  refine z_sld hX hx (q := n + 1) (by omega) dL_law_1081 ?_
  refine z_aload_n hX dL_law_1082 1 rfl ?_
  refine z_iload hX dL_law_1083 6 rfl ?_
  refine z_iconst (v := 2) hX dL_law_1085 (by decide) ?_
  refine z_iadd hX dL_law_1086 ?_
  refine z_isv (nI_add n 2) ?_
  refine z_sld hX hx (q := n + 2) (by omega) dL_law_1087 ?_
  refine z_callV1 hX hM cv_RL_207 zRc10 dL_law_1088 ⟨by omega, by decide, by omega⟩ rfl rfl (Nat.le_of_ble_eq_true rfl) ?_
  refine z_istore (lv' := _) hX dL_law_1091 (by decide) rfl ?_
  refine z_aload_n hX dL_law_1093 4 rfl ?_
  refine z_callV1 hX (ok_X5_thrown l) cv_RL_155 zRc10 dL_law_1094 ⟨by decide, by decide, by omega⟩ rfl rfl (Nat.le_of_ble_eq_true rfl) ?_
  refine z_iload hX dL_law_1097 1 rfl ?_
  refine z_icmp_eq (tgt := 1104) hX dL_law_1099 (by decide) (fun _ => ?_) (fun q => absurd h2 q)
  refine z_iload hX dL_law_1104 1 rfl ?_
  refine z_if_ne (tgt := 1121) hX dL_law_1106 (by decide) (fun _ => ?_) (fun q0 => ?_)
  · skip
    refine z_goto (tgt := 2469) hX dL_law_1121 (by decide) ?_
    refine z_sub [2, 3, 4, 5, 6, 7] rfl ?_
    exact z_widen (by omega) (kk _ _ _ hR)
  · skip
    refine z_aload_n hX dL_law_1109 5 rfl ?_
    refine z_iconst (v := 0) hX dL_law_1110 (by decide) ?_
    refine z_lald hX dL_law_1111 ?_
    refine z_iload hX dL_law_1112 0 rfl ?_
    refine z_i2l hX dL_law_1114 ?_
    refine z_lcmp0 hX dL_law_1115 (hv q0) ?_
    refine z_if_eq (tgt := 1121) hX dL_law_1116 (by decide) (fun _ => ?_) (fun q => absurd rfl q)
    refine z_goto (tgt := 2469) hX dL_law_1121 (by decide) ?_
    refine z_sub [2, 3, 4, 5, 6, 7] rfl ?_
    exact z_widen (by omega) (kk _ _ _ hR)
set_option maxRecDepth 100000 in
theorem bk_16 {p : Program} {l : Launch} {e : Env} {R : Room} {s : State} {m : MethodId} {args : Array Value} {below : List Frame} {meth : Method} {c : Code} {Q : State → Prop} {g : zG} {ret : Option FieldType} {mc : Nat} {κ : zKp} {μ : zMu} {ω : zOm} {k b L n : Nat} {xs : Nat → Int32} (hX : zX p l s m args meth c R g RL cL_law 9 ret 21 mc) (hl0 : l.stackTraces = false) (hx : scX s g b L xs) (h : RR κ μ) (hn : n + 5 ≤ L) (hk : k + 1 ≤ mc) (kk : ∀ κ' μ' ω', RR κ' μ' → zZ p l e R s m args below meth c g 9 Q κ' μ' ω' (k + 1) 2469 (lvL g b n) []) : zZ p l e R s m args below meth c g 9 Q κ μ ω k 1124 (lvL g b n) [] := by
  obtain ⟨κ', μ', ω', kc, bb, lv, hlv, hR, hW, hM, h2, hv⟩ := sm_attackOf l hl0 (g := g) (ω := ω) h ((xs (n + 1)))
  refine z_aload_n hX dL_law_1124 1 rfl ?_
  refine z_aload_n hX dL_law_1125 0 rfl ?_
  refine z_iload hX dL_law_1126 5 rfl ?_
  refine z_iconst (v := 1) hX dL_law_1128 (by decide) ?_
  refine z_iadd hX dL_law_1129 ?_
  refine z_isv (nI_add n 1) ?_
  refine z_sld hX hx (q := n + 1) (by omega) dL_law_1130 ?_
  refine z_aload_n hX dL_law_1131 3 rfl ?_
  refine z_callW (nA := 3) hX hW (gW_W (gW_I 770 (by decide +kernel) rfl) (gW_I 771 (by decide +kernel) rfl) (gW_I 0 (by decide +kernel) rfl) wh_attackOf ⟨by decide, by decide, by decide +kernel⟩) dL_law_1132 ⟨by decide, by decide, by omega⟩ rfl rfl (Nat.le_of_ble_eq_true rfl) ?_
  refine z_istore (lv' := _) hX dL_law_1135 (by decide) rfl ?_
  refine z_aload_n hX dL_law_1137 3 rfl ?_
  refine z_aload_n hX dL_law_1138 1 rfl ?_
  refine z_iload hX dL_law_1139 6 rfl ?_
  refine z_iconst (v := 1) hX dL_law_1141 (by decide) ?_
  refine z_iadd hX dL_law_1142 ?_
  refine z_isv (nI_add n 1) ?_
  refine z_sld hX hx (q := n + 1) (by omega) dL_law_1143 ?_
  refine z_callV1 hX hM cv_RL_210 zRc10 dL_law_1144 ⟨by omega, by decide, by omega⟩ rfl rfl (Nat.le_of_ble_eq_true rfl) ?_
  refine z_istore (lv' := _) hX dL_law_1147 (by decide) rfl ?_
  refine z_aload_n hX dL_law_1149 4 rfl ?_
  refine z_callV1 hX (ok_X5_thrown l) cv_RL_155 zRc10 dL_law_1150 ⟨by decide, by decide, by omega⟩ rfl rfl (Nat.le_of_ble_eq_true rfl) ?_
  refine z_iload hX dL_law_1153 1 rfl ?_
  refine z_icmp_eq (tgt := 1160) hX dL_law_1155 (by decide) (fun _ => ?_) (fun q => absurd h2 q)
  refine z_iload hX dL_law_1160 1 rfl ?_
  refine z_if_ne (tgt := 1177) hX dL_law_1162 (by decide) (fun _ => ?_) (fun q0 => ?_)
  · skip
    refine z_goto (tgt := 2469) hX dL_law_1177 (by decide) ?_
    refine z_sub [2, 3, 4, 5, 6, 7] rfl ?_
    exact z_widen (by omega) (kk _ _ _ hR)
  · skip
    refine z_aload_n hX dL_law_1165 5 rfl ?_
    refine z_iconst (v := 0) hX dL_law_1166 (by decide) ?_
    refine z_lald hX dL_law_1167 ?_
    refine z_iload hX dL_law_1168 0 rfl ?_
    refine z_i2l hX dL_law_1170 ?_
    refine z_lcmp0 hX dL_law_1171 (hv q0) ?_
    refine z_if_eq (tgt := 1177) hX dL_law_1172 (by decide) (fun _ => ?_) (fun q => absurd rfl q)
    refine z_goto (tgt := 2469) hX dL_law_1177 (by decide) ?_
    refine z_sub [2, 3, 4, 5, 6, 7] rfl ?_
    exact z_widen (by omega) (kk _ _ _ hR)
set_option maxRecDepth 100000 in
theorem bk_17 {p : Program} {l : Launch} {e : Env} {R : Room} {s : State} {m : MethodId} {args : Array Value} {below : List Frame} {meth : Method} {c : Code} {Q : State → Prop} {g : zG} {ret : Option FieldType} {mc : Nat} {κ : zKp} {μ : zMu} {ω : zOm} {k b L n : Nat} {xs : Nat → Int32} (hX : zX p l s m args meth c R g RL cL_law 9 ret 21 mc) (hl0 : l.stackTraces = false) (hx : scX s g b L xs) (h : RR κ μ) (hn : n + 5 ≤ L) (hk : k + 1 ≤ mc) (kk : ∀ κ' μ' ω', RR κ' μ' → zZ p l e R s m args below meth c g 9 Q κ' μ' ω' (k + 1) 2469 (lvL g b n) []) : zZ p l e R s m args below meth c g 9 Q κ μ ω k 1180 (lvL g b n) [] := by
  obtain ⟨κ', μ', ω', kc, bb, lv, hlv, hR, hW, hM, h2, hv⟩ := sm_counterOf l hl0 (g := g) (ω := ω) h ((xs (n + 1)))
  refine z_aload_n hX dL_law_1180 1 rfl ?_
  refine z_aload_n hX dL_law_1181 0 rfl ?_
  refine z_iload hX dL_law_1182 5 rfl ?_
  refine z_iconst (v := 1) hX dL_law_1184 (by decide) ?_
  refine z_iadd hX dL_law_1185 ?_
  refine z_isv (nI_add n 1) ?_
  refine z_sld hX hx (q := n + 1) (by omega) dL_law_1186 ?_
  refine z_aload_n hX dL_law_1187 3 rfl ?_
  refine z_callW (nA := 3) hX hW (gW_W (gW_I 778 (by decide +kernel) rfl) (gW_I 779 (by decide +kernel) rfl) (gW_I 0 (by decide +kernel) rfl) wh_counterOf ⟨by decide, by decide, by decide +kernel⟩) dL_law_1188 ⟨by decide, by decide, by omega⟩ rfl rfl (Nat.le_of_ble_eq_true rfl) ?_
  refine z_istore (lv' := _) hX dL_law_1191 (by decide) rfl ?_
  refine z_aload_n hX dL_law_1193 3 rfl ?_
  refine z_aload_n hX dL_law_1194 1 rfl ?_
  refine z_iload hX dL_law_1195 6 rfl ?_
  refine z_iconst (v := 1) hX dL_law_1197 (by decide) ?_
  refine z_iadd hX dL_law_1198 ?_
  refine z_isv (nI_add n 1) ?_
  refine z_sld hX hx (q := n + 1) (by omega) dL_law_1199 ?_
  refine z_callV1 hX hM cv_RL_213 zRc10 dL_law_1200 ⟨by omega, by decide, by omega⟩ rfl rfl (Nat.le_of_ble_eq_true rfl) ?_
  refine z_istore (lv' := _) hX dL_law_1203 (by decide) rfl ?_
  refine z_aload_n hX dL_law_1205 4 rfl ?_
  refine z_callV1 hX (ok_X5_thrown l) cv_RL_155 zRc10 dL_law_1206 ⟨by decide, by decide, by omega⟩ rfl rfl (Nat.le_of_ble_eq_true rfl) ?_
  refine z_iload hX dL_law_1209 1 rfl ?_
  refine z_icmp_eq (tgt := 1216) hX dL_law_1211 (by decide) (fun _ => ?_) (fun q => absurd h2 q)
  refine z_iload hX dL_law_1216 1 rfl ?_
  refine z_if_ne (tgt := 1233) hX dL_law_1218 (by decide) (fun _ => ?_) (fun q0 => ?_)
  · skip
    refine z_goto (tgt := 2469) hX dL_law_1233 (by decide) ?_
    refine z_sub [2, 3, 4, 5, 6, 7] rfl ?_
    exact z_widen (by omega) (kk _ _ _ hR)
  · skip
    refine z_aload_n hX dL_law_1221 5 rfl ?_
    refine z_iconst (v := 0) hX dL_law_1222 (by decide) ?_
    refine z_lald hX dL_law_1223 ?_
    refine z_iload hX dL_law_1224 0 rfl ?_
    refine z_i2l hX dL_law_1226 ?_
    refine z_lcmp0 hX dL_law_1227 (hv q0) ?_
    refine z_if_eq (tgt := 1233) hX dL_law_1228 (by decide) (fun _ => ?_) (fun q => absurd rfl q)
    refine z_goto (tgt := 2469) hX dL_law_1233 (by decide) ?_
    refine z_sub [2, 3, 4, 5, 6, 7] rfl ?_
    exact z_widen (by omega) (kk _ _ _ hR)
set_option maxRecDepth 100000 in
theorem bk_18 {p : Program} {l : Launch} {e : Env} {R : Room} {s : State} {m : MethodId} {args : Array Value} {below : List Frame} {meth : Method} {c : Code} {Q : State → Prop} {g : zG} {ret : Option FieldType} {mc : Nat} {κ : zKp} {μ : zMu} {ω : zOm} {k b L n : Nat} {xs : Nat → Int32} (hX : zX p l s m args meth c R g RL cL_law 9 ret 21 mc) (hl0 : l.stackTraces = false) (hx : scX s g b L xs) (h : RR κ μ) (hn : n + 5 ≤ L) (hk : k + 1 ≤ mc) (kk : ∀ κ' μ' ω', RR κ' μ' → zZ p l e R s m args below meth c g 9 Q κ' μ' ω' (k + 1) 2469 (lvL g b n) []) : zZ p l e R s m args below meth c g 9 Q κ μ ω k 1236 (lvL g b n) [] := by
  obtain ⟨κ', μ', ω', kc, bb, lv, hlv, hR, hW, hM, h2, hv⟩ := sm_supportOf l hl0 (g := g) (ω := ω) h ((xs (n + 1)))
  refine z_aload_n hX dL_law_1236 1 rfl ?_
  refine z_aload_n hX dL_law_1237 0 rfl ?_
  refine z_iload hX dL_law_1238 5 rfl ?_
  refine z_iconst (v := 1) hX dL_law_1240 (by decide) ?_
  refine z_iadd hX dL_law_1241 ?_
  refine z_isv (nI_add n 1) ?_
  refine z_sld hX hx (q := n + 1) (by omega) dL_law_1242 ?_
  refine z_aload_n hX dL_law_1243 3 rfl ?_
  refine z_callW (nA := 3) hX hW (gW_W (gW_I 786 (by decide +kernel) rfl) (gW_I 787 (by decide +kernel) rfl) (gW_I 0 (by decide +kernel) rfl) wh_supportOf ⟨by decide, by decide, by decide +kernel⟩) dL_law_1244 ⟨by decide, by decide, by omega⟩ rfl rfl (Nat.le_of_ble_eq_true rfl) ?_
  refine z_istore (lv' := _) hX dL_law_1247 (by decide) rfl ?_
  refine z_aload_n hX dL_law_1249 3 rfl ?_
  refine z_aload_n hX dL_law_1250 1 rfl ?_
  refine z_iload hX dL_law_1251 6 rfl ?_
  refine z_iconst (v := 1) hX dL_law_1253 (by decide) ?_
  refine z_iadd hX dL_law_1254 ?_
  refine z_isv (nI_add n 1) ?_
  refine z_sld hX hx (q := n + 1) (by omega) dL_law_1255 ?_
  refine z_callV1 hX hM cv_RL_216 zRc10 dL_law_1256 ⟨by omega, by decide, by omega⟩ rfl rfl (Nat.le_of_ble_eq_true rfl) ?_
  refine z_istore (lv' := _) hX dL_law_1259 (by decide) rfl ?_
  refine z_aload_n hX dL_law_1261 4 rfl ?_
  refine z_callV1 hX (ok_X5_thrown l) cv_RL_155 zRc10 dL_law_1262 ⟨by decide, by decide, by omega⟩ rfl rfl (Nat.le_of_ble_eq_true rfl) ?_
  refine z_iload hX dL_law_1265 1 rfl ?_
  refine z_icmp_eq (tgt := 1272) hX dL_law_1267 (by decide) (fun _ => ?_) (fun q => absurd h2 q)
  refine z_iload hX dL_law_1272 1 rfl ?_
  refine z_if_ne (tgt := 1289) hX dL_law_1274 (by decide) (fun _ => ?_) (fun q0 => ?_)
  · skip
    refine z_goto (tgt := 2469) hX dL_law_1289 (by decide) ?_
    refine z_sub [2, 3, 4, 5, 6, 7] rfl ?_
    exact z_widen (by omega) (kk _ _ _ hR)
  · skip
    refine z_aload_n hX dL_law_1277 5 rfl ?_
    refine z_iconst (v := 0) hX dL_law_1278 (by decide) ?_
    refine z_lald hX dL_law_1279 ?_
    refine z_iload hX dL_law_1280 0 rfl ?_
    refine z_i2l hX dL_law_1282 ?_
    refine z_lcmp0 hX dL_law_1283 (hv q0) ?_
    refine z_if_eq (tgt := 1289) hX dL_law_1284 (by decide) (fun _ => ?_) (fun q => absurd rfl q)
    refine z_goto (tgt := 2469) hX dL_law_1289 (by decide) ?_
    refine z_sub [2, 3, 4, 5, 6, 7] rfl ?_
    exact z_widen (by omega) (kk _ _ _ hR)
set_option maxRecDepth 100000 in
theorem bk_19 {p : Program} {l : Launch} {e : Env} {R : Room} {s : State} {m : MethodId} {args : Array Value} {below : List Frame} {meth : Method} {c : Code} {Q : State → Prop} {g : zG} {ret : Option FieldType} {mc : Nat} {κ : zKp} {μ : zMu} {ω : zOm} {k b L n : Nat} {xs : Nat → Int32} (hX : zX p l s m args meth c R g RL cL_law 9 ret 21 mc) (hl0 : l.stackTraces = false) (hx : scX s g b L xs) (h : RR κ μ) (hn : n + 5 ≤ L) (hk : k + 1 ≤ mc) (kk : ∀ κ' μ' ω', RR κ' μ' → zZ p l e R s m args below meth c g 9 Q κ' μ' ω' (k + 1) 2469 (lvL g b n) []) : zZ p l e R s m args below meth c g 9 Q κ μ ω k 1292 (lvL g b n) [] := by
  obtain ⟨κ', μ', ω', kc, bb, lv, hlv, hR, hW, hM, h2, hv⟩ := sm_supportByLines l hl0 (g := g) (ω := ω) h ((xs (n + 1)))
  refine z_aload_n hX dL_law_1292 1 rfl ?_
  refine z_aload_n hX dL_law_1293 0 rfl ?_
  refine z_iload hX dL_law_1294 5 rfl ?_
  refine z_iconst (v := 1) hX dL_law_1296 (by decide) ?_
  refine z_iadd hX dL_law_1297 ?_
  refine z_isv (nI_add n 1) ?_
  refine z_sld hX hx (q := n + 1) (by omega) dL_law_1298 ?_
  refine z_aload_n hX dL_law_1299 3 rfl ?_
  refine z_callW (nA := 3) hX hW (gW_W (gW_I 794 (by decide +kernel) rfl) (gW_I 795 (by decide +kernel) rfl) (gW_I 0 (by decide +kernel) rfl) wh_supportByLines ⟨by decide, by decide, by decide +kernel⟩) dL_law_1300 ⟨by decide, by decide, by omega⟩ rfl rfl (Nat.le_of_ble_eq_true rfl) ?_
  refine z_istore (lv' := _) hX dL_law_1303 (by decide) rfl ?_
  refine z_aload_n hX dL_law_1305 3 rfl ?_
  refine z_aload_n hX dL_law_1306 1 rfl ?_
  refine z_iload hX dL_law_1307 6 rfl ?_
  refine z_iconst (v := 1) hX dL_law_1309 (by decide) ?_
  refine z_iadd hX dL_law_1310 ?_
  refine z_isv (nI_add n 1) ?_
  refine z_sld hX hx (q := n + 1) (by omega) dL_law_1311 ?_
  refine z_callV1 hX hM cv_RL_219 zRc10 dL_law_1312 ⟨by omega, by decide, by omega⟩ rfl rfl (Nat.le_of_ble_eq_true rfl) ?_
  refine z_istore (lv' := _) hX dL_law_1315 (by decide) rfl ?_
  refine z_aload_n hX dL_law_1317 4 rfl ?_
  refine z_callV1 hX (ok_X5_thrown l) cv_RL_155 zRc10 dL_law_1318 ⟨by decide, by decide, by omega⟩ rfl rfl (Nat.le_of_ble_eq_true rfl) ?_
  refine z_iload hX dL_law_1321 1 rfl ?_
  refine z_icmp_eq (tgt := 1328) hX dL_law_1323 (by decide) (fun _ => ?_) (fun q => absurd h2 q)
  refine z_iload hX dL_law_1328 1 rfl ?_
  refine z_if_ne (tgt := 1345) hX dL_law_1330 (by decide) (fun _ => ?_) (fun q0 => ?_)
  · skip
    refine z_goto (tgt := 2469) hX dL_law_1345 (by decide) ?_
    refine z_sub [2, 3, 4, 5, 6, 7] rfl ?_
    exact z_widen (by omega) (kk _ _ _ hR)
  · skip
    refine z_aload_n hX dL_law_1333 5 rfl ?_
    refine z_iconst (v := 0) hX dL_law_1334 (by decide) ?_
    refine z_lald hX dL_law_1335 ?_
    refine z_iload hX dL_law_1336 0 rfl ?_
    refine z_i2l hX dL_law_1338 ?_
    refine z_lcmp0 hX dL_law_1339 (hv q0) ?_
    refine z_if_eq (tgt := 1345) hX dL_law_1340 (by decide) (fun _ => ?_) (fun q => absurd rfl q)
    refine z_goto (tgt := 2469) hX dL_law_1345 (by decide) ?_
    refine z_sub [2, 3, 4, 5, 6, 7] rfl ?_
    exact z_widen (by omega) (kk _ _ _ hR)
set_option maxRecDepth 100000 in
theorem bk_20 {p : Program} {l : Launch} {e : Env} {R : Room} {s : State} {m : MethodId} {args : Array Value} {below : List Frame} {meth : Method} {c : Code} {Q : State → Prop} {g : zG} {ret : Option FieldType} {mc : Nat} {κ : zKp} {μ : zMu} {ω : zOm} {k b L n : Nat} {xs : Nat → Int32} (hX : zX p l s m args meth c R g RL cL_law 9 ret 21 mc) (hl0 : l.stackTraces = false) (hx : scX s g b L xs) (h : RR κ μ) (hn : n + 5 ≤ L) (hk : k + 1 ≤ mc) (kk : ∀ κ' μ' ω', RR κ' μ' → zZ p l e R s m args below meth c g 9 Q κ' μ' ω' (k + 1) 2469 (lvL g b n) []) : zZ p l e R s m args below meth c g 9 Q κ μ ω k 1348 (lvL g b n) [] := by
  obtain ⟨κ', μ', ω', kc, bb, lv, hlv, hR, hW, hM, h2, hv⟩ := sm_enemyAhead l hl0 (g := g) (ω := ω) h ((xs (n + 1)))
  refine z_aload_n hX dL_law_1348 1 rfl ?_
  refine z_aload_n hX dL_law_1349 0 rfl ?_
  refine z_iload hX dL_law_1350 5 rfl ?_
  refine z_iconst (v := 1) hX dL_law_1352 (by decide) ?_
  refine z_iadd hX dL_law_1353 ?_
  refine z_isv (nI_add n 1) ?_
  refine z_sld hX hx (q := n + 1) (by omega) dL_law_1354 ?_
  refine z_aload_n hX dL_law_1355 3 rfl ?_
  refine z_callW (nA := 3) hX hW (gW_W (gW_I 802 (by decide +kernel) rfl) (gW_I 803 (by decide +kernel) rfl) (gW_I 0 (by decide +kernel) rfl) wh_enemyAhead ⟨by decide, by decide, by decide +kernel⟩) dL_law_1356 ⟨by decide, by decide, by omega⟩ rfl rfl (Nat.le_of_ble_eq_true rfl) ?_
  refine z_istore (lv' := _) hX dL_law_1359 (by decide) rfl ?_
  refine z_aload_n hX dL_law_1361 3 rfl ?_
  refine z_aload_n hX dL_law_1362 1 rfl ?_
  refine z_iload hX dL_law_1363 6 rfl ?_
  refine z_iconst (v := 1) hX dL_law_1365 (by decide) ?_
  refine z_iadd hX dL_law_1366 ?_
  refine z_isv (nI_add n 1) ?_
  refine z_sld hX hx (q := n + 1) (by omega) dL_law_1367 ?_
  refine z_callV1 hX hM cv_RL_222 zRc10 dL_law_1368 ⟨by omega, by decide, by omega⟩ rfl rfl (Nat.le_of_ble_eq_true rfl) ?_
  refine z_istore (lv' := _) hX dL_law_1371 (by decide) rfl ?_
  refine z_aload_n hX dL_law_1373 4 rfl ?_
  refine z_callV1 hX (ok_X5_thrown l) cv_RL_155 zRc10 dL_law_1374 ⟨by decide, by decide, by omega⟩ rfl rfl (Nat.le_of_ble_eq_true rfl) ?_
  refine z_iload hX dL_law_1377 1 rfl ?_
  refine z_icmp_eq (tgt := 1384) hX dL_law_1379 (by decide) (fun _ => ?_) (fun q => absurd h2 q)
  refine z_iload hX dL_law_1384 1 rfl ?_
  refine z_if_ne (tgt := 1401) hX dL_law_1386 (by decide) (fun _ => ?_) (fun q0 => ?_)
  · skip
    refine z_goto (tgt := 2469) hX dL_law_1401 (by decide) ?_
    refine z_sub [2, 3, 4, 5, 6, 7] rfl ?_
    exact z_widen (by omega) (kk _ _ _ hR)
  · skip
    refine z_aload_n hX dL_law_1389 5 rfl ?_
    refine z_iconst (v := 0) hX dL_law_1390 (by decide) ?_
    refine z_lald hX dL_law_1391 ?_
    refine z_iload hX dL_law_1392 0 rfl ?_
    refine z_i2l hX dL_law_1394 ?_
    refine z_lcmp0 hX dL_law_1395 (hv q0) ?_
    refine z_if_eq (tgt := 1401) hX dL_law_1396 (by decide) (fun _ => ?_) (fun q => absurd rfl q)
    refine z_goto (tgt := 2469) hX dL_law_1401 (by decide) ?_
    refine z_sub [2, 3, 4, 5, 6, 7] rfl ?_
    exact z_widen (by omega) (kk _ _ _ hR)
set_option maxRecDepth 100000 in
theorem bk_21 {p : Program} {l : Launch} {e : Env} {R : Room} {s : State} {m : MethodId} {args : Array Value} {below : List Frame} {meth : Method} {c : Code} {Q : State → Prop} {g : zG} {ret : Option FieldType} {mc : Nat} {κ : zKp} {μ : zMu} {ω : zOm} {k b L n : Nat} {xs : Nat → Int32} (hX : zX p l s m args meth c R g RL cL_law 9 ret 21 mc) (hl0 : l.stackTraces = false) (hx : scX s g b L xs) (h : RR κ μ) (hn : n + 5 ≤ L) (hk : k + 1 ≤ mc) (kk : ∀ κ' μ' ω', RR κ' μ' → zZ p l e R s m args below meth c g 9 Q κ' μ' ω' (k + 1) 2469 (lvL g b n) []) : zZ p l e R s m args below meth c g 9 Q κ μ ω k 1404 (lvL g b n) [] := by
  obtain ⟨κ', μ', ω', kc, bb, lv, hlv, hR, hW, hM, h2, hv⟩ := sm_enemyByDistances l hl0 (g := g) (ω := ω) h ((xs (n + 1)))
  refine z_aload_n hX dL_law_1404 1 rfl ?_
  refine z_aload_n hX dL_law_1405 0 rfl ?_
  refine z_iload hX dL_law_1406 5 rfl ?_
  refine z_iconst (v := 1) hX dL_law_1408 (by decide) ?_
  refine z_iadd hX dL_law_1409 ?_
  refine z_isv (nI_add n 1) ?_
  refine z_sld hX hx (q := n + 1) (by omega) dL_law_1410 ?_
  refine z_aload_n hX dL_law_1411 3 rfl ?_
  refine z_callW (nA := 3) hX hW (gW_W (gW_I 811 (by decide +kernel) rfl) (gW_I 812 (by decide +kernel) rfl) (gW_I 0 (by decide +kernel) rfl) wh_enemyByDistances ⟨by decide, by decide, by decide +kernel⟩) dL_law_1412 ⟨by decide, by decide, by omega⟩ rfl rfl (Nat.le_of_ble_eq_true rfl) ?_
  refine z_istore (lv' := _) hX dL_law_1415 (by decide) rfl ?_
  refine z_aload_n hX dL_law_1417 3 rfl ?_
  refine z_aload_n hX dL_law_1418 1 rfl ?_
  refine z_iload hX dL_law_1419 6 rfl ?_
  refine z_iconst (v := 1) hX dL_law_1421 (by decide) ?_
  refine z_iadd hX dL_law_1422 ?_
  refine z_isv (nI_add n 1) ?_
  refine z_sld hX hx (q := n + 1) (by omega) dL_law_1423 ?_
  refine z_callV1 hX hM cv_RL_225 zRc10 dL_law_1424 ⟨by omega, by decide, by omega⟩ rfl rfl (Nat.le_of_ble_eq_true rfl) ?_
  refine z_istore (lv' := _) hX dL_law_1427 (by decide) rfl ?_
  refine z_aload_n hX dL_law_1429 4 rfl ?_
  refine z_callV1 hX (ok_X5_thrown l) cv_RL_155 zRc10 dL_law_1430 ⟨by decide, by decide, by omega⟩ rfl rfl (Nat.le_of_ble_eq_true rfl) ?_
  refine z_iload hX dL_law_1433 1 rfl ?_
  refine z_icmp_eq (tgt := 1440) hX dL_law_1435 (by decide) (fun _ => ?_) (fun q => absurd h2 q)
  refine z_iload hX dL_law_1440 1 rfl ?_
  refine z_if_ne (tgt := 1457) hX dL_law_1442 (by decide) (fun _ => ?_) (fun q0 => ?_)
  · skip
    refine z_goto (tgt := 2469) hX dL_law_1457 (by decide) ?_
    refine z_sub [2, 3, 4, 5, 6, 7] rfl ?_
    exact z_widen (by omega) (kk _ _ _ hR)
  · skip
    refine z_aload_n hX dL_law_1445 5 rfl ?_
    refine z_iconst (v := 0) hX dL_law_1446 (by decide) ?_
    refine z_lald hX dL_law_1447 ?_
    refine z_iload hX dL_law_1448 0 rfl ?_
    refine z_i2l hX dL_law_1450 ?_
    refine z_lcmp0 hX dL_law_1451 (hv q0) ?_
    refine z_if_eq (tgt := 1457) hX dL_law_1452 (by decide) (fun _ => ?_) (fun q => absurd rfl q)
    refine z_goto (tgt := 2469) hX dL_law_1457 (by decide) ?_
    refine z_sub [2, 3, 4, 5, 6, 7] rfl ?_
    exact z_widen (by omega) (kk _ _ _ hR)
set_option maxRecDepth 100000 in
theorem bk_22 {p : Program} {l : Launch} {e : Env} {R : Room} {s : State} {m : MethodId} {args : Array Value} {below : List Frame} {meth : Method} {c : Code} {Q : State → Prop} {g : zG} {ret : Option FieldType} {mc : Nat} {κ : zKp} {μ : zMu} {ω : zOm} {k b L n : Nat} {xs : Nat → Int32} (hX : zX p l s m args meth c R g RL cL_law 9 ret 21 mc) (hl0 : l.stackTraces = false) (hx : scX s g b L xs) (h : RR κ μ) (hn : n + 5 ≤ L) (hk : k + 1 ≤ mc) (kk : ∀ κ' μ' ω', RR κ' μ' → zZ p l e R s m args below meth c g 9 Q κ' μ' ω' (k + 1) 2469 (lvL g b n) []) : zZ p l e R s m args below meth c g 9 Q κ μ ω k 1460 (lvL g b n) [] := by
  obtain ⟨κ', μ', bb, lx, lm, hlx, hlm, hR, hM1, hM2⟩ := sb_fightCount l (g := g) (ω := ω) h
  refine z_aload_n hX dL_law_1460 1 rfl ?_
  refine z_callV1 hX hM1 cv_RL_226 zRc0 dL_law_1461 ⟨by omega, by decide, by omega⟩ rfl rfl (Nat.le_of_ble_eq_true rfl) ?_
  refine z_aload_n hX dL_law_1464 2 rfl ?_
  refine z_callV1 hX hM2 cv_RL_229 zRc10 dL_law_1465 ⟨by omega, by decide, by omega⟩ rfl rfl (Nat.le_of_ble_eq_true rfl) ?_
  refine z_icmp_eq (tgt := 2469) hX dL_law_1468 (by decide) (fun _ => z_widen (by omega) (kk κ' μ' ω hR)) (fun q => absurd rfl q)
set_option maxRecDepth 100000 in
theorem bk_23 {p : Program} {l : Launch} {e : Env} {R : Room} {s : State} {m : MethodId} {args : Array Value} {below : List Frame} {meth : Method} {c : Code} {Q : State → Prop} {g : zG} {ret : Option FieldType} {mc : Nat} {κ : zKp} {μ : zMu} {ω : zOm} {k b L n : Nat} {xs : Nat → Int32} (hX : zX p l s m args meth c R g RL cL_law 9 ret 21 mc) (hl0 : l.stackTraces = false) (hx : scX s g b L xs) (h : RR κ μ) (hn : n + 5 ≤ L) (hk : k + 1 ≤ mc) (kk : ∀ κ' μ' ω', RR κ' μ' → zZ p l e R s m args below meth c g 9 Q κ' μ' ω' (k + 1) 2469 (lvL g b n) []) : zZ p l e R s m args below meth c g 9 Q κ μ ω k 1473 (lvL g b n) [] := by
  obtain ⟨κ', μ', ω', kc, bb, lv, hlv, hR, hW, hM, h2, hv⟩ := sm_turnsUntilFight l hl0 (g := g) (ω := ω) h
  refine z_aload_n hX dL_law_1473 1 rfl ?_
  refine z_aload_n hX dL_law_1474 3 rfl ?_
  refine z_callW (nA := 2) hX hW (gW_W (gW_I 819 (by decide +kernel) rfl) (gW_I 820 (by decide +kernel) rfl) (gW_I 0 (by decide +kernel) rfl) wh_turnsUntilFight ⟨by decide, by decide, by decide +kernel⟩) dL_law_1475 ⟨by decide, by decide, by omega⟩ rfl rfl (Nat.le_of_ble_eq_true rfl) ?_
  refine z_istore (lv' := _) hX dL_law_1478 (by decide) rfl ?_
  refine z_aload_n hX dL_law_1480 3 rfl ?_
  refine z_callV1 hX hM cv_RL_233 zRc10 dL_law_1481 ⟨by omega, by decide, by omega⟩ rfl rfl (Nat.le_of_ble_eq_true rfl) ?_
  refine z_istore (lv' := _) hX dL_law_1484 (by decide) rfl ?_
  refine z_aload_n hX dL_law_1486 4 rfl ?_
  refine z_callV1 hX (ok_X5_thrown l) cv_RL_155 zRc10 dL_law_1487 ⟨by decide, by decide, by omega⟩ rfl rfl (Nat.le_of_ble_eq_true rfl) ?_
  refine z_iload hX dL_law_1490 1 rfl ?_
  refine z_icmp_eq (tgt := 1497) hX dL_law_1492 (by decide) (fun _ => ?_) (fun q => absurd h2 q)
  refine z_iload hX dL_law_1497 1 rfl ?_
  refine z_if_ne (tgt := 1514) hX dL_law_1499 (by decide) (fun _ => ?_) (fun q0 => ?_)
  · skip
    refine z_goto (tgt := 2469) hX dL_law_1514 (by decide) ?_
    refine z_sub [2, 3, 4, 5, 6, 7] rfl ?_
    exact z_widen (by omega) (kk _ _ _ hR)
  · skip
    refine z_aload_n hX dL_law_1502 5 rfl ?_
    refine z_iconst (v := 0) hX dL_law_1503 (by decide) ?_
    refine z_lald hX dL_law_1504 ?_
    refine z_iload hX dL_law_1505 0 rfl ?_
    refine z_i2l hX dL_law_1507 ?_
    refine z_lcmp0 hX dL_law_1508 (hv q0) ?_
    refine z_if_eq (tgt := 1514) hX dL_law_1509 (by decide) (fun _ => ?_) (fun q => absurd rfl q)
    refine z_goto (tgt := 2469) hX dL_law_1514 (by decide) ?_
    refine z_sub [2, 3, 4, 5, 6, 7] rfl ?_
    exact z_widen (by omega) (kk _ _ _ hR)
set_option maxRecDepth 100000 in
theorem bk_24 {p : Program} {l : Launch} {e : Env} {R : Room} {s : State} {m : MethodId} {args : Array Value} {below : List Frame} {meth : Method} {c : Code} {Q : State → Prop} {g : zG} {ret : Option FieldType} {mc : Nat} {κ : zKp} {μ : zMu} {ω : zOm} {k b L n : Nat} {xs : Nat → Int32} (hX : zX p l s m args meth c R g RL cL_law 9 ret 21 mc) (hl0 : l.stackTraces = false) (hx : scX s g b L xs) (h : RR κ μ) (hn : n + 5 ≤ L) (hk : k + 1 ≤ mc) (kk : ∀ κ' μ' ω', RR κ' μ' → zZ p l e R s m args below meth c g 9 Q κ' μ' ω' (k + 1) 2469 (lvL g b n) []) : zZ p l e R s m args below meth c g 9 Q κ μ ω k 1517 (lvL g b n) [] := by
  obtain ⟨κ', μ', ω', kc, bb, lv, hlv, hR, hW, hM, h2, hv⟩ := sm_jarsOf l hl0 (g := g) (ω := ω) h ((xs (n + 1)))
  refine z_aload_n hX dL_law_1517 1 rfl ?_
  refine z_aload_n hX dL_law_1518 0 rfl ?_
  refine z_iload hX dL_law_1519 5 rfl ?_
  refine z_iconst (v := 1) hX dL_law_1521 (by decide) ?_
  refine z_iadd hX dL_law_1522 ?_
  refine z_isv (nI_add n 1) ?_
  refine z_sld hX hx (q := n + 1) (by omega) dL_law_1523 ?_
  refine z_aload_n hX dL_law_1524 3 rfl ?_
  refine z_callW (nA := 3) hX hW (gW_W (gW_I 827 (by decide +kernel) rfl) (gW_I 828 (by decide +kernel) rfl) (gW_I 0 (by decide +kernel) rfl) wh_jarsOf ⟨by decide, by decide, by decide +kernel⟩) dL_law_1525 ⟨by decide, by decide, by omega⟩ rfl rfl (Nat.le_of_ble_eq_true rfl) ?_
  refine z_istore (lv' := _) hX dL_law_1528 (by decide) rfl ?_
  refine z_aload_n hX dL_law_1530 3 rfl ?_
  refine z_aload_n hX dL_law_1531 1 rfl ?_
  refine z_iload hX dL_law_1532 6 rfl ?_
  refine z_iconst (v := 1) hX dL_law_1534 (by decide) ?_
  refine z_iadd hX dL_law_1535 ?_
  refine z_isv (nI_add n 1) ?_
  refine z_sld hX hx (q := n + 1) (by omega) dL_law_1536 ?_
  refine z_callV1 hX hM cv_RL_236 zRc10 dL_law_1537 ⟨by omega, by decide, by omega⟩ rfl rfl (Nat.le_of_ble_eq_true rfl) ?_
  refine z_istore (lv' := _) hX dL_law_1540 (by decide) rfl ?_
  refine z_aload_n hX dL_law_1542 4 rfl ?_
  refine z_callV1 hX (ok_X5_thrown l) cv_RL_155 zRc10 dL_law_1543 ⟨by decide, by decide, by omega⟩ rfl rfl (Nat.le_of_ble_eq_true rfl) ?_
  refine z_iload hX dL_law_1546 1 rfl ?_
  refine z_icmp_eq (tgt := 1553) hX dL_law_1548 (by decide) (fun _ => ?_) (fun q => absurd h2 q)
  refine z_iload hX dL_law_1553 1 rfl ?_
  refine z_if_ne (tgt := 1570) hX dL_law_1555 (by decide) (fun _ => ?_) (fun q0 => ?_)
  · skip
    refine z_goto (tgt := 2469) hX dL_law_1570 (by decide) ?_
    refine z_sub [2, 3, 4, 5, 6, 7] rfl ?_
    exact z_widen (by omega) (kk _ _ _ hR)
  · skip
    refine z_aload_n hX dL_law_1558 5 rfl ?_
    refine z_iconst (v := 0) hX dL_law_1559 (by decide) ?_
    refine z_lald hX dL_law_1560 ?_
    refine z_iload hX dL_law_1561 0 rfl ?_
    refine z_i2l hX dL_law_1563 ?_
    refine z_lcmp0 hX dL_law_1564 (hv q0) ?_
    refine z_if_eq (tgt := 1570) hX dL_law_1565 (by decide) (fun _ => ?_) (fun q => absurd rfl q)
    refine z_goto (tgt := 2469) hX dL_law_1570 (by decide) ?_
    refine z_sub [2, 3, 4, 5, 6, 7] rfl ?_
    exact z_widen (by omega) (kk _ _ _ hR)
set_option maxRecDepth 100000 in
theorem bk_25 {p : Program} {l : Launch} {e : Env} {R : Room} {s : State} {m : MethodId} {args : Array Value} {below : List Frame} {meth : Method} {c : Code} {Q : State → Prop} {g : zG} {ret : Option FieldType} {mc : Nat} {κ : zKp} {μ : zMu} {ω : zOm} {k b L n : Nat} {xs : Nat → Int32} (hX : zX p l s m args meth c R g RL cL_law 9 ret 21 mc) (hl0 : l.stackTraces = false) (hx : scX s g b L xs) (h : RR κ μ) (hn : n + 5 ≤ L) (hk : k + 1 ≤ mc) (kk : ∀ κ' μ' ω', RR κ' μ' → zZ p l e R s m args below meth c g 9 Q κ' μ' ω' (k + 1) 2469 (lvL g b n) []) : zZ p l e R s m args below meth c g 9 Q κ μ ω k 1573 (lvL g b n) [] := by
  obtain ⟨κ', μ', ω', kc, bb, lv, hlv, hR, hW, hM, h2, hv⟩ := sm_strengthOfSide l hl0 (g := g) (ω := ω) h ((xs (n + 1)))
  refine z_aload_n hX dL_law_1573 1 rfl ?_
  refine z_aload_n hX dL_law_1574 0 rfl ?_
  refine z_iload hX dL_law_1575 5 rfl ?_
  refine z_iconst (v := 1) hX dL_law_1577 (by decide) ?_
  refine z_iadd hX dL_law_1578 ?_
  refine z_isv (nI_add n 1) ?_
  refine z_sld hX hx (q := n + 1) (by omega) dL_law_1579 ?_
  refine z_aload_n hX dL_law_1580 3 rfl ?_
  refine z_callW (nA := 3) hX hW (gW_W (gW_I 840 (by decide +kernel) rfl) (gW_I 841 (by decide +kernel) rfl) (gW_I 0 (by decide +kernel) rfl) wh_strengthOfSide ⟨by decide, by decide, by decide +kernel⟩) dL_law_1581 ⟨by decide, by decide, by omega⟩ rfl rfl (Nat.le_of_ble_eq_true rfl) ?_
  refine z_istore (lv' := _) hX dL_law_1584 (by decide) rfl ?_
  refine z_aload_n hX dL_law_1586 3 rfl ?_
  refine z_aload_n hX dL_law_1587 1 rfl ?_
  refine z_iload hX dL_law_1588 6 rfl ?_
  refine z_iconst (v := 1) hX dL_law_1590 (by decide) ?_
  refine z_iadd hX dL_law_1591 ?_
  refine z_isv (nI_add n 1) ?_
  refine z_sld hX hx (q := n + 1) (by omega) dL_law_1592 ?_
  refine z_callV1 hX hM cv_RL_239 zRc10 dL_law_1593 ⟨by omega, by decide, by omega⟩ rfl rfl (Nat.le_of_ble_eq_true rfl) ?_
  refine z_istore (lv' := _) hX dL_law_1596 (by decide) rfl ?_
  refine z_aload_n hX dL_law_1598 4 rfl ?_
  refine z_callV1 hX (ok_X5_thrown l) cv_RL_155 zRc10 dL_law_1599 ⟨by decide, by decide, by omega⟩ rfl rfl (Nat.le_of_ble_eq_true rfl) ?_
  refine z_iload hX dL_law_1602 1 rfl ?_
  refine z_icmp_eq (tgt := 1609) hX dL_law_1604 (by decide) (fun _ => ?_) (fun q => absurd h2 q)
  refine z_iload hX dL_law_1609 1 rfl ?_
  refine z_if_ne (tgt := 1626) hX dL_law_1611 (by decide) (fun _ => ?_) (fun q0 => ?_)
  · skip
    refine z_goto (tgt := 2469) hX dL_law_1626 (by decide) ?_
    refine z_sub [2, 3, 4, 5, 6, 7] rfl ?_
    exact z_widen (by omega) (kk _ _ _ hR)
  · skip
    refine z_aload_n hX dL_law_1614 5 rfl ?_
    refine z_iconst (v := 0) hX dL_law_1615 (by decide) ?_
    refine z_lald hX dL_law_1616 ?_
    refine z_iload hX dL_law_1617 0 rfl ?_
    refine z_i2l hX dL_law_1619 ?_
    refine z_lcmp0 hX dL_law_1620 (hv q0) ?_
    refine z_if_eq (tgt := 1626) hX dL_law_1621 (by decide) (fun _ => ?_) (fun q => absurd rfl q)
    refine z_goto (tgt := 2469) hX dL_law_1626 (by decide) ?_
    refine z_sub [2, 3, 4, 5, 6, 7] rfl ?_
    exact z_widen (by omega) (kk _ _ _ hR)
set_option maxRecDepth 100000 in
theorem bk_26 {p : Program} {l : Launch} {e : Env} {R : Room} {s : State} {m : MethodId} {args : Array Value} {below : List Frame} {meth : Method} {c : Code} {Q : State → Prop} {g : zG} {ret : Option FieldType} {mc : Nat} {κ : zKp} {μ : zMu} {ω : zOm} {k b L n : Nat} {xs : Nat → Int32} (hX : zX p l s m args meth c R g RL cL_law 9 ret 21 mc) (hl0 : l.stackTraces = false) (hx : scX s g b L xs) (h : RR κ μ) (hn : n + 5 ≤ L) (hk : k + 1 ≤ mc) (kk : ∀ κ' μ' ω', RR κ' μ' → zZ p l e R s m args below meth c g 9 Q κ' μ' ω' (k + 1) 2469 (lvL g b n) []) : zZ p l e R s m args below meth c g 9 Q κ μ ω k 1629 (lvL g b n) [] := by
  obtain ⟨κ', μ', ω', kc, bb, lv, hlv, hR, hW, hM, h2, hv⟩ := sm_strengthByCells l hl0 (g := g) (ω := ω) h ((xs (n + 1)))
  refine z_aload_n hX dL_law_1629 1 rfl ?_
  refine z_aload_n hX dL_law_1630 0 rfl ?_
  refine z_iload hX dL_law_1631 5 rfl ?_
  refine z_iconst (v := 1) hX dL_law_1633 (by decide) ?_
  refine z_iadd hX dL_law_1634 ?_
  refine z_isv (nI_add n 1) ?_
  refine z_sld hX hx (q := n + 1) (by omega) dL_law_1635 ?_
  refine z_aload_n hX dL_law_1636 3 rfl ?_
  refine z_callW (nA := 3) hX hW (gW_W (gW_I 848 (by decide +kernel) rfl) (gW_I 849 (by decide +kernel) rfl) (gW_I 0 (by decide +kernel) rfl) wh_strengthByCells ⟨by decide, by decide, by decide +kernel⟩) dL_law_1637 ⟨by decide, by decide, by omega⟩ rfl rfl (Nat.le_of_ble_eq_true rfl) ?_
  refine z_istore (lv' := _) hX dL_law_1640 (by decide) rfl ?_
  refine z_aload_n hX dL_law_1642 3 rfl ?_
  refine z_aload_n hX dL_law_1643 1 rfl ?_
  refine z_iload hX dL_law_1644 6 rfl ?_
  refine z_iconst (v := 1) hX dL_law_1646 (by decide) ?_
  refine z_iadd hX dL_law_1647 ?_
  refine z_isv (nI_add n 1) ?_
  refine z_sld hX hx (q := n + 1) (by omega) dL_law_1648 ?_
  refine z_callV1 hX hM cv_RL_242 zRc10 dL_law_1649 ⟨by omega, by decide, by omega⟩ rfl rfl (Nat.le_of_ble_eq_true rfl) ?_
  refine z_istore (lv' := _) hX dL_law_1652 (by decide) rfl ?_
  refine z_aload_n hX dL_law_1654 4 rfl ?_
  refine z_callV1 hX (ok_X5_thrown l) cv_RL_155 zRc10 dL_law_1655 ⟨by decide, by decide, by omega⟩ rfl rfl (Nat.le_of_ble_eq_true rfl) ?_
  refine z_iload hX dL_law_1658 1 rfl ?_
  refine z_icmp_eq (tgt := 1665) hX dL_law_1660 (by decide) (fun _ => ?_) (fun q => absurd h2 q)
  refine z_iload hX dL_law_1665 1 rfl ?_
  refine z_if_ne (tgt := 1682) hX dL_law_1667 (by decide) (fun _ => ?_) (fun q0 => ?_)
  · skip
    refine z_goto (tgt := 2469) hX dL_law_1682 (by decide) ?_
    refine z_sub [2, 3, 4, 5, 6, 7] rfl ?_
    exact z_widen (by omega) (kk _ _ _ hR)
  · skip
    refine z_aload_n hX dL_law_1670 5 rfl ?_
    refine z_iconst (v := 0) hX dL_law_1671 (by decide) ?_
    refine z_lald hX dL_law_1672 ?_
    refine z_iload hX dL_law_1673 0 rfl ?_
    refine z_i2l hX dL_law_1675 ?_
    refine z_lcmp0 hX dL_law_1676 (hv q0) ?_
    refine z_if_eq (tgt := 1682) hX dL_law_1677 (by decide) (fun _ => ?_) (fun q => absurd rfl q)
    refine z_goto (tgt := 2469) hX dL_law_1682 (by decide) ?_
    refine z_sub [2, 3, 4, 5, 6, 7] rfl ?_
    exact z_widen (by omega) (kk _ _ _ hR)
set_option maxRecDepth 100000 in
theorem bk_27 {p : Program} {l : Launch} {e : Env} {R : Room} {s : State} {m : MethodId} {args : Array Value} {below : List Frame} {meth : Method} {c : Code} {Q : State → Prop} {g : zG} {ret : Option FieldType} {mc : Nat} {κ : zKp} {μ : zMu} {ω : zOm} {k b L n : Nat} {xs : Nat → Int32} (hX : zX p l s m args meth c R g RL cL_law 9 ret 21 mc) (hl0 : l.stackTraces = false) (hx : scX s g b L xs) (h : RR κ μ) (hn : n + 5 ≤ L) (hk : k + 1 ≤ mc) (kk : ∀ κ' μ' ω', RR κ' μ' → zZ p l e R s m args below meth c g 9 Q κ' μ' ω' (k + 1) 2469 (lvL g b n) []) : zZ p l e R s m args below meth c g 9 Q κ μ ω k 1685 (lvL g b n) [] := by
  obtain ⟨κ', μ', ω', kc, bb, lv, hlv, hR, hW, hM, h2, hv⟩ := sm_fallenOf l hl0 (g := g) (ω := ω) h ((xs (n + 1)))
  refine z_aload_n hX dL_law_1685 1 rfl ?_
  refine z_aload_n hX dL_law_1686 0 rfl ?_
  refine z_iload hX dL_law_1687 5 rfl ?_
  refine z_iconst (v := 1) hX dL_law_1689 (by decide) ?_
  refine z_iadd hX dL_law_1690 ?_
  refine z_isv (nI_add n 1) ?_
  refine z_sld hX hx (q := n + 1) (by omega) dL_law_1691 ?_
  refine z_aload_n hX dL_law_1692 3 rfl ?_
  refine z_callW (nA := 3) hX hW (gW_W (gW_I 856 (by decide +kernel) rfl) (gW_I 857 (by decide +kernel) rfl) (gW_I 0 (by decide +kernel) rfl) wh_fallenOf ⟨by decide, by decide, by decide +kernel⟩) dL_law_1693 ⟨by decide, by decide, by omega⟩ rfl rfl (Nat.le_of_ble_eq_true rfl) ?_
  refine z_istore (lv' := _) hX dL_law_1696 (by decide) rfl ?_
  refine z_aload_n hX dL_law_1698 3 rfl ?_
  refine z_aload_n hX dL_law_1699 1 rfl ?_
  refine z_iload hX dL_law_1700 6 rfl ?_
  refine z_iconst (v := 1) hX dL_law_1702 (by decide) ?_
  refine z_iadd hX dL_law_1703 ?_
  refine z_isv (nI_add n 1) ?_
  refine z_sld hX hx (q := n + 1) (by omega) dL_law_1704 ?_
  refine z_callV1 hX hM cv_RL_245 zRc10 dL_law_1705 ⟨by omega, by decide, by omega⟩ rfl rfl (Nat.le_of_ble_eq_true rfl) ?_
  refine z_istore (lv' := _) hX dL_law_1708 (by decide) rfl ?_
  refine z_aload_n hX dL_law_1710 4 rfl ?_
  refine z_callV1 hX (ok_X5_thrown l) cv_RL_155 zRc10 dL_law_1711 ⟨by decide, by decide, by omega⟩ rfl rfl (Nat.le_of_ble_eq_true rfl) ?_
  refine z_iload hX dL_law_1714 1 rfl ?_
  refine z_icmp_eq (tgt := 1721) hX dL_law_1716 (by decide) (fun _ => ?_) (fun q => absurd h2 q)
  refine z_iload hX dL_law_1721 1 rfl ?_
  refine z_if_ne (tgt := 1738) hX dL_law_1723 (by decide) (fun _ => ?_) (fun q0 => ?_)
  · skip
    refine z_goto (tgt := 2469) hX dL_law_1738 (by decide) ?_
    refine z_sub [2, 3, 4, 5, 6, 7] rfl ?_
    exact z_widen (by omega) (kk _ _ _ hR)
  · skip
    refine z_aload_n hX dL_law_1726 5 rfl ?_
    refine z_iconst (v := 0) hX dL_law_1727 (by decide) ?_
    refine z_lald hX dL_law_1728 ?_
    refine z_iload hX dL_law_1729 0 rfl ?_
    refine z_i2l hX dL_law_1731 ?_
    refine z_lcmp0 hX dL_law_1732 (hv q0) ?_
    refine z_if_eq (tgt := 1738) hX dL_law_1733 (by decide) (fun _ => ?_) (fun q => absurd rfl q)
    refine z_goto (tgt := 2469) hX dL_law_1738 (by decide) ?_
    refine z_sub [2, 3, 4, 5, 6, 7] rfl ?_
    exact z_widen (by omega) (kk _ _ _ hR)
set_option maxRecDepth 100000 in
theorem bk_28 {p : Program} {l : Launch} {e : Env} {R : Room} {s : State} {m : MethodId} {args : Array Value} {below : List Frame} {meth : Method} {c : Code} {Q : State → Prop} {g : zG} {ret : Option FieldType} {mc : Nat} {κ : zKp} {μ : zMu} {ω : zOm} {k b L n : Nat} {xs : Nat → Int32} (hX : zX p l s m args meth c R g RL cL_law 9 ret 21 mc) (hl0 : l.stackTraces = false) (hx : scX s g b L xs) (h : RR κ μ) (hn : n + 5 ≤ L) (hk : k + 1 ≤ mc) (kk : ∀ κ' μ' ω', RR κ' μ' → zZ p l e R s m args below meth c g 9 Q κ' μ' ω' (k + 1) 2469 (lvL g b n) []) : zZ p l e R s m args below meth c g 9 Q κ μ ω k 1741 (lvL g b n) [] := by
  obtain ⟨κ', μ', ω', kc, bb, lv, hlv, hR, hW, hM, h2, hv⟩ := sm_frontOf l hl0 (g := g) (ω := ω) h ((xs (n + 1))) ((xs (n + 2)))
  refine z_aload_n hX dL_law_1741 1 rfl ?_
  refine z_aload_n hX dL_law_1742 0 rfl ?_
  refine z_iload hX dL_law_1743 5 rfl ?_
  refine z_iconst (v := 1) hX dL_law_1745 (by decide) ?_
  refine z_iadd hX dL_law_1746 ?_
  refine z_isv (nI_add n 1) ?_
  refine z_sld hX hx (q := n + 1) (by omega) dL_law_1747 ?_
  refine z_aload_n hX dL_law_1748 0 rfl ?_
  refine z_iload hX dL_law_1749 5 rfl ?_
  refine z_iconst (v := 2) hX dL_law_1751 (by decide) ?_
  refine z_iadd hX dL_law_1752 ?_
  refine z_isv (nI_add n 2) ?_
  refine z_sld hX hx (q := n + 2) (by omega) dL_law_1753 ?_
  refine z_aload_n hX dL_law_1754 3 rfl ?_
  refine z_callW (nA := 4) hX hW (gW_W (gW_I 867 (by decide +kernel) rfl) (gW_I 868 (by decide +kernel) rfl) (gW_I 0 (by decide +kernel) rfl) wh_frontOf ⟨by decide, by decide, by decide +kernel⟩) dL_law_1755 ⟨by decide, by decide, by omega⟩ rfl rfl (Nat.le_of_ble_eq_true rfl) ?_
  refine z_istore (lv' := _) hX dL_law_1758 (by decide) rfl ?_
  refine z_aload_n hX dL_law_1760 3 rfl ?_
  refine z_aload_n hX dL_law_1761 1 rfl ?_
  refine z_iload hX dL_law_1762 6 rfl ?_
  refine z_iconst (v := 1) hX dL_law_1764 (by decide) ?_
  refine z_iadd hX dL_law_1765 ?_
  refine z_isv (nI_add n 1) ?_
  refine z_sld hX hx (q := n + 1) (by omega) dL_law_1766 ?_
  refine z_aload_n hX dL_law_1767 1 rfl ?_
  refine z_iload hX dL_law_1768 6 rfl ?_
  refine z_iconst (v := 2) hX dL_law_1770 (by decide) ?_
  refine z_iadd hX dL_law_1771 ?_
  refine z_isv (nI_add n 2) ?_
  refine z_sld hX hx (q := n + 2) (by omega) dL_law_1772 ?_
  refine z_callV1 hX hM cv_RL_248 zRc10 dL_law_1773 ⟨by omega, by decide, by omega⟩ rfl rfl (Nat.le_of_ble_eq_true rfl) ?_
  refine z_istore (lv' := _) hX dL_law_1776 (by decide) rfl ?_
  refine z_aload_n hX dL_law_1778 4 rfl ?_
  refine z_callV1 hX (ok_X5_thrown l) cv_RL_155 zRc10 dL_law_1779 ⟨by decide, by decide, by omega⟩ rfl rfl (Nat.le_of_ble_eq_true rfl) ?_
  refine z_iload hX dL_law_1782 1 rfl ?_
  refine z_icmp_eq (tgt := 1789) hX dL_law_1784 (by decide) (fun _ => ?_) (fun q => absurd h2 q)
  refine z_iload hX dL_law_1789 1 rfl ?_
  refine z_if_ne (tgt := 1806) hX dL_law_1791 (by decide) (fun _ => ?_) (fun q0 => ?_)
  · skip
    refine z_goto (tgt := 2469) hX dL_law_1806 (by decide) ?_
    refine z_sub [2, 3, 4, 5, 6, 7] rfl ?_
    exact z_widen (by omega) (kk _ _ _ hR)
  · skip
    refine z_aload_n hX dL_law_1794 5 rfl ?_
    refine z_iconst (v := 0) hX dL_law_1795 (by decide) ?_
    refine z_lald hX dL_law_1796 ?_
    refine z_iload hX dL_law_1797 0 rfl ?_
    refine z_i2l hX dL_law_1799 ?_
    refine z_lcmp0 hX dL_law_1800 (hv q0) ?_
    refine z_if_eq (tgt := 1806) hX dL_law_1801 (by decide) (fun _ => ?_) (fun q => absurd rfl q)
    refine z_goto (tgt := 2469) hX dL_law_1806 (by decide) ?_
    refine z_sub [2, 3, 4, 5, 6, 7] rfl ?_
    exact z_widen (by omega) (kk _ _ _ hR)
set_option maxRecDepth 100000 in
theorem bk_29 {p : Program} {l : Launch} {e : Env} {R : Room} {s : State} {m : MethodId} {args : Array Value} {below : List Frame} {meth : Method} {c : Code} {Q : State → Prop} {g : zG} {ret : Option FieldType} {mc : Nat} {κ : zKp} {μ : zMu} {ω : zOm} {k b L n : Nat} {xs : Nat → Int32} (hX : zX p l s m args meth c R g RL cL_law 9 ret 21 mc) (hl0 : l.stackTraces = false) (hx : scX s g b L xs) (h : RR κ μ) (hn : n + 5 ≤ L) (hk : k + 1 ≤ mc) (kk : ∀ κ' μ' ω', RR κ' μ' → zZ p l e R s m args below meth c g 9 Q κ' μ' ω' (k + 1) 2469 (lvL g b n) []) : zZ p l e R s m args below meth c g 9 Q κ μ ω k 1809 (lvL g b n) [] := by
  obtain ⟨κ', μ', ω', kc, bb, lv, hlv, hR, hW, hM, h2, hv⟩ := sm_leader l hl0 (g := g) (ω := ω) h
  refine z_aload_n hX dL_law_1809 1 rfl ?_
  refine z_aload_n hX dL_law_1810 3 rfl ?_
  refine z_callW (nA := 2) hX hW (gW_W (gW_I 880 (by decide +kernel) rfl) (gW_I 881 (by decide +kernel) rfl) (gW_I 0 (by decide +kernel) rfl) wh_leader ⟨by decide, by decide, by decide +kernel⟩) dL_law_1811 ⟨by decide, by decide, by omega⟩ rfl rfl (Nat.le_of_ble_eq_true rfl) ?_
  refine z_istore (lv' := _) hX dL_law_1814 (by decide) rfl ?_
  refine z_aload_n hX dL_law_1816 3 rfl ?_
  refine z_callV1 hX hM cv_RL_251 zRc10 dL_law_1817 ⟨by omega, by decide, by omega⟩ rfl rfl (Nat.le_of_ble_eq_true rfl) ?_
  refine z_istore (lv' := _) hX dL_law_1820 (by decide) rfl ?_
  refine z_aload_n hX dL_law_1822 4 rfl ?_
  refine z_callV1 hX (ok_X5_thrown l) cv_RL_155 zRc10 dL_law_1823 ⟨by decide, by decide, by omega⟩ rfl rfl (Nat.le_of_ble_eq_true rfl) ?_
  refine z_iload hX dL_law_1826 1 rfl ?_
  refine z_icmp_eq (tgt := 1833) hX dL_law_1828 (by decide) (fun _ => ?_) (fun q => absurd h2 q)
  refine z_iload hX dL_law_1833 1 rfl ?_
  refine z_if_ne (tgt := 1850) hX dL_law_1835 (by decide) (fun _ => ?_) (fun q0 => ?_)
  · skip
    refine z_goto (tgt := 2469) hX dL_law_1850 (by decide) ?_
    refine z_sub [2, 3, 4, 5, 6, 7] rfl ?_
    exact z_widen (by omega) (kk _ _ _ hR)
  · skip
    refine z_aload_n hX dL_law_1838 5 rfl ?_
    refine z_iconst (v := 0) hX dL_law_1839 (by decide) ?_
    refine z_lald hX dL_law_1840 ?_
    refine z_iload hX dL_law_1841 0 rfl ?_
    refine z_i2l hX dL_law_1843 ?_
    refine z_lcmp0 hX dL_law_1844 (hv q0) ?_
    refine z_if_eq (tgt := 1850) hX dL_law_1845 (by decide) (fun _ => ?_) (fun q => absurd rfl q)
    refine z_goto (tgt := 2469) hX dL_law_1850 (by decide) ?_
    refine z_sub [2, 3, 4, 5, 6, 7] rfl ?_
    exact z_widen (by omega) (kk _ _ _ hR)
set_option maxRecDepth 100000 in
theorem bk_30 {p : Program} {l : Launch} {e : Env} {R : Room} {s : State} {m : MethodId} {args : Array Value} {below : List Frame} {meth : Method} {c : Code} {Q : State → Prop} {g : zG} {ret : Option FieldType} {mc : Nat} {κ : zKp} {μ : zMu} {ω : zOm} {k b L n : Nat} {xs : Nat → Int32} (hX : zX p l s m args meth c R g RL cL_law 9 ret 21 mc) (hl0 : l.stackTraces = false) (hx : scX s g b L xs) (h : RR κ μ) (hn : n + 5 ≤ L) (hk : k + 1 ≤ mc) (kk : ∀ κ' μ' ω', RR κ' μ' → zZ p l e R s m args below meth c g 9 Q κ' μ' ω' (k + 1) 2469 (lvL g b n) []) : zZ p l e R s m args below meth c g 9 Q κ μ ω k 1853 (lvL g b n) [] := by
  obtain ⟨κ', μ', ω', kc, bb, lv, hlv, hR, hW, hM, h2, hv⟩ := sm_lineByStrength l hl0 (g := g) (ω := ω) h ((xs (n + 1)))
  refine z_aload_n hX dL_law_1853 1 rfl ?_
  refine z_aload_n hX dL_law_1854 0 rfl ?_
  refine z_iload hX dL_law_1855 5 rfl ?_
  refine z_iconst (v := 1) hX dL_law_1857 (by decide) ?_
  refine z_iadd hX dL_law_1858 ?_
  refine z_isv (nI_add n 1) ?_
  refine z_sld hX hx (q := n + 1) (by omega) dL_law_1859 ?_
  refine z_aload_n hX dL_law_1860 3 rfl ?_
  refine z_callW (nA := 3) hX hW (gW_W (gW_I 888 (by decide +kernel) rfl) (gW_I 889 (by decide +kernel) rfl) (gW_I 0 (by decide +kernel) rfl) wh_lineByStrength ⟨by decide, by decide, by decide +kernel⟩) dL_law_1861 ⟨by decide, by decide, by omega⟩ rfl rfl (Nat.le_of_ble_eq_true rfl) ?_
  refine z_istore (lv' := _) hX dL_law_1864 (by decide) rfl ?_
  refine z_aload_n hX dL_law_1866 3 rfl ?_
  refine z_aload_n hX dL_law_1867 1 rfl ?_
  refine z_iload hX dL_law_1868 6 rfl ?_
  refine z_iconst (v := 1) hX dL_law_1870 (by decide) ?_
  refine z_iadd hX dL_law_1871 ?_
  refine z_isv (nI_add n 1) ?_
  refine z_sld hX hx (q := n + 1) (by omega) dL_law_1872 ?_
  refine z_callV1 hX hM cv_RL_254 zRc10 dL_law_1873 ⟨by omega, by decide, by omega⟩ rfl rfl (Nat.le_of_ble_eq_true rfl) ?_
  refine z_istore (lv' := _) hX dL_law_1876 (by decide) rfl ?_
  refine z_aload_n hX dL_law_1878 4 rfl ?_
  refine z_callV1 hX (ok_X5_thrown l) cv_RL_155 zRc10 dL_law_1879 ⟨by decide, by decide, by omega⟩ rfl rfl (Nat.le_of_ble_eq_true rfl) ?_
  refine z_iload hX dL_law_1882 1 rfl ?_
  refine z_icmp_eq (tgt := 1889) hX dL_law_1884 (by decide) (fun _ => ?_) (fun q => absurd h2 q)
  refine z_iload hX dL_law_1889 1 rfl ?_
  refine z_if_ne (tgt := 1906) hX dL_law_1891 (by decide) (fun _ => ?_) (fun q0 => ?_)
  · skip
    refine z_goto (tgt := 2469) hX dL_law_1906 (by decide) ?_
    refine z_sub [2, 3, 4, 5, 6, 7] rfl ?_
    exact z_widen (by omega) (kk _ _ _ hR)
  · skip
    refine z_aload_n hX dL_law_1894 5 rfl ?_
    refine z_iconst (v := 0) hX dL_law_1895 (by decide) ?_
    refine z_lald hX dL_law_1896 ?_
    refine z_iload hX dL_law_1897 0 rfl ?_
    refine z_i2l hX dL_law_1899 ?_
    refine z_lcmp0 hX dL_law_1900 (hv q0) ?_
    refine z_if_eq (tgt := 1906) hX dL_law_1901 (by decide) (fun _ => ?_) (fun q => absurd rfl q)
    refine z_goto (tgt := 2469) hX dL_law_1906 (by decide) ?_
    refine z_sub [2, 3, 4, 5, 6, 7] rfl ?_
    exact z_widen (by omega) (kk _ _ _ hR)
set_option maxRecDepth 100000 in
theorem bk_31 {p : Program} {l : Launch} {e : Env} {R : Room} {s : State} {m : MethodId} {args : Array Value} {below : List Frame} {meth : Method} {c : Code} {Q : State → Prop} {g : zG} {ret : Option FieldType} {mc : Nat} {κ : zKp} {μ : zMu} {ω : zOm} {k b L n : Nat} {xs : Nat → Int32} (hX : zX p l s m args meth c R g RL cL_law 9 ret 21 mc) (hl0 : l.stackTraces = false) (hx : scX s g b L xs) (h : RR κ μ) (hn : n + 5 ≤ L) (hk : k + 1 ≤ mc) (kk : ∀ κ' μ' ω', RR κ' μ' → zZ p l e R s m args below meth c g 9 Q κ' μ' ω' (k + 1) 2469 (lvL g b n) []) : zZ p l e R s m args below meth c g 9 Q κ μ ω k 1909 (lvL g b n) [] := by
  obtain ⟨κ', μ', bb, lx, lm, hlx, hlm, hR, hM1, hM2⟩ := sb_turnCount l (g := g) (ω := ω) h
  refine z_aload_n hX dL_law_1909 1 rfl ?_
  refine z_callV1 hX hM1 cv_RL_255 zRc0 dL_law_1910 ⟨by omega, by decide, by omega⟩ rfl rfl (Nat.le_of_ble_eq_true rfl) ?_
  refine z_aload_n hX dL_law_1913 2 rfl ?_
  refine z_callV1 hX hM2 cv_RL_258 zRc10 dL_law_1914 ⟨by omega, by decide, by omega⟩ rfl rfl (Nat.le_of_ble_eq_true rfl) ?_
  refine z_icmp_eq (tgt := 2469) hX dL_law_1917 (by decide) (fun _ => z_widen (by omega) (kk κ' μ' ω hR)) (fun q => absurd rfl q)
set_option maxRecDepth 100000 in
theorem bk_32 {p : Program} {l : Launch} {e : Env} {R : Room} {s : State} {m : MethodId} {args : Array Value} {below : List Frame} {meth : Method} {c : Code} {Q : State → Prop} {g : zG} {ret : Option FieldType} {mc : Nat} {κ : zKp} {μ : zMu} {ω : zOm} {k b L n : Nat} {xs : Nat → Int32} (hX : zX p l s m args meth c R g RL cL_law 9 ret 21 mc) (hl0 : l.stackTraces = false) (hx : scX s g b L xs) (h : RR κ μ) (hn : n + 5 ≤ L) (hk : k + 1 ≤ mc) (kk : ∀ κ' μ' ω', RR κ' μ' → zZ p l e R s m args below meth c g 9 Q κ' μ' ω' (k + 1) 2469 (lvL g b n) []) : zZ p l e R s m args below meth c g 9 Q κ μ ω k 1922 (lvL g b n) [] := by
  obtain ⟨κ', μ', ω', kc, bb, lv, hlv, hR, hW, hM, h2, hv⟩ := sm_writeLane l hl0 (g := g) (ω := ω) h ((xs (n + 1)))
  refine z_aload_n hX dL_law_1922 1 rfl ?_
  refine z_aload_n hX dL_law_1923 0 rfl ?_
  refine z_iload hX dL_law_1924 5 rfl ?_
  refine z_iconst (v := 1) hX dL_law_1926 (by decide) ?_
  refine z_iadd hX dL_law_1927 ?_
  refine z_isv (nI_add n 1) ?_
  refine z_sld hX hx (q := n + 1) (by omega) dL_law_1928 ?_
  refine z_aload_n hX dL_law_1929 3 rfl ?_
  refine z_callW (nA := 3) hX hW (gW_W (gW_I 904 (by decide +kernel) rfl) (gW_I 905 (by decide +kernel) rfl) (gW_I 0 (by decide +kernel) rfl) wh_writeLane ⟨by decide, by decide, by decide +kernel⟩) dL_law_1930 ⟨by decide, by decide, by omega⟩ rfl rfl (Nat.le_of_ble_eq_true rfl) ?_
  refine z_istore (lv' := _) hX dL_law_1933 (by decide) rfl ?_
  refine z_aload_n hX dL_law_1935 3 rfl ?_
  refine z_aload_n hX dL_law_1936 1 rfl ?_
  refine z_iload hX dL_law_1937 6 rfl ?_
  refine z_iconst (v := 1) hX dL_law_1939 (by decide) ?_
  refine z_iadd hX dL_law_1940 ?_
  refine z_isv (nI_add n 1) ?_
  refine z_sld hX hx (q := n + 1) (by omega) dL_law_1941 ?_
  refine z_callV1 hX hM cv_RL_261 zRc10 dL_law_1942 ⟨by omega, by decide, by omega⟩ rfl rfl (Nat.le_of_ble_eq_true rfl) ?_
  refine z_istore (lv' := _) hX dL_law_1945 (by decide) rfl ?_
  refine z_aload_n hX dL_law_1947 4 rfl ?_
  refine z_callV1 hX (ok_X5_thrown l) cv_RL_155 zRc10 dL_law_1948 ⟨by decide, by decide, by omega⟩ rfl rfl (Nat.le_of_ble_eq_true rfl) ?_
  refine z_iload hX dL_law_1951 1 rfl ?_
  refine z_icmp_eq (tgt := 1958) hX dL_law_1953 (by decide) (fun _ => ?_) (fun q => absurd h2 q)
  refine z_iload hX dL_law_1958 1 rfl ?_
  refine z_if_ne (tgt := 1975) hX dL_law_1960 (by decide) (fun _ => ?_) (fun q0 => ?_)
  · skip
    refine z_goto (tgt := 2469) hX dL_law_1975 (by decide) ?_
    refine z_sub [2, 3, 4, 5, 6, 7] rfl ?_
    exact z_widen (by omega) (kk _ _ _ hR)
  · skip
    refine z_aload_n hX dL_law_1963 5 rfl ?_
    refine z_iconst (v := 0) hX dL_law_1964 (by decide) ?_
    refine z_lald hX dL_law_1965 ?_
    refine z_iload hX dL_law_1966 0 rfl ?_
    refine z_i2l hX dL_law_1968 ?_
    refine z_lcmp0 hX dL_law_1969 (hv q0) ?_
    refine z_if_eq (tgt := 1975) hX dL_law_1970 (by decide) (fun _ => ?_) (fun q => absurd rfl q)
    refine z_goto (tgt := 2469) hX dL_law_1975 (by decide) ?_
    refine z_sub [2, 3, 4, 5, 6, 7] rfl ?_
    exact z_widen (by omega) (kk _ _ _ hR)
set_option maxRecDepth 100000 in
theorem bk_33 {p : Program} {l : Launch} {e : Env} {R : Room} {s : State} {m : MethodId} {args : Array Value} {below : List Frame} {meth : Method} {c : Code} {Q : State → Prop} {g : zG} {ret : Option FieldType} {mc : Nat} {κ : zKp} {μ : zMu} {ω : zOm} {k b L n : Nat} {xs : Nat → Int32} (hX : zX p l s m args meth c R g RL cL_law 9 ret 21 mc) (hl0 : l.stackTraces = false) (hx : scX s g b L xs) (h : RR κ μ) (hn : n + 5 ≤ L) (hk : k + 1 ≤ mc) (kk : ∀ κ' μ' ω', RR κ' μ' → zZ p l e R s m args below meth c g 9 Q κ' μ' ω' (k + 1) 2469 (lvL g b n) []) : zZ p l e R s m args below meth c g 9 Q κ μ ω k 1978 (lvL g b n) [] := by
  obtain ⟨κ', μ', ω', kc, bb, lv, hlv, hR, hW, hM, h2, hv⟩ := sm_writtenAt l hl0 (g := g) (ω := ω) h ((xs (n + 1)))
  refine z_aload_n hX dL_law_1978 1 rfl ?_
  refine z_aload_n hX dL_law_1979 0 rfl ?_
  refine z_iload hX dL_law_1980 5 rfl ?_
  refine z_iconst (v := 1) hX dL_law_1982 (by decide) ?_
  refine z_iadd hX dL_law_1983 ?_
  refine z_isv (nI_add n 1) ?_
  refine z_sld hX hx (q := n + 1) (by omega) dL_law_1984 ?_
  refine z_aload_n hX dL_law_1985 3 rfl ?_
  refine z_callW (nA := 3) hX hW (gW_W (gW_I 920 (by decide +kernel) rfl) (gW_I 921 (by decide +kernel) rfl) (gW_I 0 (by decide +kernel) rfl) wh_writtenAt ⟨by decide, by decide, by decide +kernel⟩) dL_law_1986 ⟨by decide, by decide, by omega⟩ rfl rfl (Nat.le_of_ble_eq_true rfl) ?_
  refine z_istore (lv' := _) hX dL_law_1989 (by decide) rfl ?_
  refine z_aload_n hX dL_law_1991 3 rfl ?_
  refine z_aload_n hX dL_law_1992 1 rfl ?_
  refine z_iload hX dL_law_1993 6 rfl ?_
  refine z_iconst (v := 1) hX dL_law_1995 (by decide) ?_
  refine z_iadd hX dL_law_1996 ?_
  refine z_isv (nI_add n 1) ?_
  refine z_sld hX hx (q := n + 1) (by omega) dL_law_1997 ?_
  refine z_callV1 hX hM cv_RL_264 zRc10 dL_law_1998 ⟨by omega, by decide, by omega⟩ rfl rfl (Nat.le_of_ble_eq_true rfl) ?_
  refine z_istore (lv' := _) hX dL_law_2001 (by decide) rfl ?_
  refine z_aload_n hX dL_law_2003 4 rfl ?_
  refine z_callV1 hX (ok_X5_thrown l) cv_RL_155 zRc10 dL_law_2004 ⟨by decide, by decide, by omega⟩ rfl rfl (Nat.le_of_ble_eq_true rfl) ?_
  refine z_iload hX dL_law_2007 1 rfl ?_
  refine z_icmp_eq (tgt := 2014) hX dL_law_2009 (by decide) (fun _ => ?_) (fun q => absurd h2 q)
  refine z_iload hX dL_law_2014 1 rfl ?_
  refine z_if_ne (tgt := 2031) hX dL_law_2016 (by decide) (fun _ => ?_) (fun q0 => ?_)
  · skip
    refine z_goto (tgt := 2469) hX dL_law_2031 (by decide) ?_
    refine z_sub [2, 3, 4, 5, 6, 7] rfl ?_
    exact z_widen (by omega) (kk _ _ _ hR)
  · skip
    refine z_aload_n hX dL_law_2019 5 rfl ?_
    refine z_iconst (v := 0) hX dL_law_2020 (by decide) ?_
    refine z_lald hX dL_law_2021 ?_
    refine z_iload hX dL_law_2022 0 rfl ?_
    refine z_i2l hX dL_law_2024 ?_
    refine z_lcmp0 hX dL_law_2025 (hv q0) ?_
    refine z_if_eq (tgt := 2031) hX dL_law_2026 (by decide) (fun _ => ?_) (fun q => absurd rfl q)
    refine z_goto (tgt := 2469) hX dL_law_2031 (by decide) ?_
    refine z_sub [2, 3, 4, 5, 6, 7] rfl ?_
    exact z_widen (by omega) (kk _ _ _ hR)
set_option maxRecDepth 100000 in
theorem bk_34 {p : Program} {l : Launch} {e : Env} {R : Room} {s : State} {m : MethodId} {args : Array Value} {below : List Frame} {meth : Method} {c : Code} {Q : State → Prop} {g : zG} {ret : Option FieldType} {mc : Nat} {κ : zKp} {μ : zMu} {ω : zOm} {k b L n : Nat} {xs : Nat → Int32} (hX : zX p l s m args meth c R g RL cL_law 9 ret 21 mc) (hl0 : l.stackTraces = false) (hx : scX s g b L xs) (h : RR κ μ) (hn : n + 5 ≤ L) (hk : k + 1 ≤ mc) (kk : ∀ κ' μ' ω', RR κ' μ' → zZ p l e R s m args below meth c g 9 Q κ' μ' ω' (k + 1) 2469 (lvL g b n) []) : zZ p l e R s m args below meth c g 9 Q κ μ ω k 2034 (lvL g b n) [] := by
  obtain ⟨μ', ω', kc, bb, lv, hlv, hR, hW, hM, h2, hv⟩ := sd_meanMorale l hl0 (g := g) (ω := ω) h
  refine z_aload_n hX dL_law_2034 1 rfl ?_
  refine z_aload hX dL_law_2035 4 rfl ?_
  refine z_callW (nA := 2) hX hW (gW_W (gW_I 928 (by decide +kernel) rfl) (gW_I 929 (by decide +kernel) rfl) (gW_I 0 (by decide +kernel) rfl) wh_meanMorale ⟨by decide, by decide, by decide +kernel⟩) dL_law_2037 ⟨by decide, by decide, by omega⟩ rfl rfl (Nat.le_of_ble_eq_true rfl) ?_
  refine z_istore (lv' := _) hX dL_law_2040 (by decide) rfl ?_
  refine z_aload_n hX dL_law_2042 3 rfl ?_
  refine z_callV1 hX hM cv_RL_268 zRc10 dL_law_2043 ⟨by omega, by decide, by omega⟩ rfl rfl (Nat.le_of_ble_eq_true rfl) ?_
  refine z_dstore (lv' := _) hX dL_law_2046 (by decide) rfl ?_
  refine z_aload_n hX dL_law_2048 4 rfl ?_
  refine z_callV1 hX (ok_X5_thrown l) cv_RL_155 zRc10 dL_law_2049 ⟨by decide, by decide, by omega⟩ rfl rfl (Nat.le_of_ble_eq_true rfl) ?_
  refine z_iload hX dL_law_2052 1 rfl ?_
  refine z_icmp_eq (tgt := 2059) hX dL_law_2054 (by decide) (fun _ => ?_) (fun q => absurd h2 q)
  refine z_iload hX dL_law_2059 1 rfl ?_
  refine z_if_ne (tgt := 2096) hX dL_law_2061 (by decide) (fun _ => ?_) (fun q0 => ?_)
  · skip
    refine z_goto (tgt := 2469) hX dL_law_2096 (by decide) ?_
    refine z_sub [2, 3, 4, 5, 6, 7] rfl ?_
    exact z_widen (by omega) (kk _ _ _ hR)
  · skip
    refine z_aload hX dL_law_2064 6 rfl ?_
    refine z_iconst (v := 0) hX dL_law_2066 (by decide) ?_
    refine z_dald hX dL_law_2067 ?_
    refine z_dload hX dL_law_2068 0 rfl ?_
    refine z_dcmp hX dL_law_2070 ?_
    refine z_isv (hv q0) ?_
    refine z_if_eq (tgt := 2096) hX dL_law_2071 (by decide) (fun _ => ?_) (fun q => absurd rfl q)
    refine z_goto (tgt := 2469) hX dL_law_2096 (by decide) ?_
    refine z_sub [2, 3, 4, 5, 6, 7] rfl ?_
    exact z_widen (by omega) (kk _ _ _ hR)
set_option maxRecDepth 100000 in
theorem bk_35 {p : Program} {l : Launch} {e : Env} {R : Room} {s : State} {m : MethodId} {args : Array Value} {below : List Frame} {meth : Method} {c : Code} {Q : State → Prop} {g : zG} {ret : Option FieldType} {mc : Nat} {κ : zKp} {μ : zMu} {ω : zOm} {k b L n : Nat} {xs : Nat → Int32} (hX : zX p l s m args meth c R g RL cL_law 9 ret 21 mc) (hl0 : l.stackTraces = false) (hx : scX s g b L xs) (h : RR κ μ) (hn : n + 5 ≤ L) (hk : k + 1 ≤ mc) (kk : ∀ κ' μ' ω', RR κ' μ' → zZ p l e R s m args below meth c g 9 Q κ' μ' ω' (k + 1) 2469 (lvL g b n) []) : zZ p l e R s m args below meth c g 9 Q κ μ ω k 2099 (lvL g b n) [] := by
  obtain ⟨μ', ω', kc, bb, lv, hlv, hR, hW, hM, h2, hv⟩ := sd_standingShare l hl0 (g := g) (ω := ω) h
  refine z_aload_n hX dL_law_2099 1 rfl ?_
  refine z_aload hX dL_law_2100 4 rfl ?_
  refine z_callW (nA := 2) hX hW (gW_W (gW_I 961 (by decide +kernel) rfl) (gW_I 962 (by decide +kernel) rfl) (gW_I 0 (by decide +kernel) rfl) wh_standingShare ⟨by decide, by decide, by decide +kernel⟩) dL_law_2102 ⟨by decide, by decide, by omega⟩ rfl rfl (Nat.le_of_ble_eq_true rfl) ?_
  refine z_istore (lv' := _) hX dL_law_2105 (by decide) rfl ?_
  refine z_aload_n hX dL_law_2107 3 rfl ?_
  refine z_callV1 hX hM cv_RL_271 zRc10 dL_law_2108 ⟨by omega, by decide, by omega⟩ rfl rfl (Nat.le_of_ble_eq_true rfl) ?_
  refine z_fstore (lv' := _) hX dL_law_2111 (by decide) rfl ?_
  refine z_aload_n hX dL_law_2113 4 rfl ?_
  refine z_callV1 hX (ok_X5_thrown l) cv_RL_155 zRc10 dL_law_2114 ⟨by decide, by decide, by omega⟩ rfl rfl (Nat.le_of_ble_eq_true rfl) ?_
  refine z_iload hX dL_law_2117 1 rfl ?_
  refine z_icmp_eq (tgt := 2124) hX dL_law_2119 (by decide) (fun _ => ?_) (fun q => absurd h2 q)
  refine z_iload hX dL_law_2124 1 rfl ?_
  refine z_if_ne (tgt := 2162) hX dL_law_2126 (by decide) (fun _ => ?_) (fun q0 => ?_)
  · skip
    refine z_goto (tgt := 2469) hX dL_law_2162 (by decide) ?_
    refine z_sub [2, 3, 4, 5, 6, 7] rfl ?_
    exact z_widen (by omega) (kk _ _ _ hR)
  · skip
    refine z_aload hX dL_law_2129 6 rfl ?_
    refine z_iconst (v := 0) hX dL_law_2131 (by decide) ?_
    refine z_dald hX dL_law_2132 ?_
    refine z_fload hX dL_law_2133 0 rfl ?_
    refine z_f2d hX (hv q0).1 dL_law_2135 ?_
    refine z_dcmp hX dL_law_2136 ?_
    refine z_isv (hv q0).2 ?_
    refine z_if_eq (tgt := 2162) hX dL_law_2137 (by decide) (fun _ => ?_) (fun q => absurd rfl q)
    refine z_goto (tgt := 2469) hX dL_law_2162 (by decide) ?_
    refine z_sub [2, 3, 4, 5, 6, 7] rfl ?_
    exact z_widen (by omega) (kk _ _ _ hR)
set_option maxRecDepth 100000 in
theorem bk_36 {p : Program} {l : Launch} {e : Env} {R : Room} {s : State} {m : MethodId} {args : Array Value} {below : List Frame} {meth : Method} {c : Code} {Q : State → Prop} {g : zG} {ret : Option FieldType} {mc : Nat} {κ : zKp} {μ : zMu} {ω : zOm} {k b L n : Nat} {xs : Nat → Int32} (hX : zX p l s m args meth c R g RL cL_law 9 ret 21 mc) (hl0 : l.stackTraces = false) (hx : scX s g b L xs) (h : RR κ μ) (hn : n + 5 ≤ L) (hk : k + 1 ≤ mc) (kk : ∀ κ' μ' ω', RR κ' μ' → zZ p l e R s m args below meth c g 9 Q κ' μ' ω' (k + 1) 2469 (lvL g b n) []) : zZ p l e R s m args below meth c g 9 Q κ μ ω k 2165 (lvL g b n) [] := by
  obtain ⟨κ', μ', bb, lx, lm, hlx, hlm, hR, hM1, hM2⟩ := sb_isConsistent l (g := g) (ω := ω) h
  refine z_aload_n hX dL_law_2165 1 rfl ?_
  refine z_callV1 hX hM1 cv_RL_272 zRc0 dL_law_2166 ⟨by omega, by decide, by omega⟩ rfl rfl (Nat.le_of_ble_eq_true rfl) ?_
  refine z_aload_n hX dL_law_2169 2 rfl ?_
  refine z_callV1 hX hM2 cv_RL_276 zRc10 dL_law_2170 ⟨by omega, by decide, by omega⟩ rfl rfl (Nat.le_of_ble_eq_true rfl) ?_
  refine z_icmp_eq (tgt := 2469) hX dL_law_2173 (by decide) (fun _ => z_widen (by omega) (kk κ' μ' ω hR)) (fun q => absurd rfl q)
set_option maxRecDepth 100000 in
theorem bk_37 {p : Program} {l : Launch} {e : Env} {R : Room} {s : State} {m : MethodId} {args : Array Value} {below : List Frame} {meth : Method} {c : Code} {Q : State → Prop} {g : zG} {ret : Option FieldType} {mc : Nat} {κ : zKp} {μ : zMu} {ω : zOm} {k b L n : Nat} {xs : Nat → Int32} (hX : zX p l s m args meth c R g RL cL_law 9 ret 21 mc) (hl0 : l.stackTraces = false) (hx : scX s g b L xs) (h : RR κ μ) (hn : n + 5 ≤ L) (hk : k + 1 ≤ mc) (kk : ∀ κ' μ' ω', RR κ' μ' → zZ p l e R s m args below meth c g 9 Q κ' μ' ω' (k + 1) 2469 (lvL g b n) []) : zZ p l e R s m args below meth c g 9 Q κ μ ω k 2178 (lvL g b n) [] := by
  obtain ⟨κ', μ', ω', kc, bb, lv, hlv, hR, hW, hM, h2, hv⟩ := sm_type l hl0 (g := g) (ω := ω) h ((((xs (n + 1))).toUInt32 % 65536).toInt32)
  refine z_aload_n hX dL_law_2178 1 rfl ?_
  refine z_aload_n hX dL_law_2179 0 rfl ?_
  refine z_iload hX dL_law_2180 5 rfl ?_
  refine z_iconst (v := 1) hX dL_law_2182 (by decide) ?_
  refine z_iadd hX dL_law_2183 ?_
  refine z_isv (nI_add n 1) ?_
  refine z_sld hX hx (q := n + 1) (by omega) dL_law_2184 ?_
  refine z_i2c hX dL_law_2185 ?_
  refine z_aload_n hX dL_law_2186 3 rfl ?_
  refine z_callW (nA := 3) hX hW (gW_W (gW_I 973 (by decide +kernel) rfl) (gW_I 974 (by decide +kernel) rfl) (gW_I 0 (by decide +kernel) rfl) wh_type ⟨by decide, by decide, by decide +kernel⟩) dL_law_2187 ⟨by decide, by decide, by omega⟩ rfl rfl (Nat.le_of_ble_eq_true rfl) ?_
  refine z_istore (lv' := _) hX dL_law_2190 (by decide) rfl ?_
  refine z_aload_n hX dL_law_2192 3 rfl ?_
  refine z_aload_n hX dL_law_2193 1 rfl ?_
  refine z_iload hX dL_law_2194 6 rfl ?_
  refine z_iconst (v := 1) hX dL_law_2196 (by decide) ?_
  refine z_iadd hX dL_law_2197 ?_
  refine z_isv (nI_add n 1) ?_
  refine z_sld hX hx (q := n + 1) (by omega) dL_law_2198 ?_
  refine z_i2c hX dL_law_2199 ?_
  refine z_callV1 hX hM cv_RL_280 zRc10 dL_law_2200 ⟨by omega, by decide, by omega⟩ rfl rfl (Nat.le_of_ble_eq_true rfl) ?_
  refine z_istore (lv' := _) hX dL_law_2203 (by decide) rfl ?_
  refine z_aload_n hX dL_law_2205 4 rfl ?_
  refine z_callV1 hX (ok_X5_thrown l) cv_RL_155 zRc10 dL_law_2206 ⟨by decide, by decide, by omega⟩ rfl rfl (Nat.le_of_ble_eq_true rfl) ?_
  refine z_iload hX dL_law_2209 1 rfl ?_
  refine z_icmp_eq (tgt := 2216) hX dL_law_2211 (by decide) (fun _ => ?_) (fun q => absurd h2 q)
  refine z_iload hX dL_law_2216 1 rfl ?_
  refine z_if_ne (tgt := 2233) hX dL_law_2218 (by decide) (fun _ => ?_) (fun q0 => ?_)
  · skip
    refine z_goto (tgt := 2469) hX dL_law_2233 (by decide) ?_
    refine z_sub [2, 3, 4, 5, 6, 7] rfl ?_
    exact z_widen (by omega) (kk _ _ _ hR)
  · skip
    refine z_aload_n hX dL_law_2221 5 rfl ?_
    refine z_iconst (v := 0) hX dL_law_2222 (by decide) ?_
    refine z_lald hX dL_law_2223 ?_
    refine z_iload hX dL_law_2224 0 rfl ?_
    refine z_i2l hX dL_law_2226 ?_
    refine z_lcmp0 hX dL_law_2227 (hv q0) ?_
    refine z_if_eq (tgt := 2233) hX dL_law_2228 (by decide) (fun _ => ?_) (fun q => absurd rfl q)
    refine z_goto (tgt := 2469) hX dL_law_2233 (by decide) ?_
    refine z_sub [2, 3, 4, 5, 6, 7] rfl ?_
    exact z_widen (by omega) (kk _ _ _ hR)
set_option maxRecDepth 100000 in
theorem bk_38 {p : Program} {l : Launch} {e : Env} {R : Room} {s : State} {m : MethodId} {args : Array Value} {below : List Frame} {meth : Method} {c : Code} {Q : State → Prop} {g : zG} {ret : Option FieldType} {mc : Nat} {κ : zKp} {μ : zMu} {ω : zOm} {k b L n : Nat} {xs : Nat → Int32} (hX : zX p l s m args meth c R g RL cL_law 9 ret 21 mc) (hl0 : l.stackTraces = false) (hx : scX s g b L xs) (h : RR κ μ) (hn : n + 5 ≤ L) (hk : k + 1 ≤ mc) (kk : ∀ κ' μ' ω', RR κ' μ' → zZ p l e R s m args below meth c g 9 Q κ' μ' ω' (k + 1) 2469 (lvL g b n) []) : zZ p l e R s m args below meth c g 9 Q κ μ ω k 2236 (lvL g b n) [] := by
  obtain ⟨κ', μ', ω', kc, bb, lv, hlv, hR, hW, hM, h2, hv⟩ := sm_execute l hl0 (g := g) (ω := ω) h
  refine z_aload_n hX dL_law_2236 1 rfl ?_
  refine z_aload_n hX dL_law_2237 3 rfl ?_
  refine z_callW (nA := 2) hX hW (gW_W (gW_I 986 (by decide +kernel) rfl) (gW_I 987 (by decide +kernel) rfl) (gW_I 0 (by decide +kernel) rfl) wh_execute ⟨by decide, by decide, by decide +kernel⟩) dL_law_2238 ⟨by decide, by decide, by omega⟩ rfl rfl (Nat.le_of_ble_eq_true rfl) ?_
  refine z_istore (lv' := _) hX dL_law_2241 (by decide) rfl ?_
  refine z_aload_n hX dL_law_2243 3 rfl ?_
  refine z_callV1 hX hM cv_RL_283 zRc10 dL_law_2244 ⟨by omega, by decide, by omega⟩ rfl rfl (Nat.le_of_ble_eq_true rfl) ?_
  refine z_istore (lv' := _) hX dL_law_2247 (by decide) rfl ?_
  refine z_aload_n hX dL_law_2249 4 rfl ?_
  refine z_callV1 hX (ok_X5_thrown l) cv_RL_155 zRc10 dL_law_2250 ⟨by decide, by decide, by omega⟩ rfl rfl (Nat.le_of_ble_eq_true rfl) ?_
  refine z_iload hX dL_law_2253 1 rfl ?_
  refine z_icmp_eq (tgt := 2260) hX dL_law_2255 (by decide) (fun _ => ?_) (fun q => absurd h2 q)
  refine z_iload hX dL_law_2260 1 rfl ?_
  refine z_if_ne (tgt := 2277) hX dL_law_2262 (by decide) (fun _ => ?_) (fun q0 => ?_)
  · skip
    refine z_goto (tgt := 2469) hX dL_law_2277 (by decide) ?_
    refine z_sub [2, 3, 4, 5, 6, 7] rfl ?_
    exact z_widen (by omega) (kk _ _ _ hR)
  · skip
    refine z_aload_n hX dL_law_2265 5 rfl ?_
    refine z_iconst (v := 0) hX dL_law_2266 (by decide) ?_
    refine z_lald hX dL_law_2267 ?_
    refine z_iload hX dL_law_2268 0 rfl ?_
    refine z_i2l hX dL_law_2270 ?_
    refine z_lcmp0 hX dL_law_2271 (hv q0) ?_
    refine z_if_eq (tgt := 2277) hX dL_law_2272 (by decide) (fun _ => ?_) (fun q => absurd rfl q)
    refine z_goto (tgt := 2469) hX dL_law_2277 (by decide) ?_
    refine z_sub [2, 3, 4, 5, 6, 7] rfl ?_
    exact z_widen (by omega) (kk _ _ _ hR)
set_option maxRecDepth 100000 in
theorem bk_39 {p : Program} {l : Launch} {e : Env} {R : Room} {s : State} {m : MethodId} {args : Array Value} {below : List Frame} {meth : Method} {c : Code} {Q : State → Prop} {g : zG} {ret : Option FieldType} {mc : Nat} {κ : zKp} {μ : zMu} {ω : zOm} {k b L n : Nat} {xs : Nat → Int32} (hX : zX p l s m args meth c R g RL cL_law 9 ret 21 mc) (hl0 : l.stackTraces = false) (hx : scX s g b L xs) (h : RR κ μ) (hn : n + 5 ≤ L) (hk : k + 1 ≤ mc) (kk : ∀ κ' μ' ω', RR κ' μ' → zZ p l e R s m args below meth c g 9 Q κ' μ' ω' (k + 1) 2469 (lvL g b n) []) : zZ p l e R s m args below meth c g 9 Q κ μ ω k 2280 (lvL g b n) [] := by
  obtain ⟨κ', μ', ω', kc, bb, lv, hlv, hR, hW, hM, h2, hv⟩ := sm_errorPosition l hl0 (g := g) (ω := ω) h
  refine z_aload_n hX dL_law_2280 1 rfl ?_
  refine z_aload_n hX dL_law_2281 3 rfl ?_
  refine z_callW (nA := 2) hX hW (gW_W (gW_I 1076 (by decide +kernel) rfl) (gW_I 1077 (by decide +kernel) rfl) (gW_I 0 (by decide +kernel) rfl) wh_errorPosition ⟨by decide, by decide, by decide +kernel⟩) dL_law_2282 ⟨by decide, by decide, by omega⟩ rfl rfl (Nat.le_of_ble_eq_true rfl) ?_
  refine z_istore (lv' := _) hX dL_law_2285 (by decide) rfl ?_
  refine z_aload_n hX dL_law_2287 3 rfl ?_
  refine z_callV1 hX hM cv_RL_286 zRc10 dL_law_2288 ⟨by omega, by decide, by omega⟩ rfl rfl (Nat.le_of_ble_eq_true rfl) ?_
  refine z_istore (lv' := _) hX dL_law_2291 (by decide) rfl ?_
  refine z_aload_n hX dL_law_2293 4 rfl ?_
  refine z_callV1 hX (ok_X5_thrown l) cv_RL_155 zRc10 dL_law_2294 ⟨by decide, by decide, by omega⟩ rfl rfl (Nat.le_of_ble_eq_true rfl) ?_
  refine z_iload hX dL_law_2297 1 rfl ?_
  refine z_icmp_eq (tgt := 2304) hX dL_law_2299 (by decide) (fun _ => ?_) (fun q => absurd h2 q)
  refine z_iload hX dL_law_2304 1 rfl ?_
  refine z_if_ne (tgt := 2321) hX dL_law_2306 (by decide) (fun _ => ?_) (fun q0 => ?_)
  · skip
    refine z_goto (tgt := 2469) hX dL_law_2321 (by decide) ?_
    refine z_sub [2, 3, 4, 5, 6, 7] rfl ?_
    exact z_widen (by omega) (kk _ _ _ hR)
  · skip
    refine z_aload_n hX dL_law_2309 5 rfl ?_
    refine z_iconst (v := 0) hX dL_law_2310 (by decide) ?_
    refine z_lald hX dL_law_2311 ?_
    refine z_iload hX dL_law_2312 0 rfl ?_
    refine z_i2l hX dL_law_2314 ?_
    refine z_lcmp0 hX dL_law_2315 (hv q0) ?_
    refine z_if_eq (tgt := 2321) hX dL_law_2316 (by decide) (fun _ => ?_) (fun q => absurd rfl q)
    refine z_goto (tgt := 2469) hX dL_law_2321 (by decide) ?_
    refine z_sub [2, 3, 4, 5, 6, 7] rfl ?_
    exact z_widen (by omega) (kk _ _ _ hR)
set_option maxRecDepth 100000 in
theorem bk_40 {p : Program} {l : Launch} {e : Env} {R : Room} {s : State} {m : MethodId} {args : Array Value} {below : List Frame} {meth : Method} {c : Code} {Q : State → Prop} {g : zG} {ret : Option FieldType} {mc : Nat} {κ : zKp} {μ : zMu} {ω : zOm} {k b L n : Nat} {xs : Nat → Int32} (hX : zX p l s m args meth c R g RL cL_law 9 ret 21 mc) (hl0 : l.stackTraces = false) (hx : scX s g b L xs) (h : RR κ μ) (hn : n + 5 ≤ L) (hk : k + 1 ≤ mc) (kk : ∀ κ' μ' ω', RR κ' μ' → zZ p l e R s m args below meth c g 9 Q κ' μ' ω' (k + 1) 2469 (lvL g b n) []) : zZ p l e R s m args below meth c g 9 Q κ μ ω k 2324 (lvL g b n) [] := by
  obtain ⟨κ', μ', ω', kc, bb, lv, hlv, hR, hW, hM, h2, hv⟩ := sm_failedCommand l hl0 (g := g) (ω := ω) h
  refine z_aload_n hX dL_law_2324 1 rfl ?_
  refine z_aload_n hX dL_law_2325 3 rfl ?_
  refine z_callW (nA := 2) hX hW (gW_W (gW_I 1084 (by decide +kernel) rfl) (gW_I 1085 (by decide +kernel) rfl) (gW_I 0 (by decide +kernel) rfl) wh_failedCommand ⟨by decide, by decide, by decide +kernel⟩) dL_law_2326 ⟨by decide, by decide, by omega⟩ rfl rfl (Nat.le_of_ble_eq_true rfl) ?_
  refine z_istore (lv' := _) hX dL_law_2329 (by decide) rfl ?_
  refine z_aload_n hX dL_law_2331 3 rfl ?_
  refine z_callV1 hX hM cv_RL_289 zRc10 dL_law_2332 ⟨by omega, by decide, by omega⟩ rfl rfl (Nat.le_of_ble_eq_true rfl) ?_
  refine z_istore (lv' := _) hX dL_law_2335 (by decide) rfl ?_
  refine z_aload_n hX dL_law_2337 4 rfl ?_
  refine z_callV1 hX (ok_X5_thrown l) cv_RL_155 zRc10 dL_law_2338 ⟨by decide, by decide, by omega⟩ rfl rfl (Nat.le_of_ble_eq_true rfl) ?_
  refine z_iload hX dL_law_2341 1 rfl ?_
  refine z_icmp_eq (tgt := 2348) hX dL_law_2343 (by decide) (fun _ => ?_) (fun q => absurd h2 q)
  refine z_iload hX dL_law_2348 1 rfl ?_
  refine z_if_ne (tgt := 2365) hX dL_law_2350 (by decide) (fun _ => ?_) (fun q0 => ?_)
  · skip
    refine z_goto (tgt := 2469) hX dL_law_2365 (by decide) ?_
    refine z_sub [2, 3, 4, 5, 6, 7] rfl ?_
    exact z_widen (by omega) (kk _ _ _ hR)
  · skip
    refine z_aload_n hX dL_law_2353 5 rfl ?_
    refine z_iconst (v := 0) hX dL_law_2354 (by decide) ?_
    refine z_lald hX dL_law_2355 ?_
    refine z_iload hX dL_law_2356 0 rfl ?_
    refine z_i2l hX dL_law_2358 ?_
    refine z_lcmp0 hX dL_law_2359 (hv q0) ?_
    refine z_if_eq (tgt := 2365) hX dL_law_2360 (by decide) (fun _ => ?_) (fun q => absurd rfl q)
    refine z_goto (tgt := 2469) hX dL_law_2365 (by decide) ?_
    refine z_sub [2, 3, 4, 5, 6, 7] rfl ?_
    exact z_widen (by omega) (kk _ _ _ hR)
set_option maxRecDepth 100000 in
theorem bk_41 {p : Program} {l : Launch} {e : Env} {R : Room} {s : State} {m : MethodId} {args : Array Value} {below : List Frame} {meth : Method} {c : Code} {Q : State → Prop} {g : zG} {ret : Option FieldType} {mc : Nat} {κ : zKp} {μ : zMu} {ω : zOm} {k b L n : Nat} {xs : Nat → Int32} (hX : zX p l s m args meth c R g RL cL_law 9 ret 21 mc) (hl0 : l.stackTraces = false) (hx : scX s g b L xs) (h : RR κ μ) (hn : n + 5 ≤ L) (hk : k + 1 ≤ mc) (kk : ∀ κ' μ' ω', RR κ' μ' → zZ p l e R s m args below meth c g 9 Q κ' μ' ω' (k + 1) 2469 (lvL g b n) []) : zZ p l e R s m args below meth c g 9 Q κ μ ω k 2368 (lvL g b n) [] := by
  obtain ⟨κ', μ', ω', kc, bb, lv, hlv, hR, hW, hM, h2, hv⟩ := sm_undo l hl0 (g := g) (ω := ω) h
  refine z_aload_n hX dL_law_2368 1 rfl ?_
  refine z_aload_n hX dL_law_2369 3 rfl ?_
  refine z_callW (nA := 2) hX hW (gW_W (gW_I 1092 (by decide +kernel) rfl) (gW_I 1093 (by decide +kernel) rfl) (gW_I 0 (by decide +kernel) rfl) wh_undo ⟨by decide, by decide, by decide +kernel⟩) dL_law_2370 ⟨by decide, by decide, by omega⟩ rfl rfl (Nat.le_of_ble_eq_true rfl) ?_
  refine z_istore (lv' := _) hX dL_law_2373 (by decide) rfl ?_
  refine z_aload_n hX dL_law_2375 3 rfl ?_
  refine z_callV1 hX hM cv_RL_292 zRc10 dL_law_2376 ⟨by omega, by decide, by omega⟩ rfl rfl (Nat.le_of_ble_eq_true rfl) ?_
  refine z_istore (lv' := _) hX dL_law_2379 (by decide) rfl ?_
  refine z_aload_n hX dL_law_2381 4 rfl ?_
  refine z_callV1 hX (ok_X5_thrown l) cv_RL_155 zRc10 dL_law_2382 ⟨by decide, by decide, by omega⟩ rfl rfl (Nat.le_of_ble_eq_true rfl) ?_
  refine z_iload hX dL_law_2385 1 rfl ?_
  refine z_icmp_eq (tgt := 2392) hX dL_law_2387 (by decide) (fun _ => ?_) (fun q => absurd h2 q)
  refine z_iload hX dL_law_2392 1 rfl ?_
  refine z_if_ne (tgt := 2409) hX dL_law_2394 (by decide) (fun _ => ?_) (fun q0 => ?_)
  · skip
    refine z_goto (tgt := 2469) hX dL_law_2409 (by decide) ?_
    refine z_sub [2, 3, 4, 5, 6, 7] rfl ?_
    exact z_widen (by omega) (kk _ _ _ hR)
  · skip
    refine z_aload_n hX dL_law_2397 5 rfl ?_
    refine z_iconst (v := 0) hX dL_law_2398 (by decide) ?_
    refine z_lald hX dL_law_2399 ?_
    refine z_iload hX dL_law_2400 0 rfl ?_
    refine z_i2l hX dL_law_2402 ?_
    refine z_lcmp0 hX dL_law_2403 (hv q0) ?_
    refine z_if_eq (tgt := 2409) hX dL_law_2404 (by decide) (fun _ => ?_) (fun q => absurd rfl q)
    refine z_goto (tgt := 2469) hX dL_law_2409 (by decide) ?_
    refine z_sub [2, 3, 4, 5, 6, 7] rfl ?_
    exact z_widen (by omega) (kk _ _ _ hR)
set_option maxRecDepth 100000 in
theorem bk_42 {p : Program} {l : Launch} {e : Env} {R : Room} {s : State} {m : MethodId} {args : Array Value} {below : List Frame} {meth : Method} {c : Code} {Q : State → Prop} {g : zG} {ret : Option FieldType} {mc : Nat} {κ : zKp} {μ : zMu} {ω : zOm} {k b L n : Nat} {xs : Nat → Int32} (hX : zX p l s m args meth c R g RL cL_law 9 ret 21 mc) (hl0 : l.stackTraces = false) (hx : scX s g b L xs) (h : RR κ μ) (hn : n + 5 ≤ L) (hk : k + 1 ≤ mc) (kk : ∀ κ' μ' ω', RR κ' μ' → zZ p l e R s m args below meth c g 9 Q κ' μ' ω' (k + 1) 2469 (lvL g b n) []) : zZ p l e R s m args below meth c g 9 Q κ μ ω k 2412 (lvL g b n) [] := by
  obtain ⟨κ', μ', bb, lx, lm, hlx, hlm, hR, hM1, hM2⟩ := sb_save l (g := g) (ω := ω) h
  refine z_aload_n hX dL_law_2412 1 rfl ?_
  refine z_callV1 hX hM1 cv_RL_293 zRc0 dL_law_2413 ⟨by omega, by decide, by omega⟩ rfl rfl (Nat.le_of_ble_eq_true rfl) ?_
  refine z_aload_n hX dL_law_2416 2 rfl ?_
  refine z_callV1 hX hM2 cv_RL_296 zRc10 dL_law_2417 ⟨by omega, by decide, by omega⟩ rfl rfl (Nat.le_of_ble_eq_true rfl) ?_
  refine z_icmp_eq (tgt := 2469) hX dL_law_2420 (by decide) (fun _ => z_widen (by omega) (kk κ' μ' ω hR)) (fun q => absurd rfl q)
set_option maxRecDepth 100000 in
theorem bk_43 {p : Program} {l : Launch} {e : Env} {R : Room} {s : State} {m : MethodId} {args : Array Value} {below : List Frame} {meth : Method} {c : Code} {Q : State → Prop} {g : zG} {ret : Option FieldType} {mc : Nat} {κ : zKp} {μ : zMu} {ω : zOm} {k b L n : Nat} {xs : Nat → Int32} (hX : zX p l s m args meth c R g RL cL_law 9 ret 21 mc) (hl0 : l.stackTraces = false) (hx : scX s g b L xs) (h : RR κ μ) (hn : n + 5 ≤ L) (hk : k + 1 ≤ mc) (kk : ∀ κ' μ' ω', RR κ' μ' → zZ p l e R s m args below meth c g 9 Q κ' μ' ω' (k + 1) 2469 (lvL g b n) []) : zZ p l e R s m args below meth c g 9 Q κ μ ω k 2425 (lvL g b n) [] := by
  obtain ⟨κ', μ', ω', kc, bb, lv, hlv, hR, hW, hM, h2, hv⟩ := sm_restore l hl0 (g := g) (ω := ω) h
  refine z_aload_n hX dL_law_2425 1 rfl ?_
  refine z_aload_n hX dL_law_2426 3 rfl ?_
  refine z_callW (nA := 2) hX hW (gW_W (gW_I 1104 (by decide +kernel) rfl) (gW_I 1105 (by decide +kernel) rfl) (gW_I 0 (by decide +kernel) rfl) wh_restore ⟨by decide, by decide, by decide +kernel⟩) dL_law_2427 ⟨by decide, by decide, by omega⟩ rfl rfl (Nat.le_of_ble_eq_true rfl) ?_
  refine z_istore (lv' := _) hX dL_law_2430 (by decide) rfl ?_
  refine z_aload_n hX dL_law_2432 3 rfl ?_
  refine z_callV1 hX hM cv_RL_299 zRc10 dL_law_2433 ⟨by omega, by decide, by omega⟩ rfl rfl (Nat.le_of_ble_eq_true rfl) ?_
  refine z_istore (lv' := _) hX dL_law_2436 (by decide) rfl ?_
  refine z_aload_n hX dL_law_2438 4 rfl ?_
  refine z_callV1 hX (ok_X5_thrown l) cv_RL_155 zRc10 dL_law_2439 ⟨by decide, by decide, by omega⟩ rfl rfl (Nat.le_of_ble_eq_true rfl) ?_
  refine z_iload hX dL_law_2442 1 rfl ?_
  refine z_icmp_eq (tgt := 2449) hX dL_law_2444 (by decide) (fun _ => ?_) (fun q => absurd h2 q)
  refine z_iload hX dL_law_2449 1 rfl ?_
  refine z_if_ne (tgt := 2466) hX dL_law_2451 (by decide) (fun _ => ?_) (fun q0 => ?_)
  · skip
    refine z_goto (tgt := 2469) hX dL_law_2466 (by decide) ?_
    refine z_sub [2, 3, 4, 5, 6, 7] rfl ?_
    exact z_widen (by omega) (kk _ _ _ hR)
  · skip
    refine z_aload_n hX dL_law_2454 5 rfl ?_
    refine z_iconst (v := 0) hX dL_law_2455 (by decide) ?_
    refine z_lald hX dL_law_2456 ?_
    refine z_iload hX dL_law_2457 0 rfl ?_
    refine z_i2l hX dL_law_2459 ?_
    refine z_lcmp0 hX dL_law_2460 (hv q0) ?_
    refine z_if_eq (tgt := 2466) hX dL_law_2461 (by decide) (fun _ => ?_) (fun q => absurd rfl q)
    refine z_goto (tgt := 2469) hX dL_law_2466 (by decide) ?_
    refine z_sub [2, 3, 4, 5, 6, 7] rfl ?_
    exact z_widen (by omega) (kk _ _ _ hR)
end ZLW
