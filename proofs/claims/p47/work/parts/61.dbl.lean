section ZDR
variable {p : Program} {l : Launch} {e : Env} {R : Room} {s : State} {m : MethodId} {args : Array Value} {below : List Frame} {meth : Method} {c : Code} {Q : State → Prop} {g : zG} {own : String} {cc : ByteArray} {n lvl mc : Nat} {ret : Option FieldType} {κ κ' : zKp} {μ μ' : zMu} {ω ω' : zOm} {k pc : Nat} {lv lv' : List (Nat × Value)} {st : List Value}
theorem z_i2d (hX : zX p l s m args meth c R g own cc n ret lvl mc) {x : Int32} (d : decode cc pc = .ok (.i2d, 1)) (kk : zZ p l e R s m args below meth c g n Q κ μ ω k (pc + 1) lv (.double (FP.i2d x) :: st)) : zZ p l e R s m args below meth c g n Q κ μ ω k pc lv (.int x :: st) := fun H ls locs hl hS hW => lv_i2d hX.1 hX.2.1 d (kk H ls locs hl hS hW)
theorem z_ddiv (hX : zX p l s m args meth c R g own cc n ret lvl mc) {x y : UInt64} (hne : FP.ddiv x y &&& 0x7fffffffffffffff ≤ 0x7ff0000000000000) (d : decode cc pc = .ok (.ddiv, 1)) (kk : zZ p l e R s m args below meth c g n Q κ μ ω k (pc + 1) lv (.double (FP.ddiv x y) :: st)) : zZ p l e R s m args below meth c g n Q κ μ ω k pc lv (.double y :: .double x :: st) := fun H ls locs hl hS hW => lv_ddiv hX.1 hX.2.1 d hne (kk H ls locs hl hS hW)
theorem z_dconst0 (hX : zX p l s m args meth c R g own cc n ret lvl mc) (d : decode cc pc = .ok (.dconst 0, 1)) (kk : zZ p l e R s m args below meth c g n Q κ μ ω k (pc + 1) lv (.double FP.dconst0 :: st)) : zZ p l e R s m args below meth c g n Q κ μ ω k pc lv st := fun H ls locs hl hS hW => lv_dconst0 hX.1 hX.2.1 d (kk H ls locs hl hS hW)
theorem z_dret {r : Option Value} {x : UInt64} (hX : zX p l s m args meth c R g own cc n (some .double) lvl mc) (d : decode cc pc = .ok (.dreturn, 1)) (hk : k ≤ mc) (hr : r = some (.double x)) (hw : ∀ H, WW g κ μ ω H → WW g κ' μ' ω' H) : zZ p l e R s m args below meth c g n (zQ g κ' μ' ω' r below args s mc) κ μ ω k pc lv [.double x] := fun H ls locs hl hS hW => by
  subst hr
  obtain ⟨hx, hb, hml, hown, hts, hK, hB, hs, hR, hlk, hrt⟩ := hX
  exact W.widen hk (Nat.mul_le_mul_left 6 hk) (W.dret hx hb hrt (fun t ht hw2 => ⟨rfl, by rw [ht]; exact hw H hW, hS.F ht⟩) hS.2.2 d hlk)
theorem z_i2f (hX : zX p l s m args meth c R g own cc n ret lvl mc) {x : Int32} (d : decode cc pc = .ok (.i2f, 1)) (kk : zZ p l e R s m args below meth c g n Q κ μ ω k (pc + 1) lv (.float (FP.i2f x) :: st)) : zZ p l e R s m args below meth c g n Q κ μ ω k pc lv (.int x :: st) := fun H ls locs hl hS hW => lv_i2f hX.1 hX.2.1 d (kk H ls locs hl hS hW)
theorem z_fdiv (hX : zX p l s m args meth c R g own cc n ret lvl mc) {x y : UInt32} (hne : FP.fdiv x y &&& 0x7fffffff ≤ 0x7f800000) (d : decode cc pc = .ok (.fdiv, 1)) (kk : zZ p l e R s m args below meth c g n Q κ μ ω k (pc + 1) lv (.float (FP.fdiv x y) :: st)) : zZ p l e R s m args below meth c g n Q κ μ ω k pc lv (.float y :: .float x :: st) := fun H ls locs hl hS hW => lv_fdiv hX.1 hX.2.1 d hne (kk H ls locs hl hS hW)
theorem z_fconst0 (hX : zX p l s m args meth c R g own cc n ret lvl mc) (d : decode cc pc = .ok (.fconst 0, 1)) (kk : zZ p l e R s m args below meth c g n Q κ μ ω k (pc + 1) lv (.float FP.fconst0 :: st)) : zZ p l e R s m args below meth c g n Q κ μ ω k pc lv st := fun H ls locs hl hS hW => lv_fconst0 hX.1 hX.2.1 d (kk H ls locs hl hS hW)
theorem z_fret {r : Option Value} {x : UInt32} (hX : zX p l s m args meth c R g own cc n (some .float) lvl mc) (d : decode cc pc = .ok (.freturn, 1)) (hk : k ≤ mc) (hr : r = some (.float x)) (hw : ∀ H, WW g κ μ ω H → WW g κ' μ' ω' H) : zZ p l e R s m args below meth c g n (zQ g κ' μ' ω' r below args s mc) κ μ ω k pc lv [.float x] := fun H ls locs hl hS hW => by
  subst hr
  obtain ⟨hx, hb, hml, hown, hts, hK, hB, hs, hR, hlk, hrt⟩ := hX
  exact W.widen hk (Nat.mul_le_mul_left 6 hk) (W.fret hx hb hrt (fun t ht hw2 => ⟨rfl, by rw [ht]; exact hw H hW, hS.F ht⟩) hS.2.2 d hlk)
end ZDR
section ZDM
theorem df_gt : ∀ a, a < 100 → ∀ b, b < 100 → (0 < nI a - nI b ↔ nI b < nI a) := by decide +kernel
theorem df_eq : ∀ a, a < 100 → ∀ b, b < 100 → (nI a - nI b = 0 ↔ nI a = nI b) := by decide +kernel
theorem ti_pos {q : Nat} {x : Int32} (h : x = nI q) (h0 : ¬ x = 0) : 0 < q := by
  rcases Nat.eq_zero_or_pos q with w | w
  · rw [w] at h; exact absurd h h0
  · exact w
theorem n0_pos {q : Nat} (h : 0 < q) (hq : q < 100000) : ¬ nI q ≤ 0 := nI_nle h (by omega)
/-- the lane's text in the class: length and row -/
def zWr (κ : zKp) (q : Nat) (W : Nat → Int32) : zKp := zRow (zRow κ 0 0 (upd (κ 0 0) 0 (nI q))) 1 0 W
theorem zWr_w {κ : zKp} {q w : Nat} {W : Nat → Int32} {v : Int32} : zRow (zWr κ q W) 1 0 (upd (zWr κ q W 1 0) w v) = zWr κ q (upd W w v) := by
  unfold zWr
  rw [zRow_s, zRow_2]
theorem zRow_c {κ : zKp} {r r' : Nat → Int32} : zRow (zRow κ 1 0 r) 0 0 r' = zRow (zRow κ 0 0 r') 1 0 r := by
  funext t f
  unfold zRow
  by_cases h1 : t = 0 ∧ f = 0
  · rw [if_pos h1, if_neg (by omega), if_pos h1]
  · rw [if_neg h1]
    by_cases h2 : t = 1 ∧ f = 0
    · rw [if_pos h2, if_pos h2]
    · rw [if_neg h2, if_neg h2, if_neg h1]
theorem zWr_n {κ : zKp} {q w : Nat} {W : Nat → Int32} : zRow (zWr κ q W) 0 0 (upd (zWr κ q W 0 0) 0 (nI w)) = zWr κ w W := by
  have e : zWr κ q W 0 0 = upd (κ 0 0) 0 (nI q) := rfl
  rw [e, upd_2]
  unfold zWr
  rw [zRow_c, zRow_2]
theorem zWr_0 {κ : zKp} : zRow κ 0 0 (upd (κ 0 0) 0 0) = zWr κ 0 (κ 1 0) := by
  unfold zWr
  rw [nI_0]
  exact (zRow_self (zRow κ 0 0 (upd (κ 0 0) 0 0)) 1 0).symm
set_option maxHeartbeats 4000000 in
set_option maxRecDepth 100000 in
theorem ok_X4_meanMorale (l : Launch) {g : zG} {κ : zKp} {μ : zMu} {ω : zOm} {gb cb : Nat → Int32} (hI : batI gb) (h0 : ¬ aliB gb = 0)  : zM l g yX4_meanMorale cX4_meanMorale 2 (some .double) 4 0 [.ref (gA g 0 0 0)] (zF κ 0 gb cb) μ ω (zF κ 0 gb cb) μ ω (some (.double (FP.ddiv (FP.i2d (morB gb)) (FP.i2d (aliB gb))))) := by
  have hn := hI.1.1
  obtain ⟨a0, ha0, ea⟩ := mor_of hI
  obtain ⟨b0, hb0, eb⟩ := ali_of hI
  refine zM_of (by decide) (Nat.le_of_ble_eq_true rfl) (fun p e R s m args below meth c hX => ?_)
  show zZ p l e R s m args below meth c g 2 _ _ _ _ 0 0 [(0, .ref (gA g 0 0 0))] []
  refine z_aload_n hX dX4_meanMorale_0 0 rfl ?_
  refine zg_X4_field hX   fl_RX4_10 dX4_meanMorale_1 ?_
  refine z_callV1 hX (ok_X1_unfallenCount l z0lt hn) cv_RX4_258 (zRc6 z0lt) dX4_meanMorale_4 (by decide) rfl rfl (Nat.le_of_ble_eq_true rfl) ?_
  refine z_isv (ali_eq hI) ?_
  refine z_istore_n (lv' := [(1, _), (0, _)]) hX dX4_meanMorale_7 (by decide) rfl ?_
  refine z_iload_n hX dX4_meanMorale_8 0 rfl ?_
  refine z_if_ne (tgt := 23) hX dX4_meanMorale_9 (by decide) (fun h9 => ?_) (fun h9 => absurd h9 h0)
  refine z_aload_n hX dX4_meanMorale_23 1 rfl ?_
  refine zg_X4_field hX   fl_RX4_10 dX4_meanMorale_24 ?_
  refine z_callV1 hX (ok_X1_moraleSum l z0lt hn) cv_RX4_266 (zRc6 z0lt) dX4_meanMorale_27 (by decide) rfl rfl (Nat.le_of_ble_eq_true rfl) ?_
  refine z_isv (show _ = morB gb from rfl) ?_
  refine z_i2d hX dX4_meanMorale_30 ?_
  refine z_iload_n hX dX4_meanMorale_31 0 rfl ?_
  refine z_i2d hX dX4_meanMorale_32 ?_
  refine z_ddiv hX (by rw [ea, eb]; exact dd_nan a0 (by omega) b0 (by omega) (ti_pos eb h0)) dX4_meanMorale_33 ?_
  exact z_dret hX dX4_meanMorale_34 (by decide) rfl (fun _ h => h)
set_option maxHeartbeats 4000000 in
set_option maxRecDepth 100000 in
theorem no_X4_meanMorale (l : Launch) (hl0 : l.stackTraces = false) {g : zG} {κ : zKp} {μ : zMu} {ω : zOm} {gb cb : Nat → Int32} (hI : batI gb) (h0 : aliB gb = 0)  : zMx l g yX4_meanMorale cX4_meanMorale 2 (some .double) 6 1 [.ref (gA g 0 0 0)] (zF κ 0 gb cb) μ ω (zF κ 0 gb cb) μ ω (.error xARE) := by
  have hn := hI.1.1
  refine zMx_of (by decide) (Nat.le_of_ble_eq_true rfl) (fun p e R s m args below meth c hX hT => ?_)
  show zZ p l e R s m args below meth c g 2 _ _ _ _ 0 0 [(0, .ref (gA g 0 0 0))] []
  refine z_aload_n hX dX4_meanMorale_0 0 rfl ?_
  refine zg_X4_field hX   fl_RX4_10 dX4_meanMorale_1 ?_
  refine z_callV1 hX (ok_X1_unfallenCount l z0lt hn) cv_RX4_258 (zRc6 z0lt) dX4_meanMorale_4 (by decide) rfl rfl (Nat.le_of_ble_eq_true rfl) ?_
  refine z_isv (ali_eq hI) ?_
  refine z_istore_n (lv' := [(1, _), (0, _)]) hX dX4_meanMorale_7 (by decide) rfl ?_
  refine z_iload_n hX dX4_meanMorale_8 0 rfl ?_
  refine z_if_ne (tgt := 23) hX dX4_meanMorale_9 (by decide) (fun h9 => absurd h9 (Classical.not_not.mpr h0)) (fun h9 => ?_)
  exact z_throwW hX hT hl0 (i := 22) ft_ARE zN2_fit cl_ARE in_ARE rfl (zhat h1_ARE h2_ARE hX) go_ARE dX4_meanMorale_12 dX4_meanMorale_15 dX4_meanMorale_16 dX4_meanMorale_19 dX4_meanMorale_22 (by decide) (Nat.le_of_ble_eq_true rfl) rfl (fun _ h => h)
set_option maxHeartbeats 4000000 in
set_option maxRecDepth 100000 in
theorem ok_X4_standingShare (l : Launch) {g : zG} {κ : zKp} {μ : zMu} {ω : zOm} {gb cb : Nat → Int32} (hI : batI gb) (h0 : ¬ gb 0 = 0)  : zM l g yX4_standingShare cX4_standingShare 2 (some .float) 4 0 [.ref (gA g 0 0 0)] (zF κ 0 gb cb) μ ω (zF κ 0 gb cb) μ ω (some (.float (FP.fdiv (FP.i2f (staB gb)) (FP.i2f (gb 0))))) := by
  have hn := hI.1.1
  obtain ⟨a0, ha0, ea⟩ := sta_of hI
  refine zM_of (by decide) (Nat.le_of_ble_eq_true rfl) (fun p e R s m args below meth c hX => ?_)
  show zZ p l e R s m args below meth c g 2 _ _ _ _ 0 0 [(0, .ref (gA g 0 0 0))] []
  refine z_aload_n hX dX4_standingShare_0 0 rfl ?_
  refine zg_X4_field hX   fl_RX4_10 dX4_standingShare_1 ?_
  refine zg_X1_count hX z0lt  fl_RX4_114 dX4_standingShare_4 ?_
  refine z_istore_n (lv' := [(1, _), (0, _)]) hX dX4_standingShare_7 (by decide) rfl ?_
  refine z_iload_n hX dX4_standingShare_8 0 rfl ?_
  refine z_if_ne (tgt := 23) hX dX4_standingShare_9 (by decide) (fun h9 => ?_) (fun h9 => absurd h9 h0)
  refine z_aload_n hX dX4_standingShare_23 1 rfl ?_
  refine zg_X4_field hX   fl_RX4_10 dX4_standingShare_24 ?_
  refine z_callV1 hX (ok_X1_standingCount l z0lt hn) cv_RX4_271 (zRc6 z0lt) dX4_standingShare_27 (by decide) rfl rfl (Nat.le_of_ble_eq_true rfl) ?_
  refine z_isv (show _ = staB gb from rfl) ?_
  refine z_i2f hX dX4_standingShare_30 ?_
  refine z_iload_n hX dX4_standingShare_31 0 rfl ?_
  refine z_i2f hX dX4_standingShare_32 ?_
  refine z_fdiv hX (by rw [ea, hn.2]; exact ff_nan a0 (by omega) (bn gb) (by have := hn.1; omega) (ti_pos hn.2 h0)) dX4_standingShare_33 ?_
  exact z_fret hX dX4_standingShare_34 (by decide) rfl (fun _ h => h)
set_option maxHeartbeats 4000000 in
set_option maxRecDepth 100000 in
theorem no_X4_standingShare (l : Launch) (hl0 : l.stackTraces = false) {g : zG} {κ : zKp} {μ : zMu} {ω : zOm} {gb cb : Nat → Int32} (hI : batI gb) (h0 : gb 0 = 0)  : zMx l g yX4_standingShare cX4_standingShare 2 (some .float) 6 1 [.ref (gA g 0 0 0)] (zF κ 0 gb cb) μ ω (zF κ 0 gb cb) μ ω (.error xARE) := by
  refine zMx_of (by decide) (Nat.le_of_ble_eq_true rfl) (fun p e R s m args below meth c hX hT => ?_)
  show zZ p l e R s m args below meth c g 2 _ _ _ _ 0 0 [(0, .ref (gA g 0 0 0))] []
  refine z_aload_n hX dX4_standingShare_0 0 rfl ?_
  refine zg_X4_field hX   fl_RX4_10 dX4_standingShare_1 ?_
  refine zg_X1_count hX z0lt  fl_RX4_114 dX4_standingShare_4 ?_
  refine z_istore_n (lv' := [(1, _), (0, _)]) hX dX4_standingShare_7 (by decide) rfl ?_
  refine z_iload_n hX dX4_standingShare_8 0 rfl ?_
  refine z_if_ne (tgt := 23) hX dX4_standingShare_9 (by decide) (fun h9 => absurd h9 (Classical.not_not.mpr h0)) (fun h9 => ?_)
  exact z_throwW hX hT hl0 (i := 23) ft_ARE zN2_fit cl_ARE in_ARE rfl (zhat h1_ARE h2_ARE hX) go_ARE dX4_standingShare_12 dX4_standingShare_15 dX4_standingShare_16 dX4_standingShare_19 dX4_standingShare_22 (by decide) (Nat.le_of_ble_eq_true rfl) rfl (fun _ h => h)




/-- the three tests of the reference are the order of strengths -/
theorem tp_1 {g : zB} (h : batI g) {i k : Nat} (hi : i < bn g) (hk : k < bn g) : (0 < bf g k 4 - bf g i 4 ↔ bf g i 4 < bf g k 4) ∧ (bf g k 4 - bf g i 4 = 0 ↔ bf g k 4 = bf g i 4) := by
  obtain ⟨a1, a2⟩ := sk_of h hi
  obtain ⟨b1, b2⟩ := sk_of h hk
  rw [a2, b2]
  exact ⟨df_gt _ (by omega) _ (by omega), df_eq _ (by omega) _ (by omega)⟩
theorem rk_f {b : zB} {i k : Nat} {x : Int32} (_ : ∀ j, j < bn b → ¬ j = i → ¬ rankB b j = x) (h : ¬ k = i) : (if i < k then nI i else (0 : Int32)) = if i < k + 1 then nI i else 0 := by
  by_cases q : i < k
  · rw [if_pos q, if_pos (by omega)]
  · rw [if_neg q, if_neg (by omega)]
theorem rk_t {i k : Nat} (h : k = i) : nI k = if i < k + 1 then nI i else 0 := by rw [h, if_pos (Nat.lt_succ_self i)]


set_option maxHeartbeats 4000000 in
set_option maxRecDepth 100000 in
theorem ok_X4_write (l : Launch) {g : zG} {κ : zKp} {μ : zMu} {ω : zOm} {q : Nat} {W : Nat → Int32} {v : Int32} (hq : q < 20) (hv : vp_nar .char v = v)  : zM l g yX4_write cX4_write 2 none 1 0 [.ref (gA g 0 0 0), .int v] (zWr κ q W) μ ω (zWr κ (q + 1) (upd W q v)) μ ω none := by
  refine zM_of (by decide) (Nat.le_of_ble_eq_true rfl) (fun p e R s m args below meth c hX => ?_)
  show zZ p l e R s m args below meth c g 2 _ _ _ _ 0 0 [(0, .ref (gA g 0 0 0)), (1, .int v)] []
  refine z_aload_n hX dX4_write_0 0 rfl ?_
  refine zg_X4_writtenLength hX   fl_RX4_40 dX4_write_1 ?_
  refine z_isv (show _ = nI q from rfl) ?_
  refine z_if_lt (tgt := 39) hX dX4_write_4 (by decide) (fun h4 => absurd h4 (nn_i (by omega))) (fun h4 => ?_)
  refine z_aload_n hX dX4_write_7 0 rfl ?_
  refine zg_X4_writtenLength hX   fl_RX4_40 dX4_write_8 ?_
  refine z_isv (show _ = nI q from rfl) ?_
  refine z_aload_n hX dX4_write_11 0 rfl ?_
  refine zg_X4_written hX   fl_RX4_36 dX4_write_12 ?_
  refine zl_written hX  dX4_write_15 ?_
  refine z_icmp_ge (tgt := 39) hX dX4_write_16 (by decide) (fun h16 => absurd h16 (nle_i hq (by decide))) (fun h16 => ?_)
  refine z_aload_n hX dX4_write_19 0 rfl ?_
  refine zg_X4_written hX   fl_RX4_36 dX4_write_20 ?_
  refine z_aload_n hX dX4_write_23 0 rfl ?_
  refine zg_X4_writtenLength hX   fl_RX4_40 dX4_write_24 ?_
  refine z_isv (show _ = nI q from rfl) ?_
  refine z_iload_n hX dX4_write_27 1 rfl ?_
  refine zs_written hX rfl hq hv dX4_write_28 ?_
  rw [zWr_w]
  refine z_aload_n hX dX4_write_29 0 rfl ?_
  refine z_dup hX dX4_write_30 rfl ?_
  refine zg_X4_writtenLength hX   fl_RX4_40 dX4_write_31 ?_
  refine z_isv (show _ = nI q from rfl) ?_
  refine z_iconst (v := 1) hX dX4_write_34 (by decide) ?_
  refine z_iadd hX dX4_write_35 ?_
  refine z_isv (nI_1 q) ?_
  refine zp_X4_writtenLength hX fl_RX4_40 dX4_write_36 ?_
  rw [zWr_n]
  exact z_vret hX dX4_write_39 (by decide) (fun _ h => h)
set_option maxHeartbeats 4000000 in
set_option maxRecDepth 100000 in
theorem ok_X4_writeLane (l : Launch) {g : zG} {κ : zKp} {μ : zMu} {ω : zOm} {gb cb : Nat → Int32} {a0 : Nat} (h6 : κ 6 0 = gb) (h8 : κ 8 0 = cb) (hI : batI gb) (hc : cb = cellsOf gb) (ha0 : a0 < 3)  : zM l g yX4_writeLane cX4_writeLane 4 (some .int) 4 0 [.ref (gA g 0 0 0), .int (nI a0)] κ μ ω (zWr κ ((lnS gb a0 (κ 1 0) 10).1) ((lnS gb a0 (κ 1 0) 10).2)) μ ω (some (.int (nI (lnS gb a0 (κ 1 0) 10).1))) := by
  have hn := hI.1.1
  have hla : 0 ≤ nI a0 ∧ nI a0 < 3 := ⟨ge_i (by omega), lt_i (b := 3) ha0 (by decide)⟩
  refine zM_of (by decide) (Nat.le_of_ble_eq_true rfl) (fun p e R s m args below meth c hX => ?_)
  show zZ p l e R s m args below meth c g 4 _ _ _ _ 0 0 [(0, .ref (gA g 0 0 0)), (1, .int (nI a0))] []
  refine z_iload_n hX dX4_writeLane_0 1 rfl ?_
  refine z_callS1 hX (ok_X4_isLane l) cs_RX4_158 dX4_writeLane_1 (by decide) rfl rfl (Nat.le_of_ble_eq_true rfl) ?_
  refine z_if_neB (tgt := 17) hX dX4_writeLane_4 (by decide) (fun h4 => ?_) (fun h4 => absurd h4 (fun q => q hla))
  refine z_aload_n hX dX4_writeLane_17 0 rfl ?_
  refine z_iconst (v := 0) hX dX4_writeLane_18 (by decide) ?_
  refine zp_X4_writtenLength hX fl_RX4_40 dX4_writeLane_19 ?_
  rw [zWr_0]
  refine z_iconst (v := 0) hX dX4_writeLane_22 (by decide) ?_
  refine z_istore_n (lv' := [(2, _), (0, _), (1, _)]) hX dX4_writeLane_23 (by decide) rfl ?_
  have hL : ∀ (dz : Nat) (k : Nat), 10 - k = dz → k ≤ 10 → zZ p l e R s m args below meth c g 4 (zQ g (zWr κ ((lnS gb a0 (κ 1 0) 10).1) ((lnS gb a0 (κ 1 0) 10).2)) μ ω (some (.int (nI (lnS gb a0 (κ 1 0) 10).1))) below args s 0) (zWr κ ((lnS gb a0 (κ 1 0) (k)).1) ((lnS gb a0 (κ 1 0) (k)).2)) μ ω 0 24 [(0, .ref (gA g 0 0 0)), (1, .int (nI a0)), (2, .int (nI k))] [] := by
    intro dz
    induction dz with
    | zero =>
      intro k hd hk
      have hkn : k = 10 := by omega
      refine z_iload_n hX dX4_writeLane_24 2 rfl ?_
      refine z_bipush (v := 10) hX dX4_writeLane_25 (by decide) ?_
      refine z_icmp_ge (tgt := 80) hX dX4_writeLane_27 (by decide) (fun h27 => ?_) (fun h27 => absurd h27 (Classical.not_not.mpr (le_i (a := 10) (b := k) (by omega) (by omega))))
      refine z_aload_n hX dX4_writeLane_80 0 rfl ?_
      refine zg_X4_writtenLength hX   fl_RX4_40 dX4_writeLane_81 ?_
      refine z_isv (show _ = nI (lnS gb a0 (κ 1 0) k).1 from rfl) ?_
      exact z_iretI hX dX4_writeLane_84 (by decide) (by rw [hkn]) (fun _ h => by rw [hkn] at h; exact h)
    | succ dz ih =>
      intro k hd hk
      have hkn : k < 10 := by omega
      have hLn := ln_le (g := gb) (a := a0) (W0 := κ 1 0) k
      refine z_iload_n hX dX4_writeLane_24 2 rfl ?_
      refine z_bipush (v := 10) hX dX4_writeLane_25 (by decide) ?_
      refine z_icmp_ge (tgt := 80) hX dX4_writeLane_27 (by decide) (fun h27 => absurd h27 (nle_i (a := k) (b := 10) hkn (by decide))) (fun h27 => ?_)
      refine z_world (κ' := zF (zWr κ ((lnS gb a0 (κ 1 0) (k)).1) ((lnS gb a0 (κ 1 0) (k)).2)) 0 gb cb) (fun _ h => by rw [zF_at (κ := κ) (show (zWr κ ((lnS gb a0 (κ 1 0) (k)).1) ((lnS gb a0 (κ 1 0) (k)).2)) 6 0 = gb from h6) (show (zWr κ ((lnS gb a0 (κ 1 0) (k)).1) ((lnS gb a0 (κ 1 0) (k)).2)) 8 0 = cb from h8)]; exact h) ?_
      refine z_aload_n hX dX4_writeLane_30 0 rfl ?_
      refine zg_X4_field hX   fl_RX4_10 dX4_writeLane_31 ?_
      refine z_iload_n hX dX4_writeLane_34 1 rfl ?_
      refine z_iload_n hX dX4_writeLane_35 2 rfl ?_
      rcases gl_occ (g := gb) (x := nI a0) (y := nI k) hn.1 hla (show inCol (nI k) from ⟨ge_i (by omega), le_i (b := 9) (by omega) (by decide)⟩) with ⟨ho, -⟩ | ⟨j, ho, -, -⟩
      · have hc0 : cellB gb (nI a0) (nI k) = -1 := occ_none hn.1 ho hla ⟨ge_i (by omega), le_i (b := 9) (by omega) (by decide)⟩
        refine z_callV1 hX (ok_occ_n l z0lt hn hc ho) cv_RX4_167 (zRc6 z0lt) dX4_writeLane_36 (by decide) rfl rfl (Nat.le_of_ble_eq_true rfl) ?_
        refine z_nstore_n (lv' := [(3, _), (0, _), (1, _), (2, _)]) hX dX4_writeLane_39 (by decide) rfl ?_
        refine z_nload_n hX dX4_writeLane_40 0 rfl ?_
        refine z_ifnonnullN hX dX4_writeLane_41 ?_
        refine z_world (κ' := zWr κ ((lnS gb a0 (κ 1 0) (k)).1) ((lnS gb a0 (κ 1 0) (k)).2)) (fun _ h => by rw [zF_at (κ := κ) (show (zWr κ ((lnS gb a0 (κ 1 0) (k)).1) ((lnS gb a0 (κ 1 0) (k)).2)) 6 0 = gb from h6) (show (zWr κ ((lnS gb a0 (κ 1 0) (k)).1) ((lnS gb a0 (κ 1 0) (k)).2)) 8 0 = cb from h8)] at h; exact h) ?_
        refine z_aload_n hX dX4_writeLane_44 1 rfl ?_
        refine z_bipush (v := 46) hX dX4_writeLane_45 (by decide) ?_
        refine z_callV0 hX (ok_X4_write l (by omega) rfl) cv_RX4_248 zRc0 dX4_writeLane_47 (by decide) rfl rfl (Nat.le_of_ble_eq_true rfl) ?_
        refine z_goto (tgt := 74) hX dX4_writeLane_50 (by decide) ?_
        refine z_iinc (v := nI (k + 1)) (lv' := [(2, _), (3, _), (0, _), (1, _)]) hX dX4_writeLane_74 3 rfl (nI_1 k) (by decide) rfl ?_
        refine z_goto (tgt := 24) hX dX4_writeLane_77 (by decide) ?_
        refine z_world (κ' := zWr κ ((lnS gb a0 (κ 1 0) (k + 1)).1) ((lnS gb a0 (κ 1 0) (k + 1)).2)) (fun _ h => by rw [ln_n (by rw [hc0]; decide)]; exact h) ?_
        refine z_sub [2, 3, 0] rfl ?_
        exact ih (k + 1) (by omega) hkn
      · obtain ⟨hj, hc0, -⟩ := occ_some hn.1 ho
        have hj12 := lt12 hn hj
        have hLj := hI.1.2.2.1 j hj
        obtain ⟨b9, hb9, eb9⟩ := lt_of hLj
        refine z_callV1 hX (ok_occ_s l z0lt hn hc ho) cv_RX4_167 (zRc6 z0lt) dX4_writeLane_36 (by decide) rfl rfl (Nat.le_of_ble_eq_true rfl) ?_
        refine z_astore_n (lv' := [(3, _), (0, _), (1, _), (2, _)]) hX dX4_writeLane_39 (by decide) rfl ?_
        refine z_aload_n hX dX4_writeLane_40 0 rfl ?_
        refine z_ifnonnull (tgt := 53) hX dX4_writeLane_41 (by decide) ?_
        refine z_aload_n hX dX4_writeLane_53 1 rfl ?_
        refine z_aload_n hX dX4_writeLane_54 0 rfl ?_
        refine z_callV1 hX (ok_X3_letter l z0lt hj12 hj hLj) cv_RX4_252 (zRc9 z0lt (lt12 hn hj)) dX4_writeLane_55 (by decide) rfl rfl (Nat.le_of_ble_eq_true rfl) ?_
        refine z_world (κ' := zWr κ ((lnS gb a0 (κ 1 0) (k)).1) ((lnS gb a0 (κ 1 0) (k)).2)) (fun _ h => by rw [zF_at (κ := κ) (show (zWr κ ((lnS gb a0 (κ 1 0) (k)).1) ((lnS gb a0 (κ 1 0) (k)).2)) 6 0 = gb from h6) (show (zWr κ ((lnS gb a0 (κ 1 0) (k)).1) ((lnS gb a0 (κ 1 0) (k)).2)) 8 0 = cb from h8)] at h; exact h) ?_
        refine z_isv (show _ = ltB gb j from rfl) ?_
        refine z_callV0 hX (ok_X4_write l (by omega) (vp_of (by rw [eb9]; exact (pk_charN (by omega)).1))) cv_RX4_248 zRc0 dX4_writeLane_58 (by decide) rfl rfl (Nat.le_of_ble_eq_true rfl) ?_
        refine z_world (κ' := zF (zWr κ ((lnS gb a0 (κ 1 0) (k)).1 + 1) (upd (lnS gb a0 (κ 1 0) (k)).2 (lnS gb a0 (κ 1 0) (k)).1 (ltB gb j))) 0 gb cb) (fun _ h => by rw [zF_at (κ := κ) (show (zWr κ ((lnS gb a0 (κ 1 0) (k)).1 + 1) (upd (lnS gb a0 (κ 1 0) (k)).2 (lnS gb a0 (κ 1 0) (k)).1 (ltB gb j))) 6 0 = gb from h6) (show (zWr κ ((lnS gb a0 (κ 1 0) (k)).1 + 1) (upd (lnS gb a0 (κ 1 0) (k)).2 (lnS gb a0 (κ 1 0) (k)).1 (ltB gb j))) 8 0 = cb from h8)]; exact h) ?_
        refine z_aload_n hX dX4_writeLane_61 0 rfl ?_
        refine z_callV1 hX (ok_X3_routed l z0lt hj12 hj) cv_RX4_152 (zRc9 z0lt (lt12 hn hj)) dX4_writeLane_62 (by decide) rfl rfl (Nat.le_of_ble_eq_true rfl) ?_
        refine z_if_eqB (tgt := 74) hX dX4_writeLane_65 (by decide) (fun h65 => ?_) (fun h65 => ?_)
        · skip
          refine z_iinc (v := nI (k + 1)) (lv' := [(2, _), (3, _), (0, _), (1, _)]) hX dX4_writeLane_74 3 rfl (nI_1 k) (by decide) rfl ?_
          refine z_goto (tgt := 24) hX dX4_writeLane_77 (by decide) ?_
          refine z_world (κ' := zWr κ ((lnS gb a0 (κ 1 0) (k)).1 + 1) (upd (lnS gb a0 (κ 1 0) (k)).2 (lnS gb a0 (κ 1 0) (k)).1 (ltB gb j))) (fun _ h => by rw [zF_at (κ := κ) (show (zWr κ ((lnS gb a0 (κ 1 0) (k)).1 + 1) (upd (lnS gb a0 (κ 1 0) (k)).2 (lnS gb a0 (κ 1 0) (k)).1 (ltB gb j))) 6 0 = gb from h6) (show (zWr κ ((lnS gb a0 (κ 1 0) (k)).1 + 1) (upd (lnS gb a0 (κ 1 0) (k)).2 (lnS gb a0 (κ 1 0) (k)).1 (ltB gb j))) 8 0 = cb from h8)] at h; exact h) ?_
          refine z_world (κ' := zWr κ ((lnS gb a0 (κ 1 0) (k + 1)).1) ((lnS gb a0 (κ 1 0) (k + 1)).2)) (fun _ h => by rw [ln_s (by omega) hc0 h65]; exact h) ?_
          refine z_sub [2, 3, 0] rfl ?_
          exact ih (k + 1) (by omega) hkn
        · skip
          refine z_world (κ' := zWr κ ((lnS gb a0 (κ 1 0) (k)).1 + 1) (upd (lnS gb a0 (κ 1 0) (k)).2 (lnS gb a0 (κ 1 0) (k)).1 (ltB gb j))) (fun _ h => by rw [zF_at (κ := κ) (show (zWr κ ((lnS gb a0 (κ 1 0) (k)).1 + 1) (upd (lnS gb a0 (κ 1 0) (k)).2 (lnS gb a0 (κ 1 0) (k)).1 (ltB gb j))) 6 0 = gb from h6) (show (zWr κ ((lnS gb a0 (κ 1 0) (k)).1 + 1) (upd (lnS gb a0 (κ 1 0) (k)).2 (lnS gb a0 (κ 1 0) (k)).1 (ltB gb j))) 8 0 = cb from h8)] at h; exact h) ?_
          refine z_aload_n hX dX4_writeLane_68 1 rfl ?_
          refine z_bipush (v := 33) hX dX4_writeLane_69 (by decide) ?_
          refine z_callV0 hX (ok_X4_write l (by omega) rfl) cv_RX4_248 zRc0 dX4_writeLane_71 (by decide) rfl rfl (Nat.le_of_ble_eq_true rfl) ?_
          refine z_iinc (v := nI (k + 1)) (lv' := [(2, _), (3, _), (0, _), (1, _)]) hX dX4_writeLane_74 3 rfl (nI_1 k) (by decide) rfl ?_
          refine z_goto (tgt := 24) hX dX4_writeLane_77 (by decide) ?_
          refine z_world (κ' := zWr κ ((lnS gb a0 (κ 1 0) (k + 1)).1) ((lnS gb a0 (κ 1 0) (k + 1)).2)) (fun _ h => by rw [ln_r (by omega) hc0 h65]; exact h) ?_
          refine z_sub [2, 3, 0] rfl ?_
          exact ih (k + 1) (by omega) hkn
  refine z_sub [1, 2, 0] rfl ?_
  exact hL 10 0 rfl (Nat.zero_le _)
set_option maxHeartbeats 4000000 in
set_option maxRecDepth 100000 in
theorem no_X4_writeLane (l : Launch) (hl0 : l.stackTraces = false) {g : zG} {κ : zKp} {μ : zMu} {ω : zOm} {x : Int32} (hx : ¬ (0 ≤ x ∧ x < 3))  : zMx l g yX4_writeLane cX4_writeLane 4 (some .int) 6 1 [.ref (gA g 0 0 0), .int x] κ μ ω κ μ ω (.error xIOE) := by
  refine zMx_of (by decide) (Nat.le_of_ble_eq_true rfl) (fun p e R s m args below meth c hX hT => ?_)
  show zZ p l e R s m args below meth c g 4 _ _ _ _ 0 0 [(0, .ref (gA g 0 0 0)), (1, .int x)] []
  refine z_iload_n hX dX4_writeLane_0 1 rfl ?_
  refine z_callS1 hX (ok_X4_isLane l) cs_RX4_158 dX4_writeLane_1 (by decide) rfl rfl (Nat.le_of_ble_eq_true rfl) ?_
  refine z_if_neB (tgt := 17) hX dX4_writeLane_4 (by decide) (fun h4 => absurd h4 hx) (fun h4 => ?_)
  exact z_throw hX hT hl0 (i := 20) ft_IOE zN2_fit cl_IOE in_IOE rfl (zhat h1_IOE h2_IOE hX) go_IOE dX4_writeLane_7 dX4_writeLane_10 dX4_writeLane_11 dX4_writeLane_13 dX4_writeLane_16 (by decide) (Nat.le_of_ble_eq_true rfl) rfl (fun _ h => h)



end ZDM
