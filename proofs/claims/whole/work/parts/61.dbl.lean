section ZDR
variable {p : Program} {l : Launch} {e : Env} {R : Room} {s : State} {m : MethodId} {args : Array Value} {below : List Frame} {meth : Method} {c : Code} {Q : State → Prop} {g : zG} {own : String} {cc : ByteArray} {n lvl mc : Nat} {ret : Option FieldType} {κ κ' : zKp} {μ μ' : zMu} {ω ω' : zOm} {k pc : Nat} {lv lv' : List (Nat × Value)} {st : List Value}
theorem z_i2d (hX : zX p l s m args meth c R g own cc n ret lvl mc) {x : Int32} (d : decode cc pc = .ok (.i2d, 1)) (kk : zZ p l e R s m args below meth c g n Q κ μ ω k (pc + 1) lv (.double (FP.i2d x) :: st)) : zZ p l e R s m args below meth c g n Q κ μ ω k pc lv (.int x :: st) := fun H ls locs hl hS hW => lv_i2d hX.1 hX.2.1 d (kk H ls locs hl hS hW)
theorem z_ddiv (hX : zX p l s m args meth c R g own cc n ret lvl mc) {x y : UInt64} (hne : FP.ddiv x y &&& 0x7fffffffffffffff ≤ 0x7ff0000000000000) (d : decode cc pc = .ok (.ddiv, 1)) (kk : zZ p l e R s m args below meth c g n Q κ μ ω k (pc + 1) lv (.double (FP.ddiv x y) :: st)) : zZ p l e R s m args below meth c g n Q κ μ ω k pc lv (.double y :: .double x :: st) := fun H ls locs hl hS hW => lv_ddiv hX.1 hX.2.1 d hne (kk H ls locs hl hS hW)
theorem z_dconst0 (hX : zX p l s m args meth c R g own cc n ret lvl mc) (d : decode cc pc = .ok (.dconst 0, 1)) (kk : zZ p l e R s m args below meth c g n Q κ μ ω k (pc + 1) lv (.double FP.dconst0 :: st)) : zZ p l e R s m args below meth c g n Q κ μ ω k pc lv st := fun H ls locs hl hS hW => lv_dconst0 hX.1 hX.2.1 d (kk H ls locs hl hS hW)
theorem z_dret {r : Option Value} {x : UInt64} (hX : zX p l s m args meth c R g own cc n (some .double) lvl mc) (d : decode cc pc = .ok (.dreturn, 1)) (hk : k ≤ mc) (hr : r = some (.double x)) (hw : ∀ H, WW g κ μ ω H → WW g κ' μ' ω' H) : zZ p l e R s m args below meth c g n (zQ g κ' μ' ω' r below args s mc) κ μ ω k pc lv [.double x] := fun H ls locs hl hS hW => by
  subst hr
  obtain ⟨hx, hb, hml, hown, hts, hK, hB, hs, hR, hlk, hrt⟩ := hX
  exact W.widen hk (Nat.mul_le_mul_left 6 hk) (W.dret hx hb hrt (fun t ht hw2 => ⟨rfl, by rw [ht]; exact hw H hW, hS.F ht⟩) hS.2.2 d hlk)
theorem z_i2f (hX : zX p l s m args meth c R g own cc n ret lvl mc) {x : Int32} (d : decode cc pc = .ok (.i2f, 1)) (kk : zZ p l e R s m args below meth c g n Q κ μ ω k (pc + 1) lv (.float (FP.i2f x) :: st)) : zZ p l e R s m args below meth c g n Q κ μ ω k pc lv (.int x :: st) := fun H ls locs hl hS hW => lv_i2f hX.1 hX.2.1 d (kk H ls locs hl hS hW)
theorem z_fdiv (hX : zX p l s m args meth c R g own cc n ret lvl mc) {x y : UInt32} (hne : FP.fdiv x y &&& 0x7fffffff ≤ 0x7f800000) (d : decode cc pc = .ok (.fdiv, 1)) (kk : zZ p l e R s m args below meth c g n Q κ μ ω k (pc + 1) lv (.float (FP.fdiv x y) :: st)) : zZ p l e R s m args below meth c g n Q κ μ ω k pc lv (.float y :: .float x :: st) := fun H ls locs hl hS hW => lv_fdiv hX.1 hX.2.1 d hne (kk H ls locs hl hS hW)
theorem z_fconst0 (hX : zX p l s m args meth c R g own cc n ret lvl mc) (d : decode cc pc = .ok (.fconst 0, 1)) (kk : zZ p l e R s m args below meth c g n Q κ μ ω k (pc + 1) lv (.float FP.fconst0 :: st)) : zZ p l e R s m args below meth c g n Q κ μ ω k pc lv st := fun H ls locs hl hS hW => lv_fconst0 hX.1 hX.2.1 d (kk H ls locs hl hS hW)
theorem z_fret {r : Option Value} {x : UInt32} (hX : zX p l s m args meth c R g own cc n (some .float) lvl mc) (d : decode cc pc = .ok (.freturn, 1)) (hk : k ≤ mc) (hr : r = some (.float x)) (hw : ∀ H, WW g κ μ ω H → WW g κ' μ' ω' H) : zZ p l e R s m args below meth c g n (zQ g κ' μ' ω' r below args s mc) κ μ ω k pc lv [.float x] := fun H ls locs hl hS hW => by
  subst hr
  obtain ⟨hx, hb, hml, hown, hts, hK, hB, hs, hR, hlk, hrt⟩ := hX
  exact W.widen hk (Nat.mul_le_mul_left 6 hk) (W.fret hx hb hrt (fun t ht hw2 => ⟨rfl, by rw [ht]; exact hw H hW, hS.F ht⟩) hS.2.2 d hlk)
end ZDR
section ZDM
theorem df_gt : ∀ a, a < 100 → ∀ b, b < 100 → (0 < nI a - nI b ↔ nI b < nI a) := by decide +kernel
theorem df_eq : ∀ a, a < 100 → ∀ b, b < 100 → (nI a - nI b = 0 ↔ nI a = nI b) := by decide +kernel
theorem ti_pos {q : Nat} {x : Int32} (h : x = nI q) (h0 : ¬ x = 0) : 0 < q := by
  rcases Nat.eq_zero_or_pos q with w | w
  · rw [w] at h; exact absurd h h0
  · exact w
theorem n0_pos {q : Nat} (h : 0 < q) (hq : q < 100000) : ¬ nI q ≤ 0 := nI_nle h (by omega)
/-- the lane's text in the class: length and row -/
def zWr (κ : zKp) (q : Nat) (W : Nat → Int32) : zKp := zRow (zRow κ 0 0 (upd (κ 0 0) 0 (nI q))) 1 0 W
theorem zWr_w {κ : zKp} {q w : Nat} {W : Nat → Int32} {v : Int32} : zRow (zWr κ q W) 1 0 (upd (zWr κ q W 1 0) w v) = zWr κ q (upd W w v) := by
  unfold zWr
  rw [zRow_s, zRow_2]
theorem zRow_c {κ : zKp} {r r' : Nat → Int32} : zRow (zRow κ 1 0 r) 0 0 r' = zRow (zRow κ 0 0 r') 1 0 r := by
  funext t f
  unfold zRow
  by_cases h1 : t = 0 ∧ f = 0
  · rw [if_pos h1, if_neg (by omega), if_pos h1]
  · rw [if_neg h1]
    by_cases h2 : t = 1 ∧ f = 0
    · rw [if_pos h2, if_pos h2]
    · rw [if_neg h2, if_neg h2, if_neg h1]
theorem zWr_n {κ : zKp} {q w : Nat} {W : Nat → Int32} : zRow (zWr κ q W) 0 0 (upd (zWr κ q W 0 0) 0 (nI w)) = zWr κ w W := by
  have e : zWr κ q W 0 0 = upd (κ 0 0) 0 (nI q) := rfl
  rw [e, upd_2]
  unfold zWr
  rw [zRow_c, zRow_2]
theorem zWr_0 {κ : zKp} : zRow κ 0 0 (upd (κ 0 0) 0 0) = zWr κ 0 (κ 1 0) := by
  unfold zWr
  rw [nI_0]
  exact (zRow_self (zRow κ 0 0 (upd (κ 0 0) 0 0)) 1 0).symm
set_option maxHeartbeats 4000000 in
set_option maxRecDepth 100000 in
theorem ok_X4_meanMorale (l : Launch) {g : zG} {κ : zKp} {μ : zMu} {ω : zOm} {gb cb : Nat → Int32} (hI : batI gb) (h0 : ¬ aliB gb = 0)  : zM l g yX4_meanMorale cX4_meanMorale 2 (some .double) 4 0 [.ref (gA g 0 0 0)] (zF κ 0 gb cb) μ ω (zF κ 0 gb cb) μ ω (some (.double (FP.ddiv (FP.i2d (morB gb)) (FP.i2d (aliB gb))))) := by
  have hn := hI.1.1
  obtain ⟨a0, ha0, ea⟩ := mor_of hI
  obtain ⟨b0, hb0, eb⟩ := ali_of hI
  refine zM_of (by decide) (Nat.le_of_ble_eq_true rfl) (fun p e R s m args below meth c hX => ?_)
  show zZ p l e R s m args below meth c g 2 _ _ _ _ 0 0 [(0, .ref (gA g 0 0 0))] []
  refine z_aload_n hX dX4_meanMorale_0 0 rfl ?_
  refine zg_X4_field hX   fl_RX4_10 dX4_meanMorale_1 ?_
  refine z_callV1 hX (ok_X1_unfallenCount l z0lt hn) cv_RX4_258 (zRc6 z0lt) dX4_meanMorale_4 (by decide) rfl rfl (Nat.le_of_ble_eq_true rfl) ?_
  refine z_isv (ali_eq hI) ?_
  refine z_istore_n (lv' := [(1, _), (0, _)]) hX dX4_meanMorale_7 (by decide) rfl ?_
  refine z_iload_n hX dX4_meanMorale_8 0 rfl ?_
  refine z_if_ne (tgt := 23) hX dX4_meanMorale_9 (by decide) (fun h9 => ?_) (fun h9 => absurd h9 h0)
  refine z_aload_n hX dX4_meanMorale_23 1 rfl ?_
  refine zg_X4_field hX   fl_RX4_10 dX4_meanMorale_24 ?_
  refine z_callV1 hX (ok_X1_moraleSum l z0lt hn) cv_RX4_266 (zRc6 z0lt) dX4_meanMorale_27 (by decide) rfl rfl (Nat.le_of_ble_eq_true rfl) ?_
  refine z_isv (show _ = morB gb from rfl) ?_
  refine z_i2d hX dX4_meanMorale_30 ?_
  refine z_iload_n hX dX4_meanMorale_31 0 rfl ?_
  refine z_i2d hX dX4_meanMorale_32 ?_
  refine z_ddiv hX (by rw [ea, eb]; exact dd_nan a0 (by omega) b0 (by omega) (ti_pos eb h0)) dX4_meanMorale_33 ?_
  exact z_dret hX dX4_meanMorale_34 (by decide) rfl (fun _ h => h)
set_option maxHeartbeats 4000000 in
set_option maxRecDepth 100000 in
theorem no_X4_meanMorale (l : Launch) (hl0 : l.stackTraces = false) {g : zG} {κ : zKp} {μ : zMu} {ω : zOm} {gb cb : Nat → Int32} (hI : batI gb) (h0 : aliB gb = 0)  : zMx l g yX4_meanMorale cX4_meanMorale 2 (some .double) 6 1 [.ref (gA g 0 0 0)] (zF κ 0 gb cb) μ ω (zF κ 0 gb cb) μ ω (.error xARE) := by
  have hn := hI.1.1
  refine zMx_of (by decide) (Nat.le_of_ble_eq_true rfl) (fun p e R s m args below meth c hX hT => ?_)
  show zZ p l e R s m args below meth c g 2 _ _ _ _ 0 0 [(0, .ref (gA g 0 0 0))] []
  refine z_aload_n hX dX4_meanMorale_0 0 rfl ?_
  refine zg_X4_field hX   fl_RX4_10 dX4_meanMorale_1 ?_
  refine z_callV1 hX (ok_X1_unfallenCount l z0lt hn) cv_RX4_258 (zRc6 z0lt) dX4_meanMorale_4 (by decide) rfl rfl (Nat.le_of_ble_eq_true rfl) ?_
  refine z_isv (ali_eq hI) ?_
  refine z_istore_n (lv' := [(1, _), (0, _)]) hX dX4_meanMorale_7 (by decide) rfl ?_
  refine z_iload_n hX dX4_meanMorale_8 0 rfl ?_
  refine z_if_ne (tgt := 23) hX dX4_meanMorale_9 (by decide) (fun h9 => absurd h9 (Classical.not_not.mpr h0)) (fun h9 => ?_)
  exact z_throwW hX hT hl0 (i := 22) ft_ARE zN2_fit cl_ARE in_ARE rfl (zhat h1_ARE h2_ARE hX) go_ARE dX4_meanMorale_12 dX4_meanMorale_15 dX4_meanMorale_16 dX4_meanMorale_19 dX4_meanMorale_22 (by decide) (Nat.le_of_ble_eq_true rfl) rfl (fun _ h => h)
set_option maxHeartbeats 4000000 in
set_option maxRecDepth 100000 in
theorem ok_X4_standingShare (l : Launch) {g : zG} {κ : zKp} {μ : zMu} {ω : zOm} {gb cb : Nat → Int32} (hI : batI gb) (h0 : ¬ gb 0 = 0)  : zM l g yX4_standingShare cX4_standingShare 2 (some .float) 4 0 [.ref (gA g 0 0 0)] (zF κ 0 gb cb) μ ω (zF κ 0 gb cb) μ ω (some (.float (FP.fdiv (FP.i2f (staB gb)) (FP.i2f (gb 0))))) := by
  have hn := hI.1.1
  obtain ⟨a0, ha0, ea⟩ := sta_of hI
  refine zM_of (by decide) (Nat.le_of_ble_eq_true rfl) (fun p e R s m args below meth c hX => ?_)
  show zZ p l e R s m args below meth c g 2 _ _ _ _ 0 0 [(0, .ref (gA g 0 0 0))] []
  refine z_aload_n hX dX4_standingShare_0 0 rfl ?_
  refine zg_X4_field hX   fl_RX4_10 dX4_standingShare_1 ?_
  refine zg_X1_count hX z0lt  fl_RX4_114 dX4_standingShare_4 ?_
  refine z_istore_n (lv' := [(1, _), (0, _)]) hX dX4_standingShare_7 (by decide) rfl ?_
  refine z_iload_n hX dX4_standingShare_8 0 rfl ?_
  refine z_if_ne (tgt := 23) hX dX4_standingShare_9 (by decide) (fun h9 => ?_) (fun h9 => absurd h9 h0)
  refine z_aload_n hX dX4_standingShare_23 1 rfl ?_
  refine zg_X4_field hX   fl_RX4_10 dX4_standingShare_24 ?_
  refine z_callV1 hX (ok_X1_standingCount l z0lt hn) cv_RX4_271 (zRc6 z0lt) dX4_standingShare_27 (by decide) rfl rfl (Nat.le_of_ble_eq_true rfl) ?_
  refine z_isv (show _ = staB gb from rfl) ?_
  refine z_i2f hX dX4_standingShare_30 ?_
  refine z_iload_n hX dX4_standingShare_31 0 rfl ?_
  refine z_i2f hX dX4_standingShare_32 ?_
  refine z_fdiv hX (by rw [ea, hn.2]; exact ff_nan a0 (by omega) (bn gb) (by have := hn.1; omega) (ti_pos hn.2 h0)) dX4_standingShare_33 ?_
  exact z_fret hX dX4_standingShare_34 (by decide) rfl (fun _ h => h)
set_option maxHeartbeats 4000000 in
set_option maxRecDepth 100000 in
theorem no_X4_standingShare (l : Launch) (hl0 : l.stackTraces = false) {g : zG} {κ : zKp} {μ : zMu} {ω : zOm} {gb cb : Nat → Int32} (hI : batI gb) (h0 : gb 0 = 0)  : zMx l g yX4_standingShare cX4_standingShare 2 (some .float) 6 1 [.ref (gA g 0 0 0)] (zF κ 0 gb cb) μ ω (zF κ 0 gb cb) μ ω (.error xARE) := by
  refine zMx_of (by decide) (Nat.le_of_ble_eq_true rfl) (fun p e R s m args below meth c hX hT => ?_)
  show zZ p l e R s m args below meth c g 2 _ _ _ _ 0 0 [(0, .ref (gA g 0 0 0))] []
  refine z_aload_n hX dX4_standingShare_0 0 rfl ?_
  refine zg_X4_field hX   fl_RX4_10 dX4_standingShare_1 ?_
  refine zg_X1_count hX z0lt  fl_RX4_114 dX4_standingShare_4 ?_
  refine z_istore_n (lv' := [(1, _), (0, _)]) hX dX4_standingShare_7 (by decide) rfl ?_
  refine z_iload_n hX dX4_standingShare_8 0 rfl ?_
  refine z_if_ne (tgt := 23) hX dX4_standingShare_9 (by decide) (fun h9 => absurd h9 (Classical.not_not.mpr h0)) (fun h9 => ?_)
  exact z_throwW hX hT hl0 (i := 23) ft_ARE zN2_fit cl_ARE in_ARE rfl (zhat h1_ARE h2_ARE hX) go_ARE dX4_standingShare_12 dX4_standingShare_15 dX4_standingShare_16 dX4_standingShare_19 dX4_standingShare_22 (by decide) (Nat.le_of_ble_eq_true rfl) rfl (fun _ h => h)
set_option maxHeartbeats 4000000 in
set_option maxRecDepth 100000 in
theorem ok_X5_meanMorale (l : Launch) {g : zG} {κ : zKp} {μ : zMu} {ω : zOm} {a b : Nat → Int32} (hI : batI b) (h0 : ¬ aliB b = 0)  : zM l g yX5_meanMorale cX5_meanMorale 4 (some .double) 4 0 [.ref (gA g 10 0 0)] κ (zN μ a b) ω κ (zN μ (upd a 2 0) b) ω (some (.double (FP.ddiv (FP.i2d (morB b)) (FP.i2d (aliB b))))) := by
  have hn := hI.1.1
  obtain ⟨a0, ha0, ea⟩ := mor_of hI
  obtain ⟨b0, hb0, eb⟩ := ali_of hI
  refine zM_of (by decide) (Nat.le_of_ble_eq_true rfl) (fun p e R s m args below meth c hX => ?_)
  show zZ p l e R s m args below meth c g 4 _ _ _ _ 0 0 [(0, .ref (gA g 10 0 0))] []
  refine z_iconst (v := 0) hX dX5_meanMorale_0 (by decide) ?_
  refine z_istore_n (lv' := [(1, _), (0, _)]) hX dX5_meanMorale_1 (by decide) rfl ?_
  refine z_iconst (v := 0) hX dX5_meanMorale_2 (by decide) ?_
  refine z_istore_n (lv' := [(2, _), (1, _), (0, _)]) hX dX5_meanMorale_3 (by decide) rfl ?_
  refine z_iconst (v := 0) hX dX5_meanMorale_4 (by decide) ?_
  refine z_istore_n (lv' := [(3, _), (2, _), (1, _), (0, _)]) hX dX5_meanMorale_5 (by decide) rfl ?_
  have hL : ∀ (dz : Nat) (k : Nat) (sv sw : Int32), bn b - k = dz → k ≤ bn b → sv = sm (aliF b) k → sw = sm (morF b) k → zZ p l e R s m args below meth c g 4 (zQ g κ (zN μ (upd a 2 0) b) ω (some (.double (FP.ddiv (FP.i2d (morB b)) (FP.i2d (aliB b))))) below args s 0) κ (zN μ a b) ω 0 6 [(0, .ref (gA g 10 0 0)), (1, .int sv), (2, .int sw), (3, .int (nI k))] [] := by
    intro dz
    induction dz with
    | zero =>
      intro k sv sw hd hk hs ht
      have hkn : k = bn b := by omega
      refine z_iload_n hX dX5_meanMorale_6 3 rfl ?_
      refine z_aload_n hX dX5_meanMorale_7 0 rfl ?_
      refine zg_X5_s hX   fl_RX5_9 dX5_meanMorale_8 ?_
      refine z_iconst (v := 0) hX dX5_meanMorale_11 (by decide) ?_
      refine za_s hX  (show (0 : Int32) = nI 0 from rfl) (by decide) dX5_meanMorale_12 ?_
      refine z_icmp_ge (tgt := 59) hX dX5_meanMorale_13 (by decide) (fun h13 => ?_) (fun h13 => absurd h13 (Classical.not_not.mpr (by rw [hkn]; exact cnt_le hn)))
      have es : sv = aliB b := by rw [hs, hkn]; rfl
      have et : sw = morB b := by rw [ht, hkn]; rfl
      subst es et
      refine z_aload_n hX dX5_meanMorale_59 0 rfl ?_
      refine z_iload_n hX dX5_meanMorale_60 1 rfl ?_
      refine z_if_le (tgt := 68) hX dX5_meanMorale_61 (by decide) (fun h61 => absurd h61 (by rw [eb]; exact n0_pos (ti_pos eb h0) (by omega))) (fun h61 => ?_)
      refine z_iconst (v := 1) hX dX5_meanMorale_64 (by decide) ?_
      refine z_goto (tgt := 69) hX dX5_meanMorale_65 (by decide) ?_
      refine z_callV1 hX (ok_there1 l) cv_RX5_169 zRc10 dX5_meanMorale_69 (by decide) rfl rfl (Nat.le_of_ble_eq_true rfl) ?_
      refine z_if_eq (tgt := 83) hX dX5_meanMorale_72 (by decide) (fun h72 => absurd h72 (by decide)) (fun h72 => ?_)
      refine z_iload_n hX dX5_meanMorale_75 2 rfl ?_
      refine z_i2d hX dX5_meanMorale_76 ?_
      refine z_iload_n hX dX5_meanMorale_77 1 rfl ?_
      refine z_i2d hX dX5_meanMorale_78 ?_
      refine z_ddiv hX (by rw [ea, eb]; exact dd_nan a0 (by omega) b0 (by omega) (ti_pos eb h0)) dX5_meanMorale_79 ?_
      refine z_goto (tgt := 84) hX dX5_meanMorale_80 (by decide) ?_
      exact z_dret hX dX5_meanMorale_84 (by decide) rfl (fun _ h => h)
    | succ dz ih =>
      intro k sv sw hd hk hs ht
      have hkn : k < bn b := by omega
      refine z_iload_n hX dX5_meanMorale_6 3 rfl ?_
      refine z_aload_n hX dX5_meanMorale_7 0 rfl ?_
      refine zg_X5_s hX   fl_RX5_9 dX5_meanMorale_8 ?_
      refine z_iconst (v := 0) hX dX5_meanMorale_11 (by decide) ?_
      refine za_s hX  (show (0 : Int32) = nI 0 from rfl) (by decide) dX5_meanMorale_12 ?_
      refine z_icmp_ge (tgt := 59) hX dX5_meanMorale_13 (by decide) (fun h13 => absurd h13 (cnt_gt hn hkn)) (fun h13 => ?_)
      refine z_iload_n hX dX5_meanMorale_16 1 rfl ?_
      refine z_aload_n hX dX5_meanMorale_17 0 rfl ?_
      refine z_iload_n hX dX5_meanMorale_18 3 rfl ?_
      refine z_callV1 hX (ok_X5_isGone l (lt12 hn hkn)) cv_RX5_62 zRc10 dX5_meanMorale_19 (by decide) rfl rfl (Nat.le_of_ble_eq_true rfl) ?_
      refine z_if_eqB (tgt := 29) hX dX5_meanMorale_22 (by decide) (fun h22 => ?_) (fun h22 => ?_)
      · skip
        refine z_iconst (v := 1) hX dX5_meanMorale_29 (by decide) ?_
        refine z_iadd hX dX5_meanMorale_30 ?_
        refine z_istore_n (lv' := [(1, _), (0, _), (2, _), (3, _)]) hX dX5_meanMorale_31 (by decide) rfl ?_
        refine z_iload_n hX dX5_meanMorale_32 2 rfl ?_
        refine z_aload_n hX dX5_meanMorale_33 1 rfl ?_
        refine z_iload_n hX dX5_meanMorale_34 3 rfl ?_
        refine z_callV1 hX (ok_X5_isGone l (lt12 hn hkn)) cv_RX5_62 zRc10 dX5_meanMorale_35 (by decide) rfl rfl (Nat.le_of_ble_eq_true rfl) ?_
        refine z_if_eqB (tgt := 45) hX dX5_meanMorale_38 (by decide) (fun h38 => ?_) (fun h38 => absurd h38 h22)
        refine z_aload_n hX dX5_meanMorale_45 1 rfl ?_
        refine z_iload_n hX dX5_meanMorale_46 3 rfl ?_
        refine z_iconst (v := 5) hX dX5_meanMorale_47 (by decide) ?_
        refine z_callV1 hX (ok_X5_of (w := 5) l (lt12 hn hkn) (by decide)) cv_RX5_58 zRc10 dX5_meanMorale_48 (by decide) rfl rfl (Nat.le_of_ble_eq_true rfl) ?_
        refine z_iadd hX dX5_meanMorale_51 ?_
        refine z_istore_n (lv' := [(2, _), (1, _), (0, _), (3, _)]) hX dX5_meanMorale_52 (by decide) rfl ?_
        refine z_iinc (v := nI (k + 1)) (lv' := [(3, _), (2, _), (1, _), (0, _)]) hX dX5_meanMorale_53 3 rfl (nI_1 k) (by decide) rfl ?_
        refine z_goto (tgt := 6) hX dX5_meanMorale_56 (by decide) ?_
        refine z_sub [3, 2, 1, 0] rfl ?_
        exact ih (k + 1) _ _ (by omega) hkn (sm_y hs (if_neg h22)) (sm_y ht (if_neg h22))
      · skip
        refine z_iconst (v := 0) hX dX5_meanMorale_25 (by decide) ?_
        refine z_goto (tgt := 30) hX dX5_meanMorale_26 (by decide) ?_
        refine z_iadd hX dX5_meanMorale_30 ?_
        refine z_istore_n (lv' := [(1, _), (0, _), (2, _), (3, _)]) hX dX5_meanMorale_31 (by decide) rfl ?_
        refine z_iload_n hX dX5_meanMorale_32 2 rfl ?_
        refine z_aload_n hX dX5_meanMorale_33 1 rfl ?_
        refine z_iload_n hX dX5_meanMorale_34 3 rfl ?_
        refine z_callV1 hX (ok_X5_isGone l (lt12 hn hkn)) cv_RX5_62 zRc10 dX5_meanMorale_35 (by decide) rfl rfl (Nat.le_of_ble_eq_true rfl) ?_
        refine z_if_eqB (tgt := 45) hX dX5_meanMorale_38 (by decide) (fun h38 => absurd h38 (Classical.not_not.mpr h22)) (fun h38 => ?_)
        refine z_iconst (v := 0) hX dX5_meanMorale_41 (by decide) ?_
        refine z_goto (tgt := 51) hX dX5_meanMorale_42 (by decide) ?_
        refine z_iadd hX dX5_meanMorale_51 ?_
        refine z_istore_n (lv' := [(2, _), (1, _), (0, _), (3, _)]) hX dX5_meanMorale_52 (by decide) rfl ?_
        refine z_iinc (v := nI (k + 1)) (lv' := [(3, _), (2, _), (1, _), (0, _)]) hX dX5_meanMorale_53 3 rfl (nI_1 k) (by decide) rfl ?_
        refine z_goto (tgt := 6) hX dX5_meanMorale_56 (by decide) ?_
        refine z_sub [3, 2, 1, 0] rfl ?_
        exact ih (k + 1) _ _ (by omega) hkn (sm_y hs (if_pos h22)) (sm_y ht (if_pos h22))
  refine z_sub [3, 2, 1, 0] rfl ?_
  exact hL (bn b) 0 0 0 (Nat.sub_zero _) (Nat.zero_le _) rfl rfl
set_option maxHeartbeats 4000000 in
set_option maxRecDepth 100000 in
theorem no_X5_meanMorale (l : Launch) {g : zG} {κ : zKp} {μ : zMu} {ω : zOm} {a b : Nat → Int32} (hI : batI b) (h0 : aliB b = 0)  : zM l g yX5_meanMorale cX5_meanMorale 4 (some .double) 4 0 [.ref (gA g 10 0 0)] κ (zN μ a b) ω κ (zN μ (upd a 2 1) b) ω (some (.double FP.dconst0)) := by
  have hn := hI.1.1
  refine zM_of (by decide) (Nat.le_of_ble_eq_true rfl) (fun p e R s m args below meth c hX => ?_)
  show zZ p l e R s m args below meth c g 4 _ _ _ _ 0 0 [(0, .ref (gA g 10 0 0))] []
  refine z_iconst (v := 0) hX dX5_meanMorale_0 (by decide) ?_
  refine z_istore_n (lv' := [(1, _), (0, _)]) hX dX5_meanMorale_1 (by decide) rfl ?_
  refine z_iconst (v := 0) hX dX5_meanMorale_2 (by decide) ?_
  refine z_istore_n (lv' := [(2, _), (1, _), (0, _)]) hX dX5_meanMorale_3 (by decide) rfl ?_
  refine z_iconst (v := 0) hX dX5_meanMorale_4 (by decide) ?_
  refine z_istore_n (lv' := [(3, _), (2, _), (1, _), (0, _)]) hX dX5_meanMorale_5 (by decide) rfl ?_
  have hL : ∀ (dz : Nat) (k : Nat) (sv sw : Int32), bn b - k = dz → k ≤ bn b → sv = sm (aliF b) k → sw = sm (morF b) k → zZ p l e R s m args below meth c g 4 (zQ g κ (zN μ (upd a 2 1) b) ω (some (.double FP.dconst0)) below args s 0) κ (zN μ a b) ω 0 6 [(0, .ref (gA g 10 0 0)), (1, .int sv), (2, .int sw), (3, .int (nI k))] [] := by
    intro dz
    induction dz with
    | zero =>
      intro k sv sw hd hk hs ht
      have hkn : k = bn b := by omega
      refine z_iload_n hX dX5_meanMorale_6 3 rfl ?_
      refine z_aload_n hX dX5_meanMorale_7 0 rfl ?_
      refine zg_X5_s hX   fl_RX5_9 dX5_meanMorale_8 ?_
      refine z_iconst (v := 0) hX dX5_meanMorale_11 (by decide) ?_
      refine za_s hX  (show (0 : Int32) = nI 0 from rfl) (by decide) dX5_meanMorale_12 ?_
      refine z_icmp_ge (tgt := 59) hX dX5_meanMorale_13 (by decide) (fun h13 => ?_) (fun h13 => absurd h13 (Classical.not_not.mpr (by rw [hkn]; exact cnt_le hn)))
      have es : sv = aliB b := by rw [hs, hkn]; rfl
      have et : sw = morB b := by rw [ht, hkn]; rfl
      subst es et
      refine z_aload_n hX dX5_meanMorale_59 0 rfl ?_
      refine z_iload_n hX dX5_meanMorale_60 1 rfl ?_
      refine z_if_le (tgt := 68) hX dX5_meanMorale_61 (by decide) (fun h61 => ?_) (fun h61 => absurd h61 (fun q => q (by rw [h0]; exact Int32.le_refl _)))
      refine z_iconst (v := 0) hX dX5_meanMorale_68 (by decide) ?_
      refine z_callV1 hX (ok_there0 l) cv_RX5_169 zRc10 dX5_meanMorale_69 (by decide) rfl rfl (Nat.le_of_ble_eq_true rfl) ?_
      refine z_if_eq (tgt := 83) hX dX5_meanMorale_72 (by decide) (fun h72 => ?_) (fun h72 => absurd h72 (by decide))
      refine z_dconst0 hX dX5_meanMorale_83 ?_
      exact z_dret hX dX5_meanMorale_84 (by decide) rfl (fun _ h => h)
    | succ dz ih =>
      intro k sv sw hd hk hs ht
      have hkn : k < bn b := by omega
      refine z_iload_n hX dX5_meanMorale_6 3 rfl ?_
      refine z_aload_n hX dX5_meanMorale_7 0 rfl ?_
      refine zg_X5_s hX   fl_RX5_9 dX5_meanMorale_8 ?_
      refine z_iconst (v := 0) hX dX5_meanMorale_11 (by decide) ?_
      refine za_s hX  (show (0 : Int32) = nI 0 from rfl) (by decide) dX5_meanMorale_12 ?_
      refine z_icmp_ge (tgt := 59) hX dX5_meanMorale_13 (by decide) (fun h13 => absurd h13 (cnt_gt hn hkn)) (fun h13 => ?_)
      refine z_iload_n hX dX5_meanMorale_16 1 rfl ?_
      refine z_aload_n hX dX5_meanMorale_17 0 rfl ?_
      refine z_iload_n hX dX5_meanMorale_18 3 rfl ?_
      refine z_callV1 hX (ok_X5_isGone l (lt12 hn hkn)) cv_RX5_62 zRc10 dX5_meanMorale_19 (by decide) rfl rfl (Nat.le_of_ble_eq_true rfl) ?_
      refine z_if_eqB (tgt := 29) hX dX5_meanMorale_22 (by decide) (fun h22 => ?_) (fun h22 => ?_)
      · skip
        refine z_iconst (v := 1) hX dX5_meanMorale_29 (by decide) ?_
        refine z_iadd hX dX5_meanMorale_30 ?_
        refine z_istore_n (lv' := [(1, _), (0, _), (2, _), (3, _)]) hX dX5_meanMorale_31 (by decide) rfl ?_
        refine z_iload_n hX dX5_meanMorale_32 2 rfl ?_
        refine z_aload_n hX dX5_meanMorale_33 1 rfl ?_
        refine z_iload_n hX dX5_meanMorale_34 3 rfl ?_
        refine z_callV1 hX (ok_X5_isGone l (lt12 hn hkn)) cv_RX5_62 zRc10 dX5_meanMorale_35 (by decide) rfl rfl (Nat.le_of_ble_eq_true rfl) ?_
        refine z_if_eqB (tgt := 45) hX dX5_meanMorale_38 (by decide) (fun h38 => ?_) (fun h38 => absurd h38 h22)
        refine z_aload_n hX dX5_meanMorale_45 1 rfl ?_
        refine z_iload_n hX dX5_meanMorale_46 3 rfl ?_
        refine z_iconst (v := 5) hX dX5_meanMorale_47 (by decide) ?_
        refine z_callV1 hX (ok_X5_of (w := 5) l (lt12 hn hkn) (by decide)) cv_RX5_58 zRc10 dX5_meanMorale_48 (by decide) rfl rfl (Nat.le_of_ble_eq_true rfl) ?_
        refine z_iadd hX dX5_meanMorale_51 ?_
        refine z_istore_n (lv' := [(2, _), (1, _), (0, _), (3, _)]) hX dX5_meanMorale_52 (by decide) rfl ?_
        refine z_iinc (v := nI (k + 1)) (lv' := [(3, _), (2, _), (1, _), (0, _)]) hX dX5_meanMorale_53 3 rfl (nI_1 k) (by decide) rfl ?_
        refine z_goto (tgt := 6) hX dX5_meanMorale_56 (by decide) ?_
        refine z_sub [3, 2, 1, 0] rfl ?_
        exact ih (k + 1) _ _ (by omega) hkn (sm_y hs (if_neg h22)) (sm_y ht (if_neg h22))
      · skip
        refine z_iconst (v := 0) hX dX5_meanMorale_25 (by decide) ?_
        refine z_goto (tgt := 30) hX dX5_meanMorale_26 (by decide) ?_
        refine z_iadd hX dX5_meanMorale_30 ?_
        refine z_istore_n (lv' := [(1, _), (0, _), (2, _), (3, _)]) hX dX5_meanMorale_31 (by decide) rfl ?_
        refine z_iload_n hX dX5_meanMorale_32 2 rfl ?_
        refine z_aload_n hX dX5_meanMorale_33 1 rfl ?_
        refine z_iload_n hX dX5_meanMorale_34 3 rfl ?_
        refine z_callV1 hX (ok_X5_isGone l (lt12 hn hkn)) cv_RX5_62 zRc10 dX5_meanMorale_35 (by decide) rfl rfl (Nat.le_of_ble_eq_true rfl) ?_
        refine z_if_eqB (tgt := 45) hX dX5_meanMorale_38 (by decide) (fun h38 => absurd h38 (Classical.not_not.mpr h22)) (fun h38 => ?_)
        refine z_iconst (v := 0) hX dX5_meanMorale_41 (by decide) ?_
        refine z_goto (tgt := 51) hX dX5_meanMorale_42 (by decide) ?_
        refine z_iadd hX dX5_meanMorale_51 ?_
        refine z_istore_n (lv' := [(2, _), (1, _), (0, _), (3, _)]) hX dX5_meanMorale_52 (by decide) rfl ?_
        refine z_iinc (v := nI (k + 1)) (lv' := [(3, _), (2, _), (1, _), (0, _)]) hX dX5_meanMorale_53 3 rfl (nI_1 k) (by decide) rfl ?_
        refine z_goto (tgt := 6) hX dX5_meanMorale_56 (by decide) ?_
        refine z_sub [3, 2, 1, 0] rfl ?_
        exact ih (k + 1) _ _ (by omega) hkn (sm_y hs (if_pos h22)) (sm_y ht (if_pos h22))
  refine z_sub [3, 2, 1, 0] rfl ?_
  exact hL (bn b) 0 0 0 (Nat.sub_zero _) (Nat.zero_le _) rfl rfl
set_option maxHeartbeats 4000000 in
set_option maxRecDepth 100000 in
theorem ok_X5_standingShare (l : Launch) {g : zG} {κ : zKp} {μ : zMu} {ω : zOm} {a b : Nat → Int32} (hI : batI b) (h0 : ¬ b 0 = 0)  : zM l g yX5_standingShare cX5_standingShare 3 (some .float) 4 0 [.ref (gA g 10 0 0)] κ (zN μ a b) ω κ (zN μ (upd a 2 0) b) ω (some (.float (FP.fdiv (FP.i2f (staB b)) (FP.i2f (b 0))))) := by
  have hn := hI.1.1
  obtain ⟨a0, ha0, ea⟩ := sta_of hI
  refine zM_of (by decide) (Nat.le_of_ble_eq_true rfl) (fun p e R s m args below meth c hX => ?_)
  show zZ p l e R s m args below meth c g 3 _ _ _ _ 0 0 [(0, .ref (gA g 10 0 0))] []
  refine z_iconst (v := 0) hX dX5_standingShare_0 (by decide) ?_
  refine z_istore_n (lv' := [(1, _), (0, _)]) hX dX5_standingShare_1 (by decide) rfl ?_
  refine z_iconst (v := 0) hX dX5_standingShare_2 (by decide) ?_
  refine z_istore_n (lv' := [(2, _), (1, _), (0, _)]) hX dX5_standingShare_3 (by decide) rfl ?_
  have hL : ∀ (dz : Nat) (k : Nat) (sv : Int32), bn b - k = dz → k ≤ bn b → sv = sm (staF b) k → zZ p l e R s m args below meth c g 3 (zQ g κ (zN μ (upd a 2 0) b) ω (some (.float (FP.fdiv (FP.i2f (staB b)) (FP.i2f (b 0))))) below args s 0) κ (zN μ a b) ω 0 4 [(0, .ref (gA g 10 0 0)), (1, .int sv), (2, .int (nI k))] [] := by
    intro dz
    induction dz with
    | zero =>
      intro k sv hd hk hs
      have hkn : k = bn b := by omega
      refine z_iload_n hX dX5_standingShare_4 2 rfl ?_
      refine z_aload_n hX dX5_standingShare_5 0 rfl ?_
      refine zg_X5_s hX   fl_RX5_9 dX5_standingShare_6 ?_
      refine z_iconst (v := 0) hX dX5_standingShare_9 (by decide) ?_
      refine za_s hX  (show (0 : Int32) = nI 0 from rfl) (by decide) dX5_standingShare_10 ?_
      refine z_icmp_ge (tgt := 36) hX dX5_standingShare_11 (by decide) (fun h11 => ?_) (fun h11 => absurd h11 (Classical.not_not.mpr (by rw [hkn]; exact cnt_le hn)))
      have es : sv = staB b := by rw [hs, hkn]; rfl
      subst es
      refine z_aload_n hX dX5_standingShare_36 0 rfl ?_
      refine z_aload_n hX dX5_standingShare_37 0 rfl ?_
      refine zg_X5_s hX   fl_RX5_9 dX5_standingShare_38 ?_
      refine z_iconst (v := 0) hX dX5_standingShare_41 (by decide) ?_
      refine za_s hX  (show (0 : Int32) = nI 0 from rfl) (by decide) dX5_standingShare_42 ?_
      refine z_if_le (tgt := 50) hX dX5_standingShare_43 (by decide) (fun h43 => absurd h43 (by rw [hn.2]; exact n0_pos (ti_pos hn.2 h0) (by have := hn.1; omega))) (fun h43 => ?_)
      refine z_iconst (v := 1) hX dX5_standingShare_46 (by decide) ?_
      refine z_goto (tgt := 51) hX dX5_standingShare_47 (by decide) ?_
      refine z_callV1 hX (ok_there1 l) cv_RX5_169 zRc10 dX5_standingShare_51 (by decide) rfl rfl (Nat.le_of_ble_eq_true rfl) ?_
      refine z_if_eq (tgt := 70) hX dX5_standingShare_54 (by decide) (fun h54 => absurd h54 (by decide)) (fun h54 => ?_)
      refine z_iload_n hX dX5_standingShare_57 1 rfl ?_
      refine z_i2f hX dX5_standingShare_58 ?_
      refine z_aload_n hX dX5_standingShare_59 0 rfl ?_
      refine zg_X5_s hX   fl_RX5_9 dX5_standingShare_60 ?_
      refine z_iconst (v := 0) hX dX5_standingShare_63 (by decide) ?_
      refine za_s hX  (show (0 : Int32) = nI 0 from rfl) (by decide) dX5_standingShare_64 ?_
      refine z_i2f hX dX5_standingShare_65 ?_
      refine z_fdiv hX (by rw [ea, hn.2]; exact ff_nan a0 (by omega) (bn b) (by have := hn.1; omega) (ti_pos hn.2 h0)) dX5_standingShare_66 ?_
      refine z_goto (tgt := 71) hX dX5_standingShare_67 (by decide) ?_
      exact z_fret hX dX5_standingShare_71 (by decide) rfl (fun _ h => h)
    | succ dz ih =>
      intro k sv hd hk hs
      have hkn : k < bn b := by omega
      refine z_iload_n hX dX5_standingShare_4 2 rfl ?_
      refine z_aload_n hX dX5_standingShare_5 0 rfl ?_
      refine zg_X5_s hX   fl_RX5_9 dX5_standingShare_6 ?_
      refine z_iconst (v := 0) hX dX5_standingShare_9 (by decide) ?_
      refine za_s hX  (show (0 : Int32) = nI 0 from rfl) (by decide) dX5_standingShare_10 ?_
      refine z_icmp_ge (tgt := 36) hX dX5_standingShare_11 (by decide) (fun h11 => absurd h11 (cnt_gt hn hkn)) (fun h11 => ?_)
      refine z_iload_n hX dX5_standingShare_14 1 rfl ?_
      refine z_aload_n hX dX5_standingShare_15 0 rfl ?_
      refine z_iload_n hX dX5_standingShare_16 2 rfl ?_
      refine z_callV1 hX (ok_X5_stands l (lt12 hn hkn)) cv_RX5_66 zRc10 dX5_standingShare_17 (by decide) rfl rfl (Nat.le_of_ble_eq_true rfl) ?_
      refine z_if_eqB (tgt := 27) hX dX5_standingShare_20 (by decide) (fun h20 => ?_) (fun h20 => ?_)
      · skip
        refine z_iconst (v := 0) hX dX5_standingShare_27 (by decide) ?_
        refine z_iadd hX dX5_standingShare_28 ?_
        refine z_istore_n (lv' := [(1, _), (0, _), (2, _)]) hX dX5_standingShare_29 (by decide) rfl ?_
        refine z_iinc (v := nI (k + 1)) (lv' := [(2, _), (1, _), (0, _)]) hX dX5_standingShare_30 2 rfl (nI_1 k) (by decide) rfl ?_
        refine z_goto (tgt := 4) hX dX5_standingShare_33 (by decide) ?_
        refine z_sub [2, 1, 0] rfl ?_
        exact ih (k + 1) _ (by omega) hkn (sm_y hs (if_neg h20))
      · skip
        refine z_iconst (v := 1) hX dX5_standingShare_23 (by decide) ?_
        refine z_goto (tgt := 28) hX dX5_standingShare_24 (by decide) ?_
        refine z_iadd hX dX5_standingShare_28 ?_
        refine z_istore_n (lv' := [(1, _), (0, _), (2, _)]) hX dX5_standingShare_29 (by decide) rfl ?_
        refine z_iinc (v := nI (k + 1)) (lv' := [(2, _), (1, _), (0, _)]) hX dX5_standingShare_30 2 rfl (nI_1 k) (by decide) rfl ?_
        refine z_goto (tgt := 4) hX dX5_standingShare_33 (by decide) ?_
        refine z_sub [2, 1, 0] rfl ?_
        exact ih (k + 1) _ (by omega) hkn (sm_y hs (if_pos h20))
  refine z_sub [2, 1, 0] rfl ?_
  exact hL (bn b) 0 0 (Nat.sub_zero _) (Nat.zero_le _) rfl
set_option maxHeartbeats 4000000 in
set_option maxRecDepth 100000 in
theorem no_X5_standingShare (l : Launch) {g : zG} {κ : zKp} {μ : zMu} {ω : zOm} {a b : Nat → Int32} (hI : batI b) (h0 : b 0 = 0)  : zM l g yX5_standingShare cX5_standingShare 3 (some .float) 4 0 [.ref (gA g 10 0 0)] κ (zN μ a b) ω κ (zN μ (upd a 2 1) b) ω (some (.float FP.fconst0)) := by
  have hn := hI.1.1
  refine zM_of (by decide) (Nat.le_of_ble_eq_true rfl) (fun p e R s m args below meth c hX => ?_)
  show zZ p l e R s m args below meth c g 3 _ _ _ _ 0 0 [(0, .ref (gA g 10 0 0))] []
  refine z_iconst (v := 0) hX dX5_standingShare_0 (by decide) ?_
  refine z_istore_n (lv' := [(1, _), (0, _)]) hX dX5_standingShare_1 (by decide) rfl ?_
  refine z_iconst (v := 0) hX dX5_standingShare_2 (by decide) ?_
  refine z_istore_n (lv' := [(2, _), (1, _), (0, _)]) hX dX5_standingShare_3 (by decide) rfl ?_
  have hL : ∀ (dz : Nat) (k : Nat) (sv : Int32), bn b - k = dz → k ≤ bn b → sv = sm (staF b) k → zZ p l e R s m args below meth c g 3 (zQ g κ (zN μ (upd a 2 1) b) ω (some (.float FP.fconst0)) below args s 0) κ (zN μ a b) ω 0 4 [(0, .ref (gA g 10 0 0)), (1, .int sv), (2, .int (nI k))] [] := by
    intro dz
    induction dz with
    | zero =>
      intro k sv hd hk hs
      have hkn : k = bn b := by omega
      refine z_iload_n hX dX5_standingShare_4 2 rfl ?_
      refine z_aload_n hX dX5_standingShare_5 0 rfl ?_
      refine zg_X5_s hX   fl_RX5_9 dX5_standingShare_6 ?_
      refine z_iconst (v := 0) hX dX5_standingShare_9 (by decide) ?_
      refine za_s hX  (show (0 : Int32) = nI 0 from rfl) (by decide) dX5_standingShare_10 ?_
      refine z_icmp_ge (tgt := 36) hX dX5_standingShare_11 (by decide) (fun h11 => ?_) (fun h11 => absurd h11 (Classical.not_not.mpr (by rw [hkn]; exact cnt_le hn)))
      have es : sv = staB b := by rw [hs, hkn]; rfl
      subst es
      refine z_aload_n hX dX5_standingShare_36 0 rfl ?_
      refine z_aload_n hX dX5_standingShare_37 0 rfl ?_
      refine zg_X5_s hX   fl_RX5_9 dX5_standingShare_38 ?_
      refine z_iconst (v := 0) hX dX5_standingShare_41 (by decide) ?_
      refine za_s hX  (show (0 : Int32) = nI 0 from rfl) (by decide) dX5_standingShare_42 ?_
      refine z_if_le (tgt := 50) hX dX5_standingShare_43 (by decide) (fun h43 => ?_) (fun h43 => absurd h43 (fun q => q (by rw [h0]; exact Int32.le_refl _)))
      refine z_iconst (v := 0) hX dX5_standingShare_50 (by decide) ?_
      refine z_callV1 hX (ok_there0 l) cv_RX5_169 zRc10 dX5_standingShare_51 (by decide) rfl rfl (Nat.le_of_ble_eq_true rfl) ?_
      refine z_if_eq (tgt := 70) hX dX5_standingShare_54 (by decide) (fun h54 => ?_) (fun h54 => absurd h54 (by decide))
      refine z_fconst0 hX dX5_standingShare_70 ?_
      exact z_fret hX dX5_standingShare_71 (by decide) rfl (fun _ h => h)
    | succ dz ih =>
      intro k sv hd hk hs
      have hkn : k < bn b := by omega
      refine z_iload_n hX dX5_standingShare_4 2 rfl ?_
      refine z_aload_n hX dX5_standingShare_5 0 rfl ?_
      refine zg_X5_s hX   fl_RX5_9 dX5_standingShare_6 ?_
      refine z_iconst (v := 0) hX dX5_standingShare_9 (by decide) ?_
      refine za_s hX  (show (0 : Int32) = nI 0 from rfl) (by decide) dX5_standingShare_10 ?_
      refine z_icmp_ge (tgt := 36) hX dX5_standingShare_11 (by decide) (fun h11 => absurd h11 (cnt_gt hn hkn)) (fun h11 => ?_)
      refine z_iload_n hX dX5_standingShare_14 1 rfl ?_
      refine z_aload_n hX dX5_standingShare_15 0 rfl ?_
      refine z_iload_n hX dX5_standingShare_16 2 rfl ?_
      refine z_callV1 hX (ok_X5_stands l (lt12 hn hkn)) cv_RX5_66 zRc10 dX5_standingShare_17 (by decide) rfl rfl (Nat.le_of_ble_eq_true rfl) ?_
      refine z_if_eqB (tgt := 27) hX dX5_standingShare_20 (by decide) (fun h20 => ?_) (fun h20 => ?_)
      · skip
        refine z_iconst (v := 0) hX dX5_standingShare_27 (by decide) ?_
        refine z_iadd hX dX5_standingShare_28 ?_
        refine z_istore_n (lv' := [(1, _), (0, _), (2, _)]) hX dX5_standingShare_29 (by decide) rfl ?_
        refine z_iinc (v := nI (k + 1)) (lv' := [(2, _), (1, _), (0, _)]) hX dX5_standingShare_30 2 rfl (nI_1 k) (by decide) rfl ?_
        refine z_goto (tgt := 4) hX dX5_standingShare_33 (by decide) ?_
        refine z_sub [2, 1, 0] rfl ?_
        exact ih (k + 1) _ (by omega) hkn (sm_y hs (if_neg h20))
      · skip
        refine z_iconst (v := 1) hX dX5_standingShare_23 (by decide) ?_
        refine z_goto (tgt := 28) hX dX5_standingShare_24 (by decide) ?_
        refine z_iadd hX dX5_standingShare_28 ?_
        refine z_istore_n (lv' := [(1, _), (0, _), (2, _)]) hX dX5_standingShare_29 (by decide) rfl ?_
        refine z_iinc (v := nI (k + 1)) (lv' := [(2, _), (1, _), (0, _)]) hX dX5_standingShare_30 2 rfl (nI_1 k) (by decide) rfl ?_
        refine z_goto (tgt := 4) hX dX5_standingShare_33 (by decide) ?_
        refine z_sub [2, 1, 0] rfl ?_
        exact ih (k + 1) _ (by omega) hkn (sm_y hs (if_pos h20))
  refine z_sub [2, 1, 0] rfl ?_
  exact hL (bn b) 0 0 (Nat.sub_zero _) (Nat.zero_le _) rfl
/-- the three tests of the reference are the order of strengths -/
theorem tp_1 {g : zB} (h : batI g) {i k : Nat} (hi : i < bn g) (hk : k < bn g) : (0 < bf g k 4 - bf g i 4 ↔ bf g i 4 < bf g k 4) ∧ (bf g k 4 - bf g i 4 = 0 ↔ bf g k 4 = bf g i 4) := by
  obtain ⟨a1, a2⟩ := sk_of h hi
  obtain ⟨b1, b2⟩ := sk_of h hk
  rw [a2, b2]
  exact ⟨df_gt _ (by omega) _ (by omega), df_eq _ (by omega) _ (by omega)⟩
theorem rk_f {b : zB} {i k : Nat} {x : Int32} (_ : ∀ j, j < bn b → ¬ j = i → ¬ rankB b j = x) (h : ¬ k = i) : (if i < k then nI i else (0 : Int32)) = if i < k + 1 then nI i else 0 := by
  by_cases q : i < k
  · rw [if_pos q, if_pos (by omega)]
  · rw [if_neg q, if_neg (by omega)]
theorem rk_t {i k : Nat} (h : k = i) : nI k = if i < k + 1 then nI i else 0 := by rw [h, if_pos (Nat.lt_succ_self i)]
set_option maxHeartbeats 4000000 in
set_option maxRecDepth 100000 in
theorem ok_X5_lineByStrength (l : Launch) {g : zG} {κ : zKp} {μ : zMu} {ω : zOm} {a b : Nat → Int32} {x : Int32} (hI : batI b) {i : Nat} (hi9 : i < bn b) (hr : 0 ≤ x ∧ x ≤ b 0 - 1) (hx : rankB b i = x) (hne : ∀ j, j < bn b → ¬ j = i → ¬ rankB b j = x)  : zM l g yX5_lineByStrength cX5_lineByStrength 8 (some .int) 5 0 [.ref (gA g 10 0 0), .int x] κ (zN μ a b) ω κ (zN μ (upd a 2 0) b) ω (some (.int (nI i))) := by
  have hn := hI.1.1
  refine zM_of (by decide) (Nat.le_of_ble_eq_true rfl) (fun p e R s m args below meth c hX => ?_)
  show zZ p l e R s m args below meth c g 8 _ _ _ _ 0 0 [(0, .ref (gA g 10 0 0)), (1, .int x)] []
  refine z_iconst (v := 0) hX dX5_lineByStrength_0 (by decide) ?_
  refine z_istore_n (lv' := [(2, _), (0, _), (1, _)]) hX dX5_lineByStrength_1 (by decide) rfl ?_
  refine z_aload_n hX dX5_lineByStrength_2 1 rfl ?_
  refine z_aload_n hX dX5_lineByStrength_3 1 rfl ?_
  refine z_iload_n hX dX5_lineByStrength_4 2 rfl ?_
  refine z_callV1 hX (ok_X5_isLine l) cv_RX5_153 zRc10 dX5_lineByStrength_5 (by decide) rfl rfl (Nat.le_of_ble_eq_true rfl) ?_
  refine z_isv (if_pos hr) ?_
  refine z_callV1 hX (ok_there1 l) cv_RX5_169 zRc10 dX5_lineByStrength_8 (by decide) rfl rfl (Nat.le_of_ble_eq_true rfl) ?_
  refine z_istore_n (lv' := [(3, _), (2, _), (0, _), (1, _)]) hX dX5_lineByStrength_11 (by decide) rfl ?_
  refine z_iconst (v := 0) hX dX5_lineByStrength_12 (by decide) ?_
  refine z_istore (lv' := [(4, _), (3, _), (2, _), (0, _), (1, _)]) hX dX5_lineByStrength_13 (by decide) rfl ?_
  have hL : ∀ (dz : Nat) (k : Nat) (fv : Int32), bn b - k = dz → k ≤ bn b → fv = (if i < k then nI i else 0) → zZ p l e R s m args below meth c g 8 (zQ g κ (zN μ (upd a 2 0) b) ω (some (.int (nI i))) below args s 0) κ (zN μ (upd a 2 0) b) ω 0 15 [(0, .ref (gA g 10 0 0)), (1, .int x), (2, .int fv), (3, .int 1), (4, .int (nI k))] [] := by
    intro dz
    induction dz with
    | zero =>
      intro k fv hd hk hf
      have hkn : k = bn b := by omega
      refine z_iload hX dX5_lineByStrength_15 4 rfl ?_
      refine z_aload_n hX dX5_lineByStrength_17 0 rfl ?_
      refine zg_X5_s hX   fl_RX5_9 dX5_lineByStrength_18 ?_
      refine z_iconst (v := 0) hX dX5_lineByStrength_21 (by decide) ?_
      refine za_s hX  (show (0 : Int32) = nI 0 from rfl) (by decide) dX5_lineByStrength_22 ?_
      refine z_icmp_ge (tgt := 116) hX dX5_lineByStrength_23 (by decide) (fun h23 => ?_) (fun h23 => absurd h23 (Classical.not_not.mpr (by rw [hkn]; exact cnt_le hn)))
      refine z_iload_n hX dX5_lineByStrength_116 2 rfl ?_
      exact z_iretI hX dX5_lineByStrength_117 (by decide) (by rw [hf, hkn, if_pos hi9]) (fun _ h => h)
    | succ dz ih =>
      intro k fv hd hk hf
      have hkn : k < bn b := by omega
      refine z_iload hX dX5_lineByStrength_15 4 rfl ?_
      refine z_aload_n hX dX5_lineByStrength_17 0 rfl ?_
      refine zg_X5_s hX   fl_RX5_9 dX5_lineByStrength_18 ?_
      refine z_iconst (v := 0) hX dX5_lineByStrength_21 (by decide) ?_
      refine za_s hX  (show (0 : Int32) = nI 0 from rfl) (by decide) dX5_lineByStrength_22 ?_
      refine z_icmp_ge (tgt := 116) hX dX5_lineByStrength_23 (by decide) (fun h23 => absurd h23 (cnt_gt hn hkn)) (fun h23 => ?_)
      refine z_iload_n hX dX5_lineByStrength_26 3 rfl ?_
      refine z_if_eq (tgt := 116) hX dX5_lineByStrength_27 (by decide) (fun h27 => absurd h27 (by decide)) (fun h27 => ?_)
      refine z_iconst (v := 0) hX dX5_lineByStrength_30 (by decide) ?_
      refine z_istore (lv' := [(5, _), (0, _), (1, _), (2, _), (3, _), (4, _)]) hX dX5_lineByStrength_31 (by decide) rfl ?_
      refine z_iconst (v := 0) hX dX5_lineByStrength_33 (by decide) ?_
      refine z_istore (lv' := [(6, _), (5, _), (0, _), (1, _), (2, _), (3, _), (4, _)]) hX dX5_lineByStrength_34 (by decide) rfl ?_
      have hL2 : ∀ (dz : Nat) (w : Nat) (sv : Int32), bn b - w = dz → w ≤ bn b → sv = sm (topF b k) w → zZ p l e R s m args below meth c g 8 (zQ g κ (zN μ (upd a 2 0) b) ω (some (.int (nI i))) below args s 0) κ (zN μ (upd a 2 0) b) ω 0 36 [(0, .ref (gA g 10 0 0)), (1, .int x), (2, .int fv), (3, .int 1), (4, .int (nI k)), (5, .int sv), (6, .int (nI w))] [] := by
        intro dz
        induction dz with
        | zero =>
          intro w sv hd2 hw9 hs
          have hwn : w = bn b := by omega
          have et : sv = rankB b k := by rw [hs, hwn]; rfl
          refine z_iload hX dX5_lineByStrength_36 6 rfl ?_
          refine z_aload_n hX dX5_lineByStrength_38 0 rfl ?_
          refine zg_X5_s hX   fl_RX5_9 dX5_lineByStrength_39 ?_
          refine z_iconst (v := 0) hX dX5_lineByStrength_42 (by decide) ?_
          refine za_s hX  (show (0 : Int32) = nI 0 from rfl) (by decide) dX5_lineByStrength_43 ?_
          refine z_icmp_ge (tgt := 97) hX dX5_lineByStrength_44 (by decide) (fun h44 => ?_) (fun h44 => absurd h44 (Classical.not_not.mpr (by rw [hwn]; exact cnt_le hn)))
          refine z_iload hX dX5_lineByStrength_97 5 rfl ?_
          refine z_iload_n hX dX5_lineByStrength_99 1 rfl ?_
          refine z_icmp_ne (tgt := 108) hX dX5_lineByStrength_100 (by decide) (fun h100 => ?_) (fun h100 => ?_)
          · skip
            refine z_iload_n hX dX5_lineByStrength_108 2 rfl ?_
            refine z_istore_n (lv' := [(2, _), (0, _), (1, _), (3, _), (4, _), (5, _), (6, _)]) hX dX5_lineByStrength_109 (by decide) rfl ?_
            refine z_iinc (v := nI (k + 1)) (lv' := [(4, _), (2, _), (0, _), (1, _), (3, _), (5, _), (6, _)]) hX dX5_lineByStrength_110 4 rfl (nI_1 k) (by decide) rfl ?_
            refine z_goto (tgt := 15) hX dX5_lineByStrength_113 (by decide) ?_
            refine z_sub [2, 3, 1, 4, 0] rfl ?_
            exact ih (k + 1) _ (by omega) hkn (by rw [hf]; exact rk_f hne (fun e => h100 (by rw [et, e]; exact hx)))
          · skip
            refine z_iload hX dX5_lineByStrength_103 4 rfl ?_
            refine z_goto (tgt := 109) hX dX5_lineByStrength_105 (by decide) ?_
            refine z_istore_n (lv' := [(2, _), (0, _), (1, _), (3, _), (4, _), (5, _), (6, _)]) hX dX5_lineByStrength_109 (by decide) rfl ?_
            refine z_iinc (v := nI (k + 1)) (lv' := [(4, _), (2, _), (0, _), (1, _), (3, _), (5, _), (6, _)]) hX dX5_lineByStrength_110 4 rfl (nI_1 k) (by decide) rfl ?_
            refine z_goto (tgt := 15) hX dX5_lineByStrength_113 (by decide) ?_
            refine z_sub [2, 3, 1, 4, 0] rfl ?_
            exact ih (k + 1) _ (by omega) hkn (rk_t (show k = i by exact Classical.byContradiction (fun q => hne k hkn q (et.symm.trans h100))))
        | succ dz ih =>
          intro w sv hd2 hw9 hs
          have hwn : w < bn b := by omega
          refine z_iload hX dX5_lineByStrength_36 6 rfl ?_
          refine z_aload_n hX dX5_lineByStrength_38 0 rfl ?_
          refine zg_X5_s hX   fl_RX5_9 dX5_lineByStrength_39 ?_
          refine z_iconst (v := 0) hX dX5_lineByStrength_42 (by decide) ?_
          refine za_s hX  (show (0 : Int32) = nI 0 from rfl) (by decide) dX5_lineByStrength_43 ?_
          refine z_icmp_ge (tgt := 97) hX dX5_lineByStrength_44 (by decide) (fun h44 => absurd h44 (cnt_gt hn hwn)) (fun h44 => ?_)
          refine z_aload_n hX dX5_lineByStrength_47 0 rfl ?_
          refine z_iload hX dX5_lineByStrength_48 6 rfl ?_
          refine z_iconst (v := 4) hX dX5_lineByStrength_50 (by decide) ?_
          refine z_callV1 hX (ok_X5_of (w := 4) l (lt12 hn hwn) (by decide)) cv_RX5_58 zRc10 dX5_lineByStrength_51 (by decide) rfl rfl (Nat.le_of_ble_eq_true rfl) ?_
          refine z_aload_n hX dX5_lineByStrength_54 0 rfl ?_
          refine z_iload hX dX5_lineByStrength_55 4 rfl ?_
          refine z_iconst (v := 4) hX dX5_lineByStrength_57 (by decide) ?_
          refine z_callV1 hX (ok_X5_of (w := 4) l (lt12 hn hkn) (by decide)) cv_RX5_58 zRc10 dX5_lineByStrength_58 (by decide) rfl rfl (Nat.le_of_ble_eq_true rfl) ?_
          refine z_isub hX dX5_lineByStrength_61 ?_
          refine z_istore (lv' := [(7, _), (0, _), (1, _), (2, _), (3, _), (4, _), (5, _), (6, _)]) hX dX5_lineByStrength_62 (by decide) rfl ?_
          refine z_iload hX dX5_lineByStrength_64 6 rfl ?_
          refine z_iload hX dX5_lineByStrength_66 0 rfl ?_
          refine z_if_gt (tgt := 83) hX dX5_lineByStrength_68 (by decide) (fun h68 => ?_) (fun h68 => ?_)
          · skip
            refine z_iconst (v := 1) hX dX5_lineByStrength_83 (by decide) ?_
            refine z_goto (tgt := 88) hX dX5_lineByStrength_84 (by decide) ?_
            refine z_iadd hX dX5_lineByStrength_88 ?_
            refine z_istore (lv' := [(5, _), (7, _), (0, _), (1, _), (2, _), (3, _), (4, _), (6, _)]) hX dX5_lineByStrength_89 (by decide) rfl ?_
            refine z_iinc (v := nI (w + 1)) (lv' := [(6, _), (5, _), (7, _), (0, _), (1, _), (2, _), (3, _), (4, _)]) hX dX5_lineByStrength_91 7 rfl (nI_1 w) (by decide) rfl ?_
            refine z_goto (tgt := 36) hX dX5_lineByStrength_94 (by decide) ?_
            refine z_sub [3, 4, 5, 6, 7, 1, 0] rfl ?_
            exact ih (w + 1) _ (by omega) hwn (sm_y hs (if_pos (Or.inl ((tp_1 hI hkn hwn).1.mp h68))))
          · skip
            refine z_iload hX dX5_lineByStrength_71 0 rfl ?_
            refine z_if_ne (tgt := 87) hX dX5_lineByStrength_73 (by decide) (fun h73 => ?_) (fun h73 => ?_)
            · skip
              refine z_iconst (v := 0) hX dX5_lineByStrength_87 (by decide) ?_
              refine z_iadd hX dX5_lineByStrength_88 ?_
              refine z_istore (lv' := [(5, _), (7, _), (0, _), (1, _), (2, _), (3, _), (4, _), (6, _)]) hX dX5_lineByStrength_89 (by decide) rfl ?_
              refine z_iinc (v := nI (w + 1)) (lv' := [(6, _), (5, _), (7, _), (0, _), (1, _), (2, _), (3, _), (4, _)]) hX dX5_lineByStrength_91 7 rfl (nI_1 w) (by decide) rfl ?_
              refine z_goto (tgt := 36) hX dX5_lineByStrength_94 (by decide) ?_
              refine z_sub [3, 4, 5, 6, 7, 1, 0] rfl ?_
              exact ih (w + 1) _ (by omega) hwn (sm_y hs (if_neg (fun q => q.elim (fun q => h68 ((tp_1 hI hkn hwn).1.mpr q)) (fun q => h73 ((tp_1 hI hkn hwn).2.mpr q.1)))))
            · skip
              refine z_iload hX dX5_lineByStrength_76 7 rfl ?_
              refine z_iload hX dX5_lineByStrength_78 5 rfl ?_
              refine z_icmp_ge (tgt := 87) hX dX5_lineByStrength_80 (by decide) (fun h80 => ?_) (fun h80 => ?_)
              · skip
                refine z_iconst (v := 0) hX dX5_lineByStrength_87 (by decide) ?_
                refine z_iadd hX dX5_lineByStrength_88 ?_
                refine z_istore (lv' := [(5, _), (7, _), (0, _), (1, _), (2, _), (3, _), (4, _), (6, _)]) hX dX5_lineByStrength_89 (by decide) rfl ?_
                refine z_iinc (v := nI (w + 1)) (lv' := [(6, _), (5, _), (7, _), (0, _), (1, _), (2, _), (3, _), (4, _)]) hX dX5_lineByStrength_91 7 rfl (nI_1 w) (by decide) rfl ?_
                refine z_goto (tgt := 36) hX dX5_lineByStrength_94 (by decide) ?_
                refine z_sub [3, 4, 5, 6, 7, 1, 0] rfl ?_
                exact ih (w + 1) _ (by omega) hwn (sm_y hs (if_neg (fun q => q.elim (fun q => h68 ((tp_1 hI hkn hwn).1.mpr q)) (fun q => absurd q.2 (Int32.not_lt.mpr h80)))))
              · skip
                refine z_iconst (v := 1) hX dX5_lineByStrength_83 (by decide) ?_
                refine z_goto (tgt := 88) hX dX5_lineByStrength_84 (by decide) ?_
                refine z_iadd hX dX5_lineByStrength_88 ?_
                refine z_istore (lv' := [(5, _), (7, _), (0, _), (1, _), (2, _), (3, _), (4, _), (6, _)]) hX dX5_lineByStrength_89 (by decide) rfl ?_
                refine z_iinc (v := nI (w + 1)) (lv' := [(6, _), (5, _), (7, _), (0, _), (1, _), (2, _), (3, _), (4, _)]) hX dX5_lineByStrength_91 7 rfl (nI_1 w) (by decide) rfl ?_
                refine z_goto (tgt := 36) hX dX5_lineByStrength_94 (by decide) ?_
                refine z_sub [3, 4, 5, 6, 7, 1, 0] rfl ?_
                exact ih (w + 1) _ (by omega) hwn (sm_y hs (if_pos (Or.inr ⟨(tp_1 hI hkn hwn).2.mp h73, Int32.not_le.mp h80⟩)))
      refine z_sub [2, 3, 4, 5, 6, 1, 0] rfl ?_
      exact hL2 (bn b) 0 0 (Nat.sub_zero _) (Nat.zero_le _) rfl
  refine z_sub [3, 4, 2, 1, 0] rfl ?_
  exact hL (bn b) 0 0 (Nat.sub_zero _) (Nat.zero_le _) (by rw [if_neg (Nat.not_lt_zero i)])
set_option maxHeartbeats 4000000 in
set_option maxRecDepth 100000 in
theorem no_X5_lineByStrength (l : Launch) {g : zG} {κ : zKp} {μ : zMu} {ω : zOm} {a b : Nat → Int32} {x : Int32} (hI : batI b) (hr : ¬ (0 ≤ x ∧ x ≤ b 0 - 1))  : zM l g yX5_lineByStrength cX5_lineByStrength 8 (some .int) 5 0 [.ref (gA g 10 0 0), .int x] κ (zN μ a b) ω κ (zN μ (upd a 2 1) b) ω (some (.int 0)) := by
  refine zM_of (by decide) (Nat.le_of_ble_eq_true rfl) (fun p e R s m args below meth c hX => ?_)
  show zZ p l e R s m args below meth c g 8 _ _ _ _ 0 0 [(0, .ref (gA g 10 0 0)), (1, .int x)] []
  refine z_iconst (v := 0) hX dX5_lineByStrength_0 (by decide) ?_
  refine z_istore_n (lv' := [(2, _), (0, _), (1, _)]) hX dX5_lineByStrength_1 (by decide) rfl ?_
  refine z_aload_n hX dX5_lineByStrength_2 1 rfl ?_
  refine z_aload_n hX dX5_lineByStrength_3 1 rfl ?_
  refine z_iload_n hX dX5_lineByStrength_4 2 rfl ?_
  refine z_callV1 hX (ok_X5_isLine l) cv_RX5_153 zRc10 dX5_lineByStrength_5 (by decide) rfl rfl (Nat.le_of_ble_eq_true rfl) ?_
  refine z_isv (if_neg hr) ?_
  refine z_callV1 hX (ok_there0 l) cv_RX5_169 zRc10 dX5_lineByStrength_8 (by decide) rfl rfl (Nat.le_of_ble_eq_true rfl) ?_
  refine z_istore_n (lv' := [(3, _), (2, _), (0, _), (1, _)]) hX dX5_lineByStrength_11 (by decide) rfl ?_
  refine z_iconst (v := 0) hX dX5_lineByStrength_12 (by decide) ?_
  refine z_istore (lv' := [(4, _), (3, _), (2, _), (0, _), (1, _)]) hX dX5_lineByStrength_13 (by decide) rfl ?_
  refine z_iload hX dX5_lineByStrength_15 0 rfl ?_
  refine z_aload_n hX dX5_lineByStrength_17 3 rfl ?_
  refine zg_X5_s hX   fl_RX5_9 dX5_lineByStrength_18 ?_
  refine z_iconst (v := 0) hX dX5_lineByStrength_21 (by decide) ?_
  refine za_s hX  (show (0 : Int32) = nI 0 from rfl) (by decide) dX5_lineByStrength_22 ?_
  refine z_icmp_ge (tgt := 116) hX dX5_lineByStrength_23 (by decide) (fun h23 => ?_) (fun h23 => ?_)
  · skip
    refine z_iload_n hX dX5_lineByStrength_116 2 rfl ?_
    exact z_iretI hX dX5_lineByStrength_117 (by decide) rfl (fun _ h => h)
  · skip
    refine z_iload_n hX dX5_lineByStrength_26 1 rfl ?_
    refine z_if_eq (tgt := 116) hX dX5_lineByStrength_27 (by decide) (fun h27 => ?_) (fun h27 => absurd h27 (by decide))
    refine z_iload_n hX dX5_lineByStrength_116 2 rfl ?_
    exact z_iretI hX dX5_lineByStrength_117 (by decide) rfl (fun _ h => h)
set_option maxHeartbeats 4000000 in
set_option maxRecDepth 100000 in
theorem ok_X4_write (l : Launch) {g : zG} {κ : zKp} {μ : zMu} {ω : zOm} {q : Nat} {W : Nat → Int32} {v : Int32} (hq : q < 20) (hv : vp_nar .char v = v)  : zM l g yX4_write cX4_write 2 none 1 0 [.ref (gA g 0 0 0), .int v] (zWr κ q W) μ ω (zWr κ (q + 1) (upd W q v)) μ ω none := by
  refine zM_of (by decide) (Nat.le_of_ble_eq_true rfl) (fun p e R s m args below meth c hX => ?_)
  show zZ p l e R s m args below meth c g 2 _ _ _ _ 0 0 [(0, .ref (gA g 0 0 0)), (1, .int v)] []
  refine z_aload_n hX dX4_write_0 0 rfl ?_
  refine zg_X4_writtenLength hX   fl_RX4_40 dX4_write_1 ?_
  refine z_isv (show _ = nI q from rfl) ?_
  refine z_if_lt (tgt := 39) hX dX4_write_4 (by decide) (fun h4 => absurd h4 (nn_i (by omega))) (fun h4 => ?_)
  refine z_aload_n hX dX4_write_7 0 rfl ?_
  refine zg_X4_writtenLength hX   fl_RX4_40 dX4_write_8 ?_
  refine z_isv (show _ = nI q from rfl) ?_
  refine z_aload_n hX dX4_write_11 0 rfl ?_
  refine zg_X4_written hX   fl_RX4_36 dX4_write_12 ?_
  refine zl_written hX  dX4_write_15 ?_
  refine z_icmp_ge (tgt := 39) hX dX4_write_16 (by decide) (fun h16 => absurd h16 (nle_i hq (by decide))) (fun h16 => ?_)
  refine z_aload_n hX dX4_write_19 0 rfl ?_
  refine zg_X4_written hX   fl_RX4_36 dX4_write_20 ?_
  refine z_aload_n hX dX4_write_23 0 rfl ?_
  refine zg_X4_writtenLength hX   fl_RX4_40 dX4_write_24 ?_
  refine z_isv (show _ = nI q from rfl) ?_
  refine z_iload_n hX dX4_write_27 1 rfl ?_
  refine zs_written hX rfl hq hv dX4_write_28 ?_
  rw [zWr_w]
  refine z_aload_n hX dX4_write_29 0 rfl ?_
  refine z_dup hX dX4_write_30 rfl ?_
  refine zg_X4_writtenLength hX   fl_RX4_40 dX4_write_31 ?_
  refine z_isv (show _ = nI q from rfl) ?_
  refine z_iconst (v := 1) hX dX4_write_34 (by decide) ?_
  refine z_iadd hX dX4_write_35 ?_
  refine z_isv (nI_1 q) ?_
  refine zp_X4_writtenLength hX fl_RX4_40 dX4_write_36 ?_
  rw [zWr_n]
  exact z_vret hX dX4_write_39 (by decide) (fun _ h => h)
set_option maxHeartbeats 4000000 in
set_option maxRecDepth 100000 in
theorem ok_X4_writeLane (l : Launch) {g : zG} {κ : zKp} {μ : zMu} {ω : zOm} {gb cb : Nat → Int32} {a0 : Nat} (h6 : κ 6 0 = gb) (h8 : κ 8 0 = cb) (hI : batI gb) (hc : cb = cellsOf gb) (ha0 : a0 < 3)  : zM l g yX4_writeLane cX4_writeLane 4 (some .int) 4 0 [.ref (gA g 0 0 0), .int (nI a0)] κ μ ω (zWr κ ((lnS gb a0 (κ 1 0) 10).1) ((lnS gb a0 (κ 1 0) 10).2)) μ ω (some (.int (nI (lnS gb a0 (κ 1 0) 10).1))) := by
  have hn := hI.1.1
  have hla : 0 ≤ nI a0 ∧ nI a0 < 3 := ⟨ge_i (by omega), lt_i (b := 3) ha0 (by decide)⟩
  refine zM_of (by decide) (Nat.le_of_ble_eq_true rfl) (fun p e R s m args below meth c hX => ?_)
  show zZ p l e R s m args below meth c g 4 _ _ _ _ 0 0 [(0, .ref (gA g 0 0 0)), (1, .int (nI a0))] []
  refine z_iload_n hX dX4_writeLane_0 1 rfl ?_
  refine z_callS1 hX (ok_X4_isLane l) cs_RX4_158 dX4_writeLane_1 (by decide) rfl rfl (Nat.le_of_ble_eq_true rfl) ?_
  refine z_if_neB (tgt := 17) hX dX4_writeLane_4 (by decide) (fun h4 => ?_) (fun h4 => absurd h4 (fun q => q hla))
  refine z_aload_n hX dX4_writeLane_17 0 rfl ?_
  refine z_iconst (v := 0) hX dX4_writeLane_18 (by decide) ?_
  refine zp_X4_writtenLength hX fl_RX4_40 dX4_writeLane_19 ?_
  rw [zWr_0]
  refine z_iconst (v := 0) hX dX4_writeLane_22 (by decide) ?_
  refine z_istore_n (lv' := [(2, _), (0, _), (1, _)]) hX dX4_writeLane_23 (by decide) rfl ?_
  have hL : ∀ (dz : Nat) (k : Nat), 10 - k = dz → k ≤ 10 → zZ p l e R s m args below meth c g 4 (zQ g (zWr κ ((lnS gb a0 (κ 1 0) 10).1) ((lnS gb a0 (κ 1 0) 10).2)) μ ω (some (.int (nI (lnS gb a0 (κ 1 0) 10).1))) below args s 0) (zWr κ ((lnS gb a0 (κ 1 0) (k)).1) ((lnS gb a0 (κ 1 0) (k)).2)) μ ω 0 24 [(0, .ref (gA g 0 0 0)), (1, .int (nI a0)), (2, .int (nI k))] [] := by
    intro dz
    induction dz with
    | zero =>
      intro k hd hk
      have hkn : k = 10 := by omega
      refine z_iload_n hX dX4_writeLane_24 2 rfl ?_
      refine z_bipush (v := 10) hX dX4_writeLane_25 (by decide) ?_
      refine z_icmp_ge (tgt := 80) hX dX4_writeLane_27 (by decide) (fun h27 => ?_) (fun h27 => absurd h27 (Classical.not_not.mpr (le_i (a := 10) (b := k) (by omega) (by omega))))
      refine z_aload_n hX dX4_writeLane_80 0 rfl ?_
      refine zg_X4_writtenLength hX   fl_RX4_40 dX4_writeLane_81 ?_
      refine z_isv (show _ = nI (lnS gb a0 (κ 1 0) k).1 from rfl) ?_
      exact z_iretI hX dX4_writeLane_84 (by decide) (by rw [hkn]) (fun _ h => by rw [hkn] at h; exact h)
    | succ dz ih =>
      intro k hd hk
      have hkn : k < 10 := by omega
      have hLn := ln_le (g := gb) (a := a0) (W0 := κ 1 0) k
      refine z_iload_n hX dX4_writeLane_24 2 rfl ?_
      refine z_bipush (v := 10) hX dX4_writeLane_25 (by decide) ?_
      refine z_icmp_ge (tgt := 80) hX dX4_writeLane_27 (by decide) (fun h27 => absurd h27 (nle_i (a := k) (b := 10) hkn (by decide))) (fun h27 => ?_)
      refine z_world (κ' := zF (zWr κ ((lnS gb a0 (κ 1 0) (k)).1) ((lnS gb a0 (κ 1 0) (k)).2)) 0 gb cb) (fun _ h => by rw [zF_at (κ := κ) (show (zWr κ ((lnS gb a0 (κ 1 0) (k)).1) ((lnS gb a0 (κ 1 0) (k)).2)) 6 0 = gb from h6) (show (zWr κ ((lnS gb a0 (κ 1 0) (k)).1) ((lnS gb a0 (κ 1 0) (k)).2)) 8 0 = cb from h8)]; exact h) ?_
      refine z_aload_n hX dX4_writeLane_30 0 rfl ?_
      refine zg_X4_field hX   fl_RX4_10 dX4_writeLane_31 ?_
      refine z_iload_n hX dX4_writeLane_34 1 rfl ?_
      refine z_iload_n hX dX4_writeLane_35 2 rfl ?_
      rcases gl_occ (g := gb) (x := nI a0) (y := nI k) hn.1 hla (show inCol (nI k) from ⟨ge_i (by omega), le_i (b := 9) (by omega) (by decide)⟩) with ⟨ho, -⟩ | ⟨j, ho, -, -⟩
      · have hc0 : cellB gb (nI a0) (nI k) = -1 := occ_none hn.1 ho hla ⟨ge_i (by omega), le_i (b := 9) (by omega) (by decide)⟩
        refine z_callV1 hX (ok_occ_n l z0lt hn hc ho) cv_RX4_167 (zRc6 z0lt) dX4_writeLane_36 (by decide) rfl rfl (Nat.le_of_ble_eq_true rfl) ?_
        refine z_nstore_n (lv' := [(3, _), (0, _), (1, _), (2, _)]) hX dX4_writeLane_39 (by decide) rfl ?_
        refine z_nload_n hX dX4_writeLane_40 0 rfl ?_
        refine z_ifnonnullN hX dX4_writeLane_41 ?_
        refine z_world (κ' := zWr κ ((lnS gb a0 (κ 1 0) (k)).1) ((lnS gb a0 (κ 1 0) (k)).2)) (fun _ h => by rw [zF_at (κ := κ) (show (zWr κ ((lnS gb a0 (κ 1 0) (k)).1) ((lnS gb a0 (κ 1 0) (k)).2)) 6 0 = gb from h6) (show (zWr κ ((lnS gb a0 (κ 1 0) (k)).1) ((lnS gb a0 (κ 1 0) (k)).2)) 8 0 = cb from h8)] at h; exact h) ?_
        refine z_aload_n hX dX4_writeLane_44 1 rfl ?_
        refine z_bipush (v := 46) hX dX4_writeLane_45 (by decide) ?_
        refine z_callV0 hX (ok_X4_write l (by omega) rfl) cv_RX4_248 zRc0 dX4_writeLane_47 (by decide) rfl rfl (Nat.le_of_ble_eq_true rfl) ?_
        refine z_goto (tgt := 74) hX dX4_writeLane_50 (by decide) ?_
        refine z_iinc (v := nI (k + 1)) (lv' := [(2, _), (3, _), (0, _), (1, _)]) hX dX4_writeLane_74 3 rfl (nI_1 k) (by decide) rfl ?_
        refine z_goto (tgt := 24) hX dX4_writeLane_77 (by decide) ?_
        refine z_world (κ' := zWr κ ((lnS gb a0 (κ 1 0) (k + 1)).1) ((lnS gb a0 (κ 1 0) (k + 1)).2)) (fun _ h => by rw [ln_n (by rw [hc0]; decide)]; exact h) ?_
        refine z_sub [2, 3, 0] rfl ?_
        exact ih (k + 1) (by omega) hkn
      · obtain ⟨hj, hc0, -⟩ := occ_some hn.1 ho
        have hj12 := lt12 hn hj
        have hLj := hI.1.2.2.1 j hj
        obtain ⟨b9, hb9, eb9⟩ := lt_of hLj
        refine z_callV1 hX (ok_occ_s l z0lt hn hc ho) cv_RX4_167 (zRc6 z0lt) dX4_writeLane_36 (by decide) rfl rfl (Nat.le_of_ble_eq_true rfl) ?_
        refine z_astore_n (lv' := [(3, _), (0, _), (1, _), (2, _)]) hX dX4_writeLane_39 (by decide) rfl ?_
        refine z_aload_n hX dX4_writeLane_40 0 rfl ?_
        refine z_ifnonnull (tgt := 53) hX dX4_writeLane_41 (by decide) ?_
        refine z_aload_n hX dX4_writeLane_53 1 rfl ?_
        refine z_aload_n hX dX4_writeLane_54 0 rfl ?_
        refine z_callV1 hX (ok_X3_letter l z0lt hj12 hj hLj) cv_RX4_252 (zRc9 z0lt (lt12 hn hj)) dX4_writeLane_55 (by decide) rfl rfl (Nat.le_of_ble_eq_true rfl) ?_
        refine z_world (κ' := zWr κ ((lnS gb a0 (κ 1 0) (k)).1) ((lnS gb a0 (κ 1 0) (k)).2)) (fun _ h => by rw [zF_at (κ := κ) (show (zWr κ ((lnS gb a0 (κ 1 0) (k)).1) ((lnS gb a0 (κ 1 0) (k)).2)) 6 0 = gb from h6) (show (zWr κ ((lnS gb a0 (κ 1 0) (k)).1) ((lnS gb a0 (κ 1 0) (k)).2)) 8 0 = cb from h8)] at h; exact h) ?_
        refine z_isv (show _ = ltB gb j from rfl) ?_
        refine z_callV0 hX (ok_X4_write l (by omega) (vp_of (by rw [eb9]; exact (pk_charN (by omega)).1))) cv_RX4_248 zRc0 dX4_writeLane_58 (by decide) rfl rfl (Nat.le_of_ble_eq_true rfl) ?_
        refine z_world (κ' := zF (zWr κ ((lnS gb a0 (κ 1 0) (k)).1 + 1) (upd (lnS gb a0 (κ 1 0) (k)).2 (lnS gb a0 (κ 1 0) (k)).1 (ltB gb j))) 0 gb cb) (fun _ h => by rw [zF_at (κ := κ) (show (zWr κ ((lnS gb a0 (κ 1 0) (k)).1 + 1) (upd (lnS gb a0 (κ 1 0) (k)).2 (lnS gb a0 (κ 1 0) (k)).1 (ltB gb j))) 6 0 = gb from h6) (show (zWr κ ((lnS gb a0 (κ 1 0) (k)).1 + 1) (upd (lnS gb a0 (κ 1 0) (k)).2 (lnS gb a0 (κ 1 0) (k)).1 (ltB gb j))) 8 0 = cb from h8)]; exact h) ?_
        refine z_aload_n hX dX4_writeLane_61 0 rfl ?_
        refine z_callV1 hX (ok_X3_routed l z0lt hj12 hj) cv_RX4_152 (zRc9 z0lt (lt12 hn hj)) dX4_writeLane_62 (by decide) rfl rfl (Nat.le_of_ble_eq_true rfl) ?_
        refine z_if_eqB (tgt := 74) hX dX4_writeLane_65 (by decide) (fun h65 => ?_) (fun h65 => ?_)
        · skip
          refine z_iinc (v := nI (k + 1)) (lv' := [(2, _), (3, _), (0, _), (1, _)]) hX dX4_writeLane_74 3 rfl (nI_1 k) (by decide) rfl ?_
          refine z_goto (tgt := 24) hX dX4_writeLane_77 (by decide) ?_
          refine z_world (κ' := zWr κ ((lnS gb a0 (κ 1 0) (k)).1 + 1) (upd (lnS gb a0 (κ 1 0) (k)).2 (lnS gb a0 (κ 1 0) (k)).1 (ltB gb j))) (fun _ h => by rw [zF_at (κ := κ) (show (zWr κ ((lnS gb a0 (κ 1 0) (k)).1 + 1) (upd (lnS gb a0 (κ 1 0) (k)).2 (lnS gb a0 (κ 1 0) (k)).1 (ltB gb j))) 6 0 = gb from h6) (show (zWr κ ((lnS gb a0 (κ 1 0) (k)).1 + 1) (upd (lnS gb a0 (κ 1 0) (k)).2 (lnS gb a0 (κ 1 0) (k)).1 (ltB gb j))) 8 0 = cb from h8)] at h; exact h) ?_
          refine z_world (κ' := zWr κ ((lnS gb a0 (κ 1 0) (k + 1)).1) ((lnS gb a0 (κ 1 0) (k + 1)).2)) (fun _ h => by rw [ln_s (by omega) hc0 h65]; exact h) ?_
          refine z_sub [2, 3, 0] rfl ?_
          exact ih (k + 1) (by omega) hkn
        · skip
          refine z_world (κ' := zWr κ ((lnS gb a0 (κ 1 0) (k)).1 + 1) (upd (lnS gb a0 (κ 1 0) (k)).2 (lnS gb a0 (κ 1 0) (k)).1 (ltB gb j))) (fun _ h => by rw [zF_at (κ := κ) (show (zWr κ ((lnS gb a0 (κ 1 0) (k)).1 + 1) (upd (lnS gb a0 (κ 1 0) (k)).2 (lnS gb a0 (κ 1 0) (k)).1 (ltB gb j))) 6 0 = gb from h6) (show (zWr κ ((lnS gb a0 (κ 1 0) (k)).1 + 1) (upd (lnS gb a0 (κ 1 0) (k)).2 (lnS gb a0 (κ 1 0) (k)).1 (ltB gb j))) 8 0 = cb from h8)] at h; exact h) ?_
          refine z_aload_n hX dX4_writeLane_68 1 rfl ?_
          refine z_bipush (v := 33) hX dX4_writeLane_69 (by decide) ?_
          refine z_callV0 hX (ok_X4_write l (by omega) rfl) cv_RX4_248 zRc0 dX4_writeLane_71 (by decide) rfl rfl (Nat.le_of_ble_eq_true rfl) ?_
          refine z_iinc (v := nI (k + 1)) (lv' := [(2, _), (3, _), (0, _), (1, _)]) hX dX4_writeLane_74 3 rfl (nI_1 k) (by decide) rfl ?_
          refine z_goto (tgt := 24) hX dX4_writeLane_77 (by decide) ?_
          refine z_world (κ' := zWr κ ((lnS gb a0 (κ 1 0) (k + 1)).1) ((lnS gb a0 (κ 1 0) (k + 1)).2)) (fun _ h => by rw [ln_r (by omega) hc0 h65]; exact h) ?_
          refine z_sub [2, 3, 0] rfl ?_
          exact ih (k + 1) (by omega) hkn
  refine z_sub [1, 2, 0] rfl ?_
  exact hL 10 0 rfl (Nat.zero_le _)
set_option maxHeartbeats 4000000 in
set_option maxRecDepth 100000 in
theorem no_X4_writeLane (l : Launch) (hl0 : l.stackTraces = false) {g : zG} {κ : zKp} {μ : zMu} {ω : zOm} {x : Int32} (hx : ¬ (0 ≤ x ∧ x < 3))  : zMx l g yX4_writeLane cX4_writeLane 4 (some .int) 6 1 [.ref (gA g 0 0 0), .int x] κ μ ω κ μ ω (.error xIOE) := by
  refine zMx_of (by decide) (Nat.le_of_ble_eq_true rfl) (fun p e R s m args below meth c hX hT => ?_)
  show zZ p l e R s m args below meth c g 4 _ _ _ _ 0 0 [(0, .ref (gA g 0 0 0)), (1, .int x)] []
  refine z_iload_n hX dX4_writeLane_0 1 rfl ?_
  refine z_callS1 hX (ok_X4_isLane l) cs_RX4_158 dX4_writeLane_1 (by decide) rfl rfl (Nat.le_of_ble_eq_true rfl) ?_
  refine z_if_neB (tgt := 17) hX dX4_writeLane_4 (by decide) (fun h4 => absurd h4 hx) (fun h4 => ?_)
  exact z_throw hX hT hl0 (i := 20) ft_IOE zN2_fit cl_IOE in_IOE rfl (zhat h1_IOE h2_IOE hX) go_IOE dX4_writeLane_7 dX4_writeLane_10 dX4_writeLane_11 dX4_writeLane_13 dX4_writeLane_16 (by decide) (Nat.le_of_ble_eq_true rfl) rfl (fun _ h => h)
set_option maxHeartbeats 4000000 in
set_option maxRecDepth 100000 in
theorem ok_X5_says (l : Launch) {g : zG} {κ : zKp} {μ : zMu} {ω : zOm} {a b : Nat → Int32} {q : Nat} {v : Int32} (hq : q < 30) (h3 : a 3 = nI q) (hv : vp_nar .char v = v) (hc : (v.toUInt32 % 65536).toInt32 = v)  : zM l g yX5_says cX5_says 2 none 1 0 [.ref (gA g 10 0 0), .int v] κ (zN μ a b) ω κ (zN (zRm μ 6 (upd (μ 6) q v)) (upd a 3 (nI (q + 1))) b) ω none := by
  refine zM_of (by decide) (Nat.le_of_ble_eq_true rfl) (fun p e R s m args below meth c hX => ?_)
  show zZ p l e R s m args below meth c g 2 _ _ _ _ 0 0 [(0, .ref (gA g 10 0 0)), (1, .int v)] []
  refine z_aload_n hX dX5_says_0 0 rfl ?_
  refine zg_X5_written hX   fl_RX5_25 dX5_says_1 ?_
  refine z_aload_n hX dX5_says_4 0 rfl ?_
  refine zg_X5_writtenMany hX   fl_RX5_191 dX5_says_5 ?_
  refine z_isv h3 ?_
  refine z_iload_n hX dX5_says_8 1 rfl ?_
  refine z_i2c hX dX5_says_9 ?_
  refine z_isv hc ?_
  refine zs_mwritten hX  rfl hq hv dX5_says_10 ?_
  refine z_aload_n hX dX5_says_11 0 rfl ?_
  refine z_dup hX dX5_says_12 rfl ?_
  refine zg_X5_writtenMany hX   fl_RX5_191 dX5_says_13 ?_
  refine z_isv h3 ?_
  refine z_iconst (v := 1) hX dX5_says_16 (by decide) ?_
  refine z_iadd hX dX5_says_17 ?_
  refine z_isv (nI_1 q) ?_
  refine zp_X5_writtenMany hX   fl_RX5_191 dX5_says_18 ?_
  exact z_vret hX dX5_says_21 (by decide) (fun _ h => h)
set_option maxHeartbeats 4000000 in
set_option maxRecDepth 100000 in
theorem ok_X5_writeLane (l : Launch) {g : zG} {κ : zKp} {μ : zMu} {ω : zOm} {a b : Nat → Int32} {a0 : Nat} (hI : batI b) (ha0 : a0 < 3)  : zM l g yX5_writeLane cX5_writeLane 4 (some .int) 4 0 [.ref (gA g 10 0 0), .int (nI a0)] κ (zN μ a b) ω κ (zN (zRm μ 6 ((lnS b a0 (μ 6) 10).2)) (upd (upd a 2 0) 3 (nI ((lnS b a0 (μ 6) 10).1))) b) ω (some (.int (nI (lnS b a0 (μ 6) 10).1))) := by
  have hn := hI.1.1
  have hla : 0 ≤ nI a0 ∧ nI a0 ≤ 2 := ⟨ge_i (by omega), le_i (b := 2) (by omega) (by decide)⟩
  refine zM_of (by decide) (Nat.le_of_ble_eq_true rfl) (fun p e R s m args below meth c hX => ?_)
  show zZ p l e R s m args below meth c g 4 _ _ _ _ 0 0 [(0, .ref (gA g 10 0 0)), (1, .int (nI a0))] []
  refine z_aload_n hX dX5_writeLane_0 0 rfl ?_
  refine z_iload_n hX dX5_writeLane_1 1 rfl ?_
  refine z_callS1 hX (ok_X5_isLane l) cs_RX5_134 dX5_writeLane_2 (by decide) rfl rfl (Nat.le_of_ble_eq_true rfl) ?_
  refine z_isv (if_pos hla) ?_
  refine z_callV1 hX (ok_there1 l) cv_RX5_169 zRc10 dX5_writeLane_5 (by decide) rfl rfl (Nat.le_of_ble_eq_true rfl) ?_
  refine z_if_ne (tgt := 13) hX dX5_writeLane_8 (by decide) (fun h8 => ?_) (fun h8 => absurd h8 (by decide))
  refine z_aload_n hX dX5_writeLane_13 0 rfl ?_
  refine z_iconst (v := 0) hX dX5_writeLane_14 (by decide) ?_
  refine zp_X5_writtenMany hX fl_RX5_191 dX5_writeLane_15 ?_
  refine z_world (μ' := zN (zRm μ 6 ((lnS b a0 (μ 6) (0)).2)) (upd (upd a 2 0) 3 (nI ((lnS b a0 (μ 6) (0)).1))) b) (fun _ h => by rw [show (lnS b a0 (μ 6) 0) = (0, μ 6) from rfl, zRm_self, nI_0]; exact h) ?_
  refine z_iconst (v := 0) hX dX5_writeLane_18 (by decide) ?_
  refine z_istore_n (lv' := [(2, _), (0, _), (1, _)]) hX dX5_writeLane_19 (by decide) rfl ?_
  have hL : ∀ (dz : Nat) (k : Nat), 10 - k = dz → k ≤ 10 → zZ p l e R s m args below meth c g 4 (zQ g κ (zN (zRm μ 6 ((lnS b a0 (μ 6) 10).2)) (upd (upd a 2 0) 3 (nI ((lnS b a0 (μ 6) 10).1))) b) ω (some (.int (nI (lnS b a0 (μ 6) 10).1))) below args s 0) κ (zN (zRm μ 6 ((lnS b a0 (μ 6) (k)).2)) (upd (upd a 2 0) 3 (nI ((lnS b a0 (μ 6) (k)).1))) b) ω 0 20 [(0, .ref (gA g 10 0 0)), (1, .int (nI a0)), (2, .int (nI k))] [] := by
    intro dz
    induction dz with
    | zero =>
      intro k hd hk
      have hkn : k = 10 := by omega
      refine z_iload_n hX dX5_writeLane_20 2 rfl ?_
      refine z_bipush (v := 10) hX dX5_writeLane_21 (by decide) ?_
      refine z_icmp_ge (tgt := 96) hX dX5_writeLane_23 (by decide) (fun h23 => ?_) (fun h23 => absurd h23 (Classical.not_not.mpr (le_i (a := 10) (b := k) (by omega) (by omega))))
      refine z_aload_n hX dX5_writeLane_96 0 rfl ?_
      refine zg_X5_writtenMany hX   fl_RX5_191 dX5_writeLane_97 ?_
      refine z_isv (show _ = nI (lnS b a0 (μ 6) k).1 from rfl) ?_
      exact z_iretI hX dX5_writeLane_100 (by decide) (by rw [hkn]) (fun _ h => by rw [hkn] at h; exact h)
    | succ dz ih =>
      intro k hd hk
      have hkn : k < 10 := by omega
      have hLn := ln_le (g := b) (a := a0) (W0 := μ 6) k
      refine z_iload_n hX dX5_writeLane_20 2 rfl ?_
      refine z_bipush (v := 10) hX dX5_writeLane_21 (by decide) ?_
      refine z_icmp_ge (tgt := 96) hX dX5_writeLane_23 (by decide) (fun h23 => absurd h23 (nle_i (a := k) (b := 10) hkn (by decide))) (fun h23 => ?_)
      refine z_aload_n hX dX5_writeLane_26 0 rfl ?_
      refine z_iload_n hX dX5_writeLane_27 1 rfl ?_
      refine z_iload_n hX dX5_writeLane_28 2 rfl ?_
      rcases cellB_spec b (nI a0) (nI k) with ⟨fc, -⟩ | ⟨j, fj, fc, -⟩
      · skip
        refine z_callV1 hX (ok_X5_cell l hn) cv_RX5_99 zRc10 dX5_writeLane_29 (by decide) rfl rfl (Nat.le_of_ble_eq_true rfl) ?_
        refine z_isv fc ?_
        refine z_istore_n (lv' := [(3, _), (0, _), (1, _), (2, _)]) hX dX5_writeLane_32 (by decide) rfl ?_
        refine z_aload_n hX dX5_writeLane_33 1 rfl ?_
        refine z_iload_n hX dX5_writeLane_34 0 rfl ?_
        refine z_if_ge (tgt := 43) hX dX5_writeLane_35 (by decide) (fun h35 => absurd h35 (by decide)) (fun h35 => ?_)
        refine z_bipush (v := 46) hX dX5_writeLane_38 (by decide) ?_
        refine z_goto (tgt := 66) hX dX5_writeLane_40 (by decide) ?_
        refine z_callV0 hX (ok_X5_says l (q := (lnS b a0 (μ 6) (k)).1) (by omega) rfl rfl rfl) cv_RX5_194 zRc10 dX5_writeLane_66 (by decide) rfl rfl (Nat.le_of_ble_eq_true rfl) ?_
        refine z_world (μ' := zN (zRm μ 6 (upd (lnS b a0 (μ 6) (k)).2 (lnS b a0 (μ 6) (k)).1 46)) (upd (upd a 2 0) 3 (nI ((lnS b a0 (μ 6) (k)).1 + 1))) b) (fun _ h => by rw [zRm_s, zRm_2, upd_2] at h; exact h) ?_
        refine z_iload_n hX dX5_writeLane_69 0 rfl ?_
        refine z_if_lt (tgt := 90) hX dX5_writeLane_70 (by decide) (fun h70 => ?_) (fun h70 => absurd h70 (by decide))
        refine z_iinc (v := nI (k + 1)) (lv' := [(2, _), (3, _), (0, _), (1, _)]) hX dX5_writeLane_90 3 rfl (nI_1 k) (by decide) rfl ?_
        refine z_goto (tgt := 20) hX dX5_writeLane_93 (by decide) ?_
        refine z_world (μ' := zN (zRm μ 6 ((lnS b a0 (μ 6) (k + 1)).2)) (upd (upd a 2 0) 3 (nI ((lnS b a0 (μ 6) (k + 1)).1))) b) (fun _ h => by rw [ln_n (by rw [fc]; decide)]; exact h) ?_
        refine z_sub [2, 3, 0] rfl ?_
        exact ih (k + 1) (by omega) hkn
      · have hj12 := lt12 hn fj
        have hLj := hI.1.2.2.1 j fj
        obtain ⟨b9, hb9, eb9⟩ := lt_of hLj
        refine z_callV1 hX (ok_X5_cell l hn) cv_RX5_99 zRc10 dX5_writeLane_29 (by decide) rfl rfl (Nat.le_of_ble_eq_true rfl) ?_
        refine z_isv fc ?_
        refine z_istore_n (lv' := [(3, _), (0, _), (1, _), (2, _)]) hX dX5_writeLane_32 (by decide) rfl ?_
        refine z_aload_n hX dX5_writeLane_33 1 rfl ?_
        refine z_iload_n hX dX5_writeLane_34 0 rfl ?_
        refine z_if_ge (tgt := 43) hX dX5_writeLane_35 (by decide) (fun h35 => ?_) (fun h35 => absurd h35 (fun q => q (ge_i (by omega))))
        refine z_aload_n hX dX5_writeLane_43 1 rfl ?_
        refine z_iload_n hX dX5_writeLane_44 0 rfl ?_
        refine z_iconst (v := 3) hX dX5_writeLane_45 (by decide) ?_
        refine z_callV1 hX (ok_X5_of (w := 3) l hj12 (by decide)) cv_RX5_58 zRc10 dX5_writeLane_46 (by decide) rfl rfl (Nat.le_of_ble_eq_true rfl) ?_
        refine z_aload_n hX dX5_writeLane_49 1 rfl ?_
        refine z_iload_n hX dX5_writeLane_50 0 rfl ?_
        refine z_iconst (v := 0) hX dX5_writeLane_51 (by decide) ?_
        refine z_callV1 hX (ok_X5_of (w := 0) l hj12 (by decide)) cv_RX5_58 zRc10 dX5_writeLane_52 (by decide) rfl rfl (Nat.le_of_ble_eq_true rfl) ?_
        refine z_iconst (v := 1) hX dX5_writeLane_55 (by decide) ?_
        refine z_icmp_ne (tgt := 64) hX dX5_writeLane_56 (by decide) (fun h56 => ?_) (fun h56 => ?_)
        · skip
          refine z_iconst (v := 0) hX dX5_writeLane_64 (by decide) ?_
          refine z_isub hX dX5_writeLane_65 ?_
          refine z_isv (show bf b j 3 - 0 = ltB b j by unfold ltB; rw [if_pos (hLj.1.resolve_right h56), Int32.sub_zero]) ?_
          refine z_callV0 hX (ok_X5_says l (q := (lnS b a0 (μ 6) (k)).1) (by omega) rfl (vp_of (by rw [eb9]; exact (pk_charN (by omega)).1)) (by rw [eb9]; exact i2c_n (by omega))) cv_RX5_194 zRc10 dX5_writeLane_66 (by decide) rfl rfl (Nat.le_of_ble_eq_true rfl) ?_
          refine z_world (μ' := zN (zRm μ 6 (upd (lnS b a0 (μ 6) (k)).2 (lnS b a0 (μ 6) (k)).1 (ltB b j))) (upd (upd a 2 0) 3 (nI ((lnS b a0 (μ 6) (k)).1 + 1))) b) (fun _ h => by rw [zRm_s, zRm_2, upd_2] at h; exact h) ?_
          refine z_iload_n hX dX5_writeLane_69 0 rfl ?_
          refine z_if_lt (tgt := 90) hX dX5_writeLane_70 (by decide) (fun h70 => absurd h70 (nn_i (by omega))) (fun h70 => ?_)
          refine z_aload_n hX dX5_writeLane_73 1 rfl ?_
          refine z_iload_n hX dX5_writeLane_74 0 rfl ?_
          refine z_bipush (v := 7) hX dX5_writeLane_75 (by decide) ?_
          refine z_callV1 hX (ok_X5_of (w := 7) l hj12 (by decide)) cv_RX5_58 zRc10 dX5_writeLane_77 (by decide) rfl rfl (Nat.le_of_ble_eq_true rfl) ?_
          refine z_iconst (v := 1) hX dX5_writeLane_80 (by decide) ?_
          refine z_icmp_ne (tgt := 90) hX dX5_writeLane_81 (by decide) (fun h81 => ?_) (fun h81 => ?_)
          · skip
            refine z_iinc (v := nI (k + 1)) (lv' := [(2, _), (3, _), (0, _), (1, _)]) hX dX5_writeLane_90 3 rfl (nI_1 k) (by decide) rfl ?_
            refine z_goto (tgt := 20) hX dX5_writeLane_93 (by decide) ?_
            refine z_world (μ' := zN (zRm μ 6 ((lnS b a0 (μ 6) (k + 1)).2)) (upd (upd a 2 0) 3 (nI ((lnS b a0 (μ 6) (k + 1)).1))) b) (fun _ h => by rw [ln_s (by omega) fc h81]; exact h) ?_
            refine z_sub [2, 3, 0] rfl ?_
            exact ih (k + 1) (by omega) hkn
          · skip
            refine z_aload_n hX dX5_writeLane_84 1 rfl ?_
            refine z_bipush (v := 33) hX dX5_writeLane_85 (by decide) ?_
            refine z_callV0 hX (ok_X5_says l (q := (lnS b a0 (μ 6) (k)).1 + 1) (by omega) rfl rfl rfl) cv_RX5_194 zRc10 dX5_writeLane_87 (by decide) rfl rfl (Nat.le_of_ble_eq_true rfl) ?_
            refine z_world (μ' := zN (zRm μ 6 (upd (upd (lnS b a0 (μ 6) (k)).2 (lnS b a0 (μ 6) (k)).1 (ltB b j)) ((lnS b a0 (μ 6) (k)).1 + 1) 33)) (upd (upd a 2 0) 3 (nI ((lnS b a0 (μ 6) (k)).1 + 1 + 1))) b) (fun _ h => by rw [zRm_s, zRm_2, upd_2] at h; exact h) ?_
            refine z_iinc (v := nI (k + 1)) (lv' := [(2, _), (3, _), (0, _), (1, _)]) hX dX5_writeLane_90 3 rfl (nI_1 k) (by decide) rfl ?_
            refine z_goto (tgt := 20) hX dX5_writeLane_93 (by decide) ?_
            refine z_world (μ' := zN (zRm μ 6 ((lnS b a0 (μ 6) (k + 1)).2)) (upd (upd a 2 0) 3 (nI ((lnS b a0 (μ 6) (k + 1)).1))) b) (fun _ h => by rw [ln_r (by omega) fc h81]; exact h) ?_
            refine z_sub [2, 3, 0] rfl ?_
            exact ih (k + 1) (by omega) hkn
        · skip
          refine z_bipush (v := 32) hX dX5_writeLane_59 (by decide) ?_
          refine z_goto (tgt := 65) hX dX5_writeLane_61 (by decide) ?_
          refine z_isub hX dX5_writeLane_65 ?_
          refine z_isv (show bf b j 3 - 32 = ltB b j by unfold ltB; rw [if_neg (by rw [h56]; decide)]) ?_
          refine z_callV0 hX (ok_X5_says l (q := (lnS b a0 (μ 6) (k)).1) (by omega) rfl (vp_of (by rw [eb9]; exact (pk_charN (by omega)).1)) (by rw [eb9]; exact i2c_n (by omega))) cv_RX5_194 zRc10 dX5_writeLane_66 (by decide) rfl rfl (Nat.le_of_ble_eq_true rfl) ?_
          refine z_world (μ' := zN (zRm μ 6 (upd (lnS b a0 (μ 6) (k)).2 (lnS b a0 (μ 6) (k)).1 (ltB b j))) (upd (upd a 2 0) 3 (nI ((lnS b a0 (μ 6) (k)).1 + 1))) b) (fun _ h => by rw [zRm_s, zRm_2, upd_2] at h; exact h) ?_
          refine z_iload_n hX dX5_writeLane_69 0 rfl ?_
          refine z_if_lt (tgt := 90) hX dX5_writeLane_70 (by decide) (fun h70 => absurd h70 (nn_i (by omega))) (fun h70 => ?_)
          refine z_aload_n hX dX5_writeLane_73 1 rfl ?_
          refine z_iload_n hX dX5_writeLane_74 0 rfl ?_
          refine z_bipush (v := 7) hX dX5_writeLane_75 (by decide) ?_
          refine z_callV1 hX (ok_X5_of (w := 7) l hj12 (by decide)) cv_RX5_58 zRc10 dX5_writeLane_77 (by decide) rfl rfl (Nat.le_of_ble_eq_true rfl) ?_
          refine z_iconst (v := 1) hX dX5_writeLane_80 (by decide) ?_
          refine z_icmp_ne (tgt := 90) hX dX5_writeLane_81 (by decide) (fun h81 => ?_) (fun h81 => ?_)
          · skip
            refine z_iinc (v := nI (k + 1)) (lv' := [(2, _), (3, _), (0, _), (1, _)]) hX dX5_writeLane_90 3 rfl (nI_1 k) (by decide) rfl ?_
            refine z_goto (tgt := 20) hX dX5_writeLane_93 (by decide) ?_
            refine z_world (μ' := zN (zRm μ 6 ((lnS b a0 (μ 6) (k + 1)).2)) (upd (upd a 2 0) 3 (nI ((lnS b a0 (μ 6) (k + 1)).1))) b) (fun _ h => by rw [ln_s (by omega) fc h81]; exact h) ?_
            refine z_sub [2, 3, 0] rfl ?_
            exact ih (k + 1) (by omega) hkn
          · skip
            refine z_aload_n hX dX5_writeLane_84 1 rfl ?_
            refine z_bipush (v := 33) hX dX5_writeLane_85 (by decide) ?_
            refine z_callV0 hX (ok_X5_says l (q := (lnS b a0 (μ 6) (k)).1 + 1) (by omega) rfl rfl rfl) cv_RX5_194 zRc10 dX5_writeLane_87 (by decide) rfl rfl (Nat.le_of_ble_eq_true rfl) ?_
            refine z_world (μ' := zN (zRm μ 6 (upd (upd (lnS b a0 (μ 6) (k)).2 (lnS b a0 (μ 6) (k)).1 (ltB b j)) ((lnS b a0 (μ 6) (k)).1 + 1) 33)) (upd (upd a 2 0) 3 (nI ((lnS b a0 (μ 6) (k)).1 + 1 + 1))) b) (fun _ h => by rw [zRm_s, zRm_2, upd_2] at h; exact h) ?_
            refine z_iinc (v := nI (k + 1)) (lv' := [(2, _), (3, _), (0, _), (1, _)]) hX dX5_writeLane_90 3 rfl (nI_1 k) (by decide) rfl ?_
            refine z_goto (tgt := 20) hX dX5_writeLane_93 (by decide) ?_
            refine z_world (μ' := zN (zRm μ 6 ((lnS b a0 (μ 6) (k + 1)).2)) (upd (upd a 2 0) 3 (nI ((lnS b a0 (μ 6) (k + 1)).1))) b) (fun _ h => by rw [ln_r (by omega) fc h81]; exact h) ?_
            refine z_sub [2, 3, 0] rfl ?_
            exact ih (k + 1) (by omega) hkn
  refine z_sub [1, 2, 0] rfl ?_
  exact hL 10 0 rfl (Nat.zero_le _)
set_option maxHeartbeats 4000000 in
set_option maxRecDepth 100000 in
theorem no_X5_writeLane (l : Launch) {g : zG} {κ : zKp} {μ : zMu} {ω : zOm} {a b : Nat → Int32} {x : Int32} (hx : ¬ (0 ≤ x ∧ x ≤ 2))  : zM l g yX5_writeLane cX5_writeLane 4 (some .int) 4 0 [.ref (gA g 10 0 0), .int x] κ (zN μ a b) ω κ (zN μ (upd a 2 1) b) ω (some (.int 0)) := by
  refine zM_of (by decide) (Nat.le_of_ble_eq_true rfl) (fun p e R s m args below meth c hX => ?_)
  show zZ p l e R s m args below meth c g 4 _ _ _ _ 0 0 [(0, .ref (gA g 10 0 0)), (1, .int x)] []
  refine z_aload_n hX dX5_writeLane_0 0 rfl ?_
  refine z_iload_n hX dX5_writeLane_1 1 rfl ?_
  refine z_callS1 hX (ok_X5_isLane l) cs_RX5_134 dX5_writeLane_2 (by decide) rfl rfl (Nat.le_of_ble_eq_true rfl) ?_
  refine z_isv (if_neg hx) ?_
  refine z_callV1 hX (ok_there0 l) cv_RX5_169 zRc10 dX5_writeLane_5 (by decide) rfl rfl (Nat.le_of_ble_eq_true rfl) ?_
  refine z_if_ne (tgt := 13) hX dX5_writeLane_8 (by decide) (fun h8 => absurd h8 (by decide)) (fun h8 => ?_)
  refine z_iconst (v := 0) hX dX5_writeLane_11 (by decide) ?_
  exact z_iretI hX dX5_writeLane_12 (by decide) rfl (fun _ h => h)
end ZDM
