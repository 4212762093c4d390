section ZAD
/-- the new line's numbers -/
def adv (x y z v : Int32) : Nat → Int32
  | 0 => x
  | 1 => y
  | 2 => 9 * x
  | 3 => z
  | 4 => v
  | 5 => 10
  | 6 => 104
  | _ => 0
theorem rowB_at {g : zB} {x y z v : Int32} {w : Nat} (hw : w < 9) : bf (rowB g x y z v) (bn g) w = adv x y z v w := by
  have h : w = 0 ∨ w = 1 ∨ w = 2 ∨ w = 3 ∨ w = 4 ∨ w = 5 ∨ w = 6 ∨ w = 7 ∨ w = 8 := by omega
  rcases h with rfl | rfl | rfl | rfl | rfl | rfl | rfl | rfl | rfl
  · rw [rowB, bf_bsW (by decide : ¬ 0 = 8), bf_bsW (by decide : ¬ 0 = 7), bf_bsW (by decide : ¬ 0 = 6), bf_bsW (by decide : ¬ 0 = 5), bf_bsW (by decide : ¬ 0 = 4), bf_bsW (by decide : ¬ 0 = 3), bf_bsW (by decide : ¬ 0 = 2), bf_bsW (by decide : ¬ 0 = 1), bf_bs]; rfl
  · rw [rowB, bf_bsW (by decide : ¬ 1 = 8), bf_bsW (by decide : ¬ 1 = 7), bf_bsW (by decide : ¬ 1 = 6), bf_bsW (by decide : ¬ 1 = 5), bf_bsW (by decide : ¬ 1 = 4), bf_bsW (by decide : ¬ 1 = 3), bf_bsW (by decide : ¬ 1 = 2), bf_bs]; rfl
  · rw [rowB, bf_bsW (by decide : ¬ 2 = 8), bf_bsW (by decide : ¬ 2 = 7), bf_bsW (by decide : ¬ 2 = 6), bf_bsW (by decide : ¬ 2 = 5), bf_bsW (by decide : ¬ 2 = 4), bf_bsW (by decide : ¬ 2 = 3), bf_bs]; rfl
  · rw [rowB, bf_bsW (by decide : ¬ 3 = 8), bf_bsW (by decide : ¬ 3 = 7), bf_bsW (by decide : ¬ 3 = 6), bf_bsW (by decide : ¬ 3 = 5), bf_bsW (by decide : ¬ 3 = 4), bf_bs]; rfl
  · rw [rowB, bf_bsW (by decide : ¬ 4 = 8), bf_bsW (by decide : ¬ 4 = 7), bf_bsW (by decide : ¬ 4 = 6), bf_bsW (by decide : ¬ 4 = 5), bf_bs]; rfl
  · rw [rowB, bf_bsW (by decide : ¬ 5 = 8), bf_bsW (by decide : ¬ 5 = 7), bf_bsW (by decide : ¬ 5 = 6), bf_bs]; rfl
  · rw [rowB, bf_bsW (by decide : ¬ 6 = 8), bf_bsW (by decide : ¬ 6 = 7), bf_bs]; rfl
  · rw [rowB, bf_bsW (by decide : ¬ 7 = 8), bf_bs]; rfl
  · rw [rowB, bf_bs]; rfl
theorem rowB_ne {g : zB} {x y z v : Int32} {j w : Nat} (hw : w < 9) (h : ¬ j = bn g) : bf (rowB g x y z v) j w = bf g j w := by
  rw [rowB, bf_bsI (by decide) hw h, bf_bsI (by decide) hw h, bf_bsI (by decide) hw h, bf_bsI (by decide) hw h, bf_bsI (by decide) hw h, bf_bsI (by decide) hw h, bf_bsI (by decide) hw h, bf_bsI (by decide) hw h, bf_bsI (by decide) hw h]
theorem rowB_lo {g : zB} {x y z v : Int32} {q : Nat} (h : q < 5) : rowB g x y z v q = g q := by
  rw [rowB, bs_lo h, bs_lo h, bs_lo h, bs_lo h, bs_lo h, bs_lo h, bs_lo h, bs_lo h, bs_lo h]
theorem addB_0 {g : zB} {x y z v : Int32} (hn : bnI g) : addB g x y z v 0 = nI (bn g + 1) := by
  show rowB g x y z v 0 + 1 = _
  rw [rowB_lo (by decide), hn.2]; exact nI_1 _
theorem bn_addB {g : zB} {x y z v : Int32} (hn : bnI g) : bn (addB g x y z v) = bn g + 1 := by
  have h := hn.1
  show (addB g x y z v 0).toNatClampNeg = _
  rw [addB_0 hn]; exact nI_clamp (by omega)
theorem addB_at {g : zB} {x y z v : Int32} {w : Nat} (hw : w < 9) : bf (addB g x y z v) (bn g) w = adv x y z v w := (bf_upd (by decide)).trans (rowB_at hw)
theorem addB_ne {g : zB} {x y z v : Int32} {j w : Nat} (hw : w < 9) (h : ¬ j = bn g) : bf (addB g x y z v) j w = bf g j w := (bf_upd (by decide)).trans (rowB_ne hw h)
theorem zK_F {κ : zKp} {f : Nat} {gb cb d0 c0 : Nat → Int32} : zK (zF κ f gb cb) f d0 c0 = zK κ f d0 c0 := by
  funext t f'
  unfold zK zF
  by_cases hf : f' = f
  · by_cases h6 : t = 6
    · simp [hf, h6]
    · by_cases h8 : t = 8
      · simp [hf, h8]
      · simp [hf, h6, h8]
  · simp [hf]
theorem zF_K {κ : zKp} {f : Nat} {d0 c0 c1 : Nat → Int32} : zF (zK κ f d0 c0) f d0 c1 = zK κ f d0 c1 := by
  funext t f'
  unfold zK zF
  by_cases hf : f' = f
  · by_cases h6 : t = 6
    · simp [hf, h6]
    · by_cases h8 : t = 8
      · simp [hf, h8]
      · simp [hf, h6, h8]
  · simp [hf]
theorem ok_line_K (l : Launch) {g : zG} {κ : zKp} {μ : zMu} {ω : zOm} {f i m0 : Nat} {d0 c0 : Nat → Int32} (hf : f < 11) (hm : d0 0 = nI m0) (h12 : m0 ≤ 12) (hlt : i < m0) : zM l g yX1_line cX1_line 2 (some (.object "LineBattle$Line")) 1 0 [.ref (gA g 6 f 0), .int (nI i)] (zK κ f d0 c0) μ ω (zK κ f d0 c0) μ ω (some (.ref (gA g 9 f i))) := by
  have e : bn d0 = m0 := by
    show (d0 0).toNatClampNeg = _
    rw [hm]; exact nI_clamp (by omega)
  have h := ok_line_in l (g := g) (κ := zK κ f d0 c0) (μ := μ) (ω := ω) (gb := d0) (cb := c0) hf ⟨by rw [e]; exact h12, by rw [e]; exact hm⟩ (show i < bn d0 by rw [e]; exact hlt)
  rw [zF_at (κ := κ) zK_6 zK_8] at h
  exact h
theorem ok_put_K (l : Launch) {g : zG} {κ : zKp} {μ : zMu} {ω : zOm} {f a b : Nat} {x : Int32} {d0 c0 : Nat → Int32} (hf : f < 11) (ha : a < 3) (hb : b < 10) : zM l g yX1_putInto cX1_putInto 5 none 1 0 [.ref (gA g 6 f 0), .int (nI a), .int (nI b), .int x] (zK κ f d0 c0) μ ω (zK κ f d0 (upd c0 (a * 10 + b) x)) μ ω none := by
  have h := ok_X1_putInto l (g := g) (κ := zK κ f d0 c0) (μ := μ) (ω := ω) (gb := d0) (cb := c0) (x := x) hf ha hb
  rw [zF_at (κ := κ) zK_6 zK_8, zF_K] at h
  exact h
theorem W_zF {g : zG} {κ : zKp} {μ : zMu} {ω : zOm} {f : Nat} {d0 g1 c0 : Nat → Int32} {H : Heap} (h5 : ∀ q, q < 5 → d0 q = g1 q) (hl : ∀ i w, i < bn g1 → w < 9 → bf d0 i w = bf g1 i w) (hj : ∀ i w, i < 12 → bn g1 ≤ i → w < 9 → bf d0 i w = κ 9 f (9 * i + w)) (h : WW g (zK κ f d0 c0) μ ω H) : WW g (zF κ f g1 c0) μ ω H := by
  refine WW_ext (fun t f' i hv => Or.inl ?_) h
  by_cases hf : f' = f
  · subst hf
    by_cases q6 : t = 6
    · subst q6
      rw [zV_i0 hv (by omega), zE6K, zE6, h5 0 (by decide), h5 1 (by decide), h5 2 (by decide), h5 3 (by decide), h5 4 (by decide)]
    · by_cases q9 : t = 9
      · subst q9
        have hi : i < 12 := zV_9 hv
        rw [zE9K]
        by_cases hb : i < bn g1
        · rw [zE9 hb, hl i 0 hb (by decide), hl i 1 hb (by decide), hl i 2 hb (by decide), hl i 3 hb (by decide), hl i 4 hb (by decide), hl i 5 hb (by decide), hl i 6 hb (by decide), hl i 7 hb (by decide), hl i 8 hb (by decide)]
        · have key : ∀ w, w < 9 → zL (zF κ f' g1 c0) f' i w = bf d0 i w := by
            intro w hw
            rw [hj i w hi (by omega) hw]
            unfold zL
            rw [zF_6]
            rw [if_neg (show ¬ i < (g1 0).toNatClampNeg from hb)]
            simp [zF]
          simp only [zE]
          rw [key 0 (by decide), key 1 (by decide), key 2 (by decide), key 3 (by decide), key 4 (by decide), key 5 (by decide), key 6 (by decide), key 7 (by decide), key 8 (by decide)]
      · refine zE_k ?_ (fun h => absurd h q9)
        by_cases q8 : t = 8
        · subst q8; rw [zK_8, zF_8]
        · rw [zK_t ⟨q6, q8, q9⟩]; simp [zF, q6, q8]
  · refine zE_k ?_ (fun _ => ?_)
    · rw [zK_o hf]; simp [zF, hf]
    · rw [zK_o hf]; simp [zF, hf]
theorem fc_u : ∀ u, u < 2 → (if nI u = 0 then (0 : Int32) else 9) = 9 * nI u := by decide +kernel
set_option maxHeartbeats 4000000 in
set_option maxRecDepth 100000 in
theorem ok_X1_add (l : Launch) {g : zG} {κ : zKp} {μ : zMu} {ω : zOm} {f u a : Nat} {gb cb : Nat → Int32} {z v : Int32} (hf : f < 11) (hn : bnI gb) (hk : bn gb < 12) (hu : u < 2) (ha : a < 3) (hz : z = 112 ∨ z = 110 ∨ z = 99 ∨ z = 115) : zM l g yX1_add cX1_add 7 (some .int) 2 0 [.ref (gA g 6 f 0), .int (nI u), .int (nI a), .int z, .int v] (zF κ f gb cb) μ ω (zF κ f (addB gb (nI u) (nI a) z v) (upd cb (a * 10 + 9 * u) (nI (bn gb)))) μ ω (some (.int (nI (bn gb)))) := by
  obtain ⟨d0, hd0⟩ : ∃ d0, d0 = rwB (zF κ f gb cb) f := ⟨_, rfl⟩
  have e5 : ∀ q, q < 5 → d0 q = gb q := fun q hq => by
    rw [hd0]; unfold rwB; rw [if_pos hq, zF_6]
  have eL : ∀ i w, i < bn gb → w < 9 → bf d0 i w = bf gb i w := fun i w hi hw => by
    rw [hd0, rwB_at hw]; unfold zL; rw [zF_6, if_pos (show i < (gb 0).toNatClampNeg from hi)]
  have eJ : ∀ i w, bn gb ≤ i → w < 9 → bf d0 i w = κ 9 f (9 * i + w) := fun i w hi hw => by
    rw [hd0, rwB_at hw]; unfold zL; rw [zF_6, if_neg (show ¬ i < (gb 0).toNatClampNeg from Nat.not_lt.mpr hi)]; simp [zF]
  have FIN : ∀ H, WW g (zK κ f (lnC (upd d0 0 (nI (bn gb + 1))) (bn gb) (adv (nI u) (nI a) z v)) (upd cb (a * 10 + 9 * u) (nI (bn gb)))) μ ω H → WW g (zF κ f (addB gb (nI u) (nI a) z v) (upd cb (a * 10 + 9 * u) (nI (bn gb)))) μ ω H := by
    intro H h
    refine W_zF (fun q hq => ?_) (fun i w hi hw => ?_) (fun i w hi hb hw => ?_) h
    · rw [lnC_lo hq]
      unfold addB upd
      by_cases e : q = 0
      · rw [if_pos e, if_pos e, rowB_lo (by decide), hn.2]; exact (nI_1 _).symm
      · rw [if_neg e, if_neg e, rowB_lo hq]; exact e5 q hq
    · rw [bn_addB hn] at hi
      by_cases e : i = bn gb
      · subst e; rw [lnC_at hw, addB_at hw]
      · rw [lnC_ne hw e, addB_ne hw e, bf_upd (by decide)]; exact eL i w (by omega) hw
    · rw [bn_addB hn] at hb
      rw [lnC_ne hw (by omega), bf_upd (by decide)]; exact eJ i w (by omega) hw
  refine zM_of (by decide) (Nat.le_of_ble_eq_true rfl) (fun p e R s m args below meth c hX => ?_)
  show zZ p l e R s m args below meth c g 7 _ _ _ _ 0 0 [(0, .ref (gA g 6 f 0)), (1, .int (nI u)), (2, .int (nI a)), (3, .int z), (4, .int v)] []
  refine z_world (κ' := zK κ f d0 cb) (fun _ h => by have h1 := W_in (f := f) h; rw [zF_8, zK_F, ← hd0] at h1; exact h1) ?_
  refine z_aload_n hX dX1_add_0 0 rfl ?_
  refine zgF_count hX hf fl_RX1_21 dX1_add_1 ?_
  refine z_isv (show _ = nI (bn gb) by rw [zK_6, e5 0 (by decide)]; exact hn.2) ?_
  refine z_istore (lv' := [(5, _), (0, _), (1, _), (2, _), (3, _), (4, _)]) hX dX1_add_4 (by decide) rfl ?_
  refine z_aload_n hX dX1_add_6 1 rfl ?_
  refine z_dup hX dX1_add_7 rfl ?_
  refine zgF_count hX hf fl_RX1_21 dX1_add_8 ?_
  refine z_isv (show _ = nI (bn gb) by rw [zK_6, e5 0 (by decide)]; exact hn.2) ?_
  refine z_iconst (v := 1) hX dX1_add_11 (by decide) ?_
  refine z_iadd hX dX1_add_12 ?_
  refine z_isv (nI_1 (bn gb)) ?_
  refine zpF_count hX hf fl_RX1_21 dX1_add_13 ?_
  refine z_aload_n hX dX1_add_16 1 rfl ?_
  refine z_iload hX dX1_add_17 0 rfl ?_
  refine z_callV1 hX (ok_line_K l hf (m0 := bn gb + 1) rfl (by omega) (by omega)) cv_RX1_57 (zRc6 hf) dX1_add_19 (by decide) rfl rfl (Nat.le_of_ble_eq_true rfl) ?_
  refine z_astore (lv' := [(6, _), (5, _), (0, _), (1, _), (2, _), (3, _), (4, _)]) hX dX1_add_22 (by decide) rfl ?_
  refine z_aload hX dX1_add_24 0 rfl ?_
  refine z_ifnonnull (tgt := 31) hX dX1_add_26 (by decide) ?_
  refine z_aload hX dX1_add_31 0 rfl ?_
  refine z_iload_n hX dX1_add_33 3 rfl ?_
  refine zpL_side hX hf hk fl_RX1_79 dX1_add_34 ?_
  refine z_aload hX dX1_add_37 0 rfl ?_
  refine z_iload_n hX dX1_add_39 4 rfl ?_
  refine zpL_lane hX hf hk fl_RX1_82 dX1_add_40 ?_
  refine z_aload hX dX1_add_43 0 rfl ?_
  refine z_iload_n hX dX1_add_45 3 rfl ?_
  refine z_callS1 hX (ok_X1_firstColumn l) cs_RX1_72 dX1_add_46 (by decide) rfl rfl (Nat.le_of_ble_eq_true rfl) ?_
  refine z_isv (fc_u u hu) ?_
  refine zpL_column hX hf hk fl_RX1_85 dX1_add_49 ?_
  refine z_aload hX dX1_add_52 0 rfl ?_
  refine z_iload_n hX dX1_add_54 5 rfl ?_
  refine zpL_kind hX hf hk ⟨char_k hz, fit_k hz⟩ fl_RX1_88 dX1_add_55 ?_
  refine z_aload hX dX1_add_58 0 rfl ?_
  refine z_bipush (v := 104) hX dX1_add_60 (by decide) ?_
  refine zpL_order hX hf hk ⟨rfl, rfl⟩ fl_RX1_92 dX1_add_62 ?_
  refine z_aload hX dX1_add_65 0 rfl ?_
  refine z_iload hX dX1_add_67 6 rfl ?_
  refine zpL_strength hX hf hk fl_RX1_95 dX1_add_69 ?_
  refine z_aload hX dX1_add_72 0 rfl ?_
  refine z_bipush (v := 10) hX dX1_add_74 (by decide) ?_
  refine zpL_morale hX hf hk fl_RX1_98 dX1_add_76 ?_
  refine z_aload hX dX1_add_79 0 rfl ?_
  refine z_iconst (v := 0) hX dX1_add_81 (by decide) ?_
  refine zpL_condition hX hf hk fl_RX1_101 dX1_add_82 ?_
  refine z_aload hX dX1_add_85 0 rfl ?_
  refine z_iconst (v := 0) hX dX1_add_87 (by decide) ?_
  refine zpL_turnsRouted hX hf hk fl_RX1_104 dX1_add_88 ?_
  refine z_aload_n hX dX1_add_91 2 rfl ?_
  refine z_iload_n hX dX1_add_92 4 rfl ?_
  refine z_aload hX dX1_add_93 0 rfl ?_
  refine zgL_column hX hf hk fl_RX1_85 dX1_add_95 ?_
  refine z_isv (show _ = nI (9 * u) by rw [zL_K]; refine (lnC_at (d0 := (upd d0 0 (nI (bn gb + 1)))) (i := bn gb) (v := adv (nI u) (nI a) z v) (w := 2) (by decide)).trans ?_; show 9 * nI u = _; rw [show (9 : Int32) = nI 9 from rfl, pk_mul]) ?_
  refine z_iload hX dX1_add_98 1 rfl ?_
  refine z_callV0 hX (ok_put_K l hf ha (show 9 * u < 10 by omega)) cv_RX1_107 (zRc6 hf) dX1_add_100 (by decide) rfl rfl (Nat.le_of_ble_eq_true rfl) ?_
  refine z_iload hX dX1_add_103 1 rfl ?_
  exact z_iretI hX dX1_add_105 (by decide) rfl FIN
end ZAD
