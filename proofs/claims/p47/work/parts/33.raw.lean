section ZKR
variable {p : Program} {l : Launch} {e : Env} {R : Room} {s : State} {m : MethodId} {args : Array Value} {below : List Frame} {meth : Method} {c : Code} {Q : State → Prop} {g : zG} {own : String} {cc : ByteArray} {n lvl mc : Nat} {ret : Option FieldType} {κ κ' : zKp} {μ μ' : zMu} {ω ω' : zOm} {k pc : Nat} {lv : List (Nat × Value)} {st : List Value} {oc : Except String (Option Value)}
/-- a character -/
abbrev chW (x : Int32) : Prop := narrow .char (.int x) = .int x ∧ fits .char (.int x) = true
/-- field f with its numbers d0 (all twelve lines, also those that are not added) and its cells c0 -/
def zK (κ : zKp) (f : Nat) (d0 c0 : Nat → Int32) : zKp := fun t f' => if f' = f then (if t = 6 then d0 else if t = 8 then c0 else if t = 9 then (fun q => d0 (5 + q)) else κ t f') else κ t f'
theorem zK_6 {f : Nat} {d0 c0 : Nat → Int32} : zK κ f d0 c0 6 f = d0 := by simp [zK]
theorem zK_8 {f : Nat} {d0 c0 : Nat → Int32} : zK κ f d0 c0 8 f = c0 := by simp [zK]
theorem zK_9 {f : Nat} {d0 c0 : Nat → Int32} : zK κ f d0 c0 9 f = fun q => d0 (5 + q) := by simp [zK]
theorem zK_o {f f2 t : Nat} {d0 c0 : Nat → Int32} (h : ¬ f2 = f) : zK κ f d0 c0 t f2 = κ t f2 := by simp [zK, h]
theorem zK_t {f f2 t : Nat} {d0 c0 : Nat → Int32} (h : ¬ t = 6 ∧ ¬ t = 8 ∧ ¬ t = 9) : zK κ f d0 c0 t f2 = κ t f2 := by simp [zK, h]
theorem zL_K {f i w : Nat} {d0 c0 : Nat → Int32} : zL (zK κ f d0 c0) f i w = bf d0 i w := by
  unfold zL
  rw [zK_6, zK_9]
  show (if _ then d0 (5 + 9 * i + w) else d0 (5 + (9 * i + w))) = d0 (5 + 9 * i + w)
  rw [← Nat.add_assoc]
  exact ite_self _
theorem zL_Ko {f f2 i w : Nat} {d0 c0 : Nat → Int32} (h : ¬ f2 = f) : zL (zK κ f d0 c0) f2 i w = zL κ f2 i w := by
  unfold zL
  rw [zK_o h, zK_o h]
theorem zE9K {f i : Nat} {d0 c0 : Nat → Int32} : zE g (zK κ f d0 c0) μ ω 9 f i = .inr (6, [.int (nI i), .int (bf d0 i 0), .int (bf d0 i 1), .int (bf d0 i 2), .int (bf d0 i 3), .int (bf d0 i 6), .int (bf d0 i 4), .int (bf d0 i 5), .int (bf d0 i 7), .int (bf d0 i 8)]) := by simp only [zE, zL_K]
theorem zE6K {f : Nat} {d0 c0 : Nat → Int32} : zE g (zK κ f d0 c0) μ ω 6 f 0 = .inr (4, [.ref (gA g 7 f 0), .ref (gA g 8 f 0), .int (d0 0), .int (d0 1), .int (d0 2), .int (d0 3), .int (d0 4)]) := by simp only [zE, zK_6]
theorem zE8K {f : Nat} {d0 c0 : Nat → Int32} : zE g (zK κ f d0 c0) μ ω 8 f 0 = .inl (gQ g 1, 30, .inl c0) := by simp only [zE, zK_8]
theorem zE_K {f : Nat} {d0 d1 c0 c1 : Nat → Int32} {t f' i : Nat} (h6 : f' = f → t = 6 → d1 0 = d0 0 ∧ d1 1 = d0 1 ∧ d1 2 = d0 2 ∧ d1 3 = d0 3 ∧ d1 4 = d0 4) (h9 : f' = f → t = 9 → ∀ w, w < 9 → bf d1 i w = bf d0 i w) (h8 : f' = f → t = 8 → c1 = c0) : zE g (zK κ f d1 c1) μ ω t f' i = zE g (zK κ f d0 c0) μ ω t f' i := by
  by_cases hf : f' = f
  · subst hf
    by_cases q6 : t = 6
    · subst q6
      obtain ⟨e0, e1, e2, e3, e4⟩ := h6 rfl rfl
      simp only [zE, zK_6, e0, e1, e2, e3, e4]
    · by_cases q9 : t = 9
      · subst q9
        have e1 := h9 rfl rfl
        simp only [zE, zL_K]
        rw [e1 0 (by decide), e1 1 (by decide), e1 2 (by decide), e1 3 (by decide), e1 4 (by decide), e1 5 (by decide), e1 6 (by decide), e1 7 (by decide), e1 8 (by decide)]
      · refine zE_k ?_ (fun h => absurd h q9)
        by_cases q8 : t = 8
        · subst q8; rw [zK_8, zK_8, h8 rfl rfl]
        · rw [zK_t ⟨q6, q8, q9⟩, zK_t ⟨q6, q8, q9⟩]
  · refine zE_k ?_ (fun _ => ?_)
    · rw [zK_o hf, zK_o hf]
    · rw [zK_o hf, zK_o hf]
theorem zgL_side (hX : zX p l s m args meth c R g own cc n ret lvl mc) {f i index : Nat} (hf : f < 11) (hi : i < 12) (hlink : Cond.fieldLink own index RX3 "side" "I" ∈ gW) (d : decode cc pc = .ok (.getfield index, 3)) (kk : zZ p l e R s m args below meth c g n Q κ μ ω k (pc + 3) lv (.int (zL κ f i 0) :: st)) : zZ p l e R s m args below meth c g n Q κ μ ω k pc lv (.ref (gA g 9 f i) :: st) := z_get hX (q := 1) (zV9 hf hi) rfl rfl win_X3 (by decide) rfl hlink rfl d kk
theorem zpL_side (hX : zX p l s m args meth c R g own cc n ret lvl mc) {f i index : Nat} {d0 c0 : Nat → Int32} {x : Int32} (hf : f < 11) (hi : i < 12) (hlink : Cond.fieldLink own index RX3 "side" "I" ∈ gW) (d : decode cc pc = .ok (.putfield index, 3)) (kk : zZ p l e R s m args below meth c g n Q (zK κ f (bs d0 i 0 x) c0) μ ω k (pc + 3) lv (st)) : zZ p l e R s m args below meth c g n Q (zK κ f d0 c0) μ ω k pc lv (.int x :: .ref (gA g 9 f i) :: st) := z_put hX (q := 1) (ty := .int) (zV9 hf hi) zE9K rfl win_X3 tyX3_ok nmX3 (by decide) rfl rfl hlink (by decide +kernel) rfl rfl (Nat.le_of_ble_eq_true rfl) (by rw [zE9K, bf_bs, bf_bsW (w' := 1) (by decide), bf_bsW (w' := 2) (by decide), bf_bsW (w' := 3) (by decide), bf_bsW (w' := 4) (by decide), bf_bsW (w' := 5) (by decide), bf_bsW (w' := 6) (by decide), bf_bsW (w' := 7) (by decide), bf_bsW (w' := 8) (by decide)]; rfl) (fun t' f' i' _ hn => zE_K (fun _ _ => ⟨bs_lo (by decide), bs_lo (by decide), bs_lo (by decide), bs_lo (by decide), bs_lo (by decide)⟩) (fun h1 h2 w' hw' => bf_bsI (by decide) hw' (fun e => hn ⟨h2, h1, e⟩)) (fun _ _ => rfl)) d kk
theorem zgL_lane (hX : zX p l s m args meth c R g own cc n ret lvl mc) {f i index : Nat} (hf : f < 11) (hi : i < 12) (hlink : Cond.fieldLink own index RX3 "lane" "I" ∈ gW) (d : decode cc pc = .ok (.getfield index, 3)) (kk : zZ p l e R s m args below meth c g n Q κ μ ω k (pc + 3) lv (.int (zL κ f i 1) :: st)) : zZ p l e R s m args below meth c g n Q κ μ ω k pc lv (.ref (gA g 9 f i) :: st) := z_get hX (q := 2) (zV9 hf hi) rfl rfl win_X3 (by decide) rfl hlink rfl d kk
theorem zpL_lane (hX : zX p l s m args meth c R g own cc n ret lvl mc) {f i index : Nat} {d0 c0 : Nat → Int32} {x : Int32} (hf : f < 11) (hi : i < 12) (hlink : Cond.fieldLink own index RX3 "lane" "I" ∈ gW) (d : decode cc pc = .ok (.putfield index, 3)) (kk : zZ p l e R s m args below meth c g n Q (zK κ f (bs d0 i 1 x) c0) μ ω k (pc + 3) lv (st)) : zZ p l e R s m args below meth c g n Q (zK κ f d0 c0) μ ω k pc lv (.int x :: .ref (gA g 9 f i) :: st) := z_put hX (q := 2) (ty := .int) (zV9 hf hi) zE9K rfl win_X3 tyX3_ok nmX3 (by decide) rfl rfl hlink (by decide +kernel) rfl rfl (Nat.le_of_ble_eq_true rfl) (by rw [zE9K, bf_bs, bf_bsW (w' := 0) (by decide), bf_bsW (w' := 2) (by decide), bf_bsW (w' := 3) (by decide), bf_bsW (w' := 4) (by decide), bf_bsW (w' := 5) (by decide), bf_bsW (w' := 6) (by decide), bf_bsW (w' := 7) (by decide), bf_bsW (w' := 8) (by decide)]; rfl) (fun t' f' i' _ hn => zE_K (fun _ _ => ⟨bs_lo (by decide), bs_lo (by decide), bs_lo (by decide), bs_lo (by decide), bs_lo (by decide)⟩) (fun h1 h2 w' hw' => bf_bsI (by decide) hw' (fun e => hn ⟨h2, h1, e⟩)) (fun _ _ => rfl)) d kk
theorem zgL_column (hX : zX p l s m args meth c R g own cc n ret lvl mc) {f i index : Nat} (hf : f < 11) (hi : i < 12) (hlink : Cond.fieldLink own index RX3 "column" "I" ∈ gW) (d : decode cc pc = .ok (.getfield index, 3)) (kk : zZ p l e R s m args below meth c g n Q κ μ ω k (pc + 3) lv (.int (zL κ f i 2) :: st)) : zZ p l e R s m args below meth c g n Q κ μ ω k pc lv (.ref (gA g 9 f i) :: st) := z_get hX (q := 3) (zV9 hf hi) rfl rfl win_X3 (by decide) rfl hlink rfl d kk
theorem zpL_column (hX : zX p l s m args meth c R g own cc n ret lvl mc) {f i index : Nat} {d0 c0 : Nat → Int32} {x : Int32} (hf : f < 11) (hi : i < 12) (hlink : Cond.fieldLink own index RX3 "column" "I" ∈ gW) (d : decode cc pc = .ok (.putfield index, 3)) (kk : zZ p l e R s m args below meth c g n Q (zK κ f (bs d0 i 2 x) c0) μ ω k (pc + 3) lv (st)) : zZ p l e R s m args below meth c g n Q (zK κ f d0 c0) μ ω k pc lv (.int x :: .ref (gA g 9 f i) :: st) := z_put hX (q := 3) (ty := .int) (zV9 hf hi) zE9K rfl win_X3 tyX3_ok nmX3 (by decide) rfl rfl hlink (by decide +kernel) rfl rfl (Nat.le_of_ble_eq_true rfl) (by rw [zE9K, bf_bs, bf_bsW (w' := 0) (by decide), bf_bsW (w' := 1) (by decide), bf_bsW (w' := 3) (by decide), bf_bsW (w' := 4) (by decide), bf_bsW (w' := 5) (by decide), bf_bsW (w' := 6) (by decide), bf_bsW (w' := 7) (by decide), bf_bsW (w' := 8) (by decide)]; rfl) (fun t' f' i' _ hn => zE_K (fun _ _ => ⟨bs_lo (by decide), bs_lo (by decide), bs_lo (by decide), bs_lo (by decide), bs_lo (by decide)⟩) (fun h1 h2 w' hw' => bf_bsI (by decide) hw' (fun e => hn ⟨h2, h1, e⟩)) (fun _ _ => rfl)) d kk
theorem zgL_kind (hX : zX p l s m args meth c R g own cc n ret lvl mc) {f i index : Nat} (hf : f < 11) (hi : i < 12) (hlink : Cond.fieldLink own index RX3 "kind" "C" ∈ gW) (d : decode cc pc = .ok (.getfield index, 3)) (kk : zZ p l e R s m args below meth c g n Q κ μ ω k (pc + 3) lv (.int (zL κ f i 3) :: st)) : zZ p l e R s m args below meth c g n Q κ μ ω k pc lv (.ref (gA g 9 f i) :: st) := z_get hX (q := 4) (zV9 hf hi) rfl rfl win_X3 (by decide) rfl hlink rfl d kk
theorem zpL_kind (hX : zX p l s m args meth c R g own cc n ret lvl mc) {f i index : Nat} {d0 c0 : Nat → Int32} {x : Int32} (hf : f < 11) (hi : i < 12) (hnv : chW x) (hlink : Cond.fieldLink own index RX3 "kind" "C" ∈ gW) (d : decode cc pc = .ok (.putfield index, 3)) (kk : zZ p l e R s m args below meth c g n Q (zK κ f (bs d0 i 3 x) c0) μ ω k (pc + 3) lv (st)) : zZ p l e R s m args below meth c g n Q (zK κ f d0 c0) μ ω k pc lv (.int x :: .ref (gA g 9 f i) :: st) := z_put hX (q := 4) (ty := .char) (zV9 hf hi) zE9K rfl win_X3 tyX3_ok nmX3 (by decide) rfl rfl hlink (by decide +kernel) hnv.1 hnv.2 (Nat.le_of_ble_eq_true rfl) (by rw [zE9K, bf_bs, bf_bsW (w' := 0) (by decide), bf_bsW (w' := 1) (by decide), bf_bsW (w' := 2) (by decide), bf_bsW (w' := 4) (by decide), bf_bsW (w' := 5) (by decide), bf_bsW (w' := 6) (by decide), bf_bsW (w' := 7) (by decide), bf_bsW (w' := 8) (by decide)]; rfl) (fun t' f' i' _ hn => zE_K (fun _ _ => ⟨bs_lo (by decide), bs_lo (by decide), bs_lo (by decide), bs_lo (by decide), bs_lo (by decide)⟩) (fun h1 h2 w' hw' => bf_bsI (by decide) hw' (fun e => hn ⟨h2, h1, e⟩)) (fun _ _ => rfl)) d kk
theorem zgL_order (hX : zX p l s m args meth c R g own cc n ret lvl mc) {f i index : Nat} (hf : f < 11) (hi : i < 12) (hlink : Cond.fieldLink own index RX3 "order" "C" ∈ gW) (d : decode cc pc = .ok (.getfield index, 3)) (kk : zZ p l e R s m args below meth c g n Q κ μ ω k (pc + 3) lv (.int (zL κ f i 6) :: st)) : zZ p l e R s m args below meth c g n Q κ μ ω k pc lv (.ref (gA g 9 f i) :: st) := z_get hX (q := 5) (zV9 hf hi) rfl rfl win_X3 (by decide) rfl hlink rfl d kk
theorem zpL_order (hX : zX p l s m args meth c R g own cc n ret lvl mc) {f i index : Nat} {d0 c0 : Nat → Int32} {x : Int32} (hf : f < 11) (hi : i < 12) (hnv : chW x) (hlink : Cond.fieldLink own index RX3 "order" "C" ∈ gW) (d : decode cc pc = .ok (.putfield index, 3)) (kk : zZ p l e R s m args below meth c g n Q (zK κ f (bs d0 i 6 x) c0) μ ω k (pc + 3) lv (st)) : zZ p l e R s m args below meth c g n Q (zK κ f d0 c0) μ ω k pc lv (.int x :: .ref (gA g 9 f i) :: st) := z_put hX (q := 5) (ty := .char) (zV9 hf hi) zE9K rfl win_X3 tyX3_ok nmX3 (by decide) rfl rfl hlink (by decide +kernel) hnv.1 hnv.2 (Nat.le_of_ble_eq_true rfl) (by rw [zE9K, bf_bs, bf_bsW (w' := 0) (by decide), bf_bsW (w' := 1) (by decide), bf_bsW (w' := 2) (by decide), bf_bsW (w' := 3) (by decide), bf_bsW (w' := 4) (by decide), bf_bsW (w' := 5) (by decide), bf_bsW (w' := 7) (by decide), bf_bsW (w' := 8) (by decide)]; rfl) (fun t' f' i' _ hn => zE_K (fun _ _ => ⟨bs_lo (by decide), bs_lo (by decide), bs_lo (by decide), bs_lo (by decide), bs_lo (by decide)⟩) (fun h1 h2 w' hw' => bf_bsI (by decide) hw' (fun e => hn ⟨h2, h1, e⟩)) (fun _ _ => rfl)) d kk
theorem zgL_strength (hX : zX p l s m args meth c R g own cc n ret lvl mc) {f i index : Nat} (hf : f < 11) (hi : i < 12) (hlink : Cond.fieldLink own index RX3 "strength" "I" ∈ gW) (d : decode cc pc = .ok (.getfield index, 3)) (kk : zZ p l e R s m args below meth c g n Q κ μ ω k (pc + 3) lv (.int (zL κ f i 4) :: st)) : zZ p l e R s m args below meth c g n Q κ μ ω k pc lv (.ref (gA g 9 f i) :: st) := z_get hX (q := 6) (zV9 hf hi) rfl rfl win_X3 (by decide) rfl hlink rfl d kk
theorem zpL_strength (hX : zX p l s m args meth c R g own cc n ret lvl mc) {f i index : Nat} {d0 c0 : Nat → Int32} {x : Int32} (hf : f < 11) (hi : i < 12) (hlink : Cond.fieldLink own index RX3 "strength" "I" ∈ gW) (d : decode cc pc = .ok (.putfield index, 3)) (kk : zZ p l e R s m args below meth c g n Q (zK κ f (bs d0 i 4 x) c0) μ ω k (pc + 3) lv (st)) : zZ p l e R s m args below meth c g n Q (zK κ f d0 c0) μ ω k pc lv (.int x :: .ref (gA g 9 f i) :: st) := z_put hX (q := 6) (ty := .int) (zV9 hf hi) zE9K rfl win_X3 tyX3_ok nmX3 (by decide) rfl rfl hlink (by decide +kernel) rfl rfl (Nat.le_of_ble_eq_true rfl) (by rw [zE9K, bf_bs, bf_bsW (w' := 0) (by decide), bf_bsW (w' := 1) (by decide), bf_bsW (w' := 2) (by decide), bf_bsW (w' := 3) (by decide), bf_bsW (w' := 5) (by decide), bf_bsW (w' := 6) (by decide), bf_bsW (w' := 7) (by decide), bf_bsW (w' := 8) (by decide)]; rfl) (fun t' f' i' _ hn => zE_K (fun _ _ => ⟨bs_lo (by decide), bs_lo (by decide), bs_lo (by decide), bs_lo (by decide), bs_lo (by decide)⟩) (fun h1 h2 w' hw' => bf_bsI (by decide) hw' (fun e => hn ⟨h2, h1, e⟩)) (fun _ _ => rfl)) d kk
theorem zgL_morale (hX : zX p l s m args meth c R g own cc n ret lvl mc) {f i index : Nat} (hf : f < 11) (hi : i < 12) (hlink : Cond.fieldLink own index RX3 "morale" "I" ∈ gW) (d : decode cc pc = .ok (.getfield index, 3)) (kk : zZ p l e R s m args below meth c g n Q κ μ ω k (pc + 3) lv (.int (zL κ f i 5) :: st)) : zZ p l e R s m args below meth c g n Q κ μ ω k pc lv (.ref (gA g 9 f i) :: st) := z_get hX (q := 7) (zV9 hf hi) rfl rfl win_X3 (by decide) rfl hlink rfl d kk
theorem zpL_morale (hX : zX p l s m args meth c R g own cc n ret lvl mc) {f i index : Nat} {d0 c0 : Nat → Int32} {x : Int32} (hf : f < 11) (hi : i < 12) (hlink : Cond.fieldLink own index RX3 "morale" "I" ∈ gW) (d : decode cc pc = .ok (.putfield index, 3)) (kk : zZ p l e R s m args below meth c g n Q (zK κ f (bs d0 i 5 x) c0) μ ω k (pc + 3) lv (st)) : zZ p l e R s m args below meth c g n Q (zK κ f d0 c0) μ ω k pc lv (.int x :: .ref (gA g 9 f i) :: st) := z_put hX (q := 7) (ty := .int) (zV9 hf hi) zE9K rfl win_X3 tyX3_ok nmX3 (by decide) rfl rfl hlink (by decide +kernel) rfl rfl (Nat.le_of_ble_eq_true rfl) (by rw [zE9K, bf_bs, bf_bsW (w' := 0) (by decide), bf_bsW (w' := 1) (by decide), bf_bsW (w' := 2) (by decide), bf_bsW (w' := 3) (by decide), bf_bsW (w' := 4) (by decide), bf_bsW (w' := 6) (by decide), bf_bsW (w' := 7) (by decide), bf_bsW (w' := 8) (by decide)]; rfl) (fun t' f' i' _ hn => zE_K (fun _ _ => ⟨bs_lo (by decide), bs_lo (by decide), bs_lo (by decide), bs_lo (by decide), bs_lo (by decide)⟩) (fun h1 h2 w' hw' => bf_bsI (by decide) hw' (fun e => hn ⟨h2, h1, e⟩)) (fun _ _ => rfl)) d kk
theorem zgL_condition (hX : zX p l s m args meth c R g own cc n ret lvl mc) {f i index : Nat} (hf : f < 11) (hi : i < 12) (hlink : Cond.fieldLink own index RX3 "condition" "I" ∈ gW) (d : decode cc pc = .ok (.getfield index, 3)) (kk : zZ p l e R s m args below meth c g n Q κ μ ω k (pc + 3) lv (.int (zL κ f i 7) :: st)) : zZ p l e R s m args below meth c g n Q κ μ ω k pc lv (.ref (gA g 9 f i) :: st) := z_get hX (q := 8) (zV9 hf hi) rfl rfl win_X3 (by decide) rfl hlink rfl d kk
theorem zpL_condition (hX : zX p l s m args meth c R g own cc n ret lvl mc) {f i index : Nat} {d0 c0 : Nat → Int32} {x : Int32} (hf : f < 11) (hi : i < 12) (hlink : Cond.fieldLink own index RX3 "condition" "I" ∈ gW) (d : decode cc pc = .ok (.putfield index, 3)) (kk : zZ p l e R s m args below meth c g n Q (zK κ f (bs d0 i 7 x) c0) μ ω k (pc + 3) lv (st)) : zZ p l e R s m args below meth c g n Q (zK κ f d0 c0) μ ω k pc lv (.int x :: .ref (gA g 9 f i) :: st) := z_put hX (q := 8) (ty := .int) (zV9 hf hi) zE9K rfl win_X3 tyX3_ok nmX3 (by decide) rfl rfl hlink (by decide +kernel) rfl rfl (Nat.le_of_ble_eq_true rfl) (by rw [zE9K, bf_bs, bf_bsW (w' := 0) (by decide), bf_bsW (w' := 1) (by decide), bf_bsW (w' := 2) (by decide), bf_bsW (w' := 3) (by decide), bf_bsW (w' := 4) (by decide), bf_bsW (w' := 5) (by decide), bf_bsW (w' := 6) (by decide), bf_bsW (w' := 8) (by decide)]; rfl) (fun t' f' i' _ hn => zE_K (fun _ _ => ⟨bs_lo (by decide), bs_lo (by decide), bs_lo (by decide), bs_lo (by decide), bs_lo (by decide)⟩) (fun h1 h2 w' hw' => bf_bsI (by decide) hw' (fun e => hn ⟨h2, h1, e⟩)) (fun _ _ => rfl)) d kk
theorem zgL_turnsRouted (hX : zX p l s m args meth c R g own cc n ret lvl mc) {f i index : Nat} (hf : f < 11) (hi : i < 12) (hlink : Cond.fieldLink own index RX3 "turnsRouted" "I" ∈ gW) (d : decode cc pc = .ok (.getfield index, 3)) (kk : zZ p l e R s m args below meth c g n Q κ μ ω k (pc + 3) lv (.int (zL κ f i 8) :: st)) : zZ p l e R s m args below meth c g n Q κ μ ω k pc lv (.ref (gA g 9 f i) :: st) := z_get hX (q := 9) (zV9 hf hi) rfl rfl win_X3 (by decide) rfl hlink rfl d kk
theorem zpL_turnsRouted (hX : zX p l s m args meth c R g own cc n ret lvl mc) {f i index : Nat} {d0 c0 : Nat → Int32} {x : Int32} (hf : f < 11) (hi : i < 12) (hlink : Cond.fieldLink own index RX3 "turnsRouted" "I" ∈ gW) (d : decode cc pc = .ok (.putfield index, 3)) (kk : zZ p l e R s m args below meth c g n Q (zK κ f (bs d0 i 8 x) c0) μ ω k (pc + 3) lv (st)) : zZ p l e R s m args below meth c g n Q (zK κ f d0 c0) μ ω k pc lv (.int x :: .ref (gA g 9 f i) :: st) := z_put hX (q := 9) (ty := .int) (zV9 hf hi) zE9K rfl win_X3 tyX3_ok nmX3 (by decide) rfl rfl hlink (by decide +kernel) rfl rfl (Nat.le_of_ble_eq_true rfl) (by rw [zE9K, bf_bs, bf_bsW (w' := 0) (by decide), bf_bsW (w' := 1) (by decide), bf_bsW (w' := 2) (by decide), bf_bsW (w' := 3) (by decide), bf_bsW (w' := 4) (by decide), bf_bsW (w' := 5) (by decide), bf_bsW (w' := 6) (by decide), bf_bsW (w' := 7) (by decide)]; rfl) (fun t' f' i' _ hn => zE_K (fun _ _ => ⟨bs_lo (by decide), bs_lo (by decide), bs_lo (by decide), bs_lo (by decide), bs_lo (by decide)⟩) (fun h1 h2 w' hw' => bf_bsI (by decide) hw' (fun e => hn ⟨h2, h1, e⟩)) (fun _ _ => rfl)) d kk
theorem zgF_lines (hX : zX p l s m args meth c R g own cc n ret lvl mc) {f index : Nat} (hf : f < 11) (hlink : Cond.fieldLink own index RX1 "lines" "[LLineBattle$Line;" ∈ gW) (d : decode cc pc = .ok (.getfield index, 3)) (kk : zZ p l e R s m args below meth c g n Q κ μ ω k (pc + 3) lv (.ref (gA g 7 f 0) :: st)) : zZ p l e R s m args below meth c g n Q κ μ ω k pc lv (.ref (gA g 6 f 0) :: st) := z_get hX (q := 0) (zV6 hf) rfl rfl win_X1 (by decide) rfl hlink rfl d kk
theorem zgF_cells (hX : zX p l s m args meth c R g own cc n ret lvl mc) {f index : Nat} (hf : f < 11) (hlink : Cond.fieldLink own index RX1 "cells" "[I" ∈ gW) (d : decode cc pc = .ok (.getfield index, 3)) (kk : zZ p l e R s m args below meth c g n Q κ μ ω k (pc + 3) lv (.ref (gA g 8 f 0) :: st)) : zZ p l e R s m args below meth c g n Q κ μ ω k pc lv (.ref (gA g 6 f 0) :: st) := z_get hX (q := 1) (zV6 hf) rfl rfl win_X1 (by decide) rfl hlink rfl d kk
theorem zgF_count (hX : zX p l s m args meth c R g own cc n ret lvl mc) {f index : Nat} (hf : f < 11) (hlink : Cond.fieldLink own index RX1 "count" "I" ∈ gW) (d : decode cc pc = .ok (.getfield index, 3)) (kk : zZ p l e R s m args below meth c g n Q κ μ ω k (pc + 3) lv (.int (κ 6 f 0) :: st)) : zZ p l e R s m args below meth c g n Q κ μ ω k pc lv (.ref (gA g 6 f 0) :: st) := z_get hX (q := 2) (zV6 hf) rfl rfl win_X1 (by decide) rfl hlink rfl d kk
theorem zpF_count (hX : zX p l s m args meth c R g own cc n ret lvl mc) {f index : Nat} {d0 c0 : Nat → Int32} {x : Int32} (hf : f < 11) (hlink : Cond.fieldLink own index RX1 "count" "I" ∈ gW) (d : decode cc pc = .ok (.putfield index, 3)) (kk : zZ p l e R s m args below meth c g n Q (zK κ f (upd d0 0 x) c0) μ ω k (pc + 3) lv (st)) : zZ p l e R s m args below meth c g n Q (zK κ f d0 c0) μ ω k pc lv (.int x :: .ref (gA g 6 f 0) :: st) := z_put hX (κ' := zK κ f (upd d0 0 x) c0) (q := 2) (ty := .int) (zV6 hf) zE6K rfl win_X1 tyX1_ok nmX1 (by decide) rfl rfl hlink (by decide +kernel) rfl rfl (Nat.le_of_ble_eq_true rfl) (by rw [zE6K]; rfl) (fun t' f' i' hv hn => zE_K (fun h1 h2 => absurd ⟨h2, h1, zV_i0 hv (by omega)⟩ hn) (fun _ _ w' _ => by unfold bf upd; rw [if_neg (by omega)]) (fun _ _ => rfl)) d kk
theorem zgF_turns (hX : zX p l s m args meth c R g own cc n ret lvl mc) {f index : Nat} (hf : f < 11) (hlink : Cond.fieldLink own index RX1 "turns" "I" ∈ gW) (d : decode cc pc = .ok (.getfield index, 3)) (kk : zZ p l e R s m args below meth c g n Q κ μ ω k (pc + 3) lv (.int (κ 6 f 1) :: st)) : zZ p l e R s m args below meth c g n Q κ μ ω k pc lv (.ref (gA g 6 f 0) :: st) := z_get hX (q := 3) (zV6 hf) rfl rfl win_X1 (by decide) rfl hlink rfl d kk
theorem zpF_turns (hX : zX p l s m args meth c R g own cc n ret lvl mc) {f index : Nat} {d0 c0 : Nat → Int32} {x : Int32} (hf : f < 11) (hlink : Cond.fieldLink own index RX1 "turns" "I" ∈ gW) (d : decode cc pc = .ok (.putfield index, 3)) (kk : zZ p l e R s m args below meth c g n Q (zK κ f (upd d0 1 x) c0) μ ω k (pc + 3) lv (st)) : zZ p l e R s m args below meth c g n Q (zK κ f d0 c0) μ ω k pc lv (.int x :: .ref (gA g 6 f 0) :: st) := z_put hX (κ' := zK κ f (upd d0 1 x) c0) (q := 3) (ty := .int) (zV6 hf) zE6K rfl win_X1 tyX1_ok nmX1 (by decide) rfl rfl hlink (by decide +kernel) rfl rfl (Nat.le_of_ble_eq_true rfl) (by rw [zE6K]; rfl) (fun t' f' i' hv hn => zE_K (fun h1 h2 => absurd ⟨h2, h1, zV_i0 hv (by omega)⟩ hn) (fun _ _ w' _ => by unfold bf upd; rw [if_neg (by omega)]) (fun _ _ => rfl)) d kk
theorem zgF_fights (hX : zX p l s m args meth c R g own cc n ret lvl mc) {f index : Nat} (hf : f < 11) (hlink : Cond.fieldLink own index RX1 "fights" "I" ∈ gW) (d : decode cc pc = .ok (.getfield index, 3)) (kk : zZ p l e R s m args below meth c g n Q κ μ ω k (pc + 3) lv (.int (κ 6 f 2) :: st)) : zZ p l e R s m args below meth c g n Q κ μ ω k pc lv (.ref (gA g 6 f 0) :: st) := z_get hX (q := 4) (zV6 hf) rfl rfl win_X1 (by decide) rfl hlink rfl d kk
theorem zpF_fights (hX : zX p l s m args meth c R g own cc n ret lvl mc) {f index : Nat} {d0 c0 : Nat → Int32} {x : Int32} (hf : f < 11) (hlink : Cond.fieldLink own index RX1 "fights" "I" ∈ gW) (d : decode cc pc = .ok (.putfield index, 3)) (kk : zZ p l e R s m args below meth c g n Q (zK κ f (upd d0 2 x) c0) μ ω k (pc + 3) lv (st)) : zZ p l e R s m args below meth c g n Q (zK κ f d0 c0) μ ω k pc lv (.int x :: .ref (gA g 6 f 0) :: st) := z_put hX (κ' := zK κ f (upd d0 2 x) c0) (q := 4) (ty := .int) (zV6 hf) zE6K rfl win_X1 tyX1_ok nmX1 (by decide) rfl rfl hlink (by decide +kernel) rfl rfl (Nat.le_of_ble_eq_true rfl) (by rw [zE6K]; rfl) (fun t' f' i' hv hn => zE_K (fun h1 h2 => absurd ⟨h2, h1, zV_i0 hv (by omega)⟩ hn) (fun _ _ w' _ => by unfold bf upd; rw [if_neg (by omega)]) (fun _ _ => rfl)) d kk
theorem zgF_jarsOfFirst (hX : zX p l s m args meth c R g own cc n ret lvl mc) {f index : Nat} (hf : f < 11) (hlink : Cond.fieldLink own index RX1 "jarsOfFirst" "I" ∈ gW) (d : decode cc pc = .ok (.getfield index, 3)) (kk : zZ p l e R s m args below meth c g n Q κ μ ω k (pc + 3) lv (.int (κ 6 f 3) :: st)) : zZ p l e R s m args below meth c g n Q κ μ ω k pc lv (.ref (gA g 6 f 0) :: st) := z_get hX (q := 5) (zV6 hf) rfl rfl win_X1 (by decide) rfl hlink rfl d kk
theorem zpF_jarsOfFirst (hX : zX p l s m args meth c R g own cc n ret lvl mc) {f index : Nat} {d0 c0 : Nat → Int32} {x : Int32} (hf : f < 11) (hlink : Cond.fieldLink own index RX1 "jarsOfFirst" "I" ∈ gW) (d : decode cc pc = .ok (.putfield index, 3)) (kk : zZ p l e R s m args below meth c g n Q (zK κ f (upd d0 3 x) c0) μ ω k (pc + 3) lv (st)) : zZ p l e R s m args below meth c g n Q (zK κ f d0 c0) μ ω k pc lv (.int x :: .ref (gA g 6 f 0) :: st) := z_put hX (κ' := zK κ f (upd d0 3 x) c0) (q := 5) (ty := .int) (zV6 hf) zE6K rfl win_X1 tyX1_ok nmX1 (by decide) rfl rfl hlink (by decide +kernel) rfl rfl (Nat.le_of_ble_eq_true rfl) (by rw [zE6K]; rfl) (fun t' f' i' hv hn => zE_K (fun h1 h2 => absurd ⟨h2, h1, zV_i0 hv (by omega)⟩ hn) (fun _ _ w' _ => by unfold bf upd; rw [if_neg (by omega)]) (fun _ _ => rfl)) d kk
theorem zgF_jarsOfSecond (hX : zX p l s m args meth c R g own cc n ret lvl mc) {f index : Nat} (hf : f < 11) (hlink : Cond.fieldLink own index RX1 "jarsOfSecond" "I" ∈ gW) (d : decode cc pc = .ok (.getfield index, 3)) (kk : zZ p l e R s m args below meth c g n Q κ μ ω k (pc + 3) lv (.int (κ 6 f 4) :: st)) : zZ p l e R s m args below meth c g n Q κ μ ω k pc lv (.ref (gA g 6 f 0) :: st) := z_get hX (q := 6) (zV6 hf) rfl rfl win_X1 (by decide) rfl hlink rfl d kk
theorem zpF_jarsOfSecond (hX : zX p l s m args meth c R g own cc n ret lvl mc) {f index : Nat} {d0 c0 : Nat → Int32} {x : Int32} (hf : f < 11) (hlink : Cond.fieldLink own index RX1 "jarsOfSecond" "I" ∈ gW) (d : decode cc pc = .ok (.putfield index, 3)) (kk : zZ p l e R s m args below meth c g n Q (zK κ f (upd d0 4 x) c0) μ ω k (pc + 3) lv (st)) : zZ p l e R s m args below meth c g n Q (zK κ f d0 c0) μ ω k pc lv (.int x :: .ref (gA g 6 f 0) :: st) := z_put hX (κ' := zK κ f (upd d0 4 x) c0) (q := 6) (ty := .int) (zV6 hf) zE6K rfl win_X1 tyX1_ok nmX1 (by decide) rfl rfl hlink (by decide +kernel) rfl rfl (Nat.le_of_ble_eq_true rfl) (by rw [zE6K]; rfl) (fun t' f' i' hv hn => zE_K (fun h1 h2 => absurd ⟨h2, h1, zV_i0 hv (by omega)⟩ hn) (fun _ _ w' _ => by unfold bf upd; rw [if_neg (by omega)]) (fun _ _ => rfl)) d kk
theorem zl8K (hX : zX p l s m args meth c R g own cc n ret lvl mc) {f : Nat} (hf : f < 11) (d : decode cc pc = .ok (.arraylength, 1)) (kk : zZ p l e R s m args below meth c g n Q κ μ ω k (pc + 1) lv (.int 30 :: st)) : zZ p l e R s m args below meth c g n Q κ μ ω k pc lv (.ref (gA g 8 f 0) :: st) := z_alen hX (t0 := 1) (zV8 hf) rfl rfl rfl d kk
theorem za8K (hX : zX p l s m args meth c R g own cc n ret lvl mc) {f q : Nat} {j : Int32} (hf : f < 11) (hj : j = nI q) (hq : q < 30) (d : decode cc pc = .ok (.iaload, 1)) (kk : zZ p l e R s m args below meth c g n Q κ μ ω k (pc + 1) lv (.int (κ 8 f q) :: st)) : zZ p l e R s m args below meth c g n Q κ μ ω k pc lv (.int j :: .ref (gA g 8 f 0) :: st) := by
  subst hj
  refine z_iald hX (t0 := 1) (zV8 hf) rfl rfl (vp_in_nI hq (by decide)) d ?_
  rw [nI_clamp (by omega)]
  exact kk
theorem zs8K (hX : zX p l s m args meth c R g own cc n ret lvl mc) {f q : Nat} {d0 c0 : Nat → Int32} {j x : Int32} (hf : f < 11) (hj : j = nI q) (hq : q < 30) (d : decode cc pc = .ok (.iastore, 1)) (kk : zZ p l e R s m args below meth c g n Q (zK κ f d0 (upd c0 q x)) μ ω k (pc + 1) lv (st)) : zZ p l e R s m args below meth c g n Q (zK κ f d0 c0) μ ω k pc lv (.int x :: .int j :: .ref (gA g 8 f 0) :: st) := by
  subst hj
  refine z_iast hX (t0 := 1) (κ' := zK κ f d0 (upd c0 q x)) (zV8 hf) zE8K rfl (vp_in_nI hq (by decide)) (by rw [zE8K, nI_clamp (by omega)]) (fun t' f' i' hv hn => zE_K (fun _ _ => ⟨rfl, rfl, rfl, rfl, rfl⟩) (fun _ _ _ _ => rfl) (fun h1 h2 => absurd ⟨h2, h1, zV_i0 hv (by omega)⟩ hn)) d kk
end ZKR
section ZKP
theorem zV_9 {f i : Nat} (h : zV 9 f i) : i < 12 := by
  have key : ∀ q ∈ zIdx, q.1 = 9 → q.2.2 < 12 := by decide +kernel
  exact key _ h rfl
def lnC (d0 : zB) (i : Nat) (v : Nat → Int32) : zB := bs (bs (bs (bs (bs (bs (bs (bs (bs d0 i 0 (v 0)) i 1 (v 1)) i 2 (v 2)) i 3 (v 3)) i 6 (v 6)) i 4 (v 4)) i 5 (v 5)) i 7 (v 7)) i 8 (v 8)
theorem lnC_at {d0 : zB} {i w : Nat} {v : Nat → Int32} (hw : w < 9) : bf (lnC d0 i v) i w = v w := by
  have h : w = 0 ∨ w = 1 ∨ w = 2 ∨ w = 3 ∨ w = 4 ∨ w = 5 ∨ w = 6 ∨ w = 7 ∨ w = 8 := by omega
  rcases h with rfl | rfl | rfl | rfl | rfl | rfl | rfl | rfl | rfl
  · rw [lnC, bf_bsW (by decide : ¬ 0 = 8), bf_bsW (by decide : ¬ 0 = 7), bf_bsW (by decide : ¬ 0 = 5), bf_bsW (by decide : ¬ 0 = 4), bf_bsW (by decide : ¬ 0 = 6), bf_bsW (by decide : ¬ 0 = 3), bf_bsW (by decide : ¬ 0 = 2), bf_bsW (by decide : ¬ 0 = 1), bf_bs]
  · rw [lnC, bf_bsW (by decide : ¬ 1 = 8), bf_bsW (by decide : ¬ 1 = 7), bf_bsW (by decide : ¬ 1 = 5), bf_bsW (by decide : ¬ 1 = 4), bf_bsW (by decide : ¬ 1 = 6), bf_bsW (by decide : ¬ 1 = 3), bf_bsW (by decide : ¬ 1 = 2), bf_bs]
  · rw [lnC, bf_bsW (by decide : ¬ 2 = 8), bf_bsW (by decide : ¬ 2 = 7), bf_bsW (by decide : ¬ 2 = 5), bf_bsW (by decide : ¬ 2 = 4), bf_bsW (by decide : ¬ 2 = 6), bf_bsW (by decide : ¬ 2 = 3), bf_bs]
  · rw [lnC, bf_bsW (by decide : ¬ 3 = 8), bf_bsW (by decide : ¬ 3 = 7), bf_bsW (by decide : ¬ 3 = 5), bf_bsW (by decide : ¬ 3 = 4), bf_bsW (by decide : ¬ 3 = 6), bf_bs]
  · rw [lnC, bf_bsW (by decide : ¬ 4 = 8), bf_bsW (by decide : ¬ 4 = 7), bf_bsW (by decide : ¬ 4 = 5), bf_bs]
  · rw [lnC, bf_bsW (by decide : ¬ 5 = 8), bf_bsW (by decide : ¬ 5 = 7), bf_bs]
  · rw [lnC, bf_bsW (by decide : ¬ 6 = 8), bf_bsW (by decide : ¬ 6 = 7), bf_bsW (by decide : ¬ 6 = 5), bf_bsW (by decide : ¬ 6 = 4), bf_bs]
  · rw [lnC, bf_bsW (by decide : ¬ 7 = 8), bf_bs]
  · rw [lnC, bf_bs]
theorem lnC_ne {d0 : zB} {i j w : Nat} {v : Nat → Int32} (hw : w < 9) (h : ¬ j = i) : bf (lnC d0 i v) j w = bf d0 j w := by
  rw [lnC, bf_bsI (by decide) hw h, bf_bsI (by decide) hw h, bf_bsI (by decide) hw h, bf_bsI (by decide) hw h, bf_bsI (by decide) hw h, bf_bsI (by decide) hw h, bf_bsI (by decide) hw h, bf_bsI (by decide) hw h, bf_bsI (by decide) hw h]
theorem lnC_lo {d0 : zB} {i q : Nat} {v : Nat → Int32} (h : q < 5) : lnC d0 i v q = d0 q := by
  rw [lnC, bs_lo h, bs_lo h, bs_lo h, bs_lo h, bs_lo h, bs_lo h, bs_lo h, bs_lo h, bs_lo h]
def dN (u : Nat → Nat → Int32) (d0 : zB) : Nat → zB
  | 0 => d0
  | k + 1 => lnC (dN u d0 k) k (u k)
theorem dN_at {u : Nat → Nat → Int32} {d0 : zB} : ∀ (k i w : Nat), i < k → w < 9 → bf (dN u d0 k) i w = u i w
  | 0, _, _, h, _ => absurd h (Nat.not_lt_zero _)
  | k + 1, i, w, h, hw => by
    by_cases e : i = k
    · subst e; exact lnC_at hw
    · rw [dN, lnC_ne hw e]; exact dN_at k i w (by omega) hw
def cN (u c0 : Nat → Int32) : Nat → Nat → Int32
  | 0 => c0
  | k + 1 => upd (cN u c0 k) k (u k)
theorem cN_at {u c0 : Nat → Int32} : ∀ (k q : Nat), q < k → cN u c0 k q = u q
  | 0, _, h => absurd h (Nat.not_lt_zero _)
  | k + 1, q, h => by
    unfold cN upd
    by_cases e : q = k
    · rw [if_pos e, e]
    · rw [if_neg e]; exact cN_at k q (by omega)
/-- field f holds what field f2 holds -/
def zCp (κ : zKp) (f f2 : Nat) : zKp := fun t f' => if f' = f ∧ (t = 6 ∨ t = 8 ∨ t = 9) then κ t f2 else κ t f'
theorem zCp_s {κ : zKp} {f f2 t : Nat} (h : t = 6 ∨ t = 8 ∨ t = 9) : zCp κ f f2 t f = κ t f2 := if_pos ⟨rfl, h⟩
theorem zCp_o {κ : zKp} {f f2 t f' : Nat} (h : ¬ f' = f) : zCp κ f f2 t f' = κ t f' := if_neg (fun q => h q.1)
theorem zCp_t {κ : zKp} {f f2 t f' : Nat} (h : ¬ (t = 6 ∨ t = 8 ∨ t = 9)) : zCp κ f f2 t f' = κ t f' := if_neg (fun q => h q.2)
/-- a field as it stands, all its lines in one row -/
def rwB (κ : zKp) (f : Nat) : zB := fun q => if q < 5 then κ 6 f q else zL κ f ((q - 5) / 9) ((q - 5) % 9)
theorem rwB_at {κ : zKp} {f i w : Nat} (hw : w < 9) : bf (rwB κ f) i w = zL κ f i w := by
  unfold bf rwB
  rw [if_neg (by omega), show (5 + 9 * i + w - 5) / 9 = i by omega, show (5 + 9 * i + w - 5) % 9 = w by omega]
theorem W_in {g : zG} {κ : zKp} {μ : zMu} {ω : zOm} {f : Nat} {H : Heap} (h : WW g κ μ ω H) : WW g (zK κ f (rwB κ f) (κ 8 f)) μ ω H := by
  refine WW_ext (fun t f' i hv => Or.inl ?_) h
  by_cases hf : f' = f
  · subst hf
    by_cases q6 : t = 6
    · subst q6; rw [zV_i0 hv (by omega), zE6K]; rfl
    · by_cases q9 : t = 9
      · subst q9
        rw [zE9K, rwB_at (by decide), rwB_at (by decide), rwB_at (by decide), rwB_at (by decide), rwB_at (by decide), rwB_at (by decide), rwB_at (by decide), rwB_at (by decide), rwB_at (by decide)]; rfl
      · refine zE_k ?_ (fun h => absurd h q9)
        by_cases q8 : t = 8
        · subst q8; rw [zK_8]
        · rw [zK_t ⟨q6, q8, q9⟩]
  · exact zE_k (zK_o hf) (fun _ => zK_o hf)
theorem zL_Cp {κ : zKp} {f f2 i w : Nat} : zL (zCp κ f f2) f i w = zL κ f2 i w := by
  unfold zL
  rw [zCp_s (Or.inl rfl), zCp_s (Or.inr (Or.inr rfl))]
theorem W_out {g : zG} {κ : zKp} {μ : zMu} {ω : zOm} {f f2 : Nat} {d0 c0 : Nat → Int32} {H : Heap} (h6 : ∀ q, q < 5 → d0 q = κ 6 f2 q) (h9 : ∀ i w, i < 12 → w < 9 → bf d0 i w = zL κ f2 i w) (h8 : ∀ q, q < 30 → c0 q = κ 8 f2 q) (h : WW g (zK κ f d0 c0) μ ω H) : WW g (zCp κ f f2) μ ω H := by
  refine WW_ext (fun t f' i hv => ?_) h
  by_cases hf : f' = f
  · subst hf
    by_cases q8 : t = 8
    · subst q8
      refine Or.inr ⟨_, _, _, _, by rw [zV_i0 hv (by omega)]; exact zE8K, rfl, fun j hj => ?_⟩
      rw [zCp_s (Or.inr (Or.inl rfl)), h8 j hj]
    · refine Or.inl ?_
      by_cases q6 : t = 6
      · subst q6
        rw [zV_i0 hv (by omega), zE6K]
        simp only [zE, zCp_s (Or.inl (rfl : 6 = 6)), h6 0 (by decide), h6 1 (by decide), h6 2 (by decide), h6 3 (by decide), h6 4 (by decide)]
      · by_cases q9 : t = 9
        · subst q9
          have hi : i < 12 := zV_9 hv
          rw [zE9K]
          simp only [zE, zL_Cp, h9 i _ hi (by decide : 0 < 9), h9 i _ hi (by decide : 1 < 9), h9 i _ hi (by decide : 2 < 9), h9 i _ hi (by decide : 3 < 9), h9 i _ hi (by decide : 4 < 9), h9 i _ hi (by decide : 5 < 9), h9 i _ hi (by decide : 6 < 9), h9 i _ hi (by decide : 7 < 9), h9 i _ hi (by decide : 8 < 9)]
        · refine zE_k ?_ (fun h => absurd h q9)
          rw [zCp_t (by omega), zK_t ⟨q6, q8, q9⟩]
  · exact Or.inl (zE_k ((zCp_o hf).trans (zK_o hf).symm) (fun _ => (zCp_o hf).trans (zK_o hf).symm))
end ZKP
set_option maxHeartbeats 4000000 in
set_option maxRecDepth 100000 in
theorem ok_X3_copyFrom (l : Launch) {g : zG} {κ : zKp} {μ : zMu} {ω : zOm} {f f2 i : Nat} {d0 c0 : Nat → Int32} (hf : f < 11) (hf2 : f2 < 11) (hne : ¬ f2 = f) (hi : i < 12) (hk3 : chW (zL κ f2 i 3)) (hk6 : chW (zL κ f2 i 6)) : zM l g yX3_copyFrom cX3_copyFrom 2 none 1 0 [.ref (gA g 9 f i), .ref (gA g 9 f2 i)] (zK κ f d0 c0) μ ω (zK κ f (lnC d0 i (zL κ f2 i)) c0) μ ω none := by
  refine zM_of (by decide) (Nat.le_of_ble_eq_true rfl) (fun p e R s m args below meth c hX => ?_)
  show zZ p l e R s m args below meth c g 2 _ _ _ _ 0 0 [(0, .ref (gA g 9 f i)), (1, .ref (gA g 9 f2 i))] []
  refine z_aload_n hX dX3_copyFrom_0 0 rfl ?_
  refine z_aload_n hX dX3_copyFrom_1 1 rfl ?_
  refine zgL_side hX hf2 hi fl_RX3_9 dX3_copyFrom_2 ?_
  refine z_isv (zL_Ko hne) ?_
  refine zpL_side hX hf hi fl_RX3_9 dX3_copyFrom_5 ?_
  refine z_aload_n hX dX3_copyFrom_8 0 rfl ?_
  refine z_aload_n hX dX3_copyFrom_9 1 rfl ?_
  refine zgL_lane hX hf2 hi fl_RX3_15 dX3_copyFrom_10 ?_
  refine z_isv (zL_Ko hne) ?_
  refine zpL_lane hX hf hi fl_RX3_15 dX3_copyFrom_13 ?_
  refine z_aload_n hX dX3_copyFrom_16 0 rfl ?_
  refine z_aload_n hX dX3_copyFrom_17 1 rfl ?_
  refine zgL_column hX hf2 hi fl_RX3_18 dX3_copyFrom_18 ?_
  refine z_isv (zL_Ko hne) ?_
  refine zpL_column hX hf hi fl_RX3_18 dX3_copyFrom_21 ?_
  refine z_aload_n hX dX3_copyFrom_24 0 rfl ?_
  refine z_aload_n hX dX3_copyFrom_25 1 rfl ?_
  refine zgL_kind hX hf2 hi fl_RX3_21 dX3_copyFrom_26 ?_
  refine z_isv (zL_Ko hne) ?_
  refine zpL_kind hX hf hi hk3 fl_RX3_21 dX3_copyFrom_29 ?_
  refine z_aload_n hX dX3_copyFrom_32 0 rfl ?_
  refine z_aload_n hX dX3_copyFrom_33 1 rfl ?_
  refine zgL_order hX hf2 hi fl_RX3_25 dX3_copyFrom_34 ?_
  refine z_isv (zL_Ko hne) ?_
  refine zpL_order hX hf hi hk6 fl_RX3_25 dX3_copyFrom_37 ?_
  refine z_aload_n hX dX3_copyFrom_40 0 rfl ?_
  refine z_aload_n hX dX3_copyFrom_41 1 rfl ?_
  refine zgL_strength hX hf2 hi fl_RX3_28 dX3_copyFrom_42 ?_
  refine z_isv (zL_Ko hne) ?_
  refine zpL_strength hX hf hi fl_RX3_28 dX3_copyFrom_45 ?_
  refine z_aload_n hX dX3_copyFrom_48 0 rfl ?_
  refine z_aload_n hX dX3_copyFrom_49 1 rfl ?_
  refine zgL_morale hX hf2 hi fl_RX3_31 dX3_copyFrom_50 ?_
  refine z_isv (zL_Ko hne) ?_
  refine zpL_morale hX hf hi fl_RX3_31 dX3_copyFrom_53 ?_
  refine z_aload_n hX dX3_copyFrom_56 0 rfl ?_
  refine z_aload_n hX dX3_copyFrom_57 1 rfl ?_
  refine zgL_condition hX hf2 hi fl_RX3_34 dX3_copyFrom_58 ?_
  refine z_isv (zL_Ko hne) ?_
  refine zpL_condition hX hf hi fl_RX3_34 dX3_copyFrom_61 ?_
  refine z_aload_n hX dX3_copyFrom_64 0 rfl ?_
  refine z_aload_n hX dX3_copyFrom_65 1 rfl ?_
  refine zgL_turnsRouted hX hf2 hi fl_RX3_37 dX3_copyFrom_66 ?_
  refine z_isv (zL_Ko hne) ?_
  refine zpL_turnsRouted hX hf hi fl_RX3_37 dX3_copyFrom_69 ?_
  exact z_vret hX dX3_copyFrom_72 (by decide) (fun _ h => h)
theorem hdr_at {u d0 : Nat → Int32} {q : Nat} (hq : q < 5) : upd (upd (upd (upd (upd d0 0 (u 0)) 1 (u 1)) 2 (u 2)) 3 (u 3)) 4 (u 4) q = u q := by
  have h : q = 0 ∨ q = 1 ∨ q = 2 ∨ q = 3 ∨ q = 4 := by omega
  rcases h with rfl | rfl | rfl | rfl | rfl <;> rfl
theorem hdr_bf {u d0 : Nat → Int32} {i w : Nat} : bf (upd (upd (upd (upd (upd d0 0 (u 0)) 1 (u 1)) 2 (u 2)) 3 (u 3)) 4 (u 4)) i w = bf d0 i w := by
  rw [bf_upd (by decide), bf_upd (by decide), bf_upd (by decide), bf_upd (by decide), bf_upd (by decide)]
set_option maxHeartbeats 4000000 in
set_option maxRecDepth 100000 in
theorem ok_X1_copyFrom (l : Launch) {g : zG} {κ : zKp} {μ : zMu} {ω : zOm} {f f2 : Nat} (hf : f < 11) (hf2 : f2 < 11) (hne : ¬ f2 = f) (hch : ∀ i, i < 12 → chW (zL κ f2 i 3) ∧ chW (zL κ f2 i 6)) : zM l g yX1_copyFrom cX1_copyFrom 5 none 2 0 [.ref (gA g 6 f 0), .ref (gA g 6 f2 0)] κ μ ω (zCp κ f f2) μ ω none := by
  refine zM_of (by decide) (Nat.le_of_ble_eq_true rfl) (fun p e R s m args below meth c hX => ?_)
  show zZ p l e R s m args below meth c g 5 _ _ _ _ 0 0 [(0, .ref (gA g 6 f 0)), (1, .ref (gA g 6 f2 0))] []
  refine z_world (fun _ h => W_in (f := f) h) ?_
  refine z_iconst (v := 0) hX dX1_copyFrom_0 (by decide) ?_
  refine z_istore_n (lv' := [(2, _), (0, _), (1, _)]) hX dX1_copyFrom_1 (by decide) rfl ?_
  have hL : ∀ (dz : Nat) (k : Nat), 12 - k = dz → k ≤ 12 → zZ p l e R s m args below meth c g 5 (zQ g (zCp κ f f2) μ ω none below args s 0) (zK κ f (dN (zL κ f2) (rwB κ f) k) (κ 8 f)) μ ω 0 2 [(0, .ref (gA g 6 f 0)), (1, .ref (gA g 6 f2 0)), (2, .int (nI k))] [] := by
    intro dz
    induction dz with
    | zero =>
      intro k hd hk
      have hkn : k = 12 := by omega
      refine z_iload_n hX dX1_copyFrom_2 2 rfl ?_
      refine z_aload_n hX dX1_copyFrom_3 0 rfl ?_
      refine zgF_lines hX hf fl_RX1_11 dX1_copyFrom_4 ?_
      refine zl_lines hX hf dX1_copyFrom_7 ?_
      refine z_icmp_ge (tgt := 56) hX dX1_copyFrom_8 (by decide) (fun h8 => ?_) (fun h8 => absurd h8 (Classical.not_not.mpr (le_i (a := 12) (b := k) (by omega) (by omega))))
      subst hkn
      refine z_iconst (v := 0) hX dX1_copyFrom_56 (by decide) ?_
      refine z_istore_n (lv' := [(2, _), (0, _), (1, _)]) hX dX1_copyFrom_57 (by decide) rfl ?_
      have hL2 : ∀ (dz : Nat) (k : Nat), 30 - k = dz → k ≤ 30 → zZ p l e R s m args below meth c g 5 (zQ g (zCp κ f f2) μ ω none below args s 0) (zK κ f (dN (zL κ f2) (rwB κ f) 12) (cN (κ 8 f2) (κ 8 f) k)) μ ω 0 58 [(0, .ref (gA g 6 f 0)), (1, .ref (gA g 6 f2 0)), (2, .int (nI k))] [] := by
        intro dz
        induction dz with
        | zero =>
          intro k hd hk
          have hkn : k = 30 := by omega
          refine z_iload_n hX dX1_copyFrom_58 2 rfl ?_
          refine z_aload_n hX dX1_copyFrom_59 0 rfl ?_
          refine zgF_cells hX hf fl_RX1_17 dX1_copyFrom_60 ?_
          refine zl8K hX hf dX1_copyFrom_63 ?_
          refine z_icmp_ge (tgt := 94) hX dX1_copyFrom_64 (by decide) (fun h64 => ?_) (fun h64 => absurd h64 (Classical.not_not.mpr (le_i (a := 30) (b := k) (by omega) (by omega))))
          subst hkn
          refine z_aload_n hX dX1_copyFrom_94 0 rfl ?_
          refine z_aload_n hX dX1_copyFrom_95 1 rfl ?_
          refine zgF_count hX hf2 fl_RX1_21 dX1_copyFrom_96 ?_
          refine z_isv (show _ = κ 6 f2 0 by rw [zK_o hne]) ?_
          refine zpF_count hX hf fl_RX1_21 dX1_copyFrom_99 ?_
          refine z_aload_n hX dX1_copyFrom_102 0 rfl ?_
          refine z_aload_n hX dX1_copyFrom_103 1 rfl ?_
          refine zgF_turns hX hf2 fl_RX1_25 dX1_copyFrom_104 ?_
          refine z_isv (show _ = κ 6 f2 1 by rw [zK_o hne]) ?_
          refine zpF_turns hX hf fl_RX1_25 dX1_copyFrom_107 ?_
          refine z_aload_n hX dX1_copyFrom_110 0 rfl ?_
          refine z_aload_n hX dX1_copyFrom_111 1 rfl ?_
          refine zgF_fights hX hf2 fl_RX1_28 dX1_copyFrom_112 ?_
          refine z_isv (show _ = κ 6 f2 2 by rw [zK_o hne]) ?_
          refine zpF_fights hX hf fl_RX1_28 dX1_copyFrom_115 ?_
          refine z_aload_n hX dX1_copyFrom_118 0 rfl ?_
          refine z_aload_n hX dX1_copyFrom_119 1 rfl ?_
          refine zgF_jarsOfFirst hX hf2 fl_RX1_31 dX1_copyFrom_120 ?_
          refine z_isv (show _ = κ 6 f2 3 by rw [zK_o hne]) ?_
          refine zpF_jarsOfFirst hX hf fl_RX1_31 dX1_copyFrom_123 ?_
          refine z_aload_n hX dX1_copyFrom_126 0 rfl ?_
          refine z_aload_n hX dX1_copyFrom_127 1 rfl ?_
          refine zgF_jarsOfSecond hX hf2 fl_RX1_34 dX1_copyFrom_128 ?_
          refine z_isv (show _ = κ 6 f2 4 by rw [zK_o hne]) ?_
          refine zpF_jarsOfSecond hX hf fl_RX1_34 dX1_copyFrom_131 ?_
          exact z_vret hX dX1_copyFrom_134 (by decide) (fun _ h => W_out (fun q hq => hdr_at hq) (fun i w hi hw => hdr_bf.trans (dN_at 12 i w hi hw)) (fun q hq => cN_at 30 q hq) h)
        | succ dz ih =>
          intro k hd hk
          have hkn : k < 30 := by omega
          refine z_iload_n hX dX1_copyFrom_58 2 rfl ?_
          refine z_aload_n hX dX1_copyFrom_59 0 rfl ?_
          refine zgF_cells hX hf fl_RX1_17 dX1_copyFrom_60 ?_
          refine zl8K hX hf dX1_copyFrom_63 ?_
          refine z_icmp_ge (tgt := 94) hX dX1_copyFrom_64 (by decide) (fun h64 => absurd h64 (nle_i (a := k) (b := 30) hkn (by decide))) (fun h64 => ?_)
          refine z_iload_n hX dX1_copyFrom_67 2 rfl ?_
          refine z_aload_n hX dX1_copyFrom_68 1 rfl ?_
          refine zgF_cells hX hf2 fl_RX1_17 dX1_copyFrom_69 ?_
          refine zl8K hX hf2 dX1_copyFrom_72 ?_
          refine z_icmp_ge (tgt := 94) hX dX1_copyFrom_73 (by decide) (fun h73 => absurd h73 (nle_i (a := k) (b := 30) hkn (by decide))) (fun h73 => ?_)
          refine z_aload_n hX dX1_copyFrom_76 0 rfl ?_
          refine zgF_cells hX hf fl_RX1_17 dX1_copyFrom_77 ?_
          refine z_iload_n hX dX1_copyFrom_80 2 rfl ?_
          refine z_aload_n hX dX1_copyFrom_81 1 rfl ?_
          refine zgF_cells hX hf2 fl_RX1_17 dX1_copyFrom_82 ?_
          refine z_iload_n hX dX1_copyFrom_85 2 rfl ?_
          refine za8K hX hf2 rfl hkn dX1_copyFrom_86 ?_
          refine z_isv (show _ = κ 8 f2 k by rw [zK_o hne]) ?_
          refine zs8K hX hf rfl hkn dX1_copyFrom_87 ?_
          refine z_iinc (v := nI (k + 1)) (lv' := [(2, _), (0, _), (1, _)]) hX dX1_copyFrom_88 2 rfl (nI_1 k) (by decide) rfl ?_
          refine z_goto (tgt := 58) hX dX1_copyFrom_91 (by decide) ?_
          refine z_sub [1, 2, 0] rfl ?_
          exact ih (k + 1) (by omega) hkn
      refine z_sub [1, 2, 0] rfl ?_
      exact hL2 30 0 (Nat.sub_zero _) (Nat.zero_le _)
    | succ dz ih =>
      intro k hd hk
      have hkn : k < 12 := by omega
      refine z_iload_n hX dX1_copyFrom_2 2 rfl ?_
      refine z_aload_n hX dX1_copyFrom_3 0 rfl ?_
      refine zgF_lines hX hf fl_RX1_11 dX1_copyFrom_4 ?_
      refine zl_lines hX hf dX1_copyFrom_7 ?_
      refine z_icmp_ge (tgt := 56) hX dX1_copyFrom_8 (by decide) (fun h8 => absurd h8 (nle_i (a := k) (b := 12) hkn (by decide))) (fun h8 => ?_)
      refine z_iload_n hX dX1_copyFrom_11 2 rfl ?_
      refine z_aload_n hX dX1_copyFrom_12 1 rfl ?_
      refine zgF_lines hX hf2 fl_RX1_11 dX1_copyFrom_13 ?_
      refine zl_lines hX hf2 dX1_copyFrom_16 ?_
      refine z_icmp_ge (tgt := 56) hX dX1_copyFrom_17 (by decide) (fun h17 => absurd h17 (nle_i (a := k) (b := 12) hkn (by decide))) (fun h17 => ?_)
      refine z_aload_n hX dX1_copyFrom_20 0 rfl ?_
      refine zgF_lines hX hf fl_RX1_11 dX1_copyFrom_21 ?_
      refine z_iload_n hX dX1_copyFrom_24 2 rfl ?_
      refine za_lines hX hf rfl hkn dX1_copyFrom_25 ?_
      refine z_astore_n (lv' := [(3, _), (0, _), (1, _), (2, _)]) hX dX1_copyFrom_26 (by decide) rfl ?_
      refine z_aload_n hX dX1_copyFrom_27 2 rfl ?_
      refine zgF_lines hX hf2 fl_RX1_11 dX1_copyFrom_28 ?_
      refine z_iload_n hX dX1_copyFrom_31 3 rfl ?_
      refine za_lines hX hf2 rfl hkn dX1_copyFrom_32 ?_
      refine z_astore (lv' := [(4, _), (3, _), (0, _), (1, _), (2, _)]) hX dX1_copyFrom_33 (by decide) rfl ?_
      refine z_aload_n hX dX1_copyFrom_35 1 rfl ?_
      refine z_ifnull hX dX1_copyFrom_36 ?_
      refine z_aload hX dX1_copyFrom_39 0 rfl ?_
      refine z_ifnull hX dX1_copyFrom_41 ?_
      refine z_aload_n hX dX1_copyFrom_44 1 rfl ?_
      refine z_aload hX dX1_copyFrom_45 0 rfl ?_
      refine z_callV0 hX (ok_X3_copyFrom l hf hf2 hne hkn (hch k hkn).1 (hch k hkn).2) cv_RX1_46 (zRc9 hf hkn) dX1_copyFrom_47 (by decide) rfl rfl (Nat.le_of_ble_eq_true rfl) ?_
      refine z_iinc (v := nI (k + 1)) (lv' := [(2, _), (4, _), (3, _), (0, _), (1, _)]) hX dX1_copyFrom_50 4 rfl (nI_1 k) (by decide) rfl ?_
      refine z_goto (tgt := 2) hX dX1_copyFrom_53 (by decide) ?_
      refine z_sub [3, 4, 0] rfl ?_
      exact ih (k + 1) (by omega) hkn
  refine z_sub [1, 2, 0] rfl ?_
  exact hL 12 0 (Nat.sub_zero _) (Nat.zero_le _)
