section ZRA
def zRow (κ : zKp) (t f : Nat) (r : Nat → Int32) : zKp := fun t' f' => if t' = t ∧ f' = f then r else κ t' f'
/-- field f holds the battle gb and the cells cb -/
def zF (κ : zKp) (f : Nat) (gb cb : Nat → Int32) : zKp := fun t f' => if t = 6 ∧ f' = f then gb else if t = 8 ∧ f' = f then cb else κ t f'
/-- the text's numbers x, its signs y -/
def zT (κ : zKp) (x y : Nat → Int32) : zKp := fun t f' => if t = 2 ∧ f' = 0 then x else if t = 3 ∧ f' = 0 then y else κ t f'
/-- the reference's numbers a, its battle b -/
def zN (μ : zMu) (a b : Nat → Int32) : zMu := fun r => if r = 0 then a else if r = 1 then b else μ r
def zRm (μ : zMu) (r : Nat) (x : Nat → Int32) : zMu := fun r' => if r' = r then x else μ r'
theorem zF_self (κ : zKp) (f : Nat) : zF κ f (κ 6 f) (κ 8 f) = κ := by
  funext t f'
  unfold zF
  split
  · rename_i h; rw [h.1, h.2]
  · split
    · rename_i h; rw [h.1, h.2]
    · rfl
theorem zT_self (κ : zKp) : zT κ (κ 2 0) (κ 3 0) = κ := by
  funext t f'
  unfold zT
  split
  · rename_i h; rw [h.1, h.2]
  · split
    · rename_i h; rw [h.1, h.2]
    · rfl
theorem zRow_self (κ : zKp) (t f : Nat) : zRow κ t f (κ t f) = κ := by
  funext t' f'
  unfold zRow
  split
  · rename_i h; rw [h.1, h.2]
  · rfl
theorem zN_self (μ : zMu) : zN μ (μ 0) (μ 1) = μ := by
  funext r
  unfold zN
  split
  · rename_i h; rw [h]
  · split
    · rename_i h; rw [h]
    · rfl
theorem zF_6 {κ : zKp} {f : Nat} {gb cb : Nat → Int32} : zF κ f gb cb 6 f = gb := by simp [zF]
theorem zF_8 {κ : zKp} {f : Nat} {gb cb : Nat → Int32} : zF κ f gb cb 8 f = cb := by simp [zF]
theorem zV_i0 {t f i : Nat} (h : zV t f i) (ht : ¬ t = 9) : i = 0 := by
  have h0 : ∀ q ∈ zIdx, ¬ q.1 = 9 → q.2.2 = 0 := by decide +kernel
  exact h0 _ h ht
theorem zV_f0 {t f i : Nat} (h : zV t f i) (ht : ¬ (t = 6 ∨ t = 7 ∨ t = 8 ∨ t = 9)) : f = 0 := by
  have h0 : ∀ q ∈ zIdx, ¬ (q.1 = 6 ∨ q.1 = 7 ∨ q.1 = 8 ∨ q.1 = 9) → q.2.1 = 0 := by decide +kernel
  exact h0 _ h ht
/-- a cell says what its own row says -/
theorem zE_ext {g : zG} {κ κ' : zKp} {μ μ' : zMu} {ω ω' : zOm} {t f i : Nat} (h1 : κ' t f = κ t f) (h9 : t = 9 → κ' 6 f = κ 6 f) : zE g κ' μ' ω' t f i = zE g κ μ ω t f i := by
  unfold zE
  split
  · rw [h1]
  · rw [h1]
  · rw [h1]
  · rw [h1]
  · rw [h1]
  · rfl
  · rw [h1]
  · rfl
  · rw [h1]
  · unfold zL; rw [h1, h9 rfl]
  · rfl
theorem zE_k {g : zG} {κ κ' : zKp} {μ : zMu} {ω : zOm} {t f i : Nat} (h1 : κ' t f = κ t f) (h9 : t = 9 → κ' 6 f = κ 6 f) : zE g κ' μ ω t f i = zE g κ μ ω t f i := zE_ext h1 h9
theorem zE_row {g : zG} {κ : zKp} {μ : zMu} {ω : zOm} {t0 f0 : Nat} {r : Nat → Int32} {t f i : Nat} (h6 : ¬ t0 = 6) (h9 : ¬ t0 = 9) (hv : zV t f i) (hn : ¬ (t = t0 ∧ f = f0 ∧ i = 0)) : zE g (zRow κ t0 f0 r) μ ω t f i = zE g κ μ ω t f i := by
  have hq : ¬ (t = t0 ∧ f = f0) := fun h => hn ⟨h.1, h.2, zV_i0 hv (by rw [h.1]; exact h9)⟩
  refine zE_k ?_ ?_
  · unfold zRow; rw [if_neg hq]
  · intro _; unfold zRow; rw [if_neg (fun h => h6 h.1.symm)]
theorem zE_T {g : zG} {κ : zKp} {μ : zMu} {ω : zOm} {x x' y y' : Nat → Int32} {t f i : Nat} (hv : zV t f i) (h2 : t = 2 → x' = x) (h3 : t = 3 → y' = y) : zE g (zT κ x' y') μ ω t f i = zE g (zT κ x y) μ ω t f i := by
  refine zE_k ?_ ?_
  · unfold zT
    by_cases q2 : t = 2
    · rw [h2 q2, if_neg (c := t = 3 ∧ f = 0) (by omega)]
      simp [q2]
    · by_cases q3 : t = 3
      · rw [h3 q3]; simp [q3]
      · simp [q2, q3]
  · intro _; unfold zT; simp
/-- only a live line's own numbers, or a field's own, change -/
theorem zE_F {g : zG} {κ : zKp} {μ : zMu} {ω : zOm} {f : Nat} {gb gb' cb cb' : Nat → Int32} {t f' i : Nat} (h6 : f' = f → t = 6 → gb' 0 = gb 0 ∧ gb' 1 = gb 1 ∧ gb' 2 = gb 2 ∧ gb' 3 = gb 3 ∧ gb' 4 = gb 4) (h9 : f' = f → t = 9 → bn gb' = bn gb ∧ (i < bn gb → ∀ w, w < 9 → bf gb' i w = bf gb i w)) (h8 : f' = f → t = 8 → cb' = cb) : zE g (zF κ f gb' cb') μ ω t f' i = zE g (zF κ f gb cb) μ ω t f' i := by
  by_cases hf : f' = f
  · subst hf
    by_cases q6 : t = 6
    · subst q6
      obtain ⟨e0, e1, e2, e3, e4⟩ := h6 rfl rfl
      simp only [zE, zF_6, e0, e1, e2, e3, e4]
    · by_cases q9 : t = 9
      · subst q9
        obtain ⟨e0, e1⟩ := h9 rfl rfl
        have key : ∀ w, w < 9 → zL (zF κ f' gb' cb') f' i w = zL (zF κ f' gb cb) f' i w := by
          intro w hw
          unfold zL
          rw [zF_6, zF_6]
          show (if i < bn gb' then _ else _) = (if i < bn gb then _ else _)
          rw [e0]
          by_cases hi : i < bn gb
          · rw [if_pos hi, if_pos hi]; exact e1 hi w hw
          · rw [if_neg hi, if_neg hi]; simp [zF]
        simp only [zE]
        rw [key 0 (by decide), key 1 (by decide), key 2 (by decide), key 3 (by decide), key 4 (by decide), key 5 (by decide), key 6 (by decide), key 7 (by decide), key 8 (by decide)]
      · refine zE_k ?_ (fun h => absurd h q9)
        by_cases q8 : t = 8
        · subst q8; simp [zF, h8 rfl rfl]
        · simp only [zF, q6, false_and, if_false, q8]
  · refine zE_k ?_ (fun _ => ?_)
    · unfold zF; simp [hf]
    · unfold zF; simp [hf]
theorem zE9 {g : zG} {κ : zKp} {μ : zMu} {ω : zOm} {f i : Nat} {gb cb : Nat → Int32} (hlt : i < bn gb) : zE g (zF κ f gb cb) μ ω 9 f i = .inr (6, [.int (nI i), .int (bf gb i 0), .int (bf gb i 1), .int (bf gb i 2), .int (bf gb i 3), .int (bf gb i 6), .int (bf gb i 4), .int (bf gb i 5), .int (bf gb i 7), .int (bf gb i 8)]) := by
  have key : ∀ w, zL (zF κ f gb cb) f i w = bf gb i w := by
    intro w
    unfold zL
    rw [zF_6]
    exact if_pos hlt
  simp only [zE, key]
theorem zE6 {g : zG} {κ : zKp} {μ : zMu} {ω : zOm} {f : Nat} {gb cb : Nat → Int32} : zE g (zF κ f gb cb) μ ω 6 f 0 = .inr (4, [.ref (gA g 7 f 0), .ref (gA g 8 f 0), .int (gb 0), .int (gb 1), .int (gb 2), .int (gb 3), .int (gb 4)]) := by simp only [zE, zF_6]
theorem zE8 {g : zG} {κ : zKp} {μ : zMu} {ω : zOm} {f : Nat} {gb cb : Nat → Int32} : zE g (zF κ f gb cb) μ ω 8 f 0 = .inl (gQ g 1, 30, .inl cb) := by simp only [zE, zF_8]
theorem bn_bs {gb : Nat → Int32} {i w : Nat} {x : Int32} : bn (bs gb i w x) = bn gb := by
  unfold bn bs upd
  rw [if_neg (by omega)]
theorem bf_bs {gb : Nat → Int32} {i w : Nat} {x : Int32} : bf (bs gb i w x) i w = x := by
  unfold bf bs upd
  rw [if_pos rfl]
theorem bf_bsW {gb : Nat → Int32} {i w w' : Nat} {x : Int32} (h : ¬ w' = w) : bf (bs gb i w x) i w' = bf gb i w' := by
  unfold bf bs upd
  rw [if_neg (by omega)]
theorem bf_bsI {gb : Nat → Int32} {i j w w' : Nat} {x : Int32} (hw : w < 9) (hw' : w' < 9) (h : ¬ j = i) : bf (bs gb i w x) j w' = bf gb j w' := by
  unfold bf bs upd
  rw [if_neg (by omega)]
theorem bs_lo {gb : Nat → Int32} {i w q : Nat} {x : Int32} (h : q < 5) : bs gb i w x q = gb q := by
  unfold bs upd
  rw [if_neg (by omega)]
theorem zE_put9 {g : zG} {κ : zKp} {μ : zMu} {ω : zOm} {f i w : Nat} {gb cb : Nat → Int32} {x : Int32} (hw : w < 9) {t f' i' : Nat} (hn : ¬ (t = 9 ∧ f' = f ∧ i' = i)) : zE g (zF κ f (bs gb i w x) cb) μ ω t f' i' = zE g (zF κ f gb cb) μ ω t f' i' :=
  zE_F (fun _ _ => ⟨bs_lo (by decide), bs_lo (by decide), bs_lo (by decide), bs_lo (by decide), bs_lo (by decide)⟩) (fun h1 h2 => ⟨bn_bs, fun _ w' hw' => bf_bsI hw hw' (fun e => hn ⟨h2, h1, e⟩)⟩) (fun _ _ => rfl)
end ZRA
section ZRB
variable {p : Program} {l : Launch} {e : Env} {R : Room} {s : State} {m : MethodId} {args : Array Value} {below : List Frame} {meth : Method} {c : Code} {Q : State → Prop} {g : zG} {own : String} {cc : ByteArray} {n lvl mc : Nat} {ret : Option FieldType} {κ : zKp} {μ : zMu} {ω : zOm} {k pc : Nat} {lv : List (Nat × Value)} {st : List Value}
theorem zg_X3_number (hX : zX p l s m args meth c R g own cc n ret lvl mc) {f i index : Nat} {gb cb : Nat → Int32} (hf : f < 11) (hi : i < 12) (hlt : i < bn gb) (hlink : Cond.fieldLink own index RX3 "number" "I" ∈ gW) (d : decode cc pc = .ok (.getfield index, 3)) (kk : zZ p l e R s m args below meth c g n Q (zF κ f gb cb) μ ω k (pc + 3) lv (.int (nI i) :: st)) : zZ p l e R s m args below meth c g n Q (zF κ f gb cb) μ ω k pc lv (.ref (gA g 9 f i) :: st) := z_get hX (q := 0) (zV9 hf hi) (zE9 hlt) rfl win_X3 (by decide) rfl hlink rfl d kk
theorem zg_X3_side (hX : zX p l s m args meth c R g own cc n ret lvl mc) {f i index : Nat} {gb cb : Nat → Int32} (hf : f < 11) (hi : i < 12) (hlt : i < bn gb) (hlink : Cond.fieldLink own index RX3 "side" "I" ∈ gW) (d : decode cc pc = .ok (.getfield index, 3)) (kk : zZ p l e R s m args below meth c g n Q (zF κ f gb cb) μ ω k (pc + 3) lv (.int (bf gb i 0) :: st)) : zZ p l e R s m args below meth c g n Q (zF κ f gb cb) μ ω k pc lv (.ref (gA g 9 f i) :: st) := z_get hX (q := 1) (zV9 hf hi) (zE9 hlt) rfl win_X3 (by decide) rfl hlink rfl d kk
theorem zp_X3_side (hX : zX p l s m args meth c R g own cc n ret lvl mc) {f i index : Nat} {gb cb : Nat → Int32} {x : Int32} (hf : f < 11) (hi : i < 12) (hlt : i < bn gb) (hlink : Cond.fieldLink own index RX3 "side" "I" ∈ gW) (d : decode cc pc = .ok (.putfield index, 3)) (kk : zZ p l e R s m args below meth c g n Q (zF κ f (bs gb i 0 x) cb) μ ω k (pc + 3) lv st) : zZ p l e R s m args below meth c g n Q (zF κ f gb cb) μ ω k pc lv (.int x :: .ref (gA g 9 f i) :: st) := z_put hX (q := 1) (ty := .int) (zV9 hf hi) (zE9 hlt) rfl win_X3 tyX3_ok nmX3 (by decide) rfl rfl hlink (by decide +kernel) rfl rfl (Nat.le_of_ble_eq_true rfl) (by rw [zE9 (by rw [bn_bs]; exact hlt), bf_bs, bf_bsW (w' := 1) (by decide), bf_bsW (w' := 2) (by decide), bf_bsW (w' := 3) (by decide), bf_bsW (w' := 4) (by decide), bf_bsW (w' := 5) (by decide), bf_bsW (w' := 6) (by decide), bf_bsW (w' := 7) (by decide), bf_bsW (w' := 8) (by decide)]; rfl) (fun t' f' i' _ hn => zE_put9 (by decide) hn) d kk
theorem zg_X3_lane (hX : zX p l s m args meth c R g own cc n ret lvl mc) {f i index : Nat} {gb cb : Nat → Int32} (hf : f < 11) (hi : i < 12) (hlt : i < bn gb) (hlink : Cond.fieldLink own index RX3 "lane" "I" ∈ gW) (d : decode cc pc = .ok (.getfield index, 3)) (kk : zZ p l e R s m args below meth c g n Q (zF κ f gb cb) μ ω k (pc + 3) lv (.int (bf gb i 1) :: st)) : zZ p l e R s m args below meth c g n Q (zF κ f gb cb) μ ω k pc lv (.ref (gA g 9 f i) :: st) := z_get hX (q := 2) (zV9 hf hi) (zE9 hlt) rfl win_X3 (by decide) rfl hlink rfl d kk
theorem zp_X3_lane (hX : zX p l s m args meth c R g own cc n ret lvl mc) {f i index : Nat} {gb cb : Nat → Int32} {x : Int32} (hf : f < 11) (hi : i < 12) (hlt : i < bn gb) (hlink : Cond.fieldLink own index RX3 "lane" "I" ∈ gW) (d : decode cc pc = .ok (.putfield index, 3)) (kk : zZ p l e R s m args below meth c g n Q (zF κ f (bs gb i 1 x) cb) μ ω k (pc + 3) lv st) : zZ p l e R s m args below meth c g n Q (zF κ f gb cb) μ ω k pc lv (.int x :: .ref (gA g 9 f i) :: st) := z_put hX (q := 2) (ty := .int) (zV9 hf hi) (zE9 hlt) rfl win_X3 tyX3_ok nmX3 (by decide) rfl rfl hlink (by decide +kernel) rfl rfl (Nat.le_of_ble_eq_true rfl) (by rw [zE9 (by rw [bn_bs]; exact hlt), bf_bs, bf_bsW (w' := 0) (by decide), bf_bsW (w' := 2) (by decide), bf_bsW (w' := 3) (by decide), bf_bsW (w' := 4) (by decide), bf_bsW (w' := 5) (by decide), bf_bsW (w' := 6) (by decide), bf_bsW (w' := 7) (by decide), bf_bsW (w' := 8) (by decide)]; rfl) (fun t' f' i' _ hn => zE_put9 (by decide) hn) d kk
theorem zg_X3_column (hX : zX p l s m args meth c R g own cc n ret lvl mc) {f i index : Nat} {gb cb : Nat → Int32} (hf : f < 11) (hi : i < 12) (hlt : i < bn gb) (hlink : Cond.fieldLink own index RX3 "column" "I" ∈ gW) (d : decode cc pc = .ok (.getfield index, 3)) (kk : zZ p l e R s m args below meth c g n Q (zF κ f gb cb) μ ω k (pc + 3) lv (.int (bf gb i 2) :: st)) : zZ p l e R s m args below meth c g n Q (zF κ f gb cb) μ ω k pc lv (.ref (gA g 9 f i) :: st) := z_get hX (q := 3) (zV9 hf hi) (zE9 hlt) rfl win_X3 (by decide) rfl hlink rfl d kk
theorem zp_X3_column (hX : zX p l s m args meth c R g own cc n ret lvl mc) {f i index : Nat} {gb cb : Nat → Int32} {x : Int32} (hf : f < 11) (hi : i < 12) (hlt : i < bn gb) (hlink : Cond.fieldLink own index RX3 "column" "I" ∈ gW) (d : decode cc pc = .ok (.putfield index, 3)) (kk : zZ p l e R s m args below meth c g n Q (zF κ f (bs gb i 2 x) cb) μ ω k (pc + 3) lv st) : zZ p l e R s m args below meth c g n Q (zF κ f gb cb) μ ω k pc lv (.int x :: .ref (gA g 9 f i) :: st) := z_put hX (q := 3) (ty := .int) (zV9 hf hi) (zE9 hlt) rfl win_X3 tyX3_ok nmX3 (by decide) rfl rfl hlink (by decide +kernel) rfl rfl (Nat.le_of_ble_eq_true rfl) (by rw [zE9 (by rw [bn_bs]; exact hlt), bf_bs, bf_bsW (w' := 0) (by decide), bf_bsW (w' := 1) (by decide), bf_bsW (w' := 3) (by decide), bf_bsW (w' := 4) (by decide), bf_bsW (w' := 5) (by decide), bf_bsW (w' := 6) (by decide), bf_bsW (w' := 7) (by decide), bf_bsW (w' := 8) (by decide)]; rfl) (fun t' f' i' _ hn => zE_put9 (by decide) hn) d kk
theorem zg_X3_kind (hX : zX p l s m args meth c R g own cc n ret lvl mc) {f i index : Nat} {gb cb : Nat → Int32} (hf : f < 11) (hi : i < 12) (hlt : i < bn gb) (hlink : Cond.fieldLink own index RX3 "kind" "C" ∈ gW) (d : decode cc pc = .ok (.getfield index, 3)) (kk : zZ p l e R s m args below meth c g n Q (zF κ f gb cb) μ ω k (pc + 3) lv (.int (bf gb i 3) :: st)) : zZ p l e R s m args below meth c g n Q (zF κ f gb cb) μ ω k pc lv (.ref (gA g 9 f i) :: st) := z_get hX (q := 4) (zV9 hf hi) (zE9 hlt) rfl win_X3 (by decide) rfl hlink rfl d kk
theorem zp_X3_kind (hX : zX p l s m args meth c R g own cc n ret lvl mc) {f i index : Nat} {gb cb : Nat → Int32} {x : Int32} (hf : f < 11) (hi : i < 12) (hlt : i < bn gb) (hnv : narrow .char (.int x) = .int x) (hfv : fits .char (.int x) = true) (hlink : Cond.fieldLink own index RX3 "kind" "C" ∈ gW) (d : decode cc pc = .ok (.putfield index, 3)) (kk : zZ p l e R s m args below meth c g n Q (zF κ f (bs gb i 3 x) cb) μ ω k (pc + 3) lv st) : zZ p l e R s m args below meth c g n Q (zF κ f gb cb) μ ω k pc lv (.int x :: .ref (gA g 9 f i) :: st) := z_put hX (q := 4) (ty := .char) (zV9 hf hi) (zE9 hlt) rfl win_X3 tyX3_ok nmX3 (by decide) rfl rfl hlink (by decide +kernel) hnv hfv (Nat.le_of_ble_eq_true rfl) (by rw [zE9 (by rw [bn_bs]; exact hlt), bf_bs, bf_bsW (w' := 0) (by decide), bf_bsW (w' := 1) (by decide), bf_bsW (w' := 2) (by decide), bf_bsW (w' := 4) (by decide), bf_bsW (w' := 5) (by decide), bf_bsW (w' := 6) (by decide), bf_bsW (w' := 7) (by decide), bf_bsW (w' := 8) (by decide)]; rfl) (fun t' f' i' _ hn => zE_put9 (by decide) hn) d kk
theorem zg_X3_order (hX : zX p l s m args meth c R g own cc n ret lvl mc) {f i index : Nat} {gb cb : Nat → Int32} (hf : f < 11) (hi : i < 12) (hlt : i < bn gb) (hlink : Cond.fieldLink own index RX3 "order" "C" ∈ gW) (d : decode cc pc = .ok (.getfield index, 3)) (kk : zZ p l e R s m args below meth c g n Q (zF κ f gb cb) μ ω k (pc + 3) lv (.int (bf gb i 6) :: st)) : zZ p l e R s m args below meth c g n Q (zF κ f gb cb) μ ω k pc lv (.ref (gA g 9 f i) :: st) := z_get hX (q := 5) (zV9 hf hi) (zE9 hlt) rfl win_X3 (by decide) rfl hlink rfl d kk
theorem zp_X3_order (hX : zX p l s m args meth c R g own cc n ret lvl mc) {f i index : Nat} {gb cb : Nat → Int32} {x : Int32} (hf : f < 11) (hi : i < 12) (hlt : i < bn gb) (hnv : narrow .char (.int x) = .int x) (hfv : fits .char (.int x) = true) (hlink : Cond.fieldLink own index RX3 "order" "C" ∈ gW) (d : decode cc pc = .ok (.putfield index, 3)) (kk : zZ p l e R s m args below meth c g n Q (zF κ f (bs gb i 6 x) cb) μ ω k (pc + 3) lv st) : zZ p l e R s m args below meth c g n Q (zF κ f gb cb) μ ω k pc lv (.int x :: .ref (gA g 9 f i) :: st) := z_put hX (q := 5) (ty := .char) (zV9 hf hi) (zE9 hlt) rfl win_X3 tyX3_ok nmX3 (by decide) rfl rfl hlink (by decide +kernel) hnv hfv (Nat.le_of_ble_eq_true rfl) (by rw [zE9 (by rw [bn_bs]; exact hlt), bf_bs, bf_bsW (w' := 0) (by decide), bf_bsW (w' := 1) (by decide), bf_bsW (w' := 2) (by decide), bf_bsW (w' := 3) (by decide), bf_bsW (w' := 4) (by decide), bf_bsW (w' := 5) (by decide), bf_bsW (w' := 7) (by decide), bf_bsW (w' := 8) (by decide)]; rfl) (fun t' f' i' _ hn => zE_put9 (by decide) hn) d kk
theorem zg_X3_strength (hX : zX p l s m args meth c R g own cc n ret lvl mc) {f i index : Nat} {gb cb : Nat → Int32} (hf : f < 11) (hi : i < 12) (hlt : i < bn gb) (hlink : Cond.fieldLink own index RX3 "strength" "I" ∈ gW) (d : decode cc pc = .ok (.getfield index, 3)) (kk : zZ p l e R s m args below meth c g n Q (zF κ f gb cb) μ ω k (pc + 3) lv (.int (bf gb i 4) :: st)) : zZ p l e R s m args below meth c g n Q (zF κ f gb cb) μ ω k pc lv (.ref (gA g 9 f i) :: st) := z_get hX (q := 6) (zV9 hf hi) (zE9 hlt) rfl win_X3 (by decide) rfl hlink rfl d kk
theorem zp_X3_strength (hX : zX p l s m args meth c R g own cc n ret lvl mc) {f i index : Nat} {gb cb : Nat → Int32} {x : Int32} (hf : f < 11) (hi : i < 12) (hlt : i < bn gb) (hlink : Cond.fieldLink own index RX3 "strength" "I" ∈ gW) (d : decode cc pc = .ok (.putfield index, 3)) (kk : zZ p l e R s m args below meth c g n Q (zF κ f (bs gb i 4 x) cb) μ ω k (pc + 3) lv st) : zZ p l e R s m args below meth c g n Q (zF κ f gb cb) μ ω k pc lv (.int x :: .ref (gA g 9 f i) :: st) := z_put hX (q := 6) (ty := .int) (zV9 hf hi) (zE9 hlt) rfl win_X3 tyX3_ok nmX3 (by decide) rfl rfl hlink (by decide +kernel) rfl rfl (Nat.le_of_ble_eq_true rfl) (by rw [zE9 (by rw [bn_bs]; exact hlt), bf_bs, bf_bsW (w' := 0) (by decide), bf_bsW (w' := 1) (by decide), bf_bsW (w' := 2) (by decide), bf_bsW (w' := 3) (by decide), bf_bsW (w' := 5) (by decide), bf_bsW (w' := 6) (by decide), bf_bsW (w' := 7) (by decide), bf_bsW (w' := 8) (by decide)]; rfl) (fun t' f' i' _ hn => zE_put9 (by decide) hn) d kk
theorem zg_X3_morale (hX : zX p l s m args meth c R g own cc n ret lvl mc) {f i index : Nat} {gb cb : Nat → Int32} (hf : f < 11) (hi : i < 12) (hlt : i < bn gb) (hlink : Cond.fieldLink own index RX3 "morale" "I" ∈ gW) (d : decode cc pc = .ok (.getfield index, 3)) (kk : zZ p l e R s m args below meth c g n Q (zF κ f gb cb) μ ω k (pc + 3) lv (.int (bf gb i 5) :: st)) : zZ p l e R s m args below meth c g n Q (zF κ f gb cb) μ ω k pc lv (.ref (gA g 9 f i) :: st) := z_get hX (q := 7) (zV9 hf hi) (zE9 hlt) rfl win_X3 (by decide) rfl hlink rfl d kk
theorem zp_X3_morale (hX : zX p l s m args meth c R g own cc n ret lvl mc) {f i index : Nat} {gb cb : Nat → Int32} {x : Int32} (hf : f < 11) (hi : i < 12) (hlt : i < bn gb) (hlink : Cond.fieldLink own index RX3 "morale" "I" ∈ gW) (d : decode cc pc = .ok (.putfield index, 3)) (kk : zZ p l e R s m args below meth c g n Q (zF κ f (bs gb i 5 x) cb) μ ω k (pc + 3) lv st) : zZ p l e R s m args below meth c g n Q (zF κ f gb cb) μ ω k pc lv (.int x :: .ref (gA g 9 f i) :: st) := z_put hX (q := 7) (ty := .int) (zV9 hf hi) (zE9 hlt) rfl win_X3 tyX3_ok nmX3 (by decide) rfl rfl hlink (by decide +kernel) rfl rfl (Nat.le_of_ble_eq_true rfl) (by rw [zE9 (by rw [bn_bs]; exact hlt), bf_bs, bf_bsW (w' := 0) (by decide), bf_bsW (w' := 1) (by decide), bf_bsW (w' := 2) (by decide), bf_bsW (w' := 3) (by decide), bf_bsW (w' := 4) (by decide), bf_bsW (w' := 6) (by decide), bf_bsW (w' := 7) (by decide), bf_bsW (w' := 8) (by decide)]; rfl) (fun t' f' i' _ hn => zE_put9 (by decide) hn) d kk
theorem zg_X3_condition (hX : zX p l s m args meth c R g own cc n ret lvl mc) {f i index : Nat} {gb cb : Nat → Int32} (hf : f < 11) (hi : i < 12) (hlt : i < bn gb) (hlink : Cond.fieldLink own index RX3 "condition" "I" ∈ gW) (d : decode cc pc = .ok (.getfield index, 3)) (kk : zZ p l e R s m args below meth c g n Q (zF κ f gb cb) μ ω k (pc + 3) lv (.int (bf gb i 7) :: st)) : zZ p l e R s m args below meth c g n Q (zF κ f gb cb) μ ω k pc lv (.ref (gA g 9 f i) :: st) := z_get hX (q := 8) (zV9 hf hi) (zE9 hlt) rfl win_X3 (by decide) rfl hlink rfl d kk
theorem zp_X3_condition (hX : zX p l s m args meth c R g own cc n ret lvl mc) {f i index : Nat} {gb cb : Nat → Int32} {x : Int32} (hf : f < 11) (hi : i < 12) (hlt : i < bn gb) (hlink : Cond.fieldLink own index RX3 "condition" "I" ∈ gW) (d : decode cc pc = .ok (.putfield index, 3)) (kk : zZ p l e R s m args below meth c g n Q (zF κ f (bs gb i 7 x) cb) μ ω k (pc + 3) lv st) : zZ p l e R s m args below meth c g n Q (zF κ f gb cb) μ ω k pc lv (.int x :: .ref (gA g 9 f i) :: st) := z_put hX (q := 8) (ty := .int) (zV9 hf hi) (zE9 hlt) rfl win_X3 tyX3_ok nmX3 (by decide) rfl rfl hlink (by decide +kernel) rfl rfl (Nat.le_of_ble_eq_true rfl) (by rw [zE9 (by rw [bn_bs]; exact hlt), bf_bs, bf_bsW (w' := 0) (by decide), bf_bsW (w' := 1) (by decide), bf_bsW (w' := 2) (by decide), bf_bsW (w' := 3) (by decide), bf_bsW (w' := 4) (by decide), bf_bsW (w' := 5) (by decide), bf_bsW (w' := 6) (by decide), bf_bsW (w' := 8) (by decide)]; rfl) (fun t' f' i' _ hn => zE_put9 (by decide) hn) d kk
theorem zg_X3_turnsRouted (hX : zX p l s m args meth c R g own cc n ret lvl mc) {f i index : Nat} {gb cb : Nat → Int32} (hf : f < 11) (hi : i < 12) (hlt : i < bn gb) (hlink : Cond.fieldLink own index RX3 "turnsRouted" "I" ∈ gW) (d : decode cc pc = .ok (.getfield index, 3)) (kk : zZ p l e R s m args below meth c g n Q (zF κ f gb cb) μ ω k (pc + 3) lv (.int (bf gb i 8) :: st)) : zZ p l e R s m args below meth c g n Q (zF κ f gb cb) μ ω k pc lv (.ref (gA g 9 f i) :: st) := z_get hX (q := 9) (zV9 hf hi) (zE9 hlt) rfl win_X3 (by decide) rfl hlink rfl d kk
theorem zp_X3_turnsRouted (hX : zX p l s m args meth c R g own cc n ret lvl mc) {f i index : Nat} {gb cb : Nat → Int32} {x : Int32} (hf : f < 11) (hi : i < 12) (hlt : i < bn gb) (hlink : Cond.fieldLink own index RX3 "turnsRouted" "I" ∈ gW) (d : decode cc pc = .ok (.putfield index, 3)) (kk : zZ p l e R s m args below meth c g n Q (zF κ f (bs gb i 8 x) cb) μ ω k (pc + 3) lv st) : zZ p l e R s m args below meth c g n Q (zF κ f gb cb) μ ω k pc lv (.int x :: .ref (gA g 9 f i) :: st) := z_put hX (q := 9) (ty := .int) (zV9 hf hi) (zE9 hlt) rfl win_X3 tyX3_ok nmX3 (by decide) rfl rfl hlink (by decide +kernel) rfl rfl (Nat.le_of_ble_eq_true rfl) (by rw [zE9 (by rw [bn_bs]; exact hlt), bf_bs, bf_bsW (w' := 0) (by decide), bf_bsW (w' := 1) (by decide), bf_bsW (w' := 2) (by decide), bf_bsW (w' := 3) (by decide), bf_bsW (w' := 4) (by decide), bf_bsW (w' := 5) (by decide), bf_bsW (w' := 6) (by decide), bf_bsW (w' := 7) (by decide)]; rfl) (fun t' f' i' _ hn => zE_put9 (by decide) hn) d kk
theorem zg_X1_lines (hX : zX p l s m args meth c R g own cc n ret lvl mc) {f index : Nat} {gb cb : Nat → Int32} (hf : f < 11) (hlink : Cond.fieldLink own index RX1 "lines" "[LLineBattle$Line;" ∈ gW) (d : decode cc pc = .ok (.getfield index, 3)) (kk : zZ p l e R s m args below meth c g n Q (zF κ f gb cb) μ ω k (pc + 3) lv (.ref (gA g 7 f 0) :: st)) : zZ p l e R s m args below meth c g n Q (zF κ f gb cb) μ ω k pc lv (.ref (gA g 6 f 0) :: st) := z_get hX (q := 0) (zV6 hf) zE6 rfl win_X1 (by decide) rfl hlink rfl d kk
theorem zg_X1_cells (hX : zX p l s m args meth c R g own cc n ret lvl mc) {f index : Nat} {gb cb : Nat → Int32} (hf : f < 11) (hlink : Cond.fieldLink own index RX1 "cells" "[I" ∈ gW) (d : decode cc pc = .ok (.getfield index, 3)) (kk : zZ p l e R s m args below meth c g n Q (zF κ f gb cb) μ ω k (pc + 3) lv (.ref (gA g 8 f 0) :: st)) : zZ p l e R s m args below meth c g n Q (zF κ f gb cb) μ ω k pc lv (.ref (gA g 6 f 0) :: st) := z_get hX (q := 1) (zV6 hf) zE6 rfl win_X1 (by decide) rfl hlink rfl d kk
theorem zg_X1_count (hX : zX p l s m args meth c R g own cc n ret lvl mc) {f index : Nat} {gb cb : Nat → Int32} (hf : f < 11) (hlink : Cond.fieldLink own index RX1 "count" "I" ∈ gW) (d : decode cc pc = .ok (.getfield index, 3)) (kk : zZ p l e R s m args below meth c g n Q (zF κ f gb cb) μ ω k (pc + 3) lv (.int (gb 0) :: st)) : zZ p l e R s m args below meth c g n Q (zF κ f gb cb) μ ω k pc lv (.ref (gA g 6 f 0) :: st) := z_get hX (q := 2) (zV6 hf) zE6 rfl win_X1 (by decide) rfl hlink rfl d kk
theorem zg_X1_turns (hX : zX p l s m args meth c R g own cc n ret lvl mc) {f index : Nat} {gb cb : Nat → Int32} (hf : f < 11) (hlink : Cond.fieldLink own index RX1 "turns" "I" ∈ gW) (d : decode cc pc = .ok (.getfield index, 3)) (kk : zZ p l e R s m args below meth c g n Q (zF κ f gb cb) μ ω k (pc + 3) lv (.int (gb 1) :: st)) : zZ p l e R s m args below meth c g n Q (zF κ f gb cb) μ ω k pc lv (.ref (gA g 6 f 0) :: st) := z_get hX (q := 3) (zV6 hf) zE6 rfl win_X1 (by decide) rfl hlink rfl d kk
theorem zp_X1_turns (hX : zX p l s m args meth c R g own cc n ret lvl mc) {f index : Nat} {gb cb : Nat → Int32} {x : Int32} (hf : f < 11) (hlink : Cond.fieldLink own index RX1 "turns" "I" ∈ gW) (d : decode cc pc = .ok (.putfield index, 3)) (kk : zZ p l e R s m args below meth c g n Q (zF κ f (upd gb 1 x) cb) μ ω k (pc + 3) lv st) : zZ p l e R s m args below meth c g n Q (zF κ f gb cb) μ ω k pc lv (.int x :: .ref (gA g 6 f 0) :: st) := z_put hX (κ' := zF κ f (upd gb 1 x) cb) (q := 3) (ty := .int) (zV6 hf) zE6 rfl win_X1 tyX1_ok nmX1 (by decide) rfl rfl hlink (by decide +kernel) rfl rfl (Nat.le_of_ble_eq_true rfl) (by rw [zE6]; rfl) (fun t' f' i' hv hn => zE_F (fun h1 h2 => absurd ⟨h2, h1, zV_i0 hv (by omega)⟩ hn) (fun _ _ => ⟨rfl, fun _ w' _ => by unfold bf upd; rw [if_neg (by omega)]⟩) (fun _ _ => rfl)) d kk
theorem zg_X1_fights (hX : zX p l s m args meth c R g own cc n ret lvl mc) {f index : Nat} {gb cb : Nat → Int32} (hf : f < 11) (hlink : Cond.fieldLink own index RX1 "fights" "I" ∈ gW) (d : decode cc pc = .ok (.getfield index, 3)) (kk : zZ p l e R s m args below meth c g n Q (zF κ f gb cb) μ ω k (pc + 3) lv (.int (gb 2) :: st)) : zZ p l e R s m args below meth c g n Q (zF κ f gb cb) μ ω k pc lv (.ref (gA g 6 f 0) :: st) := z_get hX (q := 4) (zV6 hf) zE6 rfl win_X1 (by decide) rfl hlink rfl d kk
theorem zp_X1_fights (hX : zX p l s m args meth c R g own cc n ret lvl mc) {f index : Nat} {gb cb : Nat → Int32} {x : Int32} (hf : f < 11) (hlink : Cond.fieldLink own index RX1 "fights" "I" ∈ gW) (d : decode cc pc = .ok (.putfield index, 3)) (kk : zZ p l e R s m args below meth c g n Q (zF κ f (upd gb 2 x) cb) μ ω k (pc + 3) lv st) : zZ p l e R s m args below meth c g n Q (zF κ f gb cb) μ ω k pc lv (.int x :: .ref (gA g 6 f 0) :: st) := z_put hX (κ' := zF κ f (upd gb 2 x) cb) (q := 4) (ty := .int) (zV6 hf) zE6 rfl win_X1 tyX1_ok nmX1 (by decide) rfl rfl hlink (by decide +kernel) rfl rfl (Nat.le_of_ble_eq_true rfl) (by rw [zE6]; rfl) (fun t' f' i' hv hn => zE_F (fun h1 h2 => absurd ⟨h2, h1, zV_i0 hv (by omega)⟩ hn) (fun _ _ => ⟨rfl, fun _ w' _ => by unfold bf upd; rw [if_neg (by omega)]⟩) (fun _ _ => rfl)) d kk
theorem zg_X1_jarsOfFirst (hX : zX p l s m args meth c R g own cc n ret lvl mc) {f index : Nat} {gb cb : Nat → Int32} (hf : f < 11) (hlink : Cond.fieldLink own index RX1 "jarsOfFirst" "I" ∈ gW) (d : decode cc pc = .ok (.getfield index, 3)) (kk : zZ p l e R s m args below meth c g n Q (zF κ f gb cb) μ ω k (pc + 3) lv (.int (gb 3) :: st)) : zZ p l e R s m args below meth c g n Q (zF κ f gb cb) μ ω k pc lv (.ref (gA g 6 f 0) :: st) := z_get hX (q := 5) (zV6 hf) zE6 rfl win_X1 (by decide) rfl hlink rfl d kk
theorem zp_X1_jarsOfFirst (hX : zX p l s m args meth c R g own cc n ret lvl mc) {f index : Nat} {gb cb : Nat → Int32} {x : Int32} (hf : f < 11) (hlink : Cond.fieldLink own index RX1 "jarsOfFirst" "I" ∈ gW) (d : decode cc pc = .ok (.putfield index, 3)) (kk : zZ p l e R s m args below meth c g n Q (zF κ f (upd gb 3 x) cb) μ ω k (pc + 3) lv st) : zZ p l e R s m args below meth c g n Q (zF κ f gb cb) μ ω k pc lv (.int x :: .ref (gA g 6 f 0) :: st) := z_put hX (κ' := zF κ f (upd gb 3 x) cb) (q := 5) (ty := .int) (zV6 hf) zE6 rfl win_X1 tyX1_ok nmX1 (by decide) rfl rfl hlink (by decide +kernel) rfl rfl (Nat.le_of_ble_eq_true rfl) (by rw [zE6]; rfl) (fun t' f' i' hv hn => zE_F (fun h1 h2 => absurd ⟨h2, h1, zV_i0 hv (by omega)⟩ hn) (fun _ _ => ⟨rfl, fun _ w' _ => by unfold bf upd; rw [if_neg (by omega)]⟩) (fun _ _ => rfl)) d kk
theorem zg_X1_jarsOfSecond (hX : zX p l s m args meth c R g own cc n ret lvl mc) {f index : Nat} {gb cb : Nat → Int32} (hf : f < 11) (hlink : Cond.fieldLink own index RX1 "jarsOfSecond" "I" ∈ gW) (d : decode cc pc = .ok (.getfield index, 3)) (kk : zZ p l e R s m args below meth c g n Q (zF κ f gb cb) μ ω k (pc + 3) lv (.int (gb 4) :: st)) : zZ p l e R s m args below meth c g n Q (zF κ f gb cb) μ ω k pc lv (.ref (gA g 6 f 0) :: st) := z_get hX (q := 6) (zV6 hf) zE6 rfl win_X1 (by decide) rfl hlink rfl d kk
theorem zp_X1_jarsOfSecond (hX : zX p l s m args meth c R g own cc n ret lvl mc) {f index : Nat} {gb cb : Nat → Int32} {x : Int32} (hf : f < 11) (hlink : Cond.fieldLink own index RX1 "jarsOfSecond" "I" ∈ gW) (d : decode cc pc = .ok (.putfield index, 3)) (kk : zZ p l e R s m args below meth c g n Q (zF κ f (upd gb 4 x) cb) μ ω k (pc + 3) lv st) : zZ p l e R s m args below meth c g n Q (zF κ f gb cb) μ ω k pc lv (.int x :: .ref (gA g 6 f 0) :: st) := z_put hX (κ' := zF κ f (upd gb 4 x) cb) (q := 6) (ty := .int) (zV6 hf) zE6 rfl win_X1 tyX1_ok nmX1 (by decide) rfl rfl hlink (by decide +kernel) rfl rfl (Nat.le_of_ble_eq_true rfl) (by rw [zE6]; rfl) (fun t' f' i' hv hn => zE_F (fun h1 h2 => absurd ⟨h2, h1, zV_i0 hv (by omega)⟩ hn) (fun _ _ => ⟨rfl, fun _ w' _ => by unfold bf upd; rw [if_neg (by omega)]⟩) (fun _ _ => rfl)) d kk
theorem za_cells (hX : zX p l s m args meth c R g own cc n ret lvl mc) {f q : Nat} {gb cb : Nat → Int32} {j : Int32} (hf : f < 11) (hj : j = nI q) (hq : q < 30) (d : decode cc pc = .ok (.iaload, 1)) (kk : zZ p l e R s m args below meth c g n Q (zF κ f gb cb) μ ω k (pc + 1) lv (.int (cb q) :: st)) : zZ p l e R s m args below meth c g n Q (zF κ f gb cb) μ ω k pc lv (.int j :: .ref (gA g 8 f 0) :: st) := by
  subst hj
  refine z_iald hX (t0 := 1) (zV8 hf) zE8 rfl (vp_in_nI hq (by decide)) d ?_
  rw [nI_clamp (by omega)]
  exact kk
theorem zs_cells (hX : zX p l s m args meth c R g own cc n ret lvl mc) {f q : Nat} {gb cb : Nat → Int32} {j x : Int32} (hf : f < 11) (hj : j = nI q) (hq : q < 30) (d : decode cc pc = .ok (.iastore, 1)) (kk : zZ p l e R s m args below meth c g n Q (zF κ f gb (upd cb q x)) μ ω k (pc + 1) lv st) : zZ p l e R s m args below meth c g n Q (zF κ f gb cb) μ ω k pc lv (.int x :: .int j :: .ref (gA g 8 f 0) :: st) := by
  subst hj
  refine z_iast hX (t0 := 1) (κ' := zF κ f gb (upd cb q x)) (zV8 hf) zE8 rfl (vp_in_nI hq (by decide)) (by rw [zE8, nI_clamp (by omega)]) (fun t' f' i' hv hn => zE_F (fun _ _ => ⟨rfl, rfl, rfl, rfl, rfl⟩) (fun _ _ => ⟨rfl, fun _ _ _ => rfl⟩) (fun h1 h2 => absurd ⟨h2, h1, zV_i0 hv (by omega)⟩ hn)) d kk
theorem zl_cells (hX : zX p l s m args meth c R g own cc n ret lvl mc) {f : Nat} {gb cb : Nat → Int32} (hf : f < 11) (d : decode cc pc = .ok (.arraylength, 1)) (kk : zZ p l e R s m args below meth c g n Q (zF κ f gb cb) μ ω k (pc + 1) lv (.int 30 :: st)) : zZ p l e R s m args below meth c g n Q (zF κ f gb cb) μ ω k pc lv (.ref (gA g 8 f 0) :: st) := z_alen hX (t0 := 1) (zV8 hf) zE8 rfl rfl d kk
theorem zl_lines (hX : zX p l s m args meth c R g own cc n ret lvl mc) {f : Nat} (hf : f < 11) (d : decode cc pc = .ok (.arraylength, 1)) (kk : zZ p l e R s m args below meth c g n Q κ μ ω k (pc + 1) lv (.int 12 :: st)) : zZ p l e R s m args below meth c g n Q κ μ ω k pc lv (.ref (gA g 7 f 0) :: st) := z_alen hX (t0 := 3) (zV7 hf) rfl rfl rfl d kk
theorem za_lines (hX : zX p l s m args meth c R g own cc n ret lvl mc) {f q : Nat} {j : Int32} (hf : f < 11) (hj : j = nI q) (hq : q < 12) (d : decode cc pc = .ok (.aaload, 1)) (kk : zZ p l e R s m args below meth c g n Q κ μ ω k (pc + 1) lv (.ref (gA g 9 f q) :: st)) : zZ p l e R s m args below meth c g n Q κ μ ω k pc lv (.int j :: .ref (gA g 7 f 0) :: st) := by
  subst hj
  exact z_aald hX (t0 := 3) (zV7 hf) rfl rfl (vp_in_nI hq (by decide)) (by rw [nI_clamp (by omega)]) d kk
theorem zl_states (hX : zX p l s m args meth c R g own cc n ret lvl mc) (d : decode cc pc = .ok (.arraylength, 1)) (kk : zZ p l e R s m args below meth c g n Q κ μ ω k (pc + 1) lv (.int 8 :: st)) : zZ p l e R s m args below meth c g n Q κ μ ω k pc lv (.ref (gA g 5 0 0) :: st) := z_alen hX (t0 := 2) zV5 rfl rfl rfl d kk
theorem za_states (hX : zX p l s m args meth c R g own cc n ret lvl mc) {q : Nat} {j : Int32} (hj : j = nI q) (hq : q < 8) (d : decode cc pc = .ok (.aaload, 1)) (kk : zZ p l e R s m args below meth c g n Q κ μ ω k (pc + 1) lv (.ref (gA g 6 (3 + q) 0) :: st)) : zZ p l e R s m args below meth c g n Q κ μ ω k pc lv (.int j :: .ref (gA g 5 0 0) :: st) := by
  subst hj
  exact z_aald hX (t0 := 2) zV5 rfl rfl (vp_in_nI hq (by decide)) (by rw [nI_clamp (by omega)]) d kk
theorem z_lookup (hX : zX p l s m args meth c R g own cc n ret lvl mc) {dflt : Int} {ps : Array (Int × Int)} {len : Nat} {x : Int32} {off : Int} {tgt : Nat} (d : decode cc pc = .ok (.lookupswitch dflt ps, len)) (hp : (ps.toList.zip (ps.toList.drop 1)).all (fun (a, next) => a.1 < next.1) = true) (ho : Op.lookupswitch.offset ps.toList dflt x.toInt = off) (ht : (pc : Int) + off = (tgt : Int)) (kk : zZ p l e R s m args below meth c g n Q κ μ ω k tgt lv st) : zZ p l e R s m args below meth c g n Q κ μ ω k pc lv (.int x :: st) := fun H ls locs hl hS hW => lv_lookup hX.1 hX.2.1 d hp ho ht (kk H ls locs hl hS hW)
theorem z_nload_n (hX : zX p l s m args meth c R g own cc n ret lvl mc) {q : Fin 4} (d : decode cc pc = .ok (.aload_n q, 1)) (j : Nat) (hj : lv[j]? = some ((q : Nat), .null)) (kk : zZ p l e R s m args below meth c g n Q κ μ ω k (pc + 1) lv (.null :: st)) : zZ p l e R s m args below meth c g n Q κ μ ω k pc lv st := fun H ls locs hl hS hW => lv_aload_nN hX.1 hX.2.1 d rfl (lv_at hl j hj) (kk H ls locs hl hS hW)
theorem z_nload (hX : zX p l s m args meth c R g own cc n ret lvl mc) {i : Nat} (d : decode cc pc = .ok (.aload i, 2)) (j : Nat) (hj : lv[j]? = some (i, .null)) (kk : zZ p l e R s m args below meth c g n Q κ μ ω k (pc + 2) lv (.null :: st)) : zZ p l e R s m args below meth c g n Q κ μ ω k pc lv st := fun H ls locs hl hS hW => lv_aloadN hX.1 hX.2.1 d (lv_at hl j hj) (kk H ls locs hl hS hW)
theorem z_nstore_n {lv' : List (Nat × Value)} (hX : zX p l s m args meth c R g own cc n ret lvl mc) {q : Fin 4} (d : decode cc pc = .ok (.astore_n q, 1)) (hn : (q : Nat) < n) (hl' : ((q : Nat), Value.null) :: lv.filter (fun z => !(z.1 == (q : Nat)) && !(z.1 + 1 == (q : Nat) && z.2.category == 2)) = lv') (kk : zZ p l e R s m args below meth c g n Q κ μ ω k (pc + 1) lv' st) : zZ p l e R s m args below meth c g n Q κ μ ω k pc lv (.null :: st) := fun H ls locs hl hS hW => lv_astore_nN hX.1 hX.2.1 d rfl hl hn hl' (fun ls hl => kk H ls locs hl hS hW)
theorem z_nstore {lv' : List (Nat × Value)} (hX : zX p l s m args meth c R g own cc n ret lvl mc) {i : Nat} (d : decode cc pc = .ok (.astore i, 2)) (hn : i < n) (hl' : (i, Value.null) :: lv.filter (fun z => !(z.1 == i) && !(z.1 + 1 == i && z.2.category == 2)) = lv') (kk : zZ p l e R s m args below meth c g n Q κ μ ω k (pc + 2) lv' st) : zZ p l e R s m args below meth c g n Q κ μ ω k pc lv (.null :: st) := fun H ls locs hl hS hW => lv_astoreN hX.1 hX.2.1 d hl hn hl' (fun ls hl => kk H ls locs hl hS hW)
end ZRB
