section ZIN
/-! THE BEGINNING: where each cell of the world lies behind the law's four makings, and what it holds -/
def refS (r : Nat) : Int32 := if r = 3 then 3 else if r = 4 then 3 else 0
def pF : Nat → Nat
  | 0 => 1
  | 1 => 16
  | 2 => 31
  | f + 3 => 48 + 15 * f
def pJ (t f i : Nat) : Nat := match t with
  | 0 => 0
  | 1 => 170
  | 2 => 168
  | 3 => 169
  | 4 => 46
  | 5 => 47
  | 6 => pF f
  | 7 => pF f + 1
  | 8 => pF f + 2
  | 9 => pF f + (3 + i)
  | _ => 0
/-- where the cells lie; behind 11: the script -/
abbrev iG (D : va_G) (q : Nat → ClassId) (B : Nat) (AK AV : Nat → Nat) (xb xL : Nat) (xf : Nat → Nat) : zG := (D, q, B, AK, AV, fun t f i => if t = 11 then (if f = 0 then xb else if f = 1 then xL else xf i) else B + pJ t f i)
def iL (w : Nat) : Int32 := if w = 3 then 112 else if w = 6 then 104 else if w = 7 then 2 else 0
def iK : zKp := fun t _ r => match t with
  | 0 => if r = 2 then -1 else if r = 3 then -1 else 0
  | 6 => refS r
  | 8 => cellsOf refS r
  | 9 => iL (r % 9)
  | _ => 0
def iM : zMu := fun t r => match t with
  | 0 => if r = 7 then -1 else if r = 8 then -1 else 0
  | 1 => refS r
  | _ => 0
def iX (g : zG) (B j : Nat) : va_E := if j < 171 then batX g B j else linE 0
theorem iM_past (x r : Nat) : iM (10 + x) r = 0 := by
  rw [Nat.add_comm]
  rfl
theorem iK9 (f i w : Nat) (hw : w < 9) : iK 9 f (9 * i + w) = iL w := by
  show iL ((9 * i + w) % 9) = iL w
  rw [show (9 * i + w) % 9 = w by omega]
theorem bn_refS : bn refS = 0 := by decide
theorem iL0 (f i w : Nat) (hw : w < 9) : zL iK f i w = iL w := by
  unfold zL
  rw [if_neg (show ¬ i < (iK 6 f 0).toNatClampNeg from by rw [show (iK 6 f 0).toNatClampNeg = 0 from bn_refS]; omega)]
  exact iK9 f i w hw
theorem iCell (j : Nat) (hj : j < 30) : cellsOf refS j = -1 := by
  unfold cellsOf
  rw [if_pos hj]
  unfold cellB
  rw [bn_refS]
  rfl
theorem iX_F (g : zG) (B f j : Nat) (hf : f < 11) (hj : j < 15) : iX g B (pF f + j) = fldX g (B + pF f) j := by
  match f, hf with
  | 0, _ =>
    show iX g B (1 + j) = fldX g (B + 1) j
    unfold iX batX
    rw [if_pos (by omega), if_neg (by omega), if_pos (by omega), show 1 + j - 1 = j by omega]
  | 1, _ =>
    show iX g B (16 + j) = fldX g (B + 16) j
    unfold iX batX
    rw [if_pos (by omega), if_neg (by omega), if_neg (by omega), if_pos (by omega), show 16 + j - 16 = j by omega]
  | 2, _ =>
    show iX g B (31 + j) = fldX g (B + 31) j
    unfold iX batX
    rw [if_pos (by omega), if_neg (by omega), if_neg (by omega), if_neg (by omega), if_pos (by omega), show 31 + j - 31 = j by omega]
  | f + 3, hf =>
    show iX g B (48 + 15 * f + j) = fldX g (B + (48 + 15 * f)) j
    unfold iX batX
    rw [if_pos (by omega), if_neg (by omega), if_neg (by omega), if_neg (by omega), if_neg (by omega), if_pos (by omega)]
    unfold hisX
    rw [if_neg (by omega), if_neg (by omega), show 48 + 15 * f + j - 46 - 2 = 15 * f + j by omega, show (15 * f + j) / 15 = f by omega, show (15 * f + j) % 15 = j by omega, show B + 46 + (2 + 15 * f) = B + (48 + 15 * f) by omega]
theorem zV_cs {t f i : Nat} (h : zV t f i) : (t < 6 ∧ f = 0 ∧ i = 0) ∨ (t = 6 ∧ f < 11 ∧ i = 0) ∨ (t = 7 ∧ f < 11 ∧ i = 0) ∨ (t = 8 ∧ f < 11 ∧ i = 0) ∨ (t = 9 ∧ f < 11 ∧ i < 12) := by
  have hk : zIdx.all (fun q => decide ((q.1 < 6 ∧ q.2.1 = 0 ∧ q.2.2 = 0) ∨ (q.1 = 6 ∧ q.2.1 < 11 ∧ q.2.2 = 0) ∨ (q.1 = 7 ∧ q.2.1 < 11 ∧ q.2.2 = 0) ∨ (q.1 = 8 ∧ q.2.1 < 11 ∧ q.2.2 = 0) ∨ (q.1 = 9 ∧ q.2.1 < 11 ∧ q.2.2 < 12))) = true := by decide +kernel
  exact of_decide_eq_true (List.all_eq_true.mp hk (t, f, i) h)
theorem zV_le9 {t f i : Nat} (h : zV t f i) : t ≤ 9 := by rcases zV_cs h with q | q | q | q | q <;> omega
theorem iG_at {D : va_G} {qC : Nat → ClassId} {B : Nat} {AK AV : Nat → Nat} {xb xL : Nat} {xf : Nat → Nat} {t f i : Nat} (h : zV t f i) : gA (iG D qC B AK AV xb xL xf) t f i = B + pJ t f i := if_neg (by have := zV_le9 h; omega)
theorem pJ_lt {t f i : Nat} (h : zV t f i) : pJ t f i < 171 := by
  have hk : zIdx.all (fun q => decide (pJ q.1 q.2.1 q.2.2 < 171)) = true := by decide +kernel
  exact of_decide_eq_true (List.all_eq_true.mp hk (t, f, i) h)
theorem pJ_nd : zNd (zIdx.map (fun q => (pJ q.1 q.2.1 q.2.2, 0, 0))) = true := by decide +kernel
theorem pJ_inj {i j : Nat} {p q : Nat × Nat × Nat} (hi : zIdx[i]? = some p) (hj : zIdx[j]? = some q) (h : pJ p.1 p.2.1 p.2.2 = pJ q.1 q.2.1 q.2.2) : i = j :=
  zNd_inj _ pJ_nd i j (pJ p.1 p.2.1 p.2.2, 0, 0) (by rw [List.getElem?_map, hi]; rfl) (by rw [List.getElem?_map, hj, h]; rfl)
theorem at_i {D : va_G} {cl : List vw_C} {a N : Nat} {cA : ClassId} {x x' : Nat → Int32} {H : Heap} (h : va_at D cl (a, .inl (cA, N, .inl x)) H) (e : ∀ j, j < N → x' j = x j) : va_at D cl (a, .inl (cA, N, .inl x')) H := by
  have h1 : H[a]? = some (vp_cell cA (N, .inl x)) := h
  show H[a]? = some (vp_cell cA (N, .inl x'))
  rw [arr_ext e]
  exact h1
theorem at_q {D : va_G} {cl : List vw_C} {a N : Nat} {cA : ClassId} {x x' : Nat → Option Nat} {H : Heap} (h : va_at D cl (a, .inl (cA, N, .inr (.inr (.inr (.inr x))))) H) (e : ∀ j, j < N → x' j = x j) : va_at D cl (a, .inl (cA, N, .inr (.inr (.inr (.inr x'))))) H := by
  have h1 : H[a]? = some (vp_cell cA (N, .inr (.inr (.inr (.inr x))))) := h
  show H[a]? = some (vp_cell cA (N, .inr (.inr (.inr (.inr x')))))
  have e2 : (fun (j : Fin N) => va_rf (x' j.val)) = fun j => va_rf (x j.val) := funext fun j => by rw [e _ j.isLt]
  have e3 : vp_cell cA (N, .inr (.inr (.inr (.inr x')))) = vp_cell cA (N, .inr (.inr (.inr (.inr x)))) := congrArg (fun z => ({ cls := cA, slots := Array.ofFn (n := N) z, vm := .none } : Cell)) e2
  rw [e3]
  exact h1
theorem iW_at {D : va_G} {qC : Nat → ClassId} {B : Nat} {AK AV : Nat → Nat} {xb xL : Nat} {xf : Nat → Nat} {H : Heap} {ν : zMu} {t f i : Nat} (hV : zV t f i) (h : va_at D vwCl (B + pJ t f i, iX (iG D qC B AK AV xb xL xf) B (pJ t f i)) H) : va_at D vwCl (gA (iG D qC B AK AV xb xL xf) t f i, zE (iG D qC B AK AV xb xL xf) iK ν [] t f i) H := by
  rcases zV_cs hV with ⟨ht, rfl, rfl⟩ | ⟨rfl, hf, rfl⟩ | ⟨rfl, hf, rfl⟩ | ⟨rfl, hf, rfl⟩ | ⟨rfl, hf, hi⟩
  · rcases (show t = 0 ∨ t = 1 ∨ t = 2 ∨ t = 3 ∨ t = 4 ∨ t = 5 by omega) with rfl | rfl | rfl | rfl | rfl | rfl
    · exact h
    · exact h
    · exact h
    · exact h
    · exact h
    · have h1 : va_at D vwCl (B + 47, .inl (qC 2, 8, .inr (.inr (.inr (.inr (fun r => if r < 8 then some (B + 46 + (2 + 15 * r)) else none)))))) H := h
      refine at_q h1 (fun j hj => ?_)
      rw [if_pos hj]
      show some (B + pF (3 + j)) = some (B + 46 + (2 + 15 * j))
      rw [Nat.add_comm 3 j]
      show some (B + (48 + 15 * j)) = some (B + 46 + (2 + 15 * j))
      congr 1
      omega
  · have e := iX_F (iG D qC B AK AV xb xL xf) B f 0 hf (by omega)
    have h1 : va_at D vwCl (B + pF f, iX (iG D qC B AK AV xb xL xf) B (pF f + 0)) H := h
    rw [e] at h1
    exact h1
  · have h1 : va_at D vwCl (B + (pF f + 1), iX (iG D qC B AK AV xb xL xf) B (pF f + 1)) H := h
    rw [iX_F _ B f 1 hf (by omega)] at h1
    have h2 : va_at D vwCl (B + (pF f + 1), .inl (qC 3, 12, .inr (.inr (.inr (.inr (fun r => if r < 12 then some (B + pF f + (3 + r)) else none)))))) H := h1
    refine at_q h2 (fun j hj => ?_)
    rw [if_pos hj]
    show some (B + (pF f + (3 + j))) = some (B + pF f + (3 + j))
    congr 1
    omega
  · have h1 : va_at D vwCl (B + (pF f + 2), iX (iG D qC B AK AV xb xL xf) B (pF f + 2)) H := h
    rw [iX_F _ B f 2 hf (by omega)] at h1
    have h2 : va_at D vwCl (B + (pF f + 2), .inl (qC 1, 30, .inl (fun r => if r < 30 then (-1 : Int32) else 0))) H := h1
    refine at_i h2 (fun j hj => ?_)
    rw [if_pos hj]
    exact iCell j hj
  · have h1 : va_at D vwCl (B + (pF f + (3 + i)), iX (iG D qC B AK AV xb xL xf) B (pF f + (3 + i))) H := h
    rw [iX_F _ B f (3 + i) hf (by omega), Nat.add_comm 3 i] at h1
    have h2 : va_at D vwCl (B + (pF f + (i + 3)), linE (nI i)) H := h1
    rw [Nat.add_comm i 3] at h2
    show va_at D vwCl (B + (pF f + (3 + i)), .inr (6, [.int (nI i), .int (zL iK f i 0), .int (zL iK f i 1), .int (zL iK f i 2), .int (zL iK f i 3), .int (zL iK f i 6), .int (zL iK f i 4), .int (zL iK f i 5), .int (zL iK f i 7), .int (zL iK f i 8)])) H
    rw [iL0 f i 0 (by decide), iL0 f i 1 (by decide), iL0 f i 2 (by decide), iL0 f i 3 (by decide), iL0 f i 4 (by decide), iL0 f i 5 (by decide), iL0 f i 6 (by decide), iL0 f i 7 (by decide), iL0 f i 8 (by decide)]
    exact h2
/-- the world, out of the new cells -/
theorem iWW {D : va_G} {qC : Nat → ClassId} {B : Nat} {AK AV : Nat → Nat} {xb xL : Nat} {xf : Nat → Nat} {H : Heap} {ν : zMu} (hP : va_P D vwCl (nW B 171 (iX (iG D qC B AK AV xb xL xf) B)) H) : WW (iG D qC B AK AV xb xL xf) iK ν [] H := by
  have key : ∀ (k : Nat) (q : Nat × va_E), (zWs (iG D qC B AK AV xb xL xf) iK ν [])[k]? = some q → ∃ z, zIdx[k]? = some z ∧ q = (gA (iG D qC B AK AV xb xL xf) z.1 z.2.1 z.2.2, zE (iG D qC B AK AV xb xL xf) iK ν [] z.1 z.2.1 z.2.2) := by
    intro k q hk
    rw [zWs, List.append_nil, List.getElem?_map] at hk
    cases hz : zIdx[k]? with
    | none => rw [hz] at hk; cases hk
    | some z =>
      rw [hz] at hk
      exact ⟨z, rfl, (Option.some.inj hk).symm⟩
  refine ⟨fun k q hk => ?_, fun i j u v hi hj e => ?_, fun k q hk => ?_⟩
  · obtain ⟨z, hz, rfl⟩ := key k q hk
    have hV : zV z.1 z.2.1 z.2.2 := List.mem_of_getElem? hz
    exact iW_at hV (hP (pJ z.1 z.2.1 z.2.2) _ (nW_get (pJ_lt hV)))
  · obtain ⟨z, hz, rfl⟩ := key i u hi
    obtain ⟨z2, hz2, rfl⟩ := key j v hj
    have e2 : B + pJ z.1 z.2.1 z.2.2 = B + pJ z2.1 z2.2.1 z2.2.2 := (iG_at (D := D) (qC := qC) (B := B) (AK := AK) (AV := AV) (xb := xb) (xL := xL) (xf := xf) (List.mem_of_getElem? hz)).symm.trans (Eq.trans e (iG_at (D := D) (qC := qC) (B := B) (AK := AK) (AV := AV) (xb := xb) (xL := xL) (xf := xf) (List.mem_of_getElem? hz2)))
    exact pJ_inj hz hz2 (by omega)
  · obtain ⟨z, hz, rfl⟩ := key k q hk
    show B ≤ gA (iG D qC B AK AV xb xL xf) z.1 z.2.1 z.2.2
    rw [iG_at (List.mem_of_getElem? hz)]
    exact Nat.le_add_right _ _
theorem bat_refS : batI refS := ⟨⟨⟨by rw [bn_refS]; omega, by decide⟩, ⟨⟨3, by decide, by decide⟩, 3, by decide, by decide⟩, fun i hi => absurd hi (by rw [bn_refS]; omega), fun i j hi => absurd hi (by rw [bn_refS]; omega)⟩, fun i hi => absurd hi (by rw [bn_refS]; omega)⟩
/-- both sides agree at the beginning -/
theorem iRR : RR iK iM := by
  refine ⟨⟨rfl, bat_refS, rfl⟩, fun f i _ _ => ⟨?_, ?_⟩, Or.inl ⟨rfl, rfl⟩, ⟨0, 0, by decide, by decide, by decide, by decide, by decide, fun j hj => absurd hj (Nat.not_lt_zero _)⟩, ⟨rfl, 0, by decide, by decide, by decide, fun q hq => absurd hq (Nat.not_lt_zero _)⟩, ⟨rfl, 0, by decide, by decide, by decide, fun q hq => absurd hq (Nat.not_lt_zero _)⟩, ⟨⟨by decide, by decide⟩, by decide, by decide⟩⟩
  · rw [iK9 f i 3 (by decide)]
    exact chW_c (Or.inl rfl)
  · rw [iK9 f i 6 (by decide)]
    exact chW_c (Or.inr (Or.inr (Or.inr (Or.inr (Or.inl rfl)))))
theorem iRou : rouW (iM 1) := fun k hk => absurd hk (by rw [show bn (iM 1) = 0 from bn_refS]; omega)
end ZIN
