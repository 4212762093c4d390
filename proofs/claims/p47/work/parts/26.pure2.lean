section ZP2
def sm (f : Nat → Int32) : Nat → Int32
  | 0 => 0
  | k + 1 => sm f k + f k
theorem sm_y {f : Nat → Int32} {k : Nat} {sv x : Int32} (hs : sv = sm f k) (h : f k = x) : sv + x = sm f (k + 1) := by rw [sm, h, hs]
theorem sm_n {f : Nat → Int32} {k : Nat} {sv : Int32} (hs : sv = sm f k) (h : f k = 0) : sv = sm f (k + 1) := by rw [sm, h, hs, Int32.add_zero]
def strF (g : zB) (x : Int32) (k : Nat) : Int32 := if bf g k 0 = x then bf g k 4 else 0
def falF (g : zB) (x : Int32) (k : Nat) : Int32 := if bf g k 0 = x ∧ bf g k 7 = 2 then 1 else 0
def morF (g : zB) (k : Nat) : Int32 := if bf g k 7 = 2 then 0 else bf g k 5
def staF (g : zB) (k : Nat) : Int32 := if bf g k 7 = 0 then 1 else 0
def aliF (g : zB) (k : Nat) : Int32 := if bf g k 7 = 2 then 0 else 1
/-- line k is ahead of line i in the order of strengths -/
abbrev topB (g : zB) (i k : Nat) : Prop := bf g i 4 < bf g k 4 ∨ (bf g k 4 = bf g i 4 ∧ nI k < nI i)
def topF (g : zB) (i k : Nat) : Int32 := if topB g i k then 1 else 0
def sumB (g : zB) (x : Int32) : Int32 := sm (strF g x) (bn g)
def falB (g : zB) (x : Int32) : Int32 := sm (falF g x) (bn g)
def morB (g : zB) : Int32 := sm (morF g) (bn g)
def staB (g : zB) : Int32 := sm (staF g) (bn g)
def aliB (g : zB) : Int32 := sm (aliF g) (bn g)
def rankB (g : zB) (i : Nat) : Int32 := sm (topF g i) (bn g)
/-- the k-th column from a side's first -/
def frC (x : Int32) (k : Nat) : Int32 := if x = 0 then nI k else 9 - nI k
def froN (g : zB) (x y : Int32) : Nat → Int32
  | 0 => -1
  | k + 1 => if 0 ≤ cellB g y (frC x k) ∧ bf g (cellB g y (frC x k)).toNatClampNeg 0 = x then frC x k else froN g x y k
theorem frC_in {x : Int32} {k : Nat} (h : k < 10) : inCol (frC x k) := by
  unfold frC
  split
  · exact ⟨ge_i (by omega), le_i (b := 9) (by omega) (by decide)⟩
  · rw [show (9 : Int32) = nI 9 from rfl, pk_sub (by omega)]
    exact ⟨ge_i (by omega), le_i (b := 9) (by omega) (by decide)⟩
/-- in the field, a cell's line is what cellB says -/
theorem occ_in {g : zB} {y c : Int32} (hn : bn g ≤ 12) (hy : 0 ≤ y ∧ y < 3) (hc : inCol c) {j : Nat} (ho : occB g y c = some j) : 0 ≤ cellB g y c ∧ (cellB g y c).toNatClampNeg = j := by
  obtain ⟨h1, h2, -⟩ := occ_some hn ho
  rw [h2]
  exact ⟨ge_i (by omega), nI_clamp (by omega)⟩
theorem occ_out {g : zB} {y c : Int32} (hn : bn g ≤ 12) (hy : 0 ≤ y ∧ y < 3) (hc : inCol c) (ho : occB g y c = none) : ¬ 0 ≤ cellB g y c := by
  rw [occ_none hn ho hy hc]
  decide
/-- the signs of kinds and orders are characters -/
theorem char_k {x : Int32} (h : x = 112 ∨ x = 110 ∨ x = 99 ∨ x = 115) : narrow .char (.int x) = .int x := by rcases h with q | q | q | q <;> rw [q] <;> rfl
theorem char_o {x : Int32} (h : x = 104 ∨ x = 97 ∨ x = 99) : narrow .char (.int x) = .int x := by rcases h with q | q | q <;> rw [q] <;> rfl
end ZP2
