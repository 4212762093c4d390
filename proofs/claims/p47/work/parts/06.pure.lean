section ZPU
/-! THE MATHEMATICAL VALUE: a battle is its row of numbers g, as the reference lays it: g 0 how many lines, g 1 turns, g 2 fights, g 3 and g 4 jars; the number w of line i stands at 5 + 9 * i + w (0 side, 1 lane, 2 column, 3 kind, 4 strength, 5 morale, 6 order, 7 how it is, 8 turns routed). -/
abbrev zB : Type := Nat → Int32
abbrev bf (g : zB) (i w : Nat) : Int32 := g (5 + 9 * i + w)
abbrev bs (g : zB) (i w : Nat) (x : Int32) : zB := upd g (5 + 9 * i + w) x
def bn (g : zB) : Nat := (g 0).toNatClampNeg
/-- the line in a cell among the first k, or -1 -/
def cellN (g : zB) (lane col : Int32) : Nat → Int32
  | 0 => -1
  | k + 1 => if ¬ bf g k 7 = 2 ∧ bf g k 1 = lane ∧ bf g k 2 = col then nI k else cellN g lane col k
def cellB (g : zB) (lane col : Int32) : Int32 := cellN g lane col (bn g)
def cellsOf (g : zB) : Nat → Int32 := fun k => if k < 30 then cellB g (nI (k / 10)) (nI (k % 10)) else -1
def attB (g : zB) (i : Nat) : Int32 := if bf g i 3 = 112 then bf g i 4 / 4 else if bf g i 3 = 110 then bf g i 4 / 5 + 2 else if bf g i 3 = 99 then bf g i 4 / 3 else bf g i 4 / 6 + 1
def cntB (g : zB) (i : Nat) : Int32 := if bf g i 3 = 112 then bf g i 4 / 8 else if bf g i 3 = 110 then bf g i 4 / 4 else if bf g i 3 = 99 then bf g i 4 / 10 else bf g i 4 / 6
/-- line j supports line i -/
abbrev nearB (g : zB) (i j : Nat) : Prop := (bf g j 1 - bf g i 1) * (bf g j 1 - bf g i 1) = 1 ∧ bf g j 2 = bf g i 2 ∧ bf g j 7 = 0 ∧ bf g j 0 = bf g i 0
def supN (g : zB) (i : Nat) : Nat → Int32
  | 0 => 0
  | k + 1 => supN g i k + (if nearB g i k then 1 else 0)
def supB (g : zB) (i : Nat) : Int32 := supN g i (bn g)
def mx (v : Int32) : Int32 := if 0 < v then v else 0
def mn (v : Int32) : Int32 := if v < 20 then v else 20
def losB (g : zB) (i : Nat) (d : Int32) : zB := bs (bs g i 4 (mx (bf g i 4 - d))) i 5 (mx (bf g i 5 - d / 3))
def setB (g : zB) (i : Nat) : zB := if bf g i 4 = 0 then bs g i 7 2 else if bf g i 7 = 0 ∧ bf g i 5 < 5 then bs g i 7 1 else g
/-- the damage of a fight -/
def damB (g : zB) (i : Nat) (ch : Prop) [Decidable ch] : Int32 := attB g i + 2 * supB g i + (if ch ∧ bf g i 3 = 112 then 6 else 0)
/-- the counter, where the enemy has strength -/
def ctrB (g : zB) (i j : Nat) : zB := if 0 < bf g j 4 then losB g i (cntB g j) else g
def figB (g : zB) (i j : Nat) (ch : Prop) [Decidable ch] : zB := upd (setB (setB (ctrB (losB g j (damB g i ch)) i j) i) j) 2 (g 2 + 1)
def wayB (g : zB) (i : Nat) : Int32 := if bf g i 0 = 0 then 1 else -1
abbrev inCol (x : Int32) : Prop := 0 ≤ x ∧ x ≤ 9
/-- the step is free: its column -/
abbrev canB (g : zB) (i : Nat) (col : Int32) : Prop := inCol col ∧ cellB g (bf g i 1) col < 0
def stepB (g : zB) (i : Nat) (col : Int32) : zB := if canB g i col then bs g i 2 col else g
def resB (g : zB) (i : Nat) : zB := if 8 ≤ bf g i 5 then bs (bs g i 7 0) i 6 104 else g
def fleB (g : zB) (i : Nat) : zB :=
  let g1 := stepB g i (bf g i 2 + -1 * wayB g i)
  let g2 := bs g1 i 5 (mn (bf g1 i 5 + 1))
  resB (bs g2 i 8 (bf g2 i 8 + 1)) i
abbrev foeB (g : zB) (i : Nat) (x : Int32) : Prop := 0 ≤ x ∧ ¬ bf g x.toNatClampNeg 0 = bf g i 0
abbrev fwdB (g : zB) (i : Nat) : Int32 := bf g i 2 + wayB g i
abbrev chaB (g : zB) (i : Nat) : Prop := bf g i 6 = 99 ∧ canB g i (fwdB g i)
def goB1 (g : zB) (i : Nat) : zB := if bf g i 6 = 99 then stepB g i (fwdB g i) else g
def goB2 (g : zB) (i : Nat) : zB := if chaB g i then stepB (goB1 g i) i (fwdB (goB1 g i) i) else goB1 g i
/-- who stands in the next cell -/
def aheB (g : zB) (i : Nat) : Int32 := cellB g (bf g i 1) (bf g i 2 + wayB g i)
def finB (g : zB) (i : Nat) (m : Prop) [Decidable m] (o : Int32) : zB := if foeB g i (aheB g i) then figB g i (aheB g i).toNatClampNeg m else if o = 97 then stepB g i (fwdB g i) else g
def actB (g : zB) (i : Nat) : zB := if bf g i 6 = 104 then bs g i 5 (mn (bf g i 5 + 1)) else finB (goB2 g i) i (chaB g i) (bf g i 6)
def onceB (g : zB) (i : Nat) : zB := if bf g i 7 = 1 then fleB g i else if bf g i 7 = 0 then actB g i else g
def passN (g : zB) : Nat → zB
  | 0 => g
  | k + 1 => onceB (passN g k) k
def passB (g : zB) : zB := upd (passN g (bn g)) 1 (passN g (bn g) 1 + 1)
/-- what every battle keeps -/
def lineW (g : zB) (i : Nat) : Prop := (bf g i 0 = 0 ∨ bf g i 0 = 1) ∧ (∃ a, a < 3 ∧ bf g i 1 = nI a) ∧ (∃ a, a < 10 ∧ bf g i 2 = nI a) ∧ (bf g i 3 = 112 ∨ bf g i 3 = 110 ∨ bf g i 3 = 99 ∨ bf g i 3 = 115) ∧ (∃ a, a ≤ 99 ∧ bf g i 4 = nI a) ∧ (∃ a, a ≤ 20 ∧ bf g i 5 = nI a) ∧ (bf g i 6 = 104 ∨ bf g i 6 = 97 ∨ bf g i 6 = 99) ∧ (bf g i 7 = 0 ∨ bf g i 7 = 1 ∨ bf g i 7 = 2)
abbrev iffW (g : zB) (i : Nat) : Prop := bf g i 7 = 2 ↔ bf g i 4 = 0
/-- the count stands in the row, and is small -/
abbrev bnI (g : zB) : Prop := bn g ≤ 12 ∧ g 0 = nI (bn g)
/-- no two lines are in one cell -/
abbrev uniB (g : zB) : Prop := ∀ i j, i < bn g → j < bn g → ¬ bf g i 7 = 2 → ¬ bf g j 7 = 2 → bf g i 1 = bf g j 1 → bf g i 2 = bf g j 2 → i = j
def batW (g : zB) : Prop := bnI g ∧ ((∃ a, a ≤ 3 ∧ g 3 = nI a) ∧ ∃ a, a ≤ 3 ∧ g 4 = nI a) ∧ (∀ i, i < bn g → lineW g i) ∧ uniB g
def batI (g : zB) : Prop := batW g ∧ ∀ i, i < bn g → iffW g i
end ZPU
