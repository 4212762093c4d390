section ZB
/-- a private method of a class above, chosen for an object of a class below -/
theorem sel_priv {C : String} {y z : MethodName} {s : State} {args : Array Value} (hy : y.cls ≠ "java/lang/invoke/MethodHandle" ∧ y.cls ≠ "java/lang/invoke/VarHandle") (hz : z.cls = y.cls)
    (hs : (Cond.selects C z z).before args s = true) (hpriv : (Cond.privateMethod y).before args s = true) (hinst : (Cond.instanceMethod y).before args s = true) : (Cond.selects C y y).before args s = true := by
  obtain ⟨c, r, mz, hc, -, hnz, -, kz, hkz, hiz⟩ := Cond.selects_spec hs
  obtain ⟨mk, methM, hnamed, hmethM, -, -⟩ := Cond.instanceMethod_spec hinst
  have hfound : s.methodFound? y.cls y.name y.desc = some mk := State.methodFound?_of_named hnamed hy
  have hcls : mk.cls = mz.cls := Option.some.inj ((findClass_of_methodNamed hnamed).symm.trans (by rw [← hz]; exact findClass_of_methodNamed hnz))
  have hsel : selectMethod {} s.vm c mk = .method mk := selectMethod_private hmethM (Cond.privateMethod_at hpriv mk methM hnamed hmethM)
  simp only [Cond.before, Cond.holds, Cond.value, hc, hfound, hnamed, hsel, hcls, hkz]
  simp; exact hiz
def sbP : List MethodName := [yJ5_ensureCapacityInternal_d00df, yJ5_newCapacity_0f7a4, yJ5_putStringAt_47b60, yJ5_inflateIfNeededFor_a7421]
/-- AbstractStringBuilder's private methods, for a StringBuilder -/
def sbS : List Cond := sbP.map (fun y => Cond.selects RJ4 y y)
theorem sbP_ok : ∀ y ∈ sbP, y.cls = RJ5 ∧ Cond.privateMethod y ∈ tables_1 ∧ Cond.instanceMethod y ∈ tables_1 := by decide +kernel
theorem sbL_in : Cond.selects RJ4 yJ5_isLatin1_aae02 yJ5_isLatin1_aae02 ∈ tables_1 := by decide +kernel
theorem sbS_ok {args : Array Value} {s : State} (hts : ∀ w ∈ lw_tbl, w.before args s = true) : ∀ w ∈ sbS, w.before args s = true := fun w hw => by
  obtain ⟨y, hy, rfl⟩ := List.mem_map.mp hw
  obtain ⟨h1, h2, h3⟩ := sbP_ok y hy
  exact sel_priv (z := yJ5_isLatin1_aae02) (by rw [h1]; decide) h1.symm (hts _ (List.mem_append_right _ sbL_in)) (hts _ (List.mem_append_right _ h2)) (hts _ (List.mem_append_right _ h3))
/-- one list of words for every method: the good words of the tables -/
def gW : List Cond := (sbS ++ lw_tbl).filter goodWord
theorem gW_L {w : Cond} (h : w ∈ lw_tbl) (hg : goodWord w = true) : w ∈ gW := List.mem_filter.mpr ⟨List.mem_append_right _ h, hg⟩
theorem gW_T {w : Cond} (h : w ∈ tables_1) (hg : goodWord w = true) : w ∈ gW := gW_L (List.mem_append_right _ h) hg
theorem gW_B {y : MethodName} (h : y ∈ sbP) : Cond.selects RJ4 y y ∈ gW := List.mem_filter.mpr ⟨List.mem_append_left _ (List.mem_map.mpr ⟨y, h, rfl⟩), rfl⟩
theorem gW_I (i : Nat) {w : Cond} (h : tables_1[i]? = some w) (hg : goodWord w = true) : w ∈ gW := gW_T (List.mem_of_getElem? h) hg
theorem gW_P {y : MethodName} {k : Nat} (h : (y, k) ∈ lw_privs) : Cond.selects y.cls y y ∈ gW := gW_L (List.mem_append_left _ (List.mem_map.mpr ⟨(y, k), h, rfl⟩)) rfl
theorem gW_all {args : Array Value} {s : State} (hts : ∀ w ∈ lw_tbl, w.before args s = true) : ∀ w ∈ gW, w.before args s = true := fun w h => (List.mem_append.mp (List.mem_filter.mp h).1).elim (sbS_ok hts w) (hts w)
theorem gW_g {w : Cond} (h : w ∈ gW) : goodWord w = true := (List.mem_filter.mp h).2
theorem gW_in {ws : List Cond} (h : ∀ w ∈ ws, w ∈ gW) : GoodIn gW ws := fun w hw => ⟨h w hw, good_of_word (gW_g (h w hw))⟩
theorem gW_V {own C : String} {idx : Nat} {y : MethodName} {w : Cond} (h1 : Cond.methodLink own idx y ∈ gW) (h2 : Cond.instanceMethod y ∈ gW) (h3 : Cond.selects C y y ∈ gW) (h4 : Cond.initialized C ∈ gW) (h5 : w ∈ gW) : GoodIn gW (wsV own idx C y (w :: gW)) := gW_in (fun v hv => by
  simp only [wsV, List.mem_append, List.mem_cons, List.not_mem_nil, or_false] at hv
  rcases hv with (rfl | rfl | rfl | rfl) | rfl | hv
  all_goals assumption)
theorem gW_S {own : String} {idx : Nat} {y : MethodName} {w : Cond} (h1 : Cond.methodLink own idx y ∈ gW) (h2 : Cond.static y ∈ gW) (h4 : Cond.initialized y.cls ∈ gW) (h5 : w ∈ gW) : GoodIn gW (va_wsS own idx y (w :: gW)) := gW_in (fun v hv => by
  simp only [va_wsS, List.mem_append, List.mem_cons, List.not_mem_nil, or_false] at hv
  rcases hv with (rfl | rfl | rfl) | rfl | hv
  all_goals assumption)
theorem gW_C {w : Cond} (h5 : w ∈ gW) : GoodIn gW (w :: gW) := gW_in (fun v hv => by
  simp only [List.mem_cons] at hv
  rcases hv with rfl | hv
  all_goals assumption)
/-- classes and array classes, the heap's first new address, the texts' and the bytes' addresses, the addresses of the world -/
abbrev zG : Type := va_G × (Nat → ClassId) × Nat × (Nat → Nat) × (Nat → Nat) × (Nat → Nat → Nat → Nat)
abbrev zKp : Type := Nat → Nat → Nat → Int32
abbrev zMu : Type := Nat → Nat → Int32
/-- further cells beside the class's own -/
abbrev zOm : Type := va_W
abbrev gD (g : zG) : va_G := g.1
abbrev gQ (g : zG) (k : Nat) : ClassId := g.2.1 k
abbrev gS (g : zG) : Nat := g.2.2.1
abbrev gAK (g : zG) : Nat → Nat := g.2.2.2.1
abbrev gAV (g : zG) : Nat → Nat := g.2.2.2.2.1
abbrev gA (g : zG) : Nat → Nat → Nat → Nat := g.2.2.2.2.2
abbrev gT (g : zG) : List (ClassId × FieldType) := [(gQ g 0, .char), (gQ g 1, .int), (gQ g 2, .object "LineBattle$Field"), (gQ g 3, .object "LineBattle$Line"), (gQ g 4, .long), (gQ g 5, .byte)]
def gK (g : zG) (U : State) : Prop := va_K (gD g) vwCl (gT g) U
def zA (g : zG) : Nat → Prop := fun q => gS g ≤ q
theorem gK.moved {g : zG} {u U : State} (hvm : u.vm.Alike U.vm) (h : gK g u) : gK g U := va_K.moved hvm h

/-- the texts: class, place in its pool, the text -/
def zLit : List (String × Nat × String) := [("LineBattle$Field", 64, "pncs"), ("LineBattle", 60, "side, lane, kind or strength is out of range"), ("LineBattle", 67, "there are 12 lines already"), ("LineBattle", 72, "there is a line in the first column"), ("LineBattle$Field", 111, "hac"), ("LineBattle", 88, "there is no such line"), ("LineBattle", 91, "there is no such order"), ("LineBattle", 93, "the line does not stand"), ("LineBattle", 103, "the line is not routed"), ("LineBattle", 105, "its side has no jar"), ("LineBattle", 336, "the line has fallen"), ("LineBattle", 165, "there is no such cell"), ("LineBattle", 173, "there is no line in this cell"), ("LineBattle", 196, "there is no enemy ahead"), ("LineBattleLaw", 155, "pncs"), ("LineBattle", 328, "there is no such side"), ("LineBattle", 228, "there is no such side or lane"), ("LineBattle", 234, "the side has no line in this lane"), ("LineBattle", 236, "both sides have the same strength"), ("LineBattle", 241, "there is no such rank"), ("LineBattle", 246, "there is no such lane"), ("LineBattle", 256, "there is no such character"), ("LineBattle", 263, "there are no lines that have not fallen"), ("LineBattle", 269, "no line was added"), ("LineBattle", 277, "the character is not from 32 to 126"), ("LineBattle", 283, "the buffer is full"), ("LineBattle$CommandText", 53, "line"), ("LineBattle$CommandText", 62, "pncs"), ("LineBattle$CommandText", 70, "order"), ("LineBattle$CommandText", 72, "hac"), ("LineBattle$CommandText", 74, "rally"), ("LineBattle$CommandText", 76, "turn"), ("LineBattle", 297, "the text is malformed"), ("LineBattle", 308, "a command failed"), ("LineBattleLaw", 163, "aach"), ("LineBattleLaw", 286, ""), ("LineBattle", 318, "nothing can be undone"), ("LineBattleLaw", 298, "PNCS"), ("java/util/Arrays", 337, " > "), ("LineBattleLaw", 307, "!"), ("LineBattleLaw", 337, "pncsx"), ("LineBattleLaw", 339, "hacx"), ("LineBattleLaw", 341, "order "), ("LineBattleLaw", 346, " a;turn;order "), ("LineBattleLaw", 348, " c;turn")]
def zByt : List (List Int32) := [[112, 110, 99, 115], [115, 105, 100, 101, 44, 32, 108, 97, 110, 101, 44, 32, 107, 105, 110, 100, 32, 111, 114, 32, 115, 116, 114, 101, 110, 103, 116, 104, 32, 105, 115, 32, 111, 117, 116, 32, 111, 102, 32, 114, 97, 110, 103, 101], [116, 104, 101, 114, 101, 32, 97, 114, 101, 32, 49, 50, 32, 108, 105, 110, 101, 115, 32, 97, 108, 114, 101, 97, 100, 121], [116, 104, 101, 114, 101, 32, 105, 115, 32, 97, 32, 108, 105, 110, 101, 32, 105, 110, 32, 116, 104, 101, 32, 102, 105, 114, 115, 116, 32, 99, 111, 108, 117, 109, 110], [104, 97, 99], [116, 104, 101, 114, 101, 32, 105, 115, 32, 110, 111, 32, 115, 117, 99, 104, 32, 108, 105, 110, 101], [116, 104, 101, 114, 101, 32, 105, 115, 32, 110, 111, 32, 115, 117, 99, 104, 32, 111, 114, 100, 101, 114], [116, 104, 101, 32, 108, 105, 110, 101, 32, 100, 111, 101, 115, 32, 110, 111, 116, 32, 115, 116, 97, 110, 100], [116, 104, 101, 32, 108, 105, 110, 101, 32, 105, 115, 32, 110, 111, 116, 32, 114, 111, 117, 116, 101, 100], [105, 116, 115, 32, 115, 105, 100, 101, 32, 104, 97, 115, 32, 110, 111, 32, 106, 97, 114], [116, 104, 101, 32, 108, 105, 110, 101, 32, 104, 97, 115, 32, 102, 97, 108, 108, 101, 110], [116, 104, 101, 114, 101, 32, 105, 115, 32, 110, 111, 32, 115, 117, 99, 104, 32, 99, 101, 108, 108], [116, 104, 101, 114, 101, 32, 105, 115, 32, 110, 111, 32, 108, 105, 110, 101, 32, 105, 110, 32, 116, 104, 105, 115, 32, 99, 101, 108, 108], [116, 104, 101, 114, 101, 32, 105, 115, 32, 110, 111, 32, 101, 110, 101, 109, 121, 32, 97, 104, 101, 97, 100], [112, 110, 99, 115], [116, 104, 101, 114, 101, 32, 105, 115, 32, 110, 111, 32, 115, 117, 99, 104, 32, 115, 105, 100, 101], [116, 104, 101, 114, 101, 32, 105, 115, 32, 110, 111, 32, 115, 117, 99, 104, 32, 115, 105, 100, 101, 32, 111, 114, 32, 108, 97, 110, 101], [116, 104, 101, 32, 115, 105, 100, 101, 32, 104, 97, 115, 32, 110, 111, 32, 108, 105, 110, 101, 32, 105, 110, 32, 116, 104, 105, 115, 32, 108, 97, 110, 101], [98, 111, 116, 104, 32, 115, 105, 100, 101, 115, 32, 104, 97, 118, 101, 32, 116, 104, 101, 32, 115, 97, 109, 101, 32, 115, 116, 114, 101, 110, 103, 116, 104], [116, 104, 101, 114, 101, 32, 105, 115, 32, 110, 111, 32, 115, 117, 99, 104, 32, 114, 97, 110, 107], [116, 104, 101, 114, 101, 32, 105, 115, 32, 110, 111, 32, 115, 117, 99, 104, 32, 108, 97, 110, 101], [116, 104, 101, 114, 101, 32, 105, 115, 32, 110, 111, 32, 115, 117, 99, 104, 32, 99, 104, 97, 114, 97, 99, 116, 101, 114], [116, 104, 101, 114, 101, 32, 97, 114, 101, 32, 110, 111, 32, 108, 105, 110, 101, 115, 32, 116, 104, 97, 116, 32, 104, 97, 118, 101, 32, 110, 111, 116, 32, 102, 97, 108, 108, 101, 110], [110, 111, 32, 108, 105, 110, 101, 32, 119, 97, 115, 32, 97, 100, 100, 101, 100], [116, 104, 101, 32, 99, 104, 97, 114, 97, 99, 116, 101, 114, 32, 105, 115, 32, 110, 111, 116, 32, 102, 114, 111, 109, 32, 51, 50, 32, 116, 111, 32, 49, 50, 54], [116, 104, 101, 32, 98, 117, 102, 102, 101, 114, 32, 105, 115, 32, 102, 117, 108, 108], [108, 105, 110, 101], [112, 110, 99, 115], [111, 114, 100, 101, 114], [104, 97, 99], [114, 97, 108, 108, 121], [116, 117, 114, 110], [116, 104, 101, 32, 116, 101, 120, 116, 32, 105, 115, 32, 109, 97, 108, 102, 111, 114, 109, 101, 100], [97, 32, 99, 111, 109, 109, 97, 110, 100, 32, 102, 97, 105, 108, 101, 100], [97, 97, 99, 104], [], [110, 111, 116, 104, 105, 110, 103, 32, 99, 97, 110, 32, 98, 101, 32, 117, 110, 100, 111, 110, 101], [80, 78, 67, 83], [32, 62, 32], [33], [112, 110, 99, 115, 120], [104, 97, 99, 120], [111, 114, 100, 101, 114, 32], [32, 97, 59, 116, 117, 114, 110, 59, 111, 114, 100, 101, 114, 32], [32, 99, 59, 116, 117, 114, 110]]
/-- pairs of classes said not castable -/
def zNc : List (String × String) := [("LineBattle", "java/lang/IllegalArgumentException"), ("LineBattle$Field", "java/lang/IllegalArgumentException"), ("LineBattle$Line", "java/lang/IllegalArgumentException"), ("LineBattle$History", "java/lang/IllegalArgumentException"), ("LineBattle$CommandText", "java/lang/IllegalArgumentException"), ("java/lang/IllegalStateException", "java/lang/IllegalArgumentException"), ("java/lang/UnsupportedOperationException", "java/lang/IllegalArgumentException"), ("java/lang/ArrayIndexOutOfBoundsException", "java/lang/IllegalArgumentException"), ("java/lang/IndexOutOfBoundsException", "java/lang/IllegalArgumentException"), ("java/util/NoSuchElementException", "java/lang/IllegalArgumentException"), ("java/lang/ArithmeticException", "java/lang/IllegalArgumentException"), ("java/lang/StringBuilder", "java/lang/IllegalArgumentException"), ("java/lang/String", "java/lang/IllegalArgumentException"), ("LineBattle", "java/lang/IllegalStateException"), ("LineBattle$Field", "java/lang/IllegalStateException"), ("LineBattle$Line", "java/lang/IllegalStateException"), ("LineBattle$History", "java/lang/IllegalStateException"), ("LineBattle$CommandText", "java/lang/IllegalStateException"), ("java/lang/IllegalArgumentException", "java/lang/IllegalStateException"), ("java/lang/UnsupportedOperationException", "java/lang/IllegalStateException"), ("java/lang/ArrayIndexOutOfBoundsException", "java/lang/IllegalStateException"), ("java/lang/IndexOutOfBoundsException", "java/lang/IllegalStateException"), ("java/util/NoSuchElementException", "java/lang/IllegalStateException"), ("java/lang/ArithmeticException", "java/lang/IllegalStateException"), ("java/lang/StringBuilder", "java/lang/IllegalStateException"), ("java/lang/String", "java/lang/IllegalStateException"), ("LineBattle", "java/lang/UnsupportedOperationException"), ("LineBattle$Field", "java/lang/UnsupportedOperationException"), ("LineBattle$Line", "java/lang/UnsupportedOperationException"), ("LineBattle$History", "java/lang/UnsupportedOperationException"), ("LineBattle$CommandText", "java/lang/UnsupportedOperationException"), ("java/lang/IllegalArgumentException", "java/lang/UnsupportedOperationException"), ("java/lang/IllegalStateException", "java/lang/UnsupportedOperationException"), ("java/lang/ArrayIndexOutOfBoundsException", "java/lang/UnsupportedOperationException"), ("java/lang/IndexOutOfBoundsException", "java/lang/UnsupportedOperationException"), ("java/util/NoSuchElementException", "java/lang/UnsupportedOperationException"), ("java/lang/ArithmeticException", "java/lang/UnsupportedOperationException"), ("java/lang/StringBuilder", "java/lang/UnsupportedOperationException"), ("java/lang/String", "java/lang/UnsupportedOperationException"), ("LineBattle", "java/lang/IndexOutOfBoundsException"), ("LineBattle$Field", "java/lang/IndexOutOfBoundsException"), ("LineBattle$Line", "java/lang/IndexOutOfBoundsException"), ("LineBattle$History", "java/lang/IndexOutOfBoundsException"), ("LineBattle$CommandText", "java/lang/IndexOutOfBoundsException"), ("java/lang/IllegalArgumentException", "java/lang/IndexOutOfBoundsException"), ("java/lang/IllegalStateException", "java/lang/IndexOutOfBoundsException"), ("java/lang/UnsupportedOperationException", "java/lang/IndexOutOfBoundsException"), ("java/util/NoSuchElementException", "java/lang/IndexOutOfBoundsException"), ("java/lang/ArithmeticException", "java/lang/IndexOutOfBoundsException"), ("java/lang/StringBuilder", "java/lang/IndexOutOfBoundsException"), ("java/lang/String", "java/lang/IndexOutOfBoundsException"), ("LineBattle", "java/util/NoSuchElementException"), ("LineBattle$Field", "java/util/NoSuchElementException"), ("LineBattle$Line", "java/util/NoSuchElementException"), ("LineBattle$History", "java/util/NoSuchElementException"), ("LineBattle$CommandText", "java/util/NoSuchElementException"), ("java/lang/IllegalArgumentException", "java/util/NoSuchElementException"), ("java/lang/IllegalStateException", "java/util/NoSuchElementException"), ("java/lang/UnsupportedOperationException", "java/util/NoSuchElementException"), ("java/lang/ArrayIndexOutOfBoundsException", "java/util/NoSuchElementException"), ("java/lang/IndexOutOfBoundsException", "java/util/NoSuchElementException"), ("java/lang/ArithmeticException", "java/util/NoSuchElementException"), ("java/lang/StringBuilder", "java/util/NoSuchElementException"), ("java/lang/String", "java/util/NoSuchElementException"), ("LineBattle", "LineBattle$Line"), ("LineBattle$Field", "LineBattle$Line"), ("LineBattle$History", "LineBattle$Line"), ("LineBattle$CommandText", "LineBattle$Line"), ("java/lang/IllegalArgumentException", "LineBattle$Line"), ("java/lang/IllegalStateException", "LineBattle$Line"), ("java/lang/UnsupportedOperationException", "LineBattle$Line"), ("java/lang/ArrayIndexOutOfBoundsException", "LineBattle$Line"), ("java/lang/IndexOutOfBoundsException", "LineBattle$Line"), ("java/util/NoSuchElementException", "LineBattle$Line"), ("java/lang/ArithmeticException", "LineBattle$Line"), ("java/lang/StringBuilder", "LineBattle$Line"), ("java/lang/String", "LineBattle$Line"), ("java/lang/Throwable", "LineBattle$Line"), ("LineBattle", "LineBattle$Field"), ("LineBattle$Line", "LineBattle$Field"), ("LineBattle$History", "LineBattle$Field"), ("LineBattle$CommandText", "LineBattle$Field"), ("java/lang/IllegalArgumentException", "LineBattle$Field"), ("java/lang/IllegalStateException", "LineBattle$Field"), ("java/lang/UnsupportedOperationException", "LineBattle$Field"), ("java/lang/ArrayIndexOutOfBoundsException", "LineBattle$Field"), ("java/lang/IndexOutOfBoundsException", "LineBattle$Field"), ("java/util/NoSuchElementException", "LineBattle$Field"), ("java/lang/ArithmeticException", "LineBattle$Field"), ("java/lang/StringBuilder", "LineBattle$Field"), ("java/lang/String", "LineBattle$Field"), ("java/lang/Throwable", "LineBattle$Field")]
def gNc (U : State) : Prop := ∀ q ∈ zNc, va_Nc q.1 q.2 U
/-- words that the tables decide, but of those that a run warms -/
def zIsNw : Cond → Bool
  | .methodLinkNest .. => true
  | .castable .. => true
  | .declares _ => true
  | _ => false
def gNw (U : State) : Prop := ∀ w ∈ tables_1, zIsNw w = true → va_Nw w U
theorem gNc.moved {u U : State} (hvm : u.vm.Alike U.vm) (h : gNc u) : gNc U := fun q hq => va_Nc.moved hvm (h q hq)
theorem gNw.warm {s U : State} (hW : s.WarmedH U.vm) (h : gNw s) : gNw U := fun w hw hz => by
  have h0 := h w hw hz
  cases w
  case methodLinkNest => exact va_Nw.warmM hW h0
  case castable => exact va_Nw.warmC hW h0
  case declares => exact va_Nw.warmD hW h0
  all_goals (cases hz)
theorem gNw.same {s U : State} (hv : s.vm = U.vm) (h : gNw s) : gNw U := fun w hw hz => by
  have h0 := h w hw hz
  cases w
  case methodLinkNest => exact va_Nw.same rfl hv h0
  case castable => exact va_Nw.same rfl hv h0
  case declares => exact va_Nw.same rfl hv h0
  all_goals (cases hz)
def gStr (g : zG) (U : State) (H : Heap) : Prop := ∀ i : Nat, i < 45 → va_O "java/lang/String" (gAK g i) (zA g) U H ∧ va_OF "java/lang/String" "coder" "B" (.int 0) (gAK g i) (zA g) U H ∧ va_OF "java/lang/String" "value" "[B" (.ref (gAV g i)) (gAK g i) (zA g) U H ∧ va_T .byte (gAV g i) (zByt.getD i []).length (fun j => .int ((zByt.getD i []).getD j 0)) (zA g) U H
def gRef (g : zG) (U : State) : Prop := ∀ (i : Nat) (q : String × Nat × String), zLit[i]? = some q → vk_R q.1 q.2.1 q.2.2 (gAK g i) U
/-- Integer's two tables of digits -/
def gDg (g : zG) (U : State) (H : Heap) : Prop := (∃ t1 t2 : Nat, va_Z "java/lang/Integer" "DigitOnes" "[B" (.ref t1) (zA g) U H ∧ va_T .byte t1 100 (fun j => .int (nI (48 + j % 10))) (zA g) U H ∧ va_Z "java/lang/Integer" "DigitTens" "[B" (.ref t2) (zA g) U H ∧ va_T .byte t2 100 (fun j => .int (nI (48 + j / 10))) (zA g) U H) ∧ va_T .int (gA g 11 0 0) (gA g 11 1 0) (fun j => .int (nI (gA g 11 2 j))) (zA g) U H ∧ gA g 11 1 0 ≤ 2560
theorem gDg.kept {g : zG} {U : State} {H H1 : Heap} (h : gDg g U H) (hq : ∀ a : Nat, a < H.size → ¬ zA g a → H1[a]? = H[a]?) : gDg g U H1 := by
  obtain ⟨⟨t1, t2, h1, h2, h3, h4⟩, h5, h6⟩ := h
  exact ⟨⟨t1, t2, h1.kept hq, h2.kept hq, h3.kept hq, h4.kept hq⟩, h5.kept hq, h6⟩
theorem gDg.moved {g : zG} {u U : State} {H : Heap} (ha : u.vm.Alike U.vm) (h : gDg g u H) : gDg g U H := by
  obtain ⟨⟨t1, t2, h1, h2, h3, h4⟩, h5, h6⟩ := h
  exact ⟨⟨t1, t2, va_Z.moved ha h1, va_T.moved ha h2, va_Z.moved ha h3, va_T.moved ha h4⟩, va_T.moved ha h5, h6⟩
/-- what holds outside the world -/
def gB (g : zG) (U : State) (H : Heap) : Prop := gStr g U H ∧ gRef g U ∧ vx_Zq Bundle.tN "UNASSIGNED_STACK" Bundle.steD (zA g) U H ∧ vx_Zq Bundle.tN "SUPPRESSED_SENTINEL" Bundle.listD (zA g) U H ∧ va_Z "java/lang/String" "COMPACT_STRINGS" "Z" (.int 1) (zA g) U H ∧ gNw U ∧ gNc U ∧ va_Zq "jdk/internal/util/Preconditions" "SIOOBE_FORMATTER" "Ljava/util/function/BiFunction;" (zA g) U H ∧ gDg g U H
theorem gB.kept {g : zG} {U : State} {H H1 : Heap} (h : gB g U H) (hq : ∀ a : Nat, a < H.size → ¬ zA g a → H1[a]? = H[a]?) : gB g U H1 :=
  ⟨fun i hi => ⟨(h.1 i hi).1.kept hq, (h.1 i hi).2.1.kept hq, (h.1 i hi).2.2.1.kept hq, (h.1 i hi).2.2.2.kept hq⟩, h.2.1, vx_Zq.kept h.2.2.1 hq, vx_Zq.kept h.2.2.2.1 hq, va_Z.kept h.2.2.2.2.1 hq, h.2.2.2.2.2.1, h.2.2.2.2.2.2.1, va_Zq.kept h.2.2.2.2.2.2.2.1 hq, h.2.2.2.2.2.2.2.2.kept hq⟩
theorem gB.warm {g : zG} {s U : State} {H : Heap} (hW : s.WarmedH U.vm) (h : gB g s H) : gB g U H :=
  ⟨fun i hi => ⟨va_O.moved hW.alike (h.1 i hi).1, va_OF.moved hW.alike (h.1 i hi).2.1, va_OF.moved hW.alike (h.1 i hi).2.2.1, va_T.moved hW.alike (h.1 i hi).2.2.2⟩, fun i q hq => (h.2.1 i q hq).warm hW, vx_Zq.moved hW.alike h.2.2.1, vx_Zq.moved hW.alike h.2.2.2.1, va_Z.moved hW.alike h.2.2.2.2.1, h.2.2.2.2.2.1.warm hW, h.2.2.2.2.2.2.1.moved hW.alike, va_Zq.moved hW.alike h.2.2.2.2.2.2.2.1, h.2.2.2.2.2.2.2.2.moved hW.alike⟩
theorem gB.same {g : zG} {u U : State} {H : Heap} (hv : U.vm = u.vm) (h : gB g u H) : gB g U H := by
  have ha : u.vm.Alike U.vm := by rw [hv]; exact Vm.Alike.refl _
  exact ⟨fun i hi => ⟨va_O.moved ha (h.1 i hi).1, va_OF.moved ha (h.1 i hi).2.1, va_OF.moved ha (h.1 i hi).2.2.1, va_T.moved ha (h.1 i hi).2.2.2⟩, fun i q hq => vk_R.same hv (h.2.1 i q hq), vx_Zq.moved ha h.2.2.1, vx_Zq.moved ha h.2.2.2.1, va_Z.moved ha h.2.2.2.2.1, h.2.2.2.2.2.1.same hv.symm, h.2.2.2.2.2.2.1.moved ha, va_Zq.moved ha h.2.2.2.2.2.2.2.1, h.2.2.2.2.2.2.2.2.moved ha⟩

def zIdx : List (Nat × Nat × Nat) := [(0, 0, 0), (1, 0, 0), (2, 0, 0), (3, 0, 0), (4, 0, 0), (5, 0, 0)] ++ ((List.range 11).flatMap (fun f => (6, f, 0) :: (7, f, 0) :: (8, f, 0) :: (List.range 12).map (fun i => (9, f, i))))
def zV (t f i : Nat) : Prop := (t, f, i) ∈ zIdx
theorem zV0 : zV 0 0 0 := by unfold zV; decide
theorem zV1 : zV 1 0 0 := by unfold zV; decide
theorem zV2 : zV 2 0 0 := by unfold zV; decide
theorem zV3 : zV 3 0 0 := by unfold zV; decide
theorem zV4 : zV 4 0 0 := by unfold zV; decide
theorem zV5 : zV 5 0 0 := by unfold zV; decide
theorem zV6 {f : Nat} (hf : f < 11) : zV 6 f 0 := List.mem_append_right _ (List.mem_flatMap.mpr ⟨f, List.mem_range.mpr hf, by simp⟩)
theorem zV7 {f : Nat} (hf : f < 11) : zV 7 f 0 := List.mem_append_right _ (List.mem_flatMap.mpr ⟨f, List.mem_range.mpr hf, by simp⟩)
theorem zV8 {f : Nat} (hf : f < 11) : zV 8 f 0 := List.mem_append_right _ (List.mem_flatMap.mpr ⟨f, List.mem_range.mpr hf, by simp⟩)
theorem zV9 {f i : Nat} (hf : f < 11) (hi : i < 12) : zV 9 f i := List.mem_append_right _ (List.mem_flatMap.mpr ⟨f, List.mem_range.mpr hf, by simp; exact hi⟩)
def zNd : List (Nat × Nat × Nat) → Bool
  | [] => true
  | a :: l => decide (a ∉ l) && zNd l
theorem zNd_inj : ∀ (l : List (Nat × Nat × Nat)), zNd l = true → ∀ (i j : Nat) (a : Nat × Nat × Nat), l[i]? = some a → l[j]? = some a → i = j
  | [], _, i, j, a, h, _ => by simp at h
  | b :: l, hn, i, j, a, h1, h2 => by
    simp only [zNd, Bool.and_eq_true, decide_eq_true_eq] at hn
    cases i with
    | zero =>
      cases j with
      | zero => rfl
      | succ j =>
        rw [List.getElem?_cons_zero] at h1
        rw [List.getElem?_cons_succ] at h2
        cases h1
        exact absurd (List.mem_of_getElem? h2) hn.1
    | succ i =>
      rw [List.getElem?_cons_succ] at h1
      cases j with
      | zero =>
        rw [List.getElem?_cons_zero] at h2
        cases h2
        exact absurd (List.mem_of_getElem? h1) hn.1
      | succ j =>
        rw [List.getElem?_cons_succ] at h2
        rw [zNd_inj l hn.2 i j a h1 h2]
theorem zIdx_nd : zNd zIdx = true := by decide +kernel
/-- a live line's numbers stand in its field's row, another's aside -/
def zL (κ : zKp) (f i w : Nat) : Int32 := if i < (κ 6 f 0).toNatClampNeg then κ 6 f (5 + 9 * i + w) else κ 9 f (9 * i + w)
/-- what each cell of the world holds -/
def zE (g : zG) (κ : zKp) (μ : zMu) (ω : zOm) (t f i : Nat) : va_E := match t with
  | 0 => .inr (7, [.ref (gA g 6 0 0), .ref (gA g 6 1 0), .ref (gA g 6 2 0), .ref (gA g 4 0 0), .ref (gA g 2 0 0), .ref (gA g 1 0 0), .int (κ 0 f 0), .int (κ 0 f 1), .int (κ 0 f 2), .int (κ 0 f 3)])
  | 1 => .inl (gQ g 0, 20, .inl (κ 1 f))
  | 2 => .inr (3, [.ref (gA g 3 0 0), .int (κ 2 f 0), .int (κ 2 f 1), .int (κ 2 f 2), .int (κ 2 f 3), .int (κ 2 f 4), .int (κ 2 f 5), .int (κ 2 f 6)])
  | 3 => .inl (gQ g 0, 60, .inl (κ 3 f))
  | 4 => .inr (5, [.ref (gA g 5 0 0), .int (κ 4 f 0), .int (κ 4 f 1)])
  | 5 => .inl (gQ g 2, 8, .inr (.inr (.inr (.inr (fun j => some (gA g 6 (3 + j) 0))))))
  | 6 => .inr (4, [.ref (gA g 7 f 0), .ref (gA g 8 f 0), .int (κ 6 f 0), .int (κ 6 f 1), .int (κ 6 f 2), .int (κ 6 f 3), .int (κ 6 f 4)])
  | 7 => .inl (gQ g 3, 12, .inr (.inr (.inr (.inr (fun j => some (gA g 9 f j))))))
  | 8 => .inl (gQ g 1, 30, .inl (κ 8 f))
  | 9 => .inr (6, [.int (nI i), .int (zL κ f i 0), .int (zL κ f i 1), .int (zL κ f i 2), .int (zL κ f i 3), .int (zL κ f i 6), .int (zL κ f i 4), .int (zL κ f i 5), .int (zL κ f i 7), .int (zL κ f i 8)])
  | _ => .inl (gQ g 1, 0, .inl (fun _ => 0))
def zWs (g : zG) (κ : zKp) (μ : zMu) (ω : zOm) : va_W := zIdx.map (fun q => (gA g q.1 q.2.1 q.2.2, zE g κ μ ω q.1 q.2.1 q.2.2)) ++ ω
/-- the world -/
def WW (g : zG) (κ : zKp) (μ : zMu) (ω : zOm) (H : Heap) : Prop := va_P (gD g) vwCl (zWs g κ μ ω) H ∧ va_D (zA g) (zWs g κ μ ω)
theorem zpos (g : zG) (κ : zKp) (μ : zMu) (ω : zOm) {t f i : Nat} (h : zV t f i) : ∃ k : Nat, zIdx[k]? = some (t, f, i) ∧ (zWs g κ μ ω)[k]? = some (gA g t f i, zE g κ μ ω t f i) := by
  obtain ⟨k, hk⟩ := List.getElem?_of_mem h
  exact ⟨k, hk, by rw [zWs, List.getElem?_append_left (by rw [List.length_map]; exact (List.getElem?_eq_some_iff.mp hk).1), List.getElem?_map, hk]; rfl⟩
theorem zE_om {g : zG} {κ : zKp} {μ μ' : zMu} {ω ω' : zOm} {t f i : Nat} : zE g κ μ' ω' t f i = zE g κ μ ω t f i := by
  unfold zE
  split <;> rfl
theorem set_map {α β : Type} (L : List α) (f f' : α → β) (k : Nat) (a : α) (ω : List β) (hk : L[k]? = some a) (hne : ∀ j b, L[j]? = some b → ¬ j = k → f' b = f b) : (L.map f ++ ω).set k (f' a) = L.map f' ++ ω := by
  have hkl : k < (L.map f).length := by rw [List.length_map]; exact (List.getElem?_eq_some_iff.mp hk).1
  rw [List.set_append_left _ _ hkl]
  have key : (L.map f).set k (f' a) = L.map f' := by
    apply List.ext_getElem?
    intro j
    by_cases hj : k = j
    · subst hj
      rw [List.getElem?_set_self hkl, List.getElem?_map, hk]
      rfl
    · rw [List.getElem?_set_ne hj, List.getElem?_map, List.getElem?_map]
      cases hq : L[j]? with
      | none => rfl
      | some q =>
        show some (f q) = some (f' q)
        rw [hne j q hq (fun e => hj e.symm)]
  rw [key]
theorem zset {g : zG} {κ κ' : zKp} {μ μ' : zMu} {ω : zOm} {t f i k : Nat} {e' : va_E} (hk : zIdx[k]? = some (t, f, i)) (he : zE g κ' μ' ω t f i = e') (hne : ∀ t' f' i', zV t' f' i' → ¬ (t' = t ∧ f' = f ∧ i' = i) → zE g κ' μ' ω t' f' i' = zE g κ μ ω t' f' i') : (zWs g κ μ ω).set k (gA g t f i, e') = zWs g κ' μ' ω := by
  rw [← he]
  exact set_map zIdx (fun q => (gA g q.1 q.2.1 q.2.2, zE g κ μ ω q.1 q.2.1 q.2.2)) (fun q => (gA g q.1 q.2.1 q.2.2, zE g κ' μ' ω q.1 q.2.1 q.2.2)) k (t, f, i) ω hk (fun j q hq hj => by
    show (gA g q.1 q.2.1 q.2.2, zE g κ' μ' ω q.1 q.2.1 q.2.2) = (gA g q.1 q.2.1 q.2.2, zE g κ μ ω q.1 q.2.1 q.2.2)
    rw [hne q.1 q.2.1 q.2.2 (List.mem_of_getElem? hq) (fun e => hj (zNd_inj zIdx zIdx_nd j k q hq (by rw [hk]; congr 1; exact (Prod.ext e.1 (Prod.ext e.2.1 e.2.2)).symm)))])
/-- another state that says the same of every cell -/
theorem WW.eq {g : zG} {κ κ' : zKp} {μ μ' : zMu} {ω : zOm} {H : Heap} (h : WW g κ μ ω H) (hne : ∀ t f i, zV t f i → zE g κ' μ' ω t f i = zE g κ μ ω t f i) : WW g κ' μ' ω H := by
  have e : zWs g κ' μ' ω = zWs g κ μ ω := by
    have key : zIdx.map (fun q => (gA g q.1 q.2.1 q.2.2, zE g κ' μ' ω q.1 q.2.1 q.2.2)) = zIdx.map (fun q => (gA g q.1 q.2.1 q.2.2, zE g κ μ ω q.1 q.2.1 q.2.2)) := by
      apply List.map_congr_left
      intro q hq
      rw [hne q.1 q.2.1 q.2.2 hq]
    unfold zWs
    rw [key]
  unfold WW
  rw [e]
  exact h
def zPre (g : zG) (κ : zKp) (μ : zMu) (ω : zOm) (U : State) : Prop := WW g κ μ ω U.heap ∧ gK g U ∧ gB g U U.heap ∧ gS g ≤ U.heap.size
def zR (lvl mc : Nat) : Room := { frames := lvl, cells := mc, slots := 6 * mc, locals := 100 * lvl }
def zPost (g : zG) (κ : zKp) (μ : zMu) (ω : zOm) (r : Option Value) : Array Value → State → Outcome → State → Prop := fun _ st oc t => oc = .returned r ∧ WW g κ μ ω t.heap ∧ va_F (zA g) st t
/-- a method that returns: its answer, the world behind it -/
def zM (l : Launch) (g : zG) (y : MethodName) (cc : ByteArray) (n : Nat) (ret : Option FieldType) (lvl mc : Nat) (As : List Value) (κ : zKp) (μ : zMu) (ω : zOm) (κ' : zKp) (μ' : zMu) (ω' : zOm) (r : Option Value) : Prop :=
  Met l y (.code y cc n ret :: gW) (zR lvl mc) (va_Pc As (zPre g κ μ ω)) (zPost g κ' μ' ω' r) mc (6 * mc) (zA g)
/-- the caller's facts -/
def zX (p : Program) (l : Launch) (s : State) (m : MethodId) (args : Array Value) (meth : Method) (c : Code) (R : Room) (g : zG) (own : String) (cc : ByteArray) (n : Nat) (ret : Option FieldType) (lvl mc : Nat) : Prop :=
  p.tables.exec = Jvm.exec ∧ c.code = cc ∧ c.maxLocals = n ∧ s.vm.findClass own = some m.cls ∧ (∀ w ∈ gW, w.before args s = true) ∧ gK g s ∧ gB g s s.heap ∧ gS g ≤ s.heap.size ∧ (lvl ≤ R.frames ∧ 100 * lvl ≤ R.locals ∧ mc ≤ R.cells ∧ 6 * mc ≤ R.slots) ∧ meth.locks = false ∧ meth.sig.returnType = ret
/-- the abstract machine: from here the method comes to Q -/
def zZ (p : Program) (l : Launch) (e : Env) (R : Room) (s : State) (m : MethodId) (args : Array Value) (below : List Frame) (meth : Method) (c : Code) (g : zG) (n : Nat) (Q : State → Prop) (κ : zKp) (μ : zMu) (ω : zOm) (k pc : Nat) (lv : List (Nat × Value)) (st : List Value) : Prop :=
  ∀ (H : Heap) (ls : Array Slot) (locs : List Loc), lv_has ls n lv → va_S (zA g) s.heap H locs → WW g κ μ ω H → W p l e R s m args below meth c H locs k (6 * k) Q (F0 m pc ls st)
theorem wt_max : Cond.static Lib.Math.max.name ∈ gW := gW_I 311 (by decide +kernel) rfl
theorem wc_max : Cond.code Lib.Math.max.name Lib.Math.max.code 2 (some .int) ∈ gW := gW_I 312 (by decide +kernel) rfl
theorem wt_min : Cond.static Lib.Math.min.name ∈ gW := gW_I 314 (by decide +kernel) rfl
theorem wc_min : Cond.code Lib.Math.min.name Lib.Math.min.code 2 (some .int) ∈ gW := gW_I 315 (by decide +kernel) rfl
theorem wt_abs : Cond.static Lib.Math.abs.name ∈ gW := gW_I 628 (by decide +kernel) rfl
theorem wc_abs : Cond.code Lib.Math.abs.name Lib.Math.abs.code 1 (some .int) ∈ gW := gW_I 629 (by decide +kernel) rfl
theorem wn_Math : Cond.initialized "java/lang/Math" ∈ gW := gW_I 11 (by decide +kernel) rfl
theorem va_Nw_of {w : Cond} {args : Array Value} {s : State} (hg : w.onTables = true) (h : w.before args s = true) : va_Nw w s := va_tabs hg rfl h
end ZB
section ZR
variable {p : Program} {l : Launch} {e : Env} {R : Room} {s : State} {m : MethodId} {args : Array Value} {below : List Frame} {meth : Method} {c : Code} {Q : State → Prop} {g : zG} {own : String} {cc : ByteArray} {n lvl mc : Nat} {ret : Option FieldType} {κ κ' : zKp} {μ μ' : zMu} {ω ω' : zOm} {k pc : Nat} {lv lv' : List (Nat × Value)} {st : List Value}
theorem zX.pre (hX : zX p l s m args meth c R g own cc n ret lvl mc) {H : Heap} {locs : List Loc} (hS : va_S (zA g) s.heap H locs) (hW : WW g κ μ ω H) {U : State} (hU : U.heap = H) (hw : s.WarmedH U.vm) : zPre g κ μ ω U := by
  obtain ⟨-, -, -, -, -, hK, hB, hs, -⟩ := hX
  subst hU
  exact ⟨hW, gK.moved hw.alike hK, (hB.kept (fun a h1 h2 => hS.2.1 a h1 h2)).warm hw, Nat.le_trans hs hS.1⟩
theorem zPre_blind {As : List Value} : FrameBlind (va_Pc As (zPre g κ μ ω)) := fun a U fr mk h => ⟨h.1, h.2.1, gK.moved (u := U) (U := U.calling fr mk a) (Vm.Alike.refl U.vm) h.2.2.1, gB.same (u := U) (U := U.calling fr mk a) rfl h.2.2.2.1, h.2.2.2.2⟩
/-- the locals in another order, some left out -/
theorem z_sub (ks : List Nat) (hl : lv_pick lv ks = lv') (kk : zZ p l e R s m args below meth c g n Q κ μ ω k pc lv' st) : zZ p l e R s m args below meth c g n Q κ μ ω k pc lv st := fun H ls locs h1 h2 h3 => kk H ls locs (lv_sub h1 ks hl) h2 h3
theorem z_widen {k2 : Nat} (h : k ≤ k2) (kk : zZ p l e R s m args below meth c g n Q κ μ ω k2 pc lv st) : zZ p l e R s m args below meth c g n Q κ μ ω k pc lv st := fun H ls locs h1 h2 h3 => W.widen h (Nat.mul_le_mul_left 6 h) (kk H ls locs h1 h2 h3)
theorem z_world {κ' : zKp} {μ' : zMu} {ω' : zOm} (h : ∀ H, WW g κ μ ω H → WW g κ' μ' ω' H) (kk : zZ p l e R s m args below meth c g n Q κ' μ' ω' k pc lv st) : zZ p l e R s m args below meth c g n Q κ μ ω k pc lv st := fun H ls locs h1 h2 h3 => kk H ls locs h1 h2 (h H h3)
theorem z_topi {x : Int32} (kk : ∀ y : Int32, y = x → zZ p l e R s m args below meth c g n Q κ μ ω k pc lv (.int y :: st)) : zZ p l e R s m args below meth c g n Q κ μ ω k pc lv (.int x :: st) := kk x rfl
theorem z_isv {x y : Int32} (h : x = y) (kk : zZ p l e R s m args below meth c g n Q κ μ ω k pc lv (.int y :: st)) : zZ p l e R s m args below meth c g n Q κ μ ω k pc lv (.int x :: st) := h ▸ kk
theorem z_iconst (hX : zX p l s m args meth c R g own cc n ret lvl mc) {q : Int} {v : Int32} (d : decode cc pc = .ok (.iconst q, 1)) (hv : Int32.ofInt q = v) (kk : zZ p l e R s m args below meth c g n Q κ μ ω k (pc + 1) lv (.int v :: st)) : zZ p l e R s m args below meth c g n Q κ μ ω k pc lv st := fun H ls locs hl hS hW => lv_iconst hX.1 hX.2.1 d hv (kk H ls locs hl hS hW)
theorem z_bipush (hX : zX p l s m args meth c R g own cc n ret lvl mc) {q : Int} {v : Int32} (d : decode cc pc = .ok (.bipush q, 2)) (hv : (Int8.ofInt q).toInt32 = v) (kk : zZ p l e R s m args below meth c g n Q κ μ ω k (pc + 2) lv (.int v :: st)) : zZ p l e R s m args below meth c g n Q κ μ ω k pc lv st := fun H ls locs hl hS hW => lv_bipush hX.1 hX.2.1 d hv (kk H ls locs hl hS hW)
theorem z_sipush (hX : zX p l s m args meth c R g own cc n ret lvl mc) {q : Int} {v : Int32} (d : decode cc pc = .ok (.sipush q, 3)) (hv : (Int16.ofInt q).toInt32 = v) (kk : zZ p l e R s m args below meth c g n Q κ μ ω k (pc + 3) lv (.int v :: st)) : zZ p l e R s m args below meth c g n Q κ μ ω k pc lv st := fun H ls locs hl hS hW => lv_sipush hX.1 hX.2.1 d hv (kk H ls locs hl hS hW)
theorem z_lconst (hX : zX p l s m args meth c R g own cc n ret lvl mc) {q : Fin 2} {v : Int64} (d : decode cc pc = .ok (.lconst q, 1)) (hv : Int64.ofNat (q : Nat) = v) (kk : zZ p l e R s m args below meth c g n Q κ μ ω k (pc + 1) lv (.long v :: st)) : zZ p l e R s m args below meth c g n Q κ μ ω k pc lv st := fun H ls locs hl hS hW => lv_lconst hX.1 hX.2.1 d hv (kk H ls locs hl hS hW)
theorem z_iload_n (hX : zX p l s m args meth c R g own cc n ret lvl mc) {q : Fin 4} {x : Int32} (d : decode cc pc = .ok (.iload_n q, 1)) (j : Nat) (hj : lv[j]? = some ((q : Nat), .int x)) (kk : zZ p l e R s m args below meth c g n Q κ μ ω k (pc + 1) lv (.int x :: st)) : zZ p l e R s m args below meth c g n Q κ μ ω k pc lv st := fun H ls locs hl hS hW => lv_iload_n hX.1 hX.2.1 d rfl (lv_at hl j hj) (kk H ls locs hl hS hW)
theorem z_iload (hX : zX p l s m args meth c R g own cc n ret lvl mc) {i : Nat} {x : Int32} (d : decode cc pc = .ok (.iload i, 2)) (j : Nat) (hj : lv[j]? = some (i, .int x)) (kk : zZ p l e R s m args below meth c g n Q κ μ ω k (pc + 2) lv (.int x :: st)) : zZ p l e R s m args below meth c g n Q κ μ ω k pc lv st := fun H ls locs hl hS hW => lv_iload hX.1 hX.2.1 d (lv_at hl j hj) (kk H ls locs hl hS hW)
theorem z_istore_n (hX : zX p l s m args meth c R g own cc n ret lvl mc) {q : Fin 4} {x : Int32} (d : decode cc pc = .ok (.istore_n q, 1)) (hn : (q : Nat) < n) (hl' : ((q : Nat), Value.int x) :: lv.filter (fun z => !(z.1 == (q : Nat)) && !(z.1 + 1 == (q : Nat) && z.2.category == 2)) = lv') (kk : zZ p l e R s m args below meth c g n Q κ μ ω k (pc + 1) lv' st) : zZ p l e R s m args below meth c g n Q κ μ ω k pc lv (.int x :: st) := fun H ls locs hl hS hW => lv_istore_n hX.1 hX.2.1 d rfl hl hn hl' (fun ls hl => kk H ls locs hl hS hW)
theorem z_istore (hX : zX p l s m args meth c R g own cc n ret lvl mc) {i : Nat} {x : Int32} (d : decode cc pc = .ok (.istore i, 2)) (hn : i < n) (hl' : (i, Value.int x) :: lv.filter (fun z => !(z.1 == i) && !(z.1 + 1 == i && z.2.category == 2)) = lv') (kk : zZ p l e R s m args below meth c g n Q κ μ ω k (pc + 2) lv' st) : zZ p l e R s m args below meth c g n Q κ μ ω k pc lv (.int x :: st) := fun H ls locs hl hS hW => lv_istore hX.1 hX.2.1 d hl hn hl' (fun ls hl => kk H ls locs hl hS hW)
theorem z_aload_n (hX : zX p l s m args meth c R g own cc n ret lvl mc) {q : Fin 4} {x : Nat} (d : decode cc pc = .ok (.aload_n q, 1)) (j : Nat) (hj : lv[j]? = some ((q : Nat), .ref x)) (kk : zZ p l e R s m args below meth c g n Q κ μ ω k (pc + 1) lv (.ref x :: st)) : zZ p l e R s m args below meth c g n Q κ μ ω k pc lv st := fun H ls locs hl hS hW => lv_aload_n hX.1 hX.2.1 d rfl (lv_at hl j hj) (kk H ls locs hl hS hW)
theorem z_aload (hX : zX p l s m args meth c R g own cc n ret lvl mc) {i : Nat} {x : Nat} (d : decode cc pc = .ok (.aload i, 2)) (j : Nat) (hj : lv[j]? = some (i, .ref x)) (kk : zZ p l e R s m args below meth c g n Q κ μ ω k (pc + 2) lv (.ref x :: st)) : zZ p l e R s m args below meth c g n Q κ μ ω k pc lv st := fun H ls locs hl hS hW => lv_aload hX.1 hX.2.1 d (lv_at hl j hj) (kk H ls locs hl hS hW)
theorem z_astore_n (hX : zX p l s m args meth c R g own cc n ret lvl mc) {q : Fin 4} {x : Nat} (d : decode cc pc = .ok (.astore_n q, 1)) (hn : (q : Nat) < n) (hl' : ((q : Nat), Value.ref x) :: lv.filter (fun z => !(z.1 == (q : Nat)) && !(z.1 + 1 == (q : Nat) && z.2.category == 2)) = lv') (kk : zZ p l e R s m args below meth c g n Q κ μ ω k (pc + 1) lv' st) : zZ p l e R s m args below meth c g n Q κ μ ω k pc lv (.ref x :: st) := fun H ls locs hl hS hW => lv_astore_n hX.1 hX.2.1 d rfl hl hn hl' (fun ls hl => kk H ls locs hl hS hW)
theorem z_astore (hX : zX p l s m args meth c R g own cc n ret lvl mc) {i : Nat} {x : Nat} (d : decode cc pc = .ok (.astore i, 2)) (hn : i < n) (hl' : (i, Value.ref x) :: lv.filter (fun z => !(z.1 == i) && !(z.1 + 1 == i && z.2.category == 2)) = lv') (kk : zZ p l e R s m args below meth c g n Q κ μ ω k (pc + 2) lv' st) : zZ p l e R s m args below meth c g n Q κ μ ω k pc lv (.ref x :: st) := fun H ls locs hl hS hW => lv_astore hX.1 hX.2.1 d hl hn hl' (fun ls hl => kk H ls locs hl hS hW)
theorem z_iinc (hX : zX p l s m args meth c R g own cc n ret lvl mc) {i : Nat} {q : Int} {x v : Int32} (d : decode cc pc = .ok (.iinc i q, 3)) (j : Nat) (hj : lv[j]? = some (i, .int x)) (hv : x + Int32.ofInt q = v) (hn : i < n) (hl' : (i, Value.int v) :: lv.filter (fun z => !(z.1 == i) && !(z.1 + 1 == i && z.2.category == 2)) = lv') (kk : zZ p l e R s m args below meth c g n Q κ μ ω k (pc + 3) lv' st) : zZ p l e R s m args below meth c g n Q κ μ ω k pc lv st := fun H ls locs hl hS hW => lv_iinc hX.1 hX.2.1 d hl hj hv hn hl' (fun ls hl => kk H ls locs hl hS hW)
theorem z_iadd (hX : zX p l s m args meth c R g own cc n ret lvl mc) {x y : Int32} (d : decode cc pc = .ok (.iadd, 1)) (kk : zZ p l e R s m args below meth c g n Q κ μ ω k (pc + 1) lv (.int (x + y) :: st)) : zZ p l e R s m args below meth c g n Q κ μ ω k pc lv (.int y :: .int x :: st) := fun H ls locs hl hS hW => lv_iadd hX.1 hX.2.1 d (kk H ls locs hl hS hW)
theorem z_isub (hX : zX p l s m args meth c R g own cc n ret lvl mc) {x y : Int32} (d : decode cc pc = .ok (.isub, 1)) (kk : zZ p l e R s m args below meth c g n Q κ μ ω k (pc + 1) lv (.int (x - y) :: st)) : zZ p l e R s m args below meth c g n Q κ μ ω k pc lv (.int y :: .int x :: st) := fun H ls locs hl hS hW => lv_isub hX.1 hX.2.1 d (kk H ls locs hl hS hW)
theorem z_imul (hX : zX p l s m args meth c R g own cc n ret lvl mc) {x y : Int32} (d : decode cc pc = .ok (.imul, 1)) (kk : zZ p l e R s m args below meth c g n Q κ μ ω k (pc + 1) lv (.int (x * y) :: st)) : zZ p l e R s m args below meth c g n Q κ μ ω k pc lv (.int y :: .int x :: st) := fun H ls locs hl hS hW => lv_imul hX.1 hX.2.1 d (kk H ls locs hl hS hW)
theorem z_iand (hX : zX p l s m args meth c R g own cc n ret lvl mc) {x y : Int32} (d : decode cc pc = .ok (.iand, 1)) (kk : zZ p l e R s m args below meth c g n Q κ μ ω k (pc + 1) lv (.int (x &&& y) :: st)) : zZ p l e R s m args below meth c g n Q κ μ ω k pc lv (.int y :: .int x :: st) := fun H ls locs hl hS hW => lv_iand hX.1 hX.2.1 d (kk H ls locs hl hS hW)
theorem z_ineg (hX : zX p l s m args meth c R g own cc n ret lvl mc) {x : Int32} (d : decode cc pc = .ok (.ineg, 1)) (kk : zZ p l e R s m args below meth c g n Q κ μ ω k (pc + 1) lv (.int (0 - x) :: st)) : zZ p l e R s m args below meth c g n Q κ μ ω k pc lv (.int x :: st) := fun H ls locs hl hS hW => lv_ineg hX.1 hX.2.1 d (kk H ls locs hl hS hW)
theorem z_idiv (hX : zX p l s m args meth c R g own cc n ret lvl mc) {x y : Int32} (d : decode cc pc = .ok (.idiv, 1)) (h0 : ¬ y = 0) (kk : zZ p l e R s m args below meth c g n Q κ μ ω k (pc + 1) lv (.int (x / y) :: st)) : zZ p l e R s m args below meth c g n Q κ μ ω k pc lv (.int y :: .int x :: st) := fun H ls locs hl hS hW => lv_idiv hX.1 hX.2.1 d h0 (kk H ls locs hl hS hW)
theorem z_irem (hX : zX p l s m args meth c R g own cc n ret lvl mc) {x y : Int32} (d : decode cc pc = .ok (.irem, 1)) (h0 : ¬ y = 0) (kk : zZ p l e R s m args below meth c g n Q κ μ ω k (pc + 1) lv (.int (x - x / y * y) :: st)) : zZ p l e R s m args below meth c g n Q κ μ ω k pc lv (.int y :: .int x :: st) := fun H ls locs hl hS hW => lv_irem hX.1 hX.2.1 d h0 (kk H ls locs hl hS hW)
theorem z_i2c (hX : zX p l s m args meth c R g own cc n ret lvl mc) {x : Int32} (d : decode cc pc = .ok (.i2c, 1)) (kk : zZ p l e R s m args below meth c g n Q κ μ ω k (pc + 1) lv (.int (x.toUInt32 % 65536).toInt32 :: st)) : zZ p l e R s m args below meth c g n Q κ μ ω k pc lv (.int x :: st) := fun H ls locs hl hS hW => lv_i2c hX.1 hX.2.1 d rfl (kk H ls locs hl hS hW)
theorem z_i2l (hX : zX p l s m args meth c R g own cc n ret lvl mc) {x : Int32} (d : decode cc pc = .ok (.i2l, 1)) (kk : zZ p l e R s m args below meth c g n Q κ μ ω k (pc + 1) lv (.long x.toInt64 :: st)) : zZ p l e R s m args below meth c g n Q κ μ ω k pc lv (.int x :: st) := fun H ls locs hl hS hW => lv_i2l hX.1 hX.2.1 d rfl (kk H ls locs hl hS hW)
theorem z_dup (hX : zX p l s m args meth c R g own cc n ret lvl mc) {va : Value} (d : decode cc pc = .ok (.dup, 1)) (hva : va.category = 1) (kk : zZ p l e R s m args below meth c g n Q κ μ ω k (pc + 1) lv (va :: va :: st)) : zZ p l e R s m args below meth c g n Q κ μ ω k pc lv (va :: st) := fun H ls locs hl hS hW => lv_dup hX.1 hX.2.1 d hva (kk H ls locs hl hS hW)
theorem z_pop (hX : zX p l s m args meth c R g own cc n ret lvl mc) {va : Value} (d : decode cc pc = .ok (.pop, 1)) (hva : va.category = 1) (kk : zZ p l e R s m args below meth c g n Q κ μ ω k (pc + 1) lv st) : zZ p l e R s m args below meth c g n Q κ μ ω k pc lv (va :: st) := fun H ls locs hl hS hW => lv_pop hX.1 hX.2.1 d hva (kk H ls locs hl hS hW)
theorem z_dup2 (hX : zX p l s m args meth c R g own cc n ret lvl mc) {va vb : Value} (d : decode cc pc = .ok (.dup2, 1)) (hva : va.category = 1) (hvb : vb.category = 1) (kk : zZ p l e R s m args below meth c g n Q κ μ ω k (pc + 1) lv (va :: vb :: va :: vb :: st)) : zZ p l e R s m args below meth c g n Q κ μ ω k pc lv (va :: vb :: st) := fun H ls locs hl hS hW => lv_dup2_11 hX.1 hX.2.1 d hva hvb (kk H ls locs hl hS hW)
theorem z_null (hX : zX p l s m args meth c R g own cc n ret lvl mc)  (d : decode cc pc = .ok (.aconst_null, 1)) (kk : zZ p l e R s m args below meth c g n Q κ μ ω k (pc + 1) lv (.null :: st)) : zZ p l e R s m args below meth c g n Q κ μ ω k pc lv st := fun H ls locs hl hS hW => lv_null hX.1 hX.2.1 d (kk H ls locs hl hS hW)
theorem z_goto (hX : zX p l s m args meth c R g own cc n ret lvl mc) {off : Int} {tgt : Nat} (d : decode cc pc = .ok (.goto off, 3)) (ht : (pc : Int) + off = (tgt : Int)) (kk : zZ p l e R s m args below meth c g n Q κ μ ω k tgt lv st) : zZ p l e R s m args below meth c g n Q κ μ ω k pc lv st := fun H ls locs hl hS hW => lv_goto hX.1 hX.2.1 d ht (kk H ls locs hl hS hW)
theorem z_if_eq (hX : zX p l s m args meth c R g own cc n ret lvl mc) {x : Int32} {off : Int} {tgt : Nat} (d : decode cc pc = .ok (.ifCond .eq off, 3)) (ht : (pc : Int) + off = (tgt : Int)) (kt : x = 0 → zZ p l e R s m args below meth c g n Q κ μ ω k tgt lv st) (kf : ¬ x = 0 → zZ p l e R s m args below meth c g n Q κ μ ω k (pc + 3) lv st) : zZ p l e R s m args below meth c g n Q κ μ ω k pc lv (.int x :: st) := fun H ls locs hl hS hW => lv_if_eq hX.1 hX.2.1 d ht (fun h => kt h H ls locs hl hS hW) (fun h => kf h H ls locs hl hS hW)
theorem z_if_ne (hX : zX p l s m args meth c R g own cc n ret lvl mc) {x : Int32} {off : Int} {tgt : Nat} (d : decode cc pc = .ok (.ifCond .ne off, 3)) (ht : (pc : Int) + off = (tgt : Int)) (kt : ¬ x = 0 → zZ p l e R s m args below meth c g n Q κ μ ω k tgt lv st) (kf : x = 0 → zZ p l e R s m args below meth c g n Q κ μ ω k (pc + 3) lv st) : zZ p l e R s m args below meth c g n Q κ μ ω k pc lv (.int x :: st) := fun H ls locs hl hS hW => lv_if_ne hX.1 hX.2.1 d ht (fun h => kt h H ls locs hl hS hW) (fun h => kf h H ls locs hl hS hW)
theorem z_if_lt (hX : zX p l s m args meth c R g own cc n ret lvl mc) {x : Int32} {off : Int} {tgt : Nat} (d : decode cc pc = .ok (.ifCond .lt off, 3)) (ht : (pc : Int) + off = (tgt : Int)) (kt : x < 0 → zZ p l e R s m args below meth c g n Q κ μ ω k tgt lv st) (kf : ¬ x < 0 → zZ p l e R s m args below meth c g n Q κ μ ω k (pc + 3) lv st) : zZ p l e R s m args below meth c g n Q κ μ ω k pc lv (.int x :: st) := fun H ls locs hl hS hW => lv_if_lt hX.1 hX.2.1 d ht (fun h => kt h H ls locs hl hS hW) (fun h => kf h H ls locs hl hS hW)
theorem z_if_ge (hX : zX p l s m args meth c R g own cc n ret lvl mc) {x : Int32} {off : Int} {tgt : Nat} (d : decode cc pc = .ok (.ifCond .ge off, 3)) (ht : (pc : Int) + off = (tgt : Int)) (kt : 0 ≤ x → zZ p l e R s m args below meth c g n Q κ μ ω k tgt lv st) (kf : ¬ 0 ≤ x → zZ p l e R s m args below meth c g n Q κ μ ω k (pc + 3) lv st) : zZ p l e R s m args below meth c g n Q κ μ ω k pc lv (.int x :: st) := fun H ls locs hl hS hW => lv_if_ge hX.1 hX.2.1 d ht (fun h => kt h H ls locs hl hS hW) (fun h => kf h H ls locs hl hS hW)
theorem z_if_gt (hX : zX p l s m args meth c R g own cc n ret lvl mc) {x : Int32} {off : Int} {tgt : Nat} (d : decode cc pc = .ok (.ifCond .gt off, 3)) (ht : (pc : Int) + off = (tgt : Int)) (kt : 0 < x → zZ p l e R s m args below meth c g n Q κ μ ω k tgt lv st) (kf : ¬ 0 < x → zZ p l e R s m args below meth c g n Q κ μ ω k (pc + 3) lv st) : zZ p l e R s m args below meth c g n Q κ μ ω k pc lv (.int x :: st) := fun H ls locs hl hS hW => lv_if_gt hX.1 hX.2.1 d ht (fun h => kt h H ls locs hl hS hW) (fun h => kf h H ls locs hl hS hW)
theorem z_if_le (hX : zX p l s m args meth c R g own cc n ret lvl mc) {x : Int32} {off : Int} {tgt : Nat} (d : decode cc pc = .ok (.ifCond .le off, 3)) (ht : (pc : Int) + off = (tgt : Int)) (kt : x ≤ 0 → zZ p l e R s m args below meth c g n Q κ μ ω k tgt lv st) (kf : ¬ x ≤ 0 → zZ p l e R s m args below meth c g n Q κ μ ω k (pc + 3) lv st) : zZ p l e R s m args below meth c g n Q κ μ ω k pc lv (.int x :: st) := fun H ls locs hl hS hW => lv_if_le hX.1 hX.2.1 d ht (fun h => kt h H ls locs hl hS hW) (fun h => kf h H ls locs hl hS hW)
theorem z_icmp_eq (hX : zX p l s m args meth c R g own cc n ret lvl mc) {x y : Int32} {off : Int} {tgt : Nat} (d : decode cc pc = .ok (.if_icmp .eq off, 3)) (ht : (pc : Int) + off = (tgt : Int)) (kt : x = y → zZ p l e R s m args below meth c g n Q κ μ ω k tgt lv st) (kf : ¬ x = y → zZ p l e R s m args below meth c g n Q κ μ ω k (pc + 3) lv st) : zZ p l e R s m args below meth c g n Q κ μ ω k pc lv (.int y :: .int x :: st) := fun H ls locs hl hS hW => lv_icmp_eq hX.1 hX.2.1 d ht (fun h => kt h H ls locs hl hS hW) (fun h => kf h H ls locs hl hS hW)
theorem z_icmp_ne (hX : zX p l s m args meth c R g own cc n ret lvl mc) {x y : Int32} {off : Int} {tgt : Nat} (d : decode cc pc = .ok (.if_icmp .ne off, 3)) (ht : (pc : Int) + off = (tgt : Int)) (kt : ¬ x = y → zZ p l e R s m args below meth c g n Q κ μ ω k tgt lv st) (kf : x = y → zZ p l e R s m args below meth c g n Q κ μ ω k (pc + 3) lv st) : zZ p l e R s m args below meth c g n Q κ μ ω k pc lv (.int y :: .int x :: st) := fun H ls locs hl hS hW => lv_icmp_ne hX.1 hX.2.1 d ht (fun h => kt h H ls locs hl hS hW) (fun h => kf h H ls locs hl hS hW)
theorem z_icmp_lt (hX : zX p l s m args meth c R g own cc n ret lvl mc) {x y : Int32} {off : Int} {tgt : Nat} (d : decode cc pc = .ok (.if_icmp .lt off, 3)) (ht : (pc : Int) + off = (tgt : Int)) (kt : x < y → zZ p l e R s m args below meth c g n Q κ μ ω k tgt lv st) (kf : ¬ x < y → zZ p l e R s m args below meth c g n Q κ μ ω k (pc + 3) lv st) : zZ p l e R s m args below meth c g n Q κ μ ω k pc lv (.int y :: .int x :: st) := fun H ls locs hl hS hW => lv_icmp_lt hX.1 hX.2.1 d ht (fun h => kt h H ls locs hl hS hW) (fun h => kf h H ls locs hl hS hW)
theorem z_icmp_ge (hX : zX p l s m args meth c R g own cc n ret lvl mc) {x y : Int32} {off : Int} {tgt : Nat} (d : decode cc pc = .ok (.if_icmp .ge off, 3)) (ht : (pc : Int) + off = (tgt : Int)) (kt : y ≤ x → zZ p l e R s m args below meth c g n Q κ μ ω k tgt lv st) (kf : ¬ y ≤ x → zZ p l e R s m args below meth c g n Q κ μ ω k (pc + 3) lv st) : zZ p l e R s m args below meth c g n Q κ μ ω k pc lv (.int y :: .int x :: st) := fun H ls locs hl hS hW => lv_icmp_ge hX.1 hX.2.1 d ht (fun h => kt h H ls locs hl hS hW) (fun h => kf h H ls locs hl hS hW)
theorem z_icmp_gt (hX : zX p l s m args meth c R g own cc n ret lvl mc) {x y : Int32} {off : Int} {tgt : Nat} (d : decode cc pc = .ok (.if_icmp .gt off, 3)) (ht : (pc : Int) + off = (tgt : Int)) (kt : y < x → zZ p l e R s m args below meth c g n Q κ μ ω k tgt lv st) (kf : ¬ y < x → zZ p l e R s m args below meth c g n Q κ μ ω k (pc + 3) lv st) : zZ p l e R s m args below meth c g n Q κ μ ω k pc lv (.int y :: .int x :: st) := fun H ls locs hl hS hW => lv_icmp_gt hX.1 hX.2.1 d ht (fun h => kt h H ls locs hl hS hW) (fun h => kf h H ls locs hl hS hW)
theorem z_icmp_le (hX : zX p l s m args meth c R g own cc n ret lvl mc) {x y : Int32} {off : Int} {tgt : Nat} (d : decode cc pc = .ok (.if_icmp .le off, 3)) (ht : (pc : Int) + off = (tgt : Int)) (kt : x ≤ y → zZ p l e R s m args below meth c g n Q κ μ ω k tgt lv st) (kf : ¬ x ≤ y → zZ p l e R s m args below meth c g n Q κ μ ω k (pc + 3) lv st) : zZ p l e R s m args below meth c g n Q κ μ ω k pc lv (.int y :: .int x :: st) := fun H ls locs hl hS hW => lv_icmp_le hX.1 hX.2.1 d ht (fun h => kt h H ls locs hl hS hW) (fun h => kf h H ls locs hl hS hW)
theorem z_if_eqB (hX : zX p l s m args meth c R g own cc n ret lvl mc) {b : Prop} [Decidable b] {off : Int} {tgt : Nat} (d : decode cc pc = .ok (.ifCond .eq off, 3)) (ht : (pc : Int) + off = (tgt : Int)) (kt : ¬ b → zZ p l e R s m args below meth c g n Q κ μ ω k tgt lv st) (kf : b → zZ p l e R s m args below meth c g n Q κ μ ω k (pc + 3) lv st) : zZ p l e R s m args below meth c g n Q κ μ ω k pc lv (.int (if b then 1 else 0) :: st) := z_if_eq hX d ht (fun h => kt (fun hb => by rw [if_pos hb] at h; exact absurd h (by decide))) (fun h => kf (Classical.byContradiction (fun hb => h (if_neg hb))))
theorem z_if_neB (hX : zX p l s m args meth c R g own cc n ret lvl mc) {b : Prop} [Decidable b] {off : Int} {tgt : Nat} (d : decode cc pc = .ok (.ifCond .ne off, 3)) (ht : (pc : Int) + off = (tgt : Int)) (kt : b → zZ p l e R s m args below meth c g n Q κ μ ω k tgt lv st) (kf : ¬ b → zZ p l e R s m args below meth c g n Q κ μ ω k (pc + 3) lv st) : zZ p l e R s m args below meth c g n Q κ μ ω k pc lv (.int (if b then 1 else 0) :: st) := z_if_ne hX d ht (fun h => kt (Classical.byContradiction (fun hb => h (if_neg hb)))) (fun h => kf (fun hb => by rw [if_pos hb] at h; exact absurd h (by decide)))
theorem z_ifnull (hX : zX p l s m args meth c R g own cc n ret lvl mc) {x : Nat} {off : Int} (d : decode cc pc = .ok (.ifnull off, 3)) (kk : zZ p l e R s m args below meth c g n Q κ μ ω k (pc + 3) lv st) : zZ p l e R s m args below meth c g n Q κ μ ω k pc lv (.ref x :: st) := fun H ls locs hl hS hW => lv_ifnull hX.1 hX.2.1 d (kk H ls locs hl hS hW)
theorem z_ifnullN (hX : zX p l s m args meth c R g own cc n ret lvl mc) {off : Int} {tgt : Nat} (d : decode cc pc = .ok (.ifnull off, 3)) (ht : (pc : Int) + off = (tgt : Int)) (kk : zZ p l e R s m args below meth c g n Q κ μ ω k tgt lv st) : zZ p l e R s m args below meth c g n Q κ μ ω k pc lv (.null :: st) := fun H ls locs hl hS hW => lv_ifnullN hX.1 hX.2.1 d ht (kk H ls locs hl hS hW)
theorem z_ifnonnull (hX : zX p l s m args meth c R g own cc n ret lvl mc) {x : Nat} {off : Int} {tgt : Nat} (d : decode cc pc = .ok (.ifnonnull off, 3)) (ht : (pc : Int) + off = (tgt : Int)) (kk : zZ p l e R s m args below meth c g n Q κ μ ω k tgt lv st) : zZ p l e R s m args below meth c g n Q κ μ ω k pc lv (.ref x :: st) := fun H ls locs hl hS hW => lv_ifnonnull hX.1 hX.2.1 d ht (kk H ls locs hl hS hW)
theorem z_ifnonnullN (hX : zX p l s m args meth c R g own cc n ret lvl mc) {off : Int} (d : decode cc pc = .ok (.ifnonnull off, 3)) (kk : zZ p l e R s m args below meth c g n Q κ μ ω k (pc + 3) lv st) : zZ p l e R s m args below meth c g n Q κ μ ω k pc lv (.null :: st) := fun H ls locs hl hS hW => lv_ifnonnullN hX.1 hX.2.1 d (kk H ls locs hl hS hW)
theorem z_get (hX : zX p l s m args meth c R g own cc n ret lvl mc) {t f i ci N index q : Nat} {C : String} {T : u_T} {fs : List Value} {v : Value} (hV : zV t f i) (he : zE g κ μ ω t f i = .inr (ci, fs)) (hc : vwCl[ci]? = some (C, T, N)) (hin : ∀ w ∈ u_ws C T N, w ∈ gW) (hq : q < N) (hT : (T q).1 = C) (hlink : Cond.fieldLink own index C (T q).2.1 (T q).2.2.1 ∈ gW) (hv : fs[q]? = some v) (d : decode cc pc = .ok (.getfield index, 3)) (kk : zZ p l e R s m args below meth c g n Q κ μ ω k (pc + 3) lv (v :: st)) : zZ p l e R s m args below meth c g n Q κ μ ω k pc lv (.ref (gA g t f i) :: st) := fun H ls locs hl hS hW => by
  obtain ⟨q0, -, h2⟩ := zpos g κ μ ω hV
  rw [he] at h2
  exact va_get (ref := C) hX.1 hX.2.1 hX.2.2.2.2.1 hin hX.2.2.2.1 hX.2.2.2.2.2.1 hW.1 q0 h2 hc q hq (hX.2.2.2.2.1 _ hlink) (fun x h => by rw [hT] at h; exact h) hv d (kk H ls locs hl hS hW)
theorem z_put (hX : zX p l s m args meth c R g own cc n ret lvl mc) {t f i ci N index q : Nat} {C : String} {T : u_T} {ty0 : Nat → FieldType} {ty : FieldType} {fs : List Value} {v : Value} (hV : zV t f i) (he : zE g κ μ ω t f i = .inr (ci, fs)) (hc : vwCl[ci]? = some (C, T, N)) (hin : ∀ w ∈ u_ws C T N, w ∈ gW) (hty : ∀ k, k < N → parseFieldDescriptor (T k).2.2.1 = some (ty0 k)) (hnm : ∀ a, a < N → ∀ b, b < N → a ≠ b → (T a).2.1 ≠ (T b).2.1) (hq : q < N) (hT : (T q).1 = C) (hfin : (T q).2.2.2 = false) (hlink : Cond.fieldLink own index C (T q).2.1 (T q).2.2.1 ∈ gW) (hd : parseFieldDescriptor (T q).2.2.1 = some ty) (hnv : narrow ty v = v) (hfv : fits ty v = true) (hlf : q < fs.length) (he' : zE g κ' μ' ω t f i = .inr (ci, fs.set q v)) (hne : ∀ t' f' i', zV t' f' i' → ¬ (t' = t ∧ f' = f ∧ i' = i) → zE g κ' μ' ω t' f' i' = zE g κ μ ω t' f' i') (d : decode cc pc = .ok (.putfield index, 3)) (kk : zZ p l e R s m args below meth c g n Q κ' μ' ω k (pc + 3) lv st) : zZ p l e R s m args below meth c g n Q κ μ ω k pc lv (v :: .ref (gA g t f i) :: st) := fun H ls locs hl hS hW => by
  obtain ⟨q0, h1, h2⟩ := zpos g κ μ ω hV
  rw [he] at h2
  refine va_put (ref := C) (H0 := s.heap) hX.1 hX.2.1 hX.2.2.2.2.1 hin ty0 hty hnm hX.2.2.2.1 hX.2.2.2.2.2.1 hW.1 hW.2 hS q0 h2 hc q hq (hX.2.2.2.2.1 _ hlink) (fun x h => by rw [hT] at h; exact h) hfin hd hnv hfv hlf d (fun H1 locs1 hP hD hS1 => ?_)
  rw [zset h1 he' hne] at hP hD
  exact kk H1 ls locs1 hl hS1 ⟨hP, hD⟩
theorem z_iald (hX : zX p l s m args meth c R g own cc n ret lvl mc) {t f i t0 N : Nat} {cA : ClassId} {fn : Nat → Int32} {j : Int32} (hV : zV t f i) (he : zE g κ μ ω t f i = .inl (cA, N, .inl fn)) (ht : (gT g)[t0]? = some (cA, .int)) (hin : vp_in j N) (d : decode cc pc = .ok (.iaload, 1)) (kk : zZ p l e R s m args below meth c g n Q κ μ ω k (pc + 1) lv (.int (fn j.toNatClampNeg) :: st)) : zZ p l e R s m args below meth c g n Q κ μ ω k pc lv (.int j :: .ref (gA g t f i) :: st) := fun H ls locs hl hS hW => by
  obtain ⟨q0, -, h2⟩ := zpos g κ μ ω hV
  rw [he] at h2
  exact va_iald hX.1 hX.2.1 hX.2.2.2.2.2.1 hW.1 q0 t0 h2 ht hin d (kk H ls locs hl hS hW)
theorem z_cald (hX : zX p l s m args meth c R g own cc n ret lvl mc) {t f i t0 N : Nat} {cA : ClassId} {fn : Nat → Int32} {j : Int32} (hV : zV t f i) (he : zE g κ μ ω t f i = .inl (cA, N, .inl fn)) (ht : (gT g)[t0]? = some (cA, .char)) (hin : vp_in j N) (d : decode cc pc = .ok (.caload, 1)) (kk : zZ p l e R s m args below meth c g n Q κ μ ω k (pc + 1) lv (.int (fn j.toNatClampNeg) :: st)) : zZ p l e R s m args below meth c g n Q κ μ ω k pc lv (.int j :: .ref (gA g t f i) :: st) := fun H ls locs hl hS hW => by
  obtain ⟨q0, -, h2⟩ := zpos g κ μ ω hV
  rw [he] at h2
  exact va_cald hX.1 hX.2.1 hX.2.2.2.2.2.1 hW.1 q0 t0 h2 ht hin d (kk H ls locs hl hS hW)
theorem z_iast (hX : zX p l s m args meth c R g own cc n ret lvl mc) {t f i t0 N : Nat} {cA : ClassId} {fn : Nat → Int32} {j x : Int32} (hV : zV t f i) (he : zE g κ μ ω t f i = .inl (cA, N, .inl fn)) (ht : (gT g)[t0]? = some (cA, .int)) (hin : vp_in j N) (he' : zE g κ' μ' ω t f i = .inl (cA, N, .inl (upd fn j.toNatClampNeg x))) (hne : ∀ t' f' i', zV t' f' i' → ¬ (t' = t ∧ f' = f ∧ i' = i) → zE g κ' μ' ω t' f' i' = zE g κ μ ω t' f' i') (d : decode cc pc = .ok (.iastore, 1)) (kk : zZ p l e R s m args below meth c g n Q κ' μ' ω k (pc + 1) lv st) : zZ p l e R s m args below meth c g n Q κ μ ω k pc lv (.int x :: .int j :: .ref (gA g t f i) :: st) := fun H ls locs hl hS hW => by
  obtain ⟨q0, h1, h2⟩ := zpos g κ μ ω hV
  rw [he] at h2
  refine va_iast (H0 := s.heap) hX.1 hX.2.1 hX.2.2.2.2.2.1 hW.1 hW.2 hS q0 t0 h2 ht hin d (fun H1 locs1 hP hD hS1 => ?_)
  rw [zset h1 he' hne] at hP hD
  exact kk H1 ls locs1 hl hS1 ⟨hP, hD⟩
theorem z_cast (hX : zX p l s m args meth c R g own cc n ret lvl mc) {t f i t0 N : Nat} {cA : ClassId} {fn : Nat → Int32} {j x : Int32} (hV : zV t f i) (he : zE g κ μ ω t f i = .inl (cA, N, .inl fn)) (ht : (gT g)[t0]? = some (cA, .char)) (hin : vp_in j N) (he' : zE g κ' μ' ω t f i = .inl (cA, N, .inl (upd fn j.toNatClampNeg (vp_nar .char x)))) (hne : ∀ t' f' i', zV t' f' i' → ¬ (t' = t ∧ f' = f ∧ i' = i) → zE g κ' μ' ω t' f' i' = zE g κ μ ω t' f' i') (d : decode cc pc = .ok (.castore, 1)) (kk : zZ p l e R s m args below meth c g n Q κ' μ' ω k (pc + 1) lv st) : zZ p l e R s m args below meth c g n Q κ μ ω k pc lv (.int x :: .int j :: .ref (gA g t f i) :: st) := fun H ls locs hl hS hW => by
  obtain ⟨q0, h1, h2⟩ := zpos g κ μ ω hV
  rw [he] at h2
  refine va_cast (H0 := s.heap) hX.1 hX.2.1 hX.2.2.2.2.2.1 hW.1 hW.2 hS q0 t0 h2 ht hin d (fun H1 locs1 hP hD hS1 => ?_)
  rw [zset h1 he' hne] at hP hD
  exact kk H1 ls locs1 hl hS1 ⟨hP, hD⟩
theorem z_alen (hX : zX p l s m args meth c R g own cc n ret lvl mc) {t f i t0 : Nat} {cA : ClassId} {x : vp_A} {ty : FieldType} {v : Int32} (hV : zV t f i) (he : zE g κ μ ω t f i = .inl (cA, x)) (ht : (gT g)[t0]? = some (cA, ty)) (hv : Int32.ofNat x.1 = v) (d : decode cc pc = .ok (.arraylength, 1)) (kk : zZ p l e R s m args below meth c g n Q κ μ ω k (pc + 1) lv (.int v :: st)) : zZ p l e R s m args below meth c g n Q κ μ ω k pc lv (.ref (gA g t f i) :: st) := fun H ls locs hl hS hW => by
  obtain ⟨q0, -, h2⟩ := zpos g κ μ ω hV
  rw [he] at h2
  exact va_alen hX.1 hX.2.1 hX.2.2.2.2.2.1 hW.1 q0 t0 h2 ht hv d (kk H ls locs hl hS hW)
theorem z_aald (hX : zX p l s m args meth c R g own cc n ret lvl mc) {t f i t0 N b : Nat} {cA : ClassId} {C : String} {fn : Nat → Option Nat} {j : Int32} (hV : zV t f i) (he : zE g κ μ ω t f i = .inl (cA, N, .inr (.inr (.inr (.inr fn))))) (ht : (gT g)[t0]? = some (cA, .object C)) (hin : vp_in j N) (hb : fn j.toNatClampNeg = some b) (d : decode cc pc = .ok (.aaload, 1)) (kk : zZ p l e R s m args below meth c g n Q κ μ ω k (pc + 1) lv (.ref b :: st)) : zZ p l e R s m args below meth c g n Q κ μ ω k pc lv (.int j :: .ref (gA g t f i) :: st) := fun H ls locs hl hS hW => by
  obtain ⟨q0, -, h2⟩ := zpos g κ μ ω hV
  rw [he] at h2
  refine va_aldq hX.1 hX.2.1 hX.2.2.2.2.2.1 hW.1 q0 t0 h2 ht hin d ?_
  rw [hb]
  exact kk H ls locs hl hS hW
/-- the receiver's class -/
def zRc (g : zG) (C : String) (b : Nat) : Prop := ∀ (κ : zKp) (μ : zMu) (ω : zOm) (U : State) (H : Heap), gK g U → WW g κ μ ω H → ∃ cell : Cell, H[b]? = some cell ∧ cell.vm.isStatics = false ∧ U.vm.findClass C = some cell.cls
theorem zRc_of {t f i ci N : Nat} {C : String} {T : u_T} (hV : zV t f i) (he : ∀ κ μ ω, ∃ fs, zE g κ μ ω t f i = .inr (ci, fs)) (hc : vwCl[ci]? = some (C, T, N)) : zRc g C (gA g t f i) := fun κ μ ω U H hK hW => by
  obtain ⟨q0, -, h2⟩ := zpos g κ μ ω hV
  obtain ⟨fs, hf⟩ := he κ μ ω
  rw [hf] at h2
  exact va_recv hK hW.1 hc h2
theorem zRc0 : zRc g RX4 (gA g 0 0 0) := zRc_of zV0 (fun _ _ _ => ⟨_, rfl⟩) rfl
theorem zRc2 : zRc g RX0 (gA g 2 0 0) := zRc_of zV2 (fun _ _ _ => ⟨_, rfl⟩) rfl
theorem zRc4 : zRc g RX2 (gA g 4 0 0) := zRc_of zV4 (fun _ _ _ => ⟨_, rfl⟩) rfl
theorem zRc6 {f : Nat} (hf : f < 11) : zRc g RX1 (gA g 6 f 0) := zRc_of (zV6 hf) (fun _ _ _ => ⟨_, rfl⟩) rfl
theorem zRc9 {f i : Nat} (hf : f < 11) (hi : i < 12) : zRc g RX3 (gA g 9 f i) := zRc_of (zV9 hf hi) (fun _ _ _ => ⟨_, rfl⟩) rfl
/-- a call place: the words that it links -/
def zCV (own : String) (idx : Nat) (y : MethodName) (cY : ByteArray) (nY : Nat) (retY : Option FieldType) (nA : Nat) : Prop := GoodIn gW (wsV own idx y.cls y (.code y cY nY retY :: gW)) ∧ y.cls ≠ "java/lang/invoke/MethodHandle" ∧ y.cls ≠ "java/lang/invoke/VarHandle" ∧ (parseMethodDescriptor y.desc).map (fun d => d.parameters.length) = some nA
def zCS (own : String) (idx : Nat) (y : MethodName) (cY : ByteArray) (nY : Nat) (retY : Option FieldType) (nA : Nat) : Prop := GoodIn gW (va_wsS own idx y (.code y cY nY retY :: gW)) ∧ y.cls ≠ "java/lang/invoke/MethodHandle" ∧ y.cls ≠ "java/lang/invoke/VarHandle" ∧ (parseMethodDescriptor y.desc).map (fun d => d.parameters.length) = some nA
def zCN (own : String) (idx : Nat) (y : MethodName) (host : String) (cY : ByteArray) (nY : Nat) (retY : Option FieldType) (nA : Nat) : Prop := GoodIn gW (.code y cY nY retY :: gW) ∧ Cond.methodLinkNest own idx y host ∈ tables_1 ∧ Cond.static y ∈ gW ∧ Cond.initialized y.cls ∈ gW ∧ y.cls ≠ "java/lang/invoke/MethodHandle" ∧ y.cls ≠ "java/lang/invoke/VarHandle" ∧ (parseMethodDescriptor y.desc).map (fun d => d.parameters.length) = some nA
theorem zroom {a b nY : Nat} (h1 : a < b) (h2 : nY ≤ 81) : 8 + (nY + 11) + 100 * a ≤ 100 * b := by omega
/-- behind a call that returned: back in the caller -/
theorem z_back {mcY : Nat} {r : Option Value} {rest st0 : List Value} {a : Array Value} {κ' : zKp} {μ' : zMu} {ω' : zOm} {H : Heap} {ls : Array Slot} {locs : List Loc} (hl : lv_has ls n lv) (hS : va_S (zA g) s.heap H locs)
    (hr : va_Run p l e R s m args below meth c H locs k (6 * k) mcY (6 * mcY) (F0 m pc ls st0) rest (zPost g κ' μ' ω' r a) (zA g)) (kk : zZ p l e R s m args below meth c g n Q κ' μ' ω' (k + mcY) (pc + 3) lv (r.toList ++ rest)) : W p l e R s m args below meth c H locs k (6 * k) Q (F0 m pc ls st0) := by
  intro T hT X
  obtain ⟨v, st₀, t, T', L, h0, X', hL, e1, e2, ⟨hv, hw, hF⟩, stp⟩ := hr T hT X
  cases hv
  have hS' : va_S (zA g) s.heap T'.heap (locs ++ L) := by
    refine ⟨Nat.le_trans hS.1 (by rw [e1, ← h0]; exact hF.1), fun q h1 h2 => ?_, fun q hq => ?_⟩
    · rw [e1, hF.2 q (by rw [h0]; exact Nat.lt_of_lt_of_le h1 hS.1) h2, h0]
      exact hS.2.1 q h1 h2
    · rcases List.mem_append.mp hq with h | h
      · exact hS.2.2 q h
      · exact hL q h
  rw [← Nat.mul_add] at X'
  obtain ⟨t2, a1, b1⟩ := kk T'.heap ls (locs ++ L) hl hS' (by rw [e1]; exact hw) T' rfl X'
  exact ⟨t2, stp t2 a1, b1⟩
theorem z_callV (hX : zX p l s m args meth c R g own cc n ret lvl mc) {idx nY lvlY mcY b nA : Nat} {y : MethodName} {cY : ByteArray} {retY : Option FieldType} {As rest : List Value} {r : Option Value} (hM : zM l g y cY nY retY lvlY mcY (.ref b :: As) κ μ ω κ' μ' ω' r) (hC : zCV own idx y cY nY retY nA) (hrc : zRc g y.cls b) (d : decode cc pc = .ok (.invokevirtual idx, 3)) (hlv : lvlY < lvl ∧ nY ≤ 81 ∧ k + mcY ≤ mc) (hA : As.length = nA) (hst : st = As.reverse ++ .ref b :: rest) (hcat : (rest.map fun v => v.category).sum ≤ 8) (kk : zZ p l e R s m args below meth c g n Q κ' μ' ω' (k + mcY) (pc + 3) lv (r.toList ++ rest)) : zZ p l e R s m args below meth c g n Q κ μ ω k pc lv st := fun H ls locs hl hS hW => by
  obtain ⟨hx, hb, hml, hown, hts, hK, hB, hs, hR, -⟩ := id hX
  obtain ⟨hG, h1, h2, h3⟩ := hC
  subst hst
  exact z_back hl hS (va_runV (nL := n) ⟨hx, hb, hml, hown, hts⟩ hM (cwV nA hts hG rfl rfl rfl ⟨rfl, h1, h2, h3⟩ ⟨Nat.le_trans hlv.1 hR.1, Nat.le_trans (zroom hlv.1 hlv.2.1) hR.2.1⟩) ⟨zPre_blind, hrc κ μ ω s H hK hW, fun U hU hw => ⟨rfl, hX.pre hS hW hU hw⟩⟩ rfl hA hl.1 rfl (lv_room hcat) d ⟨Nat.le_trans hlv.2.2 hR.2.2.1, by rw [← Nat.mul_add]; exact Nat.le_trans (Nat.mul_le_mul_left 6 hlv.2.2) hR.2.2.2⟩) kk
theorem z_callS (hX : zX p l s m args meth c R g own cc n ret lvl mc) {idx nY lvlY mcY nA : Nat} {y : MethodName} {cY : ByteArray} {retY : Option FieldType} {As rest : List Value} {r : Option Value} (hM : zM l g y cY nY retY lvlY mcY As κ μ ω κ' μ' ω' r) (hC : zCS own idx y cY nY retY nA) (d : decode cc pc = .ok (.invokestatic idx, 3)) (hlv : lvlY < lvl ∧ nY ≤ 81 ∧ k + mcY ≤ mc) (hA : As.length = nA) (hst : st = As.reverse ++ rest) (hcat : (rest.map fun v => v.category).sum ≤ 8) (kk : zZ p l e R s m args below meth c g n Q κ' μ' ω' (k + mcY) (pc + 3) lv (r.toList ++ rest)) : zZ p l e R s m args below meth c g n Q κ μ ω k pc lv st := fun H ls locs hl hS hW => by
  obtain ⟨hx, hb, hml, hown, hts, hK, hB, hs, hR, -⟩ := id hX
  obtain ⟨hG, h1, h2, h3⟩ := hC
  subst hst
  exact z_back hl hS (va_runS (nL := n) ⟨hx, hb, hml, hown, hts⟩ hM (va_cwS nA hts hG rfl rfl rfl ⟨h1, h2, h3⟩ ⟨Nat.le_trans hlv.1 hR.1, Nat.le_trans (zroom hlv.1 hlv.2.1) hR.2.1⟩) ⟨zPre_blind, fun U hU hw => ⟨rfl, hX.pre hS hW hU hw⟩⟩ rfl hA hl.1 rfl (lv_room hcat) d ⟨Nat.le_trans hlv.2.2 hR.2.2.1, by rw [← Nat.mul_add]; exact Nat.le_trans (Nat.mul_le_mul_left 6 hlv.2.2) hR.2.2.2⟩) kk

theorem z_callN (hX : zX p l s m args meth c R g own cc n ret lvl mc) {idx nY lvlY mcY nA : Nat} {y : MethodName} {host : String} {cY : ByteArray} {retY : Option FieldType} {As rest : List Value} {r : Option Value} (hM : zM l g y cY nY retY lvlY mcY As κ μ ω κ' μ' ω' r) (hC : zCN own idx y host cY nY retY nA) (d : decode cc pc = .ok (.invokestatic idx, 3)) (hlv : lvlY < lvl ∧ nY ≤ 81 ∧ k + mcY ≤ mc) (hA : As.length = nA) (hst : st = As.reverse ++ rest) (hcat : (rest.map fun v => v.category).sum ≤ 8) (kk : zZ p l e R s m args below meth c g n Q κ' μ' ω' (k + mcY) (pc + 3) lv (r.toList ++ rest)) : zZ p l e R s m args below meth c g n Q κ μ ω k pc lv st := fun H ls locs hl hS hW => by
  obtain ⟨hx, hb, hml, hown, hts, hK, hB, hs, hR, -⟩ := id hX
  obtain ⟨hG, hl1, hl2, hl3, h1, h2, h3⟩ := hC
  subst hst
  exact z_back hl hS (va_runSN (nL := n) ⟨hx, hb, hml, hown, hts⟩ hM ⟨va_cnB nA hts hG rfl rfl rfl (hB.2.2.2.2.2.1 _ hl1 rfl) (hts _ hl3) ⟨h1, h2, h3⟩ ⟨Nat.le_trans hlv.1 hR.1, Nat.le_trans (zroom hlv.1 hlv.2.1) hR.2.1⟩, hts _ hl2, trivial⟩ ⟨zPre_blind, fun U hU hw => ⟨rfl, hX.pre hS hW hU hw⟩⟩ rfl hA hl.1 rfl (lv_room hcat) d ⟨Nat.le_trans hlv.2.2 hR.2.2.1, by rw [← Nat.mul_add]; exact Nat.le_trans (Nat.mul_le_mul_left 6 hlv.2.2) hR.2.2.2⟩) kk
theorem z_callV1 (hX : zX p l s m args meth c R g own cc n ret lvl mc) {idx nY lvlY mcY nA : Nat} {b : Nat} {y : MethodName} {cY : ByteArray} {retY : Option FieldType} {As rest : List Value} {v : Value} (hM : zM l g y cY nY retY lvlY mcY (.ref b :: As) κ μ ω κ' μ' ω' (some v)) (hC : zCV own idx y cY nY retY nA) (hrc : zRc g y.cls b) (d : decode cc pc = .ok (.invokevirtual idx, 3)) (hlv : lvlY < lvl ∧ nY ≤ 81 ∧ k + mcY ≤ mc) (hA : As.length = nA) (hst : st = As.reverse ++ .ref b :: rest) (hcat : (rest.map fun v => v.category).sum ≤ 8) (kk : zZ p l e R s m args below meth c g n Q κ' μ' ω' (k + mcY) (pc + 3) lv (v :: rest)) : zZ p l e R s m args below meth c g n Q κ μ ω k pc lv st := z_callV hX hM hC hrc d hlv hA hst hcat kk
theorem z_callV0 (hX : zX p l s m args meth c R g own cc n ret lvl mc) {idx nY lvlY mcY nA : Nat} {b : Nat} {y : MethodName} {cY : ByteArray} {retY : Option FieldType} {As rest : List Value} (hM : zM l g y cY nY retY lvlY mcY (.ref b :: As) κ μ ω κ' μ' ω' none) (hC : zCV own idx y cY nY retY nA) (hrc : zRc g y.cls b) (d : decode cc pc = .ok (.invokevirtual idx, 3)) (hlv : lvlY < lvl ∧ nY ≤ 81 ∧ k + mcY ≤ mc) (hA : As.length = nA) (hst : st = As.reverse ++ .ref b :: rest) (hcat : (rest.map fun v => v.category).sum ≤ 8) (kk : zZ p l e R s m args below meth c g n Q κ' μ' ω' (k + mcY) (pc + 3) lv rest) : zZ p l e R s m args below meth c g n Q κ μ ω k pc lv st := z_callV hX hM hC hrc d hlv hA hst hcat kk
theorem z_callS1 (hX : zX p l s m args meth c R g own cc n ret lvl mc) {idx nY lvlY mcY nA : Nat} {y : MethodName} {cY : ByteArray} {retY : Option FieldType} {As rest : List Value} {v : Value} (hM : zM l g y cY nY retY lvlY mcY As κ μ ω κ' μ' ω' (some v)) (hC : zCS own idx y cY nY retY nA) (d : decode cc pc = .ok (.invokestatic idx, 3)) (hlv : lvlY < lvl ∧ nY ≤ 81 ∧ k + mcY ≤ mc) (hA : As.length = nA) (hst : st = As.reverse ++ rest) (hcat : (rest.map fun v => v.category).sum ≤ 8) (kk : zZ p l e R s m args below meth c g n Q κ' μ' ω' (k + mcY) (pc + 3) lv (v :: rest)) : zZ p l e R s m args below meth c g n Q κ μ ω k pc lv st := z_callS hX hM hC d hlv hA hst hcat kk
theorem z_callS0 (hX : zX p l s m args meth c R g own cc n ret lvl mc) {idx nY lvlY mcY nA : Nat} {y : MethodName} {cY : ByteArray} {retY : Option FieldType} {As rest : List Value} (hM : zM l g y cY nY retY lvlY mcY As κ μ ω κ' μ' ω' none) (hC : zCS own idx y cY nY retY nA) (d : decode cc pc = .ok (.invokestatic idx, 3)) (hlv : lvlY < lvl ∧ nY ≤ 81 ∧ k + mcY ≤ mc) (hA : As.length = nA) (hst : st = As.reverse ++ rest) (hcat : (rest.map fun v => v.category).sum ≤ 8) (kk : zZ p l e R s m args below meth c g n Q κ' μ' ω' (k + mcY) (pc + 3) lv rest) : zZ p l e R s m args below meth c g n Q κ μ ω k pc lv st := z_callS hX hM hC d hlv hA hst hcat kk
theorem z_callN1 (hX : zX p l s m args meth c R g own cc n ret lvl mc) {idx nY lvlY mcY nA : Nat} {host : String} {y : MethodName} {cY : ByteArray} {retY : Option FieldType} {As rest : List Value} {v : Value} (hM : zM l g y cY nY retY lvlY mcY As κ μ ω κ' μ' ω' (some v)) (hC : zCN own idx y host cY nY retY nA) (d : decode cc pc = .ok (.invokestatic idx, 3)) (hlv : lvlY < lvl ∧ nY ≤ 81 ∧ k + mcY ≤ mc) (hA : As.length = nA) (hst : st = As.reverse ++ rest) (hcat : (rest.map fun v => v.category).sum ≤ 8) (kk : zZ p l e R s m args below meth c g n Q κ' μ' ω' (k + mcY) (pc + 3) lv (v :: rest)) : zZ p l e R s m args below meth c g n Q κ μ ω k pc lv st := z_callN hX hM hC d hlv hA hst hcat kk
theorem z_callN0 (hX : zX p l s m args meth c R g own cc n ret lvl mc) {idx nY lvlY mcY nA : Nat} {host : String} {y : MethodName} {cY : ByteArray} {retY : Option FieldType} {As rest : List Value} (hM : zM l g y cY nY retY lvlY mcY As κ μ ω κ' μ' ω' none) (hC : zCN own idx y host cY nY retY nA) (d : decode cc pc = .ok (.invokestatic idx, 3)) (hlv : lvlY < lvl ∧ nY ≤ 81 ∧ k + mcY ≤ mc) (hA : As.length = nA) (hst : st = As.reverse ++ rest) (hcat : (rest.map fun v => v.category).sum ≤ 8) (kk : zZ p l e R s m args below meth c g n Q κ' μ' ω' (k + mcY) (pc + 3) lv rest) : zZ p l e R s m args below meth c g n Q κ μ ω k pc lv st := z_callN hX hM hC d hlv hA hst hcat kk
theorem z_max (hX : zX p l s m args meth c R g own cc n ret lvl mc) {idx : Nat} {x y : Int32} (hl0 : Cond.methodLink own idx Lib.Math.max.name ∈ gW) (d : decode cc pc = .ok (.invokestatic idx, 3)) (hlv : 1 ≤ lvl ∧ k ≤ mc) (hcat : (st.map fun v => v.category).sum ≤ 8) (kk : zZ p l e R s m args below meth c g n Q κ μ ω k (pc + 3) lv (.int (if x < y then y else x) :: st)) : zZ p l e R s m args below meth c g n Q κ μ ω k pc lv (.int y :: .int x :: st) := fun H ls locs hl hS hW => by
  obtain ⟨hx, hb, hml, hown, hts, hK, hB, hs, hR, -⟩ := id hX
  exact va_mmax hx hb (hml.trans hl.1.symm) hown (hts _ hl0) (hts _ wt_max) (hts _ wn_Math) (hts _ wc_max) (Nat.le_trans hlv.1 hR.1) (Nat.le_trans (by omega) hR.2.1) (Nat.le_trans hlv.2 hR.2.2.1) (Nat.le_trans (Nat.mul_le_mul_left 6 hlv.2) hR.2.2.2) d (kk H ls locs hl hS hW)
theorem z_min (hX : zX p l s m args meth c R g own cc n ret lvl mc) {idx : Nat} {x y : Int32} (hl0 : Cond.methodLink own idx Lib.Math.min.name ∈ gW) (d : decode cc pc = .ok (.invokestatic idx, 3)) (hlv : 1 ≤ lvl ∧ k ≤ mc) (hcat : (st.map fun v => v.category).sum ≤ 8) (kk : zZ p l e R s m args below meth c g n Q κ μ ω k (pc + 3) lv (.int (if y < x then y else x) :: st)) : zZ p l e R s m args below meth c g n Q κ μ ω k pc lv (.int y :: .int x :: st) := fun H ls locs hl hS hW => by
  obtain ⟨hx, hb, hml, hown, hts, hK, hB, hs, hR, -⟩ := id hX
  exact va_mmin hx hb (hml.trans hl.1.symm) hown (hts _ hl0) (hts _ wt_min) (hts _ wn_Math) (hts _ wc_min) (Nat.le_trans hlv.1 hR.1) (Nat.le_trans (by omega) hR.2.1) (Nat.le_trans hlv.2 hR.2.2.1) (Nat.le_trans (Nat.mul_le_mul_left 6 hlv.2) hR.2.2.2) d (kk H ls locs hl hS hW)
theorem z_abs (hX : zX p l s m args meth c R g own cc n ret lvl mc) {idx : Nat} {x : Int32} (hl0 : Cond.methodLink own idx Lib.Math.abs.name ∈ gW) (d : decode cc pc = .ok (.invokestatic idx, 3)) (hlv : 1 ≤ lvl ∧ k ≤ mc) (hcat : (st.map fun v => v.category).sum ≤ 8) (kk : zZ p l e R s m args below meth c g n Q κ μ ω k (pc + 3) lv (.int (if 0 ≤ x then x else 0 - x) :: st)) : zZ p l e R s m args below meth c g n Q κ μ ω k pc lv (.int x :: st) := fun H ls locs hl hS hW => by
  obtain ⟨hx, hb, hml, hown, hts, hK, hB, hs, hR, -⟩ := id hX
  exact va_mabs hx hb (hml.trans hl.1.symm) hown (hts _ hl0) (hts _ wt_abs) (hts _ wn_Math) (hts _ wc_abs) (Nat.le_trans hlv.1 hR.1) (Nat.le_trans (by omega) hR.2.1) (Nat.le_trans hlv.2 hR.2.2.1) (Nat.le_trans (Nat.mul_le_mul_left 6 hlv.2) hR.2.2.2) d (kk H ls locs hl hS hW)
/-- what a body owes at its end -/
abbrev zQ (g : zG) (κ' : zKp) (μ' : zMu) (ω' : zOm) (r : Option Value) (below : List Frame) (args : Array Value) (s : State) (mc : Nat) : State → Prop := MQ below (zPost g κ' μ' ω' r) args s mc (6 * mc) (zA g)
theorem z_iret {r : Option Value} {x : Int32} {ty : FieldType} (hX : zX p l s m args meth c R g own cc n (some ty) lvl mc) (d : decode cc pc = .ok (.ireturn, 1)) (hk : k ≤ mc) (hn : narrow ty (.int x) = .int x) (hr : r = some (.int x)) (hw : ∀ H, WW g κ μ ω H → WW g κ' μ' ω' H) : zZ p l e R s m args below meth c g n (zQ g κ' μ' ω' r below args s mc) κ μ ω k pc lv [.int x] := fun H ls locs hl hS hW => by
  subst hr
  obtain ⟨hx, hb, hml, hown, hts, hK, hB, hs, hR, hlk, hrt⟩ := hX
  exact W.widen hk (Nat.mul_le_mul_left 6 hk) (W.zret hx hb hrt hn (fun t ht hw2 => ⟨rfl, by rw [ht]; exact hw H hW, hS.F ht⟩) hS.2.2 d hlk)
theorem z_iretI {r : Option Value} {x : Int32} (hX : zX p l s m args meth c R g own cc n (some .int) lvl mc) (d : decode cc pc = .ok (.ireturn, 1)) (hk : k ≤ mc) (hr : r = some (.int x)) (hw : ∀ H, WW g κ μ ω H → WW g κ' μ' ω' H) : zZ p l e R s m args below meth c g n (zQ g κ' μ' ω' r below args s mc) κ μ ω k pc lv [.int x] := z_iret hX d hk rfl hr hw
theorem z_vret (hX : zX p l s m args meth c R g own cc n none lvl mc) (d : decode cc pc = .ok (.return_, 1)) (hk : k ≤ mc) (hw : ∀ H, WW g κ μ ω H → WW g κ' μ' ω' H) : zZ p l e R s m args below meth c g n (zQ g κ' μ' ω' none below args s mc) κ μ ω k pc lv [] := fun H ls locs hl hS hW => by
  obtain ⟨hx, hb, hml, hown, hts, hK, hB, hs, hR, hlk, hrt⟩ := hX
  exact W.widen hk (Nat.mul_le_mul_left 6 hk) (W.vret hx hb hrt (fun t ht hw2 => ⟨rfl, by rw [ht]; exact hw H hW, hS.F ht⟩) hS.2.2 d hlk)
theorem z_aret {r : Option Value} {v : Value} {nm : String} (hX : zX p l s m args meth c R g own cc n (some (.object nm)) lvl mc) (d : decode cc pc = .ok (.areturn, 1)) (hk : k ≤ mc) (hv : v = .null ∨ ∃ a, v = .ref a) (hr : r = some v) (hw : ∀ H, WW g κ μ ω H → WW g κ' μ' ω' H) : zZ p l e R s m args below meth c g n (zQ g κ' μ' ω' r below args s mc) κ μ ω k pc lv [v] := fun H ls locs hl hS hW => by
  subst hr
  obtain ⟨hx, hb, hml, hown, hts, hK, hB, hs, hR, hlk, hrt⟩ := hX
  exact W.widen hk (Nat.mul_le_mul_left 6 hk) (W.aret hx hb hrt (Or.inl ⟨_, rfl⟩) hv (fun t ht hw2 => ⟨rfl, by rw [ht]; exact hw H hW, hS.F ht⟩) hS.2.2 d hlk)
/-- a contract from its body -/
theorem zM_of {y : MethodName} {As : List Value} {r : Option Value} (hy : plainName y.cls = true) (hlen : (lg_sl As).length ≤ n) (body : ∀ (p : Program) (e : Env) (R : Room) (s : State) (m : MethodId) (args : Array Value) (below : List Frame) (meth : Method) (c : Code), zX p l s m args meth c R g y.cls cc n ret lvl mc → zZ p l e R s m args below meth c g n (zQ g κ' μ' ω' r below args s mc) κ μ ω 0 0 (lv_args 0 As) []) : zM l g y cc n ret lvl mc As κ μ ω κ' μ' ω' r := by
  refine Met.ofW (cc := cc) (maxL := n) (ret := ret) hy rfl ?_
  intro p e s m args below meth c s₁ B hml hv
  obtain ⟨rfl, hW, hK, hB, hs⟩ := hv
  have hts := atoms_spec (ws := .code y cc n ret :: gW) B.pre
  have hl := lv_entry As (n := n) hlen
  rw [lg_entry_eq]
  exact body p e (zR lvl mc) s m As.toArray below meth c ⟨B.exec, B.bytes, hml, findClass_of_methodNamed B.named, fun w hw => hts w (List.mem_cons_of_mem _ hw), hK, hB, hs, ⟨Nat.le_refl _, Nat.le_refl _, Nat.le_refl _, Nat.le_refl _⟩, B.notSynchronized, B.returns⟩ s.heap _ [] hl va_S.rf hW
end ZR
