section ZX2
abbrev zN2 : List String := ["java/lang/RuntimeException", "java/lang/Exception"]
theorem zN2_fit : ∀ n ∈ zN2, Bundle.fit n = true := by decide +kernel
abbrev xIAE : String := "java/lang/IllegalArgumentException"
theorem cl_IAE : Cond.classLink RX4 58 xIAE ∈ gW := gW_I 368 (by decide +kernel) rfl
theorem in_IAE : Cond.initialized xIAE ∈ gW := gW_I 16 (by decide +kernel) rfl
theorem go_IAE : ∀ w ∈ Cond.classLink RX4 58 xIAE :: Cond.initialized xIAE :: vx_atS RX4 62 xIAE zN2, vx_ot w = true := by decide +kernel
theorem h1_IAE : ∀ w ∈ (vx_atS RX4 62 xIAE zN2).filter goodWord, w ∈ lw_tbl := by decide +kernel
theorem h2_IAE : ∀ w ∈ (vx_atS RX4 62 xIAE zN2).filter (fun w => !goodWord w), w ∈ tables_1 ∧ zIsNw w = true := by decide +kernel
theorem ft_IAE : Bundle.fit xIAE = true := by decide +kernel
abbrev xISE : String := "java/lang/IllegalStateException"
theorem cl_ISE : Cond.classLink RX4 65 xISE ∈ gW := gW_I 440 (by decide +kernel) rfl
theorem in_ISE : Cond.initialized xISE ∈ gW := gW_I 17 (by decide +kernel) rfl
theorem go_ISE : ∀ w ∈ Cond.classLink RX4 65 xISE :: Cond.initialized xISE :: vx_atS RX4 69 xISE zN2, vx_ot w = true := by decide +kernel
theorem h1_ISE : ∀ w ∈ (vx_atS RX4 69 xISE zN2).filter goodWord, w ∈ lw_tbl := by decide +kernel
theorem h2_ISE : ∀ w ∈ (vx_atS RX4 69 xISE zN2).filter (fun w => !goodWord w), w ∈ tables_1 ∧ zIsNw w = true := by decide +kernel
theorem ft_ISE : Bundle.fit xISE = true := by decide +kernel
abbrev xUOE : String := "java/lang/UnsupportedOperationException"
theorem cl_UOE : Cond.classLink RX4 70 xUOE ∈ gW := gW_I 456 (by decide +kernel) rfl
theorem in_UOE : Cond.initialized xUOE ∈ gW := gW_I 18 (by decide +kernel) rfl
theorem go_UOE : ∀ w ∈ Cond.classLink RX4 70 xUOE :: Cond.initialized xUOE :: vx_atS RX4 74 xUOE zN2, vx_ot w = true := by decide +kernel
theorem h1_UOE : ∀ w ∈ (vx_atS RX4 74 xUOE zN2).filter goodWord, w ∈ lw_tbl := by decide +kernel
theorem h2_UOE : ∀ w ∈ (vx_atS RX4 74 xUOE zN2).filter (fun w => !goodWord w), w ∈ tables_1 ∧ zIsNw w = true := by decide +kernel
theorem ft_UOE : Bundle.fit xUOE = true := by decide +kernel
abbrev xIOE : String := "java/lang/IndexOutOfBoundsException"
theorem cl_IOE : Cond.classLink RX4 86 xIOE ∈ gW := gW_I 542 (by decide +kernel) rfl
theorem in_IOE : Cond.initialized xIOE ∈ gW := gW_I 19 (by decide +kernel) rfl
theorem go_IOE : ∀ w ∈ Cond.classLink RX4 86 xIOE :: Cond.initialized xIOE :: vx_atS RX4 90 xIOE zN2, vx_ot w = true := by decide +kernel
theorem h1_IOE : ∀ w ∈ (vx_atS RX4 90 xIOE zN2).filter goodWord, w ∈ lw_tbl := by decide +kernel
theorem h2_IOE : ∀ w ∈ (vx_atS RX4 90 xIOE zN2).filter (fun w => !goodWord w), w ∈ tables_1 ∧ zIsNw w = true := by decide +kernel
theorem ft_IOE : Bundle.fit xIOE = true := by decide +kernel
abbrev xNSE : String := "java/util/NoSuchElementException"
theorem cl_NSE : Cond.classLink RX4 171 xNSE ∈ gW := gW_I 662 (by decide +kernel) rfl
theorem in_NSE : Cond.initialized xNSE ∈ gW := gW_I 21 (by decide +kernel) rfl
theorem ft_NSE : Bundle.fit xNSE = true := by decide +kernel
abbrev xARE : String := "java/lang/ArithmeticException"
theorem cl_ARE : Cond.classLink RX4 261 xARE ∈ gW := gW_I 925 (by decide +kernel) rfl
theorem in_ARE : Cond.initialized xARE ∈ gW := gW_I 22 (by decide +kernel) rfl
theorem go_ARE : ∀ w ∈ Cond.classLink RX4 261 xARE :: Cond.initialized xARE :: vx_atS RX4 265 xARE zN2, vx_ot w = true := by decide +kernel
theorem h1_ARE : ∀ w ∈ (vx_atS RX4 265 xARE zN2).filter goodWord, w ∈ lw_tbl := by decide +kernel
theorem h2_ARE : ∀ w ∈ (vx_atS RX4 265 xARE zN2).filter (fun w => !goodWord w), w ∈ tables_1 ∧ zIsNw w = true := by decide +kernel
theorem ft_ARE : Bundle.fit xARE = true := by decide +kernel
end ZX2
