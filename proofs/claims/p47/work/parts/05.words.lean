section ZWD
theorem win_X0 : ∀ w ∈ u_ws RX0 TX0 8, w ∈ gW := by
  have h : (u_ws RX0 TX0 8).all (fun w => decide (w ∈ tables_1) && goodWord w) = true := by decide +kernel
  intro w hw
  have h2 := List.all_eq_true.mp h w hw
  rw [Bool.and_eq_true, decide_eq_true_eq] at h2
  exact gW_T h2.1 h2.2
theorem win_X1 : ∀ w ∈ u_ws RX1 TX1 7, w ∈ gW := by
  have h : (u_ws RX1 TX1 7).all (fun w => decide (w ∈ tables_1) && goodWord w) = true := by decide +kernel
  intro w hw
  have h2 := List.all_eq_true.mp h w hw
  rw [Bool.and_eq_true, decide_eq_true_eq] at h2
  exact gW_T h2.1 h2.2
theorem win_X2 : ∀ w ∈ u_ws RX2 TX2 3, w ∈ gW := by
  have h : (u_ws RX2 TX2 3).all (fun w => decide (w ∈ tables_1) && goodWord w) = true := by decide +kernel
  intro w hw
  have h2 := List.all_eq_true.mp h w hw
  rw [Bool.and_eq_true, decide_eq_true_eq] at h2
  exact gW_T h2.1 h2.2
theorem win_X3 : ∀ w ∈ u_ws RX3 TX3 10, w ∈ gW := by
  have h : (u_ws RX3 TX3 10).all (fun w => decide (w ∈ tables_1) && goodWord w) = true := by decide +kernel
  intro w hw
  have h2 := List.all_eq_true.mp h w hw
  rw [Bool.and_eq_true, decide_eq_true_eq] at h2
  exact gW_T h2.1 h2.2
theorem win_X4 : ∀ w ∈ u_ws RX4 TX4 10, w ∈ gW := by
  have h : (u_ws RX4 TX4 10).all (fun w => decide (w ∈ tables_1) && goodWord w) = true := by decide +kernel
  intro w hw
  have h2 := List.all_eq_true.mp h w hw
  rw [Bool.and_eq_true, decide_eq_true_eq] at h2
  exact gW_T h2.1 h2.2
theorem fl_RX4_10 : Cond.fieldLink RX4 10 RX4 "field" "LLineBattle$Field;" ∈ gW := gW_I 191 (by decide +kernel) rfl
theorem fl_RX4_16 : Cond.fieldLink RX4 16 RX4 "snapshot" "LLineBattle$Field;" ∈ gW := gW_I 192 (by decide +kernel) rfl
theorem fl_RX4_19 : Cond.fieldLink RX4 19 RX4 "scratch" "LLineBattle$Field;" ∈ gW := gW_I 193 (by decide +kernel) rfl
theorem fl_RX4_25 : Cond.fieldLink RX4 25 RX4 "history" "LLineBattle$History;" ∈ gW := gW_I 194 (by decide +kernel) rfl
theorem fl_RX4_32 : Cond.fieldLink RX4 32 RX4 "text" "LLineBattle$CommandText;" ∈ gW := gW_I 195 (by decide +kernel) rfl
theorem fl_RX4_36 : Cond.fieldLink RX4 36 RX4 "written" "[C" ∈ gW := gW_I 196 (by decide +kernel) rfl
theorem fl_RX4_40 : Cond.fieldLink RX4 40 RX4 "writtenLength" "I" ∈ gW := gW_I 197 (by decide +kernel) rfl
theorem fl_RX4_44 : Cond.fieldLink RX4 44 RX4 "hasSnapshot" "Z" ∈ gW := gW_I 198 (by decide +kernel) rfl
theorem fl_RX4_48 : Cond.fieldLink RX4 48 RX4 "lastErrorPosition" "I" ∈ gW := gW_I 199 (by decide +kernel) rfl
theorem fl_RX4_51 : Cond.fieldLink RX4 51 RX4 "lastFailedCommand" "I" ∈ gW := gW_I 200 (by decide +kernel) rfl
theorem ml_RX4_54 : Cond.methodLink RX4 54 yX1_faultOfAdding ∈ gW := gW_I 277 (by decide +kernel) rfl
theorem wi_X1_faultOfAdding : Cond.instanceMethod yX1_faultOfAdding ∈ gW := gW_I 278 (by decide +kernel) rfl
theorem wn_RX1 : Cond.initialized RX1 ∈ gW := gW_I 2 (by decide +kernel) rfl
set_option maxRecDepth 100000 in
theorem wc_X1_faultOfAdding : Cond.code yX1_faultOfAdding cX1_faultOfAdding 5 (some .int) ∈ gW := gW_I 280 rfl rfl
theorem we_X1_faultOfAdding : Cond.selects RX1 yX1_faultOfAdding yX1_faultOfAdding ∈ gW := gW_I 279 (by decide +kernel) rfl
theorem cv_RX4_54 : zCV RX4 54 yX1_faultOfAdding cX1_faultOfAdding 5 (some .int) 4 := ⟨gW_V ml_RX4_54 wi_X1_faultOfAdding we_X1_faultOfAdding wn_RX1 wc_X1_faultOfAdding, by decide, by decide, by decide +kernel⟩
theorem ml_RX4_75 : Cond.methodLink RX4 75 yX2_keep ∈ gW := gW_I 472 (by decide +kernel) rfl
theorem wi_X2_keep : Cond.instanceMethod yX2_keep ∈ gW := gW_I 473 (by decide +kernel) rfl
theorem wn_RX2 : Cond.initialized RX2 ∈ gW := gW_I 5 (by decide +kernel) rfl
set_option maxRecDepth 100000 in
theorem wc_X2_keep : Cond.code yX2_keep cX2_keep 3 none ∈ gW := gW_I 475 rfl rfl
theorem we_X2_keep : Cond.selects RX2 yX2_keep yX2_keep ∈ gW := gW_I 474 (by decide +kernel) rfl
theorem cv_RX4_75 : zCV RX4 75 yX2_keep cX2_keep 3 none 1 := ⟨gW_V ml_RX4_75 wi_X2_keep we_X2_keep wn_RX2 wc_X2_keep, by decide, by decide, by decide +kernel⟩
theorem ml_RX4_79 : Cond.methodLink RX4 79 yX1_add ∈ gW := gW_I 489 (by decide +kernel) rfl
theorem wi_X1_add : Cond.instanceMethod yX1_add ∈ gW := gW_I 490 (by decide +kernel) rfl
set_option maxRecDepth 100000 in
theorem wc_X1_add : Cond.code yX1_add cX1_add 7 (some .int) ∈ gW := gW_I 492 rfl rfl
theorem we_X1_add : Cond.selects RX1 yX1_add yX1_add ∈ gW := gW_I 491 (by decide +kernel) rfl
theorem cv_RX4_79 : zCV RX4 79 yX1_add cX1_add 7 (some .int) 4 := ⟨gW_V ml_RX4_79 wi_X1_add we_X1_add wn_RX1 wc_X1_add, by decide, by decide, by decide +kernel⟩
theorem ml_RX4_82 : Cond.methodLink RX4 82 yX1_faultOfOrdering ∈ gW := gW_I 533 (by decide +kernel) rfl
theorem wi_X1_faultOfOrdering : Cond.instanceMethod yX1_faultOfOrdering ∈ gW := gW_I 534 (by decide +kernel) rfl
set_option maxRecDepth 100000 in
theorem wc_X1_faultOfOrdering : Cond.code yX1_faultOfOrdering cX1_faultOfOrdering 4 (some .int) ∈ gW := gW_I 536 rfl rfl
theorem we_X1_faultOfOrdering : Cond.selects RX1 yX1_faultOfOrdering yX1_faultOfOrdering ∈ gW := gW_I 535 (by decide +kernel) rfl
theorem cv_RX4_82 : zCV RX4 82 yX1_faultOfOrdering cX1_faultOfOrdering 4 (some .int) 2 := ⟨gW_V ml_RX4_82 wi_X1_faultOfOrdering we_X1_faultOfOrdering wn_RX1 wc_X1_faultOfOrdering, by decide, by decide, by decide +kernel⟩
theorem ml_RX4_95 : Cond.methodLink RX4 95 yX1_giveOrder ∈ gW := gW_I 557 (by decide +kernel) rfl
theorem wi_X1_giveOrder : Cond.instanceMethod yX1_giveOrder ∈ gW := gW_I 558 (by decide +kernel) rfl
set_option maxRecDepth 100000 in
theorem wc_X1_giveOrder : Cond.code yX1_giveOrder cX1_giveOrder 5 (some .char) ∈ gW := gW_I 560 rfl rfl
theorem we_X1_giveOrder : Cond.selects RX1 yX1_giveOrder yX1_giveOrder ∈ gW := gW_I 559 (by decide +kernel) rfl
theorem cv_RX4_95 : zCV RX4 95 yX1_giveOrder cX1_giveOrder 5 (some .char) 2 := ⟨gW_V ml_RX4_95 wi_X1_giveOrder we_X1_giveOrder wn_RX1 wc_X1_giveOrder, by decide, by decide, by decide +kernel⟩
theorem ml_RX4_99 : Cond.methodLink RX4 99 yX1_faultOfRallying ∈ gW := gW_I 568 (by decide +kernel) rfl
theorem wi_X1_faultOfRallying : Cond.instanceMethod yX1_faultOfRallying ∈ gW := gW_I 569 (by decide +kernel) rfl
set_option maxRecDepth 100000 in
theorem wc_X1_faultOfRallying : Cond.code yX1_faultOfRallying cX1_faultOfRallying 3 (some .int) ∈ gW := gW_I 571 rfl rfl
theorem we_X1_faultOfRallying : Cond.selects RX1 yX1_faultOfRallying yX1_faultOfRallying ∈ gW := gW_I 570 (by decide +kernel) rfl
theorem cv_RX4_99 : zCV RX4 99 yX1_faultOfRallying cX1_faultOfRallying 3 (some .int) 1 := ⟨gW_V ml_RX4_99 wi_X1_faultOfRallying we_X1_faultOfRallying wn_RX1 wc_X1_faultOfRallying, by decide, by decide, by decide +kernel⟩
theorem ml_RX4_107 : Cond.methodLink RX4 107 yX1_useJar ∈ gW := gW_I 582 (by decide +kernel) rfl
theorem wi_X1_useJar : Cond.instanceMethod yX1_useJar ∈ gW := gW_I 583 (by decide +kernel) rfl
set_option maxRecDepth 100000 in
theorem wc_X1_useJar : Cond.code yX1_useJar cX1_useJar 3 (some .int) ∈ gW := gW_I 585 rfl rfl
theorem we_X1_useJar : Cond.selects RX1 yX1_useJar yX1_useJar ∈ gW := gW_I 584 (by decide +kernel) rfl
theorem cv_RX4_107 : zCV RX4 107 yX1_useJar cX1_useJar 3 (some .int) 1 := ⟨gW_V ml_RX4_107 wi_X1_useJar we_X1_useJar wn_RX1 wc_X1_useJar, by decide, by decide, by decide +kernel⟩
theorem ml_RX4_110 : Cond.methodLink RX4 110 yX1_passTurn ∈ gW := gW_I 599 (by decide +kernel) rfl
theorem wi_X1_passTurn : Cond.instanceMethod yX1_passTurn ∈ gW := gW_I 600 (by decide +kernel) rfl
set_option maxRecDepth 100000 in
theorem wc_X1_passTurn : Cond.code yX1_passTurn cX1_passTurn 4 (some .int) ∈ gW := gW_I 602 rfl rfl
theorem we_X1_passTurn : Cond.selects RX1 yX1_passTurn yX1_passTurn ∈ gW := gW_I 601 (by decide +kernel) rfl
theorem cv_RX4_110 : zCV RX4 110 yX1_passTurn cX1_passTurn 4 (some .int) 0 := ⟨gW_V ml_RX4_110 wi_X1_passTurn we_X1_passTurn wn_RX1 wc_X1_passTurn, by decide, by decide, by decide +kernel⟩
theorem fl_RX4_114 : Cond.fieldLink RX4 114 RX1 "count" "I" ∈ gW := gW_I 110 (by decide +kernel) rfl
theorem ml_RX4_117 : Cond.methodLink RX4 117 yX4_known ∈ gW := gW_I 689 (by decide +kernel) rfl
theorem wi_X4_known : Cond.instanceMethod yX4_known ∈ gW := gW_I 691 (by decide +kernel) rfl
theorem wn_RX4 : Cond.initialized RX4 ∈ gW := gW_I 1 (by decide +kernel) rfl
set_option maxRecDepth 100000 in
theorem wc_X4_known : Cond.code yX4_known cX4_known 3 (some (.object "LineBattle$Line")) ∈ gW := gW_I 692 rfl rfl
theorem we_X4_known : Cond.selects RX4 yX4_known yX4_known ∈ gW := gW_P (y := yX4_known) (k := 10) (by decide +kernel)
theorem cv_RX4_117 : zCV RX4 117 yX4_known cX4_known 3 (some (.object "LineBattle$Line")) 1 := ⟨gW_V ml_RX4_117 wi_X4_known we_X4_known wn_RX4 wc_X4_known, by decide, by decide, by decide +kernel⟩
theorem fl_RX4_121 : Cond.fieldLink RX4 121 RX3 "side" "I" ∈ gW := gW_I 57 (by decide +kernel) rfl
theorem ml_RX4_126 : Cond.methodLink RX4 126 yX4_unfallen ∈ gW := gW_I 685 (by decide +kernel) rfl
theorem wi_X4_unfallen : Cond.instanceMethod yX4_unfallen ∈ gW := gW_I 687 (by decide +kernel) rfl
set_option maxRecDepth 100000 in
theorem wc_X4_unfallen : Cond.code yX4_unfallen cX4_unfallen 3 (some (.object "LineBattle$Line")) ∈ gW := gW_I 688 rfl rfl
theorem we_X4_unfallen : Cond.selects RX4 yX4_unfallen yX4_unfallen ∈ gW := gW_P (y := yX4_unfallen) (k := 10) (by decide +kernel)
theorem cv_RX4_126 : zCV RX4 126 yX4_unfallen cX4_unfallen 3 (some (.object "LineBattle$Line")) 1 := ⟨gW_V ml_RX4_126 wi_X4_unfallen we_X4_unfallen wn_RX4 wc_X4_unfallen, by decide, by decide, by decide +kernel⟩
theorem fl_RX4_129 : Cond.fieldLink RX4 129 RX3 "lane" "I" ∈ gW := gW_I 60 (by decide +kernel) rfl
theorem fl_RX4_132 : Cond.fieldLink RX4 132 RX3 "column" "I" ∈ gW := gW_I 64 (by decide +kernel) rfl
theorem fl_RX4_135 : Cond.fieldLink RX4 135 RX3 "kind" "C" ∈ gW := gW_I 67 (by decide +kernel) rfl
theorem fl_RX4_139 : Cond.fieldLink RX4 139 RX3 "strength" "I" ∈ gW := gW_I 73 (by decide +kernel) rfl
theorem fl_RX4_142 : Cond.fieldLink RX4 142 RX3 "morale" "I" ∈ gW := gW_I 76 (by decide +kernel) rfl
theorem ml_RX4_145 : Cond.methodLink RX4 145 yX3_stands ∈ gW := gW_I 713 (by decide +kernel) rfl
theorem wi_X3_stands : Cond.instanceMethod yX3_stands ∈ gW := gW_I 539 (by decide +kernel) rfl
theorem wn_RX3 : Cond.initialized RX3 ∈ gW := gW_I 3 (by decide +kernel) rfl
set_option maxRecDepth 100000 in
theorem wc_X3_stands : Cond.code yX3_stands cX3_stands 1 (some .boolean) ∈ gW := gW_I 541 rfl rfl
theorem we_X3_stands : Cond.selects RX3 yX3_stands yX3_stands ∈ gW := gW_I 540 (by decide +kernel) rfl
theorem cv_RX4_145 : zCV RX4 145 yX3_stands cX3_stands 1 (some .boolean) 0 := ⟨gW_V ml_RX4_145 wi_X3_stands we_X3_stands wn_RX3 wc_X3_stands, by decide, by decide, by decide +kernel⟩
theorem fl_RX4_149 : Cond.fieldLink RX4 149 RX3 "order" "C" ∈ gW := gW_I 70 (by decide +kernel) rfl
theorem ml_RX4_152 : Cond.methodLink RX4 152 yX3_routed ∈ gW := gW_I 718 (by decide +kernel) rfl
theorem wi_X3_routed : Cond.instanceMethod yX3_routed ∈ gW := gW_I 573 (by decide +kernel) rfl
set_option maxRecDepth 100000 in
theorem wc_X3_routed : Cond.code yX3_routed cX3_routed 1 (some .boolean) ∈ gW := gW_I 575 rfl rfl
theorem we_X3_routed : Cond.selects RX3 yX3_routed yX3_routed ∈ gW := gW_I 574 (by decide +kernel) rfl
theorem cv_RX4_152 : zCV RX4 152 yX3_routed cX3_routed 1 (some .boolean) 0 := ⟨gW_V ml_RX4_152 wi_X3_routed we_X3_routed wn_RX3 wc_X3_routed, by decide, by decide, by decide +kernel⟩
theorem fl_RX4_155 : Cond.fieldLink RX4 155 RX3 "turnsRouted" "I" ∈ gW := gW_I 81 (by decide +kernel) rfl
theorem ml_RX4_158 : Cond.methodLink RX4 158 yX4_isLane ∈ gW := gW_I 658 (by decide +kernel) rfl
theorem wt_X4_isLane : Cond.static yX4_isLane ∈ gW := gW_I 285 (by decide +kernel) rfl
set_option maxRecDepth 100000 in
theorem wc_X4_isLane : Cond.code yX4_isLane cX4_isLane 1 (some .boolean) ∈ gW := gW_I 286 rfl rfl
theorem cs_RX4_158 : zCS RX4 158 yX4_isLane cX4_isLane 1 (some .boolean) 1 := ⟨gW_S ml_RX4_158 wt_X4_isLane wn_RX4 wc_X4_isLane, by decide, by decide, by decide +kernel⟩
theorem ml_RX4_162 : Cond.methodLink RX4 162 yX4_isColumn ∈ gW := gW_I 659 (by decide +kernel) rfl
theorem wt_X4_isColumn : Cond.static yX4_isColumn ∈ gW := gW_I 362 (by decide +kernel) rfl
set_option maxRecDepth 100000 in
theorem wc_X4_isColumn : Cond.code yX4_isColumn cX4_isColumn 1 (some .boolean) ∈ gW := gW_I 363 rfl rfl
theorem cs_RX4_162 : zCS RX4 162 yX4_isColumn cX4_isColumn 1 (some .boolean) 1 := ⟨gW_S ml_RX4_162 wt_X4_isColumn wn_RX4 wc_X4_isColumn, by decide, by decide, by decide +kernel⟩
theorem ml_RX4_167 : Cond.methodLink RX4 167 yX1_occupant ∈ gW := gW_I 661 (by decide +kernel) rfl
theorem wi_X1_occupant : Cond.instanceMethod yX1_occupant ∈ gW := gW_I 358 (by decide +kernel) rfl
set_option maxRecDepth 100000 in
theorem wc_X1_occupant : Cond.code yX1_occupant cX1_occupant 4 (some (.object "LineBattle$Line")) ∈ gW := gW_I 360 rfl rfl
theorem we_X1_occupant : Cond.selects RX1 yX1_occupant yX1_occupant ∈ gW := gW_I 359 (by decide +kernel) rfl
theorem cv_RX4_167 : zCV RX4 167 yX1_occupant cX1_occupant 4 (some (.object "LineBattle$Line")) 2 := ⟨gW_V ml_RX4_167 wi_X1_occupant we_X1_occupant wn_RX1 wc_X1_occupant, by decide, by decide, by decide +kernel⟩
theorem fl_RX4_176 : Cond.fieldLink RX4 176 RX3 "number" "I" ∈ gW := gW_I 54 (by decide +kernel) rfl
theorem ml_RX4_179 : Cond.methodLink RX4 179 yX3_attack ∈ gW := gW_I 760 (by decide +kernel) rfl
theorem wi_X3_attack : Cond.instanceMethod yX3_attack ∈ gW := gW_I 620 (by decide +kernel) rfl
set_option maxRecDepth 100000 in
theorem wc_X3_attack : Cond.code yX3_attack cX3_attack 2 (some .int) ∈ gW := gW_I 622 rfl rfl
theorem we_X3_attack : Cond.selects RX3 yX3_attack yX3_attack ∈ gW := gW_I 621 (by decide +kernel) rfl
theorem cv_RX4_179 : zCV RX4 179 yX3_attack cX3_attack 2 (some .int) 1 := ⟨gW_V ml_RX4_179 wi_X3_attack we_X3_attack wn_RX3 wc_X3_attack, by decide, by decide, by decide +kernel⟩
theorem ml_RX4_183 : Cond.methodLink RX4 183 yX3_counter ∈ gW := gW_I 771 (by decide +kernel) rfl
theorem wi_X3_counter : Cond.instanceMethod yX3_counter ∈ gW := gW_I 636 (by decide +kernel) rfl
set_option maxRecDepth 100000 in
theorem wc_X3_counter : Cond.code yX3_counter cX3_counter 1 (some .int) ∈ gW := gW_I 638 rfl rfl
theorem we_X3_counter : Cond.selects RX3 yX3_counter yX3_counter ∈ gW := gW_I 637 (by decide +kernel) rfl
theorem cv_RX4_183 : zCV RX4 183 yX3_counter cX3_counter 1 (some .int) 0 := ⟨gW_V ml_RX4_183 wi_X3_counter we_X3_counter wn_RX3 wc_X3_counter, by decide, by decide, by decide +kernel⟩
theorem ml_RX4_186 : Cond.methodLink RX4 186 yX1_supportInCells ∈ gW := gW_I 795 (by decide +kernel) rfl
theorem wi_X1_supportInCells : Cond.instanceMethod yX1_supportInCells ∈ gW := gW_I 796 (by decide +kernel) rfl
set_option maxRecDepth 100000 in
theorem wc_X1_supportInCells : Cond.code yX1_supportInCells cX1_supportInCells 5 (some .int) ∈ gW := gW_I 798 rfl rfl
theorem we_X1_supportInCells : Cond.selects RX1 yX1_supportInCells yX1_supportInCells ∈ gW := gW_I 797 (by decide +kernel) rfl
theorem cv_RX4_186 : zCV RX4 186 yX1_supportInCells cX1_supportInCells 5 (some .int) 1 := ⟨gW_V ml_RX4_186 wi_X1_supportInCells we_X1_supportInCells wn_RX1 wc_X1_supportInCells, by decide, by decide, by decide +kernel⟩
theorem ml_RX4_190 : Cond.methodLink RX4 190 yX1_supportAmongLines ∈ gW := gW_I 806 (by decide +kernel) rfl
theorem wi_X1_supportAmongLines : Cond.instanceMethod yX1_supportAmongLines ∈ gW := gW_I 624 (by decide +kernel) rfl
set_option maxRecDepth 100000 in
theorem wc_X1_supportAmongLines : Cond.code yX1_supportAmongLines cX1_supportAmongLines 5 (some .int) ∈ gW := gW_I 626 rfl rfl
theorem we_X1_supportAmongLines : Cond.selects RX1 yX1_supportAmongLines yX1_supportAmongLines ∈ gW := gW_I 625 (by decide +kernel) rfl
theorem cv_RX4_190 : zCV RX4 190 yX1_supportAmongLines cX1_supportAmongLines 5 (some .int) 1 := ⟨gW_V ml_RX4_190 wi_X1_supportAmongLines we_X1_supportAmongLines wn_RX1 wc_X1_supportAmongLines, by decide, by decide, by decide +kernel⟩
theorem ml_RX4_193 : Cond.methodLink RX4 193 yX1_enemyInCells ∈ gW := gW_I 814 (by decide +kernel) rfl
theorem wi_X1_enemyInCells : Cond.instanceMethod yX1_enemyInCells ∈ gW := gW_I 815 (by decide +kernel) rfl
set_option maxRecDepth 100000 in
theorem wc_X1_enemyInCells : Cond.code yX1_enemyInCells cX1_enemyInCells 4 (some .int) ∈ gW := gW_I 817 rfl rfl
theorem we_X1_enemyInCells : Cond.selects RX1 yX1_enemyInCells yX1_enemyInCells ∈ gW := gW_I 816 (by decide +kernel) rfl
theorem cv_RX4_193 : zCV RX4 193 yX1_enemyInCells cX1_enemyInCells 4 (some .int) 1 := ⟨gW_V ml_RX4_193 wi_X1_enemyInCells we_X1_enemyInCells wn_RX1 wc_X1_enemyInCells, by decide, by decide, by decide +kernel⟩
theorem ml_RX4_198 : Cond.methodLink RX4 198 yX1_enemyAmongLines ∈ gW := gW_I 826 (by decide +kernel) rfl
theorem wi_X1_enemyAmongLines : Cond.instanceMethod yX1_enemyAmongLines ∈ gW := gW_I 827 (by decide +kernel) rfl
set_option maxRecDepth 100000 in
theorem wc_X1_enemyAmongLines : Cond.code yX1_enemyAmongLines cX1_enemyAmongLines 7 (some .int) ∈ gW := gW_I 829 rfl rfl
theorem we_X1_enemyAmongLines : Cond.selects RX1 yX1_enemyAmongLines yX1_enemyAmongLines ∈ gW := gW_I 828 (by decide +kernel) rfl
theorem cv_RX4_198 : zCV RX4 198 yX1_enemyAmongLines cX1_enemyAmongLines 7 (some .int) 1 := ⟨gW_V ml_RX4_198 wi_X1_enemyAmongLines we_X1_enemyAmongLines wn_RX1 wc_X1_enemyAmongLines, by decide, by decide, by decide +kernel⟩
theorem fl_RX4_201 : Cond.fieldLink RX4 201 RX1 "fights" "I" ∈ gW := gW_I 114 (by decide +kernel) rfl
theorem ml_RX4_209 : Cond.methodLink RX4 209 yX4_requireSide ∈ gW := gW_I 878 (by decide +kernel) rfl
theorem wt_X4_requireSide : Cond.static yX4_requireSide ∈ gW := gW_I 879 (by decide +kernel) rfl
set_option maxRecDepth 100000 in
theorem wc_X4_requireSide : Cond.code yX4_requireSide cX4_requireSide 1 none ∈ gW := gW_I 880 rfl rfl
theorem cs_RX4_209 : zCS RX4 209 yX4_requireSide cX4_requireSide 1 none 1 := ⟨gW_S ml_RX4_209 wt_X4_requireSide wn_RX4 wc_X4_requireSide, by decide, by decide, by decide +kernel⟩
theorem ml_RX4_213 : Cond.methodLink RX4 213 yX1_jars ∈ gW := gW_I 915 (by decide +kernel) rfl
theorem wi_X1_jars : Cond.instanceMethod yX1_jars ∈ gW := gW_I 577 (by decide +kernel) rfl
set_option maxRecDepth 100000 in
theorem wc_X1_jars : Cond.code yX1_jars cX1_jars 2 (some .int) ∈ gW := gW_I 579 rfl rfl
theorem we_X1_jars : Cond.selects RX1 yX1_jars yX1_jars ∈ gW := gW_I 578 (by decide +kernel) rfl
theorem cv_RX4_213 : zCV RX4 213 yX1_jars cX1_jars 2 (some .int) 1 := ⟨gW_V ml_RX4_213 wi_X1_jars we_X1_jars wn_RX1 wc_X1_jars, by decide, by decide, by decide +kernel⟩
theorem ml_RX4_216 : Cond.methodLink RX4 216 yX1_strengthAmongLines ∈ gW := gW_I 882 (by decide +kernel) rfl
theorem wi_X1_strengthAmongLines : Cond.instanceMethod yX1_strengthAmongLines ∈ gW := gW_I 883 (by decide +kernel) rfl
set_option maxRecDepth 100000 in
theorem wc_X1_strengthAmongLines : Cond.code yX1_strengthAmongLines cX1_strengthAmongLines 5 (some .int) ∈ gW := gW_I 885 rfl rfl
theorem we_X1_strengthAmongLines : Cond.selects RX1 yX1_strengthAmongLines yX1_strengthAmongLines ∈ gW := gW_I 884 (by decide +kernel) rfl
theorem cv_RX4_216 : zCV RX4 216 yX1_strengthAmongLines cX1_strengthAmongLines 5 (some .int) 1 := ⟨gW_V ml_RX4_216 wi_X1_strengthAmongLines we_X1_strengthAmongLines wn_RX1 wc_X1_strengthAmongLines, by decide, by decide, by decide +kernel⟩
theorem ml_RX4_219 : Cond.methodLink RX4 219 yX1_strengthInCells ∈ gW := gW_I 893 (by decide +kernel) rfl
theorem wi_X1_strengthInCells : Cond.instanceMethod yX1_strengthInCells ∈ gW := gW_I 894 (by decide +kernel) rfl
set_option maxRecDepth 100000 in
theorem wc_X1_strengthInCells : Cond.code yX1_strengthInCells cX1_strengthInCells 6 (some .int) ∈ gW := gW_I 896 rfl rfl
theorem we_X1_strengthInCells : Cond.selects RX1 yX1_strengthInCells yX1_strengthInCells ∈ gW := gW_I 895 (by decide +kernel) rfl
theorem cv_RX4_219 : zCV RX4 219 yX1_strengthInCells cX1_strengthInCells 6 (some .int) 1 := ⟨gW_V ml_RX4_219 wi_X1_strengthInCells we_X1_strengthInCells wn_RX1 wc_X1_strengthInCells, by decide, by decide, by decide +kernel⟩
theorem ml_RX4_222 : Cond.methodLink RX4 222 yX1_fallen ∈ gW := gW_I 904 (by decide +kernel) rfl
theorem wi_X1_fallen : Cond.instanceMethod yX1_fallen ∈ gW := gW_I 905 (by decide +kernel) rfl
set_option maxRecDepth 100000 in
theorem wc_X1_fallen : Cond.code yX1_fallen cX1_fallen 5 (some .int) ∈ gW := gW_I 907 rfl rfl
theorem we_X1_fallen : Cond.selects RX1 yX1_fallen yX1_fallen ∈ gW := gW_I 906 (by decide +kernel) rfl
theorem cv_RX4_222 : zCV RX4 222 yX1_fallen cX1_fallen 5 (some .int) 1 := ⟨gW_V ml_RX4_222 wi_X1_fallen we_X1_fallen wn_RX1 wc_X1_fallen, by decide, by decide, by decide +kernel⟩
theorem ml_RX4_225 : Cond.methodLink RX4 225 yX4_isSide ∈ gW := gW_I 864 (by decide +kernel) rfl
theorem wt_X4_isSide : Cond.static yX4_isSide ∈ gW := gW_I 282 (by decide +kernel) rfl
set_option maxRecDepth 100000 in
theorem wc_X4_isSide : Cond.code yX4_isSide cX4_isSide 1 (some .boolean) ∈ gW := gW_I 283 rfl rfl
theorem cs_RX4_225 : zCS RX4 225 yX4_isSide cX4_isSide 1 (some .boolean) 1 := ⟨gW_S ml_RX4_225 wt_X4_isSide wn_RX4 wc_X4_isSide, by decide, by decide, by decide +kernel⟩
theorem ml_RX4_230 : Cond.methodLink RX4 230 yX1_front ∈ gW := gW_I 866 (by decide +kernel) rfl
theorem wi_X1_front : Cond.instanceMethod yX1_front ∈ gW := gW_I 867 (by decide +kernel) rfl
set_option maxRecDepth 100000 in
theorem wc_X1_front : Cond.code yX1_front cX1_front 7 (some .int) ∈ gW := gW_I 869 rfl rfl
theorem we_X1_front : Cond.selects RX1 yX1_front yX1_front ∈ gW := gW_I 868 (by decide +kernel) rfl
theorem cv_RX4_230 : zCV RX4 230 yX1_front cX1_front 7 (some .int) 2 := ⟨gW_V ml_RX4_230 wi_X1_front we_X1_front wn_RX1 wc_X1_front, by decide, by decide, by decide +kernel⟩
theorem ml_RX4_238 : Cond.methodLink RX4 238 yX1_lineOfRank ∈ gW := gW_I 838 (by decide +kernel) rfl
theorem wi_X1_lineOfRank : Cond.instanceMethod yX1_lineOfRank ∈ gW := gW_I 839 (by decide +kernel) rfl
set_option maxRecDepth 100000 in
theorem wc_X1_lineOfRank : Cond.code yX1_lineOfRank cX1_lineOfRank 4 (some .int) ∈ gW := gW_I 841 rfl rfl
theorem we_X1_lineOfRank : Cond.selects RX1 yX1_lineOfRank yX1_lineOfRank ∈ gW := gW_I 840 (by decide +kernel) rfl
theorem cv_RX4_238 : zCV RX4 238 yX1_lineOfRank cX1_lineOfRank 4 (some .int) 1 := ⟨gW_V ml_RX4_238 wi_X1_lineOfRank we_X1_lineOfRank wn_RX1 wc_X1_lineOfRank, by decide, by decide, by decide +kernel⟩
theorem fl_RX4_243 : Cond.fieldLink RX4 243 RX1 "turns" "I" ∈ gW := gW_I 112 (by decide +kernel) rfl
theorem ml_RX4_248 : Cond.methodLink RX4 248 yX4_write ∈ gW := gW_I 1205 (by decide +kernel) rfl
theorem wi_X4_write : Cond.instanceMethod yX4_write ∈ gW := gW_I 1207 (by decide +kernel) rfl
set_option maxRecDepth 100000 in
theorem wc_X4_write : Cond.code yX4_write cX4_write 2 none ∈ gW := gW_I 1208 rfl rfl
theorem we_X4_write : Cond.selects RX4 yX4_write yX4_write ∈ gW := gW_P (y := yX4_write) (k := 10) (by decide +kernel)
theorem cv_RX4_248 : zCV RX4 248 yX4_write cX4_write 2 none 1 := ⟨gW_V ml_RX4_248 wi_X4_write we_X4_write wn_RX4 wc_X4_write, by decide, by decide, by decide +kernel⟩
theorem ml_RX4_252 : Cond.methodLink RX4 252 yX3_letter ∈ gW := gW_I 1209 (by decide +kernel) rfl
theorem wi_X3_letter : Cond.instanceMethod yX3_letter ∈ gW := gW_I 1210 (by decide +kernel) rfl
set_option maxRecDepth 100000 in
theorem wc_X3_letter : Cond.code yX3_letter cX3_letter 1 (some .char) ∈ gW := gW_I 1212 rfl rfl
theorem we_X3_letter : Cond.selects RX3 yX3_letter yX3_letter ∈ gW := gW_I 1211 (by decide +kernel) rfl
theorem cv_RX4_252 : zCV RX4 252 yX3_letter cX3_letter 1 (some .char) 0 := ⟨gW_V ml_RX4_252 wi_X3_letter we_X3_letter wn_RX3 wc_X3_letter, by decide, by decide, by decide +kernel⟩
theorem ml_RX4_258 : Cond.methodLink RX4 258 yX1_unfallenCount ∈ gW := gW_I 920 (by decide +kernel) rfl
theorem wi_X1_unfallenCount : Cond.instanceMethod yX1_unfallenCount ∈ gW := gW_I 921 (by decide +kernel) rfl
set_option maxRecDepth 100000 in
theorem wc_X1_unfallenCount : Cond.code yX1_unfallenCount cX1_unfallenCount 1 (some .int) ∈ gW := gW_I 923 rfl rfl
theorem we_X1_unfallenCount : Cond.selects RX1 yX1_unfallenCount yX1_unfallenCount ∈ gW := gW_I 922 (by decide +kernel) rfl
theorem cv_RX4_258 : zCV RX4 258 yX1_unfallenCount cX1_unfallenCount 1 (some .int) 0 := ⟨gW_V ml_RX4_258 wi_X1_unfallenCount we_X1_unfallenCount wn_RX1 wc_X1_unfallenCount, by decide, by decide, by decide +kernel⟩
theorem ml_RX4_266 : Cond.methodLink RX4 266 yX1_moraleSum ∈ gW := gW_I 941 (by decide +kernel) rfl
theorem wi_X1_moraleSum : Cond.instanceMethod yX1_moraleSum ∈ gW := gW_I 942 (by decide +kernel) rfl
set_option maxRecDepth 100000 in
theorem wc_X1_moraleSum : Cond.code yX1_moraleSum cX1_moraleSum 4 (some .int) ∈ gW := gW_I 944 rfl rfl
theorem we_X1_moraleSum : Cond.selects RX1 yX1_moraleSum yX1_moraleSum ∈ gW := gW_I 943 (by decide +kernel) rfl
theorem cv_RX4_266 : zCV RX4 266 yX1_moraleSum cX1_moraleSum 4 (some .int) 0 := ⟨gW_V ml_RX4_266 wi_X1_moraleSum we_X1_moraleSum wn_RX1 wc_X1_moraleSum, by decide, by decide, by decide +kernel⟩
theorem ml_RX4_271 : Cond.methodLink RX4 271 yX1_standingCount ∈ gW := gW_I 950 (by decide +kernel) rfl
theorem wi_X1_standingCount : Cond.instanceMethod yX1_standingCount ∈ gW := gW_I 951 (by decide +kernel) rfl
set_option maxRecDepth 100000 in
theorem wc_X1_standingCount : Cond.code yX1_standingCount cX1_standingCount 4 (some .int) ∈ gW := gW_I 953 rfl rfl
theorem we_X1_standingCount : Cond.selects RX1 yX1_standingCount yX1_standingCount ∈ gW := gW_I 952 (by decide +kernel) rfl
theorem cv_RX4_271 : zCV RX4 271 yX1_standingCount cX1_standingCount 4 (some .int) 0 := ⟨gW_V ml_RX4_271 wi_X1_standingCount we_X1_standingCount wn_RX1 wc_X1_standingCount, by decide, by decide, by decide +kernel⟩
theorem ml_RX4_274 : Cond.methodLink RX4 274 yX1_agrees ∈ gW := gW_I 966 (by decide +kernel) rfl
theorem wi_X1_agrees : Cond.instanceMethod yX1_agrees ∈ gW := gW_I 967 (by decide +kernel) rfl
set_option maxRecDepth 100000 in
theorem wc_X1_agrees : Cond.code yX1_agrees cX1_agrees 3 (some .boolean) ∈ gW := gW_I 969 rfl rfl
theorem we_X1_agrees : Cond.selects RX1 yX1_agrees yX1_agrees ∈ gW := gW_I 968 (by decide +kernel) rfl
theorem cv_RX4_274 : zCV RX4 274 yX1_agrees cX1_agrees 3 (some .boolean) 0 := ⟨gW_V ml_RX4_274 wi_X1_agrees we_X1_agrees wn_RX1 wc_X1_agrees, by decide, by decide, by decide +kernel⟩
theorem ml_RX4_279 : Cond.methodLink RX4 279 yX0_append ∈ gW := gW_I 1262 (by decide +kernel) rfl
theorem wi_X0_append : Cond.instanceMethod yX0_append ∈ gW := gW_I 1263 (by decide +kernel) rfl
theorem wn_RX0 : Cond.initialized RX0 ∈ gW := gW_I 6 (by decide +kernel) rfl
set_option maxRecDepth 100000 in
theorem wc_X0_append : Cond.code yX0_append cX0_append 2 (some .boolean) ∈ gW := gW_I 1265 rfl rfl
theorem we_X0_append : Cond.selects RX0 yX0_append yX0_append ∈ gW := gW_I 1264 (by decide +kernel) rfl
theorem cv_RX4_279 : zCV RX4 279 yX0_append cX0_append 2 (some .boolean) 1 := ⟨gW_V ml_RX4_279 wi_X0_append we_X0_append wn_RX0 wc_X0_append, by decide, by decide, by decide +kernel⟩
theorem fl_RX4_285 : Cond.fieldLink RX4 285 RX0 "length" "I" ∈ gW := gW_I 160 (by decide +kernel) rfl
theorem ml_RX4_288 : Cond.methodLink RX4 288 yX0_countCommands ∈ gW := gW_I 1274 (by decide +kernel) rfl
theorem wi_X0_countCommands : Cond.instanceMethod yX0_countCommands ∈ gW := gW_I 1275 (by decide +kernel) rfl
set_option maxRecDepth 100000 in
theorem wc_X0_countCommands : Cond.code yX0_countCommands cX0_countCommands 2 (some .int) ∈ gW := gW_I 1277 rfl rfl
theorem we_X0_countCommands : Cond.selects RX0 yX0_countCommands yX0_countCommands ∈ gW := gW_I 1276 (by decide +kernel) rfl
theorem cv_RX4_288 : zCV RX4 288 yX0_countCommands cX0_countCommands 2 (some .int) 0 := ⟨gW_V ml_RX4_288 wi_X0_countCommands we_X0_countCommands wn_RX0 wc_X0_countCommands, by decide, by decide, by decide +kernel⟩
theorem fl_RX4_291 : Cond.fieldLink RX4 291 RX0 "position" "I" ∈ gW := gW_I 162 (by decide +kernel) rfl
theorem ml_RX4_294 : Cond.methodLink RX4 294 yX0_clear ∈ gW := gW_I 1323 (by decide +kernel) rfl
theorem wi_X0_clear : Cond.instanceMethod yX0_clear ∈ gW := gW_I 1324 (by decide +kernel) rfl
set_option maxRecDepth 100000 in
theorem wc_X0_clear : Cond.code yX0_clear cX0_clear 1 none ∈ gW := gW_I 1326 rfl rfl
theorem we_X0_clear : Cond.selects RX0 yX0_clear yX0_clear ∈ gW := gW_I 1325 (by decide +kernel) rfl
theorem cv_RX4_294 : zCV RX4 294 yX0_clear cX0_clear 1 none 0 := ⟨gW_V ml_RX4_294 wi_X0_clear we_X0_clear wn_RX0 wc_X0_clear, by decide, by decide, by decide +kernel⟩
theorem ml_RX4_204 : Cond.methodLink RX4 204 yX1_copyFrom ∈ gW := gW_I 1328 (by decide +kernel) rfl
theorem wi_X1_copyFrom : Cond.instanceMethod yX1_copyFrom ∈ gW := gW_I 482 (by decide +kernel) rfl
set_option maxRecDepth 100000 in
theorem wc_X1_copyFrom : Cond.code yX1_copyFrom cX1_copyFrom 5 none ∈ gW := gW_I 484 rfl rfl
theorem we_X1_copyFrom : Cond.selects RX1 yX1_copyFrom yX1_copyFrom ∈ gW := gW_I 483 (by decide +kernel) rfl
theorem cv_RX4_204 : zCV RX4 204 yX1_copyFrom cX1_copyFrom 5 none 1 := ⟨gW_V ml_RX4_204 wi_X1_copyFrom we_X1_copyFrom wn_RX1 wc_X1_copyFrom, by decide, by decide, by decide +kernel⟩
theorem ml_RX4_299 : Cond.methodLink RX4 299 yX0_rewind ∈ gW := gW_I 1329 (by decide +kernel) rfl
theorem wi_X0_rewind : Cond.instanceMethod yX0_rewind ∈ gW := gW_I 1279 (by decide +kernel) rfl
set_option maxRecDepth 100000 in
theorem wc_X0_rewind : Cond.code yX0_rewind cX0_rewind 1 none ∈ gW := gW_I 1281 rfl rfl
theorem we_X0_rewind : Cond.selects RX0 yX0_rewind yX0_rewind ∈ gW := gW_I 1280 (by decide +kernel) rfl
theorem cv_RX4_299 : zCV RX4 299 yX0_rewind cX0_rewind 1 none 0 := ⟨gW_V ml_RX4_299 wi_X0_rewind we_X0_rewind wn_RX0 wc_X0_rewind, by decide, by decide, by decide +kernel⟩
theorem ml_RX4_302 : Cond.methodLink RX4 302 yX0_readNext ∈ gW := gW_I 1330 (by decide +kernel) rfl
theorem wi_X0_readNext : Cond.instanceMethod yX0_readNext ∈ gW := gW_I 1331 (by decide +kernel) rfl
set_option maxRecDepth 100000 in
theorem wc_X0_readNext : Cond.code yX0_readNext cX0_readNext 1 (some .boolean) ∈ gW := gW_I 1333 rfl rfl
theorem we_X0_readNext : Cond.selects RX0 yX0_readNext yX0_readNext ∈ gW := gW_I 1332 (by decide +kernel) rfl
theorem cv_RX4_302 : zCV RX4 302 yX0_readNext cX0_readNext 1 (some .boolean) 0 := ⟨gW_V ml_RX4_302 wi_X0_readNext we_X0_readNext wn_RX0 wc_X0_readNext, by decide, by decide, by decide +kernel⟩
theorem ml_RX4_305 : Cond.methodLink RX4 305 yX4_perform ∈ gW := gW_I 1334 (by decide +kernel) rfl
theorem wi_X4_perform : Cond.instanceMethod yX4_perform ∈ gW := gW_I 1336 (by decide +kernel) rfl
set_option maxRecDepth 100000 in
theorem wc_X4_perform : Cond.code yX4_perform cX4_perform 1 (some .boolean) ∈ gW := gW_I 1337 rfl rfl
theorem we_X4_perform : Cond.selects RX4 yX4_perform yX4_perform ∈ gW := gW_P (y := yX4_perform) (k := 10) (by decide +kernel)
theorem cv_RX4_305 : zCV RX4 305 yX4_perform cX4_perform 1 (some .boolean) 0 := ⟨gW_V ml_RX4_305 wi_X4_perform we_X4_perform wn_RX4 wc_X4_perform, by decide, by decide, by decide +kernel⟩
theorem ml_RX4_314 : Cond.methodLink RX4 314 yX2_takeBack ∈ gW := gW_I 1346 (by decide +kernel) rfl
theorem wi_X2_takeBack : Cond.instanceMethod yX2_takeBack ∈ gW := gW_I 1347 (by decide +kernel) rfl
set_option maxRecDepth 100000 in
theorem wc_X2_takeBack : Cond.code yX2_takeBack cX2_takeBack 3 (some .boolean) ∈ gW := gW_I 1349 rfl rfl
theorem we_X2_takeBack : Cond.selects RX2 yX2_takeBack yX2_takeBack ∈ gW := gW_I 1348 (by decide +kernel) rfl
theorem cv_RX4_314 : zCV RX4 314 yX2_takeBack cX2_takeBack 3 (some .boolean) 1 := ⟨gW_V ml_RX4_314 wi_X2_takeBack we_X2_takeBack wn_RX2 wc_X2_takeBack, by decide, by decide, by decide +kernel⟩
theorem fl_RX4_320 : Cond.fieldLink RX4 320 RX2 "depth" "I" ∈ gW := gW_I 144 (by decide +kernel) rfl
theorem ml_RX4_330 : Cond.methodLink RX4 330 yX1_line ∈ gW := gW_I 693 (by decide +kernel) rfl
theorem wi_X1_line : Cond.instanceMethod yX1_line ∈ gW := gW_I 365 (by decide +kernel) rfl
set_option maxRecDepth 100000 in
theorem wc_X1_line : Cond.code yX1_line cX1_line 2 (some (.object "LineBattle$Line")) ∈ gW := gW_I 367 rfl rfl
theorem we_X1_line : Cond.selects RX1 yX1_line yX1_line ∈ gW := gW_I 366 (by decide +kernel) rfl
theorem cv_RX4_330 : zCV RX4 330 yX1_line cX1_line 2 (some (.object "LineBattle$Line")) 1 := ⟨gW_V ml_RX4_330 wi_X1_line we_X1_line wn_RX1 wc_X1_line, by decide, by decide, by decide +kernel⟩
theorem ml_RX4_333 : Cond.methodLink RX4 333 yX3_hasFallen ∈ gW := gW_I 694 (by decide +kernel) rfl
theorem wi_X3_hasFallen : Cond.instanceMethod yX3_hasFallen ∈ gW := gW_I 695 (by decide +kernel) rfl
set_option maxRecDepth 100000 in
theorem wc_X3_hasFallen : Cond.code yX3_hasFallen cX3_hasFallen 1 (some .boolean) ∈ gW := gW_I 697 rfl rfl
theorem we_X3_hasFallen : Cond.selects RX3 yX3_hasFallen yX3_hasFallen ∈ gW := gW_I 696 (by decide +kernel) rfl
theorem cv_RX4_333 : zCV RX4 333 yX3_hasFallen cX3_hasFallen 1 (some .boolean) 0 := ⟨gW_V ml_RX4_333 wi_X3_hasFallen we_X3_hasFallen wn_RX3 wc_X3_hasFallen, by decide, by decide, by decide +kernel⟩
theorem fl_RX4_338 : Cond.fieldLink RX4 338 RX0 "initial" "C" ∈ gW := gW_I 164 (by decide +kernel) rfl
theorem fl_RX4_341 : Cond.fieldLink RX4 341 RX0 "first" "I" ∈ gW := gW_I 166 (by decide +kernel) rfl
theorem fl_RX4_344 : Cond.fieldLink RX4 344 RX0 "second" "I" ∈ gW := gW_I 168 (by decide +kernel) rfl
theorem fl_RX4_347 : Cond.fieldLink RX4 347 RX0 "sign" "C" ∈ gW := gW_I 170 (by decide +kernel) rfl
theorem fl_RX4_350 : Cond.fieldLink RX4 350 RX0 "number" "I" ∈ gW := gW_I 172 (by decide +kernel) rfl
theorem fl_RX0_9 : Cond.fieldLink RX0 9 RX0 "signs" "[C" ∈ gW := gW_I 158 (by decide +kernel) rfl
theorem fl_RX0_15 : Cond.fieldLink RX0 15 RX0 "length" "I" ∈ gW := gW_I 159 (by decide +kernel) rfl
theorem fl_RX0_19 : Cond.fieldLink RX0 19 RX0 "position" "I" ∈ gW := gW_I 161 (by decide +kernel) rfl
theorem fl_RX0_22 : Cond.fieldLink RX0 22 RX0 "initial" "C" ∈ gW := gW_I 163 (by decide +kernel) rfl
theorem fl_RX0_26 : Cond.fieldLink RX0 26 RX0 "first" "I" ∈ gW := gW_I 165 (by decide +kernel) rfl
theorem fl_RX0_29 : Cond.fieldLink RX0 29 RX0 "second" "I" ∈ gW := gW_I 167 (by decide +kernel) rfl
theorem fl_RX0_32 : Cond.fieldLink RX0 32 RX0 "sign" "C" ∈ gW := gW_I 169 (by decide +kernel) rfl
theorem fl_RX0_35 : Cond.fieldLink RX0 35 RX0 "number" "I" ∈ gW := gW_I 171 (by decide +kernel) rfl
theorem ml_RX0_38 : Cond.methodLink RX0 38 yX0_rewind ∈ gW := gW_I 1278 (by decide +kernel) rfl
theorem cv_RX0_38 : zCV RX0 38 yX0_rewind cX0_rewind 1 none 0 := ⟨gW_V ml_RX0_38 wi_X0_rewind we_X0_rewind wn_RX0 wc_X0_rewind, by decide, by decide, by decide +kernel⟩
theorem ml_RX0_41 : Cond.methodLink RX0 41 yX0_readCommand ∈ gW := gW_I 1282 (by decide +kernel) rfl
theorem wi_X0_readCommand : Cond.instanceMethod yX0_readCommand ∈ gW := gW_I 1284 (by decide +kernel) rfl
set_option maxRecDepth 100000 in
theorem wc_X0_readCommand : Cond.code yX0_readCommand cX0_readCommand 1 (some .boolean) ∈ gW := gW_I 1285 rfl rfl
theorem we_X0_readCommand : Cond.selects RX0 yX0_readCommand yX0_readCommand ∈ gW := gW_P (y := yX0_readCommand) (k := 8) (by decide +kernel)
theorem cv_RX0_41 : zCV RX0 41 yX0_readCommand cX0_readCommand 1 (some .boolean) 0 := ⟨gW_V ml_RX0_41 wi_X0_readCommand we_X0_readCommand wn_RX0 wc_X0_readCommand, by decide, by decide, by decide +kernel⟩
theorem ml_RX0_45 : Cond.methodLink RX0 45 yX0_take ∈ gW := gW_I 1297 (by decide +kernel) rfl
theorem wi_X0_take : Cond.instanceMethod yX0_take ∈ gW := gW_I 1299 (by decide +kernel) rfl
set_option maxRecDepth 100000 in
theorem wc_X0_take : Cond.code yX0_take cX0_take 2 (some .boolean) ∈ gW := gW_I 1300 rfl rfl
theorem we_X0_take : Cond.selects RX0 yX0_take yX0_take ∈ gW := gW_P (y := yX0_take) (k := 8) (by decide +kernel)
theorem cv_RX0_45 : zCV RX0 45 yX0_take cX0_take 2 (some .boolean) 1 := ⟨gW_V ml_RX0_45 wi_X0_take we_X0_take wn_RX0 wc_X0_take, by decide, by decide, by decide +kernel⟩
theorem ml_RX0_49 : Cond.methodLink RX0 49 yX0_peek ∈ gW := gW_I 1286 (by decide +kernel) rfl
theorem wi_X0_peek : Cond.instanceMethod yX0_peek ∈ gW := gW_I 1288 (by decide +kernel) rfl
set_option maxRecDepth 100000 in
theorem wc_X0_peek : Cond.code yX0_peek cX0_peek 1 (some .char) ∈ gW := gW_I 1289 rfl rfl
theorem we_X0_peek : Cond.selects RX0 yX0_peek yX0_peek ∈ gW := gW_P (y := yX0_peek) (k := 8) (by decide +kernel)
theorem cv_RX0_49 : zCV RX0 49 yX0_peek cX0_peek 1 (some .char) 0 := ⟨gW_V ml_RX0_49 wi_X0_peek we_X0_peek wn_RX0 wc_X0_peek, by decide, by decide, by decide +kernel⟩
theorem ml_RX0_55 : Cond.methodLink RX0 55 yX0_takeWord ∈ gW := gW_I 1291 (by decide +kernel) rfl
theorem wi_X0_takeWord : Cond.instanceMethod yX0_takeWord ∈ gW := gW_I 1293 (by decide +kernel) rfl
set_option maxRecDepth 100000 in
theorem wc_X0_takeWord : Cond.code yX0_takeWord cX0_takeWord 3 (some .boolean) ∈ gW := gW_I 1294 rfl rfl
theorem we_X0_takeWord : Cond.selects RX0 yX0_takeWord yX0_takeWord ∈ gW := gW_P (y := yX0_takeWord) (k := 8) (by decide +kernel)
theorem cv_RX0_55 : zCV RX0 55 yX0_takeWord cX0_takeWord 3 (some .boolean) 1 := ⟨gW_V ml_RX0_55 wi_X0_takeWord we_X0_takeWord wn_RX0 wc_X0_takeWord, by decide, by decide, by decide +kernel⟩
theorem ml_RX0_59 : Cond.methodLink RX0 59 yX0_readPlace ∈ gW := gW_I 1301 (by decide +kernel) rfl
theorem wi_X0_readPlace : Cond.instanceMethod yX0_readPlace ∈ gW := gW_I 1303 (by decide +kernel) rfl
set_option maxRecDepth 100000 in
theorem wc_X0_readPlace : Cond.code yX0_readPlace cX0_readPlace 1 (some .boolean) ∈ gW := gW_I 1304 rfl rfl
theorem we_X0_readPlace : Cond.selects RX0 yX0_readPlace yX0_readPlace ∈ gW := gW_P (y := yX0_readPlace) (k := 8) (by decide +kernel)
theorem cv_RX0_59 : zCV RX0 59 yX0_readPlace cX0_readPlace 1 (some .boolean) 0 := ⟨gW_V ml_RX0_59 wi_X0_readPlace we_X0_readPlace wn_RX0 wc_X0_readPlace, by decide, by decide, by decide +kernel⟩
theorem ml_RX0_64 : Cond.methodLink RX0 64 yX0_readSign ∈ gW := gW_I 1310 (by decide +kernel) rfl
theorem wi_X0_readSign : Cond.instanceMethod yX0_readSign ∈ gW := gW_I 1312 (by decide +kernel) rfl
set_option maxRecDepth 100000 in
theorem wc_X0_readSign : Cond.code yX0_readSign cX0_readSign 2 (some .boolean) ∈ gW := gW_I 1313 rfl rfl
theorem we_X0_readSign : Cond.selects RX0 yX0_readSign yX0_readSign ∈ gW := gW_P (y := yX0_readSign) (k := 8) (by decide +kernel)
theorem cv_RX0_64 : zCV RX0 64 yX0_readSign cX0_readSign 2 (some .boolean) 1 := ⟨gW_V ml_RX0_64 wi_X0_readSign we_X0_readSign wn_RX0 wc_X0_readSign, by decide, by decide, by decide +kernel⟩
theorem ml_RX0_67 : Cond.methodLink RX0 67 yX0_readNumber ∈ gW := gW_I 1315 (by decide +kernel) rfl
theorem wi_X0_readNumber : Cond.instanceMethod yX0_readNumber ∈ gW := gW_I 1317 (by decide +kernel) rfl
set_option maxRecDepth 100000 in
theorem wc_X0_readNumber : Cond.code yX0_readNumber cX0_readNumber 2 (some .boolean) ∈ gW := gW_I 1318 rfl rfl
theorem we_X0_readNumber : Cond.selects RX0 yX0_readNumber yX0_readNumber ∈ gW := gW_P (y := yX0_readNumber) (k := 8) (by decide +kernel)
theorem cv_RX0_67 : zCV RX0 67 yX0_readNumber cX0_readNumber 2 (some .boolean) 0 := ⟨gW_V ml_RX0_67 wi_X0_readNumber we_X0_readNumber wn_RX0 wc_X0_readNumber, by decide, by decide, by decide +kernel⟩
theorem ml_RX0_78 : Cond.methodLink RX0 78 yX0_takeDigit ∈ gW := gW_I 1305 (by decide +kernel) rfl
theorem wi_X0_takeDigit : Cond.instanceMethod yX0_takeDigit ∈ gW := gW_I 1307 (by decide +kernel) rfl
set_option maxRecDepth 100000 in
theorem wc_X0_takeDigit : Cond.code yX0_takeDigit cX0_takeDigit 2 (some .int) ∈ gW := gW_I 1308 rfl rfl
theorem we_X0_takeDigit : Cond.selects RX0 yX0_takeDigit yX0_takeDigit ∈ gW := gW_P (y := yX0_takeDigit) (k := 8) (by decide +kernel)
theorem cv_RX0_78 : zCV RX0 78 yX0_takeDigit cX0_takeDigit 2 (some .int) 0 := ⟨gW_V ml_RX0_78 wi_X0_takeDigit we_X0_takeDigit wn_RX0 wc_X0_takeDigit, by decide, by decide, by decide +kernel⟩
theorem ml_RX0_82 : Cond.methodLink RX0 82 yJ0_indexOf_0f7a4 ∈ gW := gW_I 1314 (by decide +kernel) rfl
theorem wi_J0_indexOf_0f7a4 : Cond.instanceMethod yJ0_indexOf_0f7a4 ∈ gW := gW_I 289 (by decide +kernel) rfl
theorem wn_RJ0 : Cond.initialized RJ0 ∈ gW := gW_I 7 (by decide +kernel) rfl
set_option maxRecDepth 100000 in
theorem wc_J0_indexOf_0f7a4 : Cond.code yJ0_indexOf_0f7a4 cJ0_indexOf_0f7a4 2 (some .int) ∈ gW := gW_I 291 rfl rfl
theorem we_J0_indexOf_0f7a4 : Cond.selects RJ0 yJ0_indexOf_0f7a4 yJ0_indexOf_0f7a4 ∈ gW := gW_I 290 (by decide +kernel) rfl
theorem cv_RX0_82 : zCV RX0 82 yJ0_indexOf_0f7a4 cJ0_indexOf_0f7a4 2 (some .int) 1 := ⟨gW_V ml_RX0_82 wi_J0_indexOf_0f7a4 we_J0_indexOf_0f7a4 wn_RJ0 wc_J0_indexOf_0f7a4, by decide, by decide, by decide +kernel⟩
theorem ml_RX0_88 : Cond.methodLink RX0 88 yJ0_length_8abf5 ∈ gW := gW_I 1295 (by decide +kernel) rfl
theorem wi_J0_length_8abf5 : Cond.instanceMethod yJ0_length_8abf5 ∈ gW := gW_I 297 (by decide +kernel) rfl
set_option maxRecDepth 100000 in
theorem wc_J0_length_8abf5 : Cond.code yJ0_length_8abf5 cJ0_length_8abf5 1 (some .int) ∈ gW := gW_I 299 rfl rfl
theorem we_J0_length_8abf5 : Cond.selects RJ0 yJ0_length_8abf5 yJ0_length_8abf5 ∈ gW := gW_I 298 (by decide +kernel) rfl
theorem cv_RX0_88 : zCV RX0 88 yJ0_length_8abf5 cJ0_length_8abf5 1 (some .int) 0 := ⟨gW_V ml_RX0_88 wi_J0_length_8abf5 we_J0_length_8abf5 wn_RJ0 wc_J0_length_8abf5, by decide, by decide, by decide +kernel⟩
theorem ml_RX0_90 : Cond.methodLink RX0 90 yJ0_charAt_5068e ∈ gW := gW_I 1296 (by decide +kernel) rfl
theorem wi_J0_charAt_5068e : Cond.instanceMethod yJ0_charAt_5068e ∈ gW := gW_I 228 (by decide +kernel) rfl
set_option maxRecDepth 100000 in
theorem wc_J0_charAt_5068e : Cond.code yJ0_charAt_5068e cJ0_charAt_5068e 2 (some .char) ∈ gW := gW_I 230 rfl rfl
theorem we_J0_charAt_5068e : Cond.selects RJ0 yJ0_charAt_5068e yJ0_charAt_5068e ∈ gW := gW_I 229 (by decide +kernel) rfl
theorem cv_RX0_90 : zCV RX0 90 yJ0_charAt_5068e cJ0_charAt_5068e 2 (some .char) 1 := ⟨gW_V ml_RX0_90 wi_J0_charAt_5068e we_J0_charAt_5068e wn_RJ0 wc_J0_charAt_5068e, by decide, by decide, by decide +kernel⟩
theorem fl_RX1_11 : Cond.fieldLink RX1 11 RX1 "lines" "[LLineBattle$Line;" ∈ gW := gW_I 107 (by decide +kernel) rfl
theorem fl_RX1_17 : Cond.fieldLink RX1 17 RX1 "cells" "[I" ∈ gW := gW_I 108 (by decide +kernel) rfl
theorem fl_RX1_21 : Cond.fieldLink RX1 21 RX1 "count" "I" ∈ gW := gW_I 109 (by decide +kernel) rfl
theorem fl_RX1_25 : Cond.fieldLink RX1 25 RX1 "turns" "I" ∈ gW := gW_I 111 (by decide +kernel) rfl
theorem fl_RX1_28 : Cond.fieldLink RX1 28 RX1 "fights" "I" ∈ gW := gW_I 113 (by decide +kernel) rfl
theorem fl_RX1_31 : Cond.fieldLink RX1 31 RX1 "jarsOfFirst" "I" ∈ gW := gW_I 115 (by decide +kernel) rfl
theorem fl_RX1_34 : Cond.fieldLink RX1 34 RX1 "jarsOfSecond" "I" ∈ gW := gW_I 116 (by decide +kernel) rfl
theorem ml_RX1_40 : Cond.methodLink RX1 40 yJ7_fill_53178 ∈ gW := gW_I 104 (by decide +kernel) rfl
theorem wt_J7_fill_53178 : Cond.static yJ7_fill_53178 ∈ gW := gW_I 105 (by decide +kernel) rfl
theorem wn_RJ7 : Cond.initialized RJ7 ∈ gW := gW_I 4 (by decide +kernel) rfl
set_option maxRecDepth 100000 in
theorem wc_J7_fill_53178 : Cond.code yJ7_fill_53178 cJ7_fill_53178 4 none ∈ gW := gW_I 106 rfl rfl
theorem cs_RX1_40 : zCS RX1 40 yJ7_fill_53178 cJ7_fill_53178 4 none 2 := ⟨gW_S ml_RX1_40 wt_J7_fill_53178 wn_RJ7 wc_J7_fill_53178, by decide, by decide, by decide +kernel⟩
theorem ml_RX1_46 : Cond.methodLink RX1 46 yX3_copyFrom ∈ gW := gW_I 485 (by decide +kernel) rfl
theorem wi_X3_copyFrom : Cond.instanceMethod yX3_copyFrom ∈ gW := gW_I 486 (by decide +kernel) rfl
set_option maxRecDepth 100000 in
theorem wc_X3_copyFrom : Cond.code yX3_copyFrom cX3_copyFrom 2 none ∈ gW := gW_I 488 rfl rfl
theorem we_X3_copyFrom : Cond.selects RX3 yX3_copyFrom yX3_copyFrom ∈ gW := gW_I 487 (by decide +kernel) rfl
theorem cv_RX1_46 : zCV RX1 46 yX3_copyFrom cX3_copyFrom 2 none 1 := ⟨gW_V ml_RX1_46 wi_X3_copyFrom we_X3_copyFrom wn_RX3 wc_X3_copyFrom, by decide, by decide, by decide +kernel⟩
theorem mn_RX1_50 : Cond.methodLinkNest RX1 50 yX4_isLane "LineBattle" ∈ tables_1 := List.mem_of_getElem? (i := 284) (by decide +kernel)
theorem cn_RX1_50 : zCN RX1 50 yX4_isLane "LineBattle" cX4_isLane 1 (some .boolean) 1 := ⟨gW_C wc_X4_isLane, mn_RX1_50, wt_X4_isLane, wn_RX4, by decide, by decide, by decide +kernel⟩
theorem mn_RX1_54 : Cond.methodLinkNest RX1 54 yX4_isColumn "LineBattle" ∈ tables_1 := List.mem_of_getElem? (i := 361) (by decide +kernel)
theorem cn_RX1_54 : zCN RX1 54 yX4_isColumn "LineBattle" cX4_isColumn 1 (some .boolean) 1 := ⟨gW_C wc_X4_isColumn, mn_RX1_54, wt_X4_isColumn, wn_RX4, by decide, by decide, by decide +kernel⟩
theorem ml_RX1_57 : Cond.methodLink RX1 57 yX1_line ∈ gW := gW_I 364 (by decide +kernel) rfl
theorem cv_RX1_57 : zCV RX1 57 yX1_line cX1_line 2 (some (.object "LineBattle$Line")) 1 := ⟨gW_V ml_RX1_57 wi_X1_line we_X1_line wn_RX1 wc_X1_line, by decide, by decide, by decide +kernel⟩
theorem mn_RX1_61 : Cond.methodLinkNest RX1 61 yX4_isSide "LineBattle" ∈ tables_1 := List.mem_of_getElem? (i := 281) (by decide +kernel)
theorem cn_RX1_61 : zCN RX1 61 yX4_isSide "LineBattle" cX4_isSide 1 (some .boolean) 1 := ⟨gW_C wc_X4_isSide, mn_RX1_61, wt_X4_isSide, wn_RX4, by decide, by decide, by decide +kernel⟩
theorem ml_RX1_66 : Cond.methodLink RX1 66 yJ0_indexOf_0f7a4 ∈ gW := gW_I 288 (by decide +kernel) rfl
theorem cv_RX1_66 : zCV RX1 66 yJ0_indexOf_0f7a4 cJ0_indexOf_0f7a4 2 (some .int) 1 := ⟨gW_V ml_RX1_66 wi_J0_indexOf_0f7a4 we_J0_indexOf_0f7a4 wn_RJ0 wc_J0_indexOf_0f7a4, by decide, by decide, by decide +kernel⟩
theorem ml_RX1_72 : Cond.methodLink RX1 72 yX1_firstColumn ∈ gW := gW_I 354 (by decide +kernel) rfl
theorem wt_X1_firstColumn : Cond.static yX1_firstColumn ∈ gW := gW_I 355 (by decide +kernel) rfl
set_option maxRecDepth 100000 in
theorem wc_X1_firstColumn : Cond.code yX1_firstColumn cX1_firstColumn 1 (some .int) ∈ gW := gW_I 356 rfl rfl
theorem cs_RX1_72 : zCS RX1 72 yX1_firstColumn cX1_firstColumn 1 (some .int) 1 := ⟨gW_S ml_RX1_72 wt_X1_firstColumn wn_RX1 wc_X1_firstColumn, by decide, by decide, by decide +kernel⟩
theorem ml_RX1_75 : Cond.methodLink RX1 75 yX1_occupant ∈ gW := gW_I 357 (by decide +kernel) rfl
theorem cv_RX1_75 : zCV RX1 75 yX1_occupant cX1_occupant 4 (some (.object "LineBattle$Line")) 2 := ⟨gW_V ml_RX1_75 wi_X1_occupant we_X1_occupant wn_RX1 wc_X1_occupant, by decide, by decide, by decide +kernel⟩
theorem fl_RX1_79 : Cond.fieldLink RX1 79 RX3 "side" "I" ∈ gW := gW_I 58 (by decide +kernel) rfl
theorem fl_RX1_82 : Cond.fieldLink RX1 82 RX3 "lane" "I" ∈ gW := gW_I 61 (by decide +kernel) rfl
theorem fl_RX1_85 : Cond.fieldLink RX1 85 RX3 "column" "I" ∈ gW := gW_I 63 (by decide +kernel) rfl
theorem fl_RX1_88 : Cond.fieldLink RX1 88 RX3 "kind" "C" ∈ gW := gW_I 66 (by decide +kernel) rfl
theorem fl_RX1_92 : Cond.fieldLink RX1 92 RX3 "order" "C" ∈ gW := gW_I 69 (by decide +kernel) rfl
theorem fl_RX1_95 : Cond.fieldLink RX1 95 RX3 "strength" "I" ∈ gW := gW_I 72 (by decide +kernel) rfl
theorem fl_RX1_98 : Cond.fieldLink RX1 98 RX3 "morale" "I" ∈ gW := gW_I 75 (by decide +kernel) rfl
theorem fl_RX1_101 : Cond.fieldLink RX1 101 RX3 "condition" "I" ∈ gW := gW_I 78 (by decide +kernel) rfl
theorem fl_RX1_104 : Cond.fieldLink RX1 104 RX3 "turnsRouted" "I" ∈ gW := gW_I 80 (by decide +kernel) rfl
theorem ml_RX1_107 : Cond.methodLink RX1 107 yX1_putInto ∈ gW := gW_I 493 (by decide +kernel) rfl
theorem wi_X1_putInto : Cond.instanceMethod yX1_putInto ∈ gW := gW_I 495 (by decide +kernel) rfl
set_option maxRecDepth 100000 in
theorem wc_X1_putInto : Cond.code yX1_putInto cX1_putInto 5 none ∈ gW := gW_I 496 rfl rfl
theorem we_X1_putInto : Cond.selects RX1 yX1_putInto yX1_putInto ∈ gW := gW_P (y := yX1_putInto) (k := 7) (by decide +kernel)
theorem cv_RX1_107 : zCV RX1 107 yX1_putInto cX1_putInto 5 none 3 := ⟨gW_V ml_RX1_107 wi_X1_putInto we_X1_putInto wn_RX1 wc_X1_putInto, by decide, by decide, by decide +kernel⟩
theorem ml_RX1_113 : Cond.methodLink RX1 113 yX3_stands ∈ gW := gW_I 538 (by decide +kernel) rfl
theorem cv_RX1_113 : zCV RX1 113 yX3_stands cX3_stands 1 (some .boolean) 0 := ⟨gW_V ml_RX1_113 wi_X3_stands we_X3_stands wn_RX3 wc_X3_stands, by decide, by decide, by decide +kernel⟩
theorem ml_RX1_117 : Cond.methodLink RX1 117 yX3_routed ∈ gW := gW_I 572 (by decide +kernel) rfl
theorem cv_RX1_117 : zCV RX1 117 yX3_routed cX3_routed 1 (some .boolean) 0 := ⟨gW_V ml_RX1_117 wi_X3_routed we_X3_routed wn_RX3 wc_X3_routed, by decide, by decide, by decide +kernel⟩
theorem ml_RX1_120 : Cond.methodLink RX1 120 yX1_jars ∈ gW := gW_I 576 (by decide +kernel) rfl
theorem cv_RX1_120 : zCV RX1 120 yX1_jars cX1_jars 2 (some .int) 1 := ⟨gW_V ml_RX1_120 wi_X1_jars we_X1_jars wn_RX1 wc_X1_jars, by decide, by decide, by decide +kernel⟩
theorem ml_RX1_123 : Cond.methodLink RX1 123 yX3_gainMorale ∈ gW := gW_I 586 (by decide +kernel) rfl
theorem wi_X3_gainMorale : Cond.instanceMethod yX3_gainMorale ∈ gW := gW_I 587 (by decide +kernel) rfl
set_option maxRecDepth 100000 in
theorem wc_X3_gainMorale : Cond.code yX3_gainMorale cX3_gainMorale 2 none ∈ gW := gW_I 589 rfl rfl
theorem we_X3_gainMorale : Cond.selects RX3 yX3_gainMorale yX3_gainMorale ∈ gW := gW_I 588 (by decide +kernel) rfl
theorem cv_RX1_123 : zCV RX1 123 yX3_gainMorale cX3_gainMorale 2 none 1 := ⟨gW_V ml_RX1_123 wi_X3_gainMorale we_X3_gainMorale wn_RX3 wc_X3_gainMorale, by decide, by decide, by decide +kernel⟩
theorem ml_RX1_126 : Cond.methodLink RX1 126 yX3_standIfBold ∈ gW := gW_I 591 (by decide +kernel) rfl
theorem wi_X3_standIfBold : Cond.instanceMethod yX3_standIfBold ∈ gW := gW_I 592 (by decide +kernel) rfl
set_option maxRecDepth 100000 in
theorem wc_X3_standIfBold : Cond.code yX3_standIfBold cX3_standIfBold 1 none ∈ gW := gW_I 594 rfl rfl
theorem we_X3_standIfBold : Cond.selects RX3 yX3_standIfBold yX3_standIfBold ∈ gW := gW_I 593 (by decide +kernel) rfl
theorem cv_RX1_126 : zCV RX1 126 yX3_standIfBold cX3_standIfBold 1 none 0 := ⟨gW_V ml_RX1_126 wi_X3_standIfBold we_X3_standIfBold wn_RX3 wc_X3_standIfBold, by decide, by decide, by decide +kernel⟩
theorem ml_RX1_129 : Cond.methodLink RX1 129 yX1_obey ∈ gW := gW_I 603 (by decide +kernel) rfl
theorem wi_X1_obey : Cond.instanceMethod yX1_obey ∈ gW := gW_I 605 (by decide +kernel) rfl
set_option maxRecDepth 100000 in
theorem wc_X1_obey : Cond.code yX1_obey cX1_obey 4 none ∈ gW := gW_I 606 rfl rfl
theorem we_X1_obey : Cond.selects RX1 yX1_obey yX1_obey ∈ gW := gW_P (y := yX1_obey) (k := 7) (by decide +kernel)
theorem cv_RX1_129 : zCV RX1 129 yX1_obey cX1_obey 4 none 1 := ⟨gW_V ml_RX1_129 wi_X1_obey we_X1_obey wn_RX1 wc_X1_obey, by decide, by decide, by decide +kernel⟩
theorem ml_RX1_132 : Cond.methodLink RX1 132 yX1_retreat ∈ gW := gW_I 643 (by decide +kernel) rfl
theorem wi_X1_retreat : Cond.instanceMethod yX1_retreat ∈ gW := gW_I 645 (by decide +kernel) rfl
set_option maxRecDepth 100000 in
theorem wc_X1_retreat : Cond.code yX1_retreat cX1_retreat 2 none ∈ gW := gW_I 646 rfl rfl
theorem we_X1_retreat : Cond.selects RX1 yX1_retreat yX1_retreat ∈ gW := gW_P (y := yX1_retreat) (k := 7) (by decide +kernel)
theorem cv_RX1_132 : zCV RX1 132 yX1_retreat cX1_retreat 2 none 1 := ⟨gW_V ml_RX1_132 wi_X1_retreat we_X1_retreat wn_RX1 wc_X1_retreat, by decide, by decide, by decide +kernel⟩
theorem ml_RX1_135 : Cond.methodLink RX1 135 yX3_forward ∈ gW := gW_I 607 (by decide +kernel) rfl
theorem wi_X3_forward : Cond.instanceMethod yX3_forward ∈ gW := gW_I 608 (by decide +kernel) rfl
set_option maxRecDepth 100000 in
theorem wc_X3_forward : Cond.code yX3_forward cX3_forward 1 (some .int) ∈ gW := gW_I 610 rfl rfl
theorem we_X3_forward : Cond.selects RX3 yX3_forward yX3_forward ∈ gW := gW_I 609 (by decide +kernel) rfl
theorem cv_RX1_135 : zCV RX1 135 yX3_forward cX3_forward 1 (some .int) 0 := ⟨gW_V ml_RX1_135 wi_X3_forward we_X3_forward wn_RX3 wc_X3_forward, by decide, by decide, by decide +kernel⟩
theorem ml_RX1_139 : Cond.methodLink RX1 139 yX1_moveIfFree ∈ gW := gW_I 611 (by decide +kernel) rfl
theorem wi_X1_moveIfFree : Cond.instanceMethod yX1_moveIfFree ∈ gW := gW_I 613 (by decide +kernel) rfl
set_option maxRecDepth 100000 in
theorem wc_X1_moveIfFree : Cond.code yX1_moveIfFree cX1_moveIfFree 4 (some .boolean) ∈ gW := gW_I 614 rfl rfl
theorem we_X1_moveIfFree : Cond.selects RX1 yX1_moveIfFree yX1_moveIfFree ∈ gW := gW_P (y := yX1_moveIfFree) (k := 7) (by decide +kernel)
theorem cv_RX1_139 : zCV RX1 139 yX1_moveIfFree cX1_moveIfFree 4 (some .boolean) 2 := ⟨gW_V ml_RX1_139 wi_X1_moveIfFree we_X1_moveIfFree wn_RX1 wc_X1_moveIfFree, by decide, by decide, by decide +kernel⟩
theorem ml_RX1_143 : Cond.methodLink RX1 143 yX1_fight ∈ gW := gW_I 615 (by decide +kernel) rfl
theorem wi_X1_fight : Cond.instanceMethod yX1_fight ∈ gW := gW_I 617 (by decide +kernel) rfl
set_option maxRecDepth 100000 in
theorem wc_X1_fight : Cond.code yX1_fight cX1_fight 4 none ∈ gW := gW_I 618 rfl rfl
theorem we_X1_fight : Cond.selects RX1 yX1_fight yX1_fight ∈ gW := gW_P (y := yX1_fight) (k := 7) (by decide +kernel)
theorem cv_RX1_143 : zCV RX1 143 yX1_fight cX1_fight 4 none 3 := ⟨gW_V ml_RX1_143 wi_X1_fight we_X1_fight wn_RX1 wc_X1_fight, by decide, by decide, by decide +kernel⟩
theorem fl_RX1_147 : Cond.fieldLink RX1 147 RX3 "number" "I" ∈ gW := gW_I 55 (by decide +kernel) rfl
theorem ml_RX1_150 : Cond.methodLink RX1 150 yX3_attack ∈ gW := gW_I 619 (by decide +kernel) rfl
theorem cv_RX1_150 : zCV RX1 150 yX3_attack cX3_attack 2 (some .int) 1 := ⟨gW_V ml_RX1_150 wi_X3_attack we_X3_attack wn_RX3 wc_X3_attack, by decide, by decide, by decide +kernel⟩
theorem ml_RX1_154 : Cond.methodLink RX1 154 yX1_supportAmongLines ∈ gW := gW_I 623 (by decide +kernel) rfl
theorem cv_RX1_154 : zCV RX1 154 yX1_supportAmongLines cX1_supportAmongLines 5 (some .int) 1 := ⟨gW_V ml_RX1_154 wi_X1_supportAmongLines we_X1_supportAmongLines wn_RX1 wc_X1_supportAmongLines, by decide, by decide, by decide +kernel⟩
theorem ml_RX1_158 : Cond.methodLink RX1 158 yX3_suffer ∈ gW := gW_I 630 (by decide +kernel) rfl
theorem wi_X3_suffer : Cond.instanceMethod yX3_suffer ∈ gW := gW_I 631 (by decide +kernel) rfl
set_option maxRecDepth 100000 in
theorem wc_X3_suffer : Cond.code yX3_suffer cX3_suffer 2 none ∈ gW := gW_I 633 rfl rfl
theorem we_X3_suffer : Cond.selects RX3 yX3_suffer yX3_suffer ∈ gW := gW_I 632 (by decide +kernel) rfl
theorem cv_RX1_158 : zCV RX1 158 yX3_suffer cX3_suffer 2 none 1 := ⟨gW_V ml_RX1_158 wi_X3_suffer we_X3_suffer wn_RX3 wc_X3_suffer, by decide, by decide, by decide +kernel⟩
theorem ml_RX1_161 : Cond.methodLink RX1 161 yX3_counter ∈ gW := gW_I 635 (by decide +kernel) rfl
theorem cv_RX1_161 : zCV RX1 161 yX3_counter cX3_counter 1 (some .int) 0 := ⟨gW_V ml_RX1_161 wi_X3_counter we_X3_counter wn_RX3 wc_X3_counter, by decide, by decide, by decide +kernel⟩
theorem ml_RX1_164 : Cond.methodLink RX1 164 yX1_settle ∈ gW := gW_I 639 (by decide +kernel) rfl
theorem wi_X1_settle : Cond.instanceMethod yX1_settle ∈ gW := gW_I 641 (by decide +kernel) rfl
set_option maxRecDepth 100000 in
theorem wc_X1_settle : Cond.code yX1_settle cX1_settle 2 none ∈ gW := gW_I 642 rfl rfl
theorem we_X1_settle : Cond.selects RX1 yX1_settle yX1_settle ∈ gW := gW_P (y := yX1_settle) (k := 7) (by decide +kernel)
theorem cv_RX1_164 : zCV RX1 164 yX1_settle cX1_settle 2 none 1 := ⟨gW_V ml_RX1_164 wi_X1_settle we_X1_settle wn_RX1 wc_X1_settle, by decide, by decide, by decide +kernel⟩
theorem ml_RX1_167 : Cond.methodLink RX1 167 yJ9_abs_0f7a4 ∈ gW := gW_I 627 (by decide +kernel) rfl
theorem wt_J9_abs_0f7a4 : Cond.static yJ9_abs_0f7a4 ∈ gW := gW_I 628 (by decide +kernel) rfl
theorem wn_RJ9 : Cond.initialized RJ9 ∈ gW := gW_I 11 (by decide +kernel) rfl
set_option maxRecDepth 100000 in
theorem wc_J9_abs_0f7a4 : Cond.code yJ9_abs_0f7a4 cJ9_abs_0f7a4 1 (some .int) ∈ gW := gW_I 629 rfl rfl
theorem cs_RX1_167 : zCS RX1 167 yJ9_abs_0f7a4 cJ9_abs_0f7a4 1 (some .int) 1 := ⟨gW_S ml_RX1_167 wt_J9_abs_0f7a4 wn_RJ9 wc_J9_abs_0f7a4, by decide, by decide, by decide +kernel⟩
theorem ml_RX1_172 : Cond.methodLink RX1 172 yX3_hasFallen ∈ gW := gW_I 830 (by decide +kernel) rfl
theorem cv_RX1_172 : zCV RX1 172 yX3_hasFallen cX3_hasFallen 1 (some .boolean) 0 := ⟨gW_V ml_RX1_172 wi_X3_hasFallen we_X3_hasFallen wn_RX3 wc_X3_hasFallen, by decide, by decide, by decide +kernel⟩
theorem ml_RX1_175 : Cond.methodLink RX1 175 yX1_strongerThan ∈ gW := gW_I 842 (by decide +kernel) rfl
theorem wi_X1_strongerThan : Cond.instanceMethod yX1_strongerThan ∈ gW := gW_I 844 (by decide +kernel) rfl
set_option maxRecDepth 100000 in
theorem wc_X1_strongerThan : Cond.code yX1_strongerThan cX1_strongerThan 5 (some .int) ∈ gW := gW_I 845 rfl rfl
theorem we_X1_strongerThan : Cond.selects RX1 yX1_strongerThan yX1_strongerThan ∈ gW := gW_P (y := yX1_strongerThan) (k := 7) (by decide +kernel)
theorem cv_RX1_175 : zCV RX1 175 yX1_strongerThan cX1_strongerThan 5 (some .int) 1 := ⟨gW_V ml_RX1_175 wi_X1_strongerThan we_X1_strongerThan wn_RX1 wc_X1_strongerThan, by decide, by decide, by decide +kernel⟩
theorem ml_RX1_178 : Cond.methodLink RX1 178 yX1_fallen ∈ gW := gW_I 924 (by decide +kernel) rfl
theorem cv_RX1_178 : zCV RX1 178 yX1_fallen cX1_fallen 5 (some .int) 1 := ⟨gW_V ml_RX1_178 wi_X1_fallen we_X1_fallen wn_RX1 wc_X1_fallen, by decide, by decide, by decide +kernel⟩
theorem ml_RX1_181 : Cond.methodLink RX1 181 yX1_supportInCells ∈ gW := gW_I 970 (by decide +kernel) rfl
theorem cv_RX1_181 : zCV RX1 181 yX1_supportInCells cX1_supportInCells 5 (some .int) 1 := ⟨gW_V ml_RX1_181 wi_X1_supportInCells we_X1_supportInCells wn_RX1 wc_X1_supportInCells, by decide, by decide, by decide +kernel⟩
theorem ml_RX1_184 : Cond.methodLink RX1 184 yX1_enemyInCells ∈ gW := gW_I 971 (by decide +kernel) rfl
theorem cv_RX1_184 : zCV RX1 184 yX1_enemyInCells cX1_enemyInCells 4 (some .int) 1 := ⟨gW_V ml_RX1_184 wi_X1_enemyInCells we_X1_enemyInCells wn_RX1 wc_X1_enemyInCells, by decide, by decide, by decide +kernel⟩
theorem ml_RX1_187 : Cond.methodLink RX1 187 yX1_enemyAmongLines ∈ gW := gW_I 972 (by decide +kernel) rfl
theorem cv_RX1_187 : zCV RX1 187 yX1_enemyAmongLines cX1_enemyAmongLines 7 (some .int) 1 := ⟨gW_V ml_RX1_187 wi_X1_enemyAmongLines we_X1_enemyAmongLines wn_RX1 wc_X1_enemyAmongLines, by decide, by decide, by decide +kernel⟩
theorem ml_RX1_190 : Cond.methodLink RX1 190 yX1_strengthInCells ∈ gW := gW_I 973 (by decide +kernel) rfl
theorem cv_RX1_190 : zCV RX1 190 yX1_strengthInCells cX1_strengthInCells 6 (some .int) 1 := ⟨gW_V ml_RX1_190 wi_X1_strengthInCells we_X1_strengthInCells wn_RX1 wc_X1_strengthInCells, by decide, by decide, by decide +kernel⟩
theorem ml_RX1_193 : Cond.methodLink RX1 193 yX1_strengthAmongLines ∈ gW := gW_I 974 (by decide +kernel) rfl
theorem cv_RX1_193 : zCV RX1 193 yX1_strengthAmongLines cX1_strengthAmongLines 5 (some .int) 1 := ⟨gW_V ml_RX1_193 wi_X1_strengthAmongLines we_X1_strengthAmongLines wn_RX1 wc_X1_strengthAmongLines, by decide, by decide, by decide +kernel⟩
theorem fl_RX2_11 : Cond.fieldLink RX2 11 RX2 "states" "[LLineBattle$Field;" ∈ gW := gW_I 141 (by decide +kernel) rfl
theorem fl_RX2_17 : Cond.fieldLink RX2 17 RX2 "newest" "I" ∈ gW := gW_I 142 (by decide +kernel) rfl
theorem fl_RX2_21 : Cond.fieldLink RX2 21 RX2 "depth" "I" ∈ gW := gW_I 143 (by decide +kernel) rfl
theorem ml_RX2_25 : Cond.methodLink RX2 25 yJ9_min_7cf53 ∈ gW := gW_I 476 (by decide +kernel) rfl
theorem wt_J9_min_7cf53 : Cond.static yJ9_min_7cf53 ∈ gW := gW_I 314 (by decide +kernel) rfl
set_option maxRecDepth 100000 in
theorem wc_J9_min_7cf53 : Cond.code yJ9_min_7cf53 cJ9_min_7cf53 2 (some .int) ∈ gW := gW_I 315 rfl rfl
theorem cs_RX2_25 : zCS RX2 25 yJ9_min_7cf53 cJ9_min_7cf53 2 (some .int) 2 := ⟨gW_S ml_RX2_25 wt_J9_min_7cf53 wn_RJ9 wc_J9_min_7cf53, by decide, by decide, by decide +kernel⟩
theorem ml_RX2_31 : Cond.methodLink RX2 31 yX2_newestState ∈ gW := gW_I 477 (by decide +kernel) rfl
theorem wi_X2_newestState : Cond.instanceMethod yX2_newestState ∈ gW := gW_I 479 (by decide +kernel) rfl
set_option maxRecDepth 100000 in
theorem wc_X2_newestState : Cond.code yX2_newestState cX2_newestState 1 (some (.object "LineBattle$Field")) ∈ gW := gW_I 480 rfl rfl
theorem we_X2_newestState : Cond.selects RX2 yX2_newestState yX2_newestState ∈ gW := gW_P (y := yX2_newestState) (k := 3) (by decide +kernel)
theorem cv_RX2_31 : zCV RX2 31 yX2_newestState cX2_newestState 1 (some (.object "LineBattle$Field")) 0 := ⟨gW_V ml_RX2_31 wi_X2_newestState we_X2_newestState wn_RX2 wc_X2_newestState, by decide, by decide, by decide +kernel⟩
theorem ml_RX2_35 : Cond.methodLink RX2 35 yX1_copyFrom ∈ gW := gW_I 481 (by decide +kernel) rfl
theorem cv_RX2_35 : zCV RX2 35 yX1_copyFrom cX1_copyFrom 5 none 1 := ⟨gW_V ml_RX2_35 wi_X1_copyFrom we_X1_copyFrom wn_RX1 wc_X1_copyFrom, by decide, by decide, by decide +kernel⟩
theorem fl_RX3_9 : Cond.fieldLink RX3 9 RX3 "side" "I" ∈ gW := gW_I 56 (by decide +kernel) rfl
theorem fl_RX3_15 : Cond.fieldLink RX3 15 RX3 "lane" "I" ∈ gW := gW_I 59 (by decide +kernel) rfl
theorem fl_RX3_18 : Cond.fieldLink RX3 18 RX3 "column" "I" ∈ gW := gW_I 62 (by decide +kernel) rfl
theorem fl_RX3_21 : Cond.fieldLink RX3 21 RX3 "kind" "C" ∈ gW := gW_I 65 (by decide +kernel) rfl
theorem fl_RX3_25 : Cond.fieldLink RX3 25 RX3 "order" "C" ∈ gW := gW_I 68 (by decide +kernel) rfl
theorem fl_RX3_28 : Cond.fieldLink RX3 28 RX3 "strength" "I" ∈ gW := gW_I 71 (by decide +kernel) rfl
theorem fl_RX3_31 : Cond.fieldLink RX3 31 RX3 "morale" "I" ∈ gW := gW_I 74 (by decide +kernel) rfl
theorem fl_RX3_34 : Cond.fieldLink RX3 34 RX3 "condition" "I" ∈ gW := gW_I 77 (by decide +kernel) rfl
theorem fl_RX3_37 : Cond.fieldLink RX3 37 RX3 "turnsRouted" "I" ∈ gW := gW_I 79 (by decide +kernel) rfl
theorem fl_RX3_40 : Cond.fieldLink RX3 40 RX3 "number" "I" ∈ gW := gW_I 53 (by decide +kernel) rfl
theorem ml_RX3_43 : Cond.methodLink RX3 43 yJ9_max_7cf53 ∈ gW := gW_I 634 (by decide +kernel) rfl
theorem wt_J9_max_7cf53 : Cond.static yJ9_max_7cf53 ∈ gW := gW_I 311 (by decide +kernel) rfl
set_option maxRecDepth 100000 in
theorem wc_J9_max_7cf53 : Cond.code yJ9_max_7cf53 cJ9_max_7cf53 2 (some .int) ∈ gW := gW_I 312 rfl rfl
theorem cs_RX3_43 : zCS RX3 43 yJ9_max_7cf53 cJ9_max_7cf53 2 (some .int) 2 := ⟨gW_S ml_RX3_43 wt_J9_max_7cf53 wn_RJ9 wc_J9_max_7cf53, by decide, by decide, by decide +kernel⟩
theorem ml_RX3_49 : Cond.methodLink RX3 49 yJ9_min_7cf53 ∈ gW := gW_I 590 (by decide +kernel) rfl
theorem cs_RX3_49 : zCS RX3 49 yJ9_min_7cf53 cJ9_min_7cf53 2 (some .int) 2 := ⟨gW_S ml_RX3_49 wt_J9_min_7cf53 wn_RJ9 wc_J9_min_7cf53, by decide, by decide, by decide +kernel⟩
theorem ml_RL_8 : Cond.methodLink RL 8 yX4_addLine ∈ gW := gW_I 273 (by decide +kernel) rfl
theorem wi_X4_addLine : Cond.instanceMethod yX4_addLine ∈ gW := gW_I 274 (by decide +kernel) rfl
set_option maxRecDepth 100000 in
theorem wc_X4_addLine : Cond.code yX4_addLine cX4_addLine 6 (some .int) ∈ gW := gW_I 276 rfl rfl
theorem we_X4_addLine : Cond.selects RX4 yX4_addLine yX4_addLine ∈ gW := gW_I 275 (by decide +kernel) rfl
theorem cv_RL_8 : zCV RL 8 yX4_addLine cX4_addLine 6 (some .int) 4 := ⟨gW_V ml_RL_8 wi_X4_addLine we_X4_addLine wn_RX4 wc_X4_addLine, by decide, by decide, by decide +kernel⟩
theorem ml_RL_20 : Cond.methodLink RL 20 yX4_setOrder ∈ gW := gW_I 529 (by decide +kernel) rfl
theorem wi_X4_setOrder : Cond.instanceMethod yX4_setOrder ∈ gW := gW_I 530 (by decide +kernel) rfl
set_option maxRecDepth 100000 in
theorem wc_X4_setOrder : Cond.code yX4_setOrder cX4_setOrder 4 (some .char) ∈ gW := gW_I 532 rfl rfl
theorem we_X4_setOrder : Cond.selects RX4 yX4_setOrder yX4_setOrder ∈ gW := gW_I 531 (by decide +kernel) rfl
theorem cv_RL_20 : zCV RL 20 yX4_setOrder cX4_setOrder 4 (some .char) 2 := ⟨gW_V ml_RL_20 wi_X4_setOrder we_X4_setOrder wn_RX4 wc_X4_setOrder, by decide, by decide, by decide +kernel⟩
theorem ml_RL_26 : Cond.methodLink RL 26 yX4_rally ∈ gW := gW_I 564 (by decide +kernel) rfl
theorem wi_X4_rally : Cond.instanceMethod yX4_rally ∈ gW := gW_I 565 (by decide +kernel) rfl
set_option maxRecDepth 100000 in
theorem wc_X4_rally : Cond.code yX4_rally cX4_rally 3 (some .int) ∈ gW := gW_I 567 rfl rfl
theorem we_X4_rally : Cond.selects RX4 yX4_rally yX4_rally ∈ gW := gW_I 566 (by decide +kernel) rfl
theorem cv_RL_26 : zCV RL 26 yX4_rally cX4_rally 3 (some .int) 1 := ⟨gW_V ml_RL_26 wi_X4_rally we_X4_rally wn_RX4 wc_X4_rally, by decide, by decide, by decide +kernel⟩
theorem ml_RL_30 : Cond.methodLink RL 30 yX4_sideOf ∈ gW := gW_I 778 (by decide +kernel) rfl
theorem wi_X4_sideOf : Cond.instanceMethod yX4_sideOf ∈ gW := gW_I 779 (by decide +kernel) rfl
set_option maxRecDepth 100000 in
theorem wc_X4_sideOf : Cond.code yX4_sideOf cX4_sideOf 2 (some .int) ∈ gW := gW_I 781 rfl rfl
theorem we_X4_sideOf : Cond.selects RX4 yX4_sideOf yX4_sideOf ∈ gW := gW_I 780 (by decide +kernel) rfl
theorem cv_RL_30 : zCV RL 30 yX4_sideOf cX4_sideOf 2 (some .int) 1 := ⟨gW_V ml_RL_30 wi_X4_sideOf we_X4_sideOf wn_RX4 wc_X4_sideOf, by decide, by decide, by decide +kernel⟩
theorem ml_RL_33 : Cond.methodLink RL 33 yX4_laneOf ∈ gW := gW_I 681 (by decide +kernel) rfl
theorem wi_X4_laneOf : Cond.instanceMethod yX4_laneOf ∈ gW := gW_I 682 (by decide +kernel) rfl
set_option maxRecDepth 100000 in
theorem wc_X4_laneOf : Cond.code yX4_laneOf cX4_laneOf 2 (some .int) ∈ gW := gW_I 684 rfl rfl
theorem we_X4_laneOf : Cond.selects RX4 yX4_laneOf yX4_laneOf ∈ gW := gW_I 683 (by decide +kernel) rfl
theorem cv_RL_33 : zCV RL 33 yX4_laneOf cX4_laneOf 2 (some .int) 1 := ⟨gW_V ml_RL_33 wi_X4_laneOf we_X4_laneOf wn_RX4 wc_X4_laneOf, by decide, by decide, by decide +kernel⟩
theorem ml_RL_38 : Cond.methodLink RL 38 yX4_columnOf ∈ gW := gW_I 702 (by decide +kernel) rfl
theorem wi_X4_columnOf : Cond.instanceMethod yX4_columnOf ∈ gW := gW_I 703 (by decide +kernel) rfl
set_option maxRecDepth 100000 in
theorem wc_X4_columnOf : Cond.code yX4_columnOf cX4_columnOf 2 (some .int) ∈ gW := gW_I 705 rfl rfl
theorem we_X4_columnOf : Cond.selects RX4 yX4_columnOf yX4_columnOf ∈ gW := gW_I 704 (by decide +kernel) rfl
theorem cv_RL_38 : zCV RL 38 yX4_columnOf cX4_columnOf 2 (some .int) 1 := ⟨gW_V ml_RL_38 wi_X4_columnOf we_X4_columnOf wn_RX4 wc_X4_columnOf, by decide, by decide, by decide +kernel⟩
theorem ml_RL_41 : Cond.methodLink RL 41 yX4_kindOf ∈ gW := gW_I 722 (by decide +kernel) rfl
theorem wi_X4_kindOf : Cond.instanceMethod yX4_kindOf ∈ gW := gW_I 723 (by decide +kernel) rfl
set_option maxRecDepth 100000 in
theorem wc_X4_kindOf : Cond.code yX4_kindOf cX4_kindOf 2 (some .char) ∈ gW := gW_I 725 rfl rfl
theorem we_X4_kindOf : Cond.selects RX4 yX4_kindOf yX4_kindOf ∈ gW := gW_I 724 (by decide +kernel) rfl
theorem cv_RL_41 : zCV RL 41 yX4_kindOf cX4_kindOf 2 (some .char) 1 := ⟨gW_V ml_RL_41 wi_X4_kindOf we_X4_kindOf wn_RX4 wc_X4_kindOf, by decide, by decide, by decide +kernel⟩
theorem ml_RL_45 : Cond.methodLink RL 45 yX4_strengthOf ∈ gW := gW_I 729 (by decide +kernel) rfl
theorem wi_X4_strengthOf : Cond.instanceMethod yX4_strengthOf ∈ gW := gW_I 730 (by decide +kernel) rfl
set_option maxRecDepth 100000 in
theorem wc_X4_strengthOf : Cond.code yX4_strengthOf cX4_strengthOf 2 (some .int) ∈ gW := gW_I 732 rfl rfl
theorem we_X4_strengthOf : Cond.selects RX4 yX4_strengthOf yX4_strengthOf ∈ gW := gW_I 731 (by decide +kernel) rfl
theorem cv_RL_45 : zCV RL 45 yX4_strengthOf cX4_strengthOf 2 (some .int) 1 := ⟨gW_V ml_RL_45 wi_X4_strengthOf we_X4_strengthOf wn_RX4 wc_X4_strengthOf, by decide, by decide, by decide +kernel⟩
theorem ml_RL_48 : Cond.methodLink RL 48 yX4_moraleOf ∈ gW := gW_I 736 (by decide +kernel) rfl
theorem wi_X4_moraleOf : Cond.instanceMethod yX4_moraleOf ∈ gW := gW_I 737 (by decide +kernel) rfl
set_option maxRecDepth 100000 in
theorem wc_X4_moraleOf : Cond.code yX4_moraleOf cX4_moraleOf 2 (some .int) ∈ gW := gW_I 739 rfl rfl
theorem we_X4_moraleOf : Cond.selects RX4 yX4_moraleOf yX4_moraleOf ∈ gW := gW_I 738 (by decide +kernel) rfl
theorem cv_RL_48 : zCV RL 48 yX4_moraleOf cX4_moraleOf 2 (some .int) 1 := ⟨gW_V ml_RL_48 wi_X4_moraleOf we_X4_moraleOf wn_RX4 wc_X4_moraleOf, by decide, by decide, by decide +kernel⟩
theorem ml_RL_51 : Cond.methodLink RL 51 yX4_orderOf ∈ gW := gW_I 749 (by decide +kernel) rfl
theorem wi_X4_orderOf : Cond.instanceMethod yX4_orderOf ∈ gW := gW_I 750 (by decide +kernel) rfl
set_option maxRecDepth 100000 in
theorem wc_X4_orderOf : Cond.code yX4_orderOf cX4_orderOf 3 (some .char) ∈ gW := gW_I 752 rfl rfl
theorem we_X4_orderOf : Cond.selects RX4 yX4_orderOf yX4_orderOf ∈ gW := gW_I 751 (by decide +kernel) rfl
theorem cv_RL_51 : zCV RL 51 yX4_orderOf cX4_orderOf 3 (some .char) 1 := ⟨gW_V ml_RL_51 wi_X4_orderOf we_X4_orderOf wn_RX4 wc_X4_orderOf, by decide, by decide, by decide +kernel⟩
theorem ml_RL_54 : Cond.methodLink RL 54 yX4_isStanding ∈ gW := gW_I 709 (by decide +kernel) rfl
theorem wi_X4_isStanding : Cond.instanceMethod yX4_isStanding ∈ gW := gW_I 710 (by decide +kernel) rfl
set_option maxRecDepth 100000 in
theorem wc_X4_isStanding : Cond.code yX4_isStanding cX4_isStanding 2 (some .boolean) ∈ gW := gW_I 712 rfl rfl
theorem we_X4_isStanding : Cond.selects RX4 yX4_isStanding yX4_isStanding ∈ gW := gW_I 711 (by decide +kernel) rfl
theorem cv_RL_54 : zCV RL 54 yX4_isStanding cX4_isStanding 2 (some .boolean) 1 := ⟨gW_V ml_RL_54 wi_X4_isStanding we_X4_isStanding wn_RX4 wc_X4_isStanding, by decide, by decide, by decide +kernel⟩
theorem ml_RL_58 : Cond.methodLink RL 58 yX4_isRouted ∈ gW := gW_I 714 (by decide +kernel) rfl
theorem wi_X4_isRouted : Cond.instanceMethod yX4_isRouted ∈ gW := gW_I 715 (by decide +kernel) rfl
set_option maxRecDepth 100000 in
theorem wc_X4_isRouted : Cond.code yX4_isRouted cX4_isRouted 2 (some .boolean) ∈ gW := gW_I 717 rfl rfl
theorem we_X4_isRouted : Cond.selects RX4 yX4_isRouted yX4_isRouted ∈ gW := gW_I 716 (by decide +kernel) rfl
theorem cv_RL_58 : zCV RL 58 yX4_isRouted cX4_isRouted 2 (some .boolean) 1 := ⟨gW_V ml_RL_58 wi_X4_isRouted we_X4_isRouted wn_RX4 wc_X4_isRouted, by decide, by decide, by decide +kernel⟩
theorem ml_RL_61 : Cond.methodLink RL 61 yX4_routedTurns ∈ gW := gW_I 850 (by decide +kernel) rfl
theorem wi_X4_routedTurns : Cond.instanceMethod yX4_routedTurns ∈ gW := gW_I 851 (by decide +kernel) rfl
set_option maxRecDepth 100000 in
theorem wc_X4_routedTurns : Cond.code yX4_routedTurns cX4_routedTurns 2 (some .int) ∈ gW := gW_I 853 rfl rfl
theorem we_X4_routedTurns : Cond.selects RX4 yX4_routedTurns yX4_routedTurns ∈ gW := gW_I 852 (by decide +kernel) rfl
theorem cv_RL_61 : zCV RL 61 yX4_routedTurns cX4_routedTurns 2 (some .int) 1 := ⟨gW_V ml_RL_61 wi_X4_routedTurns we_X4_routedTurns wn_RX4 wc_X4_routedTurns, by decide, by decide, by decide +kernel⟩
theorem ml_RL_64 : Cond.methodLink RL 64 yX4_lineIn ∈ gW := gW_I 654 (by decide +kernel) rfl
theorem wi_X4_lineIn : Cond.instanceMethod yX4_lineIn ∈ gW := gW_I 655 (by decide +kernel) rfl
set_option maxRecDepth 100000 in
theorem wc_X4_lineIn : Cond.code yX4_lineIn cX4_lineIn 4 (some .int) ∈ gW := gW_I 657 rfl rfl
theorem we_X4_lineIn : Cond.selects RX4 yX4_lineIn yX4_lineIn ∈ gW := gW_I 656 (by decide +kernel) rfl
theorem cv_RL_64 : zCV RL 64 yX4_lineIn cX4_lineIn 4 (some .int) 2 := ⟨gW_V ml_RL_64 wi_X4_lineIn we_X4_lineIn wn_RX4 wc_X4_lineIn, by decide, by decide, by decide +kernel⟩
theorem ml_RL_68 : Cond.methodLink RL 68 yX4_attackOf ∈ gW := gW_I 756 (by decide +kernel) rfl
theorem wi_X4_attackOf : Cond.instanceMethod yX4_attackOf ∈ gW := gW_I 757 (by decide +kernel) rfl
set_option maxRecDepth 100000 in
theorem wc_X4_attackOf : Cond.code yX4_attackOf cX4_attackOf 2 (some .int) ∈ gW := gW_I 759 rfl rfl
theorem we_X4_attackOf : Cond.selects RX4 yX4_attackOf yX4_attackOf ∈ gW := gW_I 758 (by decide +kernel) rfl
theorem cv_RL_68 : zCV RL 68 yX4_attackOf cX4_attackOf 2 (some .int) 1 := ⟨gW_V ml_RL_68 wi_X4_attackOf we_X4_attackOf wn_RX4 wc_X4_attackOf, by decide, by decide, by decide +kernel⟩
theorem ml_RL_71 : Cond.methodLink RL 71 yX4_counterOf ∈ gW := gW_I 767 (by decide +kernel) rfl
theorem wi_X4_counterOf : Cond.instanceMethod yX4_counterOf ∈ gW := gW_I 768 (by decide +kernel) rfl
set_option maxRecDepth 100000 in
theorem wc_X4_counterOf : Cond.code yX4_counterOf cX4_counterOf 2 (some .int) ∈ gW := gW_I 770 rfl rfl
theorem we_X4_counterOf : Cond.selects RX4 yX4_counterOf yX4_counterOf ∈ gW := gW_I 769 (by decide +kernel) rfl
theorem cv_RL_71 : zCV RL 71 yX4_counterOf cX4_counterOf 2 (some .int) 1 := ⟨gW_V ml_RL_71 wi_X4_counterOf we_X4_counterOf wn_RX4 wc_X4_counterOf, by decide, by decide, by decide +kernel⟩
theorem ml_RL_74 : Cond.methodLink RL 74 yX4_supportOf ∈ gW := gW_I 791 (by decide +kernel) rfl
theorem wi_X4_supportOf : Cond.instanceMethod yX4_supportOf ∈ gW := gW_I 792 (by decide +kernel) rfl
set_option maxRecDepth 100000 in
theorem wc_X4_supportOf : Cond.code yX4_supportOf cX4_supportOf 2 (some .int) ∈ gW := gW_I 794 rfl rfl
theorem we_X4_supportOf : Cond.selects RX4 yX4_supportOf yX4_supportOf ∈ gW := gW_I 793 (by decide +kernel) rfl
theorem cv_RL_74 : zCV RL 74 yX4_supportOf cX4_supportOf 2 (some .int) 1 := ⟨gW_V ml_RL_74 wi_X4_supportOf we_X4_supportOf wn_RX4 wc_X4_supportOf, by decide, by decide, by decide +kernel⟩
theorem ml_RL_77 : Cond.methodLink RL 77 yX4_supportByLines ∈ gW := gW_I 802 (by decide +kernel) rfl
theorem wi_X4_supportByLines : Cond.instanceMethod yX4_supportByLines ∈ gW := gW_I 803 (by decide +kernel) rfl
set_option maxRecDepth 100000 in
theorem wc_X4_supportByLines : Cond.code yX4_supportByLines cX4_supportByLines 2 (some .int) ∈ gW := gW_I 805 rfl rfl
theorem we_X4_supportByLines : Cond.selects RX4 yX4_supportByLines yX4_supportByLines ∈ gW := gW_I 804 (by decide +kernel) rfl
theorem cv_RL_77 : zCV RL 77 yX4_supportByLines cX4_supportByLines 2 (some .int) 1 := ⟨gW_V ml_RL_77 wi_X4_supportByLines we_X4_supportByLines wn_RX4 wc_X4_supportByLines, by decide, by decide, by decide +kernel⟩
theorem ml_RL_80 : Cond.methodLink RL 80 yX4_enemyAhead ∈ gW := gW_I 810 (by decide +kernel) rfl
theorem wi_X4_enemyAhead : Cond.instanceMethod yX4_enemyAhead ∈ gW := gW_I 811 (by decide +kernel) rfl
set_option maxRecDepth 100000 in
theorem wc_X4_enemyAhead : Cond.code yX4_enemyAhead cX4_enemyAhead 3 (some .int) ∈ gW := gW_I 813 rfl rfl
theorem we_X4_enemyAhead : Cond.selects RX4 yX4_enemyAhead yX4_enemyAhead ∈ gW := gW_I 812 (by decide +kernel) rfl
theorem cv_RL_80 : zCV RL 80 yX4_enemyAhead cX4_enemyAhead 3 (some .int) 1 := ⟨gW_V ml_RL_80 wi_X4_enemyAhead we_X4_enemyAhead wn_RX4 wc_X4_enemyAhead, by decide, by decide, by decide +kernel⟩
theorem ml_RL_83 : Cond.methodLink RL 83 yX4_enemyByDistances ∈ gW := gW_I 822 (by decide +kernel) rfl
theorem wi_X4_enemyByDistances : Cond.instanceMethod yX4_enemyByDistances ∈ gW := gW_I 823 (by decide +kernel) rfl
set_option maxRecDepth 100000 in
theorem wc_X4_enemyByDistances : Cond.code yX4_enemyByDistances cX4_enemyByDistances 3 (some .int) ∈ gW := gW_I 825 rfl rfl
theorem we_X4_enemyByDistances : Cond.selects RX4 yX4_enemyByDistances yX4_enemyByDistances ∈ gW := gW_I 824 (by decide +kernel) rfl
theorem cv_RL_83 : zCV RL 83 yX4_enemyByDistances cX4_enemyByDistances 3 (some .int) 1 := ⟨gW_V ml_RL_83 wi_X4_enemyByDistances we_X4_enemyByDistances wn_RX4 wc_X4_enemyByDistances, by decide, by decide, by decide +kernel⟩
theorem ml_RL_90 : Cond.methodLink RL 90 yX4_jarsOf ∈ gW := gW_I 911 (by decide +kernel) rfl
theorem wi_X4_jarsOf : Cond.instanceMethod yX4_jarsOf ∈ gW := gW_I 912 (by decide +kernel) rfl
set_option maxRecDepth 100000 in
theorem wc_X4_jarsOf : Cond.code yX4_jarsOf cX4_jarsOf 2 (some .int) ∈ gW := gW_I 914 rfl rfl
theorem we_X4_jarsOf : Cond.selects RX4 yX4_jarsOf yX4_jarsOf ∈ gW := gW_I 913 (by decide +kernel) rfl
theorem cv_RL_90 : zCV RL 90 yX4_jarsOf cX4_jarsOf 2 (some .int) 1 := ⟨gW_V ml_RL_90 wi_X4_jarsOf we_X4_jarsOf wn_RX4 wc_X4_jarsOf, by decide, by decide, by decide +kernel⟩
theorem ml_RL_93 : Cond.methodLink RL 93 yX4_strengthOfSide ∈ gW := gW_I 874 (by decide +kernel) rfl
theorem wi_X4_strengthOfSide : Cond.instanceMethod yX4_strengthOfSide ∈ gW := gW_I 875 (by decide +kernel) rfl
set_option maxRecDepth 100000 in
theorem wc_X4_strengthOfSide : Cond.code yX4_strengthOfSide cX4_strengthOfSide 2 (some .int) ∈ gW := gW_I 877 rfl rfl
theorem we_X4_strengthOfSide : Cond.selects RX4 yX4_strengthOfSide yX4_strengthOfSide ∈ gW := gW_I 876 (by decide +kernel) rfl
theorem cv_RL_93 : zCV RL 93 yX4_strengthOfSide cX4_strengthOfSide 2 (some .int) 1 := ⟨gW_V ml_RL_93 wi_X4_strengthOfSide we_X4_strengthOfSide wn_RX4 wc_X4_strengthOfSide, by decide, by decide, by decide +kernel⟩
theorem ml_RL_96 : Cond.methodLink RL 96 yX4_strengthByCells ∈ gW := gW_I 889 (by decide +kernel) rfl
theorem wi_X4_strengthByCells : Cond.instanceMethod yX4_strengthByCells ∈ gW := gW_I 890 (by decide +kernel) rfl
set_option maxRecDepth 100000 in
theorem wc_X4_strengthByCells : Cond.code yX4_strengthByCells cX4_strengthByCells 2 (some .int) ∈ gW := gW_I 892 rfl rfl
theorem we_X4_strengthByCells : Cond.selects RX4 yX4_strengthByCells yX4_strengthByCells ∈ gW := gW_I 891 (by decide +kernel) rfl
theorem cv_RL_96 : zCV RL 96 yX4_strengthByCells cX4_strengthByCells 2 (some .int) 1 := ⟨gW_V ml_RL_96 wi_X4_strengthByCells we_X4_strengthByCells wn_RX4 wc_X4_strengthByCells, by decide, by decide, by decide +kernel⟩
theorem ml_RL_99 : Cond.methodLink RL 99 yX4_fallenOf ∈ gW := gW_I 900 (by decide +kernel) rfl
theorem wi_X4_fallenOf : Cond.instanceMethod yX4_fallenOf ∈ gW := gW_I 901 (by decide +kernel) rfl
set_option maxRecDepth 100000 in
theorem wc_X4_fallenOf : Cond.code yX4_fallenOf cX4_fallenOf 2 (some .int) ∈ gW := gW_I 903 rfl rfl
theorem we_X4_fallenOf : Cond.selects RX4 yX4_fallenOf yX4_fallenOf ∈ gW := gW_I 902 (by decide +kernel) rfl
theorem cv_RL_99 : zCV RL 99 yX4_fallenOf cX4_fallenOf 2 (some .int) 1 := ⟨gW_V ml_RL_99 wi_X4_fallenOf we_X4_fallenOf wn_RX4 wc_X4_fallenOf, by decide, by decide, by decide +kernel⟩
theorem ml_RL_102 : Cond.methodLink RL 102 yX4_frontOf ∈ gW := gW_I 860 (by decide +kernel) rfl
theorem wi_X4_frontOf : Cond.instanceMethod yX4_frontOf ∈ gW := gW_I 861 (by decide +kernel) rfl
set_option maxRecDepth 100000 in
theorem wc_X4_frontOf : Cond.code yX4_frontOf cX4_frontOf 4 (some .int) ∈ gW := gW_I 863 rfl rfl
theorem we_X4_frontOf : Cond.selects RX4 yX4_frontOf yX4_frontOf ∈ gW := gW_I 862 (by decide +kernel) rfl
theorem cv_RL_102 : zCV RL 102 yX4_frontOf cX4_frontOf 4 (some .int) 2 := ⟨gW_V ml_RL_102 wi_X4_frontOf we_X4_frontOf wn_RX4 wc_X4_frontOf, by decide, by decide, by decide +kernel⟩
theorem ml_RL_105 : Cond.methodLink RL 105 yX4_leader ∈ gW := gW_I 957 (by decide +kernel) rfl
theorem wi_X4_leader : Cond.instanceMethod yX4_leader ∈ gW := gW_I 958 (by decide +kernel) rfl
set_option maxRecDepth 100000 in
theorem wc_X4_leader : Cond.code yX4_leader cX4_leader 2 (some .int) ∈ gW := gW_I 960 rfl rfl
theorem we_X4_leader : Cond.selects RX4 yX4_leader yX4_leader ∈ gW := gW_I 959 (by decide +kernel) rfl
theorem cv_RL_105 : zCV RL 105 yX4_leader cX4_leader 2 (some .int) 0 := ⟨gW_V ml_RL_105 wi_X4_leader we_X4_leader wn_RX4 wc_X4_leader, by decide, by decide, by decide +kernel⟩
theorem ml_RL_108 : Cond.methodLink RL 108 yX4_lineByStrength ∈ gW := gW_I 834 (by decide +kernel) rfl
theorem wi_X4_lineByStrength : Cond.instanceMethod yX4_lineByStrength ∈ gW := gW_I 835 (by decide +kernel) rfl
set_option maxRecDepth 100000 in
theorem wc_X4_lineByStrength : Cond.code yX4_lineByStrength cX4_lineByStrength 3 (some .int) ∈ gW := gW_I 837 rfl rfl
theorem we_X4_lineByStrength : Cond.selects RX4 yX4_lineByStrength yX4_lineByStrength ∈ gW := gW_I 836 (by decide +kernel) rfl
theorem cv_RL_108 : zCV RL 108 yX4_lineByStrength cX4_lineByStrength 3 (some .int) 1 := ⟨gW_V ml_RL_108 wi_X4_lineByStrength we_X4_lineByStrength wn_RX4 wc_X4_lineByStrength, by decide, by decide, by decide +kernel⟩
theorem ml_RL_111 : Cond.methodLink RL 111 yX4_writeLane ∈ gW := gW_I 1200 (by decide +kernel) rfl
theorem wi_X4_writeLane : Cond.instanceMethod yX4_writeLane ∈ gW := gW_I 1201 (by decide +kernel) rfl
set_option maxRecDepth 100000 in
theorem wc_X4_writeLane : Cond.code yX4_writeLane cX4_writeLane 4 (some .int) ∈ gW := gW_I 1203 rfl rfl
theorem we_X4_writeLane : Cond.selects RX4 yX4_writeLane yX4_writeLane ∈ gW := gW_I 1202 (by decide +kernel) rfl
theorem cv_RL_111 : zCV RL 111 yX4_writeLane cX4_writeLane 4 (some .int) 1 := ⟨gW_V ml_RL_111 wi_X4_writeLane we_X4_writeLane wn_RX4 wc_X4_writeLane, by decide, by decide, by decide +kernel⟩
theorem ml_RL_114 : Cond.methodLink RL 114 yX4_writtenAt ∈ gW := gW_I 1220 (by decide +kernel) rfl
theorem wi_X4_writtenAt : Cond.instanceMethod yX4_writtenAt ∈ gW := gW_I 1221 (by decide +kernel) rfl
set_option maxRecDepth 100000 in
theorem wc_X4_writtenAt : Cond.code yX4_writtenAt cX4_writtenAt 2 (some .char) ∈ gW := gW_I 1223 rfl rfl
theorem we_X4_writtenAt : Cond.selects RX4 yX4_writtenAt yX4_writtenAt ∈ gW := gW_I 1222 (by decide +kernel) rfl
theorem cv_RL_114 : zCV RL 114 yX4_writtenAt cX4_writtenAt 2 (some .char) 1 := ⟨gW_V ml_RL_114 wi_X4_writtenAt we_X4_writtenAt wn_RX4 wc_X4_writtenAt, by decide, by decide, by decide +kernel⟩
theorem ml_RL_117 : Cond.methodLink RL 117 yX4_type ∈ gW := gW_I 1257 (by decide +kernel) rfl
theorem wi_X4_type : Cond.instanceMethod yX4_type ∈ gW := gW_I 1258 (by decide +kernel) rfl
set_option maxRecDepth 100000 in
theorem wc_X4_type : Cond.code yX4_type cX4_type 2 (some .int) ∈ gW := gW_I 1260 rfl rfl
theorem we_X4_type : Cond.selects RX4 yX4_type yX4_type ∈ gW := gW_I 1259 (by decide +kernel) rfl
theorem cv_RL_117 : zCV RL 117 yX4_type cX4_type 2 (some .int) 1 := ⟨gW_V ml_RL_117 wi_X4_type we_X4_type wn_RX4 wc_X4_type, by decide, by decide, by decide +kernel⟩
theorem ml_RL_121 : Cond.methodLink RL 121 yX4_execute ∈ gW := gW_I 1270 (by decide +kernel) rfl
theorem wi_X4_execute : Cond.instanceMethod yX4_execute ∈ gW := gW_I 1271 (by decide +kernel) rfl
set_option maxRecDepth 100000 in
theorem wc_X4_execute : Cond.code yX4_execute cX4_execute 3 (some .int) ∈ gW := gW_I 1273 rfl rfl
theorem we_X4_execute : Cond.selects RX4 yX4_execute yX4_execute ∈ gW := gW_I 1272 (by decide +kernel) rfl
theorem cv_RL_121 : zCV RL 121 yX4_execute cX4_execute 3 (some .int) 0 := ⟨gW_V ml_RL_121 wi_X4_execute we_X4_execute wn_RX4 wc_X4_execute, by decide, by decide, by decide +kernel⟩
theorem ml_RL_130 : Cond.methodLink RL 130 yX4_undo ∈ gW := gW_I 1342 (by decide +kernel) rfl
theorem wi_X4_undo : Cond.instanceMethod yX4_undo ∈ gW := gW_I 1343 (by decide +kernel) rfl
set_option maxRecDepth 100000 in
theorem wc_X4_undo : Cond.code yX4_undo cX4_undo 1 (some .int) ∈ gW := gW_I 1345 rfl rfl
theorem we_X4_undo : Cond.selects RX4 yX4_undo yX4_undo ∈ gW := gW_I 1344 (by decide +kernel) rfl
theorem cv_RL_130 : zCV RL 130 yX4_undo cX4_undo 1 (some .int) 0 := ⟨gW_V ml_RL_130 wi_X4_undo we_X4_undo wn_RX4 wc_X4_undo, by decide, by decide, by decide +kernel⟩
theorem ml_RL_133 : Cond.methodLink RL 133 yJ0_length_8abf5 ∈ gW := gW_I 1216 (by decide +kernel) rfl
theorem cv_RL_133 : zCV RL 133 yJ0_length_8abf5 cJ0_length_8abf5 1 (some .int) 0 := ⟨gW_V ml_RL_133 wi_J0_length_8abf5 we_J0_length_8abf5 wn_RJ0 wc_J0_length_8abf5, by decide, by decide, by decide +kernel⟩
theorem ml_RL_138 : Cond.methodLink RL 138 yJ0_charAt_5068e ∈ gW := gW_I 227 (by decide +kernel) rfl
theorem cv_RL_138 : zCV RL 138 yJ0_charAt_5068e cJ0_charAt_5068e 2 (some .char) 1 := ⟨gW_V ml_RL_138 wi_J0_charAt_5068e we_J0_charAt_5068e wn_RJ0 wc_J0_charAt_5068e, by decide, by decide, by decide +kernel⟩
theorem ml_RL_141 : Cond.methodLink RL 141 yL_type ∈ gW := gW_I 1254 (by decide +kernel) rfl
theorem wt_L_type : Cond.static yL_type ∈ gW := gW_I 1255 (by decide +kernel) rfl
theorem wn_RL : Cond.initialized RL ∈ gW := gW_I 0 (by decide +kernel) rfl
theorem ml_RL_146 : Cond.methodLink RL 146 yL_executes ∈ gW := gW_I 1267 (by decide +kernel) rfl
theorem wt_L_executes : Cond.static yL_executes ∈ gW := gW_I 1268 (by decide +kernel) rfl
theorem ml_RL_151 : Cond.methodLink RL 151 yL_cell ∈ gW := gW_I 222 (by decide +kernel) rfl
theorem wt_L_cell : Cond.static yL_cell ∈ gW := gW_I 223 (by decide +kernel) rfl
set_option maxRecDepth 100000 in
theorem wc_L_cell : Cond.code yL_cell cL_cell 2 (some .int) ∈ gW := gW_I 224 rfl rfl
theorem cs_RL_151 : zCS RL 151 yL_cell cL_cell 2 (some .int) 2 := ⟨gW_S ml_RL_151 wt_L_cell wn_RL wc_L_cell, by decide, by decide, by decide +kernel⟩
theorem ml_RL_157 : Cond.methodLink RL 157 yL_addLine ∈ gW := gW_I 267 (by decide +kernel) rfl
theorem wt_L_addLine : Cond.static yL_addLine ∈ gW := gW_I 268 (by decide +kernel) rfl
theorem ml_RL_160 : Cond.methodLink RL 160 yX4_lineCount ∈ gW := gW_I 497 (by decide +kernel) rfl
theorem wi_X4_lineCount : Cond.instanceMethod yX4_lineCount ∈ gW := gW_I 498 (by decide +kernel) rfl
set_option maxRecDepth 100000 in
theorem wc_X4_lineCount : Cond.code yX4_lineCount cX4_lineCount 1 (some .int) ∈ gW := gW_I 500 rfl rfl
theorem we_X4_lineCount : Cond.selects RX4 yX4_lineCount yX4_lineCount ∈ gW := gW_I 499 (by decide +kernel) rfl
theorem cv_RL_160 : zCV RL 160 yX4_lineCount cX4_lineCount 1 (some .int) 0 := ⟨gW_V ml_RL_160 wi_X4_lineCount we_X4_lineCount wn_RX4 wc_X4_lineCount, by decide, by decide, by decide +kernel⟩
theorem ml_RL_165 : Cond.methodLink RL 165 yL_setOrder ∈ gW := gW_I 502 (by decide +kernel) rfl
theorem wt_L_setOrder : Cond.static yL_setOrder ∈ gW := gW_I 503 (by decide +kernel) rfl
theorem ml_RL_168 : Cond.methodLink RL 168 yL_rally ∈ gW := gW_I 561 (by decide +kernel) rfl
theorem wt_L_rally : Cond.static yL_rally ∈ gW := gW_I 562 (by decide +kernel) rfl
theorem ml_RL_171 : Cond.methodLink RL 171 yX4_turn ∈ gW := gW_I 595 (by decide +kernel) rfl
theorem wi_X4_turn : Cond.instanceMethod yX4_turn ∈ gW := gW_I 596 (by decide +kernel) rfl
set_option maxRecDepth 100000 in
theorem wc_X4_turn : Cond.code yX4_turn cX4_turn 1 (some .int) ∈ gW := gW_I 598 rfl rfl
theorem we_X4_turn : Cond.selects RX4 yX4_turn yX4_turn ∈ gW := gW_I 597 (by decide +kernel) rfl
theorem cv_RL_171 : zCV RL 171 yX4_turn cX4_turn 1 (some .int) 0 := ⟨gW_V ml_RL_171 wi_X4_turn we_X4_turn wn_RX4 wc_X4_turn, by decide, by decide, by decide +kernel⟩
theorem ml_RL_174 : Cond.methodLink RL 174 yL_lineIn ∈ gW := gW_I 650 (by decide +kernel) rfl
theorem wt_L_lineIn : Cond.static yL_lineIn ∈ gW := gW_I 651 (by decide +kernel) rfl
theorem ml_RL_177 : Cond.methodLink RL 177 yL_drawn ∈ gW := gW_I 29 (by decide +kernel) rfl
theorem wt_L_drawn : Cond.static yL_drawn ∈ gW := gW_I 30 (by decide +kernel) rfl
set_option maxRecDepth 100000 in
theorem wc_L_drawn : Cond.code yL_drawn cL_drawn 8 (some (.object "LineBattle")) ∈ gW := gW_I 31 rfl rfl
theorem cs_RL_177 : zCS RL 177 yL_drawn cL_drawn 8 (some (.object "LineBattle")) 1 := ⟨gW_S ml_RL_177 wt_L_drawn wn_RL wc_L_drawn, by decide, by decide, by decide +kernel⟩
theorem ml_RL_181 : Cond.methodLink RL 181 yL_lines ∈ gW := gW_I 647 (by decide +kernel) rfl
theorem wt_L_lines : Cond.static yL_lines ∈ gW := gW_I 648 (by decide +kernel) rfl
set_option maxRecDepth 100000 in
theorem wc_L_lines : Cond.code yL_lines cL_lines 14 (some .boolean) ∈ gW := gW_I 649 rfl rfl
theorem cs_RL_181 : zCS RL 181 yL_lines cL_lines 14 (some .boolean) 1 := ⟨gW_S ml_RL_181 wt_L_lines wn_RL wc_L_lines, by decide, by decide, by decide +kernel⟩
theorem ml_RL_185 : Cond.methodLink RL 185 yL_sides ∈ gW := gW_I 854 (by decide +kernel) rfl
theorem wt_L_sides : Cond.static yL_sides ∈ gW := gW_I 855 (by decide +kernel) rfl
set_option maxRecDepth 100000 in
theorem wc_L_sides : Cond.code yL_sides cL_sides 13 (some .boolean) ∈ gW := gW_I 856 rfl rfl
theorem cs_RL_185 : zCS RL 185 yL_sides cL_sides 13 (some .boolean) 1 := ⟨gW_S ml_RL_185 wt_L_sides wn_RL wc_L_sides, by decide, by decide, by decide +kernel⟩
theorem ml_RL_188 : Cond.methodLink RL 188 yL_texts ∈ gW := gW_I 975 (by decide +kernel) rfl
theorem wt_L_texts : Cond.static yL_texts ∈ gW := gW_I 976 (by decide +kernel) rfl
set_option maxRecDepth 100000 in
theorem wc_L_texts : Cond.code yL_texts cL_texts 6 (some .boolean) ∈ gW := gW_I 977 rfl rfl
theorem cs_RL_188 : zCS RL 188 yL_texts cL_texts 6 (some .boolean) 1 := ⟨gW_S ml_RL_188 wt_L_texts wn_RL wc_L_texts, by decide, by decide, by decide +kernel⟩
theorem ml_RL_191 : Cond.methodLink RL 191 yL_undone ∈ gW := gW_I 1225 (by decide +kernel) rfl
theorem wt_L_undone : Cond.static yL_undone ∈ gW := gW_I 1226 (by decide +kernel) rfl
set_option maxRecDepth 100000 in
theorem wc_L_undone : Cond.code yL_undone cL_undone 8 (some .boolean) ∈ gW := gW_I 1227 rfl rfl
theorem cs_RL_191 : zCS RL 191 yL_undone cL_undone 8 (some .boolean) 2 := ⟨gW_S ml_RL_191 wt_L_undone wn_RL wc_L_undone, by decide, by decide, by decide +kernel⟩
theorem ml_RL_195 : Cond.methodLink RL 195 yL_laneOf ∈ gW := gW_I 678 (by decide +kernel) rfl
theorem wt_L_laneOf : Cond.static yL_laneOf ∈ gW := gW_I 679 (by decide +kernel) rfl
theorem ml_RL_197 : Cond.methodLink RL 197 yL_columnOf ∈ gW := gW_I 699 (by decide +kernel) rfl
theorem wt_L_columnOf : Cond.static yL_columnOf ∈ gW := gW_I 700 (by decide +kernel) rfl
theorem ml_RL_199 : Cond.methodLink RL 199 yL_isFallen ∈ gW := gW_I 706 (by decide +kernel) rfl
theorem wt_L_isFallen : Cond.static yL_isFallen ∈ gW := gW_I 707 (by decide +kernel) rfl
set_option maxRecDepth 100000 in
theorem wc_L_isFallen : Cond.code yL_isFallen cL_isFallen 2 (some .boolean) ∈ gW := gW_I 708 rfl rfl
theorem cs_RL_199 : zCS RL 199 yL_isFallen cL_isFallen 2 (some .boolean) 2 := ⟨gW_S ml_RL_199 wt_L_isFallen wn_RL wc_L_isFallen, by decide, by decide, by decide +kernel⟩
theorem ml_RL_203 : Cond.methodLink RL 203 yL_kindOf ∈ gW := gW_I 719 (by decide +kernel) rfl
theorem wt_L_kindOf : Cond.static yL_kindOf ∈ gW := gW_I 720 (by decide +kernel) rfl
theorem ml_RL_205 : Cond.methodLink RL 205 yL_strength ∈ gW := gW_I 726 (by decide +kernel) rfl
theorem wt_L_strength : Cond.static yL_strength ∈ gW := gW_I 727 (by decide +kernel) rfl
theorem ml_RL_208 : Cond.methodLink RL 208 yL_morale ∈ gW := gW_I 733 (by decide +kernel) rfl
theorem wt_L_morale : Cond.static yL_morale ∈ gW := gW_I 734 (by decide +kernel) rfl
theorem ml_RL_211 : Cond.methodLink RL 211 yL_isStanding ∈ gW := gW_I 740 (by decide +kernel) rfl
theorem wt_L_isStanding : Cond.static yL_isStanding ∈ gW := gW_I 741 (by decide +kernel) rfl
theorem ml_RL_213 : Cond.methodLink RL 213 yL_isRouted ∈ gW := gW_I 743 (by decide +kernel) rfl
theorem wt_L_isRouted : Cond.static yL_isRouted ∈ gW := gW_I 744 (by decide +kernel) rfl
theorem ml_RL_215 : Cond.methodLink RL 215 yL_orderOf ∈ gW := gW_I 746 (by decide +kernel) rfl
theorem wt_L_orderOf : Cond.static yL_orderOf ∈ gW := gW_I 747 (by decide +kernel) rfl
theorem ml_RL_217 : Cond.methodLink RL 217 yL_attack ∈ gW := gW_I 753 (by decide +kernel) rfl
theorem wt_L_attack : Cond.static yL_attack ∈ gW := gW_I 754 (by decide +kernel) rfl
theorem ml_RL_220 : Cond.methodLink RL 220 yL_attackBy ∈ gW := gW_I 761 (by decide +kernel) rfl
theorem wt_L_attackBy : Cond.static yL_attackBy ∈ gW := gW_I 762 (by decide +kernel) rfl
set_option maxRecDepth 100000 in
theorem wc_L_attackBy : Cond.code yL_attackBy cL_attackBy 2 (some .int) ∈ gW := gW_I 763 rfl rfl
theorem cs_RL_220 : zCS RL 220 yL_attackBy cL_attackBy 2 (some .int) 2 := ⟨gW_S ml_RL_220 wt_L_attackBy wn_RL wc_L_attackBy, by decide, by decide, by decide +kernel⟩
theorem ml_RL_223 : Cond.methodLink RL 223 yL_counter ∈ gW := gW_I 764 (by decide +kernel) rfl
theorem wt_L_counter : Cond.static yL_counter ∈ gW := gW_I 765 (by decide +kernel) rfl
theorem ml_RL_226 : Cond.methodLink RL 226 yL_counterBy ∈ gW := gW_I 772 (by decide +kernel) rfl
theorem wt_L_counterBy : Cond.static yL_counterBy ∈ gW := gW_I 773 (by decide +kernel) rfl
set_option maxRecDepth 100000 in
theorem wc_L_counterBy : Cond.code yL_counterBy cL_counterBy 2 (some .int) ∈ gW := gW_I 774 rfl rfl
theorem cs_RL_226 : zCS RL 226 yL_counterBy cL_counterBy 2 (some .int) 2 := ⟨gW_S ml_RL_226 wt_L_counterBy wn_RL wc_L_counterBy, by decide, by decide, by decide +kernel⟩
theorem ml_RL_229 : Cond.methodLink RL 229 yL_supportBy ∈ gW := gW_I 775 (by decide +kernel) rfl
theorem wt_L_supportBy : Cond.static yL_supportBy ∈ gW := gW_I 776 (by decide +kernel) rfl
set_option maxRecDepth 100000 in
theorem wc_L_supportBy : Cond.code yL_supportBy cL_supportBy 5 (some .int) ∈ gW := gW_I 777 rfl rfl
theorem cs_RL_229 : zCS RL 229 yL_supportBy cL_supportBy 5 (some .int) 2 := ⟨gW_S ml_RL_229 wt_L_supportBy wn_RL wc_L_supportBy, by decide, by decide, by decide +kernel⟩
theorem ml_RL_232 : Cond.methodLink RL 232 yL_sideOf ∈ gW := gW_I 782 (by decide +kernel) rfl
theorem wt_L_sideOf : Cond.static yL_sideOf ∈ gW := gW_I 783 (by decide +kernel) rfl
theorem ml_RL_234 : Cond.methodLink RL 234 yL_way ∈ gW := gW_I 785 (by decide +kernel) rfl
theorem wt_L_way : Cond.static yL_way ∈ gW := gW_I 786 (by decide +kernel) rfl
set_option maxRecDepth 100000 in
theorem wc_L_way : Cond.code yL_way cL_way 2 (some .int) ∈ gW := gW_I 787 rfl rfl
theorem cs_RL_234 : zCS RL 234 yL_way cL_way 2 (some .int) 2 := ⟨gW_S ml_RL_234 wt_L_way wn_RL wc_L_way, by decide, by decide, by decide +kernel⟩
theorem ml_RL_237 : Cond.methodLink RL 237 yL_support ∈ gW := gW_I 788 (by decide +kernel) rfl
theorem wt_L_support : Cond.static yL_support ∈ gW := gW_I 789 (by decide +kernel) rfl
theorem ml_RL_240 : Cond.methodLink RL 240 yL_byLines ∈ gW := gW_I 799 (by decide +kernel) rfl
theorem wt_L_byLines : Cond.static yL_byLines ∈ gW := gW_I 800 (by decide +kernel) rfl
theorem ml_RL_243 : Cond.methodLink RL 243 yL_ahead ∈ gW := gW_I 807 (by decide +kernel) rfl
theorem wt_L_ahead : Cond.static yL_ahead ∈ gW := gW_I 808 (by decide +kernel) rfl
theorem ml_RL_246 : Cond.methodLink RL 246 yL_byDistances ∈ gW := gW_I 819 (by decide +kernel) rfl
theorem wt_L_byDistances : Cond.static yL_byDistances ∈ gW := gW_I 820 (by decide +kernel) rfl
theorem ml_RL_249 : Cond.methodLink RL 249 yL_byStrength ∈ gW := gW_I 831 (by decide +kernel) rfl
theorem wt_L_byStrength : Cond.static yL_byStrength ∈ gW := gW_I 832 (by decide +kernel) rfl
theorem ml_RL_252 : Cond.methodLink RL 252 yL_routed ∈ gW := gW_I 847 (by decide +kernel) rfl
theorem wt_L_routed : Cond.static yL_routed ∈ gW := gW_I 848 (by decide +kernel) rfl
theorem ml_RL_255 : Cond.methodLink RL 255 yL_front ∈ gW := gW_I 857 (by decide +kernel) rfl
theorem wt_L_front : Cond.static yL_front ∈ gW := gW_I 858 (by decide +kernel) rfl
theorem ml_RL_258 : Cond.methodLink RL 258 yL_sumOf ∈ gW := gW_I 871 (by decide +kernel) rfl
theorem wt_L_sumOf : Cond.static yL_sumOf ∈ gW := gW_I 872 (by decide +kernel) rfl
theorem ml_RL_261 : Cond.methodLink RL 261 yL_byCells ∈ gW := gW_I 886 (by decide +kernel) rfl
theorem wt_L_byCells : Cond.static yL_byCells ∈ gW := gW_I 887 (by decide +kernel) rfl
theorem ml_RL_264 : Cond.methodLink RL 264 yL_fallen ∈ gW := gW_I 897 (by decide +kernel) rfl
theorem wt_L_fallen : Cond.static yL_fallen ∈ gW := gW_I 898 (by decide +kernel) rfl
theorem ml_RL_267 : Cond.methodLink RL 267 yL_jars ∈ gW := gW_I 908 (by decide +kernel) rfl
theorem wt_L_jars : Cond.static yL_jars ∈ gW := gW_I 909 (by decide +kernel) rfl
theorem ml_RL_270 : Cond.methodLink RL 270 yX4_meanMorale ∈ gW := gW_I 916 (by decide +kernel) rfl
theorem wi_X4_meanMorale : Cond.instanceMethod yX4_meanMorale ∈ gW := gW_I 917 (by decide +kernel) rfl
set_option maxRecDepth 100000 in
theorem wc_X4_meanMorale : Cond.code yX4_meanMorale cX4_meanMorale 2 (some .double) ∈ gW := gW_I 919 rfl rfl
theorem we_X4_meanMorale : Cond.selects RX4 yX4_meanMorale yX4_meanMorale ∈ gW := gW_I 918 (by decide +kernel) rfl
theorem cv_RL_270 : zCV RL 270 yX4_meanMorale cX4_meanMorale 2 (some .double) 0 := ⟨gW_V ml_RL_270 wi_X4_meanMorale we_X4_meanMorale wn_RX4 wc_X4_meanMorale, by decide, by decide, by decide +kernel⟩
theorem ml_RL_274 : Cond.methodLink RL 274 yX4_standingShare ∈ gW := gW_I 945 (by decide +kernel) rfl
theorem wi_X4_standingShare : Cond.instanceMethod yX4_standingShare ∈ gW := gW_I 946 (by decide +kernel) rfl
set_option maxRecDepth 100000 in
theorem wc_X4_standingShare : Cond.code yX4_standingShare cX4_standingShare 2 (some .float) ∈ gW := gW_I 948 rfl rfl
theorem we_X4_standingShare : Cond.selects RX4 yX4_standingShare yX4_standingShare ∈ gW := gW_I 947 (by decide +kernel) rfl
theorem cv_RL_274 : zCV RL 274 yX4_standingShare cX4_standingShare 2 (some .float) 0 := ⟨gW_V ml_RL_274 wi_X4_standingShare we_X4_standingShare wn_RX4 wc_X4_standingShare, by decide, by decide, by decide +kernel⟩
theorem ml_RL_278 : Cond.methodLink RL 278 yL_leader ∈ gW := gW_I 954 (by decide +kernel) rfl
theorem wt_L_leader : Cond.static yL_leader ∈ gW := gW_I 955 (by decide +kernel) rfl
theorem ml_RL_280 : Cond.methodLink RL 280 yX4_isConsistent ∈ gW := gW_I 962 (by decide +kernel) rfl
theorem wi_X4_isConsistent : Cond.instanceMethod yX4_isConsistent ∈ gW := gW_I 963 (by decide +kernel) rfl
set_option maxRecDepth 100000 in
theorem wc_X4_isConsistent : Cond.code yX4_isConsistent cX4_isConsistent 1 (some .boolean) ∈ gW := gW_I 965 rfl rfl
theorem we_X4_isConsistent : Cond.selects RX4 yX4_isConsistent yX4_isConsistent ∈ gW := gW_I 964 (by decide +kernel) rfl
theorem cv_RL_280 : zCV RL 280 yX4_isConsistent cX4_isConsistent 1 (some .boolean) 0 := ⟨gW_V ml_RL_280 wi_X4_isConsistent we_X4_isConsistent wn_RX4 wc_X4_isConsistent, by decide, by decide, by decide +kernel⟩
theorem ml_RL_284 : Cond.methodLink RL 284 yL_writtenAt ∈ gW := gW_I 1217 (by decide +kernel) rfl
theorem wt_L_writtenAt : Cond.static yL_writtenAt ∈ gW := gW_I 1218 (by decide +kernel) rfl
theorem ml_RL_288 : Cond.methodLink RL 288 yJ0_indexOf_0f7a4 ∈ gW := gW_I 979 (by decide +kernel) rfl
theorem cv_RL_288 : zCV RL 288 yJ0_indexOf_0f7a4 cJ0_indexOf_0f7a4 2 (some .int) 1 := ⟨gW_V ml_RL_288 wi_J0_indexOf_0f7a4 we_J0_indexOf_0f7a4 wn_RJ0 wc_J0_indexOf_0f7a4, by decide, by decide, by decide +kernel⟩
theorem ml_RL_294 : Cond.methodLink RL 294 yJ4_append_15ec4 ∈ gW := gW_I 1010 (by decide +kernel) rfl
theorem wi_J4_append_15ec4 : Cond.instanceMethod yJ4_append_15ec4 ∈ gW := gW_I 1011 (by decide +kernel) rfl
theorem wn_RJ4 : Cond.initialized RJ4 ∈ gW := gW_I 24 (by decide +kernel) rfl
set_option maxRecDepth 100000 in
theorem wc_J4_append_15ec4 : Cond.code yJ4_append_15ec4 cJ4_append_15ec4 2 (some (.object "java/lang/StringBuilder")) ∈ gW := gW_I 1013 rfl rfl
theorem we_J4_append_15ec4 : Cond.selects RJ4 yJ4_append_15ec4 yJ4_append_15ec4 ∈ gW := gW_I 1012 (by decide +kernel) rfl
theorem cv_RL_294 : zCV RL 294 yJ4_append_15ec4 cJ4_append_15ec4 2 (some (.object "java/lang/StringBuilder")) 1 := ⟨gW_V ml_RL_294 wi_J4_append_15ec4 we_J4_append_15ec4 wn_RJ4 wc_J4_append_15ec4, by decide, by decide, by decide +kernel⟩
theorem ml_RL_300 : Cond.methodLink RL 300 yJ4_append_cf468 ∈ gW := gW_I 1099 (by decide +kernel) rfl
theorem wi_J4_append_cf468 : Cond.instanceMethod yJ4_append_cf468 ∈ gW := gW_I 1100 (by decide +kernel) rfl
set_option maxRecDepth 100000 in
theorem wc_J4_append_cf468 : Cond.code yJ4_append_cf468 cJ4_append_cf468 2 (some (.object "java/lang/StringBuilder")) ∈ gW := gW_I 1102 rfl rfl
theorem we_J4_append_cf468 : Cond.selects RJ4 yJ4_append_cf468 yJ4_append_cf468 ∈ gW := gW_I 1101 (by decide +kernel) rfl
theorem cv_RL_300 : zCV RL 300 yJ4_append_cf468 cJ4_append_cf468 2 (some (.object "java/lang/StringBuilder")) 1 := ⟨gW_V ml_RL_300 wi_J4_append_cf468 we_J4_append_cf468 wn_RJ4 wc_J4_append_cf468, by decide, by decide, by decide +kernel⟩
theorem ml_RL_303 : Cond.methodLink RL 303 yJ4_toString_0e30d ∈ gW := gW_I 1112 (by decide +kernel) rfl
theorem wi_J4_toString_0e30d : Cond.instanceMethod yJ4_toString_0e30d ∈ gW := gW_I 1113 (by decide +kernel) rfl
set_option maxRecDepth 100000 in
theorem wc_J4_toString_0e30d : Cond.code yJ4_toString_0e30d cJ4_toString_0e30d 1 (some (.object "java/lang/String")) ∈ gW := gW_I 1115 rfl rfl
theorem we_J4_toString_0e30d : Cond.selects RJ4 yJ4_toString_0e30d yJ4_toString_0e30d ∈ gW := gW_I 1114 (by decide +kernel) rfl
theorem cv_RL_303 : zCV RL 303 yJ4_toString_0e30d cJ4_toString_0e30d 1 (some (.object "java/lang/String")) 0 := ⟨gW_V ml_RL_303 wi_J4_toString_0e30d we_J4_toString_0e30d wn_RJ4 wc_J4_toString_0e30d, by decide, by decide, by decide +kernel⟩
theorem ml_RL_309 : Cond.methodLink RL 309 yL_writeLane ∈ gW := gW_I 1197 (by decide +kernel) rfl
theorem wt_L_writeLane : Cond.static yL_writeLane ∈ gW := gW_I 1198 (by decide +kernel) rfl
theorem ml_RL_311 : Cond.methodLink RL 311 yL_spells ∈ gW := gW_I 1213 (by decide +kernel) rfl
theorem wt_L_spells : Cond.static yL_spells ∈ gW := gW_I 1214 (by decide +kernel) rfl
set_option maxRecDepth 100000 in
theorem wc_L_spells : Cond.code yL_spells cL_spells 5 (some .boolean) ∈ gW := gW_I 1215 rfl rfl
theorem cs_RL_311 : zCS RL 311 yL_spells cL_spells 5 (some .boolean) 3 := ⟨gW_S ml_RL_311 wt_L_spells wn_RL wc_L_spells, by decide, by decide, by decide +kernel⟩
theorem ml_RL_317 : Cond.methodLink RL 317 yX4_turnCount ∈ gW := gW_I 1232 (by decide +kernel) rfl
theorem wi_X4_turnCount : Cond.instanceMethod yX4_turnCount ∈ gW := gW_I 1233 (by decide +kernel) rfl
set_option maxRecDepth 100000 in
theorem wc_X4_turnCount : Cond.code yX4_turnCount cX4_turnCount 1 (some .int) ∈ gW := gW_I 1235 rfl rfl
theorem we_X4_turnCount : Cond.selects RX4 yX4_turnCount yX4_turnCount ∈ gW := gW_I 1234 (by decide +kernel) rfl
theorem cv_RL_317 : zCV RL 317 yX4_turnCount cX4_turnCount 1 (some .int) 0 := ⟨gW_V ml_RL_317 wi_X4_turnCount we_X4_turnCount wn_RX4 wc_X4_turnCount, by decide, by decide, by decide +kernel⟩
theorem ml_RL_322 : Cond.methodLink RL 322 yX4_fightCount ∈ gW := gW_I 1237 (by decide +kernel) rfl
theorem wi_X4_fightCount : Cond.instanceMethod yX4_fightCount ∈ gW := gW_I 1238 (by decide +kernel) rfl
set_option maxRecDepth 100000 in
theorem wc_X4_fightCount : Cond.code yX4_fightCount cX4_fightCount 1 (some .int) ∈ gW := gW_I 1240 rfl rfl
theorem we_X4_fightCount : Cond.selects RX4 yX4_fightCount yX4_fightCount ∈ gW := gW_I 1239 (by decide +kernel) rfl
theorem cv_RL_322 : zCV RL 322 yX4_fightCount cX4_fightCount 1 (some .int) 0 := ⟨gW_V ml_RL_322 wi_X4_fightCount we_X4_fightCount wn_RX4 wc_X4_fightCount, by decide, by decide, by decide +kernel⟩
theorem ml_RL_333 : Cond.methodLink RL 333 yL_sum ∈ gW := gW_I 1228 (by decide +kernel) rfl
theorem wt_L_sum : Cond.static yL_sum ∈ gW := gW_I 1229 (by decide +kernel) rfl
set_option maxRecDepth 100000 in
theorem wc_L_sum : Cond.code yL_sum cL_sum 4 (some .long) ∈ gW := gW_I 1230 rfl rfl
theorem cs_RL_333 : zCS RL 333 yL_sum cL_sum 4 (some .long) 1 := ⟨gW_S ml_RL_333 wt_L_sum wn_RL wc_L_sum, by decide, by decide, by decide +kernel⟩
theorem ml_RL_343 : Cond.methodLink RL 343 yJ4_append_bf812 ∈ gW := gW_I 1248 (by decide +kernel) rfl
theorem wi_J4_append_bf812 : Cond.instanceMethod yJ4_append_bf812 ∈ gW := gW_I 1151 (by decide +kernel) rfl
set_option maxRecDepth 100000 in
theorem wc_J4_append_bf812 : Cond.code yJ4_append_bf812 cJ4_append_bf812 2 (some (.object "java/lang/StringBuilder")) ∈ gW := gW_I 1153 rfl rfl
theorem we_J4_append_bf812 : Cond.selects RJ4 yJ4_append_bf812 yJ4_append_bf812 ∈ gW := gW_I 1152 (by decide +kernel) rfl
theorem cv_RL_343 : zCV RL 343 yJ4_append_bf812 cJ4_append_bf812 2 (some (.object "java/lang/StringBuilder")) 1 := ⟨gW_V ml_RL_343 wi_J4_append_bf812 we_J4_append_bf812 wn_RJ4 wc_J4_append_bf812, by decide, by decide, by decide +kernel⟩
theorem ml_RL_350 : Cond.methodLink RL 350 yL_execute ∈ gW := gW_I 1251 (by decide +kernel) rfl
theorem wt_L_execute : Cond.static yL_execute ∈ gW := gW_I 1252 (by decide +kernel) rfl
set_option maxRecDepth 100000 in
theorem wc_L_execute : Cond.code yL_execute cL_execute 3 (some .int) ∈ gW := gW_I 1253 rfl rfl
theorem cs_RL_350 : zCS RL 350 yL_execute cL_execute 3 (some .int) 2 := ⟨gW_S ml_RL_350 wt_L_execute wn_RL wc_L_execute, by decide, by decide, by decide +kernel⟩
theorem ml_RL_353 : Cond.methodLink RL 353 yL_undo ∈ gW := gW_I 1339 (by decide +kernel) rfl
theorem wt_L_undo : Cond.static yL_undo ∈ gW := gW_I 1340 (by decide +kernel) rfl
end ZWD
