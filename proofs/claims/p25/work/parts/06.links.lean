theorem h_X0 : ∀ w ∈ u_ws RX0 TX0 3, m_in w := by
  show ∀ w ∈ u_ws RX0 TX0 3, w ∈ lw_tbl ∧ m_okW w = true
  decide +kernel
theorem h_X1 : ∀ w ∈ u_ws RX1 TX1 8, m_in w := by
  show ∀ w ∈ u_ws RX1 TX1 8, w ∈ lw_tbl ∧ m_okW w = true
  decide +kernel
theorem h_X2 : ∀ w ∈ u_ws RX2 TX2 6, m_in w := by
  show ∀ w ∈ u_ws RX2 TX2 6, w ∈ lw_tbl ∧ m_okW w = true
  decide +kernel
theorem h_X3 : ∀ w ∈ u_ws RX3 TX3 1, m_in w := by
  show ∀ w ∈ u_ws RX3 TX3 1, w ∈ lw_tbl ∧ m_okW w = true
  decide +kernel
theorem h_X4 : ∀ w ∈ u_ws RX4 TX4 8, m_in w := by
  show ∀ w ∈ u_ws RX4 TX4 8, w ∈ lw_tbl ∧ m_okW w = true
  decide +kernel
theorem h_X5 : ∀ w ∈ u_ws RX5 TX5 1, m_in w := by
  show ∀ w ∈ u_ws RX5 TX5 1, w ∈ lw_tbl ∧ m_okW w = true
  decide +kernel
theorem h_X6 : ∀ w ∈ u_ws RX6 TX6 2, m_in w := by
  show ∀ w ∈ u_ws RX6 TX6 2, w ∈ lw_tbl ∧ m_okW w = true
  decide +kernel
theorem h_X7 : ∀ w ∈ u_ws RX7 TX7 6, m_in w := by
  show ∀ w ∈ u_ws RX7 TX7 6, w ∈ lw_tbl ∧ m_okW w = true
  decide +kernel
def k_X0_keep : mM := (yX0_keep, cX0_keep, 2, none, { frames := 2, cells := 0, slots := 0, locals := 45 })
def k_X0_restore : mM := (yX0_restore, cX0_restore, 2, none, { frames := 2, cells := 0, slots := 0, locals := 45 })
def k_X0_beginOf : mM := (yX0_beginOf, cX0_beginOf, 2, some .int, { frames := 0, cells := 0, slots := 0, locals := 0 })
def k_X2_find : mM := (yX2_find, cX2_find, 15, none, { frames := 3, cells := 0, slots := 0, locals := 68 })
def k_X2_beginAlong : mM := (yX2_beginAlong, cX2_beginAlong, 6, some .int, { frames := 2, cells := 0, slots := 0, locals := 43 })
def k_X2_middleAlong : mM := (yX2_middleAlong, cX2_middleAlong, 5, some .int, { frames := 2, cells := 0, slots := 0, locals := 43 })
def k_X2_shiftInto : mM := (yX2_shiftInto, cX2_shiftInto, 8, some .int, { frames := 1, cells := 0, slots := 0, locals := 22 })
def k_X2_isGood : mM := (yX2_isGood, cX2_isGood, 3, some .boolean, { frames := 0, cells := 0, slots := 0, locals := 0 })
def k_X3_get : mM := (yX3_get, cX3_get, 2, some .int, { frames := 0, cells := 0, slots := 0, locals := 0 })
def k_X3_put : mM := (yX3_put, cX3_put, 3, none, { frames := 0, cells := 0, slots := 0, locals := 0 })
def k_X4_arrange : mM := (yX4_arrange, cX4_arrange, 6, some .int, { frames := 5, cells := 0, slots := 0, locals := 126 })
def k_X4_orderOpenHints : mM := (yX4_orderOpenHints, cX4_orderOpenHints, 4, some .int, { frames := 4, cells := 0, slots := 0, locals := 90 })
def k_X4_tryToShow : mM := (yX4_tryToShow, cX4_tryToShow, 5, some .int, { frames := 4, cells := 0, slots := 0, locals := 102 })
def k_X4_isFree : mM := (yX4_isFree, cX4_isFree, 6, some .boolean, { frames := 3, cells := 0, slots := 0, locals := 69 })
def k_X4_shownThatMeets : mM := (yX4_shownThatMeets, cX4_shownThatMeets, 7, some .int, { frames := 2, cells := 0, slots := 0, locals := 43 })
def k_X5_get : mM := (yX5_get, cX5_get, 2, some .int, { frames := 1, cells := 0, slots := 0, locals := 21 })
def k_X5_put : mM := (yX5_put, cX5_put, 3, none, { frames := 1, cells := 0, slots := 0, locals := 22 })
def k_X5_setting : mM := (yX5_setting, cX5_setting, 2, some .int, { frames := 1, cells := 0, slots := 0, locals := 21 })
def k_X5_anchorValue : mM := (yX5_anchorValue, cX5_anchorValue, 3, some .int, { frames := 1, cells := 0, slots := 0, locals := 21 })
def k_X5_putAnchorValue : mM := (yX5_putAnchorValue, cX5_putAnchorValue, 4, none, { frames := 1, cells := 0, slots := 0, locals := 22 })
def k_X5_hintValue : mM := (yX5_hintValue, cX5_hintValue, 3, some .int, { frames := 1, cells := 0, slots := 0, locals := 21 })
def k_X5_putHintValue : mM := (yX5_putHintValue, cX5_putHintValue, 4, none, { frames := 1, cells := 0, slots := 0, locals := 22 })
def k_X5_isOpen : mM := (yX5_isOpen, cX5_isOpen, 2, some .boolean, { frames := 2, cells := 0, slots := 0, locals := 43 })
def k_X5_isAnchorInSight : mM := (yX5_isAnchorInSight, cX5_isAnchorInSight, 2, some .boolean, { frames := 3, cells := 0, slots := 0, locals := 68 })
def k_X5_anchorMeets : mM := (yX5_anchorMeets, cX5_anchorMeets, 6, some .boolean, { frames := 2, cells := 0, slots := 0, locals := 43 })
def k_X5_turn : mM := (yX5_turn, cX5_turn, 4, some .int, { frames := 3, cells := 0, slots := 0, locals := 67 })
def k_X5_goesBefore : mM := (yX5_goesBefore, cX5_goesBefore, 5, some .boolean, { frames := 2, cells := 0, slots := 0, locals := 43 })
def k_X5_copyTo : mM := (yX5_copyTo, cX5_copyTo, 4, none, { frames := 1, cells := 0, slots := 0, locals := 22 })
def k_X5_copyFrom : mM := (yX5_copyFrom, cX5_copyFrom, 4, none, { frames := 1, cells := 0, slots := 0, locals := 22 })
def k_X6_list : mM := (yX6_list, cX6_list, 6, none, { frames := 2, cells := 0, slots := 0, locals := 44 })
def k_X6_add : mM := (yX6_add, cX6_add, 3, none, { frames := 1, cells := 0, slots := 0, locals := 22 })
def k_X7_view : mM := (yX7_view, cX7_view, 3, some .int, { frames := 6, cells := 0, slots := 0, locals := 151 })
def k_X7_scroll : mM := (yX7_scroll, cX7_scroll, 3, some .int, { frames := 6, cells := 0, slots := 0, locals := 151 })
def k_X7_anchor : mM := (yX7_anchor, cX7_anchor, 6, some .int, { frames := 6, cells := 0, slots := 0, locals := 151 })
def k_X7_moveAnchor : mM := (yX7_moveAnchor, cX7_moveAnchor, 4, some .int, { frames := 6, cells := 0, slots := 0, locals := 151 })
def k_X7_anchorOf : mM := (yX7_anchorOf, cX7_anchorOf, 3, some .int, { frames := 4, cells := 0, slots := 0, locals := 89 })
def k_X7_count : mM := (yX7_count, cX7_count, 2, some .int, { frames := 4, cells := 0, slots := 0, locals := 86 })
def k_X7_hint : mM := (yX7_hint, cX7_hint, 7, some .int, { frames := 6, cells := 0, slots := 0, locals := 151 })
def k_X7_alter : mM := (yX7_alter, cX7_alter, 5, some .int, { frames := 6, cells := 0, slots := 0, locals := 151 })
def k_X7_open : mM := (yX7_open, cX7_open, 2, some .int, { frames := 6, cells := 0, slots := 0, locals := 151 })
def k_X7_close : mM := (yX7_close, cX7_close, 2, some .int, { frames := 6, cells := 0, slots := 0, locals := 151 })
def k_X7_settle : mM := (yX7_settle, cX7_settle, 2, some .int, { frames := 6, cells := 0, slots := 0, locals := 151 })
def k_X7_hintOf : mM := (yX7_hintOf, cX7_hintOf, 4, some .int, { frames := 5, cells := 0, slots := 0, locals := 125 })
def k_X7_ifOn : mM := (yX7_ifOn, cX7_ifOn, 4, some .int, { frames := 4, cells := 0, slots := 0, locals := 102 })
def k_X7_at : mM := (yX7_at, cX7_at, 4, some .int, { frames := 3, cells := 0, slots := 0, locals := 69 })
def k_X7_sizeFor : mM := (yX7_sizeFor, cX7_sizeFor, 6, some .int, { frames := 5, cells := 0, slots := 0, locals := 126 })
def k_X7_undo : mM := (yX7_undo, cX7_undo, 1, some .int, { frames := 6, cells := 0, slots := 0, locals := 151 })
def k_X7_isWithin : mM := (yX7_isWithin, cX7_isWithin, 2, some .boolean, { frames := 0, cells := 0, slots := 0, locals := 0 })
def k_X7_isSize : mM := (yX7_isSize, cX7_isSize, 1, some .boolean, { frames := 0, cells := 0, slots := 0, locals := 0 })
def k_X7_isViewSize : mM := (yX7_isViewSize, cX7_isViewSize, 1, some .boolean, { frames := 0, cells := 0, slots := 0, locals := 0 })
def k_X7_isSide : mM := (yX7_isSide, cX7_isSide, 1, some .boolean, { frames := 0, cells := 0, slots := 0, locals := 0 })
def k_X7_isAnchor : mM := (yX7_isAnchor, cX7_isAnchor, 2, some .boolean, { frames := 2, cells := 0, slots := 0, locals := 42 })
def k_X7_isHint : mM := (yX7_isHint, cX7_isHint, 2, some .boolean, { frames := 2, cells := 0, slots := 0, locals := 42 })
def k_X7_lowestValue : mM := (yX7_lowestValue, cX7_lowestValue, 1, some .int, { frames := 0, cells := 0, slots := 0, locals := 0 })
def k_X7_highestValue : mM := (yX7_highestValue, cX7_highestValue, 2, some .int, { frames := 2, cells := 0, slots := 0, locals := 42 })
def k_X7_canMoveView : mM := (yX7_canMoveView, cX7_canMoveView, 3, some .boolean, { frames := 2, cells := 0, slots := 0, locals := 42 })
def k_X7_moveView : mM := (yX7_moveView, cX7_moveView, 3, none, { frames := 2, cells := 0, slots := 0, locals := 44 })
def k_X7_openHint : mM := (yX7_openHint, cX7_openHint, 3, none, { frames := 2, cells := 0, slots := 0, locals := 45 })
def k_X7_closeHint : mM := (yX7_closeHint, cX7_closeHint, 2, none, { frames := 2, cells := 0, slots := 0, locals := 45 })
def k_X7_rememberSides : mM := (yX7_rememberSides, cX7_rememberSides, 3, some .int, { frames := 2, cells := 0, slots := 0, locals := 45 })
def k_X7_countHintsOf : mM := (yX7_countHintsOf, cX7_countHintsOf, 6, some .int, { frames := 2, cells := 0, slots := 0, locals := 43 })
def k_X7_countOpen : mM := (yX7_countOpen, cX7_countOpen, 3, some .int, { frames := 3, cells := 0, slots := 0, locals := 64 })
def k_X7_countRemembered : mM := (yX7_countRemembered, cX7_countRemembered, 3, some .int, { frames := 2, cells := 0, slots := 0, locals := 43 })
def k_X7_countCovered : mM := (yX7_countCovered, cX7_countCovered, 3, some .int, { frames := 2, cells := 0, slots := 0, locals := 43 })
def k_X7_shownValue : mM := (yX7_shownValue, cX7_shownValue, 4, some .int, { frames := 4, cells := 0, slots := 0, locals := 102 })
def k_X7_isInSightOnATry : mM := (yX7_isInSightOnATry, cX7_isInSightOnATry, 5, some .boolean, { frames := 4, cells := 0, slots := 0, locals := 102 })
def k_X7_isLevel : mM := (yX7_isLevel, cX7_isLevel, 1, some .boolean, { frames := 0, cells := 0, slots := 0, locals := 0 })
def k_X7_isBefore : mM := (yX7_isBefore, cX7_isBefore, 1, some .boolean, { frames := 0, cells := 0, slots := 0, locals := 0 })
def k_X7_edgeBy : mM := (yX7_edgeBy, cX7_edgeBy, 6, some .int, { frames := 2, cells := 0, slots := 0, locals := 43 })
def k_X7_spansMeet : mM := (yX7_spansMeet, cX7_spansMeet, 4, some .boolean, { frames := 0, cells := 0, slots := 0, locals := 0 })
def k_X7_spanLiesIn : mM := (yX7_spanLiesIn, cX7_spanLiesIn, 4, some .boolean, { frames := 0, cells := 0, slots := 0, locals := 0 })
def k_J9_floorDiv_7cf53 : mM := (yJ9_floorDiv_7cf53, cJ9_floorDiv_7cf53, 3, some .int, { frames := 0, cells := 0, slots := 0, locals := 0 })
def k_J9_max_7cf53 : mM := (yJ9_max_7cf53, cJ9_max_7cf53, 2, some .int, { frames := 0, cells := 0, slots := 0, locals := 0 })
def k_J9_min_7cf53 : mM := (yJ9_min_7cf53, cJ9_min_7cf53, 2, some .int, { frames := 0, cells := 0, slots := 0, locals := 0 })
def k_L_cell : mM := (yL_cell, cL_cell, 2, some .int, { frames := 0, cells := 0, slots := 0, locals := 0 })
def k_L_holds : mM := (yL_holds, cL_holds, 13, some .boolean, { frames := 6, cells := 0, slots := 0, locals := 148 })
theorem f_X0_14 : m_fld RX0 14 0 0 := ⟨RX0, TX0, 3, rfl, by decide, h_X0, Or.inl ⟨List.mem_of_getElem? (i := 74) (by decide +kernel), rfl⟩⟩
theorem f_X0_20 : m_fld RX0 20 0 2 := ⟨RX0, TX0, 3, rfl, by decide, h_X0, Or.inl ⟨List.mem_of_getElem? (i := 76) (by decide +kernel), rfl⟩⟩
theorem f_X0_24 : m_fld RX0 24 0 1 := ⟨RX0, TX0, 3, rfl, by decide, h_X0, Or.inl ⟨List.mem_of_getElem? (i := 75) (by decide +kernel), rfl⟩⟩
theorem f_X2_32 : m_fld RX2 32 2 2 := ⟨RX2, TX2, 6, rfl, by decide, h_X2, Or.inl ⟨List.mem_of_getElem? (i := 124) (by decide +kernel), rfl⟩⟩
theorem f_X2_43 : m_fld RX2 43 2 3 := ⟨RX2, TX2, 6, rfl, by decide, h_X2, Or.inl ⟨List.mem_of_getElem? (i := 126) (by decide +kernel), rfl⟩⟩
theorem f_X2_61 : m_fld RX2 61 2 0 := ⟨RX2, TX2, 6, rfl, by decide, h_X2, Or.inl ⟨List.mem_of_getElem? (i := 118) (by decide +kernel), rfl⟩⟩
theorem f_X2_64 : m_fld RX2 64 2 1 := ⟨RX2, TX2, 6, rfl, by decide, h_X2, Or.inl ⟨List.mem_of_getElem? (i := 121) (by decide +kernel), rfl⟩⟩
theorem f_X3_13 : m_fld RX3 13 3 0 := ⟨RX3, TX3, 1, rfl, by decide, h_X3, Or.inl ⟨List.mem_of_getElem? (i := 53) (by decide +kernel), rfl⟩⟩
theorem f_X4_14 : m_fld RX4 14 4 0 := ⟨RX4, TX4, 8, rfl, by decide, h_X4, Or.inl ⟨List.mem_of_getElem? (i := 146) (by decide +kernel), rfl⟩⟩
theorem f_X4_20 : m_fld RX4 20 4 1 := ⟨RX4, TX4, 8, rfl, by decide, h_X4, Or.inl ⟨List.mem_of_getElem? (i := 148) (by decide +kernel), rfl⟩⟩
theorem f_X4_23 : m_fld RX4 23 4 2 := ⟨RX4, TX4, 8, rfl, by decide, h_X4, Or.inl ⟨List.mem_of_getElem? (i := 150) (by decide +kernel), rfl⟩⟩
theorem f_X4_26 : m_fld RX4 26 4 3 := ⟨RX4, TX4, 8, rfl, by decide, h_X4, Or.inl ⟨List.mem_of_getElem? (i := 151) (by decide +kernel), rfl⟩⟩
theorem f_X4_29 : m_fld RX4 29 4 4 := ⟨RX4, TX4, 8, rfl, by decide, h_X4, Or.inl ⟨List.mem_of_getElem? (i := 152) (by decide +kernel), rfl⟩⟩
theorem f_X4_35 : m_fld RX4 35 4 5 := ⟨RX4, TX4, 8, rfl, by decide, h_X4, Or.inl ⟨List.mem_of_getElem? (i := 153) (by decide +kernel), rfl⟩⟩
theorem f_X4_42 : m_fld RX4 42 4 6 := ⟨RX4, TX4, 8, rfl, by decide, h_X4, Or.inl ⟨List.mem_of_getElem? (i := 154) (by decide +kernel), rfl⟩⟩
theorem f_X4_46 : m_fld RX4 46 4 7 := ⟨RX4, TX4, 8, rfl, by decide, h_X4, Or.inl ⟨List.mem_of_getElem? (i := 155) (by decide +kernel), rfl⟩⟩
theorem f_X4_90 : m_fld RX4 90 6 1 := ⟨RX6, TX6, 2, rfl, by decide, h_X6, Or.inr ⟨"HintPlacer", ⟨List.mem_of_getElem? (i := 105) (by decide +kernel), rfl⟩⟩⟩
theorem f_X4_93 : m_fld RX4 93 6 0 := ⟨RX6, TX6, 2, rfl, by decide, h_X6, Or.inr ⟨"HintPlacer", ⟨List.mem_of_getElem? (i := 102) (by decide +kernel), rfl⟩⟩⟩
theorem f_X4_98 : m_fld RX4 98 2 5 := ⟨RX2, TX2, 6, rfl, by decide, h_X2, Or.inr ⟨"HintPlacer", ⟨List.mem_of_getElem? (i := 131) (by decide +kernel), rfl⟩⟩⟩
theorem f_X4_106 : m_fld RX4 106 2 0 := ⟨RX2, TX2, 6, rfl, by decide, h_X2, Or.inr ⟨"HintPlacer", ⟨List.mem_of_getElem? (i := 119) (by decide +kernel), rfl⟩⟩⟩
theorem f_X4_109 : m_fld RX4 109 2 1 := ⟨RX2, TX2, 6, rfl, by decide, h_X2, Or.inr ⟨"HintPlacer", ⟨List.mem_of_getElem? (i := 122) (by decide +kernel), rfl⟩⟩⟩
theorem f_X5_14 : m_fld RX5 14 5 0 := ⟨RX5, TX5, 1, rfl, by decide, h_X5, Or.inl ⟨List.mem_of_getElem? (i := 62) (by decide +kernel), rfl⟩⟩
theorem f_X6_14 : m_fld RX6 14 6 0 := ⟨RX6, TX6, 2, rfl, by decide, h_X6, Or.inl ⟨List.mem_of_getElem? (i := 101) (by decide +kernel), rfl⟩⟩
theorem f_X6_20 : m_fld RX6 20 6 1 := ⟨RX6, TX6, 2, rfl, by decide, h_X6, Or.inl ⟨List.mem_of_getElem? (i := 104) (by decide +kernel), rfl⟩⟩
theorem f_X7_12 : m_fld RX7 12 7 0 := ⟨RX7, TX7, 6, rfl, by decide, h_X7, Or.inl ⟨List.mem_of_getElem? (i := 205) (by decide +kernel), rfl⟩⟩
theorem f_X7_19 : m_fld RX7 19 7 1 := ⟨RX7, TX7, 6, rfl, by decide, h_X7, Or.inl ⟨List.mem_of_getElem? (i := 206) (by decide +kernel), rfl⟩⟩
theorem f_X7_26 : m_fld RX7 26 7 2 := ⟨RX7, TX7, 6, rfl, by decide, h_X7, Or.inl ⟨List.mem_of_getElem? (i := 207) (by decide +kernel), rfl⟩⟩
theorem f_X7_33 : m_fld RX7 33 7 3 := ⟨RX7, TX7, 6, rfl, by decide, h_X7, Or.inl ⟨List.mem_of_getElem? (i := 208) (by decide +kernel), rfl⟩⟩
theorem f_X7_40 : m_fld RX7 40 7 4 := ⟨RX7, TX7, 6, rfl, by decide, h_X7, Or.inl ⟨List.mem_of_getElem? (i := 209) (by decide +kernel), rfl⟩⟩
theorem f_X7_47 : m_fld RX7 47 7 5 := ⟨RX7, TX7, 6, rfl, by decide, h_X7, Or.inl ⟨List.mem_of_getElem? (i := 210) (by decide +kernel), rfl⟩⟩
theorem f_X7_115 : m_fld RX7 115 4 7 := ⟨RX4, TX4, 8, rfl, by decide, h_X4, Or.inr ⟨"HintPlacer", ⟨List.mem_of_getElem? (i := 156) (by decide +kernel), rfl⟩⟩⟩
theorem f_X7_122 : m_fld RX7 122 0 2 := ⟨RX0, TX0, 3, rfl, by decide, h_X0, Or.inr ⟨"HintPlacer", ⟨List.mem_of_getElem? (i := 77) (by decide +kernel), rfl⟩⟩⟩
theorem f_X7_125 : m_fld RX7 125 1 1 := ⟨RX1, TX1, 8, rfl, by decide, h_X1, Or.inr ⟨"HintPlacer", ⟨List.mem_of_getElem? (i := 183) (by decide +kernel), rfl⟩⟩⟩
theorem f_X7_156 : m_fld RX7 156 4 0 := ⟨RX4, TX4, 8, rfl, by decide, h_X4, Or.inr ⟨"HintPlacer", ⟨List.mem_of_getElem? (i := 147) (by decide +kernel), rfl⟩⟩⟩
theorem f_X7_189 : m_fld RX7 189 2 5 := ⟨RX2, TX2, 6, rfl, by decide, h_X2, Or.inr ⟨"HintPlacer", ⟨List.mem_of_getElem? (i := 132) (by decide +kernel), rfl⟩⟩⟩
theorem f_X7_193 : m_fld RX7 193 2 0 := ⟨RX2, TX2, 6, rfl, by decide, h_X2, Or.inr ⟨"HintPlacer", ⟨List.mem_of_getElem? (i := 120) (by decide +kernel), rfl⟩⟩⟩
theorem f_X7_196 : m_fld RX7 196 2 1 := ⟨RX2, TX2, 6, rfl, by decide, h_X2, Or.inr ⟨"HintPlacer", ⟨List.mem_of_getElem? (i := 123) (by decide +kernel), rfl⟩⟩⟩
theorem f_X7_199 : m_fld RX7 199 2 2 := ⟨RX2, TX2, 6, rfl, by decide, h_X2, Or.inr ⟨"HintPlacer", ⟨List.mem_of_getElem? (i := 125) (by decide +kernel), rfl⟩⟩⟩
theorem f_X7_202 : m_fld RX7 202 2 3 := ⟨RX2, TX2, 6, rfl, by decide, h_X2, Or.inr ⟨"HintPlacer", ⟨List.mem_of_getElem? (i := 127) (by decide +kernel), rfl⟩⟩⟩
theorem f_X7_239 : m_fld RX7 239 4 1 := ⟨RX4, TX4, 8, rfl, by decide, h_X4, Or.inr ⟨"HintPlacer", ⟨List.mem_of_getElem? (i := 149) (by decide +kernel), rfl⟩⟩⟩
theorem f_X7_251 : m_fld RX7 251 2 4 := ⟨RX2, TX2, 6, rfl, by decide, h_X2, Or.inr ⟨"HintPlacer", ⟨List.mem_of_getElem? (i := 129) (by decide +kernel), rfl⟩⟩⟩
theorem f_X7_254 : m_fld RX7 254 6 1 := ⟨RX6, TX6, 2, rfl, by decide, h_X6, Or.inr ⟨"HintPlacer", ⟨List.mem_of_getElem? (i := 106) (by decide +kernel), rfl⟩⟩⟩
theorem f_X7_257 : m_fld RX7 257 6 0 := ⟨RX6, TX6, 2, rfl, by decide, h_X6, Or.inr ⟨"HintPlacer", ⟨List.mem_of_getElem? (i := 103) (by decide +kernel), rfl⟩⟩⟩
theorem p_X0_20 : m_fldp RX0 20 0 2 .int := ⟨RX0, TX0, 3, tyX0, rfl, by decide, h_X0, Or.inl ⟨List.mem_of_getElem? (i := 76) (by decide +kernel), rfl⟩, tyX0_ok, nmX0, rfl, rfl⟩
theorem p_X0_24 : m_fldp RX0 24 0 1 .int := ⟨RX0, TX0, 3, tyX0, rfl, by decide, h_X0, Or.inl ⟨List.mem_of_getElem? (i := 75) (by decide +kernel), rfl⟩, tyX0_ok, nmX0, rfl, rfl⟩
theorem p_X2_32 : m_fldp RX2 32 2 2 .int := ⟨RX2, TX2, 6, tyX2, rfl, by decide, h_X2, Or.inl ⟨List.mem_of_getElem? (i := 124) (by decide +kernel), rfl⟩, tyX2_ok, nmX2, rfl, rfl⟩
theorem p_X2_43 : m_fldp RX2 43 2 3 .int := ⟨RX2, TX2, 6, tyX2, rfl, by decide, h_X2, Or.inl ⟨List.mem_of_getElem? (i := 126) (by decide +kernel), rfl⟩, tyX2_ok, nmX2, rfl, rfl⟩
theorem p_X2_50 : m_fldp RX2 50 2 4 .boolean := ⟨RX2, TX2, 6, tyX2, rfl, by decide, h_X2, Or.inl ⟨List.mem_of_getElem? (i := 128) (by decide +kernel), rfl⟩, tyX2_ok, nmX2, rfl, rfl⟩
theorem p_X2_61 : m_fldp RX2 61 2 0 .int := ⟨RX2, TX2, 6, tyX2, rfl, by decide, h_X2, Or.inl ⟨List.mem_of_getElem? (i := 118) (by decide +kernel), rfl⟩, tyX2_ok, nmX2, rfl, rfl⟩
theorem p_X2_64 : m_fldp RX2 64 2 1 .int := ⟨RX2, TX2, 6, tyX2, rfl, by decide, h_X2, Or.inl ⟨List.mem_of_getElem? (i := 121) (by decide +kernel), rfl⟩, tyX2_ok, nmX2, rfl, rfl⟩
theorem p_X2_71 : m_fldp RX2 71 2 5 .boolean := ⟨RX2, TX2, 6, tyX2, rfl, by decide, h_X2, Or.inl ⟨List.mem_of_getElem? (i := 130) (by decide +kernel), rfl⟩, tyX2_ok, nmX2, rfl, rfl⟩
theorem p_X4_46 : m_fldp RX4 46 4 7 .int := ⟨RX4, TX4, 8, tyX4, rfl, by decide, h_X4, Or.inl ⟨List.mem_of_getElem? (i := 155) (by decide +kernel), rfl⟩, tyX4_ok, nmX4, rfl, rfl⟩
theorem p_X6_20 : m_fldp RX6 20 6 1 .int := ⟨RX6, TX6, 2, tyX6, rfl, by decide, h_X6, Or.inl ⟨List.mem_of_getElem? (i := 104) (by decide +kernel), rfl⟩, tyX6_ok, nmX6, rfl, rfl⟩
theorem e_X7_count : m_mev k_X7_count 1 := ⟨⟨⟨List.mem_of_getElem? (i := 421) (by decide +kernel), rfl⟩, ⟨List.mem_of_getElem? (i := 21) (by decide +kernel), rfl⟩, by decide +kernel, by decide +kernel, rfl, rfl⟩, ⟨List.mem_of_getElem? (i := 419) (by decide +kernel), rfl⟩, ⟨List.mem_of_getElem? (i := 420) (by decide +kernel), rfl⟩⟩
theorem n_L_9 : m_lk RL 9 yX7_count := Or.inl ⟨List.mem_of_getElem? (i := 418) (by decide +kernel), rfl⟩
theorem e_X7_hintOf : m_mev k_X7_hintOf 2 := ⟨⟨⟨List.mem_of_getElem? (i := 488) (by decide +kernel), rfl⟩, ⟨List.mem_of_getElem? (i := 21) (by decide +kernel), rfl⟩, by decide +kernel, by decide +kernel, rfl, rfl⟩, ⟨List.mem_of_getElem? (i := 486) (by decide +kernel), rfl⟩, ⟨List.mem_of_getElem? (i := 487) (by decide +kernel), rfl⟩⟩
theorem n_L_15 : m_lk RL 15 yX7_hintOf := Or.inl ⟨List.mem_of_getElem? (i := 485) (by decide +kernel), rfl⟩
theorem e_X7_anchorOf : m_mev k_X7_anchorOf 2 := ⟨⟨⟨List.mem_of_getElem? (i := 410) (by decide +kernel), rfl⟩, ⟨List.mem_of_getElem? (i := 21) (by decide +kernel), rfl⟩, by decide +kernel, by decide +kernel, rfl, rfl⟩, ⟨List.mem_of_getElem? (i := 408) (by decide +kernel), rfl⟩, ⟨List.mem_of_getElem? (i := 409) (by decide +kernel), rfl⟩⟩
theorem n_L_19 : m_lk RL 19 yX7_anchorOf := Or.inl ⟨List.mem_of_getElem? (i := 407) (by decide +kernel), rfl⟩
theorem e_X7_ifOn : m_mev k_X7_ifOn 3 := ⟨⟨⟨List.mem_of_getElem? (i := 527) (by decide +kernel), rfl⟩, ⟨List.mem_of_getElem? (i := 21) (by decide +kernel), rfl⟩, by decide +kernel, by decide +kernel, rfl, rfl⟩, ⟨List.mem_of_getElem? (i := 525) (by decide +kernel), rfl⟩, ⟨List.mem_of_getElem? (i := 526) (by decide +kernel), rfl⟩⟩
theorem n_L_22 : m_lk RL 22 yX7_ifOn := Or.inl ⟨List.mem_of_getElem? (i := 524) (by decide +kernel), rfl⟩
theorem e_X7_at : m_mev k_X7_at 2 := ⟨⟨⟨List.mem_of_getElem? (i := 531) (by decide +kernel), rfl⟩, ⟨List.mem_of_getElem? (i := 21) (by decide +kernel), rfl⟩, by decide +kernel, by decide +kernel, rfl, rfl⟩, ⟨List.mem_of_getElem? (i := 529) (by decide +kernel), rfl⟩, ⟨List.mem_of_getElem? (i := 530) (by decide +kernel), rfl⟩⟩
theorem n_L_26 : m_lk RL 26 yX7_at := Or.inl ⟨List.mem_of_getElem? (i := 528) (by decide +kernel), rfl⟩
theorem e_X0_beginOf : m_mev k_X0_beginOf 1 := ⟨⟨⟨List.mem_of_getElem? (i := 238) (by decide +kernel), rfl⟩, ⟨List.mem_of_getElem? (i := 25) (by decide +kernel), rfl⟩, by decide +kernel, by decide +kernel, rfl, rfl⟩, ⟨List.mem_of_getElem? (i := 237) (by decide +kernel), rfl⟩, ⟨List.mem_of_getElem? (i := 0) (by decide +kernel), rfl⟩⟩
theorem n_X0_27 : m_lk RX0 27 yX0_beginOf := Or.inl ⟨List.mem_of_getElem? (i := 235) (by decide +kernel), rfl⟩
theorem e_X5_copyTo : m_mev k_X5_copyTo 2 := ⟨⟨⟨List.mem_of_getElem? (i := 242) (by decide +kernel), rfl⟩, ⟨List.mem_of_getElem? (i := 22) (by decide +kernel), rfl⟩, by decide +kernel, by decide +kernel, rfl, rfl⟩, ⟨List.mem_of_getElem? (i := 240) (by decide +kernel), rfl⟩, ⟨List.mem_of_getElem? (i := 241) (by decide +kernel), rfl⟩⟩
theorem n_X0_31 : m_lk RX0 31 yX5_copyTo := Or.inl ⟨List.mem_of_getElem? (i := 239) (by decide +kernel), rfl⟩
theorem e_X5_copyFrom : m_mev k_X5_copyFrom 2 := ⟨⟨⟨List.mem_of_getElem? (i := 515) (by decide +kernel), rfl⟩, ⟨List.mem_of_getElem? (i := 22) (by decide +kernel), rfl⟩, by decide +kernel, by decide +kernel, rfl, rfl⟩, ⟨List.mem_of_getElem? (i := 513) (by decide +kernel), rfl⟩, ⟨List.mem_of_getElem? (i := 514) (by decide +kernel), rfl⟩⟩
theorem n_X0_37 : m_lk RX0 37 yX5_copyFrom := Or.inl ⟨List.mem_of_getElem? (i := 512) (by decide +kernel), rfl⟩
theorem e_X5_hintValue : m_mev k_X5_hintValue 2 := ⟨⟨⟨List.mem_of_getElem? (i := 271) (by decide +kernel), rfl⟩, ⟨List.mem_of_getElem? (i := 22) (by decide +kernel), rfl⟩, by decide +kernel, by decide +kernel, rfl, rfl⟩, ⟨List.mem_of_getElem? (i := 269) (by decide +kernel), rfl⟩, ⟨List.mem_of_getElem? (i := 270) (by decide +kernel), rfl⟩⟩
theorem n_X2_9 : m_lk RX2 9 yX5_hintValue := Or.inl ⟨List.mem_of_getElem? (i := 323) (by decide +kernel), rfl⟩
theorem e_X7_isLevel : m_mes k_X7_isLevel 1 := ⟨⟨⟨List.mem_of_getElem? (i := 326) (by decide +kernel), rfl⟩, ⟨List.mem_of_getElem? (i := 21) (by decide +kernel), rfl⟩, by decide +kernel, by decide +kernel, rfl, rfl⟩, ⟨List.mem_of_getElem? (i := 325) (by decide +kernel), rfl⟩⟩
theorem n_X2_15 : m_lk RX2 15 yX7_isLevel := Or.inr ⟨"HintPlacer", ⟨List.mem_of_getElem? (i := 324) (by decide +kernel), rfl⟩⟩
theorem e_X2_beginAlong : m_mes k_X2_beginAlong 3 := ⟨⟨⟨List.mem_of_getElem? (i := 329) (by decide +kernel), rfl⟩, ⟨List.mem_of_getElem? (i := 28) (by decide +kernel), rfl⟩, by decide +kernel, by decide +kernel, rfl, rfl⟩, ⟨List.mem_of_getElem? (i := 328) (by decide +kernel), rfl⟩⟩
theorem n_X2_19 : m_lk RX2 19 yX2_beginAlong := Or.inl ⟨List.mem_of_getElem? (i := 327) (by decide +kernel), rfl⟩
theorem e_X2_middleAlong : m_mes k_X2_middleAlong 3 := ⟨⟨⟨List.mem_of_getElem? (i := 336) (by decide +kernel), rfl⟩, ⟨List.mem_of_getElem? (i := 28) (by decide +kernel), rfl⟩, by decide +kernel, by decide +kernel, rfl, rfl⟩, ⟨List.mem_of_getElem? (i := 335) (by decide +kernel), rfl⟩⟩
theorem n_X2_25 : m_lk RX2 25 yX2_middleAlong := Or.inl ⟨List.mem_of_getElem? (i := 334) (by decide +kernel), rfl⟩
theorem e_X5_setting : m_mev k_X5_setting 1 := ⟨⟨⟨List.mem_of_getElem? (i := 306) (by decide +kernel), rfl⟩, ⟨List.mem_of_getElem? (i := 22) (by decide +kernel), rfl⟩, by decide +kernel, by decide +kernel, rfl, rfl⟩, ⟨List.mem_of_getElem? (i := 304) (by decide +kernel), rfl⟩, ⟨List.mem_of_getElem? (i := 305) (by decide +kernel), rfl⟩⟩
theorem n_X2_28 : m_lk RX2 28 yX5_setting := Or.inl ⟨List.mem_of_getElem? (i := 337) (by decide +kernel), rfl⟩
theorem e_X5_get : m_mev k_X5_get 1 := ⟨⟨⟨List.mem_of_getElem? (i := 262) (by decide +kernel), rfl⟩, ⟨List.mem_of_getElem? (i := 22) (by decide +kernel), rfl⟩, by decide +kernel, by decide +kernel, rfl, rfl⟩, ⟨List.mem_of_getElem? (i := 260) (by decide +kernel), rfl⟩, ⟨List.mem_of_getElem? (i := 261) (by decide +kernel), rfl⟩⟩
theorem n_X2_36 : m_lk RX2 36 yX5_get := Or.inl ⟨List.mem_of_getElem? (i := 338) (by decide +kernel), rfl⟩
theorem e_X2_shiftInto : m_mes k_X2_shiftInto 6 := ⟨⟨⟨List.mem_of_getElem? (i := 341) (by decide +kernel), rfl⟩, ⟨List.mem_of_getElem? (i := 28) (by decide +kernel), rfl⟩, by decide +kernel, by decide +kernel, rfl, rfl⟩, ⟨List.mem_of_getElem? (i := 340) (by decide +kernel), rfl⟩⟩
theorem n_X2_39 : m_lk RX2 39 yX2_shiftInto := Or.inl ⟨List.mem_of_getElem? (i := 339) (by decide +kernel), rfl⟩
theorem e_X2_isGood : m_mes k_X2_isGood 3 := ⟨⟨⟨List.mem_of_getElem? (i := 345) (by decide +kernel), rfl⟩, ⟨List.mem_of_getElem? (i := 28) (by decide +kernel), rfl⟩, by decide +kernel, by decide +kernel, rfl, rfl⟩, ⟨List.mem_of_getElem? (i := 344) (by decide +kernel), rfl⟩⟩
theorem n_X2_46 : m_lk RX2 46 yX2_isGood := Or.inl ⟨List.mem_of_getElem? (i := 343) (by decide +kernel), rfl⟩
theorem e_X7_edgeBy : m_mes k_X7_edgeBy 3 := ⟨⟨⟨List.mem_of_getElem? (i := 351) (by decide +kernel), rfl⟩, ⟨List.mem_of_getElem? (i := 21) (by decide +kernel), rfl⟩, by decide +kernel, by decide +kernel, rfl, rfl⟩, ⟨List.mem_of_getElem? (i := 350) (by decide +kernel), rfl⟩⟩
theorem n_X2_54 : m_lk RX2 54 yX7_edgeBy := Or.inr ⟨"HintPlacer", ⟨List.mem_of_getElem? (i := 349) (by decide +kernel), rfl⟩⟩
theorem e_X7_isBefore : m_mes k_X7_isBefore 1 := ⟨⟨⟨List.mem_of_getElem? (i := 357) (by decide +kernel), rfl⟩, ⟨List.mem_of_getElem? (i := 21) (by decide +kernel), rfl⟩, by decide +kernel, by decide +kernel, rfl, rfl⟩, ⟨List.mem_of_getElem? (i := 356) (by decide +kernel), rfl⟩⟩
theorem n_X2_58 : m_lk RX2 58 yX7_isBefore := Or.inr ⟨"HintPlacer", ⟨List.mem_of_getElem? (i := 358) (by decide +kernel), rfl⟩⟩
theorem e_X7_spanLiesIn : m_mes k_X7_spanLiesIn 4 := ⟨⟨⟨List.mem_of_getElem? (i := 361) (by decide +kernel), rfl⟩, ⟨List.mem_of_getElem? (i := 21) (by decide +kernel), rfl⟩, by decide +kernel, by decide +kernel, rfl, rfl⟩, ⟨List.mem_of_getElem? (i := 360) (by decide +kernel), rfl⟩⟩
theorem n_X2_67 : m_lk RX2 67 yX7_spanLiesIn := Or.inr ⟨"HintPlacer", ⟨List.mem_of_getElem? (i := 359) (by decide +kernel), rfl⟩⟩
theorem e_X5_anchorValue : m_mev k_X5_anchorValue 2 := ⟨⟨⟨List.mem_of_getElem? (i := 299) (by decide +kernel), rfl⟩, ⟨List.mem_of_getElem? (i := 22) (by decide +kernel), rfl⟩, by decide +kernel, by decide +kernel, rfl, rfl⟩, ⟨List.mem_of_getElem? (i := 297) (by decide +kernel), rfl⟩, ⟨List.mem_of_getElem? (i := 298) (by decide +kernel), rfl⟩⟩
theorem n_X2_74 : m_lk RX2 74 yX5_anchorValue := Or.inl ⟨List.mem_of_getElem? (i := 330) (by decide +kernel), rfl⟩
theorem e_J9_floorDiv_7cf53 : m_mes k_J9_floorDiv_7cf53 2 := ⟨⟨⟨List.mem_of_getElem? (i := 333) (by decide +kernel), rfl⟩, ⟨List.mem_of_getElem? (i := 24) (by decide +kernel), rfl⟩, by decide +kernel, by decide +kernel, rfl, rfl⟩, ⟨List.mem_of_getElem? (i := 332) (by decide +kernel), rfl⟩⟩
theorem n_X2_77 : m_lk RX2 77 yJ9_floorDiv_7cf53 := Or.inl ⟨List.mem_of_getElem? (i := 331) (by decide +kernel), rfl⟩
theorem e_J9_max_7cf53 : m_mes k_J9_max_7cf53 2 := ⟨⟨⟨List.mem_of_getElem? (i := 52) (by decide +kernel), rfl⟩, ⟨List.mem_of_getElem? (i := 24) (by decide +kernel), rfl⟩, by decide +kernel, by decide +kernel, rfl, rfl⟩, ⟨List.mem_of_getElem? (i := 51) (by decide +kernel), rfl⟩⟩
theorem n_X2_82 : m_lk RX2 82 yJ9_max_7cf53 := Or.inl ⟨List.mem_of_getElem? (i := 342) (by decide +kernel), rfl⟩
theorem e_J9_min_7cf53 : m_mes k_J9_min_7cf53 2 := ⟨⟨⟨List.mem_of_getElem? (i := 348) (by decide +kernel), rfl⟩, ⟨List.mem_of_getElem? (i := 24) (by decide +kernel), rfl⟩, by decide +kernel, by decide +kernel, rfl, rfl⟩, ⟨List.mem_of_getElem? (i := 347) (by decide +kernel), rfl⟩⟩
theorem n_X2_85 : m_lk RX2 85 yJ9_min_7cf53 := Or.inl ⟨List.mem_of_getElem? (i := 346) (by decide +kernel), rfl⟩
theorem n_X3_7 : m_lk RX3 7 yJ9_max_7cf53 := Or.inl ⟨List.mem_of_getElem? (i := 50) (by decide +kernel), rfl⟩
theorem e_X4_orderOpenHints : m_mev k_X4_orderOpenHints 1 := ⟨⟨⟨List.mem_of_getElem? (i := 258) (by decide +kernel), rfl⟩, ⟨List.mem_of_getElem? (i := 26) (by decide +kernel), rfl⟩, by decide +kernel, by decide +kernel, rfl, rfl⟩, ⟨List.mem_of_getElem? (i := 257) (by decide +kernel), rfl⟩, ⟨List.mem_of_getElem? (i := 1) (by decide +kernel), rfl⟩⟩
theorem n_X4_50 : m_lk RX4 50 yX4_orderOpenHints := Or.inl ⟨List.mem_of_getElem? (i := 255) (by decide +kernel), rfl⟩
theorem e_X3_get : m_mev k_X3_get 1 := ⟨⟨⟨List.mem_of_getElem? (i := 246) (by decide +kernel), rfl⟩, ⟨List.mem_of_getElem? (i := 23) (by decide +kernel), rfl⟩, by decide +kernel, by decide +kernel, rfl, rfl⟩, ⟨List.mem_of_getElem? (i := 244) (by decide +kernel), rfl⟩, ⟨List.mem_of_getElem? (i := 245) (by decide +kernel), rfl⟩⟩
theorem n_X4_54 : m_lk RX4 54 yX3_get := Or.inl ⟨List.mem_of_getElem? (i := 282) (by decide +kernel), rfl⟩
theorem e_X4_tryToShow : m_mev k_X4_tryToShow 2 := ⟨⟨⟨List.mem_of_getElem? (i := 286) (by decide +kernel), rfl⟩, ⟨List.mem_of_getElem? (i := 26) (by decide +kernel), rfl⟩, by decide +kernel, by decide +kernel, rfl, rfl⟩, ⟨List.mem_of_getElem? (i := 285) (by decide +kernel), rfl⟩, ⟨List.mem_of_getElem? (i := 3) (by decide +kernel), rfl⟩⟩
theorem n_X4_58 : m_lk RX4 58 yX4_tryToShow := Or.inl ⟨List.mem_of_getElem? (i := 283) (by decide +kernel), rfl⟩
theorem e_X3_put : m_mev k_X3_put 2 := ⟨⟨⟨List.mem_of_getElem? (i := 61) (by decide +kernel), rfl⟩, ⟨List.mem_of_getElem? (i := 23) (by decide +kernel), rfl⟩, by decide +kernel, by decide +kernel, rfl, rfl⟩, ⟨List.mem_of_getElem? (i := 59) (by decide +kernel), rfl⟩, ⟨List.mem_of_getElem? (i := 60) (by decide +kernel), rfl⟩⟩
theorem n_X4_62 : m_lk RX4 62 yX3_put := Or.inl ⟨List.mem_of_getElem? (i := 263) (by decide +kernel), rfl⟩
theorem n_X4_66 : m_lk RX4 66 yX5_get := Or.inl ⟨List.mem_of_getElem? (i := 259) (by decide +kernel), rfl⟩
theorem e_X5_isOpen : m_mev k_X5_isOpen 1 := ⟨⟨⟨List.mem_of_getElem? (i := 267) (by decide +kernel), rfl⟩, ⟨List.mem_of_getElem? (i := 22) (by decide +kernel), rfl⟩, by decide +kernel, by decide +kernel, rfl, rfl⟩, ⟨List.mem_of_getElem? (i := 265) (by decide +kernel), rfl⟩, ⟨List.mem_of_getElem? (i := 266) (by decide +kernel), rfl⟩⟩
theorem n_X4_69 : m_lk RX4 69 yX5_isOpen := Or.inl ⟨List.mem_of_getElem? (i := 264) (by decide +kernel), rfl⟩
theorem e_X5_turn : m_mev k_X5_turn 1 := ⟨⟨⟨List.mem_of_getElem? (i := 275) (by decide +kernel), rfl⟩, ⟨List.mem_of_getElem? (i := 22) (by decide +kernel), rfl⟩, by decide +kernel, by decide +kernel, rfl, rfl⟩, ⟨List.mem_of_getElem? (i := 273) (by decide +kernel), rfl⟩, ⟨List.mem_of_getElem? (i := 274) (by decide +kernel), rfl⟩⟩
theorem n_X4_73 : m_lk RX4 73 yX5_turn := Or.inl ⟨List.mem_of_getElem? (i := 272) (by decide +kernel), rfl⟩
theorem n_X4_76 : m_lk RX4 76 yX5_hintValue := Or.inl ⟨List.mem_of_getElem? (i := 287) (by decide +kernel), rfl⟩
theorem e_X5_isAnchorInSight : m_mev k_X5_isAnchorInSight 1 := ⟨⟨⟨List.mem_of_getElem? (i := 291) (by decide +kernel), rfl⟩, ⟨List.mem_of_getElem? (i := 22) (by decide +kernel), rfl⟩, by decide +kernel, by decide +kernel, rfl, rfl⟩, ⟨List.mem_of_getElem? (i := 289) (by decide +kernel), rfl⟩, ⟨List.mem_of_getElem? (i := 290) (by decide +kernel), rfl⟩⟩
theorem n_X4_80 : m_lk RX4 80 yX5_isAnchorInSight := Or.inl ⟨List.mem_of_getElem? (i := 288) (by decide +kernel), rfl⟩
theorem n_X4_83 : m_lk RX4 83 yX5_setting := Or.inl ⟨List.mem_of_getElem? (i := 303) (by decide +kernel), rfl⟩
theorem e_X6_list : m_mev k_X6_list 2 := ⟨⟨⟨List.mem_of_getElem? (i := 310) (by decide +kernel), rfl⟩, ⟨List.mem_of_getElem? (i := 27) (by decide +kernel), rfl⟩, by decide +kernel, by decide +kernel, rfl, rfl⟩, ⟨List.mem_of_getElem? (i := 308) (by decide +kernel), rfl⟩, ⟨List.mem_of_getElem? (i := 309) (by decide +kernel), rfl⟩⟩
theorem n_X4_86 : m_lk RX4 86 yX6_list := Or.inl ⟨List.mem_of_getElem? (i := 307) (by decide +kernel), rfl⟩
theorem e_X2_find : m_mev k_X2_find 5 := ⟨⟨⟨List.mem_of_getElem? (i := 322) (by decide +kernel), rfl⟩, ⟨List.mem_of_getElem? (i := 28) (by decide +kernel), rfl⟩, by decide +kernel, by decide +kernel, rfl, rfl⟩, ⟨List.mem_of_getElem? (i := 320) (by decide +kernel), rfl⟩, ⟨List.mem_of_getElem? (i := 321) (by decide +kernel), rfl⟩⟩
theorem n_X4_94 : m_lk RX4 94 yX2_find := Or.inl ⟨List.mem_of_getElem? (i := 319) (by decide +kernel), rfl⟩
theorem e_X4_isFree : m_mev k_X4_isFree 2 := ⟨⟨⟨List.mem_of_getElem? (i := 365) (by decide +kernel), rfl⟩, ⟨List.mem_of_getElem? (i := 26) (by decide +kernel), rfl⟩, by decide +kernel, by decide +kernel, rfl, rfl⟩, ⟨List.mem_of_getElem? (i := 364) (by decide +kernel), rfl⟩, ⟨List.mem_of_getElem? (i := 5) (by decide +kernel), rfl⟩⟩
theorem n_X4_102 : m_lk RX4 102 yX4_isFree := Or.inl ⟨List.mem_of_getElem? (i := 362) (by decide +kernel), rfl⟩
theorem e_X4_shownThatMeets : m_mev k_X4_shownThatMeets 5 := ⟨⟨⟨List.mem_of_getElem? (i := 369) (by decide +kernel), rfl⟩, ⟨List.mem_of_getElem? (i := 26) (by decide +kernel), rfl⟩, by decide +kernel, by decide +kernel, rfl, rfl⟩, ⟨List.mem_of_getElem? (i := 367) (by decide +kernel), rfl⟩, ⟨List.mem_of_getElem? (i := 368) (by decide +kernel), rfl⟩⟩
theorem n_X4_112 : m_lk RX4 112 yX4_shownThatMeets := Or.inl ⟨List.mem_of_getElem? (i := 366) (by decide +kernel), rfl⟩
theorem e_X5_anchorMeets : m_mev k_X5_anchorMeets 5 := ⟨⟨⟨List.mem_of_getElem? (i := 295) (by decide +kernel), rfl⟩, ⟨List.mem_of_getElem? (i := 22) (by decide +kernel), rfl⟩, by decide +kernel, by decide +kernel, rfl, rfl⟩, ⟨List.mem_of_getElem? (i := 293) (by decide +kernel), rfl⟩, ⟨List.mem_of_getElem? (i := 294) (by decide +kernel), rfl⟩⟩
theorem n_X4_116 : m_lk RX4 116 yX5_anchorMeets := Or.inl ⟨List.mem_of_getElem? (i := 371) (by decide +kernel), rfl⟩
theorem e_X7_spansMeet : m_mes k_X7_spansMeet 4 := ⟨⟨⟨List.mem_of_getElem? (i := 302) (by decide +kernel), rfl⟩, ⟨List.mem_of_getElem? (i := 21) (by decide +kernel), rfl⟩, by decide +kernel, by decide +kernel, rfl, rfl⟩, ⟨List.mem_of_getElem? (i := 301) (by decide +kernel), rfl⟩⟩
theorem n_X4_120 : m_lk RX4 120 yX7_spansMeet := Or.inr ⟨"HintPlacer", ⟨List.mem_of_getElem? (i := 370) (by decide +kernel), rfl⟩⟩
theorem n_X5_20 : m_lk RX5 20 yX3_put := Or.inl ⟨List.mem_of_getElem? (i := 58) (by decide +kernel), rfl⟩
theorem n_X5_24 : m_lk RX5 24 yX3_get := Or.inl ⟨List.mem_of_getElem? (i := 243) (by decide +kernel), rfl⟩
theorem n_X5_28 : m_lk RX5 28 yX5_hintValue := Or.inl ⟨List.mem_of_getElem? (i := 268) (by decide +kernel), rfl⟩
theorem n_X5_32 : m_lk RX5 32 yX5_get := Or.inl ⟨List.mem_of_getElem? (i := 276) (by decide +kernel), rfl⟩
theorem n_X5_33 : m_lk RX5 33 yX5_anchorMeets := Or.inl ⟨List.mem_of_getElem? (i := 292) (by decide +kernel), rfl⟩
theorem n_X5_37 : m_lk RX5 37 yX5_anchorValue := Or.inl ⟨List.mem_of_getElem? (i := 296) (by decide +kernel), rfl⟩
theorem n_X5_40 : m_lk RX5 40 yX7_spansMeet := Or.inr ⟨"HintPlacer", ⟨List.mem_of_getElem? (i := 300) (by decide +kernel), rfl⟩⟩
theorem n_X5_44 : m_lk RX5 44 yX5_isOpen := Or.inl ⟨List.mem_of_getElem? (i := 277) (by decide +kernel), rfl⟩
theorem e_X5_goesBefore : m_mev k_X5_goesBefore 2 := ⟨⟨⟨List.mem_of_getElem? (i := 281) (by decide +kernel), rfl⟩, ⟨List.mem_of_getElem? (i := 22) (by decide +kernel), rfl⟩, by decide +kernel, by decide +kernel, rfl, rfl⟩, ⟨List.mem_of_getElem? (i := 280) (by decide +kernel), rfl⟩, ⟨List.mem_of_getElem? (i := 2) (by decide +kernel), rfl⟩⟩
theorem n_X5_48 : m_lk RX5 48 yX5_goesBefore := Or.inl ⟨List.mem_of_getElem? (i := 278) (by decide +kernel), rfl⟩
theorem n_X6_24 : m_lk RX6 24 yX5_hintValue := Or.inl ⟨List.mem_of_getElem? (i := 311) (by decide +kernel), rfl⟩
theorem n_X6_30 : m_lk RX6 30 yX5_setting := Or.inl ⟨List.mem_of_getElem? (i := 312) (by decide +kernel), rfl⟩
theorem e_X6_add : m_mev k_X6_add 1 := ⟨⟨⟨List.mem_of_getElem? (i := 316) (by decide +kernel), rfl⟩, ⟨List.mem_of_getElem? (i := 27) (by decide +kernel), rfl⟩, by decide +kernel, by decide +kernel, rfl, rfl⟩, ⟨List.mem_of_getElem? (i := 315) (by decide +kernel), rfl⟩, ⟨List.mem_of_getElem? (i := 4) (by decide +kernel), rfl⟩⟩
theorem n_X6_34 : m_lk RX6 34 yX6_add := Or.inl ⟨List.mem_of_getElem? (i := 313) (by decide +kernel), rfl⟩
theorem n_X6_37 : m_lk RX6 37 yX3_get := Or.inl ⟨List.mem_of_getElem? (i := 317) (by decide +kernel), rfl⟩
theorem n_X6_40 : m_lk RX6 40 yX3_put := Or.inl ⟨List.mem_of_getElem? (i := 318) (by decide +kernel), rfl⟩
theorem e_X7_isViewSize : m_mes k_X7_isViewSize 1 := ⟨⟨⟨List.mem_of_getElem? (i := 230) (by decide +kernel), rfl⟩, ⟨List.mem_of_getElem? (i := 21) (by decide +kernel), rfl⟩, by decide +kernel, by decide +kernel, rfl, rfl⟩, ⟨List.mem_of_getElem? (i := 229) (by decide +kernel), rfl⟩⟩
theorem n_X7_51 : m_lk RX7 51 yX7_isViewSize := Or.inl ⟨List.mem_of_getElem? (i := 228) (by decide +kernel), rfl⟩
theorem e_X0_keep : m_mev k_X0_keep 1 := ⟨⟨⟨List.mem_of_getElem? (i := 234) (by decide +kernel), rfl⟩, ⟨List.mem_of_getElem? (i := 25) (by decide +kernel), rfl⟩, by decide +kernel, by decide +kernel, rfl, rfl⟩, ⟨List.mem_of_getElem? (i := 232) (by decide +kernel), rfl⟩, ⟨List.mem_of_getElem? (i := 233) (by decide +kernel), rfl⟩⟩
theorem n_X7_55 : m_lk RX7 55 yX0_keep := Or.inl ⟨List.mem_of_getElem? (i := 231) (by decide +kernel), rfl⟩
theorem e_X5_put : m_mev k_X5_put 2 := ⟨⟨⟨List.mem_of_getElem? (i := 250) (by decide +kernel), rfl⟩, ⟨List.mem_of_getElem? (i := 22) (by decide +kernel), rfl⟩, by decide +kernel, by decide +kernel, rfl, rfl⟩, ⟨List.mem_of_getElem? (i := 248) (by decide +kernel), rfl⟩, ⟨List.mem_of_getElem? (i := 249) (by decide +kernel), rfl⟩⟩
theorem n_X7_59 : m_lk RX7 59 yX5_put := Or.inl ⟨List.mem_of_getElem? (i := 247) (by decide +kernel), rfl⟩
theorem e_X4_arrange : m_mev k_X4_arrange 1 := ⟨⟨⟨List.mem_of_getElem? (i := 254) (by decide +kernel), rfl⟩, ⟨List.mem_of_getElem? (i := 26) (by decide +kernel), rfl⟩, by decide +kernel, by decide +kernel, rfl, rfl⟩, ⟨List.mem_of_getElem? (i := 252) (by decide +kernel), rfl⟩, ⟨List.mem_of_getElem? (i := 253) (by decide +kernel), rfl⟩⟩
theorem n_X7_63 : m_lk RX7 63 yX4_arrange := Or.inl ⟨List.mem_of_getElem? (i := 251) (by decide +kernel), rfl⟩
theorem e_X7_isWithin : m_mes k_X7_isWithin 2 := ⟨⟨⟨List.mem_of_getElem? (i := 378) (by decide +kernel), rfl⟩, ⟨List.mem_of_getElem? (i := 21) (by decide +kernel), rfl⟩, by decide +kernel, by decide +kernel, rfl, rfl⟩, ⟨List.mem_of_getElem? (i := 377) (by decide +kernel), rfl⟩⟩
theorem n_X7_67 : m_lk RX7 67 yX7_isWithin := Or.inl ⟨List.mem_of_getElem? (i := 376) (by decide +kernel), rfl⟩
theorem e_X7_canMoveView : m_mev k_X7_canMoveView 2 := ⟨⟨⟨List.mem_of_getElem? (i := 382) (by decide +kernel), rfl⟩, ⟨List.mem_of_getElem? (i := 21) (by decide +kernel), rfl⟩, by decide +kernel, by decide +kernel, rfl, rfl⟩, ⟨List.mem_of_getElem? (i := 381) (by decide +kernel), rfl⟩, ⟨List.mem_of_getElem? (i := 6) (by decide +kernel), rfl⟩⟩
theorem n_X7_71 : m_lk RX7 71 yX7_canMoveView := Or.inl ⟨List.mem_of_getElem? (i := 379) (by decide +kernel), rfl⟩
theorem e_X7_moveView : m_mev k_X7_moveView 2 := ⟨⟨⟨List.mem_of_getElem? (i := 387) (by decide +kernel), rfl⟩, ⟨List.mem_of_getElem? (i := 21) (by decide +kernel), rfl⟩, by decide +kernel, by decide +kernel, rfl, rfl⟩, ⟨List.mem_of_getElem? (i := 386) (by decide +kernel), rfl⟩, ⟨List.mem_of_getElem? (i := 7) (by decide +kernel), rfl⟩⟩
theorem n_X7_74 : m_lk RX7 74 yX7_moveView := Or.inl ⟨List.mem_of_getElem? (i := 384) (by decide +kernel), rfl⟩
theorem e_X7_isSize : m_mes k_X7_isSize 1 := ⟨⟨⟨List.mem_of_getElem? (i := 394) (by decide +kernel), rfl⟩, ⟨List.mem_of_getElem? (i := 21) (by decide +kernel), rfl⟩, by decide +kernel, by decide +kernel, rfl, rfl⟩, ⟨List.mem_of_getElem? (i := 393) (by decide +kernel), rfl⟩⟩
theorem n_X7_77 : m_lk RX7 77 yX7_isSize := Or.inl ⟨List.mem_of_getElem? (i := 392) (by decide +kernel), rfl⟩
theorem n_X7_80 : m_lk RX7 80 yX5_get := Or.inl ⟨List.mem_of_getElem? (i := 383) (by decide +kernel), rfl⟩
theorem e_X5_putAnchorValue : m_mev k_X5_putAnchorValue 3 := ⟨⟨⟨List.mem_of_getElem? (i := 398) (by decide +kernel), rfl⟩, ⟨List.mem_of_getElem? (i := 22) (by decide +kernel), rfl⟩, by decide +kernel, by decide +kernel, rfl, rfl⟩, ⟨List.mem_of_getElem? (i := 396) (by decide +kernel), rfl⟩, ⟨List.mem_of_getElem? (i := 397) (by decide +kernel), rfl⟩⟩
theorem n_X7_84 : m_lk RX7 84 yX5_putAnchorValue := Or.inl ⟨List.mem_of_getElem? (i := 395) (by decide +kernel), rfl⟩
theorem e_X7_isAnchor : m_mev k_X7_isAnchor 1 := ⟨⟨⟨List.mem_of_getElem? (i := 406) (by decide +kernel), rfl⟩, ⟨List.mem_of_getElem? (i := 21) (by decide +kernel), rfl⟩, by decide +kernel, by decide +kernel, rfl, rfl⟩, ⟨List.mem_of_getElem? (i := 405) (by decide +kernel), rfl⟩, ⟨List.mem_of_getElem? (i := 8) (by decide +kernel), rfl⟩⟩
theorem n_X7_88 : m_lk RX7 88 yX7_isAnchor := Or.inl ⟨List.mem_of_getElem? (i := 403) (by decide +kernel), rfl⟩
theorem n_X7_91 : m_lk RX7 91 yX5_anchorValue := Or.inl ⟨List.mem_of_getElem? (i := 353) (by decide +kernel), rfl⟩
theorem n_X7_95 : m_lk RX7 95 yX5_isAnchorInSight := Or.inl ⟨List.mem_of_getElem? (i := 411) (by decide +kernel), rfl⟩
theorem e_X7_countHintsOf : m_mev k_X7_countHintsOf 2 := ⟨⟨⟨List.mem_of_getElem? (i := 415) (by decide +kernel), rfl⟩, ⟨List.mem_of_getElem? (i := 21) (by decide +kernel), rfl⟩, by decide +kernel, by decide +kernel, rfl, rfl⟩, ⟨List.mem_of_getElem? (i := 414) (by decide +kernel), rfl⟩, ⟨List.mem_of_getElem? (i := 9) (by decide +kernel), rfl⟩⟩
theorem n_X7_98 : m_lk RX7 98 yX7_countHintsOf := Or.inl ⟨List.mem_of_getElem? (i := 412) (by decide +kernel), rfl⟩
theorem n_X7_108 : m_lk RX7 108 yX5_setting := Or.inl ⟨List.mem_of_getElem? (i := 354) (by decide +kernel), rfl⟩
theorem e_X7_countOpen : m_mev k_X7_countOpen 0 := ⟨⟨⟨List.mem_of_getElem? (i := 425) (by decide +kernel), rfl⟩, ⟨List.mem_of_getElem? (i := 21) (by decide +kernel), rfl⟩, by decide +kernel, by decide +kernel, rfl, rfl⟩, ⟨List.mem_of_getElem? (i := 424) (by decide +kernel), rfl⟩, ⟨List.mem_of_getElem? (i := 10) (by decide +kernel), rfl⟩⟩
theorem n_X7_111 : m_lk RX7 111 yX7_countOpen := Or.inl ⟨List.mem_of_getElem? (i := 422) (by decide +kernel), rfl⟩
theorem e_X7_countRemembered : m_mev k_X7_countRemembered 0 := ⟨⟨⟨List.mem_of_getElem? (i := 430) (by decide +kernel), rfl⟩, ⟨List.mem_of_getElem? (i := 21) (by decide +kernel), rfl⟩, by decide +kernel, by decide +kernel, rfl, rfl⟩, ⟨List.mem_of_getElem? (i := 429) (by decide +kernel), rfl⟩, ⟨List.mem_of_getElem? (i := 11) (by decide +kernel), rfl⟩⟩
theorem n_X7_119 : m_lk RX7 119 yX7_countRemembered := Or.inl ⟨List.mem_of_getElem? (i := 427) (by decide +kernel), rfl⟩
theorem e_X7_countCovered : m_mev k_X7_countCovered 0 := ⟨⟨⟨List.mem_of_getElem? (i := 434) (by decide +kernel), rfl⟩, ⟨List.mem_of_getElem? (i := 21) (by decide +kernel), rfl⟩, by decide +kernel, by decide +kernel, rfl, rfl⟩, ⟨List.mem_of_getElem? (i := 433) (by decide +kernel), rfl⟩, ⟨List.mem_of_getElem? (i := 12) (by decide +kernel), rfl⟩⟩
theorem n_X7_128 : m_lk RX7 128 yX7_countCovered := Or.inl ⟨List.mem_of_getElem? (i := 431) (by decide +kernel), rfl⟩
theorem e_X7_isSide : m_mes k_X7_isSide 1 := ⟨⟨⟨List.mem_of_getElem? (i := 441) (by decide +kernel), rfl⟩, ⟨List.mem_of_getElem? (i := 21) (by decide +kernel), rfl⟩, by decide +kernel, by decide +kernel, rfl, rfl⟩, ⟨List.mem_of_getElem? (i := 440) (by decide +kernel), rfl⟩⟩
theorem n_X7_131 : m_lk RX7 131 yX7_isSide := Or.inl ⟨List.mem_of_getElem? (i := 439) (by decide +kernel), rfl⟩
theorem e_X7_highestValue : m_mev k_X7_highestValue 1 := ⟨⟨⟨List.mem_of_getElem? (i := 445) (by decide +kernel), rfl⟩, ⟨List.mem_of_getElem? (i := 21) (by decide +kernel), rfl⟩, by decide +kernel, by decide +kernel, rfl, rfl⟩, ⟨List.mem_of_getElem? (i := 444) (by decide +kernel), rfl⟩, ⟨List.mem_of_getElem? (i := 13) (by decide +kernel), rfl⟩⟩
theorem n_X7_134 : m_lk RX7 134 yX7_highestValue := Or.inl ⟨List.mem_of_getElem? (i := 442) (by decide +kernel), rfl⟩
theorem e_X5_putHintValue : m_mev k_X5_putHintValue 3 := ⟨⟨⟨List.mem_of_getElem? (i := 449) (by decide +kernel), rfl⟩, ⟨List.mem_of_getElem? (i := 22) (by decide +kernel), rfl⟩, by decide +kernel, by decide +kernel, rfl, rfl⟩, ⟨List.mem_of_getElem? (i := 447) (by decide +kernel), rfl⟩, ⟨List.mem_of_getElem? (i := 448) (by decide +kernel), rfl⟩⟩
theorem n_X7_137 : m_lk RX7 137 yX5_putHintValue := Or.inl ⟨List.mem_of_getElem? (i := 446) (by decide +kernel), rfl⟩
theorem e_X7_isHint : m_mev k_X7_isHint 1 := ⟨⟨⟨List.mem_of_getElem? (i := 457) (by decide +kernel), rfl⟩, ⟨List.mem_of_getElem? (i := 21) (by decide +kernel), rfl⟩, by decide +kernel, by decide +kernel, rfl, rfl⟩, ⟨List.mem_of_getElem? (i := 456) (by decide +kernel), rfl⟩, ⟨List.mem_of_getElem? (i := 14) (by decide +kernel), rfl⟩⟩
theorem n_X7_140 : m_lk RX7 140 yX7_isHint := Or.inl ⟨List.mem_of_getElem? (i := 454) (by decide +kernel), rfl⟩
theorem e_X7_lowestValue : m_mes k_X7_lowestValue 1 := ⟨⟨⟨List.mem_of_getElem? (i := 460) (by decide +kernel), rfl⟩, ⟨List.mem_of_getElem? (i := 21) (by decide +kernel), rfl⟩, by decide +kernel, by decide +kernel, rfl, rfl⟩, ⟨List.mem_of_getElem? (i := 459) (by decide +kernel), rfl⟩⟩
theorem n_X7_143 : m_lk RX7 143 yX7_lowestValue := Or.inl ⟨List.mem_of_getElem? (i := 458) (by decide +kernel), rfl⟩
theorem n_X7_146 : m_lk RX7 146 yX5_hintValue := Or.inl ⟨List.mem_of_getElem? (i := 417) (by decide +kernel), rfl⟩
theorem n_X7_149 : m_lk RX7 149 yX5_isOpen := Or.inl ⟨List.mem_of_getElem? (i := 426) (by decide +kernel), rfl⟩
theorem e_X7_openHint : m_mev k_X7_openHint 1 := ⟨⟨⟨List.mem_of_getElem? (i := 468) (by decide +kernel), rfl⟩, ⟨List.mem_of_getElem? (i := 21) (by decide +kernel), rfl⟩, by decide +kernel, by decide +kernel, rfl, rfl⟩, ⟨List.mem_of_getElem? (i := 467) (by decide +kernel), rfl⟩, ⟨List.mem_of_getElem? (i := 15) (by decide +kernel), rfl⟩⟩
theorem n_X7_152 : m_lk RX7 152 yX7_openHint := Or.inl ⟨List.mem_of_getElem? (i := 465) (by decide +kernel), rfl⟩
theorem n_X7_160 : m_lk RX7 160 yX3_get := Or.inl ⟨List.mem_of_getElem? (i := 416) (by decide +kernel), rfl⟩
theorem e_X7_closeHint : m_mev k_X7_closeHint 1 := ⟨⟨⟨List.mem_of_getElem? (i := 476) (by decide +kernel), rfl⟩, ⟨List.mem_of_getElem? (i := 21) (by decide +kernel), rfl⟩, by decide +kernel, by decide +kernel, rfl, rfl⟩, ⟨List.mem_of_getElem? (i := 475) (by decide +kernel), rfl⟩, ⟨List.mem_of_getElem? (i := 16) (by decide +kernel), rfl⟩⟩
theorem n_X7_163 : m_lk RX7 163 yX7_closeHint := Or.inl ⟨List.mem_of_getElem? (i := 473) (by decide +kernel), rfl⟩
theorem e_X7_rememberSides : m_mev k_X7_rememberSides 0 := ⟨⟨⟨List.mem_of_getElem? (i := 484) (by decide +kernel), rfl⟩, ⟨List.mem_of_getElem? (i := 21) (by decide +kernel), rfl⟩, by decide +kernel, by decide +kernel, rfl, rfl⟩, ⟨List.mem_of_getElem? (i := 483) (by decide +kernel), rfl⟩, ⟨List.mem_of_getElem? (i := 17) (by decide +kernel), rfl⟩⟩
theorem n_X7_166 : m_lk RX7 166 yX7_rememberSides := Or.inl ⟨List.mem_of_getElem? (i := 481) (by decide +kernel), rfl⟩
theorem n_X7_169 : m_lk RX7 169 yX5_turn := Or.inl ⟨List.mem_of_getElem? (i := 489) (by decide +kernel), rfl⟩
theorem e_X7_shownValue : m_mev k_X7_shownValue 2 := ⟨⟨⟨List.mem_of_getElem? (i := 493) (by decide +kernel), rfl⟩, ⟨List.mem_of_getElem? (i := 21) (by decide +kernel), rfl⟩, by decide +kernel, by decide +kernel, rfl, rfl⟩, ⟨List.mem_of_getElem? (i := 492) (by decide +kernel), rfl⟩, ⟨List.mem_of_getElem? (i := 18) (by decide +kernel), rfl⟩⟩
theorem n_X7_172 : m_lk RX7 172 yX7_shownValue := Or.inl ⟨List.mem_of_getElem? (i := 490) (by decide +kernel), rfl⟩
theorem n_X7_175 : m_lk RX7 175 yX7_isLevel := Or.inl ⟨List.mem_of_getElem? (i := 352) (by decide +kernel), rfl⟩
theorem n_X7_182 : m_lk RX7 182 yX7_isBefore := Or.inl ⟨List.mem_of_getElem? (i := 355) (by decide +kernel), rfl⟩
theorem n_X7_185 : m_lk RX7 185 yX2_find := Or.inl ⟨List.mem_of_getElem? (i := 494) (by decide +kernel), rfl⟩
theorem n_X7_205 : m_lk RX7 205 yX4_shownThatMeets := Or.inl ⟨List.mem_of_getElem? (i := 532) (by decide +kernel), rfl⟩
theorem n_X7_209 : m_lk RX7 209 yX6_list := Or.inl ⟨List.mem_of_getElem? (i := 499) (by decide +kernel), rfl⟩
theorem e_X7_isInSightOnATry : m_mev k_X7_isInSightOnATry 3 := ⟨⟨⟨List.mem_of_getElem? (i := 503) (by decide +kernel), rfl⟩, ⟨List.mem_of_getElem? (i := 21) (by decide +kernel), rfl⟩, by decide +kernel, by decide +kernel, rfl, rfl⟩, ⟨List.mem_of_getElem? (i := 502) (by decide +kernel), rfl⟩, ⟨List.mem_of_getElem? (i := 19) (by decide +kernel), rfl⟩⟩
theorem n_X7_213 : m_lk RX7 213 yX7_isInSightOnATry := Or.inl ⟨List.mem_of_getElem? (i := 500) (by decide +kernel), rfl⟩
theorem e_X0_restore : m_mev k_X0_restore 1 := ⟨⟨⟨List.mem_of_getElem? (i := 511) (by decide +kernel), rfl⟩, ⟨List.mem_of_getElem? (i := 25) (by decide +kernel), rfl⟩, by decide +kernel, by decide +kernel, rfl, rfl⟩, ⟨List.mem_of_getElem? (i := 509) (by decide +kernel), rfl⟩, ⟨List.mem_of_getElem? (i := 510) (by decide +kernel), rfl⟩⟩
theorem n_X7_217 : m_lk RX7 217 yX0_restore := Or.inl ⟨List.mem_of_getElem? (i := 508) (by decide +kernel), rfl⟩
set_option maxRecDepth 100000 in
theorem w_holds : Cond.code yL_holds cL_holds 13 (some .boolean) ∈ lw_tbl := by
  refine List.mem_append_right _ ?_
  show _ ∈ tables_1_1 ++ (tables_1_2 ++ tables_1_3)
  refine List.mem_append_right _ (List.mem_append_right _ ?_)
  exact List.mem_of_getElem? (i := 23) rfl
theorem e_L_holds : m_mes k_L_holds 1 := ⟨⟨⟨w_holds, rfl⟩, ⟨List.mem_of_getElem? (i := 20) (by decide +kernel), rfl⟩, by decide +kernel, by decide +kernel, rfl, rfl⟩, ⟨List.mem_of_getElem? (i := 522) (by decide +kernel), rfl⟩⟩
theorem n_L_30 : m_lk RL 30 yL_holds := Or.inl ⟨List.mem_of_getElem? (i := 521) (by decide +kernel), rfl⟩
theorem e_L_cell : m_mes k_L_cell 2 := ⟨⟨⟨List.mem_of_getElem? (i := 518) (by decide +kernel), rfl⟩, ⟨List.mem_of_getElem? (i := 20) (by decide +kernel), rfl⟩, by decide +kernel, by decide +kernel, rfl, rfl⟩, ⟨List.mem_of_getElem? (i := 517) (by decide +kernel), rfl⟩⟩
theorem n_L_36 : m_lk RL 36 yL_cell := Or.inl ⟨List.mem_of_getElem? (i := 516) (by decide +kernel), rfl⟩
theorem e_X7_view : m_mev k_X7_view 2 := ⟨⟨⟨List.mem_of_getElem? (i := 227) (by decide +kernel), rfl⟩, ⟨List.mem_of_getElem? (i := 21) (by decide +kernel), rfl⟩, by decide +kernel, by decide +kernel, rfl, rfl⟩, ⟨List.mem_of_getElem? (i := 225) (by decide +kernel), rfl⟩, ⟨List.mem_of_getElem? (i := 226) (by decide +kernel), rfl⟩⟩
theorem n_L_40 : m_lk RL 40 yX7_view := Or.inl ⟨List.mem_of_getElem? (i := 224) (by decide +kernel), rfl⟩
theorem e_X7_anchor : m_mev k_X7_anchor 4 := ⟨⟨⟨List.mem_of_getElem? (i := 391) (by decide +kernel), rfl⟩, ⟨List.mem_of_getElem? (i := 21) (by decide +kernel), rfl⟩, by decide +kernel, by decide +kernel, rfl, rfl⟩, ⟨List.mem_of_getElem? (i := 389) (by decide +kernel), rfl⟩, ⟨List.mem_of_getElem? (i := 390) (by decide +kernel), rfl⟩⟩
theorem n_L_43 : m_lk RL 43 yX7_anchor := Or.inl ⟨List.mem_of_getElem? (i := 388) (by decide +kernel), rfl⟩
theorem e_X7_hint : m_mev k_X7_hint 5 := ⟨⟨⟨List.mem_of_getElem? (i := 438) (by decide +kernel), rfl⟩, ⟨List.mem_of_getElem? (i := 21) (by decide +kernel), rfl⟩, by decide +kernel, by decide +kernel, rfl, rfl⟩, ⟨List.mem_of_getElem? (i := 436) (by decide +kernel), rfl⟩, ⟨List.mem_of_getElem? (i := 437) (by decide +kernel), rfl⟩⟩
theorem n_L_47 : m_lk RL 47 yX7_hint := Or.inl ⟨List.mem_of_getElem? (i := 435) (by decide +kernel), rfl⟩
theorem e_X7_alter : m_mev k_X7_alter 3 := ⟨⟨⟨List.mem_of_getElem? (i := 453) (by decide +kernel), rfl⟩, ⟨List.mem_of_getElem? (i := 21) (by decide +kernel), rfl⟩, by decide +kernel, by decide +kernel, rfl, rfl⟩, ⟨List.mem_of_getElem? (i := 451) (by decide +kernel), rfl⟩, ⟨List.mem_of_getElem? (i := 452) (by decide +kernel), rfl⟩⟩
theorem n_L_51 : m_lk RL 51 yX7_alter := Or.inl ⟨List.mem_of_getElem? (i := 450) (by decide +kernel), rfl⟩
theorem e_X7_open : m_mev k_X7_open 1 := ⟨⟨⟨List.mem_of_getElem? (i := 464) (by decide +kernel), rfl⟩, ⟨List.mem_of_getElem? (i := 21) (by decide +kernel), rfl⟩, by decide +kernel, by decide +kernel, rfl, rfl⟩, ⟨List.mem_of_getElem? (i := 462) (by decide +kernel), rfl⟩, ⟨List.mem_of_getElem? (i := 463) (by decide +kernel), rfl⟩⟩
theorem n_L_54 : m_lk RL 54 yX7_open := Or.inl ⟨List.mem_of_getElem? (i := 461) (by decide +kernel), rfl⟩
theorem e_X7_close : m_mev k_X7_close 1 := ⟨⟨⟨List.mem_of_getElem? (i := 472) (by decide +kernel), rfl⟩, ⟨List.mem_of_getElem? (i := 21) (by decide +kernel), rfl⟩, by decide +kernel, by decide +kernel, rfl, rfl⟩, ⟨List.mem_of_getElem? (i := 470) (by decide +kernel), rfl⟩, ⟨List.mem_of_getElem? (i := 471) (by decide +kernel), rfl⟩⟩
theorem n_L_57 : m_lk RL 57 yX7_close := Or.inl ⟨List.mem_of_getElem? (i := 469) (by decide +kernel), rfl⟩
theorem e_X7_settle : m_mev k_X7_settle 0 := ⟨⟨⟨List.mem_of_getElem? (i := 480) (by decide +kernel), rfl⟩, ⟨List.mem_of_getElem? (i := 21) (by decide +kernel), rfl⟩, by decide +kernel, by decide +kernel, rfl, rfl⟩, ⟨List.mem_of_getElem? (i := 478) (by decide +kernel), rfl⟩, ⟨List.mem_of_getElem? (i := 479) (by decide +kernel), rfl⟩⟩
theorem n_L_60 : m_lk RL 60 yX7_settle := Or.inl ⟨List.mem_of_getElem? (i := 477) (by decide +kernel), rfl⟩
theorem e_X7_scroll : m_mev k_X7_scroll 2 := ⟨⟨⟨List.mem_of_getElem? (i := 375) (by decide +kernel), rfl⟩, ⟨List.mem_of_getElem? (i := 21) (by decide +kernel), rfl⟩, by decide +kernel, by decide +kernel, rfl, rfl⟩, ⟨List.mem_of_getElem? (i := 373) (by decide +kernel), rfl⟩, ⟨List.mem_of_getElem? (i := 374) (by decide +kernel), rfl⟩⟩
theorem n_L_64 : m_lk RL 64 yX7_scroll := Or.inl ⟨List.mem_of_getElem? (i := 372) (by decide +kernel), rfl⟩
theorem e_X7_moveAnchor : m_mev k_X7_moveAnchor 3 := ⟨⟨⟨List.mem_of_getElem? (i := 402) (by decide +kernel), rfl⟩, ⟨List.mem_of_getElem? (i := 21) (by decide +kernel), rfl⟩, by decide +kernel, by decide +kernel, rfl, rfl⟩, ⟨List.mem_of_getElem? (i := 400) (by decide +kernel), rfl⟩, ⟨List.mem_of_getElem? (i := 401) (by decide +kernel), rfl⟩⟩
theorem n_L_67 : m_lk RL 67 yX7_moveAnchor := Or.inl ⟨List.mem_of_getElem? (i := 399) (by decide +kernel), rfl⟩
theorem e_X7_sizeFor : m_mev k_X7_sizeFor 2 := ⟨⟨⟨List.mem_of_getElem? (i := 498) (by decide +kernel), rfl⟩, ⟨List.mem_of_getElem? (i := 21) (by decide +kernel), rfl⟩, by decide +kernel, by decide +kernel, rfl, rfl⟩, ⟨List.mem_of_getElem? (i := 496) (by decide +kernel), rfl⟩, ⟨List.mem_of_getElem? (i := 497) (by decide +kernel), rfl⟩⟩
theorem n_L_70 : m_lk RL 70 yX7_sizeFor := Or.inl ⟨List.mem_of_getElem? (i := 495) (by decide +kernel), rfl⟩
theorem e_X7_undo : m_mev k_X7_undo 0 := ⟨⟨⟨List.mem_of_getElem? (i := 507) (by decide +kernel), rfl⟩, ⟨List.mem_of_getElem? (i := 21) (by decide +kernel), rfl⟩, by decide +kernel, by decide +kernel, rfl, rfl⟩, ⟨List.mem_of_getElem? (i := 505) (by decide +kernel), rfl⟩, ⟨List.mem_of_getElem? (i := 506) (by decide +kernel), rfl⟩⟩
theorem n_L_73 : m_lk RL 73 yX7_undo := Or.inl ⟨List.mem_of_getElem? (i := 504) (by decide +kernel), rfl⟩
