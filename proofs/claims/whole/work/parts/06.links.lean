theorem h_X0 : ∀ w ∈ u_ws RX0 TX0 3, m_in w := by
  show ∀ w ∈ u_ws RX0 TX0 3, w ∈ lw_tbl ∧ m_okW w = true
  decide +kernel
theorem h_X1 : ∀ w ∈ u_ws RX1 TX1 8, m_in w := by
  show ∀ w ∈ u_ws RX1 TX1 8, w ∈ lw_tbl ∧ m_okW w = true
  decide +kernel
theorem h_X2 : ∀ w ∈ u_ws RX2 TX2 6, m_in w := by
  show ∀ w ∈ u_ws RX2 TX2 6, w ∈ lw_tbl ∧ m_okW w = true
  decide +kernel
theorem h_X3 : ∀ w ∈ u_ws RX3 TX3 1, m_in w := by
  show ∀ w ∈ u_ws RX3 TX3 1, w ∈ lw_tbl ∧ m_okW w = true
  decide +kernel
theorem h_X4 : ∀ w ∈ u_ws RX4 TX4 8, m_in w := by
  show ∀ w ∈ u_ws RX4 TX4 8, w ∈ lw_tbl ∧ m_okW w = true
  decide +kernel
theorem h_X5 : ∀ w ∈ u_ws RX5 TX5 1, m_in w := by
  show ∀ w ∈ u_ws RX5 TX5 1, w ∈ lw_tbl ∧ m_okW w = true
  decide +kernel
theorem h_X6 : ∀ w ∈ u_ws RX6 TX6 2, m_in w := by
  show ∀ w ∈ u_ws RX6 TX6 2, w ∈ lw_tbl ∧ m_okW w = true
  decide +kernel
theorem h_X7 : ∀ w ∈ u_ws RX7 TX7 6, m_in w := by
  show ∀ w ∈ u_ws RX7 TX7 6, w ∈ lw_tbl ∧ m_okW w = true
  decide +kernel
theorem h_X8 : ∀ w ∈ u_ws RX8 TX8 21, m_in w := by
  show ∀ w ∈ u_ws RX8 TX8 21, w ∈ lw_tbl ∧ m_okW w = true
  decide +kernel
def k_X0_keep : mM := (yX0_keep, cX0_keep, 2, none, { frames := 2, cells := 0, slots := 0, locals := 45 })
def k_X0_restore : mM := (yX0_restore, cX0_restore, 2, none, { frames := 2, cells := 0, slots := 0, locals := 45 })
def k_X0_beginOf : mM := (yX0_beginOf, cX0_beginOf, 2, some .int, { frames := 0, cells := 0, slots := 0, locals := 0 })
def k_X1_append : mM := (yX1_append, cX1_append, 2, none, { frames := 1, cells := 0, slots := 0, locals := 22 })
def k_X1_findFault : mM := (yX1_findFault, cX1_findFault, 4, some .int, { frames := 6, cells := 0, slots := 0, locals := 127 })
def k_X1_read : mM := (yX1_read, cX1_read, 2, some .boolean, { frames := 5, cells := 0, slots := 0, locals := 106 })
def k_X1_readHint : mM := (yX1_readHint, cX1_readHint, 2, some .boolean, { frames := 3, cells := 0, slots := 0, locals := 64 })
def k_X1_readMove : mM := (yX1_readMove, cX1_readMove, 1, some .boolean, { frames := 4, cells := 0, slots := 0, locals := 86 })
def k_X1_readSigned : mM := (yX1_readSigned, cX1_readSigned, 3, some .boolean, { frames := 3, cells := 0, slots := 0, locals := 64 })
def k_X1_readDigits : mM := (yX1_readDigits, cX1_readDigits, 3, some .boolean, { frames := 2, cells := 0, slots := 0, locals := 42 })
def k_X1_isDigit : mM := (yX1_isDigit, cX1_isDigit, 1, some .boolean, { frames := 0, cells := 0, slots := 0, locals := 0 })
def k_X1_pass : mM := (yX1_pass, cX1_pass, 2, some .boolean, { frames := 2, cells := 0, slots := 0, locals := 42 })
def k_X1_signAt : mM := (yX1_signAt, cX1_signAt, 2, some .int, { frames := 1, cells := 0, slots := 0, locals := 21 })
def k_X2_find : mM := (yX2_find, cX2_find, 15, none, { frames := 3, cells := 0, slots := 0, locals := 68 })
def k_X2_beginAlong : mM := (yX2_beginAlong, cX2_beginAlong, 6, some .int, { frames := 2, cells := 0, slots := 0, locals := 43 })
def k_X2_middleAlong : mM := (yX2_middleAlong, cX2_middleAlong, 5, some .int, { frames := 2, cells := 0, slots := 0, locals := 43 })
def k_X2_shiftInto : mM := (yX2_shiftInto, cX2_shiftInto, 8, some .int, { frames := 1, cells := 0, slots := 0, locals := 22 })
def k_X2_isGood : mM := (yX2_isGood, cX2_isGood, 3, some .boolean, { frames := 0, cells := 0, slots := 0, locals := 0 })
def k_X3_get : mM := (yX3_get, cX3_get, 2, some .int, { frames := 0, cells := 0, slots := 0, locals := 0 })
def k_X3_put : mM := (yX3_put, cX3_put, 3, none, { frames := 0, cells := 0, slots := 0, locals := 0 })
def k_X4_arrange : mM := (yX4_arrange, cX4_arrange, 6, some .int, { frames := 5, cells := 0, slots := 0, locals := 126 })
def k_X4_orderOpenHints : mM := (yX4_orderOpenHints, cX4_orderOpenHints, 4, some .int, { frames := 4, cells := 0, slots := 0, locals := 90 })
def k_X4_tryToShow : mM := (yX4_tryToShow, cX4_tryToShow, 5, some .int, { frames := 4, cells := 0, slots := 0, locals := 102 })
def k_X4_isFree : mM := (yX4_isFree, cX4_isFree, 6, some .boolean, { frames := 3, cells := 0, slots := 0, locals := 69 })
def k_X4_shownThatMeets : mM := (yX4_shownThatMeets, cX4_shownThatMeets, 7, some .int, { frames := 2, cells := 0, slots := 0, locals := 43 })
def k_X5_get : mM := (yX5_get, cX5_get, 2, some .int, { frames := 1, cells := 0, slots := 0, locals := 21 })
def k_X5_put : mM := (yX5_put, cX5_put, 3, none, { frames := 1, cells := 0, slots := 0, locals := 22 })
def k_X5_setting : mM := (yX5_setting, cX5_setting, 2, some .int, { frames := 1, cells := 0, slots := 0, locals := 21 })
def k_X5_anchorValue : mM := (yX5_anchorValue, cX5_anchorValue, 3, some .int, { frames := 1, cells := 0, slots := 0, locals := 21 })
def k_X5_putAnchorValue : mM := (yX5_putAnchorValue, cX5_putAnchorValue, 4, none, { frames := 1, cells := 0, slots := 0, locals := 22 })
def k_X5_hintValue : mM := (yX5_hintValue, cX5_hintValue, 3, some .int, { frames := 1, cells := 0, slots := 0, locals := 21 })
def k_X5_putHintValue : mM := (yX5_putHintValue, cX5_putHintValue, 4, none, { frames := 1, cells := 0, slots := 0, locals := 22 })
def k_X5_isOpen : mM := (yX5_isOpen, cX5_isOpen, 2, some .boolean, { frames := 2, cells := 0, slots := 0, locals := 43 })
def k_X5_isAnchorInSight : mM := (yX5_isAnchorInSight, cX5_isAnchorInSight, 2, some .boolean, { frames := 3, cells := 0, slots := 0, locals := 68 })
def k_X5_anchorMeets : mM := (yX5_anchorMeets, cX5_anchorMeets, 6, some .boolean, { frames := 2, cells := 0, slots := 0, locals := 43 })
def k_X5_turn : mM := (yX5_turn, cX5_turn, 4, some .int, { frames := 3, cells := 0, slots := 0, locals := 67 })
def k_X5_goesBefore : mM := (yX5_goesBefore, cX5_goesBefore, 5, some .boolean, { frames := 2, cells := 0, slots := 0, locals := 43 })
def k_X5_copyTo : mM := (yX5_copyTo, cX5_copyTo, 4, none, { frames := 1, cells := 0, slots := 0, locals := 22 })
def k_X5_copyFrom : mM := (yX5_copyFrom, cX5_copyFrom, 4, none, { frames := 1, cells := 0, slots := 0, locals := 22 })
def k_X6_list : mM := (yX6_list, cX6_list, 6, none, { frames := 2, cells := 0, slots := 0, locals := 44 })
def k_X6_add : mM := (yX6_add, cX6_add, 3, none, { frames := 1, cells := 0, slots := 0, locals := 22 })
def k_X7_view : mM := (yX7_view, cX7_view, 3, some .int, { frames := 6, cells := 0, slots := 0, locals := 151 })
def k_X7_scroll : mM := (yX7_scroll, cX7_scroll, 3, some .int, { frames := 6, cells := 0, slots := 0, locals := 151 })
def k_X7_anchor : mM := (yX7_anchor, cX7_anchor, 6, some .int, { frames := 6, cells := 0, slots := 0, locals := 151 })
def k_X7_moveAnchor : mM := (yX7_moveAnchor, cX7_moveAnchor, 4, some .int, { frames := 6, cells := 0, slots := 0, locals := 151 })
def k_X7_anchorOf : mM := (yX7_anchorOf, cX7_anchorOf, 3, some .int, { frames := 4, cells := 0, slots := 0, locals := 89 })
def k_X7_set : mM := (yX7_set, cX7_set, 4, some .int, { frames := 6, cells := 0, slots := 0, locals := 151 })
def k_X7_count : mM := (yX7_count, cX7_count, 2, some .int, { frames := 4, cells := 0, slots := 0, locals := 86 })
def k_X7_hint : mM := (yX7_hint, cX7_hint, 7, some .int, { frames := 6, cells := 0, slots := 0, locals := 151 })
def k_X7_alter : mM := (yX7_alter, cX7_alter, 5, some .int, { frames := 6, cells := 0, slots := 0, locals := 151 })
def k_X7_open : mM := (yX7_open, cX7_open, 2, some .int, { frames := 6, cells := 0, slots := 0, locals := 151 })
def k_X7_close : mM := (yX7_close, cX7_close, 2, some .int, { frames := 6, cells := 0, slots := 0, locals := 151 })
def k_X7_settle : mM := (yX7_settle, cX7_settle, 2, some .int, { frames := 6, cells := 0, slots := 0, locals := 151 })
def k_X7_hintOf : mM := (yX7_hintOf, cX7_hintOf, 4, some .int, { frames := 5, cells := 0, slots := 0, locals := 125 })
def k_X7_room : mM := (yX7_room, cX7_room, 7, some .int, { frames := 3, cells := 0, slots := 0, locals := 68 })
def k_X7_ifOn : mM := (yX7_ifOn, cX7_ifOn, 4, some .int, { frames := 4, cells := 0, slots := 0, locals := 102 })
def k_X7_at : mM := (yX7_at, cX7_at, 4, some .int, { frames := 3, cells := 0, slots := 0, locals := 69 })
def k_X7_sizeFor : mM := (yX7_sizeFor, cX7_sizeFor, 6, some .int, { frames := 5, cells := 0, slots := 0, locals := 126 })
def k_X7_undo : mM := (yX7_undo, cX7_undo, 1, some .int, { frames := 6, cells := 0, slots := 0, locals := 151 })
def k_X7_type : mM := (yX7_type, cX7_type, 2, some .int, { frames := 2, cells := 0, slots := 0, locals := 43 })
def k_X7_clearText : mM := (yX7_clearText, cX7_clearText, 2, some .int, { frames := 0, cells := 0, slots := 0, locals := 0 })
def k_X7_fault : mM := (yX7_fault, cX7_fault, 3, some .int, { frames := 7, cells := 0, slots := 0, locals := 150 })
def k_X7_carry : mM := (yX7_carry, cX7_carry, 3, some .int, { frames := 7, cells := 0, slots := 0, locals := 151 })
def k_X7_isWithin : mM := (yX7_isWithin, cX7_isWithin, 2, some .boolean, { frames := 0, cells := 0, slots := 0, locals := 0 })
def k_X7_isSize : mM := (yX7_isSize, cX7_isSize, 1, some .boolean, { frames := 0, cells := 0, slots := 0, locals := 0 })
def k_X7_isViewSize : mM := (yX7_isViewSize, cX7_isViewSize, 1, some .boolean, { frames := 0, cells := 0, slots := 0, locals := 0 })
def k_X7_isSide : mM := (yX7_isSide, cX7_isSide, 1, some .boolean, { frames := 0, cells := 0, slots := 0, locals := 0 })
def k_X7_isAnchor : mM := (yX7_isAnchor, cX7_isAnchor, 2, some .boolean, { frames := 2, cells := 0, slots := 0, locals := 42 })
def k_X7_isHint : mM := (yX7_isHint, cX7_isHint, 2, some .boolean, { frames := 2, cells := 0, slots := 0, locals := 42 })
def k_X7_lowestSetting : mM := (yX7_lowestSetting, cX7_lowestSetting, 1, some .int, { frames := 0, cells := 0, slots := 0, locals := 0 })
def k_X7_highestSetting : mM := (yX7_highestSetting, cX7_highestSetting, 1, some .int, { frames := 0, cells := 0, slots := 0, locals := 0 })
def k_X7_lowestValue : mM := (yX7_lowestValue, cX7_lowestValue, 1, some .int, { frames := 0, cells := 0, slots := 0, locals := 0 })
def k_X7_highestValue : mM := (yX7_highestValue, cX7_highestValue, 2, some .int, { frames := 2, cells := 0, slots := 0, locals := 42 })
def k_X7_canMoveView : mM := (yX7_canMoveView, cX7_canMoveView, 3, some .boolean, { frames := 2, cells := 0, slots := 0, locals := 42 })
def k_X7_moveView : mM := (yX7_moveView, cX7_moveView, 3, none, { frames := 2, cells := 0, slots := 0, locals := 44 })
def k_X7_openHint : mM := (yX7_openHint, cX7_openHint, 3, none, { frames := 2, cells := 0, slots := 0, locals := 45 })
def k_X7_closeHint : mM := (yX7_closeHint, cX7_closeHint, 2, none, { frames := 2, cells := 0, slots := 0, locals := 45 })
def k_X7_rememberSides : mM := (yX7_rememberSides, cX7_rememberSides, 3, some .int, { frames := 2, cells := 0, slots := 0, locals := 45 })
def k_X7_carryOrder : mM := (yX7_carryOrder, cX7_carryOrder, 1, some .boolean, { frames := 3, cells := 0, slots := 0, locals := 67 })
def k_X7_countHintsOf : mM := (yX7_countHintsOf, cX7_countHintsOf, 6, some .int, { frames := 2, cells := 0, slots := 0, locals := 43 })
def k_X7_countOpen : mM := (yX7_countOpen, cX7_countOpen, 3, some .int, { frames := 3, cells := 0, slots := 0, locals := 64 })
def k_X7_countRemembered : mM := (yX7_countRemembered, cX7_countRemembered, 3, some .int, { frames := 2, cells := 0, slots := 0, locals := 43 })
def k_X7_countCovered : mM := (yX7_countCovered, cX7_countCovered, 3, some .int, { frames := 2, cells := 0, slots := 0, locals := 43 })
def k_X7_shownValue : mM := (yX7_shownValue, cX7_shownValue, 4, some .int, { frames := 4, cells := 0, slots := 0, locals := 102 })
def k_X7_isInSightOnATry : mM := (yX7_isInSightOnATry, cX7_isInSightOnATry, 5, some .boolean, { frames := 4, cells := 0, slots := 0, locals := 102 })
def k_X7_isLevel : mM := (yX7_isLevel, cX7_isLevel, 1, some .boolean, { frames := 0, cells := 0, slots := 0, locals := 0 })
def k_X7_isBefore : mM := (yX7_isBefore, cX7_isBefore, 1, some .boolean, { frames := 0, cells := 0, slots := 0, locals := 0 })
def k_X7_edgeBy : mM := (yX7_edgeBy, cX7_edgeBy, 6, some .int, { frames := 2, cells := 0, slots := 0, locals := 43 })
def k_X7_spansMeet : mM := (yX7_spansMeet, cX7_spansMeet, 4, some .boolean, { frames := 0, cells := 0, slots := 0, locals := 0 })
def k_X7_spanLiesIn : mM := (yX7_spanLiesIn, cX7_spanLiesIn, 4, some .boolean, { frames := 0, cells := 0, slots := 0, locals := 0 })
def k_X8_in : mM := (yX8_in, cX8_in, 3, some .boolean, { frames := 0, cells := 0, slots := 0, locals := 0 })
def k_X8_half : mM := (yX8_half, cX8_half, 1, some .int, { frames := 0, cells := 0, slots := 0, locals := 0 })
def k_X8_isAnchor : mM := (yX8_isAnchor, cX8_isAnchor, 2, some .boolean, { frames := 1, cells := 0, slots := 0, locals := 22 })
def k_X8_isHint : mM := (yX8_isHint, cX8_isHint, 2, some .boolean, { frames := 1, cells := 0, slots := 0, locals := 22 })
def k_X8_ofAnchor : mM := (yX8_ofAnchor, cX8_ofAnchor, 3, some .int, { frames := 0, cells := 0, slots := 0, locals := 0 })
def k_X8_ofHint : mM := (yX8_ofHint, cX8_ofHint, 3, some .int, { frames := 0, cells := 0, slots := 0, locals := 0 })
def k_X8_records : mM := (yX8_records, cX8_records, 2, none, { frames := 0, cells := 0, slots := 0, locals := 0 })
def k_X8_meets : mM := (yX8_meets, cX8_meets, 8, some .boolean, { frames := 0, cells := 0, slots := 0, locals := 0 })
def k_X8_isSeen : mM := (yX8_isSeen, cX8_isSeen, 2, some .boolean, { frames := 1, cells := 0, slots := 0, locals := 27 })
def k_X8_isGood : mM := (yX8_isGood, cX8_isGood, 3, some .boolean, { frames := 1, cells := 0, slots := 0, locals := 22 })
def k_X8_shift : mM := (yX8_shift, cX8_shift, 9, some .int, { frames := 2, cells := 0, slots := 0, locals := 44 })
def k_X8_places : mM := (yX8_places, cX8_places, 15, none, { frames := 3, cells := 0, slots := 0, locals := 72 })
def k_X8_isIn : mM := (yX8_isIn, cX8_isIn, 3, some .boolean, { frames := 4, cells := 0, slots := 0, locals := 106 })
def k_X8_addTry : mM := (yX8_addTry, cX8_addTry, 4, none, { frames := 0, cells := 0, slots := 0, locals := 0 })
def k_X8_lists : mM := (yX8_lists, cX8_lists, 3, none, { frames := 1, cells := 0, slots := 0, locals := 23 })
def k_X8_isBarred : mM := (yX8_isBarred, cX8_isBarred, 8, some .boolean, { frames := 4, cells := 0, slots := 0, locals := 106 })
def k_X8_finds : mM := (yX8_finds, cX8_finds, 4, none, { frames := 5, cells := 0, slots := 0, locals := 133 })
def k_X8_sorts : mM := (yX8_sorts, cX8_sorts, 4, none, { frames := 1, cells := 0, slots := 0, locals := 22 })
def k_X8_shows : mM := (yX8_shows, cX8_shows, 3, none, { frames := 6, cells := 0, slots := 0, locals := 156 })
def k_X8_many : mM := (yX8_many, cX8_many, 1, some .int, { frames := 7, cells := 0, slots := 0, locals := 178 })
def k_X8_view : mM := (yX8_view, cX8_view, 3, some .int, { frames := 8, cells := 0, slots := 0, locals := 198 })
def k_X8_canScroll : mM := (yX8_canScroll, cX8_canScroll, 3, some .boolean, { frames := 1, cells := 0, slots := 0, locals := 22 })
def k_X8_scroll : mM := (yX8_scroll, cX8_scroll, 3, some .int, { frames := 8, cells := 0, slots := 0, locals := 198 })
def k_X8_anchor : mM := (yX8_anchor, cX8_anchor, 6, some .int, { frames := 1, cells := 0, slots := 0, locals := 22 })
def k_X8_moveAnchor : mM := (yX8_moveAnchor, cX8_moveAnchor, 4, some .int, { frames := 8, cells := 0, slots := 0, locals := 198 })
def k_X8_anchorOf : mM := (yX8_anchorOf, cX8_anchorOf, 5, some .int, { frames := 7, cells := 0, slots := 0, locals := 178 })
def k_X8_isSetting : mM := (yX8_isSetting, cX8_isSetting, 2, some .boolean, { frames := 1, cells := 0, slots := 0, locals := 22 })
def k_X8_set : mM := (yX8_set, cX8_set, 4, some .int, { frames := 2, cells := 0, slots := 0, locals := 43 })
def k_X8_covered : mM := (yX8_covered, cX8_covered, 4, some .int, { frames := 1, cells := 0, slots := 0, locals := 22 })
def k_X8_count : mM := (yX8_count, cX8_count, 4, some .int, { frames := 7, cells := 0, slots := 0, locals := 178 })
def k_X8_hint : mM := (yX8_hint, cX8_hint, 8, some .int, { frames := 2, cells := 0, slots := 0, locals := 43 })
def k_X8_isOf : mM := (yX8_isOf, cX8_isOf, 3, some .boolean, { frames := 2, cells := 0, slots := 0, locals := 43 })
def k_X8_alter : mM := (yX8_alter, cX8_alter, 5, some .int, { frames := 3, cells := 0, slots := 0, locals := 65 })
def k_X8_placeOf : mM := (yX8_placeOf, cX8_placeOf, 3, some .int, { frames := 0, cells := 0, slots := 0, locals := 0 })
def k_X8_opens : mM := (yX8_opens, cX8_opens, 2, none, { frames := 0, cells := 0, slots := 0, locals := 0 })
def k_X8_closes : mM := (yX8_closes, cX8_closes, 4, none, { frames := 1, cells := 0, slots := 0, locals := 22 })
def k_X8_open : mM := (yX8_open, cX8_open, 2, some .int, { frames := 7, cells := 0, slots := 0, locals := 178 })
def k_X8_close : mM := (yX8_close, cX8_close, 3, some .int, { frames := 8, cells := 0, slots := 0, locals := 198 })
def k_X8_settles : mM := (yX8_settles, cX8_settles, 3, some .int, { frames := 7, cells := 0, slots := 0, locals := 178 })
def k_X8_settle : mM := (yX8_settle, cX8_settle, 1, some .int, { frames := 8, cells := 0, slots := 0, locals := 200 })
def k_X8_hintOf : mM := (yX8_hintOf, cX8_hintOf, 3, some .int, { frames := 7, cells := 0, slots := 0, locals := 178 })
def k_X8_orderOf : mM := (yX8_orderOf, cX8_orderOf, 3, some .int, { frames := 0, cells := 0, slots := 0, locals := 0 })
def k_X8_room : mM := (yX8_room, cX8_room, 4, some .int, { frames := 2, cells := 0, slots := 0, locals := 43 })
def k_X8_ifOn : mM := (yX8_ifOn, cX8_ifOn, 5, some .int, { frames := 5, cells := 0, slots := 0, locals := 128 })
def k_X8_at : mM := (yX8_at, cX8_at, 4, some .int, { frames := 7, cells := 0, slots := 0, locals := 178 })
def k_X8_sizeFor : mM := (yX8_sizeFor, cX8_sizeFor, 7, some .int, { frames := 5, cells := 0, slots := 0, locals := 128 })
def k_X8_undo : mM := (yX8_undo, cX8_undo, 2, some .int, { frames := 0, cells := 0, slots := 0, locals := 0 })
def k_X8_type : mM := (yX8_type, cX8_type, 2, some .int, { frames := 1, cells := 0, slots := 0, locals := 22 })
def k_X8_clearText : mM := (yX8_clearText, cX8_clearText, 2, some .int, { frames := 0, cells := 0, slots := 0, locals := 0 })
def k_X8_passes : mM := (yX8_passes, cX8_passes, 3, some .boolean, { frames := 0, cells := 0, slots := 0, locals := 0 })
def k_X8_readsNumber : mM := (yX8_readsNumber, cX8_readsNumber, 3, some .boolean, { frames := 1, cells := 0, slots := 0, locals := 22 })
def k_X8_readsSigned : mM := (yX8_readsSigned, cX8_readsSigned, 3, some .boolean, { frames := 2, cells := 0, slots := 0, locals := 44 })
def k_X8_readsForm : mM := (yX8_readsForm, cX8_readsForm, 2, some .boolean, { frames := 3, cells := 0, slots := 0, locals := 66 })
def k_X8_readsOrder : mM := (yX8_readsOrder, cX8_readsOrder, 1, some .boolean, { frames := 4, cells := 0, slots := 0, locals := 87 })
def k_X8_faulty : mM := (yX8_faulty, cX8_faulty, 2, some .int, { frames := 5, cells := 0, slots := 0, locals := 107 })
def k_X8_fault : mM := (yX8_fault, cX8_fault, 3, some .int, { frames := 6, cells := 0, slots := 0, locals := 128 })
def k_X8_carries : mM := (yX8_carries, cX8_carries, 2, some .boolean, { frames := 8, cells := 0, slots := 0, locals := 200 })
def k_X8_carry : mM := (yX8_carry, cX8_carry, 3, some .int, { frames := 9, cells := 0, slots := 0, locals := 221 })
def k_J9_floorDiv_7cf53 : mM := (yJ9_floorDiv_7cf53, cJ9_floorDiv_7cf53, 3, some .int, { frames := 0, cells := 0, slots := 0, locals := 0 })
def k_J9_max_7cf53 : mM := (yJ9_max_7cf53, cJ9_max_7cf53, 2, some .int, { frames := 0, cells := 0, slots := 0, locals := 0 })
def k_J9_min_7cf53 : mM := (yJ9_min_7cf53, cJ9_min_7cf53, 2, some .int, { frames := 0, cells := 0, slots := 0, locals := 0 })
theorem f_X0_14 : m_fld RX0 14 0 0 := ⟨RX0, TX0, 3, rfl, by decide, h_X0, Or.inl ⟨List.mem_of_getElem? (i := 114) (by decide +kernel), rfl⟩⟩
theorem f_X0_20 : m_fld RX0 20 0 2 := ⟨RX0, TX0, 3, rfl, by decide, h_X0, Or.inl ⟨List.mem_of_getElem? (i := 116) (by decide +kernel), rfl⟩⟩
theorem f_X0_24 : m_fld RX0 24 0 1 := ⟨RX0, TX0, 3, rfl, by decide, h_X0, Or.inl ⟨List.mem_of_getElem? (i := 115) (by decide +kernel), rfl⟩⟩
theorem f_X1_14 : m_fld RX1 14 1 0 := ⟨RX1, TX1, 8, rfl, by decide, h_X1, Or.inl ⟨List.mem_of_getElem? (i := 222) (by decide +kernel), rfl⟩⟩
theorem f_X1_20 : m_fld RX1 20 1 1 := ⟨RX1, TX1, 8, rfl, by decide, h_X1, Or.inl ⟨List.mem_of_getElem? (i := 223) (by decide +kernel), rfl⟩⟩
theorem f_X1_32 : m_fld RX1 32 1 4 := ⟨RX1, TX1, 8, rfl, by decide, h_X1, Or.inl ⟨List.mem_of_getElem? (i := 229) (by decide +kernel), rfl⟩⟩
theorem f_X1_35 : m_fld RX1 35 1 5 := ⟨RX1, TX1, 8, rfl, by decide, h_X1, Or.inl ⟨List.mem_of_getElem? (i := 231) (by decide +kernel), rfl⟩⟩
theorem f_X1_38 : m_fld RX1 38 1 3 := ⟨RX1, TX1, 8, rfl, by decide, h_X1, Or.inl ⟨List.mem_of_getElem? (i := 227) (by decide +kernel), rfl⟩⟩
theorem f_X1_62 : m_fld RX1 62 1 7 := ⟨RX1, TX1, 8, rfl, by decide, h_X1, Or.inl ⟨List.mem_of_getElem? (i := 235) (by decide +kernel), rfl⟩⟩
theorem f_X2_32 : m_fld RX2 32 2 2 := ⟨RX2, TX2, 6, rfl, by decide, h_X2, Or.inl ⟨List.mem_of_getElem? (i := 164) (by decide +kernel), rfl⟩⟩
theorem f_X2_43 : m_fld RX2 43 2 3 := ⟨RX2, TX2, 6, rfl, by decide, h_X2, Or.inl ⟨List.mem_of_getElem? (i := 166) (by decide +kernel), rfl⟩⟩
theorem f_X2_61 : m_fld RX2 61 2 0 := ⟨RX2, TX2, 6, rfl, by decide, h_X2, Or.inl ⟨List.mem_of_getElem? (i := 158) (by decide +kernel), rfl⟩⟩
theorem f_X2_64 : m_fld RX2 64 2 1 := ⟨RX2, TX2, 6, rfl, by decide, h_X2, Or.inl ⟨List.mem_of_getElem? (i := 161) (by decide +kernel), rfl⟩⟩
theorem f_X3_13 : m_fld RX3 13 3 0 := ⟨RX3, TX3, 1, rfl, by decide, h_X3, Or.inl ⟨List.mem_of_getElem? (i := 93) (by decide +kernel), rfl⟩⟩
theorem f_X4_14 : m_fld RX4 14 4 0 := ⟨RX4, TX4, 8, rfl, by decide, h_X4, Or.inl ⟨List.mem_of_getElem? (i := 186) (by decide +kernel), rfl⟩⟩
theorem f_X4_20 : m_fld RX4 20 4 1 := ⟨RX4, TX4, 8, rfl, by decide, h_X4, Or.inl ⟨List.mem_of_getElem? (i := 188) (by decide +kernel), rfl⟩⟩
theorem f_X4_23 : m_fld RX4 23 4 2 := ⟨RX4, TX4, 8, rfl, by decide, h_X4, Or.inl ⟨List.mem_of_getElem? (i := 190) (by decide +kernel), rfl⟩⟩
theorem f_X4_26 : m_fld RX4 26 4 3 := ⟨RX4, TX4, 8, rfl, by decide, h_X4, Or.inl ⟨List.mem_of_getElem? (i := 191) (by decide +kernel), rfl⟩⟩
theorem f_X4_29 : m_fld RX4 29 4 4 := ⟨RX4, TX4, 8, rfl, by decide, h_X4, Or.inl ⟨List.mem_of_getElem? (i := 192) (by decide +kernel), rfl⟩⟩
theorem f_X4_35 : m_fld RX4 35 4 5 := ⟨RX4, TX4, 8, rfl, by decide, h_X4, Or.inl ⟨List.mem_of_getElem? (i := 193) (by decide +kernel), rfl⟩⟩
theorem f_X4_42 : m_fld RX4 42 4 6 := ⟨RX4, TX4, 8, rfl, by decide, h_X4, Or.inl ⟨List.mem_of_getElem? (i := 194) (by decide +kernel), rfl⟩⟩
theorem f_X4_46 : m_fld RX4 46 4 7 := ⟨RX4, TX4, 8, rfl, by decide, h_X4, Or.inl ⟨List.mem_of_getElem? (i := 195) (by decide +kernel), rfl⟩⟩
theorem f_X4_90 : m_fld RX4 90 6 1 := ⟨RX6, TX6, 2, rfl, by decide, h_X6, Or.inr ⟨"HintPlacer", ⟨List.mem_of_getElem? (i := 145) (by decide +kernel), rfl⟩⟩⟩
theorem f_X4_93 : m_fld RX4 93 6 0 := ⟨RX6, TX6, 2, rfl, by decide, h_X6, Or.inr ⟨"HintPlacer", ⟨List.mem_of_getElem? (i := 142) (by decide +kernel), rfl⟩⟩⟩
theorem f_X4_98 : m_fld RX4 98 2 5 := ⟨RX2, TX2, 6, rfl, by decide, h_X2, Or.inr ⟨"HintPlacer", ⟨List.mem_of_getElem? (i := 171) (by decide +kernel), rfl⟩⟩⟩
theorem f_X4_106 : m_fld RX4 106 2 0 := ⟨RX2, TX2, 6, rfl, by decide, h_X2, Or.inr ⟨"HintPlacer", ⟨List.mem_of_getElem? (i := 159) (by decide +kernel), rfl⟩⟩⟩
theorem f_X4_109 : m_fld RX4 109 2 1 := ⟨RX2, TX2, 6, rfl, by decide, h_X2, Or.inr ⟨"HintPlacer", ⟨List.mem_of_getElem? (i := 162) (by decide +kernel), rfl⟩⟩⟩
theorem f_X5_14 : m_fld RX5 14 5 0 := ⟨RX5, TX5, 1, rfl, by decide, h_X5, Or.inl ⟨List.mem_of_getElem? (i := 102) (by decide +kernel), rfl⟩⟩
theorem f_X6_14 : m_fld RX6 14 6 0 := ⟨RX6, TX6, 2, rfl, by decide, h_X6, Or.inl ⟨List.mem_of_getElem? (i := 141) (by decide +kernel), rfl⟩⟩
theorem f_X6_20 : m_fld RX6 20 6 1 := ⟨RX6, TX6, 2, rfl, by decide, h_X6, Or.inl ⟨List.mem_of_getElem? (i := 144) (by decide +kernel), rfl⟩⟩
theorem f_X7_12 : m_fld RX7 12 7 0 := ⟨RX7, TX7, 6, rfl, by decide, h_X7, Or.inl ⟨List.mem_of_getElem? (i := 257) (by decide +kernel), rfl⟩⟩
theorem f_X7_19 : m_fld RX7 19 7 1 := ⟨RX7, TX7, 6, rfl, by decide, h_X7, Or.inl ⟨List.mem_of_getElem? (i := 258) (by decide +kernel), rfl⟩⟩
theorem f_X7_26 : m_fld RX7 26 7 2 := ⟨RX7, TX7, 6, rfl, by decide, h_X7, Or.inl ⟨List.mem_of_getElem? (i := 259) (by decide +kernel), rfl⟩⟩
theorem f_X7_33 : m_fld RX7 33 7 3 := ⟨RX7, TX7, 6, rfl, by decide, h_X7, Or.inl ⟨List.mem_of_getElem? (i := 260) (by decide +kernel), rfl⟩⟩
theorem f_X7_40 : m_fld RX7 40 7 4 := ⟨RX7, TX7, 6, rfl, by decide, h_X7, Or.inl ⟨List.mem_of_getElem? (i := 261) (by decide +kernel), rfl⟩⟩
theorem f_X7_47 : m_fld RX7 47 7 5 := ⟨RX7, TX7, 6, rfl, by decide, h_X7, Or.inl ⟨List.mem_of_getElem? (i := 262) (by decide +kernel), rfl⟩⟩
theorem f_X7_115 : m_fld RX7 115 4 7 := ⟨RX4, TX4, 8, rfl, by decide, h_X4, Or.inr ⟨"HintPlacer", ⟨List.mem_of_getElem? (i := 196) (by decide +kernel), rfl⟩⟩⟩
theorem f_X7_122 : m_fld RX7 122 0 2 := ⟨RX0, TX0, 3, rfl, by decide, h_X0, Or.inr ⟨"HintPlacer", ⟨List.mem_of_getElem? (i := 117) (by decide +kernel), rfl⟩⟩⟩
theorem f_X7_125 : m_fld RX7 125 1 1 := ⟨RX1, TX1, 8, rfl, by decide, h_X1, Or.inr ⟨"HintPlacer", ⟨List.mem_of_getElem? (i := 224) (by decide +kernel), rfl⟩⟩⟩
theorem f_X7_156 : m_fld RX7 156 4 0 := ⟨RX4, TX4, 8, rfl, by decide, h_X4, Or.inr ⟨"HintPlacer", ⟨List.mem_of_getElem? (i := 187) (by decide +kernel), rfl⟩⟩⟩
theorem f_X7_189 : m_fld RX7 189 2 5 := ⟨RX2, TX2, 6, rfl, by decide, h_X2, Or.inr ⟨"HintPlacer", ⟨List.mem_of_getElem? (i := 172) (by decide +kernel), rfl⟩⟩⟩
theorem f_X7_193 : m_fld RX7 193 2 0 := ⟨RX2, TX2, 6, rfl, by decide, h_X2, Or.inr ⟨"HintPlacer", ⟨List.mem_of_getElem? (i := 160) (by decide +kernel), rfl⟩⟩⟩
theorem f_X7_196 : m_fld RX7 196 2 1 := ⟨RX2, TX2, 6, rfl, by decide, h_X2, Or.inr ⟨"HintPlacer", ⟨List.mem_of_getElem? (i := 163) (by decide +kernel), rfl⟩⟩⟩
theorem f_X7_199 : m_fld RX7 199 2 2 := ⟨RX2, TX2, 6, rfl, by decide, h_X2, Or.inr ⟨"HintPlacer", ⟨List.mem_of_getElem? (i := 165) (by decide +kernel), rfl⟩⟩⟩
theorem f_X7_202 : m_fld RX7 202 2 3 := ⟨RX2, TX2, 6, rfl, by decide, h_X2, Or.inr ⟨"HintPlacer", ⟨List.mem_of_getElem? (i := 167) (by decide +kernel), rfl⟩⟩⟩
theorem f_X7_226 : m_fld RX7 226 1 2 := ⟨RX1, TX1, 8, rfl, by decide, h_X1, Or.inr ⟨"HintPlacer", ⟨List.mem_of_getElem? (i := 226) (by decide +kernel), rfl⟩⟩⟩
theorem f_X7_236 : m_fld RX7 236 1 3 := ⟨RX1, TX1, 8, rfl, by decide, h_X1, Or.inr ⟨"HintPlacer", ⟨List.mem_of_getElem? (i := 228) (by decide +kernel), rfl⟩⟩⟩
theorem f_X7_239 : m_fld RX7 239 4 1 := ⟨RX4, TX4, 8, rfl, by decide, h_X4, Or.inr ⟨"HintPlacer", ⟨List.mem_of_getElem? (i := 189) (by decide +kernel), rfl⟩⟩⟩
theorem f_X7_242 : m_fld RX7 242 1 4 := ⟨RX1, TX1, 8, rfl, by decide, h_X1, Or.inr ⟨"HintPlacer", ⟨List.mem_of_getElem? (i := 230) (by decide +kernel), rfl⟩⟩⟩
theorem f_X7_245 : m_fld RX7 245 1 5 := ⟨RX1, TX1, 8, rfl, by decide, h_X1, Or.inr ⟨"HintPlacer", ⟨List.mem_of_getElem? (i := 232) (by decide +kernel), rfl⟩⟩⟩
theorem f_X7_248 : m_fld RX7 248 1 6 := ⟨RX1, TX1, 8, rfl, by decide, h_X1, Or.inr ⟨"HintPlacer", ⟨List.mem_of_getElem? (i := 234) (by decide +kernel), rfl⟩⟩⟩
theorem f_X7_251 : m_fld RX7 251 2 4 := ⟨RX2, TX2, 6, rfl, by decide, h_X2, Or.inr ⟨"HintPlacer", ⟨List.mem_of_getElem? (i := 169) (by decide +kernel), rfl⟩⟩⟩
theorem f_X7_254 : m_fld RX7 254 6 1 := ⟨RX6, TX6, 2, rfl, by decide, h_X6, Or.inr ⟨"HintPlacer", ⟨List.mem_of_getElem? (i := 146) (by decide +kernel), rfl⟩⟩⟩
theorem f_X7_257 : m_fld RX7 257 6 0 := ⟨RX6, TX6, 2, rfl, by decide, h_X6, Or.inr ⟨"HintPlacer", ⟨List.mem_of_getElem? (i := 143) (by decide +kernel), rfl⟩⟩⟩
theorem f_X8_7 : m_fld RX8 7 8 0 := ⟨RX8, TX8, 21, rfl, by decide, h_X8, Or.inl ⟨List.mem_of_getElem? (i := 660) (by decide +kernel), rfl⟩⟩
theorem f_X8_13 : m_fld RX8 13 8 1 := ⟨RX8, TX8, 21, rfl, by decide, h_X8, Or.inl ⟨List.mem_of_getElem? (i := 661) (by decide +kernel), rfl⟩⟩
theorem f_X8_16 : m_fld RX8 16 8 3 := ⟨RX8, TX8, 21, rfl, by decide, h_X8, Or.inl ⟨List.mem_of_getElem? (i := 663) (by decide +kernel), rfl⟩⟩
theorem f_X8_20 : m_fld RX8 20 8 15 := ⟨RX8, TX8, 21, rfl, by decide, h_X8, Or.inl ⟨List.mem_of_getElem? (i := 675) (by decide +kernel), rfl⟩⟩
theorem f_X8_23 : m_fld RX8 23 8 16 := ⟨RX8, TX8, 21, rfl, by decide, h_X8, Or.inl ⟨List.mem_of_getElem? (i := 676) (by decide +kernel), rfl⟩⟩
theorem f_X8_26 : m_fld RX8 26 8 17 := ⟨RX8, TX8, 21, rfl, by decide, h_X8, Or.inl ⟨List.mem_of_getElem? (i := 677) (by decide +kernel), rfl⟩⟩
theorem f_X8_29 : m_fld RX8 29 8 19 := ⟨RX8, TX8, 21, rfl, by decide, h_X8, Or.inl ⟨List.mem_of_getElem? (i := 679) (by decide +kernel), rfl⟩⟩
theorem f_X8_36 : m_fld RX8 36 8 2 := ⟨RX8, TX8, 21, rfl, by decide, h_X8, Or.inl ⟨List.mem_of_getElem? (i := 662) (by decide +kernel), rfl⟩⟩
theorem f_X8_59 : m_fld RX8 59 8 13 := ⟨RX8, TX8, 21, rfl, by decide, h_X8, Or.inl ⟨List.mem_of_getElem? (i := 673) (by decide +kernel), rfl⟩⟩
theorem f_X8_66 : m_fld RX8 66 8 12 := ⟨RX8, TX8, 21, rfl, by decide, h_X8, Or.inl ⟨List.mem_of_getElem? (i := 672) (by decide +kernel), rfl⟩⟩
theorem f_X8_69 : m_fld RX8 69 8 14 := ⟨RX8, TX8, 21, rfl, by decide, h_X8, Or.inl ⟨List.mem_of_getElem? (i := 674) (by decide +kernel), rfl⟩⟩
theorem f_X8_73 : m_fld RX8 73 8 10 := ⟨RX8, TX8, 21, rfl, by decide, h_X8, Or.inl ⟨List.mem_of_getElem? (i := 670) (by decide +kernel), rfl⟩⟩
theorem f_X8_76 : m_fld RX8 76 8 11 := ⟨RX8, TX8, 21, rfl, by decide, h_X8, Or.inl ⟨List.mem_of_getElem? (i := 671) (by decide +kernel), rfl⟩⟩
theorem f_X8_83 : m_fld RX8 83 8 20 := ⟨RX8, TX8, 21, rfl, by decide, h_X8, Or.inl ⟨List.mem_of_getElem? (i := 680) (by decide +kernel), rfl⟩⟩
theorem f_X8_100 : m_fld RX8 100 8 18 := ⟨RX8, TX8, 21, rfl, by decide, h_X8, Or.inl ⟨List.mem_of_getElem? (i := 678) (by decide +kernel), rfl⟩⟩
theorem f_X8_131 : m_fld RX8 131 8 4 := ⟨RX8, TX8, 21, rfl, by decide, h_X8, Or.inl ⟨List.mem_of_getElem? (i := 664) (by decide +kernel), rfl⟩⟩
theorem f_X8_159 : m_fld RX8 159 8 5 := ⟨RX8, TX8, 21, rfl, by decide, h_X8, Or.inl ⟨List.mem_of_getElem? (i := 665) (by decide +kernel), rfl⟩⟩
theorem f_X8_162 : m_fld RX8 162 8 8 := ⟨RX8, TX8, 21, rfl, by decide, h_X8, Or.inl ⟨List.mem_of_getElem? (i := 668) (by decide +kernel), rfl⟩⟩
theorem f_X8_172 : m_fld RX8 172 8 6 := ⟨RX8, TX8, 21, rfl, by decide, h_X8, Or.inl ⟨List.mem_of_getElem? (i := 666) (by decide +kernel), rfl⟩⟩
theorem f_X8_179 : m_fld RX8 179 8 7 := ⟨RX8, TX8, 21, rfl, by decide, h_X8, Or.inl ⟨List.mem_of_getElem? (i := 667) (by decide +kernel), rfl⟩⟩
theorem f_X8_185 : m_fld RX8 185 8 9 := ⟨RX8, TX8, 21, rfl, by decide, h_X8, Or.inl ⟨List.mem_of_getElem? (i := 669) (by decide +kernel), rfl⟩⟩
theorem p_X0_20 : m_fldp RX0 20 0 2 .int := ⟨RX0, TX0, 3, tyX0, rfl, by decide, h_X0, Or.inl ⟨List.mem_of_getElem? (i := 116) (by decide +kernel), rfl⟩, tyX0_ok, nmX0, rfl, rfl⟩
theorem p_X0_24 : m_fldp RX0 24 0 1 .int := ⟨RX0, TX0, 3, tyX0, rfl, by decide, h_X0, Or.inl ⟨List.mem_of_getElem? (i := 115) (by decide +kernel), rfl⟩, tyX0_ok, nmX0, rfl, rfl⟩
theorem p_X1_20 : m_fldp RX1 20 1 1 .int := ⟨RX1, TX1, 8, tyX1, rfl, by decide, h_X1, Or.inl ⟨List.mem_of_getElem? (i := 223) (by decide +kernel), rfl⟩, tyX1_ok, nmX1, rfl, rfl⟩
theorem p_X1_32 : m_fldp RX1 32 1 4 .int := ⟨RX1, TX1, 8, tyX1, rfl, by decide, h_X1, Or.inl ⟨List.mem_of_getElem? (i := 229) (by decide +kernel), rfl⟩, tyX1_ok, nmX1, rfl, rfl⟩
theorem p_X1_35 : m_fldp RX1 35 1 5 .int := ⟨RX1, TX1, 8, tyX1, rfl, by decide, h_X1, Or.inl ⟨List.mem_of_getElem? (i := 231) (by decide +kernel), rfl⟩, tyX1_ok, nmX1, rfl, rfl⟩
theorem p_X1_38 : m_fldp RX1 38 1 3 .int := ⟨RX1, TX1, 8, tyX1, rfl, by decide, h_X1, Or.inl ⟨List.mem_of_getElem? (i := 227) (by decide +kernel), rfl⟩, tyX1_ok, nmX1, rfl, rfl⟩
theorem p_X1_41 : m_fldp RX1 41 1 2 .int := ⟨RX1, TX1, 8, tyX1, rfl, by decide, h_X1, Or.inl ⟨List.mem_of_getElem? (i := 225) (by decide +kernel), rfl⟩, tyX1_ok, nmX1, rfl, rfl⟩
theorem p_X1_62 : m_fldp RX1 62 1 7 .int := ⟨RX1, TX1, 8, tyX1, rfl, by decide, h_X1, Or.inl ⟨List.mem_of_getElem? (i := 235) (by decide +kernel), rfl⟩, tyX1_ok, nmX1, rfl, rfl⟩
theorem p_X1_68 : m_fldp RX1 68 1 6 .int := ⟨RX1, TX1, 8, tyX1, rfl, by decide, h_X1, Or.inl ⟨List.mem_of_getElem? (i := 233) (by decide +kernel), rfl⟩, tyX1_ok, nmX1, rfl, rfl⟩
theorem p_X2_32 : m_fldp RX2 32 2 2 .int := ⟨RX2, TX2, 6, tyX2, rfl, by decide, h_X2, Or.inl ⟨List.mem_of_getElem? (i := 164) (by decide +kernel), rfl⟩, tyX2_ok, nmX2, rfl, rfl⟩
theorem p_X2_43 : m_fldp RX2 43 2 3 .int := ⟨RX2, TX2, 6, tyX2, rfl, by decide, h_X2, Or.inl ⟨List.mem_of_getElem? (i := 166) (by decide +kernel), rfl⟩, tyX2_ok, nmX2, rfl, rfl⟩
theorem p_X2_50 : m_fldp RX2 50 2 4 .boolean := ⟨RX2, TX2, 6, tyX2, rfl, by decide, h_X2, Or.inl ⟨List.mem_of_getElem? (i := 168) (by decide +kernel), rfl⟩, tyX2_ok, nmX2, rfl, rfl⟩
theorem p_X2_61 : m_fldp RX2 61 2 0 .int := ⟨RX2, TX2, 6, tyX2, rfl, by decide, h_X2, Or.inl ⟨List.mem_of_getElem? (i := 158) (by decide +kernel), rfl⟩, tyX2_ok, nmX2, rfl, rfl⟩
theorem p_X2_64 : m_fldp RX2 64 2 1 .int := ⟨RX2, TX2, 6, tyX2, rfl, by decide, h_X2, Or.inl ⟨List.mem_of_getElem? (i := 161) (by decide +kernel), rfl⟩, tyX2_ok, nmX2, rfl, rfl⟩
theorem p_X2_71 : m_fldp RX2 71 2 5 .boolean := ⟨RX2, TX2, 6, tyX2, rfl, by decide, h_X2, Or.inl ⟨List.mem_of_getElem? (i := 170) (by decide +kernel), rfl⟩, tyX2_ok, nmX2, rfl, rfl⟩
theorem p_X4_46 : m_fldp RX4 46 4 7 .int := ⟨RX4, TX4, 8, tyX4, rfl, by decide, h_X4, Or.inl ⟨List.mem_of_getElem? (i := 195) (by decide +kernel), rfl⟩, tyX4_ok, nmX4, rfl, rfl⟩
theorem p_X6_20 : m_fldp RX6 20 6 1 .int := ⟨RX6, TX6, 2, tyX6, rfl, by decide, h_X6, Or.inl ⟨List.mem_of_getElem? (i := 144) (by decide +kernel), rfl⟩, tyX6_ok, nmX6, rfl, rfl⟩
theorem p_X7_125 : m_fldp RX7 125 1 1 .int := ⟨RX1, TX1, 8, tyX1, rfl, by decide, h_X1, Or.inr ⟨"HintPlacer", ⟨List.mem_of_getElem? (i := 224) (by decide +kernel), rfl⟩⟩, tyX1_ok, nmX1, rfl, rfl⟩
theorem p_X8_36 : m_fldp RX8 36 8 2 .int := ⟨RX8, TX8, 21, tyX8, rfl, by decide, h_X8, Or.inl ⟨List.mem_of_getElem? (i := 662) (by decide +kernel), rfl⟩, tyX8_ok, nmX8, rfl, rfl⟩
theorem p_X8_59 : m_fldp RX8 59 8 13 .int := ⟨RX8, TX8, 21, tyX8, rfl, by decide, h_X8, Or.inl ⟨List.mem_of_getElem? (i := 673) (by decide +kernel), rfl⟩, tyX8_ok, nmX8, rfl, rfl⟩
theorem p_X8_66 : m_fldp RX8 66 8 12 .int := ⟨RX8, TX8, 21, tyX8, rfl, by decide, h_X8, Or.inl ⟨List.mem_of_getElem? (i := 672) (by decide +kernel), rfl⟩, tyX8_ok, nmX8, rfl, rfl⟩
theorem p_X8_69 : m_fldp RX8 69 8 14 .boolean := ⟨RX8, TX8, 21, tyX8, rfl, by decide, h_X8, Or.inl ⟨List.mem_of_getElem? (i := 674) (by decide +kernel), rfl⟩, tyX8_ok, nmX8, rfl, rfl⟩
theorem p_X8_73 : m_fldp RX8 73 8 10 .int := ⟨RX8, TX8, 21, tyX8, rfl, by decide, h_X8, Or.inl ⟨List.mem_of_getElem? (i := 670) (by decide +kernel), rfl⟩, tyX8_ok, nmX8, rfl, rfl⟩
theorem p_X8_76 : m_fldp RX8 76 8 11 .int := ⟨RX8, TX8, 21, tyX8, rfl, by decide, h_X8, Or.inl ⟨List.mem_of_getElem? (i := 671) (by decide +kernel), rfl⟩, tyX8_ok, nmX8, rfl, rfl⟩
theorem p_X8_83 : m_fldp RX8 83 8 20 .int := ⟨RX8, TX8, 21, tyX8, rfl, by decide, h_X8, Or.inl ⟨List.mem_of_getElem? (i := 680) (by decide +kernel), rfl⟩, tyX8_ok, nmX8, rfl, rfl⟩
theorem p_X8_100 : m_fldp RX8 100 8 18 .int := ⟨RX8, TX8, 21, tyX8, rfl, by decide, h_X8, Or.inl ⟨List.mem_of_getElem? (i := 678) (by decide +kernel), rfl⟩, tyX8_ok, nmX8, rfl, rfl⟩
theorem p_X8_131 : m_fldp RX8 131 8 4 .int := ⟨RX8, TX8, 21, tyX8, rfl, by decide, h_X8, Or.inl ⟨List.mem_of_getElem? (i := 664) (by decide +kernel), rfl⟩, tyX8_ok, nmX8, rfl, rfl⟩
theorem p_X8_159 : m_fldp RX8 159 8 5 .int := ⟨RX8, TX8, 21, tyX8, rfl, by decide, h_X8, Or.inl ⟨List.mem_of_getElem? (i := 665) (by decide +kernel), rfl⟩, tyX8_ok, nmX8, rfl, rfl⟩
theorem p_X8_162 : m_fldp RX8 162 8 8 .int := ⟨RX8, TX8, 21, tyX8, rfl, by decide, h_X8, Or.inl ⟨List.mem_of_getElem? (i := 668) (by decide +kernel), rfl⟩, tyX8_ok, nmX8, rfl, rfl⟩
theorem p_X8_172 : m_fldp RX8 172 8 6 .int := ⟨RX8, TX8, 21, tyX8, rfl, by decide, h_X8, Or.inl ⟨List.mem_of_getElem? (i := 666) (by decide +kernel), rfl⟩, tyX8_ok, nmX8, rfl, rfl⟩
theorem p_X8_179 : m_fldp RX8 179 8 7 .int := ⟨RX8, TX8, 21, tyX8, rfl, by decide, h_X8, Or.inl ⟨List.mem_of_getElem? (i := 667) (by decide +kernel), rfl⟩, tyX8_ok, nmX8, rfl, rfl⟩
theorem p_X8_185 : m_fldp RX8 185 8 9 .int := ⟨RX8, TX8, 21, tyX8, rfl, by decide, h_X8, Or.inl ⟨List.mem_of_getElem? (i := 669) (by decide +kernel), rfl⟩, tyX8_ok, nmX8, rfl, rfl⟩
theorem e_X0_beginOf : m_mev k_X0_beginOf 1 := ⟨⟨⟨List.mem_of_getElem? (i := 290) (by decide +kernel), rfl⟩, ⟨List.mem_of_getElem? (i := 64) (by decide +kernel), rfl⟩, by decide +kernel, by decide +kernel, rfl, rfl⟩, ⟨List.mem_of_getElem? (i := 289) (by decide +kernel), rfl⟩, ⟨List.mem_of_getElem? (i := 0) (by decide +kernel), rfl⟩⟩
theorem n_X0_27 : m_lk RX0 27 yX0_beginOf := Or.inl ⟨List.mem_of_getElem? (i := 287) (by decide +kernel), rfl⟩
theorem e_X5_copyTo : m_mev k_X5_copyTo 2 := ⟨⟨⟨List.mem_of_getElem? (i := 294) (by decide +kernel), rfl⟩, ⟨List.mem_of_getElem? (i := 61) (by decide +kernel), rfl⟩, by decide +kernel, by decide +kernel, rfl, rfl⟩, ⟨List.mem_of_getElem? (i := 292) (by decide +kernel), rfl⟩, ⟨List.mem_of_getElem? (i := 293) (by decide +kernel), rfl⟩⟩
theorem n_X0_31 : m_lk RX0 31 yX5_copyTo := Or.inl ⟨List.mem_of_getElem? (i := 291) (by decide +kernel), rfl⟩
theorem e_X5_copyFrom : m_mev k_X5_copyFrom 2 := ⟨⟨⟨List.mem_of_getElem? (i := 591) (by decide +kernel), rfl⟩, ⟨List.mem_of_getElem? (i := 61) (by decide +kernel), rfl⟩, by decide +kernel, by decide +kernel, rfl, rfl⟩, ⟨List.mem_of_getElem? (i := 589) (by decide +kernel), rfl⟩, ⟨List.mem_of_getElem? (i := 590) (by decide +kernel), rfl⟩⟩
theorem n_X0_37 : m_lk RX0 37 yX5_copyFrom := Or.inl ⟨List.mem_of_getElem? (i := 588) (by decide +kernel), rfl⟩
theorem e_X3_put : m_mev k_X3_put 2 := ⟨⟨⟨List.mem_of_getElem? (i := 101) (by decide +kernel), rfl⟩, ⟨List.mem_of_getElem? (i := 62) (by decide +kernel), rfl⟩, by decide +kernel, by decide +kernel, rfl, rfl⟩, ⟨List.mem_of_getElem? (i := 99) (by decide +kernel), rfl⟩, ⟨List.mem_of_getElem? (i := 100) (by decide +kernel), rfl⟩⟩
theorem n_X1_24 : m_lk RX1 24 yX3_put := Or.inl ⟨List.mem_of_getElem? (i := 600) (by decide +kernel), rfl⟩
theorem e_X1_read : m_mev k_X1_read 1 := ⟨⟨⟨List.mem_of_getElem? (i := 616) (by decide +kernel), rfl⟩, ⟨List.mem_of_getElem? (i := 68) (by decide +kernel), rfl⟩, by decide +kernel, by decide +kernel, rfl, rfl⟩, ⟨List.mem_of_getElem? (i := 614) (by decide +kernel), rfl⟩, ⟨List.mem_of_getElem? (i := 615) (by decide +kernel), rfl⟩⟩
theorem n_X1_28 : m_lk RX1 28 yX1_read := Or.inl ⟨List.mem_of_getElem? (i := 613) (by decide +kernel), rfl⟩
theorem e_X1_signAt : m_mev k_X1_signAt 1 := ⟨⟨⟨List.mem_of_getElem? (i := 620) (by decide +kernel), rfl⟩, ⟨List.mem_of_getElem? (i := 68) (by decide +kernel), rfl⟩, by decide +kernel, by decide +kernel, rfl, rfl⟩, ⟨List.mem_of_getElem? (i := 619) (by decide +kernel), rfl⟩, ⟨List.mem_of_getElem? (i := 20) (by decide +kernel), rfl⟩⟩
theorem n_X1_44 : m_lk RX1 44 yX1_signAt := Or.inl ⟨List.mem_of_getElem? (i := 617) (by decide +kernel), rfl⟩
theorem e_X1_readHint : m_mev k_X1_readHint 0 := ⟨⟨⟨List.mem_of_getElem? (i := 625) (by decide +kernel), rfl⟩, ⟨List.mem_of_getElem? (i := 68) (by decide +kernel), rfl⟩, by decide +kernel, by decide +kernel, rfl, rfl⟩, ⟨List.mem_of_getElem? (i := 624) (by decide +kernel), rfl⟩, ⟨List.mem_of_getElem? (i := 21) (by decide +kernel), rfl⟩⟩
theorem n_X1_48 : m_lk RX1 48 yX1_readHint := Or.inl ⟨List.mem_of_getElem? (i := 622) (by decide +kernel), rfl⟩
theorem e_X1_pass : m_mev k_X1_pass 1 := ⟨⟨⟨List.mem_of_getElem? (i := 636) (by decide +kernel), rfl⟩, ⟨List.mem_of_getElem? (i := 68) (by decide +kernel), rfl⟩, by decide +kernel, by decide +kernel, rfl, rfl⟩, ⟨List.mem_of_getElem? (i := 635) (by decide +kernel), rfl⟩, ⟨List.mem_of_getElem? (i := 23) (by decide +kernel), rfl⟩⟩
theorem n_X1_52 : m_lk RX1 52 yX1_pass := Or.inl ⟨List.mem_of_getElem? (i := 633) (by decide +kernel), rfl⟩
theorem e_X1_readMove : m_mev k_X1_readMove 0 := ⟨⟨⟨List.mem_of_getElem? (i := 640) (by decide +kernel), rfl⟩, ⟨List.mem_of_getElem? (i := 68) (by decide +kernel), rfl⟩, by decide +kernel, by decide +kernel, rfl, rfl⟩, ⟨List.mem_of_getElem? (i := 639) (by decide +kernel), rfl⟩, ⟨List.mem_of_getElem? (i := 24) (by decide +kernel), rfl⟩⟩
theorem n_X1_56 : m_lk RX1 56 yX1_readMove := Or.inl ⟨List.mem_of_getElem? (i := 637) (by decide +kernel), rfl⟩
theorem e_X1_readDigits : m_mev k_X1_readDigits 1 := ⟨⟨⟨List.mem_of_getElem? (i := 629) (by decide +kernel), rfl⟩, ⟨List.mem_of_getElem? (i := 68) (by decide +kernel), rfl⟩, by decide +kernel, by decide +kernel, rfl, rfl⟩, ⟨List.mem_of_getElem? (i := 628) (by decide +kernel), rfl⟩, ⟨List.mem_of_getElem? (i := 22) (by decide +kernel), rfl⟩⟩
theorem n_X1_59 : m_lk RX1 59 yX1_readDigits := Or.inl ⟨List.mem_of_getElem? (i := 626) (by decide +kernel), rfl⟩
theorem e_X1_readSigned : m_mev k_X1_readSigned 0 := ⟨⟨⟨List.mem_of_getElem? (i := 644) (by decide +kernel), rfl⟩, ⟨List.mem_of_getElem? (i := 68) (by decide +kernel), rfl⟩, by decide +kernel, by decide +kernel, rfl, rfl⟩, ⟨List.mem_of_getElem? (i := 643) (by decide +kernel), rfl⟩, ⟨List.mem_of_getElem? (i := 25) (by decide +kernel), rfl⟩⟩
theorem n_X1_65 : m_lk RX1 65 yX1_readSigned := Or.inl ⟨List.mem_of_getElem? (i := 641) (by decide +kernel), rfl⟩
theorem e_X1_isDigit : m_mes k_X1_isDigit 1 := ⟨⟨⟨List.mem_of_getElem? (i := 632) (by decide +kernel), rfl⟩, ⟨List.mem_of_getElem? (i := 68) (by decide +kernel), rfl⟩, by decide +kernel, by decide +kernel, rfl, rfl⟩, ⟨List.mem_of_getElem? (i := 631) (by decide +kernel), rfl⟩⟩
theorem n_X1_71 : m_lk RX1 71 yX1_isDigit := Or.inl ⟨List.mem_of_getElem? (i := 630) (by decide +kernel), rfl⟩
theorem e_X3_get : m_mev k_X3_get 1 := ⟨⟨⟨List.mem_of_getElem? (i := 298) (by decide +kernel), rfl⟩, ⟨List.mem_of_getElem? (i := 62) (by decide +kernel), rfl⟩, by decide +kernel, by decide +kernel, rfl, rfl⟩, ⟨List.mem_of_getElem? (i := 296) (by decide +kernel), rfl⟩, ⟨List.mem_of_getElem? (i := 297) (by decide +kernel), rfl⟩⟩
theorem n_X1_74 : m_lk RX1 74 yX3_get := Or.inl ⟨List.mem_of_getElem? (i := 621) (by decide +kernel), rfl⟩
theorem e_X5_hintValue : m_mev k_X5_hintValue 2 := ⟨⟨⟨List.mem_of_getElem? (i := 323) (by decide +kernel), rfl⟩, ⟨List.mem_of_getElem? (i := 61) (by decide +kernel), rfl⟩, by decide +kernel, by decide +kernel, rfl, rfl⟩, ⟨List.mem_of_getElem? (i := 321) (by decide +kernel), rfl⟩, ⟨List.mem_of_getElem? (i := 322) (by decide +kernel), rfl⟩⟩
theorem n_X2_9 : m_lk RX2 9 yX5_hintValue := Or.inl ⟨List.mem_of_getElem? (i := 375) (by decide +kernel), rfl⟩
theorem e_X7_isLevel : m_mes k_X7_isLevel 1 := ⟨⟨⟨List.mem_of_getElem? (i := 378) (by decide +kernel), rfl⟩, ⟨List.mem_of_getElem? (i := 60) (by decide +kernel), rfl⟩, by decide +kernel, by decide +kernel, rfl, rfl⟩, ⟨List.mem_of_getElem? (i := 377) (by decide +kernel), rfl⟩⟩
theorem n_X2_15 : m_lk RX2 15 yX7_isLevel := Or.inr ⟨"HintPlacer", ⟨List.mem_of_getElem? (i := 376) (by decide +kernel), rfl⟩⟩
theorem e_X2_beginAlong : m_mes k_X2_beginAlong 3 := ⟨⟨⟨List.mem_of_getElem? (i := 381) (by decide +kernel), rfl⟩, ⟨List.mem_of_getElem? (i := 67) (by decide +kernel), rfl⟩, by decide +kernel, by decide +kernel, rfl, rfl⟩, ⟨List.mem_of_getElem? (i := 380) (by decide +kernel), rfl⟩⟩
theorem n_X2_19 : m_lk RX2 19 yX2_beginAlong := Or.inl ⟨List.mem_of_getElem? (i := 379) (by decide +kernel), rfl⟩
theorem e_X2_middleAlong : m_mes k_X2_middleAlong 3 := ⟨⟨⟨List.mem_of_getElem? (i := 388) (by decide +kernel), rfl⟩, ⟨List.mem_of_getElem? (i := 67) (by decide +kernel), rfl⟩, by decide +kernel, by decide +kernel, rfl, rfl⟩, ⟨List.mem_of_getElem? (i := 387) (by decide +kernel), rfl⟩⟩
theorem n_X2_25 : m_lk RX2 25 yX2_middleAlong := Or.inl ⟨List.mem_of_getElem? (i := 386) (by decide +kernel), rfl⟩
theorem e_X5_setting : m_mev k_X5_setting 1 := ⟨⟨⟨List.mem_of_getElem? (i := 358) (by decide +kernel), rfl⟩, ⟨List.mem_of_getElem? (i := 61) (by decide +kernel), rfl⟩, by decide +kernel, by decide +kernel, rfl, rfl⟩, ⟨List.mem_of_getElem? (i := 356) (by decide +kernel), rfl⟩, ⟨List.mem_of_getElem? (i := 357) (by decide +kernel), rfl⟩⟩
theorem n_X2_28 : m_lk RX2 28 yX5_setting := Or.inl ⟨List.mem_of_getElem? (i := 389) (by decide +kernel), rfl⟩
theorem e_X5_get : m_mev k_X5_get 1 := ⟨⟨⟨List.mem_of_getElem? (i := 314) (by decide +kernel), rfl⟩, ⟨List.mem_of_getElem? (i := 61) (by decide +kernel), rfl⟩, by decide +kernel, by decide +kernel, rfl, rfl⟩, ⟨List.mem_of_getElem? (i := 312) (by decide +kernel), rfl⟩, ⟨List.mem_of_getElem? (i := 313) (by decide +kernel), rfl⟩⟩
theorem n_X2_36 : m_lk RX2 36 yX5_get := Or.inl ⟨List.mem_of_getElem? (i := 390) (by decide +kernel), rfl⟩
theorem e_X2_shiftInto : m_mes k_X2_shiftInto 6 := ⟨⟨⟨List.mem_of_getElem? (i := 393) (by decide +kernel), rfl⟩, ⟨List.mem_of_getElem? (i := 67) (by decide +kernel), rfl⟩, by decide +kernel, by decide +kernel, rfl, rfl⟩, ⟨List.mem_of_getElem? (i := 392) (by decide +kernel), rfl⟩⟩
theorem n_X2_39 : m_lk RX2 39 yX2_shiftInto := Or.inl ⟨List.mem_of_getElem? (i := 391) (by decide +kernel), rfl⟩
theorem e_X2_isGood : m_mes k_X2_isGood 3 := ⟨⟨⟨List.mem_of_getElem? (i := 397) (by decide +kernel), rfl⟩, ⟨List.mem_of_getElem? (i := 67) (by decide +kernel), rfl⟩, by decide +kernel, by decide +kernel, rfl, rfl⟩, ⟨List.mem_of_getElem? (i := 396) (by decide +kernel), rfl⟩⟩
theorem n_X2_46 : m_lk RX2 46 yX2_isGood := Or.inl ⟨List.mem_of_getElem? (i := 395) (by decide +kernel), rfl⟩
theorem e_X7_edgeBy : m_mes k_X7_edgeBy 3 := ⟨⟨⟨List.mem_of_getElem? (i := 403) (by decide +kernel), rfl⟩, ⟨List.mem_of_getElem? (i := 60) (by decide +kernel), rfl⟩, by decide +kernel, by decide +kernel, rfl, rfl⟩, ⟨List.mem_of_getElem? (i := 402) (by decide +kernel), rfl⟩⟩
theorem n_X2_54 : m_lk RX2 54 yX7_edgeBy := Or.inr ⟨"HintPlacer", ⟨List.mem_of_getElem? (i := 401) (by decide +kernel), rfl⟩⟩
theorem e_X7_isBefore : m_mes k_X7_isBefore 1 := ⟨⟨⟨List.mem_of_getElem? (i := 409) (by decide +kernel), rfl⟩, ⟨List.mem_of_getElem? (i := 60) (by decide +kernel), rfl⟩, by decide +kernel, by decide +kernel, rfl, rfl⟩, ⟨List.mem_of_getElem? (i := 408) (by decide +kernel), rfl⟩⟩
theorem n_X2_58 : m_lk RX2 58 yX7_isBefore := Or.inr ⟨"HintPlacer", ⟨List.mem_of_getElem? (i := 410) (by decide +kernel), rfl⟩⟩
theorem e_X7_spanLiesIn : m_mes k_X7_spanLiesIn 4 := ⟨⟨⟨List.mem_of_getElem? (i := 413) (by decide +kernel), rfl⟩, ⟨List.mem_of_getElem? (i := 60) (by decide +kernel), rfl⟩, by decide +kernel, by decide +kernel, rfl, rfl⟩, ⟨List.mem_of_getElem? (i := 412) (by decide +kernel), rfl⟩⟩
theorem n_X2_67 : m_lk RX2 67 yX7_spanLiesIn := Or.inr ⟨"HintPlacer", ⟨List.mem_of_getElem? (i := 411) (by decide +kernel), rfl⟩⟩
theorem e_X5_anchorValue : m_mev k_X5_anchorValue 2 := ⟨⟨⟨List.mem_of_getElem? (i := 351) (by decide +kernel), rfl⟩, ⟨List.mem_of_getElem? (i := 61) (by decide +kernel), rfl⟩, by decide +kernel, by decide +kernel, rfl, rfl⟩, ⟨List.mem_of_getElem? (i := 349) (by decide +kernel), rfl⟩, ⟨List.mem_of_getElem? (i := 350) (by decide +kernel), rfl⟩⟩
theorem n_X2_74 : m_lk RX2 74 yX5_anchorValue := Or.inl ⟨List.mem_of_getElem? (i := 382) (by decide +kernel), rfl⟩
theorem e_J9_floorDiv_7cf53 : m_mes k_J9_floorDiv_7cf53 2 := ⟨⟨⟨List.mem_of_getElem? (i := 385) (by decide +kernel), rfl⟩, ⟨List.mem_of_getElem? (i := 63) (by decide +kernel), rfl⟩, by decide +kernel, by decide +kernel, rfl, rfl⟩, ⟨List.mem_of_getElem? (i := 384) (by decide +kernel), rfl⟩⟩
theorem n_X2_77 : m_lk RX2 77 yJ9_floorDiv_7cf53 := Or.inl ⟨List.mem_of_getElem? (i := 383) (by decide +kernel), rfl⟩
theorem e_J9_max_7cf53 : m_mes k_J9_max_7cf53 2 := ⟨⟨⟨List.mem_of_getElem? (i := 92) (by decide +kernel), rfl⟩, ⟨List.mem_of_getElem? (i := 63) (by decide +kernel), rfl⟩, by decide +kernel, by decide +kernel, rfl, rfl⟩, ⟨List.mem_of_getElem? (i := 91) (by decide +kernel), rfl⟩⟩
theorem n_X2_82 : m_lk RX2 82 yJ9_max_7cf53 := Or.inl ⟨List.mem_of_getElem? (i := 394) (by decide +kernel), rfl⟩
theorem e_J9_min_7cf53 : m_mes k_J9_min_7cf53 2 := ⟨⟨⟨List.mem_of_getElem? (i := 400) (by decide +kernel), rfl⟩, ⟨List.mem_of_getElem? (i := 63) (by decide +kernel), rfl⟩, by decide +kernel, by decide +kernel, rfl, rfl⟩, ⟨List.mem_of_getElem? (i := 399) (by decide +kernel), rfl⟩⟩
theorem n_X2_85 : m_lk RX2 85 yJ9_min_7cf53 := Or.inl ⟨List.mem_of_getElem? (i := 398) (by decide +kernel), rfl⟩
theorem n_X3_7 : m_lk RX3 7 yJ9_max_7cf53 := Or.inl ⟨List.mem_of_getElem? (i := 90) (by decide +kernel), rfl⟩
theorem e_X4_orderOpenHints : m_mev k_X4_orderOpenHints 1 := ⟨⟨⟨List.mem_of_getElem? (i := 310) (by decide +kernel), rfl⟩, ⟨List.mem_of_getElem? (i := 65) (by decide +kernel), rfl⟩, by decide +kernel, by decide +kernel, rfl, rfl⟩, ⟨List.mem_of_getElem? (i := 309) (by decide +kernel), rfl⟩, ⟨List.mem_of_getElem? (i := 1) (by decide +kernel), rfl⟩⟩
theorem n_X4_50 : m_lk RX4 50 yX4_orderOpenHints := Or.inl ⟨List.mem_of_getElem? (i := 307) (by decide +kernel), rfl⟩
theorem n_X4_54 : m_lk RX4 54 yX3_get := Or.inl ⟨List.mem_of_getElem? (i := 334) (by decide +kernel), rfl⟩
theorem e_X4_tryToShow : m_mev k_X4_tryToShow 2 := ⟨⟨⟨List.mem_of_getElem? (i := 338) (by decide +kernel), rfl⟩, ⟨List.mem_of_getElem? (i := 65) (by decide +kernel), rfl⟩, by decide +kernel, by decide +kernel, rfl, rfl⟩, ⟨List.mem_of_getElem? (i := 337) (by decide +kernel), rfl⟩, ⟨List.mem_of_getElem? (i := 3) (by decide +kernel), rfl⟩⟩
theorem n_X4_58 : m_lk RX4 58 yX4_tryToShow := Or.inl ⟨List.mem_of_getElem? (i := 335) (by decide +kernel), rfl⟩
theorem n_X4_62 : m_lk RX4 62 yX3_put := Or.inl ⟨List.mem_of_getElem? (i := 315) (by decide +kernel), rfl⟩
theorem n_X4_66 : m_lk RX4 66 yX5_get := Or.inl ⟨List.mem_of_getElem? (i := 311) (by decide +kernel), rfl⟩
theorem e_X5_isOpen : m_mev k_X5_isOpen 1 := ⟨⟨⟨List.mem_of_getElem? (i := 319) (by decide +kernel), rfl⟩, ⟨List.mem_of_getElem? (i := 61) (by decide +kernel), rfl⟩, by decide +kernel, by decide +kernel, rfl, rfl⟩, ⟨List.mem_of_getElem? (i := 317) (by decide +kernel), rfl⟩, ⟨List.mem_of_getElem? (i := 318) (by decide +kernel), rfl⟩⟩
theorem n_X4_69 : m_lk RX4 69 yX5_isOpen := Or.inl ⟨List.mem_of_getElem? (i := 316) (by decide +kernel), rfl⟩
theorem e_X5_turn : m_mev k_X5_turn 1 := ⟨⟨⟨List.mem_of_getElem? (i := 327) (by decide +kernel), rfl⟩, ⟨List.mem_of_getElem? (i := 61) (by decide +kernel), rfl⟩, by decide +kernel, by decide +kernel, rfl, rfl⟩, ⟨List.mem_of_getElem? (i := 325) (by decide +kernel), rfl⟩, ⟨List.mem_of_getElem? (i := 326) (by decide +kernel), rfl⟩⟩
theorem n_X4_73 : m_lk RX4 73 yX5_turn := Or.inl ⟨List.mem_of_getElem? (i := 324) (by decide +kernel), rfl⟩
theorem n_X4_76 : m_lk RX4 76 yX5_hintValue := Or.inl ⟨List.mem_of_getElem? (i := 339) (by decide +kernel), rfl⟩
theorem e_X5_isAnchorInSight : m_mev k_X5_isAnchorInSight 1 := ⟨⟨⟨List.mem_of_getElem? (i := 343) (by decide +kernel), rfl⟩, ⟨List.mem_of_getElem? (i := 61) (by decide +kernel), rfl⟩, by decide +kernel, by decide +kernel, rfl, rfl⟩, ⟨List.mem_of_getElem? (i := 341) (by decide +kernel), rfl⟩, ⟨List.mem_of_getElem? (i := 342) (by decide +kernel), rfl⟩⟩
theorem n_X4_80 : m_lk RX4 80 yX5_isAnchorInSight := Or.inl ⟨List.mem_of_getElem? (i := 340) (by decide +kernel), rfl⟩
theorem n_X4_83 : m_lk RX4 83 yX5_setting := Or.inl ⟨List.mem_of_getElem? (i := 355) (by decide +kernel), rfl⟩
theorem e_X6_list : m_mev k_X6_list 2 := ⟨⟨⟨List.mem_of_getElem? (i := 362) (by decide +kernel), rfl⟩, ⟨List.mem_of_getElem? (i := 66) (by decide +kernel), rfl⟩, by decide +kernel, by decide +kernel, rfl, rfl⟩, ⟨List.mem_of_getElem? (i := 360) (by decide +kernel), rfl⟩, ⟨List.mem_of_getElem? (i := 361) (by decide +kernel), rfl⟩⟩
theorem n_X4_86 : m_lk RX4 86 yX6_list := Or.inl ⟨List.mem_of_getElem? (i := 359) (by decide +kernel), rfl⟩
theorem e_X2_find : m_mev k_X2_find 5 := ⟨⟨⟨List.mem_of_getElem? (i := 374) (by decide +kernel), rfl⟩, ⟨List.mem_of_getElem? (i := 67) (by decide +kernel), rfl⟩, by decide +kernel, by decide +kernel, rfl, rfl⟩, ⟨List.mem_of_getElem? (i := 372) (by decide +kernel), rfl⟩, ⟨List.mem_of_getElem? (i := 373) (by decide +kernel), rfl⟩⟩
theorem n_X4_94 : m_lk RX4 94 yX2_find := Or.inl ⟨List.mem_of_getElem? (i := 371) (by decide +kernel), rfl⟩
theorem e_X4_isFree : m_mev k_X4_isFree 2 := ⟨⟨⟨List.mem_of_getElem? (i := 417) (by decide +kernel), rfl⟩, ⟨List.mem_of_getElem? (i := 65) (by decide +kernel), rfl⟩, by decide +kernel, by decide +kernel, rfl, rfl⟩, ⟨List.mem_of_getElem? (i := 416) (by decide +kernel), rfl⟩, ⟨List.mem_of_getElem? (i := 5) (by decide +kernel), rfl⟩⟩
theorem n_X4_102 : m_lk RX4 102 yX4_isFree := Or.inl ⟨List.mem_of_getElem? (i := 414) (by decide +kernel), rfl⟩
theorem e_X4_shownThatMeets : m_mev k_X4_shownThatMeets 5 := ⟨⟨⟨List.mem_of_getElem? (i := 421) (by decide +kernel), rfl⟩, ⟨List.mem_of_getElem? (i := 65) (by decide +kernel), rfl⟩, by decide +kernel, by decide +kernel, rfl, rfl⟩, ⟨List.mem_of_getElem? (i := 419) (by decide +kernel), rfl⟩, ⟨List.mem_of_getElem? (i := 420) (by decide +kernel), rfl⟩⟩
theorem n_X4_112 : m_lk RX4 112 yX4_shownThatMeets := Or.inl ⟨List.mem_of_getElem? (i := 418) (by decide +kernel), rfl⟩
theorem e_X5_anchorMeets : m_mev k_X5_anchorMeets 5 := ⟨⟨⟨List.mem_of_getElem? (i := 347) (by decide +kernel), rfl⟩, ⟨List.mem_of_getElem? (i := 61) (by decide +kernel), rfl⟩, by decide +kernel, by decide +kernel, rfl, rfl⟩, ⟨List.mem_of_getElem? (i := 345) (by decide +kernel), rfl⟩, ⟨List.mem_of_getElem? (i := 346) (by decide +kernel), rfl⟩⟩
theorem n_X4_116 : m_lk RX4 116 yX5_anchorMeets := Or.inl ⟨List.mem_of_getElem? (i := 423) (by decide +kernel), rfl⟩
theorem e_X7_spansMeet : m_mes k_X7_spansMeet 4 := ⟨⟨⟨List.mem_of_getElem? (i := 354) (by decide +kernel), rfl⟩, ⟨List.mem_of_getElem? (i := 60) (by decide +kernel), rfl⟩, by decide +kernel, by decide +kernel, rfl, rfl⟩, ⟨List.mem_of_getElem? (i := 353) (by decide +kernel), rfl⟩⟩
theorem n_X4_120 : m_lk RX4 120 yX7_spansMeet := Or.inr ⟨"HintPlacer", ⟨List.mem_of_getElem? (i := 422) (by decide +kernel), rfl⟩⟩
theorem n_X5_20 : m_lk RX5 20 yX3_put := Or.inl ⟨List.mem_of_getElem? (i := 98) (by decide +kernel), rfl⟩
theorem n_X5_24 : m_lk RX5 24 yX3_get := Or.inl ⟨List.mem_of_getElem? (i := 295) (by decide +kernel), rfl⟩
theorem n_X5_28 : m_lk RX5 28 yX5_hintValue := Or.inl ⟨List.mem_of_getElem? (i := 320) (by decide +kernel), rfl⟩
theorem n_X5_32 : m_lk RX5 32 yX5_get := Or.inl ⟨List.mem_of_getElem? (i := 328) (by decide +kernel), rfl⟩
theorem n_X5_33 : m_lk RX5 33 yX5_anchorMeets := Or.inl ⟨List.mem_of_getElem? (i := 344) (by decide +kernel), rfl⟩
theorem n_X5_37 : m_lk RX5 37 yX5_anchorValue := Or.inl ⟨List.mem_of_getElem? (i := 348) (by decide +kernel), rfl⟩
theorem n_X5_40 : m_lk RX5 40 yX7_spansMeet := Or.inr ⟨"HintPlacer", ⟨List.mem_of_getElem? (i := 352) (by decide +kernel), rfl⟩⟩
theorem n_X5_44 : m_lk RX5 44 yX5_isOpen := Or.inl ⟨List.mem_of_getElem? (i := 329) (by decide +kernel), rfl⟩
theorem e_X5_goesBefore : m_mev k_X5_goesBefore 2 := ⟨⟨⟨List.mem_of_getElem? (i := 333) (by decide +kernel), rfl⟩, ⟨List.mem_of_getElem? (i := 61) (by decide +kernel), rfl⟩, by decide +kernel, by decide +kernel, rfl, rfl⟩, ⟨List.mem_of_getElem? (i := 332) (by decide +kernel), rfl⟩, ⟨List.mem_of_getElem? (i := 2) (by decide +kernel), rfl⟩⟩
theorem n_X5_48 : m_lk RX5 48 yX5_goesBefore := Or.inl ⟨List.mem_of_getElem? (i := 330) (by decide +kernel), rfl⟩
theorem n_X6_24 : m_lk RX6 24 yX5_hintValue := Or.inl ⟨List.mem_of_getElem? (i := 363) (by decide +kernel), rfl⟩
theorem n_X6_30 : m_lk RX6 30 yX5_setting := Or.inl ⟨List.mem_of_getElem? (i := 364) (by decide +kernel), rfl⟩
theorem e_X6_add : m_mev k_X6_add 1 := ⟨⟨⟨List.mem_of_getElem? (i := 368) (by decide +kernel), rfl⟩, ⟨List.mem_of_getElem? (i := 66) (by decide +kernel), rfl⟩, by decide +kernel, by decide +kernel, rfl, rfl⟩, ⟨List.mem_of_getElem? (i := 367) (by decide +kernel), rfl⟩, ⟨List.mem_of_getElem? (i := 4) (by decide +kernel), rfl⟩⟩
theorem n_X6_34 : m_lk RX6 34 yX6_add := Or.inl ⟨List.mem_of_getElem? (i := 365) (by decide +kernel), rfl⟩
theorem n_X6_37 : m_lk RX6 37 yX3_get := Or.inl ⟨List.mem_of_getElem? (i := 369) (by decide +kernel), rfl⟩
theorem n_X6_40 : m_lk RX6 40 yX3_put := Or.inl ⟨List.mem_of_getElem? (i := 370) (by decide +kernel), rfl⟩
theorem e_X7_isViewSize : m_mes k_X7_isViewSize 1 := ⟨⟨⟨List.mem_of_getElem? (i := 282) (by decide +kernel), rfl⟩, ⟨List.mem_of_getElem? (i := 60) (by decide +kernel), rfl⟩, by decide +kernel, by decide +kernel, rfl, rfl⟩, ⟨List.mem_of_getElem? (i := 281) (by decide +kernel), rfl⟩⟩
theorem n_X7_51 : m_lk RX7 51 yX7_isViewSize := Or.inl ⟨List.mem_of_getElem? (i := 280) (by decide +kernel), rfl⟩
theorem e_X0_keep : m_mev k_X0_keep 1 := ⟨⟨⟨List.mem_of_getElem? (i := 286) (by decide +kernel), rfl⟩, ⟨List.mem_of_getElem? (i := 64) (by decide +kernel), rfl⟩, by decide +kernel, by decide +kernel, rfl, rfl⟩, ⟨List.mem_of_getElem? (i := 284) (by decide +kernel), rfl⟩, ⟨List.mem_of_getElem? (i := 285) (by decide +kernel), rfl⟩⟩
theorem n_X7_55 : m_lk RX7 55 yX0_keep := Or.inl ⟨List.mem_of_getElem? (i := 283) (by decide +kernel), rfl⟩
theorem e_X5_put : m_mev k_X5_put 2 := ⟨⟨⟨List.mem_of_getElem? (i := 302) (by decide +kernel), rfl⟩, ⟨List.mem_of_getElem? (i := 61) (by decide +kernel), rfl⟩, by decide +kernel, by decide +kernel, rfl, rfl⟩, ⟨List.mem_of_getElem? (i := 300) (by decide +kernel), rfl⟩, ⟨List.mem_of_getElem? (i := 301) (by decide +kernel), rfl⟩⟩
theorem n_X7_59 : m_lk RX7 59 yX5_put := Or.inl ⟨List.mem_of_getElem? (i := 299) (by decide +kernel), rfl⟩
theorem e_X4_arrange : m_mev k_X4_arrange 1 := ⟨⟨⟨List.mem_of_getElem? (i := 306) (by decide +kernel), rfl⟩, ⟨List.mem_of_getElem? (i := 65) (by decide +kernel), rfl⟩, by decide +kernel, by decide +kernel, rfl, rfl⟩, ⟨List.mem_of_getElem? (i := 304) (by decide +kernel), rfl⟩, ⟨List.mem_of_getElem? (i := 305) (by decide +kernel), rfl⟩⟩
theorem n_X7_63 : m_lk RX7 63 yX4_arrange := Or.inl ⟨List.mem_of_getElem? (i := 303) (by decide +kernel), rfl⟩
theorem e_X7_isWithin : m_mes k_X7_isWithin 2 := ⟨⟨⟨List.mem_of_getElem? (i := 430) (by decide +kernel), rfl⟩, ⟨List.mem_of_getElem? (i := 60) (by decide +kernel), rfl⟩, by decide +kernel, by decide +kernel, rfl, rfl⟩, ⟨List.mem_of_getElem? (i := 429) (by decide +kernel), rfl⟩⟩
theorem n_X7_67 : m_lk RX7 67 yX7_isWithin := Or.inl ⟨List.mem_of_getElem? (i := 428) (by decide +kernel), rfl⟩
theorem e_X7_canMoveView : m_mev k_X7_canMoveView 2 := ⟨⟨⟨List.mem_of_getElem? (i := 434) (by decide +kernel), rfl⟩, ⟨List.mem_of_getElem? (i := 60) (by decide +kernel), rfl⟩, by decide +kernel, by decide +kernel, rfl, rfl⟩, ⟨List.mem_of_getElem? (i := 433) (by decide +kernel), rfl⟩, ⟨List.mem_of_getElem? (i := 6) (by decide +kernel), rfl⟩⟩
theorem n_X7_71 : m_lk RX7 71 yX7_canMoveView := Or.inl ⟨List.mem_of_getElem? (i := 431) (by decide +kernel), rfl⟩
theorem e_X7_moveView : m_mev k_X7_moveView 2 := ⟨⟨⟨List.mem_of_getElem? (i := 439) (by decide +kernel), rfl⟩, ⟨List.mem_of_getElem? (i := 60) (by decide +kernel), rfl⟩, by decide +kernel, by decide +kernel, rfl, rfl⟩, ⟨List.mem_of_getElem? (i := 438) (by decide +kernel), rfl⟩, ⟨List.mem_of_getElem? (i := 7) (by decide +kernel), rfl⟩⟩
theorem n_X7_74 : m_lk RX7 74 yX7_moveView := Or.inl ⟨List.mem_of_getElem? (i := 436) (by decide +kernel), rfl⟩
theorem e_X7_isSize : m_mes k_X7_isSize 1 := ⟨⟨⟨List.mem_of_getElem? (i := 446) (by decide +kernel), rfl⟩, ⟨List.mem_of_getElem? (i := 60) (by decide +kernel), rfl⟩, by decide +kernel, by decide +kernel, rfl, rfl⟩, ⟨List.mem_of_getElem? (i := 445) (by decide +kernel), rfl⟩⟩
theorem n_X7_77 : m_lk RX7 77 yX7_isSize := Or.inl ⟨List.mem_of_getElem? (i := 444) (by decide +kernel), rfl⟩
theorem n_X7_80 : m_lk RX7 80 yX5_get := Or.inl ⟨List.mem_of_getElem? (i := 435) (by decide +kernel), rfl⟩
theorem e_X5_putAnchorValue : m_mev k_X5_putAnchorValue 3 := ⟨⟨⟨List.mem_of_getElem? (i := 450) (by decide +kernel), rfl⟩, ⟨List.mem_of_getElem? (i := 61) (by decide +kernel), rfl⟩, by decide +kernel, by decide +kernel, rfl, rfl⟩, ⟨List.mem_of_getElem? (i := 448) (by decide +kernel), rfl⟩, ⟨List.mem_of_getElem? (i := 449) (by decide +kernel), rfl⟩⟩
theorem n_X7_84 : m_lk RX7 84 yX5_putAnchorValue := Or.inl ⟨List.mem_of_getElem? (i := 447) (by decide +kernel), rfl⟩
theorem e_X7_isAnchor : m_mev k_X7_isAnchor 1 := ⟨⟨⟨List.mem_of_getElem? (i := 458) (by decide +kernel), rfl⟩, ⟨List.mem_of_getElem? (i := 60) (by decide +kernel), rfl⟩, by decide +kernel, by decide +kernel, rfl, rfl⟩, ⟨List.mem_of_getElem? (i := 457) (by decide +kernel), rfl⟩, ⟨List.mem_of_getElem? (i := 8) (by decide +kernel), rfl⟩⟩
theorem n_X7_88 : m_lk RX7 88 yX7_isAnchor := Or.inl ⟨List.mem_of_getElem? (i := 455) (by decide +kernel), rfl⟩
theorem n_X7_91 : m_lk RX7 91 yX5_anchorValue := Or.inl ⟨List.mem_of_getElem? (i := 405) (by decide +kernel), rfl⟩
theorem n_X7_95 : m_lk RX7 95 yX5_isAnchorInSight := Or.inl ⟨List.mem_of_getElem? (i := 463) (by decide +kernel), rfl⟩
theorem e_X7_countHintsOf : m_mev k_X7_countHintsOf 2 := ⟨⟨⟨List.mem_of_getElem? (i := 467) (by decide +kernel), rfl⟩, ⟨List.mem_of_getElem? (i := 60) (by decide +kernel), rfl⟩, by decide +kernel, by decide +kernel, rfl, rfl⟩, ⟨List.mem_of_getElem? (i := 466) (by decide +kernel), rfl⟩, ⟨List.mem_of_getElem? (i := 9) (by decide +kernel), rfl⟩⟩
theorem n_X7_98 : m_lk RX7 98 yX7_countHintsOf := Or.inl ⟨List.mem_of_getElem? (i := 464) (by decide +kernel), rfl⟩
theorem e_X7_lowestSetting : m_mes k_X7_lowestSetting 1 := ⟨⟨⟨List.mem_of_getElem? (i := 476) (by decide +kernel), rfl⟩, ⟨List.mem_of_getElem? (i := 60) (by decide +kernel), rfl⟩, by decide +kernel, by decide +kernel, rfl, rfl⟩, ⟨List.mem_of_getElem? (i := 475) (by decide +kernel), rfl⟩⟩
theorem n_X7_102 : m_lk RX7 102 yX7_lowestSetting := Or.inl ⟨List.mem_of_getElem? (i := 474) (by decide +kernel), rfl⟩
theorem e_X7_highestSetting : m_mes k_X7_highestSetting 1 := ⟨⟨⟨List.mem_of_getElem? (i := 479) (by decide +kernel), rfl⟩, ⟨List.mem_of_getElem? (i := 60) (by decide +kernel), rfl⟩, by decide +kernel, by decide +kernel, rfl, rfl⟩, ⟨List.mem_of_getElem? (i := 478) (by decide +kernel), rfl⟩⟩
theorem n_X7_105 : m_lk RX7 105 yX7_highestSetting := Or.inl ⟨List.mem_of_getElem? (i := 477) (by decide +kernel), rfl⟩
theorem n_X7_108 : m_lk RX7 108 yX5_setting := Or.inl ⟨List.mem_of_getElem? (i := 406) (by decide +kernel), rfl⟩
theorem e_X7_countOpen : m_mev k_X7_countOpen 0 := ⟨⟨⟨List.mem_of_getElem? (i := 487) (by decide +kernel), rfl⟩, ⟨List.mem_of_getElem? (i := 60) (by decide +kernel), rfl⟩, by decide +kernel, by decide +kernel, rfl, rfl⟩, ⟨List.mem_of_getElem? (i := 486) (by decide +kernel), rfl⟩, ⟨List.mem_of_getElem? (i := 10) (by decide +kernel), rfl⟩⟩
theorem n_X7_111 : m_lk RX7 111 yX7_countOpen := Or.inl ⟨List.mem_of_getElem? (i := 484) (by decide +kernel), rfl⟩
theorem e_X7_countRemembered : m_mev k_X7_countRemembered 0 := ⟨⟨⟨List.mem_of_getElem? (i := 492) (by decide +kernel), rfl⟩, ⟨List.mem_of_getElem? (i := 60) (by decide +kernel), rfl⟩, by decide +kernel, by decide +kernel, rfl, rfl⟩, ⟨List.mem_of_getElem? (i := 491) (by decide +kernel), rfl⟩, ⟨List.mem_of_getElem? (i := 11) (by decide +kernel), rfl⟩⟩
theorem n_X7_119 : m_lk RX7 119 yX7_countRemembered := Or.inl ⟨List.mem_of_getElem? (i := 489) (by decide +kernel), rfl⟩
theorem e_X7_countCovered : m_mev k_X7_countCovered 0 := ⟨⟨⟨List.mem_of_getElem? (i := 496) (by decide +kernel), rfl⟩, ⟨List.mem_of_getElem? (i := 60) (by decide +kernel), rfl⟩, by decide +kernel, by decide +kernel, rfl, rfl⟩, ⟨List.mem_of_getElem? (i := 495) (by decide +kernel), rfl⟩, ⟨List.mem_of_getElem? (i := 12) (by decide +kernel), rfl⟩⟩
theorem n_X7_128 : m_lk RX7 128 yX7_countCovered := Or.inl ⟨List.mem_of_getElem? (i := 493) (by decide +kernel), rfl⟩
theorem e_X7_isSide : m_mes k_X7_isSide 1 := ⟨⟨⟨List.mem_of_getElem? (i := 503) (by decide +kernel), rfl⟩, ⟨List.mem_of_getElem? (i := 60) (by decide +kernel), rfl⟩, by decide +kernel, by decide +kernel, rfl, rfl⟩, ⟨List.mem_of_getElem? (i := 502) (by decide +kernel), rfl⟩⟩
theorem n_X7_131 : m_lk RX7 131 yX7_isSide := Or.inl ⟨List.mem_of_getElem? (i := 501) (by decide +kernel), rfl⟩
theorem e_X7_highestValue : m_mev k_X7_highestValue 1 := ⟨⟨⟨List.mem_of_getElem? (i := 507) (by decide +kernel), rfl⟩, ⟨List.mem_of_getElem? (i := 60) (by decide +kernel), rfl⟩, by decide +kernel, by decide +kernel, rfl, rfl⟩, ⟨List.mem_of_getElem? (i := 506) (by decide +kernel), rfl⟩, ⟨List.mem_of_getElem? (i := 13) (by decide +kernel), rfl⟩⟩
theorem n_X7_134 : m_lk RX7 134 yX7_highestValue := Or.inl ⟨List.mem_of_getElem? (i := 504) (by decide +kernel), rfl⟩
theorem e_X5_putHintValue : m_mev k_X5_putHintValue 3 := ⟨⟨⟨List.mem_of_getElem? (i := 511) (by decide +kernel), rfl⟩, ⟨List.mem_of_getElem? (i := 61) (by decide +kernel), rfl⟩, by decide +kernel, by decide +kernel, rfl, rfl⟩, ⟨List.mem_of_getElem? (i := 509) (by decide +kernel), rfl⟩, ⟨List.mem_of_getElem? (i := 510) (by decide +kernel), rfl⟩⟩
theorem n_X7_137 : m_lk RX7 137 yX5_putHintValue := Or.inl ⟨List.mem_of_getElem? (i := 508) (by decide +kernel), rfl⟩
theorem e_X7_isHint : m_mev k_X7_isHint 1 := ⟨⟨⟨List.mem_of_getElem? (i := 519) (by decide +kernel), rfl⟩, ⟨List.mem_of_getElem? (i := 60) (by decide +kernel), rfl⟩, by decide +kernel, by decide +kernel, rfl, rfl⟩, ⟨List.mem_of_getElem? (i := 518) (by decide +kernel), rfl⟩, ⟨List.mem_of_getElem? (i := 14) (by decide +kernel), rfl⟩⟩
theorem n_X7_140 : m_lk RX7 140 yX7_isHint := Or.inl ⟨List.mem_of_getElem? (i := 516) (by decide +kernel), rfl⟩
theorem e_X7_lowestValue : m_mes k_X7_lowestValue 1 := ⟨⟨⟨List.mem_of_getElem? (i := 522) (by decide +kernel), rfl⟩, ⟨List.mem_of_getElem? (i := 60) (by decide +kernel), rfl⟩, by decide +kernel, by decide +kernel, rfl, rfl⟩, ⟨List.mem_of_getElem? (i := 521) (by decide +kernel), rfl⟩⟩
theorem n_X7_143 : m_lk RX7 143 yX7_lowestValue := Or.inl ⟨List.mem_of_getElem? (i := 520) (by decide +kernel), rfl⟩
theorem n_X7_146 : m_lk RX7 146 yX5_hintValue := Or.inl ⟨List.mem_of_getElem? (i := 469) (by decide +kernel), rfl⟩
theorem n_X7_149 : m_lk RX7 149 yX5_isOpen := Or.inl ⟨List.mem_of_getElem? (i := 488) (by decide +kernel), rfl⟩
theorem e_X7_openHint : m_mev k_X7_openHint 1 := ⟨⟨⟨List.mem_of_getElem? (i := 530) (by decide +kernel), rfl⟩, ⟨List.mem_of_getElem? (i := 60) (by decide +kernel), rfl⟩, by decide +kernel, by decide +kernel, rfl, rfl⟩, ⟨List.mem_of_getElem? (i := 529) (by decide +kernel), rfl⟩, ⟨List.mem_of_getElem? (i := 15) (by decide +kernel), rfl⟩⟩
theorem n_X7_152 : m_lk RX7 152 yX7_openHint := Or.inl ⟨List.mem_of_getElem? (i := 527) (by decide +kernel), rfl⟩
theorem n_X7_160 : m_lk RX7 160 yX3_get := Or.inl ⟨List.mem_of_getElem? (i := 468) (by decide +kernel), rfl⟩
theorem e_X7_closeHint : m_mev k_X7_closeHint 1 := ⟨⟨⟨List.mem_of_getElem? (i := 538) (by decide +kernel), rfl⟩, ⟨List.mem_of_getElem? (i := 60) (by decide +kernel), rfl⟩, by decide +kernel, by decide +kernel, rfl, rfl⟩, ⟨List.mem_of_getElem? (i := 537) (by decide +kernel), rfl⟩, ⟨List.mem_of_getElem? (i := 16) (by decide +kernel), rfl⟩⟩
theorem n_X7_163 : m_lk RX7 163 yX7_closeHint := Or.inl ⟨List.mem_of_getElem? (i := 535) (by decide +kernel), rfl⟩
theorem e_X7_rememberSides : m_mev k_X7_rememberSides 0 := ⟨⟨⟨List.mem_of_getElem? (i := 546) (by decide +kernel), rfl⟩, ⟨List.mem_of_getElem? (i := 60) (by decide +kernel), rfl⟩, by decide +kernel, by decide +kernel, rfl, rfl⟩, ⟨List.mem_of_getElem? (i := 545) (by decide +kernel), rfl⟩, ⟨List.mem_of_getElem? (i := 17) (by decide +kernel), rfl⟩⟩
theorem n_X7_166 : m_lk RX7 166 yX7_rememberSides := Or.inl ⟨List.mem_of_getElem? (i := 543) (by decide +kernel), rfl⟩
theorem n_X7_169 : m_lk RX7 169 yX5_turn := Or.inl ⟨List.mem_of_getElem? (i := 551) (by decide +kernel), rfl⟩
theorem e_X7_shownValue : m_mev k_X7_shownValue 2 := ⟨⟨⟨List.mem_of_getElem? (i := 555) (by decide +kernel), rfl⟩, ⟨List.mem_of_getElem? (i := 60) (by decide +kernel), rfl⟩, by decide +kernel, by decide +kernel, rfl, rfl⟩, ⟨List.mem_of_getElem? (i := 554) (by decide +kernel), rfl⟩, ⟨List.mem_of_getElem? (i := 18) (by decide +kernel), rfl⟩⟩
theorem n_X7_172 : m_lk RX7 172 yX7_shownValue := Or.inl ⟨List.mem_of_getElem? (i := 552) (by decide +kernel), rfl⟩
theorem n_X7_175 : m_lk RX7 175 yX7_isLevel := Or.inl ⟨List.mem_of_getElem? (i := 404) (by decide +kernel), rfl⟩
theorem n_X7_178 : m_lk RX7 178 yX7_edgeBy := Or.inl ⟨List.mem_of_getElem? (i := 561) (by decide +kernel), rfl⟩
theorem n_X7_182 : m_lk RX7 182 yX7_isBefore := Or.inl ⟨List.mem_of_getElem? (i := 407) (by decide +kernel), rfl⟩
theorem n_X7_185 : m_lk RX7 185 yX2_find := Or.inl ⟨List.mem_of_getElem? (i := 556) (by decide +kernel), rfl⟩
theorem n_X7_205 : m_lk RX7 205 yX4_shownThatMeets := Or.inl ⟨List.mem_of_getElem? (i := 570) (by decide +kernel), rfl⟩
theorem n_X7_209 : m_lk RX7 209 yX6_list := Or.inl ⟨List.mem_of_getElem? (i := 575) (by decide +kernel), rfl⟩
theorem e_X7_isInSightOnATry : m_mev k_X7_isInSightOnATry 3 := ⟨⟨⟨List.mem_of_getElem? (i := 579) (by decide +kernel), rfl⟩, ⟨List.mem_of_getElem? (i := 60) (by decide +kernel), rfl⟩, by decide +kernel, by decide +kernel, rfl, rfl⟩, ⟨List.mem_of_getElem? (i := 578) (by decide +kernel), rfl⟩, ⟨List.mem_of_getElem? (i := 19) (by decide +kernel), rfl⟩⟩
theorem n_X7_213 : m_lk RX7 213 yX7_isInSightOnATry := Or.inl ⟨List.mem_of_getElem? (i := 576) (by decide +kernel), rfl⟩
theorem e_X0_restore : m_mev k_X0_restore 1 := ⟨⟨⟨List.mem_of_getElem? (i := 587) (by decide +kernel), rfl⟩, ⟨List.mem_of_getElem? (i := 64) (by decide +kernel), rfl⟩, by decide +kernel, by decide +kernel, rfl, rfl⟩, ⟨List.mem_of_getElem? (i := 585) (by decide +kernel), rfl⟩, ⟨List.mem_of_getElem? (i := 586) (by decide +kernel), rfl⟩⟩
theorem n_X7_217 : m_lk RX7 217 yX0_restore := Or.inl ⟨List.mem_of_getElem? (i := 584) (by decide +kernel), rfl⟩
theorem e_X1_append : m_mev k_X1_append 1 := ⟨⟨⟨List.mem_of_getElem? (i := 599) (by decide +kernel), rfl⟩, ⟨List.mem_of_getElem? (i := 68) (by decide +kernel), rfl⟩, by decide +kernel, by decide +kernel, rfl, rfl⟩, ⟨List.mem_of_getElem? (i := 597) (by decide +kernel), rfl⟩, ⟨List.mem_of_getElem? (i := 598) (by decide +kernel), rfl⟩⟩
theorem n_X7_220 : m_lk RX7 220 yX1_append := Or.inl ⟨List.mem_of_getElem? (i := 596) (by decide +kernel), rfl⟩
theorem e_X1_findFault : m_mev k_X1_findFault 1 := ⟨⟨⟨List.mem_of_getElem? (i := 612) (by decide +kernel), rfl⟩, ⟨List.mem_of_getElem? (i := 68) (by decide +kernel), rfl⟩, by decide +kernel, by decide +kernel, rfl, rfl⟩, ⟨List.mem_of_getElem? (i := 610) (by decide +kernel), rfl⟩, ⟨List.mem_of_getElem? (i := 611) (by decide +kernel), rfl⟩⟩
theorem n_X7_223 : m_lk RX7 223 yX1_findFault := Or.inl ⟨List.mem_of_getElem? (i := 609) (by decide +kernel), rfl⟩
theorem n_X7_229 : m_lk RX7 229 yX1_read := Or.inl ⟨List.mem_of_getElem? (i := 649) (by decide +kernel), rfl⟩
theorem e_X7_carryOrder : m_mev k_X7_carryOrder 0 := ⟨⟨⟨List.mem_of_getElem? (i := 653) (by decide +kernel), rfl⟩, ⟨List.mem_of_getElem? (i := 60) (by decide +kernel), rfl⟩, by decide +kernel, by decide +kernel, rfl, rfl⟩, ⟨List.mem_of_getElem? (i := 652) (by decide +kernel), rfl⟩, ⟨List.mem_of_getElem? (i := 26) (by decide +kernel), rfl⟩⟩
theorem n_X7_232 : m_lk RX7 232 yX7_carryOrder := Or.inl ⟨List.mem_of_getElem? (i := 650) (by decide +kernel), rfl⟩
theorem e_X8_in : m_mes k_X8_in 3 := ⟨⟨⟨List.mem_of_getElem? (i := 731) (by decide +kernel), rfl⟩, ⟨List.mem_of_getElem? (i := 69) (by decide +kernel), rfl⟩, by decide +kernel, by decide +kernel, rfl, rfl⟩, ⟨List.mem_of_getElem? (i := 730) (by decide +kernel), rfl⟩⟩
theorem n_X8_32 : m_lk RX8 32 yX8_in := Or.inl ⟨List.mem_of_getElem? (i := 729) (by decide +kernel), rfl⟩
theorem e_X8_ofAnchor : m_mev k_X8_ofAnchor 2 := ⟨⟨⟨List.mem_of_getElem? (i := 759) (by decide +kernel), rfl⟩, ⟨List.mem_of_getElem? (i := 69) (by decide +kernel), rfl⟩, by decide +kernel, by decide +kernel, rfl, rfl⟩, ⟨List.mem_of_getElem? (i := 758) (by decide +kernel), rfl⟩, ⟨List.mem_of_getElem? (i := 33) (by decide +kernel), rfl⟩⟩
theorem n_X8_40 : m_lk RX8 40 yX8_ofAnchor := Or.inl ⟨List.mem_of_getElem? (i := 756) (by decide +kernel), rfl⟩
theorem e_X8_meets : m_mes k_X8_meets 8 := ⟨⟨⟨List.mem_of_getElem? (i := 762) (by decide +kernel), rfl⟩, ⟨List.mem_of_getElem? (i := 69) (by decide +kernel), rfl⟩, by decide +kernel, by decide +kernel, rfl, rfl⟩, ⟨List.mem_of_getElem? (i := 761) (by decide +kernel), rfl⟩⟩
theorem n_X8_44 : m_lk RX8 44 yX8_meets := Or.inl ⟨List.mem_of_getElem? (i := 760) (by decide +kernel), rfl⟩
theorem e_X8_isGood : m_mev k_X8_isGood 2 := ⟨⟨⟨List.mem_of_getElem? (i := 793) (by decide +kernel), rfl⟩, ⟨List.mem_of_getElem? (i := 69) (by decide +kernel), rfl⟩, by decide +kernel, by decide +kernel, rfl, rfl⟩, ⟨List.mem_of_getElem? (i := 792) (by decide +kernel), rfl⟩, ⟨List.mem_of_getElem? (i := 40) (by decide +kernel), rfl⟩⟩
theorem n_X8_48 : m_lk RX8 48 yX8_isGood := Or.inl ⟨List.mem_of_getElem? (i := 790) (by decide +kernel), rfl⟩
theorem e_X8_ofHint : m_mev k_X8_ofHint 2 := ⟨⟨⟨List.mem_of_getElem? (i := 751) (by decide +kernel), rfl⟩, ⟨List.mem_of_getElem? (i := 69) (by decide +kernel), rfl⟩, by decide +kernel, by decide +kernel, rfl, rfl⟩, ⟨List.mem_of_getElem? (i := 750) (by decide +kernel), rfl⟩, ⟨List.mem_of_getElem? (i := 31) (by decide +kernel), rfl⟩⟩
theorem n_X8_52 : m_lk RX8 52 yX8_ofHint := Or.inl ⟨List.mem_of_getElem? (i := 748) (by decide +kernel), rfl⟩
theorem e_X8_half : m_mes k_X8_half 1 := ⟨⟨⟨List.mem_of_getElem? (i := 785) (by decide +kernel), rfl⟩, ⟨List.mem_of_getElem? (i := 69) (by decide +kernel), rfl⟩, by decide +kernel, by decide +kernel, rfl, rfl⟩, ⟨List.mem_of_getElem? (i := 784) (by decide +kernel), rfl⟩⟩
theorem n_X8_55 : m_lk RX8 55 yX8_half := Or.inl ⟨List.mem_of_getElem? (i := 783) (by decide +kernel), rfl⟩
theorem e_X8_shift : m_mev k_X8_shift 5 := ⟨⟨⟨List.mem_of_getElem? (i := 789) (by decide +kernel), rfl⟩, ⟨List.mem_of_getElem? (i := 69) (by decide +kernel), rfl⟩, by decide +kernel, by decide +kernel, rfl, rfl⟩, ⟨List.mem_of_getElem? (i := 788) (by decide +kernel), rfl⟩, ⟨List.mem_of_getElem? (i := 39) (by decide +kernel), rfl⟩⟩
theorem n_X8_62 : m_lk RX8 62 yX8_shift := Or.inl ⟨List.mem_of_getElem? (i := 786) (by decide +kernel), rfl⟩
theorem e_X8_places : m_mev k_X8_places 2 := ⟨⟨⟨List.mem_of_getElem? (i := 782) (by decide +kernel), rfl⟩, ⟨List.mem_of_getElem? (i := 69) (by decide +kernel), rfl⟩, by decide +kernel, by decide +kernel, rfl, rfl⟩, ⟨List.mem_of_getElem? (i := 781) (by decide +kernel), rfl⟩, ⟨List.mem_of_getElem? (i := 38) (by decide +kernel), rfl⟩⟩
theorem n_X8_79 : m_lk RX8 79 yX8_places := Or.inl ⟨List.mem_of_getElem? (i := 779) (by decide +kernel), rfl⟩
theorem e_X8_addTry : m_mev k_X8_addTry 1 := ⟨⟨⟨List.mem_of_getElem? (i := 774) (by decide +kernel), rfl⟩, ⟨List.mem_of_getElem? (i := 69) (by decide +kernel), rfl⟩, by decide +kernel, by decide +kernel, rfl, rfl⟩, ⟨List.mem_of_getElem? (i := 773) (by decide +kernel), rfl⟩, ⟨List.mem_of_getElem? (i := 36) (by decide +kernel), rfl⟩⟩
theorem n_X8_86 : m_lk RX8 86 yX8_addTry := Or.inl ⟨List.mem_of_getElem? (i := 771) (by decide +kernel), rfl⟩
theorem e_X8_lists : m_mev k_X8_lists 1 := ⟨⟨⟨List.mem_of_getElem? (i := 770) (by decide +kernel), rfl⟩, ⟨List.mem_of_getElem? (i := 69) (by decide +kernel), rfl⟩, by decide +kernel, by decide +kernel, rfl, rfl⟩, ⟨List.mem_of_getElem? (i := 769) (by decide +kernel), rfl⟩, ⟨List.mem_of_getElem? (i := 35) (by decide +kernel), rfl⟩⟩
theorem n_X8_90 : m_lk RX8 90 yX8_lists := Or.inl ⟨List.mem_of_getElem? (i := 767) (by decide +kernel), rfl⟩
theorem e_X8_isIn : m_mev k_X8_isIn 2 := ⟨⟨⟨List.mem_of_getElem? (i := 778) (by decide +kernel), rfl⟩, ⟨List.mem_of_getElem? (i := 69) (by decide +kernel), rfl⟩, by decide +kernel, by decide +kernel, rfl, rfl⟩, ⟨List.mem_of_getElem? (i := 777) (by decide +kernel), rfl⟩, ⟨List.mem_of_getElem? (i := 37) (by decide +kernel), rfl⟩⟩
theorem n_X8_93 : m_lk RX8 93 yX8_isIn := Or.inl ⟨List.mem_of_getElem? (i := 775) (by decide +kernel), rfl⟩
theorem e_X8_isBarred : m_mev k_X8_isBarred 1 := ⟨⟨⟨List.mem_of_getElem? (i := 797) (by decide +kernel), rfl⟩, ⟨List.mem_of_getElem? (i := 69) (by decide +kernel), rfl⟩, by decide +kernel, by decide +kernel, rfl, rfl⟩, ⟨List.mem_of_getElem? (i := 796) (by decide +kernel), rfl⟩, ⟨List.mem_of_getElem? (i := 41) (by decide +kernel), rfl⟩⟩
theorem n_X8_96 : m_lk RX8 96 yX8_isBarred := Or.inl ⟨List.mem_of_getElem? (i := 794) (by decide +kernel), rfl⟩
theorem e_X8_sorts : m_mev k_X8_sorts 0 := ⟨⟨⟨List.mem_of_getElem? (i := 747) (by decide +kernel), rfl⟩, ⟨List.mem_of_getElem? (i := 69) (by decide +kernel), rfl⟩, by decide +kernel, by decide +kernel, rfl, rfl⟩, ⟨List.mem_of_getElem? (i := 746) (by decide +kernel), rfl⟩, ⟨List.mem_of_getElem? (i := 30) (by decide +kernel), rfl⟩⟩
theorem n_X8_103 : m_lk RX8 103 yX8_sorts := Or.inl ⟨List.mem_of_getElem? (i := 744) (by decide +kernel), rfl⟩
theorem e_X8_isSeen : m_mev k_X8_isSeen 1 := ⟨⟨⟨List.mem_of_getElem? (i := 755) (by decide +kernel), rfl⟩, ⟨List.mem_of_getElem? (i := 69) (by decide +kernel), rfl⟩, by decide +kernel, by decide +kernel, rfl, rfl⟩, ⟨List.mem_of_getElem? (i := 754) (by decide +kernel), rfl⟩, ⟨List.mem_of_getElem? (i := 32) (by decide +kernel), rfl⟩⟩
theorem n_X8_106 : m_lk RX8 106 yX8_isSeen := Or.inl ⟨List.mem_of_getElem? (i := 752) (by decide +kernel), rfl⟩
theorem e_X8_finds : m_mev k_X8_finds 1 := ⟨⟨⟨List.mem_of_getElem? (i := 766) (by decide +kernel), rfl⟩, ⟨List.mem_of_getElem? (i := 69) (by decide +kernel), rfl⟩, by decide +kernel, by decide +kernel, rfl, rfl⟩, ⟨List.mem_of_getElem? (i := 765) (by decide +kernel), rfl⟩, ⟨List.mem_of_getElem? (i := 34) (by decide +kernel), rfl⟩⟩
theorem n_X8_109 : m_lk RX8 109 yX8_finds := Or.inl ⟨List.mem_of_getElem? (i := 763) (by decide +kernel), rfl⟩
theorem e_X8_shows : m_mev k_X8_shows 0 := ⟨⟨⟨List.mem_of_getElem? (i := 743) (by decide +kernel), rfl⟩, ⟨List.mem_of_getElem? (i := 69) (by decide +kernel), rfl⟩, by decide +kernel, by decide +kernel, rfl, rfl⟩, ⟨List.mem_of_getElem? (i := 742) (by decide +kernel), rfl⟩, ⟨List.mem_of_getElem? (i := 29) (by decide +kernel), rfl⟩⟩
theorem n_X8_112 : m_lk RX8 112 yX8_shows := Or.inl ⟨List.mem_of_getElem? (i := 740) (by decide +kernel), rfl⟩
theorem e_X8_records : m_mev k_X8_records 0 := ⟨⟨⟨List.mem_of_getElem? (i := 735) (by decide +kernel), rfl⟩, ⟨List.mem_of_getElem? (i := 69) (by decide +kernel), rfl⟩, by decide +kernel, by decide +kernel, rfl, rfl⟩, ⟨List.mem_of_getElem? (i := 734) (by decide +kernel), rfl⟩, ⟨List.mem_of_getElem? (i := 27) (by decide +kernel), rfl⟩⟩
theorem n_X8_115 : m_lk RX8 115 yX8_records := Or.inl ⟨List.mem_of_getElem? (i := 732) (by decide +kernel), rfl⟩
theorem e_X8_many : m_mev k_X8_many 0 := ⟨⟨⟨List.mem_of_getElem? (i := 739) (by decide +kernel), rfl⟩, ⟨List.mem_of_getElem? (i := 69) (by decide +kernel), rfl⟩, by decide +kernel, by decide +kernel, rfl, rfl⟩, ⟨List.mem_of_getElem? (i := 738) (by decide +kernel), rfl⟩, ⟨List.mem_of_getElem? (i := 28) (by decide +kernel), rfl⟩⟩
theorem n_X8_118 : m_lk RX8 118 yX8_many := Or.inl ⟨List.mem_of_getElem? (i := 736) (by decide +kernel), rfl⟩
theorem e_X8_canScroll : m_mev k_X8_canScroll 2 := ⟨⟨⟨List.mem_of_getElem? (i := 805) (by decide +kernel), rfl⟩, ⟨List.mem_of_getElem? (i := 69) (by decide +kernel), rfl⟩, by decide +kernel, by decide +kernel, rfl, rfl⟩, ⟨List.mem_of_getElem? (i := 804) (by decide +kernel), rfl⟩, ⟨List.mem_of_getElem? (i := 42) (by decide +kernel), rfl⟩⟩
theorem n_X8_122 : m_lk RX8 122 yX8_canScroll := Or.inl ⟨List.mem_of_getElem? (i := 802) (by decide +kernel), rfl⟩
theorem e_X8_isAnchor : m_mev k_X8_isAnchor 1 := ⟨⟨⟨List.mem_of_getElem? (i := 817) (by decide +kernel), rfl⟩, ⟨List.mem_of_getElem? (i := 69) (by decide +kernel), rfl⟩, by decide +kernel, by decide +kernel, rfl, rfl⟩, ⟨List.mem_of_getElem? (i := 816) (by decide +kernel), rfl⟩, ⟨List.mem_of_getElem? (i := 43) (by decide +kernel), rfl⟩⟩
theorem n_X8_125 : m_lk RX8 125 yX8_isAnchor := Or.inl ⟨List.mem_of_getElem? (i := 814) (by decide +kernel), rfl⟩
theorem e_X8_isSetting : m_mes k_X8_isSetting 2 := ⟨⟨⟨List.mem_of_getElem? (i := 828) (by decide +kernel), rfl⟩, ⟨List.mem_of_getElem? (i := 69) (by decide +kernel), rfl⟩, by decide +kernel, by decide +kernel, rfl, rfl⟩, ⟨List.mem_of_getElem? (i := 827) (by decide +kernel), rfl⟩⟩
theorem n_X8_128 : m_lk RX8 128 yX8_isSetting := Or.inl ⟨List.mem_of_getElem? (i := 826) (by decide +kernel), rfl⟩
theorem e_X8_covered : m_mev k_X8_covered 1 := ⟨⟨⟨List.mem_of_getElem? (i := 836) (by decide +kernel), rfl⟩, ⟨List.mem_of_getElem? (i := 69) (by decide +kernel), rfl⟩, by decide +kernel, by decide +kernel, rfl, rfl⟩, ⟨List.mem_of_getElem? (i := 835) (by decide +kernel), rfl⟩, ⟨List.mem_of_getElem? (i := 44) (by decide +kernel), rfl⟩⟩
theorem n_X8_134 : m_lk RX8 134 yX8_covered := Or.inl ⟨List.mem_of_getElem? (i := 833) (by decide +kernel), rfl⟩
theorem e_X8_isHint : m_mev k_X8_isHint 1 := ⟨⟨⟨List.mem_of_getElem? (i := 848) (by decide +kernel), rfl⟩, ⟨List.mem_of_getElem? (i := 69) (by decide +kernel), rfl⟩, by decide +kernel, by decide +kernel, rfl, rfl⟩, ⟨List.mem_of_getElem? (i := 847) (by decide +kernel), rfl⟩, ⟨List.mem_of_getElem? (i := 45) (by decide +kernel), rfl⟩⟩
theorem n_X8_138 : m_lk RX8 138 yX8_isHint := Or.inl ⟨List.mem_of_getElem? (i := 845) (by decide +kernel), rfl⟩
theorem e_X8_isOf : m_mev k_X8_isOf 2 := ⟨⟨⟨List.mem_of_getElem? (i := 852) (by decide +kernel), rfl⟩, ⟨List.mem_of_getElem? (i := 69) (by decide +kernel), rfl⟩, by decide +kernel, by decide +kernel, rfl, rfl⟩, ⟨List.mem_of_getElem? (i := 851) (by decide +kernel), rfl⟩, ⟨List.mem_of_getElem? (i := 46) (by decide +kernel), rfl⟩⟩
theorem n_X8_141 : m_lk RX8 141 yX8_isOf := Or.inl ⟨List.mem_of_getElem? (i := 849) (by decide +kernel), rfl⟩
theorem e_X8_placeOf : m_mev k_X8_placeOf 1 := ⟨⟨⟨List.mem_of_getElem? (i := 860) (by decide +kernel), rfl⟩, ⟨List.mem_of_getElem? (i := 69) (by decide +kernel), rfl⟩, by decide +kernel, by decide +kernel, rfl, rfl⟩, ⟨List.mem_of_getElem? (i := 859) (by decide +kernel), rfl⟩, ⟨List.mem_of_getElem? (i := 47) (by decide +kernel), rfl⟩⟩
theorem n_X8_144 : m_lk RX8 144 yX8_placeOf := Or.inl ⟨List.mem_of_getElem? (i := 857) (by decide +kernel), rfl⟩
theorem e_X8_opens : m_mev k_X8_opens 1 := ⟨⟨⟨List.mem_of_getElem? (i := 864) (by decide +kernel), rfl⟩, ⟨List.mem_of_getElem? (i := 69) (by decide +kernel), rfl⟩, by decide +kernel, by decide +kernel, rfl, rfl⟩, ⟨List.mem_of_getElem? (i := 863) (by decide +kernel), rfl⟩, ⟨List.mem_of_getElem? (i := 48) (by decide +kernel), rfl⟩⟩
theorem n_X8_147 : m_lk RX8 147 yX8_opens := Or.inl ⟨List.mem_of_getElem? (i := 861) (by decide +kernel), rfl⟩
theorem e_X8_closes : m_mev k_X8_closes 1 := ⟨⟨⟨List.mem_of_getElem? (i := 872) (by decide +kernel), rfl⟩, ⟨List.mem_of_getElem? (i := 69) (by decide +kernel), rfl⟩, by decide +kernel, by decide +kernel, rfl, rfl⟩, ⟨List.mem_of_getElem? (i := 871) (by decide +kernel), rfl⟩, ⟨List.mem_of_getElem? (i := 49) (by decide +kernel), rfl⟩⟩
theorem n_X8_150 : m_lk RX8 150 yX8_closes := Or.inl ⟨List.mem_of_getElem? (i := 869) (by decide +kernel), rfl⟩
theorem e_X8_settles : m_mev k_X8_settles 0 := ⟨⟨⟨List.mem_of_getElem? (i := 880) (by decide +kernel), rfl⟩, ⟨List.mem_of_getElem? (i := 69) (by decide +kernel), rfl⟩, by decide +kernel, by decide +kernel, rfl, rfl⟩, ⟨List.mem_of_getElem? (i := 879) (by decide +kernel), rfl⟩, ⟨List.mem_of_getElem? (i := 50) (by decide +kernel), rfl⟩⟩
theorem n_X8_153 : m_lk RX8 153 yX8_settles := Or.inl ⟨List.mem_of_getElem? (i := 877) (by decide +kernel), rfl⟩
theorem e_X8_orderOf : m_mev k_X8_orderOf 1 := ⟨⟨⟨List.mem_of_getElem? (i := 888) (by decide +kernel), rfl⟩, ⟨List.mem_of_getElem? (i := 69) (by decide +kernel), rfl⟩, by decide +kernel, by decide +kernel, rfl, rfl⟩, ⟨List.mem_of_getElem? (i := 887) (by decide +kernel), rfl⟩, ⟨List.mem_of_getElem? (i := 51) (by decide +kernel), rfl⟩⟩
theorem n_X8_156 : m_lk RX8 156 yX8_orderOf := Or.inl ⟨List.mem_of_getElem? (i := 885) (by decide +kernel), rfl⟩
theorem e_X8_passes : m_mev k_X8_passes 1 := ⟨⟨⟨List.mem_of_getElem? (i := 944) (by decide +kernel), rfl⟩, ⟨List.mem_of_getElem? (i := 69) (by decide +kernel), rfl⟩, by decide +kernel, by decide +kernel, rfl, rfl⟩, ⟨List.mem_of_getElem? (i := 943) (by decide +kernel), rfl⟩, ⟨List.mem_of_getElem? (i := 57) (by decide +kernel), rfl⟩⟩
theorem n_X8_165 : m_lk RX8 165 yX8_passes := Or.inl ⟨List.mem_of_getElem? (i := 941) (by decide +kernel), rfl⟩
theorem e_X8_readsNumber : m_mev k_X8_readsNumber 1 := ⟨⟨⟨List.mem_of_getElem? (i := 936) (by decide +kernel), rfl⟩, ⟨List.mem_of_getElem? (i := 69) (by decide +kernel), rfl⟩, by decide +kernel, by decide +kernel, rfl, rfl⟩, ⟨List.mem_of_getElem? (i := 935) (by decide +kernel), rfl⟩, ⟨List.mem_of_getElem? (i := 55) (by decide +kernel), rfl⟩⟩
theorem n_X8_169 : m_lk RX8 169 yX8_readsNumber := Or.inl ⟨List.mem_of_getElem? (i := 933) (by decide +kernel), rfl⟩
theorem e_X8_readsSigned : m_mev k_X8_readsSigned 0 := ⟨⟨⟨List.mem_of_getElem? (i := 940) (by decide +kernel), rfl⟩, ⟨List.mem_of_getElem? (i := 69) (by decide +kernel), rfl⟩, by decide +kernel, by decide +kernel, rfl, rfl⟩, ⟨List.mem_of_getElem? (i := 939) (by decide +kernel), rfl⟩, ⟨List.mem_of_getElem? (i := 56) (by decide +kernel), rfl⟩⟩
theorem n_X8_175 : m_lk RX8 175 yX8_readsSigned := Or.inl ⟨List.mem_of_getElem? (i := 937) (by decide +kernel), rfl⟩
theorem e_X8_readsForm : m_mev k_X8_readsForm 0 := ⟨⟨⟨List.mem_of_getElem? (i := 932) (by decide +kernel), rfl⟩, ⟨List.mem_of_getElem? (i := 69) (by decide +kernel), rfl⟩, by decide +kernel, by decide +kernel, rfl, rfl⟩, ⟨List.mem_of_getElem? (i := 931) (by decide +kernel), rfl⟩, ⟨List.mem_of_getElem? (i := 54) (by decide +kernel), rfl⟩⟩
theorem n_X8_182 : m_lk RX8 182 yX8_readsForm := Or.inl ⟨List.mem_of_getElem? (i := 929) (by decide +kernel), rfl⟩
theorem e_X8_readsOrder : m_mev k_X8_readsOrder 0 := ⟨⟨⟨List.mem_of_getElem? (i := 928) (by decide +kernel), rfl⟩, ⟨List.mem_of_getElem? (i := 69) (by decide +kernel), rfl⟩, by decide +kernel, by decide +kernel, rfl, rfl⟩, ⟨List.mem_of_getElem? (i := 927) (by decide +kernel), rfl⟩, ⟨List.mem_of_getElem? (i := 53) (by decide +kernel), rfl⟩⟩
theorem n_X8_188 : m_lk RX8 188 yX8_readsOrder := Or.inl ⟨List.mem_of_getElem? (i := 925) (by decide +kernel), rfl⟩
theorem e_X8_faulty : m_mev k_X8_faulty 0 := ⟨⟨⟨List.mem_of_getElem? (i := 924) (by decide +kernel), rfl⟩, ⟨List.mem_of_getElem? (i := 69) (by decide +kernel), rfl⟩, by decide +kernel, by decide +kernel, rfl, rfl⟩, ⟨List.mem_of_getElem? (i := 923) (by decide +kernel), rfl⟩, ⟨List.mem_of_getElem? (i := 52) (by decide +kernel), rfl⟩⟩
theorem n_X8_191 : m_lk RX8 191 yX8_faulty := Or.inl ⟨List.mem_of_getElem? (i := 921) (by decide +kernel), rfl⟩
theorem e_X8_carries : m_mev k_X8_carries 0 := ⟨⟨⟨List.mem_of_getElem? (i := 952) (by decide +kernel), rfl⟩, ⟨List.mem_of_getElem? (i := 69) (by decide +kernel), rfl⟩, by decide +kernel, by decide +kernel, rfl, rfl⟩, ⟨List.mem_of_getElem? (i := 951) (by decide +kernel), rfl⟩, ⟨List.mem_of_getElem? (i := 58) (by decide +kernel), rfl⟩⟩
theorem n_X8_194 : m_lk RX8 194 yX8_carries := Or.inl ⟨List.mem_of_getElem? (i := 949) (by decide +kernel), rfl⟩
theorem e_X7_view : m_mev k_X7_view 2 := ⟨⟨⟨List.mem_of_getElem? (i := 279) (by decide +kernel), rfl⟩, ⟨List.mem_of_getElem? (i := 60) (by decide +kernel), rfl⟩, by decide +kernel, by decide +kernel, rfl, rfl⟩, ⟨List.mem_of_getElem? (i := 277) (by decide +kernel), rfl⟩, ⟨List.mem_of_getElem? (i := 278) (by decide +kernel), rfl⟩⟩
theorem n_L_13 : m_lk RL 13 yX7_view := Or.inl ⟨List.mem_of_getElem? (i := 276) (by decide +kernel), rfl⟩
theorem e_X8_view : m_mev k_X8_view 2 := ⟨⟨⟨List.mem_of_getElem? (i := 728) (by decide +kernel), rfl⟩, ⟨List.mem_of_getElem? (i := 69) (by decide +kernel), rfl⟩, by decide +kernel, by decide +kernel, rfl, rfl⟩, ⟨List.mem_of_getElem? (i := 726) (by decide +kernel), rfl⟩, ⟨List.mem_of_getElem? (i := 727) (by decide +kernel), rfl⟩⟩
theorem n_L_17 : m_lk RL 17 yX8_view := Or.inl ⟨List.mem_of_getElem? (i := 725) (by decide +kernel), rfl⟩
theorem e_X7_scroll : m_mev k_X7_scroll 2 := ⟨⟨⟨List.mem_of_getElem? (i := 427) (by decide +kernel), rfl⟩, ⟨List.mem_of_getElem? (i := 60) (by decide +kernel), rfl⟩, by decide +kernel, by decide +kernel, rfl, rfl⟩, ⟨List.mem_of_getElem? (i := 425) (by decide +kernel), rfl⟩, ⟨List.mem_of_getElem? (i := 426) (by decide +kernel), rfl⟩⟩
theorem n_L_18 : m_lk RL 18 yX7_scroll := Or.inl ⟨List.mem_of_getElem? (i := 424) (by decide +kernel), rfl⟩
theorem e_X8_scroll : m_mev k_X8_scroll 2 := ⟨⟨⟨List.mem_of_getElem? (i := 801) (by decide +kernel), rfl⟩, ⟨List.mem_of_getElem? (i := 69) (by decide +kernel), rfl⟩, by decide +kernel, by decide +kernel, rfl, rfl⟩, ⟨List.mem_of_getElem? (i := 799) (by decide +kernel), rfl⟩, ⟨List.mem_of_getElem? (i := 800) (by decide +kernel), rfl⟩⟩
theorem n_L_21 : m_lk RL 21 yX8_scroll := Or.inl ⟨List.mem_of_getElem? (i := 798) (by decide +kernel), rfl⟩
theorem e_X7_anchor : m_mev k_X7_anchor 4 := ⟨⟨⟨List.mem_of_getElem? (i := 443) (by decide +kernel), rfl⟩, ⟨List.mem_of_getElem? (i := 60) (by decide +kernel), rfl⟩, by decide +kernel, by decide +kernel, rfl, rfl⟩, ⟨List.mem_of_getElem? (i := 441) (by decide +kernel), rfl⟩, ⟨List.mem_of_getElem? (i := 442) (by decide +kernel), rfl⟩⟩
theorem n_L_22 : m_lk RL 22 yX7_anchor := Or.inl ⟨List.mem_of_getElem? (i := 440) (by decide +kernel), rfl⟩
theorem e_X8_anchor : m_mev k_X8_anchor 4 := ⟨⟨⟨List.mem_of_getElem? (i := 809) (by decide +kernel), rfl⟩, ⟨List.mem_of_getElem? (i := 69) (by decide +kernel), rfl⟩, by decide +kernel, by decide +kernel, rfl, rfl⟩, ⟨List.mem_of_getElem? (i := 807) (by decide +kernel), rfl⟩, ⟨List.mem_of_getElem? (i := 808) (by decide +kernel), rfl⟩⟩
theorem n_L_26 : m_lk RL 26 yX8_anchor := Or.inl ⟨List.mem_of_getElem? (i := 806) (by decide +kernel), rfl⟩
theorem e_X7_moveAnchor : m_mev k_X7_moveAnchor 3 := ⟨⟨⟨List.mem_of_getElem? (i := 454) (by decide +kernel), rfl⟩, ⟨List.mem_of_getElem? (i := 60) (by decide +kernel), rfl⟩, by decide +kernel, by decide +kernel, rfl, rfl⟩, ⟨List.mem_of_getElem? (i := 452) (by decide +kernel), rfl⟩, ⟨List.mem_of_getElem? (i := 453) (by decide +kernel), rfl⟩⟩
theorem n_L_27 : m_lk RL 27 yX7_moveAnchor := Or.inl ⟨List.mem_of_getElem? (i := 451) (by decide +kernel), rfl⟩
theorem e_X8_moveAnchor : m_mev k_X8_moveAnchor 3 := ⟨⟨⟨List.mem_of_getElem? (i := 813) (by decide +kernel), rfl⟩, ⟨List.mem_of_getElem? (i := 69) (by decide +kernel), rfl⟩, by decide +kernel, by decide +kernel, rfl, rfl⟩, ⟨List.mem_of_getElem? (i := 811) (by decide +kernel), rfl⟩, ⟨List.mem_of_getElem? (i := 812) (by decide +kernel), rfl⟩⟩
theorem n_L_31 : m_lk RL 31 yX8_moveAnchor := Or.inl ⟨List.mem_of_getElem? (i := 810) (by decide +kernel), rfl⟩
theorem e_X7_anchorOf : m_mev k_X7_anchorOf 2 := ⟨⟨⟨List.mem_of_getElem? (i := 462) (by decide +kernel), rfl⟩, ⟨List.mem_of_getElem? (i := 60) (by decide +kernel), rfl⟩, by decide +kernel, by decide +kernel, rfl, rfl⟩, ⟨List.mem_of_getElem? (i := 460) (by decide +kernel), rfl⟩, ⟨List.mem_of_getElem? (i := 461) (by decide +kernel), rfl⟩⟩
theorem n_L_32 : m_lk RL 32 yX7_anchorOf := Or.inl ⟨List.mem_of_getElem? (i := 459) (by decide +kernel), rfl⟩
theorem e_X8_anchorOf : m_mev k_X8_anchorOf 2 := ⟨⟨⟨List.mem_of_getElem? (i := 821) (by decide +kernel), rfl⟩, ⟨List.mem_of_getElem? (i := 69) (by decide +kernel), rfl⟩, by decide +kernel, by decide +kernel, rfl, rfl⟩, ⟨List.mem_of_getElem? (i := 819) (by decide +kernel), rfl⟩, ⟨List.mem_of_getElem? (i := 820) (by decide +kernel), rfl⟩⟩
theorem n_L_35 : m_lk RL 35 yX8_anchorOf := Or.inl ⟨List.mem_of_getElem? (i := 818) (by decide +kernel), rfl⟩
theorem e_X7_set : m_mev k_X7_set 2 := ⟨⟨⟨List.mem_of_getElem? (i := 473) (by decide +kernel), rfl⟩, ⟨List.mem_of_getElem? (i := 60) (by decide +kernel), rfl⟩, by decide +kernel, by decide +kernel, rfl, rfl⟩, ⟨List.mem_of_getElem? (i := 471) (by decide +kernel), rfl⟩, ⟨List.mem_of_getElem? (i := 472) (by decide +kernel), rfl⟩⟩
theorem n_L_36 : m_lk RL 36 yX7_set := Or.inl ⟨List.mem_of_getElem? (i := 470) (by decide +kernel), rfl⟩
theorem e_X8_set : m_mev k_X8_set 2 := ⟨⟨⟨List.mem_of_getElem? (i := 825) (by decide +kernel), rfl⟩, ⟨List.mem_of_getElem? (i := 69) (by decide +kernel), rfl⟩, by decide +kernel, by decide +kernel, rfl, rfl⟩, ⟨List.mem_of_getElem? (i := 823) (by decide +kernel), rfl⟩, ⟨List.mem_of_getElem? (i := 824) (by decide +kernel), rfl⟩⟩
theorem n_L_39 : m_lk RL 39 yX8_set := Or.inl ⟨List.mem_of_getElem? (i := 822) (by decide +kernel), rfl⟩
theorem e_X7_count : m_mev k_X7_count 1 := ⟨⟨⟨List.mem_of_getElem? (i := 483) (by decide +kernel), rfl⟩, ⟨List.mem_of_getElem? (i := 60) (by decide +kernel), rfl⟩, by decide +kernel, by decide +kernel, rfl, rfl⟩, ⟨List.mem_of_getElem? (i := 481) (by decide +kernel), rfl⟩, ⟨List.mem_of_getElem? (i := 482) (by decide +kernel), rfl⟩⟩
theorem n_L_40 : m_lk RL 40 yX7_count := Or.inl ⟨List.mem_of_getElem? (i := 480) (by decide +kernel), rfl⟩
theorem e_X8_count : m_mev k_X8_count 1 := ⟨⟨⟨List.mem_of_getElem? (i := 832) (by decide +kernel), rfl⟩, ⟨List.mem_of_getElem? (i := 69) (by decide +kernel), rfl⟩, by decide +kernel, by decide +kernel, rfl, rfl⟩, ⟨List.mem_of_getElem? (i := 830) (by decide +kernel), rfl⟩, ⟨List.mem_of_getElem? (i := 831) (by decide +kernel), rfl⟩⟩
theorem n_L_44 : m_lk RL 44 yX8_count := Or.inl ⟨List.mem_of_getElem? (i := 829) (by decide +kernel), rfl⟩
theorem e_X7_hint : m_mev k_X7_hint 5 := ⟨⟨⟨List.mem_of_getElem? (i := 500) (by decide +kernel), rfl⟩, ⟨List.mem_of_getElem? (i := 60) (by decide +kernel), rfl⟩, by decide +kernel, by decide +kernel, rfl, rfl⟩, ⟨List.mem_of_getElem? (i := 498) (by decide +kernel), rfl⟩, ⟨List.mem_of_getElem? (i := 499) (by decide +kernel), rfl⟩⟩
theorem n_L_45 : m_lk RL 45 yX7_hint := Or.inl ⟨List.mem_of_getElem? (i := 497) (by decide +kernel), rfl⟩
theorem e_X8_hint : m_mev k_X8_hint 5 := ⟨⟨⟨List.mem_of_getElem? (i := 840) (by decide +kernel), rfl⟩, ⟨List.mem_of_getElem? (i := 69) (by decide +kernel), rfl⟩, by decide +kernel, by decide +kernel, rfl, rfl⟩, ⟨List.mem_of_getElem? (i := 838) (by decide +kernel), rfl⟩, ⟨List.mem_of_getElem? (i := 839) (by decide +kernel), rfl⟩⟩
theorem n_L_49 : m_lk RL 49 yX8_hint := Or.inl ⟨List.mem_of_getElem? (i := 837) (by decide +kernel), rfl⟩
theorem e_X7_alter : m_mev k_X7_alter 3 := ⟨⟨⟨List.mem_of_getElem? (i := 515) (by decide +kernel), rfl⟩, ⟨List.mem_of_getElem? (i := 60) (by decide +kernel), rfl⟩, by decide +kernel, by decide +kernel, rfl, rfl⟩, ⟨List.mem_of_getElem? (i := 513) (by decide +kernel), rfl⟩, ⟨List.mem_of_getElem? (i := 514) (by decide +kernel), rfl⟩⟩
theorem n_L_50 : m_lk RL 50 yX7_alter := Or.inl ⟨List.mem_of_getElem? (i := 512) (by decide +kernel), rfl⟩
theorem e_X8_alter : m_mev k_X8_alter 3 := ⟨⟨⟨List.mem_of_getElem? (i := 844) (by decide +kernel), rfl⟩, ⟨List.mem_of_getElem? (i := 69) (by decide +kernel), rfl⟩, by decide +kernel, by decide +kernel, rfl, rfl⟩, ⟨List.mem_of_getElem? (i := 842) (by decide +kernel), rfl⟩, ⟨List.mem_of_getElem? (i := 843) (by decide +kernel), rfl⟩⟩
theorem n_L_53 : m_lk RL 53 yX8_alter := Or.inl ⟨List.mem_of_getElem? (i := 841) (by decide +kernel), rfl⟩
theorem e_X7_open : m_mev k_X7_open 1 := ⟨⟨⟨List.mem_of_getElem? (i := 526) (by decide +kernel), rfl⟩, ⟨List.mem_of_getElem? (i := 60) (by decide +kernel), rfl⟩, by decide +kernel, by decide +kernel, rfl, rfl⟩, ⟨List.mem_of_getElem? (i := 524) (by decide +kernel), rfl⟩, ⟨List.mem_of_getElem? (i := 525) (by decide +kernel), rfl⟩⟩
theorem n_L_54 : m_lk RL 54 yX7_open := Or.inl ⟨List.mem_of_getElem? (i := 523) (by decide +kernel), rfl⟩
theorem e_X8_open : m_mev k_X8_open 1 := ⟨⟨⟨List.mem_of_getElem? (i := 856) (by decide +kernel), rfl⟩, ⟨List.mem_of_getElem? (i := 69) (by decide +kernel), rfl⟩, by decide +kernel, by decide +kernel, rfl, rfl⟩, ⟨List.mem_of_getElem? (i := 854) (by decide +kernel), rfl⟩, ⟨List.mem_of_getElem? (i := 855) (by decide +kernel), rfl⟩⟩
theorem n_L_57 : m_lk RL 57 yX8_open := Or.inl ⟨List.mem_of_getElem? (i := 853) (by decide +kernel), rfl⟩
theorem e_X7_close : m_mev k_X7_close 1 := ⟨⟨⟨List.mem_of_getElem? (i := 534) (by decide +kernel), rfl⟩, ⟨List.mem_of_getElem? (i := 60) (by decide +kernel), rfl⟩, by decide +kernel, by decide +kernel, rfl, rfl⟩, ⟨List.mem_of_getElem? (i := 532) (by decide +kernel), rfl⟩, ⟨List.mem_of_getElem? (i := 533) (by decide +kernel), rfl⟩⟩
theorem n_L_58 : m_lk RL 58 yX7_close := Or.inl ⟨List.mem_of_getElem? (i := 531) (by decide +kernel), rfl⟩
theorem e_X8_close : m_mev k_X8_close 1 := ⟨⟨⟨List.mem_of_getElem? (i := 868) (by decide +kernel), rfl⟩, ⟨List.mem_of_getElem? (i := 69) (by decide +kernel), rfl⟩, by decide +kernel, by decide +kernel, rfl, rfl⟩, ⟨List.mem_of_getElem? (i := 866) (by decide +kernel), rfl⟩, ⟨List.mem_of_getElem? (i := 867) (by decide +kernel), rfl⟩⟩
theorem n_L_61 : m_lk RL 61 yX8_close := Or.inl ⟨List.mem_of_getElem? (i := 865) (by decide +kernel), rfl⟩
theorem e_X7_settle : m_mev k_X7_settle 0 := ⟨⟨⟨List.mem_of_getElem? (i := 542) (by decide +kernel), rfl⟩, ⟨List.mem_of_getElem? (i := 60) (by decide +kernel), rfl⟩, by decide +kernel, by decide +kernel, rfl, rfl⟩, ⟨List.mem_of_getElem? (i := 540) (by decide +kernel), rfl⟩, ⟨List.mem_of_getElem? (i := 541) (by decide +kernel), rfl⟩⟩
theorem n_L_62 : m_lk RL 62 yX7_settle := Or.inl ⟨List.mem_of_getElem? (i := 539) (by decide +kernel), rfl⟩
theorem e_X8_settle : m_mev k_X8_settle 0 := ⟨⟨⟨List.mem_of_getElem? (i := 876) (by decide +kernel), rfl⟩, ⟨List.mem_of_getElem? (i := 69) (by decide +kernel), rfl⟩, by decide +kernel, by decide +kernel, rfl, rfl⟩, ⟨List.mem_of_getElem? (i := 874) (by decide +kernel), rfl⟩, ⟨List.mem_of_getElem? (i := 875) (by decide +kernel), rfl⟩⟩
theorem n_L_66 : m_lk RL 66 yX8_settle := Or.inl ⟨List.mem_of_getElem? (i := 873) (by decide +kernel), rfl⟩
theorem e_X7_hintOf : m_mev k_X7_hintOf 2 := ⟨⟨⟨List.mem_of_getElem? (i := 550) (by decide +kernel), rfl⟩, ⟨List.mem_of_getElem? (i := 60) (by decide +kernel), rfl⟩, by decide +kernel, by decide +kernel, rfl, rfl⟩, ⟨List.mem_of_getElem? (i := 548) (by decide +kernel), rfl⟩, ⟨List.mem_of_getElem? (i := 549) (by decide +kernel), rfl⟩⟩
theorem n_L_67 : m_lk RL 67 yX7_hintOf := Or.inl ⟨List.mem_of_getElem? (i := 547) (by decide +kernel), rfl⟩
theorem e_X8_hintOf : m_mev k_X8_hintOf 2 := ⟨⟨⟨List.mem_of_getElem? (i := 884) (by decide +kernel), rfl⟩, ⟨List.mem_of_getElem? (i := 69) (by decide +kernel), rfl⟩, by decide +kernel, by decide +kernel, rfl, rfl⟩, ⟨List.mem_of_getElem? (i := 882) (by decide +kernel), rfl⟩, ⟨List.mem_of_getElem? (i := 883) (by decide +kernel), rfl⟩⟩
theorem n_L_70 : m_lk RL 70 yX8_hintOf := Or.inl ⟨List.mem_of_getElem? (i := 881) (by decide +kernel), rfl⟩
theorem e_X7_room : m_mev k_X7_room 2 := ⟨⟨⟨List.mem_of_getElem? (i := 560) (by decide +kernel), rfl⟩, ⟨List.mem_of_getElem? (i := 60) (by decide +kernel), rfl⟩, by decide +kernel, by decide +kernel, rfl, rfl⟩, ⟨List.mem_of_getElem? (i := 558) (by decide +kernel), rfl⟩, ⟨List.mem_of_getElem? (i := 559) (by decide +kernel), rfl⟩⟩
theorem n_L_71 : m_lk RL 71 yX7_room := Or.inl ⟨List.mem_of_getElem? (i := 557) (by decide +kernel), rfl⟩
theorem e_X8_room : m_mev k_X8_room 2 := ⟨⟨⟨List.mem_of_getElem? (i := 892) (by decide +kernel), rfl⟩, ⟨List.mem_of_getElem? (i := 69) (by decide +kernel), rfl⟩, by decide +kernel, by decide +kernel, rfl, rfl⟩, ⟨List.mem_of_getElem? (i := 890) (by decide +kernel), rfl⟩, ⟨List.mem_of_getElem? (i := 891) (by decide +kernel), rfl⟩⟩
theorem n_L_74 : m_lk RL 74 yX8_room := Or.inl ⟨List.mem_of_getElem? (i := 889) (by decide +kernel), rfl⟩
theorem e_X7_ifOn : m_mev k_X7_ifOn 3 := ⟨⟨⟨List.mem_of_getElem? (i := 565) (by decide +kernel), rfl⟩, ⟨List.mem_of_getElem? (i := 60) (by decide +kernel), rfl⟩, by decide +kernel, by decide +kernel, rfl, rfl⟩, ⟨List.mem_of_getElem? (i := 563) (by decide +kernel), rfl⟩, ⟨List.mem_of_getElem? (i := 564) (by decide +kernel), rfl⟩⟩
theorem n_L_75 : m_lk RL 75 yX7_ifOn := Or.inl ⟨List.mem_of_getElem? (i := 562) (by decide +kernel), rfl⟩
theorem e_X8_ifOn : m_mev k_X8_ifOn 3 := ⟨⟨⟨List.mem_of_getElem? (i := 896) (by decide +kernel), rfl⟩, ⟨List.mem_of_getElem? (i := 69) (by decide +kernel), rfl⟩, by decide +kernel, by decide +kernel, rfl, rfl⟩, ⟨List.mem_of_getElem? (i := 894) (by decide +kernel), rfl⟩, ⟨List.mem_of_getElem? (i := 895) (by decide +kernel), rfl⟩⟩
theorem n_L_78 : m_lk RL 78 yX8_ifOn := Or.inl ⟨List.mem_of_getElem? (i := 893) (by decide +kernel), rfl⟩
theorem e_X7_at : m_mev k_X7_at 2 := ⟨⟨⟨List.mem_of_getElem? (i := 569) (by decide +kernel), rfl⟩, ⟨List.mem_of_getElem? (i := 60) (by decide +kernel), rfl⟩, by decide +kernel, by decide +kernel, rfl, rfl⟩, ⟨List.mem_of_getElem? (i := 567) (by decide +kernel), rfl⟩, ⟨List.mem_of_getElem? (i := 568) (by decide +kernel), rfl⟩⟩
theorem n_L_79 : m_lk RL 79 yX7_at := Or.inl ⟨List.mem_of_getElem? (i := 566) (by decide +kernel), rfl⟩
theorem e_X8_at : m_mev k_X8_at 2 := ⟨⟨⟨List.mem_of_getElem? (i := 900) (by decide +kernel), rfl⟩, ⟨List.mem_of_getElem? (i := 69) (by decide +kernel), rfl⟩, by decide +kernel, by decide +kernel, rfl, rfl⟩, ⟨List.mem_of_getElem? (i := 898) (by decide +kernel), rfl⟩, ⟨List.mem_of_getElem? (i := 899) (by decide +kernel), rfl⟩⟩
theorem n_L_82 : m_lk RL 82 yX8_at := Or.inl ⟨List.mem_of_getElem? (i := 897) (by decide +kernel), rfl⟩
theorem e_X7_sizeFor : m_mev k_X7_sizeFor 2 := ⟨⟨⟨List.mem_of_getElem? (i := 574) (by decide +kernel), rfl⟩, ⟨List.mem_of_getElem? (i := 60) (by decide +kernel), rfl⟩, by decide +kernel, by decide +kernel, rfl, rfl⟩, ⟨List.mem_of_getElem? (i := 572) (by decide +kernel), rfl⟩, ⟨List.mem_of_getElem? (i := 573) (by decide +kernel), rfl⟩⟩
theorem n_L_83 : m_lk RL 83 yX7_sizeFor := Or.inl ⟨List.mem_of_getElem? (i := 571) (by decide +kernel), rfl⟩
theorem e_X8_sizeFor : m_mev k_X8_sizeFor 2 := ⟨⟨⟨List.mem_of_getElem? (i := 904) (by decide +kernel), rfl⟩, ⟨List.mem_of_getElem? (i := 69) (by decide +kernel), rfl⟩, by decide +kernel, by decide +kernel, rfl, rfl⟩, ⟨List.mem_of_getElem? (i := 902) (by decide +kernel), rfl⟩, ⟨List.mem_of_getElem? (i := 903) (by decide +kernel), rfl⟩⟩
theorem n_L_86 : m_lk RL 86 yX8_sizeFor := Or.inl ⟨List.mem_of_getElem? (i := 901) (by decide +kernel), rfl⟩
theorem e_X7_undo : m_mev k_X7_undo 0 := ⟨⟨⟨List.mem_of_getElem? (i := 583) (by decide +kernel), rfl⟩, ⟨List.mem_of_getElem? (i := 60) (by decide +kernel), rfl⟩, by decide +kernel, by decide +kernel, rfl, rfl⟩, ⟨List.mem_of_getElem? (i := 581) (by decide +kernel), rfl⟩, ⟨List.mem_of_getElem? (i := 582) (by decide +kernel), rfl⟩⟩
theorem n_L_87 : m_lk RL 87 yX7_undo := Or.inl ⟨List.mem_of_getElem? (i := 580) (by decide +kernel), rfl⟩
theorem e_X8_undo : m_mev k_X8_undo 0 := ⟨⟨⟨List.mem_of_getElem? (i := 908) (by decide +kernel), rfl⟩, ⟨List.mem_of_getElem? (i := 69) (by decide +kernel), rfl⟩, by decide +kernel, by decide +kernel, rfl, rfl⟩, ⟨List.mem_of_getElem? (i := 906) (by decide +kernel), rfl⟩, ⟨List.mem_of_getElem? (i := 907) (by decide +kernel), rfl⟩⟩
theorem n_L_90 : m_lk RL 90 yX8_undo := Or.inl ⟨List.mem_of_getElem? (i := 905) (by decide +kernel), rfl⟩
theorem e_X7_type : m_mev k_X7_type 1 := ⟨⟨⟨List.mem_of_getElem? (i := 595) (by decide +kernel), rfl⟩, ⟨List.mem_of_getElem? (i := 60) (by decide +kernel), rfl⟩, by decide +kernel, by decide +kernel, rfl, rfl⟩, ⟨List.mem_of_getElem? (i := 593) (by decide +kernel), rfl⟩, ⟨List.mem_of_getElem? (i := 594) (by decide +kernel), rfl⟩⟩
theorem n_L_91 : m_lk RL 91 yX7_type := Or.inl ⟨List.mem_of_getElem? (i := 592) (by decide +kernel), rfl⟩
theorem e_X8_type : m_mev k_X8_type 1 := ⟨⟨⟨List.mem_of_getElem? (i := 912) (by decide +kernel), rfl⟩, ⟨List.mem_of_getElem? (i := 69) (by decide +kernel), rfl⟩, by decide +kernel, by decide +kernel, rfl, rfl⟩, ⟨List.mem_of_getElem? (i := 910) (by decide +kernel), rfl⟩, ⟨List.mem_of_getElem? (i := 911) (by decide +kernel), rfl⟩⟩
theorem n_L_94 : m_lk RL 94 yX8_type := Or.inl ⟨List.mem_of_getElem? (i := 909) (by decide +kernel), rfl⟩
theorem e_X7_clearText : m_mev k_X7_clearText 0 := ⟨⟨⟨List.mem_of_getElem? (i := 604) (by decide +kernel), rfl⟩, ⟨List.mem_of_getElem? (i := 60) (by decide +kernel), rfl⟩, by decide +kernel, by decide +kernel, rfl, rfl⟩, ⟨List.mem_of_getElem? (i := 602) (by decide +kernel), rfl⟩, ⟨List.mem_of_getElem? (i := 603) (by decide +kernel), rfl⟩⟩
theorem n_L_95 : m_lk RL 95 yX7_clearText := Or.inl ⟨List.mem_of_getElem? (i := 601) (by decide +kernel), rfl⟩
theorem e_X8_clearText : m_mev k_X8_clearText 0 := ⟨⟨⟨List.mem_of_getElem? (i := 916) (by decide +kernel), rfl⟩, ⟨List.mem_of_getElem? (i := 69) (by decide +kernel), rfl⟩, by decide +kernel, by decide +kernel, rfl, rfl⟩, ⟨List.mem_of_getElem? (i := 914) (by decide +kernel), rfl⟩, ⟨List.mem_of_getElem? (i := 915) (by decide +kernel), rfl⟩⟩
theorem n_L_98 : m_lk RL 98 yX8_clearText := Or.inl ⟨List.mem_of_getElem? (i := 913) (by decide +kernel), rfl⟩
theorem e_X7_fault : m_mev k_X7_fault 1 := ⟨⟨⟨List.mem_of_getElem? (i := 608) (by decide +kernel), rfl⟩, ⟨List.mem_of_getElem? (i := 60) (by decide +kernel), rfl⟩, by decide +kernel, by decide +kernel, rfl, rfl⟩, ⟨List.mem_of_getElem? (i := 606) (by decide +kernel), rfl⟩, ⟨List.mem_of_getElem? (i := 607) (by decide +kernel), rfl⟩⟩
theorem n_L_99 : m_lk RL 99 yX7_fault := Or.inl ⟨List.mem_of_getElem? (i := 605) (by decide +kernel), rfl⟩
theorem e_X8_fault : m_mev k_X8_fault 1 := ⟨⟨⟨List.mem_of_getElem? (i := 920) (by decide +kernel), rfl⟩, ⟨List.mem_of_getElem? (i := 69) (by decide +kernel), rfl⟩, by decide +kernel, by decide +kernel, rfl, rfl⟩, ⟨List.mem_of_getElem? (i := 918) (by decide +kernel), rfl⟩, ⟨List.mem_of_getElem? (i := 919) (by decide +kernel), rfl⟩⟩
theorem n_L_102 : m_lk RL 102 yX8_fault := Or.inl ⟨List.mem_of_getElem? (i := 917) (by decide +kernel), rfl⟩
theorem e_X7_carry : m_mev k_X7_carry 0 := ⟨⟨⟨List.mem_of_getElem? (i := 648) (by decide +kernel), rfl⟩, ⟨List.mem_of_getElem? (i := 60) (by decide +kernel), rfl⟩, by decide +kernel, by decide +kernel, rfl, rfl⟩, ⟨List.mem_of_getElem? (i := 646) (by decide +kernel), rfl⟩, ⟨List.mem_of_getElem? (i := 647) (by decide +kernel), rfl⟩⟩
theorem n_L_103 : m_lk RL 103 yX7_carry := Or.inl ⟨List.mem_of_getElem? (i := 645) (by decide +kernel), rfl⟩
theorem e_X8_carry : m_mev k_X8_carry 0 := ⟨⟨⟨List.mem_of_getElem? (i := 948) (by decide +kernel), rfl⟩, ⟨List.mem_of_getElem? (i := 69) (by decide +kernel), rfl⟩, by decide +kernel, by decide +kernel, rfl, rfl⟩, ⟨List.mem_of_getElem? (i := 946) (by decide +kernel), rfl⟩, ⟨List.mem_of_getElem? (i := 947) (by decide +kernel), rfl⟩⟩
theorem n_L_106 : m_lk RL 106 yX8_carry := Or.inl ⟨List.mem_of_getElem? (i := 945) (by decide +kernel), rfl⟩
