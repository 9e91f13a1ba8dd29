def mX0_numberBehind : MI := (yX0_numberBehind, cX0_numberBehind, 3, some .int)
def mX0_insert : MI := (yX0_insert, cX0_insert, 5, none)
def mX0_openGap : MI := (yX0_openGap, cX0_openGap, 3, none)
def mX0_remove : MI := (yX0_remove, cX0_remove, 2, none)
def mX0_closeGap : MI := (yX0_closeGap, cX0_closeGap, 3, none)
def mX0_carry : MI := (yX0_carry, cX0_carry, 3, none)
def mX0_shareGrowth : MI := (yX0_shareGrowth, cX0_shareGrowth, 6, none)
def mX0_giveOneMore : MI := (yX0_giveOneMore, cX0_giveOneMore, 4, some .int)
def mX0_allWidths : MI := (yX0_allWidths, cX0_allWidths, 3, some .int)
def mX0_loadOn : MI := (yX0_loadOn, cX0_loadOn, 2, some .int)
def mX0_rateOn : MI := (yX0_rateOn, cX0_rateOn, 2, some .int)
def mX0_firstOn : MI := (yX0_firstOn, cX0_firstOn, 2, some .int)
def mX0_countOn : MI := (yX0_countOn, cX0_countOn, 2, some .int)
def mX0_firstIn : MI := (yX0_firstIn, cX0_firstIn, 2, some .int)
def mX0_countIn : MI := (yX0_countIn, cX0_countIn, 2, some .int)
def mX0_widthsIn : MI := (yX0_widthsIn, cX0_widthsIn, 2, some .int)
def mX0_firstWith : MI := (yX0_firstWith, cX0_firstWith, 4, some .int)
def mX0_sumWith : MI := (yX0_sumWith, cX0_sumWith, 6, some .int)
def mX0_countWith : MI := (yX0_countWith, cX0_countWith, 5, some .int)
def mX0_shelvesOf : MI := (yX0_shelvesOf, cX0_shelvesOf, 5, some .int)
def mX0_widthsAheadOf : MI := (yX0_widthsAheadOf, cX0_widthsAheadOf, 4, some .int)
def mX1_load : MI := (yX1_load, cX1_load, 5, none)
def mX1_insert : MI := (yX1_insert, cX1_insert, 3, none)
def mX1_forget : MI := (yX1_forget, cX1_forget, 2, none)
def mX1_shelvesFilled : MI := (yX1_shelvesFilled, cX1_shelvesFilled, 4, some .int)
def mX1_fill : MI := (yX1_fill, cX1_fill, 5, some .int)
def mX1_findCuts : MI := (yX1_findCuts, cX1_findCuts, 3, some .boolean)
def mX1_chooseMost : MI := (yX1_chooseMost, cX1_chooseMost, 9, none)
def mX1_priceOfMove : MI := (yX1_priceOfMove, cX1_priceOfMove, 4, some .int)
def mX1_follow : MI := (yX1_follow, cX1_follow, 5, none)
def mX1_partOfPrice : MI := (yX1_partOfPrice, cX1_partOfPrice, 2, some .int)
def mX2_add : MI := (yX2_add, cX2_add, 3, some .int)
def mX3_write : MI := (yX3_write, cX3_write, 7, none)
def mX3_read : MI := (yX3_read, cX3_read, 4, some .int)
def mX4_exists : MI := (yX4_exists, cX4_exists, 1, some .boolean)
def mX4_end : MI := (yX4_end, cX4_end, 1, none)
def mX4_make : MI := (yX4_make, cX4_make, 5, none)
def mX4_add : MI := (yX4_add, cX4_add, 3, none)
def mX4_stepOn : MI := (yX4_stepOn, cX4_stepOn, 1, none)
def mX4_direction : MI := (yX4_direction, cX4_direction, 2, some .int)
def mX4_movesOfNextDay : MI := (yX4_movesOfNextDay, cX4_movesOfNextDay, 4, some .int)
def mX4_days : MI := (yX4_days, cX4_days, 7, some .int)
def mX4_trips : MI := (yX4_trips, cX4_trips, 5, some .int)
def mX4_takenAheadOf : MI := (yX4_takenAheadOf, cX4_takenAheadOf, 4, some .int)
def mX4_widthsLeft : MI := (yX4_widthsLeft, cX4_widthsLeft, 3, some .int)
def mX4_rightsLeft : MI := (yX4_rightsLeft, cX4_rightsLeft, 3, some .int)
def mX5_add : MI := (yX5_add, cX5_add, 4, some .int)
def mX5_openLengths : MI := (yX5_openLengths, cX5_openLengths, 3, some .int)
def mX6_shelf : MI := (yX6_shelf, cX6_shelf, 4, some .int)
def mX6_turn : MI := (yX6_turn, cX6_turn, 3, some .boolean)
def mX6_group : MI := (yX6_group, cX6_group, 2, some .int)
def mX6_grow : MI := (yX6_grow, cX6_grow, 3, some .boolean)
def mX6_book : MI := (yX6_book, cX6_book, 5, some .int)
def mX6_gone : MI := (yX6_gone, cX6_gone, 4, some .int)
def mX6_limit : MI := (yX6_limit, cX6_limit, 2, some .boolean)
def mX6_count : MI := (yX6_count, cX6_count, 2, some .int)
def mX6_on : MI := (yX6_on, cX6_on, 3, some .int)
def mX6_in : MI := (yX6_in, cX6_in, 3, some .int)
def mX6_of : MI := (yX6_of, cX6_of, 3, some .int)
def mX6_lasts : MI := (yX6_lasts, cX6_lasts, 3, some .int)
def mX6_cut : MI := (yX6_cut, cX6_cut, 3, some .int)
def mX6_price : MI := (yX6_price, cX6_price, 3, some .int)
def mX6_best : MI := (yX6_best, cX6_best, 5, some .int)
def mX6_tight : MI := (yX6_tight, cX6_tight, 2, some .int)
def mX6_more : MI := (yX6_more, cX6_more, 6, some .int)
def mX6_plan : MI := (yX6_plan, cX6_plan, 2, some .int)
def mX6_drop : MI := (yX6_drop, cX6_drop, 2, some .int)
def mX6_move : MI := (yX6_move, cX6_move, 1, some .int)
def mX6_day : MI := (yX6_day, cX6_day, 3, some .int)
def mX6_planned : MI := (yX6_planned, cX6_planned, 3, some .int)
def mX6_left : MI := (yX6_left, cX6_left, 2, some .int)
def mX6_enough : MI := (yX6_enough, cX6_enough, 5, some .int)
def mX6_log : MI := (yX6_log, cX6_log, 3, some .int)
def mX6_isWithin : MI := (yX6_isWithin, cX6_isWithin, 3, some .boolean)
def mX6_hasShelf : MI := (yX6_hasShelf, cX6_hasShelf, 2, some .boolean)
def mX6_hasGroup : MI := (yX6_hasGroup, cX6_hasGroup, 2, some .boolean)
def mX6_hasBook : MI := (yX6_hasBook, cX6_hasBook, 2, some .boolean)
def mX6_roomOn : MI := (yX6_roomOn, cX6_roomOn, 2, some .int)
def mX6_yearsOn : MI := (yX6_yearsOn, cX6_yearsOn, 3, some .int)
def mX6_hasCuts : MI := (yX6_hasCuts, cX6_hasCuts, 2, some .boolean)
def mX6_isRoomFor : MI := (yX6_isRoomFor, cX6_isRoomFor, 3, some .boolean)
def mX6_moveAtOnce : MI := (yX6_moveAtOnce, cX6_moveAtOnce, 3, none)
def mX6_makeNextMove : MI := (yX6_makeNextMove, cX6_makeNextMove, 3, some .int)
def mX7_thrown : MI := (yX7_thrown, cX7_thrown, 1, some .int)
def mX7_isIn : MI := (yX7_isIn, cX7_isIn, 3, some .boolean)
def mX7_isShelf : MI := (yX7_isShelf, cX7_isShelf, 2, some .boolean)
def mX7_isGroup : MI := (yX7_isGroup, cX7_isGroup, 2, some .boolean)
def mX7_isBook : MI := (yX7_isBook, cX7_isBook, 2, some .boolean)
def mX7_notes : MI := (yX7_notes, cX7_notes, 6, none)
def mX7_log : MI := (yX7_log, cX7_log, 3, some .int)
def mX7_widthOf : MI := (yX7_widthOf, cX7_widthOf, 4, some .int)
def mX7_laysNeeds : MI := (yX7_laysNeeds, cX7_laysNeeds, 6, none)
def mX7_loadOf : MI := (yX7_loadOf, cX7_loadOf, 4, some .int)
def mX7_rateOf : MI := (yX7_rateOf, cX7_rateOf, 4, some .int)
def mX7_lastsOf : MI := (yX7_lastsOf, cX7_lastsOf, 4, some .int)
def mX7_firstOn : MI := (yX7_firstOn, cX7_firstOn, 3, some .int)
def mX7_manyOn : MI := (yX7_manyOn, cX7_manyOn, 4, some .int)
def mX7_cell : MI := (yX7_cell, cX7_cell, 3, some .int)
def mX7_costOf : MI := (yX7_costOf, cX7_costOf, 6, some .int)
def mX7_mostOn : MI := (yX7_mostOn, cX7_mostOn, 5, some .int)
def mX7_cuts : MI := (yX7_cuts, cX7_cuts, 5, some .boolean)
def mX7_laysLeast : MI := (yX7_laysLeast, cX7_laysLeast, 6, none)
def mX7_isYears : MI := (yX7_isYears, cX7_isYears, 1, some .boolean)
def mX7_cut : MI := (yX7_cut, cX7_cut, 3, some .int)
def mX7_price : MI := (yX7_price, cX7_price, 3, some .int)
def mX7_fits : MI := (yX7_fits, cX7_fits, 6, some .boolean)
def mX7_best : MI := (yX7_best, cX7_best, 3, some .int)
def mX7_tight : MI := (yX7_tight, cX7_tight, 5, some .int)
def mX7_opens : MI := (yX7_opens, cX7_opens, 3, none)
def mX7_closes : MI := (yX7_closes, cX7_closes, 3, none)
def mX7_behind : MI := (yX7_behind, cX7_behind, 3, some .int)
def mX7_comes : MI := (yX7_comes, cX7_comes, 4, none)
def mX7_laysGoals : MI := (yX7_laysGoals, cX7_laysGoals, 4, none)
def mX7_book : MI := (yX7_book, cX7_book, 6, some .int)
def mX7_gone : MI := (yX7_gone, cX7_gone, 3, some .int)
def mX7_more : MI := (yX7_more, cX7_more, 7, some .int)
def mX7_ends : MI := (yX7_ends, cX7_ends, 1, none)
def mX7_moves : MI := (yX7_moves, cX7_moves, 3, none)
def mX7_plans : MI := (yX7_plans, cX7_plans, 2, none)
def mX7_plan : MI := (yX7_plan, cX7_plan, 3, some .int)
def mX7_drop : MI := (yX7_drop, cX7_drop, 1, some .int)
def mX7_goesOn : MI := (yX7_goesOn, cX7_goesOn, 2, some .int)
def mX7_move : MI := (yX7_move, cX7_move, 1, some .int)
def mX7_day : MI := (yX7_day, cX7_day, 4, some .int)
def mX7_dayOf : MI := (yX7_dayOf, cX7_dayOf, 8, some .int)
def mX7_tripOf : MI := (yX7_tripOf, cX7_tripOf, 5, some .int)
def mX7_taken : MI := (yX7_taken, cX7_taken, 4, some .int)
def mX7_planned : MI := (yX7_planned, cX7_planned, 3, some .int)
def mX7_leftWidths : MI := (yX7_leftWidths, cX7_leftWidths, 3, some .int)
def mX7_leftRight : MI := (yX7_leftRight, cX7_leftRight, 3, some .int)
def mX7_left : MI := (yX7_left, cX7_left, 2, some .int)
def mX7_enough : MI := (yX7_enough, cX7_enough, 3, some .int)
def mX7_shelf : MI := (yX7_shelf, cX7_shelf, 3, some .int)
def mX7_turn : MI := (yX7_turn, cX7_turn, 3, some .boolean)
def mX7_group : MI := (yX7_group, cX7_group, 2, some .int)
def mX7_grow : MI := (yX7_grow, cX7_grow, 3, some .boolean)
def mX7_limit : MI := (yX7_limit, cX7_limit, 2, some .boolean)
def mX7_allWidths : MI := (yX7_allWidths, cX7_allWidths, 3, some .int)
def mX7_openLengths : MI := (yX7_openLengths, cX7_openLengths, 3, some .int)
def mX7_count : MI := (yX7_count, cX7_count, 2, some .int)
def mX7_on : MI := (yX7_on, cX7_on, 3, some .int)
def mX7_booksOf : MI := (yX7_booksOf, cX7_booksOf, 4, some .int)
def mX7_firstOf : MI := (yX7_firstOf, cX7_firstOf, 3, some .int)
def mX7_shelvesOf : MI := (yX7_shelvesOf, cX7_shelvesOf, 5, some .int)
def mX7_in : MI := (yX7_in, cX7_in, 3, some .int)
def mX7_needOf : MI := (yX7_needOf, cX7_needOf, 2, some .int)
def mX7_ahead : MI := (yX7_ahead, cX7_ahead, 4, some .int)
def mX7_of : MI := (yX7_of, cX7_of, 3, some .int)
def mX7_lasts : MI := (yX7_lasts, cX7_lasts, 3, some .int)
theorem inTB0 : ∀ w ∈ u_ws RX0 TX0 8, w ∈ TB := by
  intro w hw
  have h : ∀ w ∈ u_ws RX0 TX0 8, w ∈ lw_tbl ∧ goodWord w = true := by decide +kernel
  exact List.mem_filter.mpr (h w hw)
theorem inTB1 : ∀ w ∈ u_ws RX1 TX1 12, w ∈ TB := by
  intro w hw
  have h : ∀ w ∈ u_ws RX1 TX1 12, w ∈ lw_tbl ∧ goodWord w = true := by decide +kernel
  exact List.mem_filter.mpr (h w hw)
theorem inTB2 : ∀ w ∈ u_ws RX2 TX2 2, w ∈ TB := by
  intro w hw
  have h : ∀ w ∈ u_ws RX2 TX2 2, w ∈ lw_tbl ∧ goodWord w = true := by decide +kernel
  exact List.mem_filter.mpr (h w hw)
theorem inTB3 : ∀ w ∈ u_ws RX3 TX3 3, w ∈ TB := by
  intro w hw
  have h : ∀ w ∈ u_ws RX3 TX3 3, w ∈ lw_tbl ∧ goodWord w = true := by decide +kernel
  exact List.mem_filter.mpr (h w hw)
theorem inTB4 : ∀ w ∈ u_ws RX4 TX4 8, w ∈ TB := by
  intro w hw
  have h : ∀ w ∈ u_ws RX4 TX4 8, w ∈ lw_tbl ∧ goodWord w = true := by decide +kernel
  exact List.mem_filter.mpr (h w hw)
theorem inTB5 : ∀ w ∈ u_ws RX5 TX5 3, w ∈ TB := by
  intro w hw
  have h : ∀ w ∈ u_ws RX5 TX5 3, w ∈ lw_tbl ∧ goodWord w = true := by decide +kernel
  exact List.mem_filter.mpr (h w hw)
theorem inTB6 : ∀ w ∈ u_ws RX6 TX6 7, w ∈ TB := by
  intro w hw
  have h : ∀ w ∈ u_ws RX6 TX6 7, w ∈ lw_tbl ∧ goodWord w = true := by decide +kernel
  exact List.mem_filter.mpr (h w hw)
theorem inTB7 : ∀ w ∈ u_ws RX7 TX7 29, w ∈ TB := by
  intro w hw
  have h : ∀ w ∈ u_ws RX7 TX7 29, w ∈ lw_tbl ∧ goodWord w = true := by decide +kernel
  exact List.mem_filter.mpr (h w hw)
theorem tw_63 : Cond.initialized RX0 ∈ TB := tb_of 63 (by decide +kernel) (by decide +kernel)
theorem tw_352 : Cond.code yX0_numberBehind cX0_numberBehind 3 (some .int) ∈ TB := tb_of 352 (by decide +kernel) (by decide +kernel)
theorem cw_X0_numberBehind : CW mX0_numberBehind 1 := ⟨tw_63, tw_352, by decide +kernel, by decide +kernel, by decide +kernel, by decide +kernel, by decide⟩
theorem tw_426 : Cond.code yX0_insert cX0_insert 5 (none) ∈ TB := tb_of 426 (by decide +kernel) (by decide +kernel)
theorem cw_X0_insert : CW mX0_insert 4 := ⟨tw_63, tw_426, by decide +kernel, by decide +kernel, by decide +kernel, by decide +kernel, by decide⟩
theorem tw_430 : Cond.code yX0_openGap cX0_openGap 3 (none) ∈ TB := tb_of 430 (by decide +kernel) (by decide +kernel)
theorem cw_X0_openGap : CW mX0_openGap 2 := ⟨tw_63, tw_430, by decide +kernel, by decide +kernel, by decide +kernel, by decide +kernel, by decide⟩
theorem tw_443 : Cond.code yX0_remove cX0_remove 2 (none) ∈ TB := tb_of 443 (by decide +kernel) (by decide +kernel)
theorem cw_X0_remove : CW mX0_remove 1 := ⟨tw_63, tw_443, by decide +kernel, by decide +kernel, by decide +kernel, by decide +kernel, by decide⟩
theorem tw_447 : Cond.code yX0_closeGap cX0_closeGap 3 (none) ∈ TB := tb_of 447 (by decide +kernel) (by decide +kernel)
theorem cw_X0_closeGap : CW mX0_closeGap 2 := ⟨tw_63, tw_447, by decide +kernel, by decide +kernel, by decide +kernel, by decide +kernel, by decide⟩
theorem tw_418 : Cond.code yX0_carry cX0_carry 3 (none) ∈ TB := tb_of 418 (by decide +kernel) (by decide +kernel)
theorem cw_X0_carry : CW mX0_carry 2 := ⟨tw_63, tw_418, by decide +kernel, by decide +kernel, by decide +kernel, by decide +kernel, by decide⟩
theorem tw_332 : Cond.code yX0_shareGrowth cX0_shareGrowth 6 (none) ∈ TB := tb_of 332 (by decide +kernel) (by decide +kernel)
theorem cw_X0_shareGrowth : CW mX0_shareGrowth 2 := ⟨tw_63, tw_332, by decide +kernel, by decide +kernel, by decide +kernel, by decide +kernel, by decide⟩
theorem tw_344 : Cond.code yX0_giveOneMore cX0_giveOneMore 4 (some .int) ∈ TB := tb_of 344 (by decide +kernel) (by decide +kernel)
theorem cw_X0_giveOneMore : CW mX0_giveOneMore 1 := ⟨tw_63, tw_344, by decide +kernel, by decide +kernel, by decide +kernel, by decide +kernel, by decide⟩
theorem tw_459 : Cond.code yX0_allWidths cX0_allWidths 3 (some .int) ∈ TB := tb_of 459 (by decide +kernel) (by decide +kernel)
theorem cw_X0_allWidths : CW mX0_allWidths 0 := ⟨tw_63, tw_459, by decide +kernel, by decide +kernel, by decide +kernel, by decide +kernel, by decide⟩
theorem tw_495 : Cond.code yX0_loadOn cX0_loadOn 2 (some .int) ∈ TB := tb_of 495 (by decide +kernel) (by decide +kernel)
theorem cw_X0_loadOn : CW mX0_loadOn 1 := ⟨tw_63, tw_495, by decide +kernel, by decide +kernel, by decide +kernel, by decide +kernel, by decide⟩
theorem tw_487 : Cond.code yX0_rateOn cX0_rateOn 2 (some .int) ∈ TB := tb_of 487 (by decide +kernel) (by decide +kernel)
theorem cw_X0_rateOn : CW mX0_rateOn 1 := ⟨tw_63, tw_487, by decide +kernel, by decide +kernel, by decide +kernel, by decide +kernel, by decide⟩
theorem tw_675 : Cond.code yX0_firstOn cX0_firstOn 2 (some .int) ∈ TB := tb_of 675 (by decide +kernel) (by decide +kernel)
theorem cw_X0_firstOn : CW mX0_firstOn 1 := ⟨tw_63, tw_675, by decide +kernel, by decide +kernel, by decide +kernel, by decide +kernel, by decide⟩
theorem tw_475 : Cond.code yX0_countOn cX0_countOn 2 (some .int) ∈ TB := tb_of 475 (by decide +kernel) (by decide +kernel)
theorem cw_X0_countOn : CW mX0_countOn 1 := ⟨tw_63, tw_475, by decide +kernel, by decide +kernel, by decide +kernel, by decide +kernel, by decide⟩
theorem tw_697 : Cond.code yX0_firstIn cX0_firstIn 2 (some .int) ∈ TB := tb_of 697 (by decide +kernel) (by decide +kernel)
theorem cw_X0_firstIn : CW mX0_firstIn 1 := ⟨tw_63, tw_697, by decide +kernel, by decide +kernel, by decide +kernel, by decide +kernel, by decide⟩
theorem tw_692 : Cond.code yX0_countIn cX0_countIn 2 (some .int) ∈ TB := tb_of 692 (by decide +kernel) (by decide +kernel)
theorem cw_X0_countIn : CW mX0_countIn 1 := ⟨tw_63, tw_692, by decide +kernel, by decide +kernel, by decide +kernel, by decide +kernel, by decide⟩
theorem tw_336 : Cond.code yX0_widthsIn cX0_widthsIn 2 (some .int) ∈ TB := tb_of 336 (by decide +kernel) (by decide +kernel)
theorem cw_X0_widthsIn : CW mX0_widthsIn 1 := ⟨tw_63, tw_336, by decide +kernel, by decide +kernel, by decide +kernel, by decide +kernel, by decide⟩
theorem tw_679 : Cond.code yX0_firstWith cX0_firstWith 4 (some .int) ∈ TB := tb_of 679 (by decide +kernel) (by decide +kernel)
theorem cw_X0_firstWith : CW mX0_firstWith 2 := ⟨tw_63, tw_679, by decide +kernel, by decide +kernel, by decide +kernel, by decide +kernel, by decide⟩
theorem tw_340 : Cond.code yX0_sumWith cX0_sumWith 6 (some .int) ∈ TB := tb_of 340 (by decide +kernel) (by decide +kernel)
theorem cw_X0_sumWith : CW mX0_sumWith 3 := ⟨tw_63, tw_340, by decide +kernel, by decide +kernel, by decide +kernel, by decide +kernel, by decide⟩
theorem tw_479 : Cond.code yX0_countWith cX0_countWith 5 (some .int) ∈ TB := tb_of 479 (by decide +kernel) (by decide +kernel)
theorem cw_X0_countWith : CW mX0_countWith 2 := ⟨tw_63, tw_479, by decide +kernel, by decide +kernel, by decide +kernel, by decide +kernel, by decide⟩
theorem tw_701 : Cond.code yX0_shelvesOf cX0_shelvesOf 5 (some .int) ∈ TB := tb_of 701 (by decide +kernel) (by decide +kernel)
theorem cw_X0_shelvesOf : CW mX0_shelvesOf 1 := ⟨tw_63, tw_701, by decide +kernel, by decide +kernel, by decide +kernel, by decide +kernel, by decide⟩
theorem tw_713 : Cond.code yX0_widthsAheadOf cX0_widthsAheadOf 4 (some .int) ∈ TB := tb_of 713 (by decide +kernel) (by decide +kernel)
theorem cw_X0_widthsAheadOf : CW mX0_widthsAheadOf 1 := ⟨tw_63, tw_713, by decide +kernel, by decide +kernel, by decide +kernel, by decide +kernel, by decide⟩
theorem tw_64 : Cond.initialized RX1 ∈ TB := tb_of 64 (by decide +kernel) (by decide +kernel)
theorem tw_356 : Cond.code yX1_load cX1_load 5 (none) ∈ TB := tb_of 356 (by decide +kernel) (by decide +kernel)
theorem cw_X1_load : CW mX1_load 3 := ⟨tw_64, tw_356, by decide +kernel, by decide +kernel, by decide +kernel, by decide +kernel, by decide⟩
theorem tw_360 : Cond.code yX1_insert cX1_insert 3 (none) ∈ TB := tb_of 360 (by decide +kernel) (by decide +kernel)
theorem cw_X1_insert : CW mX1_insert 2 := ⟨tw_64, tw_360, by decide +kernel, by decide +kernel, by decide +kernel, by decide +kernel, by decide⟩
theorem tw_385 : Cond.code yX1_forget cX1_forget 2 (none) ∈ TB := tb_of 385 (by decide +kernel) (by decide +kernel)
theorem cw_X1_forget : CW mX1_forget 1 := ⟨tw_64, tw_385, by decide +kernel, by decide +kernel, by decide +kernel, by decide +kernel, by decide⟩
theorem tw_524 : Cond.code yX1_shelvesFilled cX1_shelvesFilled 4 (some .int) ∈ TB := tb_of 524 (by decide +kernel) (by decide +kernel)
theorem cw_X1_shelvesFilled : CW mX1_shelvesFilled 1 := ⟨tw_64, tw_524, by decide +kernel, by decide +kernel, by decide +kernel, by decide +kernel, by decide⟩
theorem tw_528 : Cond.code yX1_fill cX1_fill 5 (some .int) ∈ TB := tb_of 528 (by decide +kernel) (by decide +kernel)
theorem cw_X1_fill : CW mX1_fill 2 := ⟨tw_64, tw_528, by decide +kernel, by decide +kernel, by decide +kernel, by decide +kernel, by decide⟩
theorem tw_367 : Cond.code yX1_findCuts cX1_findCuts 3 (some .boolean) ∈ TB := tb_of 367 (by decide +kernel) (by decide +kernel)
theorem cw_X1_findCuts : CW mX1_findCuts 0 := ⟨tw_64, tw_367, by decide +kernel, by decide +kernel, by decide +kernel, by decide +kernel, by decide⟩
theorem tw_372 : Cond.code yX1_chooseMost cX1_chooseMost 9 (none) ∈ TB := tb_of 372 (by decide +kernel) (by decide +kernel)
theorem cw_X1_chooseMost : CW mX1_chooseMost 2 := ⟨tw_64, tw_372, by decide +kernel, by decide +kernel, by decide +kernel, by decide +kernel, by decide⟩
theorem tw_377 : Cond.code yX1_priceOfMove cX1_priceOfMove 4 (some .int) ∈ TB := tb_of 377 (by decide +kernel) (by decide +kernel)
theorem cw_X1_priceOfMove : CW mX1_priceOfMove 2 := ⟨tw_64, tw_377, by decide +kernel, by decide +kernel, by decide +kernel, by decide +kernel, by decide⟩
theorem tw_381 : Cond.code yX1_follow cX1_follow 5 (none) ∈ TB := tb_of 381 (by decide +kernel) (by decide +kernel)
theorem cw_X1_follow : CW mX1_follow 0 := ⟨tw_64, tw_381, by decide +kernel, by decide +kernel, by decide +kernel, by decide +kernel, by decide⟩
theorem tw_512 : Cond.code yX1_partOfPrice cX1_partOfPrice 2 (some .int) ∈ TB := tb_of 512 (by decide +kernel) (by decide +kernel)
theorem cw_X1_partOfPrice : CW mX1_partOfPrice 1 := ⟨tw_64, tw_512, by decide +kernel, by decide +kernel, by decide +kernel, by decide +kernel, by decide⟩
theorem tw_62 : Cond.initialized RX2 ∈ TB := tb_of 62 (by decide +kernel) (by decide +kernel)
theorem tw_320 : Cond.code yX2_add cX2_add 3 (some .int) ∈ TB := tb_of 320 (by decide +kernel) (by decide +kernel)
theorem cw_X2_add : CW mX2_add 1 := ⟨tw_62, tw_320, by decide +kernel, by decide +kernel, by decide +kernel, by decide +kernel, by decide⟩
theorem tw_66 : Cond.initialized RX3 ∈ TB := tb_of 66 (by decide +kernel) (by decide +kernel)
theorem tw_411 : Cond.code yX3_write cX3_write 7 (none) ∈ TB := tb_of 411 (by decide +kernel) (by decide +kernel)
theorem cw_X3_write : CW mX3_write 5 := ⟨tw_66, tw_411, by decide +kernel, by decide +kernel, by decide +kernel, by decide +kernel, by decide⟩
theorem tw_597 : Cond.code yX3_read cX3_read 4 (some .int) ∈ TB := tb_of 597 (by decide +kernel) (by decide +kernel)
theorem cw_X3_read : CW mX3_read 2 := ⟨tw_66, tw_597, by decide +kernel, by decide +kernel, by decide +kernel, by decide +kernel, by decide⟩
theorem tw_65 : Cond.initialized RX4 ∈ TB := tb_of 65 (by decide +kernel) (by decide +kernel)
theorem tw_467 : Cond.code yX4_exists cX4_exists 1 (some .boolean) ∈ TB := tb_of 467 (by decide +kernel) (by decide +kernel)
theorem cw_X4_exists : CW mX4_exists 0 := ⟨tw_65, tw_467, by decide +kernel, by decide +kernel, by decide +kernel, by decide +kernel, by decide⟩
theorem tw_300 : Cond.code yX4_end cX4_end 1 (none) ∈ TB := tb_of 300 (by decide +kernel) (by decide +kernel)
theorem cw_X4_end : CW mX4_end 0 := ⟨tw_65, tw_300, by decide +kernel, by decide +kernel, by decide +kernel, by decide +kernel, by decide⟩
theorem tw_393 : Cond.code yX4_make cX4_make 5 (none) ∈ TB := tb_of 393 (by decide +kernel) (by decide +kernel)
theorem cw_X4_make : CW mX4_make 3 := ⟨tw_65, tw_393, by decide +kernel, by decide +kernel, by decide +kernel, by decide +kernel, by decide⟩
theorem tw_399 : Cond.code yX4_add cX4_add 3 (none) ∈ TB := tb_of 399 (by decide +kernel) (by decide +kernel)
theorem cw_X4_add : CW mX4_add 2 := ⟨tw_65, tw_399, by decide +kernel, by decide +kernel, by decide +kernel, by decide +kernel, by decide⟩
theorem tw_422 : Cond.code yX4_stepOn cX4_stepOn 1 (none) ∈ TB := tb_of 422 (by decide +kernel) (by decide +kernel)
theorem cw_X4_stepOn : CW mX4_stepOn 0 := ⟨tw_65, tw_422, by decide +kernel, by decide +kernel, by decide +kernel, by decide +kernel, by decide⟩
theorem tw_407 : Cond.code yX4_direction cX4_direction 2 (some .int) ∈ TB := tb_of 407 (by decide +kernel) (by decide +kernel)
theorem cw_X4_direction : CW mX4_direction 1 := ⟨tw_65, tw_407, by decide +kernel, by decide +kernel, by decide +kernel, by decide +kernel, by decide⟩
theorem tw_556 : Cond.code yX4_movesOfNextDay cX4_movesOfNextDay 4 (some .int) ∈ TB := tb_of 556 (by decide +kernel) (by decide +kernel)
theorem cw_X4_movesOfNextDay : CW mX4_movesOfNextDay 1 := ⟨tw_65, tw_556, by decide +kernel, by decide +kernel, by decide +kernel, by decide +kernel, by decide⟩
theorem tw_564 : Cond.code yX4_days cX4_days 7 (some .int) ∈ TB := tb_of 564 (by decide +kernel) (by decide +kernel)
theorem cw_X4_days : CW mX4_days 3 := ⟨tw_65, tw_564, by decide +kernel, by decide +kernel, by decide +kernel, by decide +kernel, by decide⟩
theorem tw_568 : Cond.code yX4_trips cX4_trips 5 (some .int) ∈ TB := tb_of 568 (by decide +kernel) (by decide +kernel)
theorem cw_X4_trips : CW mX4_trips 2 := ⟨tw_65, tw_568, by decide +kernel, by decide +kernel, by decide +kernel, by decide +kernel, by decide⟩
theorem tw_572 : Cond.code yX4_takenAheadOf cX4_takenAheadOf 4 (some .int) ∈ TB := tb_of 572 (by decide +kernel) (by decide +kernel)
theorem cw_X4_takenAheadOf : CW mX4_takenAheadOf 1 := ⟨tw_65, tw_572, by decide +kernel, by decide +kernel, by decide +kernel, by decide +kernel, by decide⟩
theorem tw_580 : Cond.code yX4_widthsLeft cX4_widthsLeft 3 (some .int) ∈ TB := tb_of 580 (by decide +kernel) (by decide +kernel)
theorem cw_X4_widthsLeft : CW mX4_widthsLeft 0 := ⟨tw_65, tw_580, by decide +kernel, by decide +kernel, by decide +kernel, by decide +kernel, by decide⟩
theorem tw_584 : Cond.code yX4_rightsLeft cX4_rightsLeft 3 (some .int) ∈ TB := tb_of 584 (by decide +kernel) (by decide +kernel)
theorem cw_X4_rightsLeft : CW mX4_rightsLeft 0 := ⟨tw_65, tw_584, by decide +kernel, by decide +kernel, by decide +kernel, by decide +kernel, by decide⟩
theorem tw_61 : Cond.initialized RX5 ∈ TB := tb_of 61 (by decide +kernel) (by decide +kernel)
theorem tw_304 : Cond.code yX5_add cX5_add 4 (some .int) ∈ TB := tb_of 304 (by decide +kernel) (by decide +kernel)
theorem cw_X5_add : CW mX5_add 2 := ⟨tw_61, tw_304, by decide +kernel, by decide +kernel, by decide +kernel, by decide +kernel, by decide⟩
theorem tw_463 : Cond.code yX5_openLengths cX5_openLengths 3 (some .int) ∈ TB := tb_of 463 (by decide +kernel) (by decide +kernel)
theorem cw_X5_openLengths : CW mX5_openLengths 0 := ⟨tw_61, tw_463, by decide +kernel, by decide +kernel, by decide +kernel, by decide +kernel, by decide⟩
theorem tw_60 : Cond.initialized RX6 ∈ TB := tb_of 60 (by decide +kernel) (by decide +kernel)
theorem tw_293 : Cond.code yX6_shelf cX6_shelf 4 (some .int) ∈ TB := tb_of 293 (by decide +kernel) (by decide +kernel)
theorem cw_X6_shelf : CW mX6_shelf 2 := ⟨tw_60, tw_293, by decide +kernel, by decide +kernel, by decide +kernel, by decide +kernel, by decide⟩
theorem tw_308 : Cond.code yX6_turn cX6_turn 3 (some .boolean) ∈ TB := tb_of 308 (by decide +kernel) (by decide +kernel)
theorem cw_X6_turn : CW mX6_turn 2 := ⟨tw_60, tw_308, by decide +kernel, by decide +kernel, by decide +kernel, by decide +kernel, by decide⟩
theorem tw_316 : Cond.code yX6_group cX6_group 2 (some .int) ∈ TB := tb_of 316 (by decide +kernel) (by decide +kernel)
theorem cw_X6_group : CW mX6_group 1 := ⟨tw_60, tw_316, by decide +kernel, by decide +kernel, by decide +kernel, by decide +kernel, by decide⟩
theorem tw_324 : Cond.code yX6_grow cX6_grow 3 (some .boolean) ∈ TB := tb_of 324 (by decide +kernel) (by decide +kernel)
theorem cw_X6_grow : CW mX6_grow 2 := ⟨tw_60, tw_324, by decide +kernel, by decide +kernel, by decide +kernel, by decide +kernel, by decide⟩
theorem tw_348 : Cond.code yX6_book cX6_book 5 (some .int) ∈ TB := tb_of 348 (by decide +kernel) (by decide +kernel)
theorem cw_X6_book : CW mX6_book 2 := ⟨tw_60, tw_348, by decide +kernel, by decide +kernel, by decide +kernel, by decide +kernel, by decide⟩
theorem tw_435 : Cond.code yX6_gone cX6_gone 4 (some .int) ∈ TB := tb_of 435 (by decide +kernel) (by decide +kernel)
theorem cw_X6_gone : CW mX6_gone 1 := ⟨tw_60, tw_435, by decide +kernel, by decide +kernel, by decide +kernel, by decide +kernel, by decide⟩
theorem tw_451 : Cond.code yX6_limit cX6_limit 2 (some .boolean) ∈ TB := tb_of 451 (by decide +kernel) (by decide +kernel)
theorem cw_X6_limit : CW mX6_limit 1 := ⟨tw_60, tw_451, by decide +kernel, by decide +kernel, by decide +kernel, by decide +kernel, by decide⟩
theorem tw_455 : Cond.code yX6_count cX6_count 2 (some .int) ∈ TB := tb_of 455 (by decide +kernel) (by decide +kernel)
theorem cw_X6_count : CW mX6_count 1 := ⟨tw_60, tw_455, by decide +kernel, by decide +kernel, by decide +kernel, by decide +kernel, by decide⟩
theorem tw_605 : Cond.code yX6_on cX6_on 3 (some .int) ∈ TB := tb_of 605 (by decide +kernel) (by decide +kernel)
theorem cw_X6_on : CW mX6_on 2 := ⟨tw_60, tw_605, by decide +kernel, by decide +kernel, by decide +kernel, by decide +kernel, by decide⟩
theorem tw_687 : Cond.code yX6_in cX6_in 3 (some .int) ∈ TB := tb_of 687 (by decide +kernel) (by decide +kernel)
theorem cw_X6_in : CW mX6_in 2 := ⟨tw_60, tw_687, by decide +kernel, by decide +kernel, by decide +kernel, by decide +kernel, by decide⟩
theorem tw_708 : Cond.code yX6_of cX6_of 3 (some .int) ∈ TB := tb_of 708 (by decide +kernel) (by decide +kernel)
theorem cw_X6_of : CW mX6_of 2 := ⟨tw_60, tw_708, by decide +kernel, by decide +kernel, by decide +kernel, by decide +kernel, by decide⟩
theorem tw_471 : Cond.code yX6_lasts cX6_lasts 3 (some .int) ∈ TB := tb_of 471 (by decide +kernel) (by decide +kernel)
theorem cw_X6_lasts : CW mX6_lasts 0 := ⟨tw_60, tw_471, by decide +kernel, by decide +kernel, by decide +kernel, by decide +kernel, by decide⟩
theorem tw_500 : Cond.code yX6_cut cX6_cut 3 (some .int) ∈ TB := tb_of 500 (by decide +kernel) (by decide +kernel)
theorem cw_X6_cut : CW mX6_cut 2 := ⟨tw_60, tw_500, by decide +kernel, by decide +kernel, by decide +kernel, by decide +kernel, by decide⟩
theorem tw_508 : Cond.code yX6_price cX6_price 3 (some .int) ∈ TB := tb_of 508 (by decide +kernel) (by decide +kernel)
theorem cw_X6_price : CW mX6_price 2 := ⟨tw_60, tw_508, by decide +kernel, by decide +kernel, by decide +kernel, by decide +kernel, by decide⟩
theorem tw_516 : Cond.code yX6_best cX6_best 5 (some .int) ∈ TB := tb_of 516 (by decide +kernel) (by decide +kernel)
theorem cw_X6_best : CW mX6_best 1 := ⟨tw_60, tw_516, by decide +kernel, by decide +kernel, by decide +kernel, by decide +kernel, by decide⟩
theorem tw_532 : Cond.code yX6_tight cX6_tight 2 (some .int) ∈ TB := tb_of 532 (by decide +kernel) (by decide +kernel)
theorem cw_X6_tight : CW mX6_tight 0 := ⟨tw_60, tw_532, by decide +kernel, by decide +kernel, by decide +kernel, by decide +kernel, by decide⟩
theorem tw_536 : Cond.code yX6_more cX6_more 6 (some .int) ∈ TB := tb_of 536 (by decide +kernel) (by decide +kernel)
theorem cw_X6_more : CW mX6_more 2 := ⟨tw_60, tw_536, by decide +kernel, by decide +kernel, by decide +kernel, by decide +kernel, by decide⟩
theorem tw_540 : Cond.code yX6_plan cX6_plan 2 (some .int) ∈ TB := tb_of 540 (by decide +kernel) (by decide +kernel)
theorem cw_X6_plan : CW mX6_plan 1 := ⟨tw_60, tw_540, by decide +kernel, by decide +kernel, by decide +kernel, by decide +kernel, by decide⟩
theorem tw_544 : Cond.code yX6_drop cX6_drop 2 (some .int) ∈ TB := tb_of 544 (by decide +kernel) (by decide +kernel)
theorem cw_X6_drop : CW mX6_drop 0 := ⟨tw_60, tw_544, by decide +kernel, by decide +kernel, by decide +kernel, by decide +kernel, by decide⟩
theorem tw_548 : Cond.code yX6_move cX6_move 1 (some .int) ∈ TB := tb_of 548 (by decide +kernel) (by decide +kernel)
theorem cw_X6_move : CW mX6_move 0 := ⟨tw_60, tw_548, by decide +kernel, by decide +kernel, by decide +kernel, by decide +kernel, by decide⟩
theorem tw_552 : Cond.code yX6_day cX6_day 3 (some .int) ∈ TB := tb_of 552 (by decide +kernel) (by decide +kernel)
theorem cw_X6_day : CW mX6_day 0 := ⟨tw_60, tw_552, by decide +kernel, by decide +kernel, by decide +kernel, by decide +kernel, by decide⟩
theorem tw_560 : Cond.code yX6_planned cX6_planned 3 (some .int) ∈ TB := tb_of 560 (by decide +kernel) (by decide +kernel)
theorem cw_X6_planned : CW mX6_planned 2 := ⟨tw_60, tw_560, by decide +kernel, by decide +kernel, by decide +kernel, by decide +kernel, by decide⟩
theorem tw_576 : Cond.code yX6_left cX6_left 2 (some .int) ∈ TB := tb_of 576 (by decide +kernel) (by decide +kernel)
theorem cw_X6_left : CW mX6_left 1 := ⟨tw_60, tw_576, by decide +kernel, by decide +kernel, by decide +kernel, by decide +kernel, by decide⟩
theorem tw_589 : Cond.code yX6_enough cX6_enough 5 (some .int) ∈ TB := tb_of 589 (by decide +kernel) (by decide +kernel)
theorem cw_X6_enough : CW mX6_enough 1 := ⟨tw_60, tw_589, by decide +kernel, by decide +kernel, by decide +kernel, by decide +kernel, by decide⟩
theorem tw_593 : Cond.code yX6_log cX6_log 3 (some .int) ∈ TB := tb_of 593 (by decide +kernel) (by decide +kernel)
theorem cw_X6_log : CW mX6_log 2 := ⟨tw_60, tw_593, by decide +kernel, by decide +kernel, by decide +kernel, by decide +kernel, by decide⟩
theorem tw_296 : Cond.code yX6_isWithin cX6_isWithin 3 (some .boolean) ∈ TB := tb_of 296 (by decide +kernel) (by decide +kernel)
theorem cw_X6_isWithin : CW mX6_isWithin 3 := ⟨tw_60, tw_296, by decide +kernel, by decide +kernel, by decide +kernel, by decide +kernel, by decide⟩
theorem tw_312 : Cond.code yX6_hasShelf cX6_hasShelf 2 (some .boolean) ∈ TB := tb_of 312 (by decide +kernel) (by decide +kernel)
theorem cw_X6_hasShelf : CW mX6_hasShelf 1 := ⟨tw_60, tw_312, by decide +kernel, by decide +kernel, by decide +kernel, by decide +kernel, by decide⟩
theorem tw_328 : Cond.code yX6_hasGroup cX6_hasGroup 2 (some .boolean) ∈ TB := tb_of 328 (by decide +kernel) (by decide +kernel)
theorem cw_X6_hasGroup : CW mX6_hasGroup 1 := ⟨tw_60, tw_328, by decide +kernel, by decide +kernel, by decide +kernel, by decide +kernel, by decide⟩
theorem tw_439 : Cond.code yX6_hasBook cX6_hasBook 2 (some .boolean) ∈ TB := tb_of 439 (by decide +kernel) (by decide +kernel)
theorem cw_X6_hasBook : CW mX6_hasBook 1 := ⟨tw_60, tw_439, by decide +kernel, by decide +kernel, by decide +kernel, by decide +kernel, by decide⟩
theorem tw_491 : Cond.code yX6_roomOn cX6_roomOn 2 (some .int) ∈ TB := tb_of 491 (by decide +kernel) (by decide +kernel)
theorem cw_X6_roomOn : CW mX6_roomOn 1 := ⟨tw_60, tw_491, by decide +kernel, by decide +kernel, by decide +kernel, by decide +kernel, by decide⟩
theorem tw_483 : Cond.code yX6_yearsOn cX6_yearsOn 3 (some .int) ∈ TB := tb_of 483 (by decide +kernel) (by decide +kernel)
theorem cw_X6_yearsOn : CW mX6_yearsOn 1 := ⟨tw_60, tw_483, by decide +kernel, by decide +kernel, by decide +kernel, by decide +kernel, by decide⟩
theorem tw_504 : Cond.code yX6_hasCuts cX6_hasCuts 2 (some .boolean) ∈ TB := tb_of 504 (by decide +kernel) (by decide +kernel)
theorem cw_X6_hasCuts : CW mX6_hasCuts 1 := ⟨tw_60, tw_504, by decide +kernel, by decide +kernel, by decide +kernel, by decide +kernel, by decide⟩
theorem tw_520 : Cond.code yX6_isRoomFor cX6_isRoomFor 3 (some .boolean) ∈ TB := tb_of 520 (by decide +kernel) (by decide +kernel)
theorem cw_X6_isRoomFor : CW mX6_isRoomFor 2 := ⟨tw_60, tw_520, by decide +kernel, by decide +kernel, by decide +kernel, by decide +kernel, by decide⟩
theorem tw_389 : Cond.code yX6_moveAtOnce cX6_moveAtOnce 3 (none) ∈ TB := tb_of 389 (by decide +kernel) (by decide +kernel)
theorem cw_X6_moveAtOnce : CW mX6_moveAtOnce 0 := ⟨tw_60, tw_389, by decide +kernel, by decide +kernel, by decide +kernel, by decide +kernel, by decide⟩
theorem tw_403 : Cond.code yX6_makeNextMove cX6_makeNextMove 3 (some .int) ∈ TB := tb_of 403 (by decide +kernel) (by decide +kernel)
theorem cw_X6_makeNextMove : CW mX6_makeNextMove 0 := ⟨tw_60, tw_403, by decide +kernel, by decide +kernel, by decide +kernel, by decide +kernel, by decide⟩
theorem tw_67 : Cond.initialized RX7 ∈ TB := tb_of 67 (by decide +kernel) (by decide +kernel)
theorem tw_811 : Cond.code yX7_thrown cX7_thrown 1 (some .int) ∈ TB := tb_of 811 (by decide +kernel) (by decide +kernel)
theorem cw_X7_thrown : CW mX7_thrown 0 := ⟨tw_67, tw_811, by decide +kernel, by decide +kernel, by decide +kernel, by decide +kernel, by decide⟩
theorem tw_818 : Cond.code yX7_isIn cX7_isIn 3 (some .boolean) ∈ TB := tb_of 818 (by decide +kernel) (by decide +kernel)
theorem cw_X7_isIn : CW mX7_isIn 3 := ⟨tw_67, tw_818, by decide +kernel, by decide +kernel, by decide +kernel, by decide +kernel, by decide⟩
theorem tw_826 : Cond.code yX7_isShelf cX7_isShelf 2 (some .boolean) ∈ TB := tb_of 826 (by decide +kernel) (by decide +kernel)
theorem cw_X7_isShelf : CW mX7_isShelf 1 := ⟨tw_67, tw_826, by decide +kernel, by decide +kernel, by decide +kernel, by decide +kernel, by decide⟩
theorem tw_883 : Cond.code yX7_isGroup cX7_isGroup 2 (some .boolean) ∈ TB := tb_of 883 (by decide +kernel) (by decide +kernel)
theorem cw_X7_isGroup : CW mX7_isGroup 1 := ⟨tw_67, tw_883, by decide +kernel, by decide +kernel, by decide +kernel, by decide +kernel, by decide⟩
theorem tw_923 : Cond.code yX7_isBook cX7_isBook 2 (some .boolean) ∈ TB := tb_of 923 (by decide +kernel) (by decide +kernel)
theorem cw_X7_isBook : CW mX7_isBook 1 := ⟨tw_67, tw_923, by decide +kernel, by decide +kernel, by decide +kernel, by decide +kernel, by decide⟩
theorem tw_915 : Cond.code yX7_notes cX7_notes 6 (none) ∈ TB := tb_of 915 (by decide +kernel) (by decide +kernel)
theorem cw_X7_notes : CW mX7_notes 4 := ⟨tw_67, tw_915, by decide +kernel, by decide +kernel, by decide +kernel, by decide +kernel, by decide⟩
theorem tw_815 : Cond.code yX7_log cX7_log 3 (some .int) ∈ TB := tb_of 815 (by decide +kernel) (by decide +kernel)
theorem cw_X7_log : CW mX7_log 2 := ⟨tw_67, tw_815, by decide +kernel, by decide +kernel, by decide +kernel, by decide +kernel, by decide⟩
theorem tw_841 : Cond.code yX7_widthOf cX7_widthOf 4 (some .int) ∈ TB := tb_of 841 (by decide +kernel) (by decide +kernel)
theorem cw_X7_widthOf : CW mX7_widthOf 1 := ⟨tw_67, tw_841, by decide +kernel, by decide +kernel, by decide +kernel, by decide +kernel, by decide⟩
theorem tw_837 : Cond.code yX7_laysNeeds cX7_laysNeeds 6 (none) ∈ TB := tb_of 837 (by decide +kernel) (by decide +kernel)
theorem cw_X7_laysNeeds : CW mX7_laysNeeds 0 := ⟨tw_67, tw_837, by decide +kernel, by decide +kernel, by decide +kernel, by decide +kernel, by decide⟩
theorem tw_1023 : Cond.code yX7_loadOf cX7_loadOf 4 (some .int) ∈ TB := tb_of 1023 (by decide +kernel) (by decide +kernel)
theorem cw_X7_loadOf : CW mX7_loadOf 1 := ⟨tw_67, tw_1023, by decide +kernel, by decide +kernel, by decide +kernel, by decide +kernel, by decide⟩
theorem tw_1027 : Cond.code yX7_rateOf cX7_rateOf 4 (some .int) ∈ TB := tb_of 1027 (by decide +kernel) (by decide +kernel)
theorem cw_X7_rateOf : CW mX7_rateOf 1 := ⟨tw_67, tw_1027, by decide +kernel, by decide +kernel, by decide +kernel, by decide +kernel, by decide⟩
theorem tw_1031 : Cond.code yX7_lastsOf cX7_lastsOf 4 (some .int) ∈ TB := tb_of 1031 (by decide +kernel) (by decide +kernel)
theorem cw_X7_lastsOf : CW mX7_lastsOf 1 := ⟨tw_67, tw_1031, by decide +kernel, by decide +kernel, by decide +kernel, by decide +kernel, by decide⟩
theorem tw_1035 : Cond.code yX7_firstOn cX7_firstOn 3 (some .int) ∈ TB := tb_of 1035 (by decide +kernel) (by decide +kernel)
theorem cw_X7_firstOn : CW mX7_firstOn 1 := ⟨tw_67, tw_1035, by decide +kernel, by decide +kernel, by decide +kernel, by decide +kernel, by decide⟩
theorem tw_1039 : Cond.code yX7_manyOn cX7_manyOn 4 (some .int) ∈ TB := tb_of 1039 (by decide +kernel) (by decide +kernel)
theorem cw_X7_manyOn : CW mX7_manyOn 1 := ⟨tw_67, tw_1039, by decide +kernel, by decide +kernel, by decide +kernel, by decide +kernel, by decide⟩
theorem tw_845 : Cond.code yX7_cell cX7_cell 3 (some .int) ∈ TB := tb_of 845 (by decide +kernel) (by decide +kernel)
theorem cw_X7_cell : CW mX7_cell 2 := ⟨tw_67, tw_845, by decide +kernel, by decide +kernel, by decide +kernel, by decide +kernel, by decide⟩
theorem tw_858 : Cond.code yX7_costOf cX7_costOf 6 (some .int) ∈ TB := tb_of 858 (by decide +kernel) (by decide +kernel)
theorem cw_X7_costOf : CW mX7_costOf 3 := ⟨tw_67, tw_858, by decide +kernel, by decide +kernel, by decide +kernel, by decide +kernel, by decide⟩
theorem tw_854 : Cond.code yX7_mostOn cX7_mostOn 5 (some .int) ∈ TB := tb_of 854 (by decide +kernel) (by decide +kernel)
theorem cw_X7_mostOn : CW mX7_mostOn 2 := ⟨tw_67, tw_854, by decide +kernel, by decide +kernel, by decide +kernel, by decide +kernel, by decide⟩
theorem tw_833 : Cond.code yX7_cuts cX7_cuts 5 (some .boolean) ∈ TB := tb_of 833 (by decide +kernel) (by decide +kernel)
theorem cw_X7_cuts : CW mX7_cuts 1 := ⟨tw_67, tw_833, by decide +kernel, by decide +kernel, by decide +kernel, by decide +kernel, by decide⟩
theorem tw_850 : Cond.code yX7_laysLeast cX7_laysLeast 6 (none) ∈ TB := tb_of 850 (by decide +kernel) (by decide +kernel)
theorem cw_X7_laysLeast : CW mX7_laysLeast 2 := ⟨tw_67, tw_850, by decide +kernel, by decide +kernel, by decide +kernel, by decide +kernel, by decide⟩
theorem tw_829 : Cond.code yX7_isYears cX7_isYears 1 (some .boolean) ∈ TB := tb_of 829 (by decide +kernel) (by decide +kernel)
theorem cw_X7_isYears : CW mX7_isYears 1 := ⟨tw_67, tw_829, by decide +kernel, by decide +kernel, by decide +kernel, by decide +kernel, by decide⟩
theorem tw_822 : Cond.code yX7_cut cX7_cut 3 (some .int) ∈ TB := tb_of 822 (by decide +kernel) (by decide +kernel)
theorem cw_X7_cut : CW mX7_cut 2 := ⟨tw_67, tw_822, by decide +kernel, by decide +kernel, by decide +kernel, by decide +kernel, by decide⟩
theorem tw_863 : Cond.code yX7_price cX7_price 3 (some .int) ∈ TB := tb_of 863 (by decide +kernel) (by decide +kernel)
theorem cw_X7_price : CW mX7_price 2 := ⟨tw_67, tw_863, by decide +kernel, by decide +kernel, by decide +kernel, by decide +kernel, by decide⟩
theorem tw_871 : Cond.code yX7_fits cX7_fits 6 (some .boolean) ∈ TB := tb_of 871 (by decide +kernel) (by decide +kernel)
theorem cw_X7_fits : CW mX7_fits 2 := ⟨tw_67, tw_871, by decide +kernel, by decide +kernel, by decide +kernel, by decide +kernel, by decide⟩
theorem tw_867 : Cond.code yX7_best cX7_best 3 (some .int) ∈ TB := tb_of 867 (by decide +kernel) (by decide +kernel)
theorem cw_X7_best : CW mX7_best 1 := ⟨tw_67, tw_867, by decide +kernel, by decide +kernel, by decide +kernel, by decide +kernel, by decide⟩
theorem tw_875 : Cond.code yX7_tight cX7_tight 5 (some .int) ∈ TB := tb_of 875 (by decide +kernel) (by decide +kernel)
theorem cw_X7_tight : CW mX7_tight 0 := ⟨tw_67, tw_875, by decide +kernel, by decide +kernel, by decide +kernel, by decide +kernel, by decide⟩
theorem tw_895 : Cond.code yX7_opens cX7_opens 3 (none) ∈ TB := tb_of 895 (by decide +kernel) (by decide +kernel)
theorem cw_X7_opens : CW mX7_opens 1 := ⟨tw_67, tw_895, by decide +kernel, by decide +kernel, by decide +kernel, by decide +kernel, by decide⟩
theorem tw_899 : Cond.code yX7_closes cX7_closes 3 (none) ∈ TB := tb_of 899 (by decide +kernel) (by decide +kernel)
theorem cw_X7_closes : CW mX7_closes 1 := ⟨tw_67, tw_899, by decide +kernel, by decide +kernel, by decide +kernel, by decide +kernel, by decide⟩
theorem tw_887 : Cond.code yX7_behind cX7_behind 3 (some .int) ∈ TB := tb_of 887 (by decide +kernel) (by decide +kernel)
theorem cw_X7_behind : CW mX7_behind 1 := ⟨tw_67, tw_887, by decide +kernel, by decide +kernel, by decide +kernel, by decide +kernel, by decide⟩
theorem tw_891 : Cond.code yX7_comes cX7_comes 4 (none) ∈ TB := tb_of 891 (by decide +kernel) (by decide +kernel)
theorem cw_X7_comes : CW mX7_comes 3 := ⟨tw_67, tw_891, by decide +kernel, by decide +kernel, by decide +kernel, by decide +kernel, by decide⟩
theorem tw_903 : Cond.code yX7_laysGoals cX7_laysGoals 4 (none) ∈ TB := tb_of 903 (by decide +kernel) (by decide +kernel)
theorem cw_X7_laysGoals : CW mX7_laysGoals 0 := ⟨tw_67, tw_903, by decide +kernel, by decide +kernel, by decide +kernel, by decide +kernel, by decide⟩
theorem tw_879 : Cond.code yX7_book cX7_book 6 (some .int) ∈ TB := tb_of 879 (by decide +kernel) (by decide +kernel)
theorem cw_X7_book : CW mX7_book 2 := ⟨tw_67, tw_879, by decide +kernel, by decide +kernel, by decide +kernel, by decide +kernel, by decide⟩
theorem tw_919 : Cond.code yX7_gone cX7_gone 3 (some .int) ∈ TB := tb_of 919 (by decide +kernel) (by decide +kernel)
theorem cw_X7_gone : CW mX7_gone 1 := ⟨tw_67, tw_919, by decide +kernel, by decide +kernel, by decide +kernel, by decide +kernel, by decide⟩
theorem tw_927 : Cond.code yX7_more cX7_more 7 (some .int) ∈ TB := tb_of 927 (by decide +kernel) (by decide +kernel)
theorem cw_X7_more : CW mX7_more 2 := ⟨tw_67, tw_927, by decide +kernel, by decide +kernel, by decide +kernel, by decide +kernel, by decide⟩
theorem tw_907 : Cond.code yX7_ends cX7_ends 1 (none) ∈ TB := tb_of 907 (by decide +kernel) (by decide +kernel)
theorem cw_X7_ends : CW mX7_ends 0 := ⟨tw_67, tw_907, by decide +kernel, by decide +kernel, by decide +kernel, by decide +kernel, by decide⟩
theorem tw_911 : Cond.code yX7_moves cX7_moves 3 (none) ∈ TB := tb_of 911 (by decide +kernel) (by decide +kernel)
theorem cw_X7_moves : CW mX7_moves 2 := ⟨tw_67, tw_911, by decide +kernel, by decide +kernel, by decide +kernel, by decide +kernel, by decide⟩
theorem tw_935 : Cond.code yX7_plans cX7_plans 2 (none) ∈ TB := tb_of 935 (by decide +kernel) (by decide +kernel)
theorem cw_X7_plans : CW mX7_plans 1 := ⟨tw_67, tw_935, by decide +kernel, by decide +kernel, by decide +kernel, by decide +kernel, by decide⟩
theorem tw_931 : Cond.code yX7_plan cX7_plan 3 (some .int) ∈ TB := tb_of 931 (by decide +kernel) (by decide +kernel)
theorem cw_X7_plan : CW mX7_plan 1 := ⟨tw_67, tw_931, by decide +kernel, by decide +kernel, by decide +kernel, by decide +kernel, by decide⟩
theorem tw_939 : Cond.code yX7_drop cX7_drop 1 (some .int) ∈ TB := tb_of 939 (by decide +kernel) (by decide +kernel)
theorem cw_X7_drop : CW mX7_drop 0 := ⟨tw_67, tw_939, by decide +kernel, by decide +kernel, by decide +kernel, by decide +kernel, by decide⟩
theorem tw_947 : Cond.code yX7_goesOn cX7_goesOn 2 (some .int) ∈ TB := tb_of 947 (by decide +kernel) (by decide +kernel)
theorem cw_X7_goesOn : CW mX7_goesOn 0 := ⟨tw_67, tw_947, by decide +kernel, by decide +kernel, by decide +kernel, by decide +kernel, by decide⟩
theorem tw_943 : Cond.code yX7_move cX7_move 1 (some .int) ∈ TB := tb_of 943 (by decide +kernel) (by decide +kernel)
theorem cw_X7_move : CW mX7_move 0 := ⟨tw_67, tw_943, by decide +kernel, by decide +kernel, by decide +kernel, by decide +kernel, by decide⟩
theorem tw_951 : Cond.code yX7_day cX7_day 4 (some .int) ∈ TB := tb_of 951 (by decide +kernel) (by decide +kernel)
theorem cw_X7_day : CW mX7_day 0 := ⟨tw_67, tw_951, by decide +kernel, by decide +kernel, by decide +kernel, by decide +kernel, by decide⟩
theorem tw_959 : Cond.code yX7_dayOf cX7_dayOf 8 (some .int) ∈ TB := tb_of 959 (by decide +kernel) (by decide +kernel)
theorem cw_X7_dayOf : CW mX7_dayOf 3 := ⟨tw_67, tw_959, by decide +kernel, by decide +kernel, by decide +kernel, by decide +kernel, by decide⟩
theorem tw_963 : Cond.code yX7_tripOf cX7_tripOf 5 (some .int) ∈ TB := tb_of 963 (by decide +kernel) (by decide +kernel)
theorem cw_X7_tripOf : CW mX7_tripOf 2 := ⟨tw_67, tw_963, by decide +kernel, by decide +kernel, by decide +kernel, by decide +kernel, by decide⟩
theorem tw_967 : Cond.code yX7_taken cX7_taken 4 (some .int) ∈ TB := tb_of 967 (by decide +kernel) (by decide +kernel)
theorem cw_X7_taken : CW mX7_taken 1 := ⟨tw_67, tw_967, by decide +kernel, by decide +kernel, by decide +kernel, by decide +kernel, by decide⟩
theorem tw_955 : Cond.code yX7_planned cX7_planned 3 (some .int) ∈ TB := tb_of 955 (by decide +kernel) (by decide +kernel)
theorem cw_X7_planned : CW mX7_planned 2 := ⟨tw_67, tw_955, by decide +kernel, by decide +kernel, by decide +kernel, by decide +kernel, by decide⟩
theorem tw_975 : Cond.code yX7_leftWidths cX7_leftWidths 3 (some .int) ∈ TB := tb_of 975 (by decide +kernel) (by decide +kernel)
theorem cw_X7_leftWidths : CW mX7_leftWidths 0 := ⟨tw_67, tw_975, by decide +kernel, by decide +kernel, by decide +kernel, by decide +kernel, by decide⟩
theorem tw_979 : Cond.code yX7_leftRight cX7_leftRight 3 (some .int) ∈ TB := tb_of 979 (by decide +kernel) (by decide +kernel)
theorem cw_X7_leftRight : CW mX7_leftRight 0 := ⟨tw_67, tw_979, by decide +kernel, by decide +kernel, by decide +kernel, by decide +kernel, by decide⟩
theorem tw_971 : Cond.code yX7_left cX7_left 2 (some .int) ∈ TB := tb_of 971 (by decide +kernel) (by decide +kernel)
theorem cw_X7_left : CW mX7_left 1 := ⟨tw_67, tw_971, by decide +kernel, by decide +kernel, by decide +kernel, by decide +kernel, by decide⟩
theorem tw_983 : Cond.code yX7_enough cX7_enough 3 (some .int) ∈ TB := tb_of 983 (by decide +kernel) (by decide +kernel)
theorem cw_X7_enough : CW mX7_enough 1 := ⟨tw_67, tw_983, by decide +kernel, by decide +kernel, by decide +kernel, by decide +kernel, by decide⟩
theorem tw_987 : Cond.code yX7_shelf cX7_shelf 3 (some .int) ∈ TB := tb_of 987 (by decide +kernel) (by decide +kernel)
theorem cw_X7_shelf : CW mX7_shelf 2 := ⟨tw_67, tw_987, by decide +kernel, by decide +kernel, by decide +kernel, by decide +kernel, by decide⟩
theorem tw_991 : Cond.code yX7_turn cX7_turn 3 (some .boolean) ∈ TB := tb_of 991 (by decide +kernel) (by decide +kernel)
theorem cw_X7_turn : CW mX7_turn 2 := ⟨tw_67, tw_991, by decide +kernel, by decide +kernel, by decide +kernel, by decide +kernel, by decide⟩
theorem tw_995 : Cond.code yX7_group cX7_group 2 (some .int) ∈ TB := tb_of 995 (by decide +kernel) (by decide +kernel)
theorem cw_X7_group : CW mX7_group 1 := ⟨tw_67, tw_995, by decide +kernel, by decide +kernel, by decide +kernel, by decide +kernel, by decide⟩
theorem tw_999 : Cond.code yX7_grow cX7_grow 3 (some .boolean) ∈ TB := tb_of 999 (by decide +kernel) (by decide +kernel)
theorem cw_X7_grow : CW mX7_grow 2 := ⟨tw_67, tw_999, by decide +kernel, by decide +kernel, by decide +kernel, by decide +kernel, by decide⟩
theorem tw_1003 : Cond.code yX7_limit cX7_limit 2 (some .boolean) ∈ TB := tb_of 1003 (by decide +kernel) (by decide +kernel)
theorem cw_X7_limit : CW mX7_limit 1 := ⟨tw_67, tw_1003, by decide +kernel, by decide +kernel, by decide +kernel, by decide +kernel, by decide⟩
theorem tw_1011 : Cond.code yX7_allWidths cX7_allWidths 3 (some .int) ∈ TB := tb_of 1011 (by decide +kernel) (by decide +kernel)
theorem cw_X7_allWidths : CW mX7_allWidths 0 := ⟨tw_67, tw_1011, by decide +kernel, by decide +kernel, by decide +kernel, by decide +kernel, by decide⟩
theorem tw_1015 : Cond.code yX7_openLengths cX7_openLengths 3 (some .int) ∈ TB := tb_of 1015 (by decide +kernel) (by decide +kernel)
theorem cw_X7_openLengths : CW mX7_openLengths 0 := ⟨tw_67, tw_1015, by decide +kernel, by decide +kernel, by decide +kernel, by decide +kernel, by decide⟩
theorem tw_1007 : Cond.code yX7_count cX7_count 2 (some .int) ∈ TB := tb_of 1007 (by decide +kernel) (by decide +kernel)
theorem cw_X7_count : CW mX7_count 1 := ⟨tw_67, tw_1007, by decide +kernel, by decide +kernel, by decide +kernel, by decide +kernel, by decide⟩
theorem tw_1019 : Cond.code yX7_on cX7_on 3 (some .int) ∈ TB := tb_of 1019 (by decide +kernel) (by decide +kernel)
theorem cw_X7_on : CW mX7_on 2 := ⟨tw_67, tw_1019, by decide +kernel, by decide +kernel, by decide +kernel, by decide +kernel, by decide⟩
theorem tw_1047 : Cond.code yX7_booksOf cX7_booksOf 4 (some .int) ∈ TB := tb_of 1047 (by decide +kernel) (by decide +kernel)
theorem cw_X7_booksOf : CW mX7_booksOf 1 := ⟨tw_67, tw_1047, by decide +kernel, by decide +kernel, by decide +kernel, by decide +kernel, by decide⟩
theorem tw_1051 : Cond.code yX7_firstOf cX7_firstOf 3 (some .int) ∈ TB := tb_of 1051 (by decide +kernel) (by decide +kernel)
theorem cw_X7_firstOf : CW mX7_firstOf 1 := ⟨tw_67, tw_1051, by decide +kernel, by decide +kernel, by decide +kernel, by decide +kernel, by decide⟩
theorem tw_1055 : Cond.code yX7_shelvesOf cX7_shelvesOf 5 (some .int) ∈ TB := tb_of 1055 (by decide +kernel) (by decide +kernel)
theorem cw_X7_shelvesOf : CW mX7_shelvesOf 1 := ⟨tw_67, tw_1055, by decide +kernel, by decide +kernel, by decide +kernel, by decide +kernel, by decide⟩
theorem tw_1043 : Cond.code yX7_in cX7_in 3 (some .int) ∈ TB := tb_of 1043 (by decide +kernel) (by decide +kernel)
theorem cw_X7_in : CW mX7_in 2 := ⟨tw_67, tw_1043, by decide +kernel, by decide +kernel, by decide +kernel, by decide +kernel, by decide⟩
theorem tw_1063 : Cond.code yX7_needOf cX7_needOf 2 (some .int) ∈ TB := tb_of 1063 (by decide +kernel) (by decide +kernel)
theorem cw_X7_needOf : CW mX7_needOf 1 := ⟨tw_67, tw_1063, by decide +kernel, by decide +kernel, by decide +kernel, by decide +kernel, by decide⟩
theorem tw_1067 : Cond.code yX7_ahead cX7_ahead 4 (some .int) ∈ TB := tb_of 1067 (by decide +kernel) (by decide +kernel)
theorem cw_X7_ahead : CW mX7_ahead 1 := ⟨tw_67, tw_1067, by decide +kernel, by decide +kernel, by decide +kernel, by decide +kernel, by decide⟩
theorem tw_1059 : Cond.code yX7_of cX7_of 3 (some .int) ∈ TB := tb_of 1059 (by decide +kernel) (by decide +kernel)
theorem cw_X7_of : CW mX7_of 2 := ⟨tw_67, tw_1059, by decide +kernel, by decide +kernel, by decide +kernel, by decide +kernel, by decide⟩
theorem tw_1071 : Cond.code yX7_lasts cX7_lasts 3 (some .int) ∈ TB := tb_of 1071 (by decide +kernel) (by decide +kernel)
theorem cw_X7_lasts : CW mX7_lasts 0 := ⟨tw_67, tw_1071, by decide +kernel, by decide +kernel, by decide +kernel, by decide +kernel, by decide⟩
theorem tw_142 : Cond.fieldLink RX0 30 "ShelfShift$Books" "count" "I" ∈ TB := tb_of 142 (by decide +kernel) (by decide +kernel)
theorem gf_X0_30 {M : MI} {d pc : Nat} {Q : Int → St → Prop} {ls : List (Option PV)} {st : List PV} {σ : St} (hM : M.1.cls = RX0) (hd : decode M.2.1 pc = .ok (.getfield 30, 3)) (h : Wp M d Q (pc + 3) ls (.inl (σ 0 6) :: st) σ) : Wp M d Q pc ls (.inr 0 :: st) σ := w_get (k := 0) (j := 6) (v := .inl (σ 0 6)) rfl inTB0 rfl (by decide) (by rw [hM]; exact tw_142) (fun _ => rfl) hd h
theorem tw_126 : Cond.fieldLink RX0 9 "ShelfShift$Books" "group" "[I" ∈ TB := tb_of 126 (by decide +kernel) (by decide +kernel)
theorem gf_X0_9 {M : MI} {d pc : Nat} {Q : Int → St → Prop} {ls : List (Option PV)} {st : List PV} {σ : St} (hM : M.1.cls = RX0) (hd : decode M.2.1 pc = .ok (.getfield 9, 3)) (h : Wp M d Q (pc + 3) ls (.inr 8 :: st) σ) : Wp M d Q pc ls (.inr 0 :: st) σ := w_get (k := 0) (j := 0) (v := .inr 8) rfl inTB0 rfl (by decide) (by rw [hM]; exact tw_126) (fun _ => rfl) hd h
theorem tw_427 : Cond.methodLink RX0 34 yX0_openGap ∈ TB := tb_of 427 (by decide +kernel) (by decide +kernel)
theorem tw_429 : Cond.instanceMethod yX0_openGap ∈ TB := tb_of 429 (by decide +kernel) (by decide +kernel)
theorem tw_10 : Cond.selects RX0 yX0_openGap yX0_openGap ∈ TB := tb_of 10 (by decide +kernel) (by decide +kernel)
theorem cv_X0_34 {M : MI} {d pc : Nat} {Q : Int → St → Prop} {ls : List (Option PV)} {st : List PV} {σ : St} {d' : Nat} {a1 a2 : PV} (hM : M.1.cls = RX0) (hd : decode M.2.1 pc = .ok (.invokevirtual 34, 3)) (hdd : d' < d) (hst : st.length ≤ 8) (h : Wp mX0_openGap d' (fun z τ => Wp M d Q (pc + 3) ls (st) τ) 0 [some (.inr 0), some a1, some a2] [] σ) : Wp M d Q pc ls (a2 :: a1 :: .inr 0 :: st) σ := w_cv (M' := mX0_openGap) (k := 0) (vs := [a1, a2]) hd (by rw [hM]; exact tw_427) tw_429 tw_10 cw_X0_openGap rfl rfl rfl (Nat.le_of_ble_eq_true rfl) hdd hst h
theorem tw_128 : Cond.fieldLink RX0 15 "ShelfShift$Books" "width" "[I" ∈ TB := tb_of 128 (by decide +kernel) (by decide +kernel)
theorem gf_X0_15 {M : MI} {d pc : Nat} {Q : Int → St → Prop} {ls : List (Option PV)} {st : List PV} {σ : St} (hM : M.1.cls = RX0) (hd : decode M.2.1 pc = .ok (.getfield 15, 3)) (h : Wp M d Q (pc + 3) ls (.inr 9 :: st) σ) : Wp M d Q pc ls (.inr 0 :: st) σ := w_get (k := 0) (j := 1) (v := .inr 9) rfl inTB0 rfl (by decide) (by rw [hM]; exact tw_128) (fun _ => rfl) hd h
theorem tw_132 : Cond.fieldLink RX0 18 "ShelfShift$Books" "need" "[I" ∈ TB := tb_of 132 (by decide +kernel) (by decide +kernel)
theorem gf_X0_18 {M : MI} {d pc : Nat} {Q : Int → St → Prop} {ls : List (Option PV)} {st : List PV} {σ : St} (hM : M.1.cls = RX0) (hd : decode M.2.1 pc = .ok (.getfield 18, 3)) (h : Wp M d Q (pc + 3) ls (.inr 10 :: st) σ) : Wp M d Q pc ls (.inr 0 :: st) σ := w_get (k := 0) (j := 2) (v := .inr 10) rfl inTB0 rfl (by decide) (by rw [hM]; exact tw_132) (fun _ => rfl) hd h
theorem tw_135 : Cond.fieldLink RX0 21 "ShelfShift$Books" "shelf" "[I" ∈ TB := tb_of 135 (by decide +kernel) (by decide +kernel)
theorem gf_X0_21 {M : MI} {d pc : Nat} {Q : Int → St → Prop} {ls : List (Option PV)} {st : List PV} {σ : St} (hM : M.1.cls = RX0) (hd : decode M.2.1 pc = .ok (.getfield 21, 3)) (h : Wp M d Q (pc + 3) ls (.inr 11 :: st) σ) : Wp M d Q pc ls (.inr 0 :: st) σ := w_get (k := 0) (j := 3) (v := .inr 11) rfl inTB0 rfl (by decide) (by rw [hM]; exact tw_135) (fun _ => rfl) hd h
theorem tw_139 : Cond.fieldLink RX0 24 "ShelfShift$Books" "handled" "[I" ∈ TB := tb_of 139 (by decide +kernel) (by decide +kernel)
theorem gf_X0_24 {M : MI} {d pc : Nat} {Q : Int → St → Prop} {ls : List (Option PV)} {st : List PV} {σ : St} (hM : M.1.cls = RX0) (hd : decode M.2.1 pc = .ok (.getfield 24, 3)) (h : Wp M d Q (pc + 3) ls (.inr 12 :: st) σ) : Wp M d Q pc ls (.inr 0 :: st) σ := w_get (k := 0) (j := 4) (v := .inr 12) rfl inTB0 rfl (by decide) (by rw [hM]; exact tw_139) (fun _ => rfl) hd h
theorem pf_X0_30 {M : MI} {d pc : Nat} {Q : Int → St → Prop} {ls : List (Option PV)} {st : List PV} {σ : St} {z : Int} (hM : M.1.cls = RX0) (hz : InR z) (hd : decode M.2.1 pc = .ok (.putfield 30, 3)) (h : Wp M d Q (pc + 3) ls st (put σ 0 6 z)) : Wp M d Q pc ls (.inl z :: .inr 0 :: st) σ := w_put (k := 0) (j := 6) (ty := .int) rfl inTB0 tyX0 tyX0_ok nmX0 rfl (by decide) rfl rfl (by rw [hM]; exact tw_142) (by decide +kernel) rfl rfl hz hd h
theorem tw_431 : Cond.methodLink RX0 38 arraycopyName ∈ TB := tb_of 431 (by decide +kernel) (by decide +kernel)
theorem tw_363 : Cond.native arraycopyName ∈ TB := tb_of 363 (by decide +kernel) (by decide +kernel)
theorem tw_362 : Cond.static arraycopyName ∈ TB := tb_of 362 (by decide +kernel) (by decide +kernel)
theorem tw_68 : Cond.initialized "java/lang/System" ∈ TB := tb_of 68 (by decide +kernel) (by decide +kernel)
theorem tw_444 : Cond.methodLink RX0 44 yX0_closeGap ∈ TB := tb_of 444 (by decide +kernel) (by decide +kernel)
theorem tw_446 : Cond.instanceMethod yX0_closeGap ∈ TB := tb_of 446 (by decide +kernel) (by decide +kernel)
theorem tw_12 : Cond.selects RX0 yX0_closeGap yX0_closeGap ∈ TB := tb_of 12 (by decide +kernel) (by decide +kernel)
theorem cv_X0_44 {M : MI} {d pc : Nat} {Q : Int → St → Prop} {ls : List (Option PV)} {st : List PV} {σ : St} {d' : Nat} {a1 a2 : PV} (hM : M.1.cls = RX0) (hd : decode M.2.1 pc = .ok (.invokevirtual 44, 3)) (hdd : d' < d) (hst : st.length ≤ 8) (h : Wp mX0_closeGap d' (fun z τ => Wp M d Q (pc + 3) ls (st) τ) 0 [some (.inr 0), some a1, some a2] [] σ) : Wp M d Q pc ls (a2 :: a1 :: .inr 0 :: st) σ := w_cv (M' := mX0_closeGap) (k := 0) (vs := [a1, a2]) hd (by rw [hM]; exact tw_444) tw_446 tw_12 cw_X0_closeGap rfl rfl rfl (Nat.le_of_ble_eq_true rfl) hdd hst h
theorem tw_146 : Cond.fieldLink RX0 47 "ShelfShift$Books" "handledInAll" "I" ∈ TB := tb_of 146 (by decide +kernel) (by decide +kernel)
theorem gf_X0_47 {M : MI} {d pc : Nat} {Q : Int → St → Prop} {ls : List (Option PV)} {st : List PV} {σ : St} (hM : M.1.cls = RX0) (hd : decode M.2.1 pc = .ok (.getfield 47, 3)) (h : Wp M d Q (pc + 3) ls (.inl (σ 0 7) :: st) σ) : Wp M d Q pc ls (.inr 0 :: st) σ := w_get (k := 0) (j := 7) (v := .inl (σ 0 7)) rfl inTB0 rfl (by decide) (by rw [hM]; exact tw_146) (fun _ => rfl) hd h
theorem pf_X0_47 {M : MI} {d pc : Nat} {Q : Int → St → Prop} {ls : List (Option PV)} {st : List PV} {σ : St} {z : Int} (hM : M.1.cls = RX0) (hz : InR z) (hd : decode M.2.1 pc = .ok (.putfield 47, 3)) (h : Wp M d Q (pc + 3) ls st (put σ 0 7 z)) : Wp M d Q pc ls (.inl z :: .inr 0 :: st) σ := w_put (k := 0) (j := 7) (ty := .int) rfl inTB0 tyX0 tyX0_ok nmX0 rfl (by decide) rfl rfl (by rw [hM]; exact tw_146) (by decide +kernel) rfl rfl hz hd h
theorem tw_333 : Cond.methodLink RX0 50 yX0_widthsIn ∈ TB := tb_of 333 (by decide +kernel) (by decide +kernel)
theorem tw_334 : Cond.instanceMethod yX0_widthsIn ∈ TB := tb_of 334 (by decide +kernel) (by decide +kernel)
theorem tw_335 : Cond.selects RX0 yX0_widthsIn yX0_widthsIn ∈ TB := tb_of 335 (by decide +kernel) (by decide +kernel)
theorem cv_X0_50 {M : MI} {d pc : Nat} {Q : Int → St → Prop} {ls : List (Option PV)} {st : List PV} {σ : St} {d' : Nat} {a1 : PV} (hM : M.1.cls = RX0) (hd : decode M.2.1 pc = .ok (.invokevirtual 50, 3)) (hdd : d' < d) (hst : st.length ≤ 8) (h : Wp mX0_widthsIn d' (fun z τ => Wp M d Q (pc + 3) ls (.inl z :: st) τ) 0 [some (.inr 0), some a1] [] σ) : Wp M d Q pc ls (a1 :: .inr 0 :: st) σ := w_cv (M' := mX0_widthsIn) (k := 0) (vs := [a1]) hd (by rw [hM]; exact tw_333) tw_334 tw_335 cw_X0_widthsIn rfl rfl rfl (Nat.le_of_ble_eq_true rfl) hdd hst h
theorem tw_141 : Cond.fieldLink RX0 27 "ShelfShift$Books" "lost" "[I" ∈ TB := tb_of 141 (by decide +kernel) (by decide +kernel)
theorem gf_X0_27 {M : MI} {d pc : Nat} {Q : Int → St → Prop} {ls : List (Option PV)} {st : List PV} {σ : St} (hM : M.1.cls = RX0) (hd : decode M.2.1 pc = .ok (.getfield 27, 3)) (h : Wp M d Q (pc + 3) ls (.inr 13 :: st) σ) : Wp M d Q pc ls (.inr 0 :: st) σ := w_get (k := 0) (j := 5) (v := .inr 13) rfl inTB0 rfl (by decide) (by rw [hM]; exact tw_141) (fun _ => rfl) hd h
theorem tw_341 : Cond.methodLink RX0 54 yX0_giveOneMore ∈ TB := tb_of 341 (by decide +kernel) (by decide +kernel)
theorem tw_343 : Cond.instanceMethod yX0_giveOneMore ∈ TB := tb_of 343 (by decide +kernel) (by decide +kernel)
theorem tw_3 : Cond.selects RX0 yX0_giveOneMore yX0_giveOneMore ∈ TB := tb_of 3 (by decide +kernel) (by decide +kernel)
theorem cv_X0_54 {M : MI} {d pc : Nat} {Q : Int → St → Prop} {ls : List (Option PV)} {st : List PV} {σ : St} {d' : Nat} {a1 : PV} (hM : M.1.cls = RX0) (hd : decode M.2.1 pc = .ok (.invokevirtual 54, 3)) (hdd : d' < d) (hst : st.length ≤ 8) (h : Wp mX0_giveOneMore d' (fun z τ => Wp M d Q (pc + 3) ls (.inl z :: st) τ) 0 [some (.inr 0), some a1, none, none] [] σ) : Wp M d Q pc ls (a1 :: .inr 0 :: st) σ := w_cv (M' := mX0_giveOneMore) (k := 0) (vs := [a1]) hd (by rw [hM]; exact tw_341) tw_343 tw_3 cw_X0_giveOneMore rfl rfl rfl (Nat.le_of_ble_eq_true rfl) hdd hst h
theorem tw_337 : Cond.methodLink RX0 57 yX0_sumWith ∈ TB := tb_of 337 (by decide +kernel) (by decide +kernel)
theorem tw_339 : Cond.instanceMethod yX0_sumWith ∈ TB := tb_of 339 (by decide +kernel) (by decide +kernel)
theorem tw_2 : Cond.selects RX0 yX0_sumWith yX0_sumWith ∈ TB := tb_of 2 (by decide +kernel) (by decide +kernel)
theorem cv_X0_57 {M : MI} {d pc : Nat} {Q : Int → St → Prop} {ls : List (Option PV)} {st : List PV} {σ : St} {d' : Nat} {a1 a2 a3 : PV} (hM : M.1.cls = RX0) (hd : decode M.2.1 pc = .ok (.invokevirtual 57, 3)) (hdd : d' < d) (hst : st.length ≤ 8) (h : Wp mX0_sumWith d' (fun z τ => Wp M d Q (pc + 3) ls (.inl z :: st) τ) 0 [some (.inr 0), some a1, some a2, some a3, none, none] [] σ) : Wp M d Q pc ls (a3 :: a2 :: a1 :: .inr 0 :: st) σ := w_cv (M' := mX0_sumWith) (k := 0) (vs := [a1, a2, a3]) hd (by rw [hM]; exact tw_337) tw_339 tw_2 cw_X0_sumWith rfl rfl rfl (Nat.le_of_ble_eq_true rfl) hdd hst h
theorem tw_676 : Cond.methodLink RX0 61 yX0_firstWith ∈ TB := tb_of 676 (by decide +kernel) (by decide +kernel)
theorem tw_678 : Cond.instanceMethod yX0_firstWith ∈ TB := tb_of 678 (by decide +kernel) (by decide +kernel)
theorem tw_20 : Cond.selects RX0 yX0_firstWith yX0_firstWith ∈ TB := tb_of 20 (by decide +kernel) (by decide +kernel)
theorem cv_X0_61 {M : MI} {d pc : Nat} {Q : Int → St → Prop} {ls : List (Option PV)} {st : List PV} {σ : St} {d' : Nat} {a1 a2 : PV} (hM : M.1.cls = RX0) (hd : decode M.2.1 pc = .ok (.invokevirtual 61, 3)) (hdd : d' < d) (hst : st.length ≤ 8) (h : Wp mX0_firstWith d' (fun z τ => Wp M d Q (pc + 3) ls (.inl z :: st) τ) 0 [some (.inr 0), some a1, some a2, none] [] σ) : Wp M d Q pc ls (a2 :: a1 :: .inr 0 :: st) σ := w_cv (M' := mX0_firstWith) (k := 0) (vs := [a1, a2]) hd (by rw [hM]; exact tw_676) tw_678 tw_20 cw_X0_firstWith rfl rfl rfl (Nat.le_of_ble_eq_true rfl) hdd hst h
theorem tw_476 : Cond.methodLink RX0 65 yX0_countWith ∈ TB := tb_of 476 (by decide +kernel) (by decide +kernel)
theorem tw_478 : Cond.instanceMethod yX0_countWith ∈ TB := tb_of 478 (by decide +kernel) (by decide +kernel)
theorem tw_13 : Cond.selects RX0 yX0_countWith yX0_countWith ∈ TB := tb_of 13 (by decide +kernel) (by decide +kernel)
theorem cv_X0_65 {M : MI} {d pc : Nat} {Q : Int → St → Prop} {ls : List (Option PV)} {st : List PV} {σ : St} {d' : Nat} {a1 a2 : PV} (hM : M.1.cls = RX0) (hd : decode M.2.1 pc = .ok (.invokevirtual 65, 3)) (hdd : d' < d) (hst : st.length ≤ 8) (h : Wp mX0_countWith d' (fun z τ => Wp M d Q (pc + 3) ls (.inl z :: st) τ) 0 [some (.inr 0), some a1, some a2, none, none] [] σ) : Wp M d Q pc ls (a2 :: a1 :: .inr 0 :: st) σ := w_cv (M' := mX0_countWith) (k := 0) (vs := [a1, a2]) hd (by rw [hM]; exact tw_476) tw_478 tw_13 cw_X0_countWith rfl rfl rfl (Nat.le_of_ble_eq_true rfl) hdd hst h
theorem tw_95 : Cond.fieldLink RX1 41 "ShelfShift$Shelves" "count" "I" ∈ TB := tb_of 95 (by decide +kernel) (by decide +kernel)
theorem gf_X1_41 {M : MI} {d pc : Nat} {Q : Int → St → Prop} {ls : List (Option PV)} {st : List PV} {σ : St} (hM : M.1.cls = RX1) (hd : decode M.2.1 pc = .ok (.getfield 41, 3)) (h : Wp M d Q (pc + 3) ls (.inl (σ 5 2) :: st) σ) : Wp M d Q pc ls (.inr 5 :: st) σ := w_get (k := 5) (j := 2) (v := .inl (σ 5 2)) rfl inTB5 rfl (by decide) (by rw [hM]; exact tw_95) (fun _ => rfl) hd h
theorem tw_184 : Cond.fieldLink RX1 47 "ShelfShift$Cutter" "shelfCount" "I" ∈ TB := tb_of 184 (by decide +kernel) (by decide +kernel)
theorem pf_X1_47 {M : MI} {d pc : Nat} {Q : Int → St → Prop} {ls : List (Option PV)} {st : List PV} {σ : St} {z : Int} (hM : M.1.cls = RX1) (hz : InR z) (hd : decode M.2.1 pc = .ok (.putfield 47, 3)) (h : Wp M d Q (pc + 3) ls st (put σ 1 9 z)) : Wp M d Q pc ls (.inl z :: .inr 1 :: st) σ := w_put (k := 1) (j := 9) (ty := .int) rfl inTB1 tyX1 tyX1_ok nmX1 rfl (by decide) rfl rfl (by rw [hM]; exact tw_184) (by decide +kernel) rfl rfl hz hd h
theorem gf_X1_47 {M : MI} {d pc : Nat} {Q : Int → St → Prop} {ls : List (Option PV)} {st : List PV} {σ : St} (hM : M.1.cls = RX1) (hd : decode M.2.1 pc = .ok (.getfield 47, 3)) (h : Wp M d Q (pc + 3) ls (.inl (σ 1 9) :: st) σ) : Wp M d Q pc ls (.inr 1 :: st) σ := w_get (k := 1) (j := 9) (v := .inl (σ 1 9)) rfl inTB1 rfl (by decide) (by rw [hM]; exact tw_184) (fun _ => rfl) hd h
theorem tw_177 : Cond.fieldLink RX1 18 "ShelfShift$Cutter" "length" "[I" ∈ TB := tb_of 177 (by decide +kernel) (by decide +kernel)
theorem gf_X1_18 {M : MI} {d pc : Nat} {Q : Int → St → Prop} {ls : List (Option PV)} {st : List PV} {σ : St} (hM : M.1.cls = RX1) (hd : decode M.2.1 pc = .ok (.getfield 18, 3)) (h : Wp M d Q (pc + 3) ls (.inr 16 :: st) σ) : Wp M d Q pc ls (.inr 1 :: st) σ := w_get (k := 1) (j := 2) (v := .inr 16) rfl inTB1 rfl (by decide) (by rw [hM]; exact tw_177) (fun _ => rfl) hd h
theorem tw_89 : Cond.fieldLink RX1 50 "ShelfShift$Shelves" "length" "[I" ∈ TB := tb_of 89 (by decide +kernel) (by decide +kernel)
theorem gf_X1_50 {M : MI} {d pc : Nat} {Q : Int → St → Prop} {ls : List (Option PV)} {st : List PV} {σ : St} (hM : M.1.cls = RX1) (hd : decode M.2.1 pc = .ok (.getfield 50, 3)) (h : Wp M d Q (pc + 3) ls (.inr 55 :: st) σ) : Wp M d Q pc ls (.inr 5 :: st) σ := w_get (k := 5) (j := 0) (v := .inr 55) rfl inTB5 rfl (by decide) (by rw [hM]; exact tw_89) (fun _ => rfl) hd h
theorem tw_178 : Cond.fieldLink RX1 21 "ShelfShift$Cutter" "kind" "[I" ∈ TB := tb_of 178 (by decide +kernel) (by decide +kernel)
theorem gf_X1_21 {M : MI} {d pc : Nat} {Q : Int → St → Prop} {ls : List (Option PV)} {st : List PV} {σ : St} (hM : M.1.cls = RX1) (hd : decode M.2.1 pc = .ok (.getfield 21, 3)) (h : Wp M d Q (pc + 3) ls (.inr 17 :: st) σ) : Wp M d Q pc ls (.inr 1 :: st) σ := w_get (k := 1) (j := 3) (v := .inr 17) rfl inTB1 rfl (by decide) (by rw [hM]; exact tw_178) (fun _ => rfl) hd h
theorem tw_92 : Cond.fieldLink RX1 51 "ShelfShift$Shelves" "kind" "[I" ∈ TB := tb_of 92 (by decide +kernel) (by decide +kernel)
theorem gf_X1_51 {M : MI} {d pc : Nat} {Q : Int → St → Prop} {ls : List (Option PV)} {st : List PV} {σ : St} (hM : M.1.cls = RX1) (hd : decode M.2.1 pc = .ok (.getfield 51, 3)) (h : Wp M d Q (pc + 3) ls (.inr 56 :: st) σ) : Wp M d Q pc ls (.inr 5 :: st) σ := w_get (k := 5) (j := 1) (v := .inr 56) rfl inTB5 rfl (by decide) (by rw [hM]; exact tw_92) (fun _ => rfl) hd h
theorem tw_143 : Cond.fieldLink RX1 52 "ShelfShift$Books" "count" "I" ∈ TB := tb_of 143 (by decide +kernel) (by decide +kernel)
theorem gf_X1_52 {M : MI} {d pc : Nat} {Q : Int → St → Prop} {ls : List (Option PV)} {st : List PV} {σ : St} (hM : M.1.cls = RX1) (hd : decode M.2.1 pc = .ok (.getfield 52, 3)) (h : Wp M d Q (pc + 3) ls (.inl (σ 0 6) :: st) σ) : Wp M d Q pc ls (.inr 0 :: st) σ := w_get (k := 0) (j := 6) (v := .inl (σ 0 6)) rfl inTB0 rfl (by decide) (by rw [hM]; exact tw_143) (fun _ => rfl) hd h
theorem tw_185 : Cond.fieldLink RX1 55 "ShelfShift$Cutter" "count" "I" ∈ TB := tb_of 185 (by decide +kernel) (by decide +kernel)
theorem pf_X1_55 {M : MI} {d pc : Nat} {Q : Int → St → Prop} {ls : List (Option PV)} {st : List PV} {σ : St} {z : Int} (hM : M.1.cls = RX1) (hz : InR z) (hd : decode M.2.1 pc = .ok (.putfield 55, 3)) (h : Wp M d Q (pc + 3) ls st (put σ 1 10 z)) : Wp M d Q pc ls (.inl z :: .inr 1 :: st) σ := w_put (k := 1) (j := 10) (ty := .int) rfl inTB1 tyX1 tyX1_ok nmX1 rfl (by decide) rfl rfl (by rw [hM]; exact tw_185) (by decide +kernel) rfl rfl hz hd h
theorem gf_X1_55 {M : MI} {d pc : Nat} {Q : Int → St → Prop} {ls : List (Option PV)} {st : List PV} {σ : St} (hM : M.1.cls = RX1) (hd : decode M.2.1 pc = .ok (.getfield 55, 3)) (h : Wp M d Q (pc + 3) ls (.inl (σ 1 10) :: st) σ) : Wp M d Q pc ls (.inr 1 :: st) σ := w_get (k := 1) (j := 10) (v := .inl (σ 1 10)) rfl inTB1 rfl (by decide) (by rw [hM]; exact tw_185) (fun _ => rfl) hd h
theorem tw_179 : Cond.fieldLink RX1 24 "ShelfShift$Cutter" "width" "[I" ∈ TB := tb_of 179 (by decide +kernel) (by decide +kernel)
theorem gf_X1_24 {M : MI} {d pc : Nat} {Q : Int → St → Prop} {ls : List (Option PV)} {st : List PV} {σ : St} (hM : M.1.cls = RX1) (hd : decode M.2.1 pc = .ok (.getfield 24, 3)) (h : Wp M d Q (pc + 3) ls (.inr 18 :: st) σ) : Wp M d Q pc ls (.inr 1 :: st) σ := w_get (k := 1) (j := 4) (v := .inr 18) rfl inTB1 rfl (by decide) (by rw [hM]; exact tw_179) (fun _ => rfl) hd h
theorem tw_129 : Cond.fieldLink RX1 56 "ShelfShift$Books" "width" "[I" ∈ TB := tb_of 129 (by decide +kernel) (by decide +kernel)
theorem gf_X1_56 {M : MI} {d pc : Nat} {Q : Int → St → Prop} {ls : List (Option PV)} {st : List PV} {σ : St} (hM : M.1.cls = RX1) (hd : decode M.2.1 pc = .ok (.getfield 56, 3)) (h : Wp M d Q (pc + 3) ls (.inr 9 :: st) σ) : Wp M d Q pc ls (.inr 0 :: st) σ := w_get (k := 0) (j := 1) (v := .inr 9) rfl inTB0 rfl (by decide) (by rw [hM]; exact tw_129) (fun _ => rfl) hd h
theorem tw_180 : Cond.fieldLink RX1 27 "ShelfShift$Cutter" "span" "[I" ∈ TB := tb_of 180 (by decide +kernel) (by decide +kernel)
theorem gf_X1_27 {M : MI} {d pc : Nat} {Q : Int → St → Prop} {ls : List (Option PV)} {st : List PV} {σ : St} (hM : M.1.cls = RX1) (hd : decode M.2.1 pc = .ok (.getfield 27, 3)) (h : Wp M d Q (pc + 3) ls (.inr 19 :: st) σ) : Wp M d Q pc ls (.inr 1 :: st) σ := w_get (k := 1) (j := 5) (v := .inr 19) rfl inTB1 rfl (by decide) (by rw [hM]; exact tw_180) (fun _ => rfl) hd h
theorem tw_133 : Cond.fieldLink RX1 57 "ShelfShift$Books" "need" "[I" ∈ TB := tb_of 133 (by decide +kernel) (by decide +kernel)
theorem gf_X1_57 {M : MI} {d pc : Nat} {Q : Int → St → Prop} {ls : List (Option PV)} {st : List PV} {σ : St} (hM : M.1.cls = RX1) (hd : decode M.2.1 pc = .ok (.getfield 57, 3)) (h : Wp M d Q (pc + 3) ls (.inr 10 :: st) σ) : Wp M d Q pc ls (.inr 0 :: st) σ := w_get (k := 0) (j := 2) (v := .inr 10) rfl inTB0 rfl (by decide) (by rw [hM]; exact tw_133) (fun _ => rfl) hd h
theorem tw_181 : Cond.fieldLink RX1 30 "ShelfShift$Cutter" "stands" "[I" ∈ TB := tb_of 181 (by decide +kernel) (by decide +kernel)
theorem gf_X1_30 {M : MI} {d pc : Nat} {Q : Int → St → Prop} {ls : List (Option PV)} {st : List PV} {σ : St} (hM : M.1.cls = RX1) (hd : decode M.2.1 pc = .ok (.getfield 30, 3)) (h : Wp M d Q (pc + 3) ls (.inr 20 :: st) σ) : Wp M d Q pc ls (.inr 1 :: st) σ := w_get (k := 1) (j := 6) (v := .inr 20) rfl inTB1 rfl (by decide) (by rw [hM]; exact tw_181) (fun _ => rfl) hd h
theorem tw_136 : Cond.fieldLink RX1 60 "ShelfShift$Books" "shelf" "[I" ∈ TB := tb_of 136 (by decide +kernel) (by decide +kernel)
theorem gf_X1_60 {M : MI} {d pc : Nat} {Q : Int → St → Prop} {ls : List (Option PV)} {st : List PV} {σ : St} (hM : M.1.cls = RX1) (hd : decode M.2.1 pc = .ok (.getfield 60, 3)) (h : Wp M d Q (pc + 3) ls (.inr 11 :: st) σ) : Wp M d Q pc ls (.inr 0 :: st) σ := w_get (k := 0) (j := 3) (v := .inr 11) rfl inTB0 rfl (by decide) (by rw [hM]; exact tw_136) (fun _ => rfl) hd h
theorem tw_361 : Cond.methodLink RX1 63 arraycopyName ∈ TB := tb_of 361 (by decide +kernel) (by decide +kernel)
theorem tw_173 : Cond.fieldLink RX1 9 "ShelfShift$Cutter" "goes" "[I" ∈ TB := tb_of 173 (by decide +kernel) (by decide +kernel)
theorem gf_X1_9 {M : MI} {d pc : Nat} {Q : Int → St → Prop} {ls : List (Option PV)} {st : List PV} {σ : St} (hM : M.1.cls = RX1) (hd : decode M.2.1 pc = .ok (.getfield 9, 3)) (h : Wp M d Q (pc + 3) ls (.inr 14 :: st) σ) : Wp M d Q pc ls (.inr 1 :: st) σ := w_get (k := 1) (j := 0) (v := .inr 14) rfl inTB1 rfl (by decide) (by rw [hM]; exact tw_173) (fun _ => rfl) hd h
theorem tw_525 : Cond.methodLink RX1 69 yX1_fill ∈ TB := tb_of 525 (by decide +kernel) (by decide +kernel)
theorem tw_527 : Cond.instanceMethod yX1_fill ∈ TB := tb_of 527 (by decide +kernel) (by decide +kernel)
theorem tw_18 : Cond.selects RX1 yX1_fill yX1_fill ∈ TB := tb_of 18 (by decide +kernel) (by decide +kernel)
theorem cv_X1_69 {M : MI} {d pc : Nat} {Q : Int → St → Prop} {ls : List (Option PV)} {st : List PV} {σ : St} {d' : Nat} {a1 a2 : PV} (hM : M.1.cls = RX1) (hd : decode M.2.1 pc = .ok (.invokevirtual 69, 3)) (hdd : d' < d) (hst : st.length ≤ 8) (h : Wp mX1_fill d' (fun z τ => Wp M d Q (pc + 3) ls (.inl z :: st) τ) 0 [some (.inr 1), some a1, some a2, none, none] [] σ) : Wp M d Q pc ls (a2 :: a1 :: .inr 1 :: st) σ := w_cv (M' := mX1_fill) (k := 1) (vs := [a1, a2]) hd (by rw [hM]; exact tw_525) tw_527 tw_18 cw_X1_fill rfl rfl rfl (Nat.le_of_ble_eq_true rfl) hdd hst h
theorem tw_182 : Cond.fieldLink RX1 35 "ShelfShift$Cutter" "least" "[[I" ∈ TB := tb_of 182 (by decide +kernel) (by decide +kernel)
theorem gf_X1_35 {M : MI} {d pc : Nat} {Q : Int → St → Prop} {ls : List (Option PV)} {st : List PV} {σ : St} (hM : M.1.cls = RX1) (hd : decode M.2.1 pc = .ok (.getfield 35, 3)) (h : Wp M d Q (pc + 3) ls (.inr 21 :: st) σ) : Wp M d Q pc ls (.inr 1 :: st) σ := w_get (k := 1) (j := 7) (v := .inr 21) rfl inTB1 rfl (by decide) (by rw [hM]; exact tw_182) (fun _ => rfl) hd h
theorem tw_368 : Cond.constant RX1 73 (Int32.ofInt 1000000000) ∈ TB := tb_of 368 (by decide +kernel) (by decide +kernel)
theorem tw_369 : Cond.methodLink RX1 74 yX1_chooseMost ∈ TB := tb_of 369 (by decide +kernel) (by decide +kernel)
theorem tw_371 : Cond.instanceMethod yX1_chooseMost ∈ TB := tb_of 371 (by decide +kernel) (by decide +kernel)
theorem tw_4 : Cond.selects RX1 yX1_chooseMost yX1_chooseMost ∈ TB := tb_of 4 (by decide +kernel) (by decide +kernel)
theorem cv_X1_74 {M : MI} {d pc : Nat} {Q : Int → St → Prop} {ls : List (Option PV)} {st : List PV} {σ : St} {d' : Nat} {a1 a2 : PV} (hM : M.1.cls = RX1) (hd : decode M.2.1 pc = .ok (.invokevirtual 74, 3)) (hdd : d' < d) (hst : st.length ≤ 8) (h : Wp mX1_chooseMost d' (fun z τ => Wp M d Q (pc + 3) ls (st) τ) 0 [some (.inr 1), some a1, some a2, none, none, none, none, none, none] [] σ) : Wp M d Q pc ls (a2 :: a1 :: .inr 1 :: st) σ := w_cv (M' := mX1_chooseMost) (k := 1) (vs := [a1, a2]) hd (by rw [hM]; exact tw_369) tw_371 tw_4 cw_X1_chooseMost rfl rfl rfl (Nat.le_of_ble_eq_true rfl) hdd hst h
theorem tw_186 : Cond.fieldLink RX1 78 "ShelfShift$Cutter" "leastPrice" "I" ∈ TB := tb_of 186 (by decide +kernel) (by decide +kernel)
theorem pf_X1_78 {M : MI} {d pc : Nat} {Q : Int → St → Prop} {ls : List (Option PV)} {st : List PV} {σ : St} {z : Int} (hM : M.1.cls = RX1) (hz : InR z) (hd : decode M.2.1 pc = .ok (.putfield 78, 3)) (h : Wp M d Q (pc + 3) ls st (put σ 1 11 z)) : Wp M d Q pc ls (.inl z :: .inr 1 :: st) σ := w_put (k := 1) (j := 11) (ty := .int) rfl inTB1 tyX1 tyX1_ok nmX1 rfl (by decide) rfl rfl (by rw [hM]; exact tw_186) (by decide +kernel) rfl rfl hz hd h
theorem gf_X1_78 {M : MI} {d pc : Nat} {Q : Int → St → Prop} {ls : List (Option PV)} {st : List PV} {σ : St} (hM : M.1.cls = RX1) (hd : decode M.2.1 pc = .ok (.getfield 78, 3)) (h : Wp M d Q (pc + 3) ls (.inl (σ 1 11) :: st) σ) : Wp M d Q pc ls (.inr 1 :: st) σ := w_get (k := 1) (j := 11) (v := .inl (σ 1 11)) rfl inTB1 rfl (by decide) (by rw [hM]; exact tw_186) (fun _ => rfl) hd h
theorem tw_378 : Cond.methodLink RX1 81 yX1_follow ∈ TB := tb_of 378 (by decide +kernel) (by decide +kernel)
theorem tw_380 : Cond.instanceMethod yX1_follow ∈ TB := tb_of 380 (by decide +kernel) (by decide +kernel)
theorem tw_6 : Cond.selects RX1 yX1_follow yX1_follow ∈ TB := tb_of 6 (by decide +kernel) (by decide +kernel)
theorem cv_X1_81 {M : MI} {d pc : Nat} {Q : Int → St → Prop} {ls : List (Option PV)} {st : List PV} {σ : St} {d' : Nat} (hM : M.1.cls = RX1) (hd : decode M.2.1 pc = .ok (.invokevirtual 81, 3)) (hdd : d' < d) (hst : st.length ≤ 8) (h : Wp mX1_follow d' (fun z τ => Wp M d Q (pc + 3) ls (st) τ) 0 [some (.inr 1), none, none, none, none] [] σ) : Wp M d Q pc ls (.inr 1 :: st) σ := w_cv (M' := mX1_follow) (k := 1) (vs := []) hd (by rw [hM]; exact tw_378) tw_380 tw_6 cw_X1_follow rfl rfl rfl (Nat.le_of_ble_eq_true rfl) hdd hst h
theorem tw_373 : Cond.constant RX1 84 (Int32.ofInt 1000000) ∈ TB := tb_of 373 (by decide +kernel) (by decide +kernel)
theorem tw_374 : Cond.methodLink RX1 85 yX1_priceOfMove ∈ TB := tb_of 374 (by decide +kernel) (by decide +kernel)
theorem tw_376 : Cond.instanceMethod yX1_priceOfMove ∈ TB := tb_of 376 (by decide +kernel) (by decide +kernel)
theorem tw_5 : Cond.selects RX1 yX1_priceOfMove yX1_priceOfMove ∈ TB := tb_of 5 (by decide +kernel) (by decide +kernel)
theorem cv_X1_85 {M : MI} {d pc : Nat} {Q : Int → St → Prop} {ls : List (Option PV)} {st : List PV} {σ : St} {d' : Nat} {a1 a2 : PV} (hM : M.1.cls = RX1) (hd : decode M.2.1 pc = .ok (.invokevirtual 85, 3)) (hdd : d' < d) (hst : st.length ≤ 8) (h : Wp mX1_priceOfMove d' (fun z τ => Wp M d Q (pc + 3) ls (.inl z :: st) τ) 0 [some (.inr 1), some a1, some a2, none] [] σ) : Wp M d Q pc ls (a2 :: a1 :: .inr 1 :: st) σ := w_cv (M' := mX1_priceOfMove) (k := 1) (vs := [a1, a2]) hd (by rw [hM]; exact tw_374) tw_376 tw_5 cw_X1_priceOfMove rfl rfl rfl (Nat.le_of_ble_eq_true rfl) hdd hst h
theorem tw_183 : Cond.fieldLink RX1 38 "ShelfShift$Cutter" "most" "[[I" ∈ TB := tb_of 183 (by decide +kernel) (by decide +kernel)
theorem gf_X1_38 {M : MI} {d pc : Nat} {Q : Int → St → Prop} {ls : List (Option PV)} {st : List PV} {σ : St} (hM : M.1.cls = RX1) (hd : decode M.2.1 pc = .ok (.getfield 38, 3)) (h : Wp M d Q (pc + 3) ls (.inr 35 :: st) σ) : Wp M d Q pc ls (.inr 1 :: st) σ := w_get (k := 1) (j := 8) (v := .inr 35) rfl inTB1 rfl (by decide) (by rw [hM]; exact tw_183) (fun _ => rfl) hd h
theorem tw_175 : Cond.fieldLink RX1 15 "ShelfShift$Cutter" "taken" "[I" ∈ TB := tb_of 175 (by decide +kernel) (by decide +kernel)
theorem gf_X1_15 {M : MI} {d pc : Nat} {Q : Int → St → Prop} {ls : List (Option PV)} {st : List PV} {σ : St} (hM : M.1.cls = RX1) (hd : decode M.2.1 pc = .ok (.getfield 15, 3)) (h : Wp M d Q (pc + 3) ls (.inr 15 :: st) σ) : Wp M d Q pc ls (.inr 1 :: st) σ := w_get (k := 1) (j := 1) (v := .inr 15) rfl inTB1 rfl (by decide) (by rw [hM]; exact tw_175) (fun _ => rfl) hd h
theorem tw_113 : Cond.fieldLink RX2 15 "ShelfShift$Groups" "count" "I" ∈ TB := tb_of 113 (by decide +kernel) (by decide +kernel)
theorem gf_X2_15 {M : MI} {d pc : Nat} {Q : Int → St → Prop} {ls : List (Option PV)} {st : List PV} {σ : St} (hM : M.1.cls = RX2) (hd : decode M.2.1 pc = .ok (.getfield 15, 3)) (h : Wp M d Q (pc + 3) ls (.inl (σ 2 1) :: st) σ) : Wp M d Q pc ls (.inr 2 :: st) σ := w_get (k := 2) (j := 1) (v := .inl (σ 2 1)) rfl inTB2 rfl (by decide) (by rw [hM]; exact tw_113) (fun _ => rfl) hd h
theorem tw_111 : Cond.fieldLink RX2 9 "ShelfShift$Groups" "growth" "[I" ∈ TB := tb_of 111 (by decide +kernel) (by decide +kernel)
theorem gf_X2_9 {M : MI} {d pc : Nat} {Q : Int → St → Prop} {ls : List (Option PV)} {st : List PV} {σ : St} (hM : M.1.cls = RX2) (hd : decode M.2.1 pc = .ok (.getfield 9, 3)) (h : Wp M d Q (pc + 3) ls (.inr 48 :: st) σ) : Wp M d Q pc ls (.inr 2 :: st) σ := w_get (k := 2) (j := 0) (v := .inr 48) rfl inTB2 rfl (by decide) (by rw [hM]; exact tw_111) (fun _ => rfl) hd h
theorem pf_X2_15 {M : MI} {d pc : Nat} {Q : Int → St → Prop} {ls : List (Option PV)} {st : List PV} {σ : St} {z : Int} (hM : M.1.cls = RX2) (hz : InR z) (hd : decode M.2.1 pc = .ok (.putfield 15, 3)) (h : Wp M d Q (pc + 3) ls st (put σ 2 1 z)) : Wp M d Q pc ls (.inl z :: .inr 2 :: st) σ := w_put (k := 2) (j := 1) (ty := .int) rfl inTB2 tyX2 tyX2_ok nmX2 rfl (by decide) rfl rfl (by rw [hM]; exact tw_113) (by decide +kernel) rfl rfl hz hd h
theorem tw_258 : Cond.fieldLink RX3 15 "ShelfShift$Logbook" "next" "I" ∈ TB := tb_of 258 (by decide +kernel) (by decide +kernel)
theorem gf_X3_15 {M : MI} {d pc : Nat} {Q : Int → St → Prop} {ls : List (Option PV)} {st : List PV} {σ : St} (hM : M.1.cls = RX3) (hd : decode M.2.1 pc = .ok (.getfield 15, 3)) (h : Wp M d Q (pc + 3) ls (.inl (σ 3 1) :: st) σ) : Wp M d Q pc ls (.inr 3 :: st) σ := w_get (k := 3) (j := 1) (v := .inl (σ 3 1)) rfl inTB3 rfl (by decide) (by rw [hM]; exact tw_258) (fun _ => rfl) hd h
theorem tw_257 : Cond.fieldLink RX3 11 "ShelfShift$Logbook" "parts" "[I" ∈ TB := tb_of 257 (by decide +kernel) (by decide +kernel)
theorem gf_X3_11 {M : MI} {d pc : Nat} {Q : Int → St → Prop} {ls : List (Option PV)} {st : List PV} {σ : St} (hM : M.1.cls = RX3) (hd : decode M.2.1 pc = .ok (.getfield 11, 3)) (h : Wp M d Q (pc + 3) ls (.inr 49 :: st) σ) : Wp M d Q pc ls (.inr 3 :: st) σ := w_get (k := 3) (j := 0) (v := .inr 49) rfl inTB3 rfl (by decide) (by rw [hM]; exact tw_257) (fun _ => rfl) hd h
theorem pf_X3_15 {M : MI} {d pc : Nat} {Q : Int → St → Prop} {ls : List (Option PV)} {st : List PV} {σ : St} {z : Int} (hM : M.1.cls = RX3) (hz : InR z) (hd : decode M.2.1 pc = .ok (.putfield 15, 3)) (h : Wp M d Q (pc + 3) ls st (put σ 3 1 z)) : Wp M d Q pc ls (.inl z :: .inr 3 :: st) σ := w_put (k := 3) (j := 1) (ty := .int) rfl inTB3 tyX3 tyX3_ok nmX3 rfl (by decide) rfl rfl (by rw [hM]; exact tw_258) (by decide +kernel) rfl rfl hz hd h
theorem tw_259 : Cond.fieldLink RX3 19 "ShelfShift$Logbook" "count" "I" ∈ TB := tb_of 259 (by decide +kernel) (by decide +kernel)
theorem gf_X3_19 {M : MI} {d pc : Nat} {Q : Int → St → Prop} {ls : List (Option PV)} {st : List PV} {σ : St} (hM : M.1.cls = RX3) (hd : decode M.2.1 pc = .ok (.getfield 19, 3)) (h : Wp M d Q (pc + 3) ls (.inl (σ 3 2) :: st) σ) : Wp M d Q pc ls (.inr 3 :: st) σ := w_get (k := 3) (j := 2) (v := .inl (σ 3 2)) rfl inTB3 rfl (by decide) (by rw [hM]; exact tw_259) (fun _ => rfl) hd h
theorem tw_412 : Cond.methodLink RX3 22 Lib.Math.min.name ∈ TB := tb_of 412 (by decide +kernel) (by decide +kernel)
theorem tw_413 : Cond.static Lib.Math.min.name ∈ TB := tb_of 413 (by decide +kernel) (by decide +kernel)
theorem tw_69 : Cond.initialized "java/lang/Math" ∈ TB := tb_of 69 (by decide +kernel) (by decide +kernel)
theorem tw_414 : Cond.code Lib.Math.min.name Lib.Math.min.code 2 (some .int) ∈ TB := tb_of 414 (by decide +kernel) (by decide +kernel)
theorem pf_X3_19 {M : MI} {d pc : Nat} {Q : Int → St → Prop} {ls : List (Option PV)} {st : List PV} {σ : St} {z : Int} (hM : M.1.cls = RX3) (hz : InR z) (hd : decode M.2.1 pc = .ok (.putfield 19, 3)) (h : Wp M d Q (pc + 3) ls st (put σ 3 2 z)) : Wp M d Q pc ls (.inl z :: .inr 3 :: st) σ := w_put (k := 3) (j := 2) (ty := .int) rfl inTB3 tyX3 tyX3_ok nmX3 rfl (by decide) rfl rfl (by rw [hM]; exact tw_259) (by decide +kernel) rfl rfl hz hd h
theorem tw_230 : Cond.fieldLink RX4 27 "ShelfShift$Plan" "done" "I" ∈ TB := tb_of 230 (by decide +kernel) (by decide +kernel)
theorem gf_X4_27 {M : MI} {d pc : Nat} {Q : Int → St → Prop} {ls : List (Option PV)} {st : List PV} {σ : St} (hM : M.1.cls = RX4) (hd : decode M.2.1 pc = .ok (.getfield 27, 3)) (h : Wp M d Q (pc + 3) ls (.inl (σ 4 6) :: st) σ) : Wp M d Q pc ls (.inr 4 :: st) σ := w_get (k := 4) (j := 6) (v := .inl (σ 4 6)) rfl inTB4 rfl (by decide) (by rw [hM]; exact tw_230) (fun _ => rfl) hd h
theorem tw_228 : Cond.fieldLink RX4 31 "ShelfShift$Plan" "total" "I" ∈ TB := tb_of 228 (by decide +kernel) (by decide +kernel)
theorem gf_X4_31 {M : MI} {d pc : Nat} {Q : Int → St → Prop} {ls : List (Option PV)} {st : List PV} {σ : St} (hM : M.1.cls = RX4) (hd : decode M.2.1 pc = .ok (.getfield 31, 3)) (h : Wp M d Q (pc + 3) ls (.inl (σ 4 5) :: st) σ) : Wp M d Q pc ls (.inr 4 :: st) σ := w_get (k := 4) (j := 5) (v := .inl (σ 4 5)) rfl inTB4 rfl (by decide) (by rw [hM]; exact tw_228) (fun _ => rfl) hd h
theorem pf_X4_31 {M : MI} {d pc : Nat} {Q : Int → St → Prop} {ls : List (Option PV)} {st : List PV} {σ : St} {z : Int} (hM : M.1.cls = RX4) (hz : InR z) (hd : decode M.2.1 pc = .ok (.putfield 31, 3)) (h : Wp M d Q (pc + 3) ls st (put σ 4 5 z)) : Wp M d Q pc ls (.inl z :: .inr 4 :: st) σ := w_put (k := 4) (j := 5) (ty := .int) rfl inTB4 tyX4 tyX4_ok nmX4 rfl (by decide) rfl rfl (by rw [hM]; exact tw_228) (by decide +kernel) rfl rfl hz hd h
theorem pf_X4_27 {M : MI} {d pc : Nat} {Q : Int → St → Prop} {ls : List (Option PV)} {st : List PV} {σ : St} {z : Int} (hM : M.1.cls = RX4) (hz : InR z) (hd : decode M.2.1 pc = .ok (.putfield 27, 3)) (h : Wp M d Q (pc + 3) ls st (put σ 4 6 z)) : Wp M d Q pc ls (.inl z :: .inr 4 :: st) σ := w_put (k := 4) (j := 6) (ty := .int) rfl inTB4 tyX4 tyX4_ok nmX4 rfl (by decide) rfl rfl (by rw [hM]; exact tw_230) (by decide +kernel) rfl rfl hz hd h
theorem tw_394 : Cond.methodLink RX4 34 yX4_end ∈ TB := tb_of 394 (by decide +kernel) (by decide +kernel)
theorem tw_298 : Cond.instanceMethod yX4_end ∈ TB := tb_of 298 (by decide +kernel) (by decide +kernel)
theorem tw_299 : Cond.selects RX4 yX4_end yX4_end ∈ TB := tb_of 299 (by decide +kernel) (by decide +kernel)
theorem cv_X4_34 {M : MI} {d pc : Nat} {Q : Int → St → Prop} {ls : List (Option PV)} {st : List PV} {σ : St} {d' : Nat} (hM : M.1.cls = RX4) (hd : decode M.2.1 pc = .ok (.invokevirtual 34, 3)) (hdd : d' < d) (hst : st.length ≤ 8) (h : Wp mX4_end d' (fun z τ => Wp M d Q (pc + 3) ls (st) τ) 0 [some (.inr 4)] [] σ) : Wp M d Q pc ls (.inr 4 :: st) σ := w_cv (M' := mX4_end) (k := 4) (vs := []) hd (by rw [hM]; exact tw_394) tw_298 tw_299 cw_X4_end rfl rfl rfl (Nat.le_of_ble_eq_true rfl) hdd hst h
theorem tw_232 : Cond.fieldLink RX4 37 "ShelfShift$Plan" "years" "I" ∈ TB := tb_of 232 (by decide +kernel) (by decide +kernel)
theorem pf_X4_37 {M : MI} {d pc : Nat} {Q : Int → St → Prop} {ls : List (Option PV)} {st : List PV} {σ : St} {z : Int} (hM : M.1.cls = RX4) (hz : InR z) (hd : decode M.2.1 pc = .ok (.putfield 37, 3)) (h : Wp M d Q (pc + 3) ls st (put σ 4 7 z)) : Wp M d Q pc ls (.inl z :: .inr 4 :: st) σ := w_put (k := 4) (j := 7) (ty := .int) rfl inTB4 tyX4 tyX4_ok nmX4 rfl (by decide) rfl rfl (by rw [hM]; exact tw_232) (by decide +kernel) rfl rfl hz hd h
theorem tw_218 : Cond.fieldLink RX4 9 "ShelfShift$Plan" "goes" "[I" ∈ TB := tb_of 218 (by decide +kernel) (by decide +kernel)
theorem gf_X4_9 {M : MI} {d pc : Nat} {Q : Int → St → Prop} {ls : List (Option PV)} {st : List PV} {σ : St} (hM : M.1.cls = RX4) (hd : decode M.2.1 pc = .ok (.getfield 9, 3)) (h : Wp M d Q (pc + 3) ls (.inr 50 :: st) σ) : Wp M d Q pc ls (.inr 4 :: st) σ := w_get (k := 4) (j := 0) (v := .inr 50) rfl inTB4 rfl (by decide) (by rw [hM]; exact tw_218) (fun _ => rfl) hd h
theorem tw_144 : Cond.fieldLink RX4 40 "ShelfShift$Books" "count" "I" ∈ TB := tb_of 144 (by decide +kernel) (by decide +kernel)
theorem gf_X4_40 {M : MI} {d pc : Nat} {Q : Int → St → Prop} {ls : List (Option PV)} {st : List PV} {σ : St} (hM : M.1.cls = RX4) (hd : decode M.2.1 pc = .ok (.getfield 40, 3)) (h : Wp M d Q (pc + 3) ls (.inl (σ 0 6) :: st) σ) : Wp M d Q pc ls (.inr 0 :: st) σ := w_get (k := 0) (j := 6) (v := .inl (σ 0 6)) rfl inTB0 rfl (by decide) (by rw [hM]; exact tw_144) (fun _ => rfl) hd h
theorem tw_395 : Cond.methodLink RX4 45 arraycopyName ∈ TB := tb_of 395 (by decide +kernel) (by decide +kernel)
theorem tw_137 : Cond.fieldLink RX4 51 "ShelfShift$Books" "shelf" "[I" ∈ TB := tb_of 137 (by decide +kernel) (by decide +kernel)
theorem gf_X4_51 {M : MI} {d pc : Nat} {Q : Int → St → Prop} {ls : List (Option PV)} {st : List PV} {σ : St} (hM : M.1.cls = RX4) (hd : decode M.2.1 pc = .ok (.getfield 51, 3)) (h : Wp M d Q (pc + 3) ls (.inr 11 :: st) σ) : Wp M d Q pc ls (.inr 0 :: st) σ := w_get (k := 0) (j := 3) (v := .inr 11) rfl inTB0 rfl (by decide) (by rw [hM]; exact tw_137) (fun _ => rfl) hd h
theorem tw_396 : Cond.methodLink RX4 54 yX4_add ∈ TB := tb_of 396 (by decide +kernel) (by decide +kernel)
theorem tw_398 : Cond.instanceMethod yX4_add ∈ TB := tb_of 398 (by decide +kernel) (by decide +kernel)
theorem tw_8 : Cond.selects RX4 yX4_add yX4_add ∈ TB := tb_of 8 (by decide +kernel) (by decide +kernel)
theorem cv_X4_54 {M : MI} {d pc : Nat} {Q : Int → St → Prop} {ls : List (Option PV)} {st : List PV} {σ : St} {d' : Nat} {a1 a2 : PV} (hM : M.1.cls = RX4) (hd : decode M.2.1 pc = .ok (.invokevirtual 54, 3)) (hdd : d' < d) (hst : st.length ≤ 8) (h : Wp mX4_add d' (fun z τ => Wp M d Q (pc + 3) ls (st) τ) 0 [some (.inr 4), some a1, some a2] [] σ) : Wp M d Q pc ls (a2 :: a1 :: .inr 4 :: st) σ := w_cv (M' := mX4_add) (k := 4) (vs := [a1, a2]) hd (by rw [hM]; exact tw_396) tw_398 tw_8 cw_X4_add rfl rfl rfl (Nat.le_of_ble_eq_true rfl) hdd hst h
theorem tw_220 : Cond.fieldLink RX4 15 "ShelfShift$Plan" "book" "[I" ∈ TB := tb_of 220 (by decide +kernel) (by decide +kernel)
theorem gf_X4_15 {M : MI} {d pc : Nat} {Q : Int → St → Prop} {ls : List (Option PV)} {st : List PV} {σ : St} (hM : M.1.cls = RX4) (hd : decode M.2.1 pc = .ok (.getfield 15, 3)) (h : Wp M d Q (pc + 3) ls (.inr 51 :: st) σ) : Wp M d Q pc ls (.inr 4 :: st) σ := w_get (k := 4) (j := 1) (v := .inr 51) rfl inTB4 rfl (by decide) (by rw [hM]; exact tw_220) (fun _ => rfl) hd h
theorem tw_222 : Cond.fieldLink RX4 18 "ShelfShift$Plan" "width" "[I" ∈ TB := tb_of 222 (by decide +kernel) (by decide +kernel)
theorem gf_X4_18 {M : MI} {d pc : Nat} {Q : Int → St → Prop} {ls : List (Option PV)} {st : List PV} {σ : St} (hM : M.1.cls = RX4) (hd : decode M.2.1 pc = .ok (.getfield 18, 3)) (h : Wp M d Q (pc + 3) ls (.inr 52 :: st) σ) : Wp M d Q pc ls (.inr 4 :: st) σ := w_get (k := 4) (j := 2) (v := .inr 52) rfl inTB4 rfl (by decide) (by rw [hM]; exact tw_222) (fun _ => rfl) hd h
theorem tw_130 : Cond.fieldLink RX4 58 "ShelfShift$Books" "width" "[I" ∈ TB := tb_of 130 (by decide +kernel) (by decide +kernel)
theorem gf_X4_58 {M : MI} {d pc : Nat} {Q : Int → St → Prop} {ls : List (Option PV)} {st : List PV} {σ : St} (hM : M.1.cls = RX4) (hd : decode M.2.1 pc = .ok (.getfield 58, 3)) (h : Wp M d Q (pc + 3) ls (.inr 9 :: st) σ) : Wp M d Q pc ls (.inr 0 :: st) σ := w_get (k := 0) (j := 1) (v := .inr 9) rfl inTB0 rfl (by decide) (by rw [hM]; exact tw_130) (fun _ => rfl) hd h
theorem tw_224 : Cond.fieldLink RX4 21 "ShelfShift$Plan" "from" "[I" ∈ TB := tb_of 224 (by decide +kernel) (by decide +kernel)
theorem gf_X4_21 {M : MI} {d pc : Nat} {Q : Int → St → Prop} {ls : List (Option PV)} {st : List PV} {σ : St} (hM : M.1.cls = RX4) (hd : decode M.2.1 pc = .ok (.getfield 21, 3)) (h : Wp M d Q (pc + 3) ls (.inr 53 :: st) σ) : Wp M d Q pc ls (.inr 4 :: st) σ := w_get (k := 4) (j := 3) (v := .inr 53) rfl inTB4 rfl (by decide) (by rw [hM]; exact tw_224) (fun _ => rfl) hd h
theorem tw_226 : Cond.fieldLink RX4 24 "ShelfShift$Plan" "to" "[I" ∈ TB := tb_of 226 (by decide +kernel) (by decide +kernel)
theorem gf_X4_24 {M : MI} {d pc : Nat} {Q : Int → St → Prop} {ls : List (Option PV)} {st : List PV} {σ : St} (hM : M.1.cls = RX4) (hd : decode M.2.1 pc = .ok (.getfield 24, 3)) (h : Wp M d Q (pc + 3) ls (.inr 54 :: st) σ) : Wp M d Q pc ls (.inr 4 :: st) σ := w_get (k := 4) (j := 4) (v := .inr 54) rfl inTB4 rfl (by decide) (by rw [hM]; exact tw_226) (fun _ => rfl) hd h
theorem tw_585 : Cond.methodLink RX4 59 yX4_direction ∈ TB := tb_of 585 (by decide +kernel) (by decide +kernel)
theorem tw_405 : Cond.instanceMethod yX4_direction ∈ TB := tb_of 405 (by decide +kernel) (by decide +kernel)
theorem tw_406 : Cond.selects RX4 yX4_direction yX4_direction ∈ TB := tb_of 406 (by decide +kernel) (by decide +kernel)
theorem cv_X4_59 {M : MI} {d pc : Nat} {Q : Int → St → Prop} {ls : List (Option PV)} {st : List PV} {σ : St} {d' : Nat} {a1 : PV} (hM : M.1.cls = RX4) (hd : decode M.2.1 pc = .ok (.invokevirtual 59, 3)) (hdd : d' < d) (hst : st.length ≤ 8) (h : Wp mX4_direction d' (fun z τ => Wp M d Q (pc + 3) ls (.inl z :: st) τ) 0 [some (.inr 4), some a1] [] σ) : Wp M d Q pc ls (a1 :: .inr 4 :: st) σ := w_cv (M' := mX4_direction) (k := 4) (vs := [a1]) hd (by rw [hM]; exact tw_585) tw_405 tw_406 cw_X4_direction rfl rfl rfl (Nat.le_of_ble_eq_true rfl) hdd hst h
theorem tw_94 : Cond.fieldLink RX5 18 "ShelfShift$Shelves" "count" "I" ∈ TB := tb_of 94 (by decide +kernel) (by decide +kernel)
theorem gf_X5_18 {M : MI} {d pc : Nat} {Q : Int → St → Prop} {ls : List (Option PV)} {st : List PV} {σ : St} (hM : M.1.cls = RX5) (hd : decode M.2.1 pc = .ok (.getfield 18, 3)) (h : Wp M d Q (pc + 3) ls (.inl (σ 5 2) :: st) σ) : Wp M d Q pc ls (.inr 5 :: st) σ := w_get (k := 5) (j := 2) (v := .inl (σ 5 2)) rfl inTB5 rfl (by decide) (by rw [hM]; exact tw_94) (fun _ => rfl) hd h
theorem tw_88 : Cond.fieldLink RX5 9 "ShelfShift$Shelves" "length" "[I" ∈ TB := tb_of 88 (by decide +kernel) (by decide +kernel)
theorem gf_X5_9 {M : MI} {d pc : Nat} {Q : Int → St → Prop} {ls : List (Option PV)} {st : List PV} {σ : St} (hM : M.1.cls = RX5) (hd : decode M.2.1 pc = .ok (.getfield 9, 3)) (h : Wp M d Q (pc + 3) ls (.inr 55 :: st) σ) : Wp M d Q pc ls (.inr 5 :: st) σ := w_get (k := 5) (j := 0) (v := .inr 55) rfl inTB5 rfl (by decide) (by rw [hM]; exact tw_88) (fun _ => rfl) hd h
theorem tw_91 : Cond.fieldLink RX5 15 "ShelfShift$Shelves" "kind" "[I" ∈ TB := tb_of 91 (by decide +kernel) (by decide +kernel)
theorem gf_X5_15 {M : MI} {d pc : Nat} {Q : Int → St → Prop} {ls : List (Option PV)} {st : List PV} {σ : St} (hM : M.1.cls = RX5) (hd : decode M.2.1 pc = .ok (.getfield 15, 3)) (h : Wp M d Q (pc + 3) ls (.inr 56 :: st) σ) : Wp M d Q pc ls (.inr 5 :: st) σ := w_get (k := 5) (j := 1) (v := .inr 56) rfl inTB5 rfl (by decide) (by rw [hM]; exact tw_91) (fun _ => rfl) hd h
theorem pf_X5_18 {M : MI} {d pc : Nat} {Q : Int → St → Prop} {ls : List (Option PV)} {st : List PV} {σ : St} {z : Int} (hM : M.1.cls = RX5) (hz : InR z) (hd : decode M.2.1 pc = .ok (.putfield 18, 3)) (h : Wp M d Q (pc + 3) ls st (put σ 5 2 z)) : Wp M d Q pc ls (.inl z :: .inr 5 :: st) σ := w_put (k := 5) (j := 2) (ty := .int) rfl inTB5 tyX5 tyX5_ok nmX5 rfl (by decide) rfl rfl (by rw [hM]; exact tw_94) (by decide +kernel) rfl rfl hz hd h
theorem tw_294 : Cond.methodLink RX6 55 yX6_isWithin ∈ TB := tb_of 294 (by decide +kernel) (by decide +kernel)
theorem tw_295 : Cond.static yX6_isWithin ∈ TB := tb_of 295 (by decide +kernel) (by decide +kernel)
theorem cv_X6_55 {M : MI} {d pc : Nat} {Q : Int → St → Prop} {ls : List (Option PV)} {st : List PV} {σ : St} {d' : Nat} {a1 a2 a3 : PV} (hM : M.1.cls = RX6) (hd : decode M.2.1 pc = .ok (.invokestatic 55, 3)) (hdd : d' < d) (hst : st.length ≤ 8) (h : Wp mX6_isWithin d' (fun z τ => Wp M d Q (pc + 3) ls (.inl z :: st) τ) 0 [some a1, some a2, some a3] [] σ) : Wp M d Q pc ls (a3 :: a2 :: a1 :: st) σ := w_cs (M' := mX6_isWithin) (vs := [a1, a2, a3]) hd (by rw [hM]; exact tw_294) tw_295 cw_X6_isWithin (by rw [hM]; rfl) (Nat.le_of_ble_eq_true rfl) hdd hst h
theorem tw_268 : Cond.fieldLink RX6 10 "ShelfShift" "shelves" "LShelfShift$Shelves;" ∈ TB := tb_of 268 (by decide +kernel) (by decide +kernel)
theorem gf_X6_10 {M : MI} {d pc : Nat} {Q : Int → St → Prop} {ls : List (Option PV)} {st : List PV} {σ : St} (hM : M.1.cls = RX6) (hd : decode M.2.1 pc = .ok (.getfield 10, 3)) (h : Wp M d Q (pc + 3) ls (.inr 5 :: st) σ) : Wp M d Q pc ls (.inr 6 :: st) σ := w_get (k := 6) (j := 0) (v := .inr 5) rfl inTB6 rfl (by decide) (by rw [hM]; exact tw_268) (fun _ => rfl) hd h
theorem tw_96 : Cond.fieldLink RX6 59 "ShelfShift$Shelves" "count" "I" ∈ TB := tb_of 96 (by decide +kernel) (by decide +kernel)
theorem gf_X6_59 {M : MI} {d pc : Nat} {Q : Int → St → Prop} {ls : List (Option PV)} {st : List PV} {σ : St} (hM : M.1.cls = RX6) (hd : decode M.2.1 pc = .ok (.getfield 59, 3)) (h : Wp M d Q (pc + 3) ls (.inl (σ 5 2) :: st) σ) : Wp M d Q pc ls (.inr 5 :: st) σ := w_get (k := 5) (j := 2) (v := .inl (σ 5 2)) rfl inTB5 rfl (by decide) (by rw [hM]; exact tw_96) (fun _ => rfl) hd h
theorem tw_272 : Cond.fieldLink RX6 40 "ShelfShift" "plan" "LShelfShift$Plan;" ∈ TB := tb_of 272 (by decide +kernel) (by decide +kernel)
theorem gf_X6_40 {M : MI} {d pc : Nat} {Q : Int → St → Prop} {ls : List (Option PV)} {st : List PV} {σ : St} (hM : M.1.cls = RX6) (hd : decode M.2.1 pc = .ok (.getfield 40, 3)) (h : Wp M d Q (pc + 3) ls (.inr 4 :: st) σ) : Wp M d Q pc ls (.inr 6 :: st) σ := w_get (k := 6) (j := 4) (v := .inr 4) rfl inTB6 rfl (by decide) (by rw [hM]; exact tw_272) (fun _ => rfl) hd h
theorem tw_297 : Cond.methodLink RX6 62 yX4_end ∈ TB := tb_of 297 (by decide +kernel) (by decide +kernel)
theorem cv_X6_62 {M : MI} {d pc : Nat} {Q : Int → St → Prop} {ls : List (Option PV)} {st : List PV} {σ : St} {d' : Nat} (hM : M.1.cls = RX6) (hd : decode M.2.1 pc = .ok (.invokevirtual 62, 3)) (hdd : d' < d) (hst : st.length ≤ 8) (h : Wp mX4_end d' (fun z τ => Wp M d Q (pc + 3) ls (st) τ) 0 [some (.inr 4)] [] σ) : Wp M d Q pc ls (.inr 4 :: st) σ := w_cv (M' := mX4_end) (k := 4) (vs := []) hd (by rw [hM]; exact tw_297) tw_298 tw_299 cw_X4_end rfl rfl rfl (Nat.le_of_ble_eq_true rfl) hdd hst h
theorem tw_301 : Cond.methodLink RX6 65 yX5_add ∈ TB := tb_of 301 (by decide +kernel) (by decide +kernel)
theorem tw_302 : Cond.instanceMethod yX5_add ∈ TB := tb_of 302 (by decide +kernel) (by decide +kernel)
theorem tw_303 : Cond.selects RX5 yX5_add yX5_add ∈ TB := tb_of 303 (by decide +kernel) (by decide +kernel)
theorem cv_X6_65 {M : MI} {d pc : Nat} {Q : Int → St → Prop} {ls : List (Option PV)} {st : List PV} {σ : St} {d' : Nat} {a1 a2 : PV} (hM : M.1.cls = RX6) (hd : decode M.2.1 pc = .ok (.invokevirtual 65, 3)) (hdd : d' < d) (hst : st.length ≤ 8) (h : Wp mX5_add d' (fun z τ => Wp M d Q (pc + 3) ls (.inl z :: st) τ) 0 [some (.inr 5), some a1, some a2, none] [] σ) : Wp M d Q pc ls (a2 :: a1 :: .inr 5 :: st) σ := w_cv (M' := mX5_add) (k := 5) (vs := [a1, a2]) hd (by rw [hM]; exact tw_301) tw_302 tw_303 cw_X5_add rfl rfl rfl (Nat.le_of_ble_eq_true rfl) hdd hst h
theorem tw_309 : Cond.methodLink RX6 69 yX6_hasShelf ∈ TB := tb_of 309 (by decide +kernel) (by decide +kernel)
theorem tw_311 : Cond.instanceMethod yX6_hasShelf ∈ TB := tb_of 311 (by decide +kernel) (by decide +kernel)
theorem tw_0 : Cond.selects RX6 yX6_hasShelf yX6_hasShelf ∈ TB := tb_of 0 (by decide +kernel) (by decide +kernel)
theorem cv_X6_69 {M : MI} {d pc : Nat} {Q : Int → St → Prop} {ls : List (Option PV)} {st : List PV} {σ : St} {d' : Nat} {a1 : PV} (hM : M.1.cls = RX6) (hd : decode M.2.1 pc = .ok (.invokevirtual 69, 3)) (hdd : d' < d) (hst : st.length ≤ 8) (h : Wp mX6_hasShelf d' (fun z τ => Wp M d Q (pc + 3) ls (.inl z :: st) τ) 0 [some (.inr 6), some a1] [] σ) : Wp M d Q pc ls (a1 :: .inr 6 :: st) σ := w_cv (M' := mX6_hasShelf) (k := 6) (vs := [a1]) hd (by rw [hM]; exact tw_309) tw_311 tw_0 cw_X6_hasShelf rfl rfl rfl (Nat.le_of_ble_eq_true rfl) hdd hst h
theorem tw_93 : Cond.fieldLink RX6 73 "ShelfShift$Shelves" "kind" "[I" ∈ TB := tb_of 93 (by decide +kernel) (by decide +kernel)
theorem gf_X6_73 {M : MI} {d pc : Nat} {Q : Int → St → Prop} {ls : List (Option PV)} {st : List PV} {σ : St} (hM : M.1.cls = RX6) (hd : decode M.2.1 pc = .ok (.getfield 73, 3)) (h : Wp M d Q (pc + 3) ls (.inr 56 :: st) σ) : Wp M d Q pc ls (.inr 5 :: st) σ := w_get (k := 5) (j := 1) (v := .inr 56) rfl inTB5 rfl (by decide) (by rw [hM]; exact tw_93) (fun _ => rfl) hd h
theorem tw_269 : Cond.fieldLink RX6 19 "ShelfShift" "groups" "LShelfShift$Groups;" ∈ TB := tb_of 269 (by decide +kernel) (by decide +kernel)
theorem gf_X6_19 {M : MI} {d pc : Nat} {Q : Int → St → Prop} {ls : List (Option PV)} {st : List PV} {σ : St} (hM : M.1.cls = RX6) (hd : decode M.2.1 pc = .ok (.getfield 19, 3)) (h : Wp M d Q (pc + 3) ls (.inr 2 :: st) σ) : Wp M d Q pc ls (.inr 6 :: st) σ := w_get (k := 6) (j := 1) (v := .inr 2) rfl inTB6 rfl (by decide) (by rw [hM]; exact tw_269) (fun _ => rfl) hd h
theorem tw_114 : Cond.fieldLink RX6 77 "ShelfShift$Groups" "count" "I" ∈ TB := tb_of 114 (by decide +kernel) (by decide +kernel)
theorem gf_X6_77 {M : MI} {d pc : Nat} {Q : Int → St → Prop} {ls : List (Option PV)} {st : List PV} {σ : St} (hM : M.1.cls = RX6) (hd : decode M.2.1 pc = .ok (.getfield 77, 3)) (h : Wp M d Q (pc + 3) ls (.inl (σ 2 1) :: st) σ) : Wp M d Q pc ls (.inr 2 :: st) σ := w_get (k := 2) (j := 1) (v := .inl (σ 2 1)) rfl inTB2 rfl (by decide) (by rw [hM]; exact tw_114) (fun _ => rfl) hd h
theorem tw_317 : Cond.methodLink RX6 78 yX2_add ∈ TB := tb_of 317 (by decide +kernel) (by decide +kernel)
theorem tw_318 : Cond.instanceMethod yX2_add ∈ TB := tb_of 318 (by decide +kernel) (by decide +kernel)
theorem tw_319 : Cond.selects RX2 yX2_add yX2_add ∈ TB := tb_of 319 (by decide +kernel) (by decide +kernel)
theorem cv_X6_78 {M : MI} {d pc : Nat} {Q : Int → St → Prop} {ls : List (Option PV)} {st : List PV} {σ : St} {d' : Nat} {a1 : PV} (hM : M.1.cls = RX6) (hd : decode M.2.1 pc = .ok (.invokevirtual 78, 3)) (hdd : d' < d) (hst : st.length ≤ 8) (h : Wp mX2_add d' (fun z τ => Wp M d Q (pc + 3) ls (.inl z :: st) τ) 0 [some (.inr 2), some a1, none] [] σ) : Wp M d Q pc ls (a1 :: .inr 2 :: st) σ := w_cv (M' := mX2_add) (k := 2) (vs := [a1]) hd (by rw [hM]; exact tw_317) tw_318 tw_319 cw_X2_add rfl rfl rfl (Nat.le_of_ble_eq_true rfl) hdd hst h
theorem tw_325 : Cond.methodLink RX6 81 yX6_hasGroup ∈ TB := tb_of 325 (by decide +kernel) (by decide +kernel)
theorem tw_327 : Cond.instanceMethod yX6_hasGroup ∈ TB := tb_of 327 (by decide +kernel) (by decide +kernel)
theorem tw_1 : Cond.selects RX6 yX6_hasGroup yX6_hasGroup ∈ TB := tb_of 1 (by decide +kernel) (by decide +kernel)
theorem cv_X6_81 {M : MI} {d pc : Nat} {Q : Int → St → Prop} {ls : List (Option PV)} {st : List PV} {σ : St} {d' : Nat} {a1 : PV} (hM : M.1.cls = RX6) (hd : decode M.2.1 pc = .ok (.invokevirtual 81, 3)) (hdd : d' < d) (hst : st.length ≤ 8) (h : Wp mX6_hasGroup d' (fun z τ => Wp M d Q (pc + 3) ls (.inl z :: st) τ) 0 [some (.inr 6), some a1] [] σ) : Wp M d Q pc ls (a1 :: .inr 6 :: st) σ := w_cv (M' := mX6_hasGroup) (k := 6) (vs := [a1]) hd (by rw [hM]; exact tw_325) tw_327 tw_1 cw_X6_hasGroup rfl rfl rfl (Nat.le_of_ble_eq_true rfl) hdd hst h
theorem tw_112 : Cond.fieldLink RX6 84 "ShelfShift$Groups" "growth" "[I" ∈ TB := tb_of 112 (by decide +kernel) (by decide +kernel)
theorem gf_X6_84 {M : MI} {d pc : Nat} {Q : Int → St → Prop} {ls : List (Option PV)} {st : List PV} {σ : St} (hM : M.1.cls = RX6) (hd : decode M.2.1 pc = .ok (.getfield 84, 3)) (h : Wp M d Q (pc + 3) ls (.inr 48 :: st) σ) : Wp M d Q pc ls (.inr 2 :: st) σ := w_get (k := 2) (j := 0) (v := .inr 48) rfl inTB2 rfl (by decide) (by rw [hM]; exact tw_112) (fun _ => rfl) hd h
theorem tw_270 : Cond.fieldLink RX6 26 "ShelfShift" "books" "LShelfShift$Books;" ∈ TB := tb_of 270 (by decide +kernel) (by decide +kernel)
theorem gf_X6_26 {M : MI} {d pc : Nat} {Q : Int → St → Prop} {ls : List (Option PV)} {st : List PV} {σ : St} (hM : M.1.cls = RX6) (hd : decode M.2.1 pc = .ok (.getfield 26, 3)) (h : Wp M d Q (pc + 3) ls (.inr 0 :: st) σ) : Wp M d Q pc ls (.inr 6 :: st) σ := w_get (k := 6) (j := 2) (v := .inr 0) rfl inTB6 rfl (by decide) (by rw [hM]; exact tw_270) (fun _ => rfl) hd h
theorem tw_329 : Cond.methodLink RX6 87 yX0_shareGrowth ∈ TB := tb_of 329 (by decide +kernel) (by decide +kernel)
theorem tw_330 : Cond.instanceMethod yX0_shareGrowth ∈ TB := tb_of 330 (by decide +kernel) (by decide +kernel)
theorem tw_331 : Cond.selects RX0 yX0_shareGrowth yX0_shareGrowth ∈ TB := tb_of 331 (by decide +kernel) (by decide +kernel)
theorem cv_X6_87 {M : MI} {d pc : Nat} {Q : Int → St → Prop} {ls : List (Option PV)} {st : List PV} {σ : St} {d' : Nat} {a1 a2 : PV} (hM : M.1.cls = RX6) (hd : decode M.2.1 pc = .ok (.invokevirtual 87, 3)) (hdd : d' < d) (hst : st.length ≤ 8) (h : Wp mX0_shareGrowth d' (fun z τ => Wp M d Q (pc + 3) ls (st) τ) 0 [some (.inr 0), some a1, some a2, none, none, none] [] σ) : Wp M d Q pc ls (a2 :: a1 :: .inr 0 :: st) σ := w_cv (M' := mX0_shareGrowth) (k := 0) (vs := [a1, a2]) hd (by rw [hM]; exact tw_329) tw_330 tw_331 cw_X0_shareGrowth rfl rfl rfl (Nat.le_of_ble_eq_true rfl) hdd hst h
theorem tw_145 : Cond.fieldLink RX6 91 "ShelfShift$Books" "count" "I" ∈ TB := tb_of 145 (by decide +kernel) (by decide +kernel)
theorem gf_X6_91 {M : MI} {d pc : Nat} {Q : Int → St → Prop} {ls : List (Option PV)} {st : List PV} {σ : St} (hM : M.1.cls = RX6) (hd : decode M.2.1 pc = .ok (.getfield 91, 3)) (h : Wp M d Q (pc + 3) ls (.inl (σ 0 6) :: st) σ) : Wp M d Q pc ls (.inr 0 :: st) σ := w_get (k := 0) (j := 6) (v := .inl (σ 0 6)) rfl inTB0 rfl (by decide) (by rw [hM]; exact tw_145) (fun _ => rfl) hd h
theorem tw_349 : Cond.methodLink RX6 92 yX0_numberBehind ∈ TB := tb_of 349 (by decide +kernel) (by decide +kernel)
theorem tw_350 : Cond.instanceMethod yX0_numberBehind ∈ TB := tb_of 350 (by decide +kernel) (by decide +kernel)
theorem tw_351 : Cond.selects RX0 yX0_numberBehind yX0_numberBehind ∈ TB := tb_of 351 (by decide +kernel) (by decide +kernel)
theorem cv_X6_92 {M : MI} {d pc : Nat} {Q : Int → St → Prop} {ls : List (Option PV)} {st : List PV} {σ : St} {d' : Nat} {a1 : PV} (hM : M.1.cls = RX6) (hd : decode M.2.1 pc = .ok (.invokevirtual 92, 3)) (hdd : d' < d) (hst : st.length ≤ 8) (h : Wp mX0_numberBehind d' (fun z τ => Wp M d Q (pc + 3) ls (.inl z :: st) τ) 0 [some (.inr 0), some a1, none] [] σ) : Wp M d Q pc ls (a1 :: .inr 0 :: st) σ := w_cv (M' := mX0_numberBehind) (k := 0) (vs := [a1]) hd (by rw [hM]; exact tw_349) tw_350 tw_351 cw_X0_numberBehind rfl rfl rfl (Nat.le_of_ble_eq_true rfl) hdd hst h
theorem tw_271 : Cond.fieldLink RX6 33 "ShelfShift" "cutter" "LShelfShift$Cutter;" ∈ TB := tb_of 271 (by decide +kernel) (by decide +kernel)
theorem gf_X6_33 {M : MI} {d pc : Nat} {Q : Int → St → Prop} {ls : List (Option PV)} {st : List PV} {σ : St} (hM : M.1.cls = RX6) (hd : decode M.2.1 pc = .ok (.getfield 33, 3)) (h : Wp M d Q (pc + 3) ls (.inr 1 :: st) σ) : Wp M d Q pc ls (.inr 6 :: st) σ := w_get (k := 6) (j := 3) (v := .inr 1) rfl inTB6 rfl (by decide) (by rw [hM]; exact tw_271) (fun _ => rfl) hd h
theorem tw_353 : Cond.methodLink RX6 95 yX1_load ∈ TB := tb_of 353 (by decide +kernel) (by decide +kernel)
theorem tw_354 : Cond.instanceMethod yX1_load ∈ TB := tb_of 354 (by decide +kernel) (by decide +kernel)
theorem tw_355 : Cond.selects RX1 yX1_load yX1_load ∈ TB := tb_of 355 (by decide +kernel) (by decide +kernel)
theorem cv_X6_95 {M : MI} {d pc : Nat} {Q : Int → St → Prop} {ls : List (Option PV)} {st : List PV} {σ : St} {d' : Nat} {a1 a2 a3 : PV} (hM : M.1.cls = RX6) (hd : decode M.2.1 pc = .ok (.invokevirtual 95, 3)) (hdd : d' < d) (hst : st.length ≤ 8) (h : Wp mX1_load d' (fun z τ => Wp M d Q (pc + 3) ls (st) τ) 0 [some (.inr 1), some a1, some a2, some a3, none] [] σ) : Wp M d Q pc ls (a3 :: a2 :: a1 :: .inr 1 :: st) σ := w_cv (M' := mX1_load) (k := 1) (vs := [a1, a2, a3]) hd (by rw [hM]; exact tw_353) tw_354 tw_355 cw_X1_load rfl rfl rfl (Nat.le_of_ble_eq_true rfl) hdd hst h
theorem tw_357 : Cond.methodLink RX6 99 yX1_insert ∈ TB := tb_of 357 (by decide +kernel) (by decide +kernel)
theorem tw_358 : Cond.instanceMethod yX1_insert ∈ TB := tb_of 358 (by decide +kernel) (by decide +kernel)
theorem tw_359 : Cond.selects RX1 yX1_insert yX1_insert ∈ TB := tb_of 359 (by decide +kernel) (by decide +kernel)
theorem cv_X6_99 {M : MI} {d pc : Nat} {Q : Int → St → Prop} {ls : List (Option PV)} {st : List PV} {σ : St} {d' : Nat} {a1 a2 : PV} (hM : M.1.cls = RX6) (hd : decode M.2.1 pc = .ok (.invokevirtual 99, 3)) (hdd : d' < d) (hst : st.length ≤ 8) (h : Wp mX1_insert d' (fun z τ => Wp M d Q (pc + 3) ls (st) τ) 0 [some (.inr 1), some a1, some a2] [] σ) : Wp M d Q pc ls (a2 :: a1 :: .inr 1 :: st) σ := w_cv (M' := mX1_insert) (k := 1) (vs := [a1, a2]) hd (by rw [hM]; exact tw_357) tw_358 tw_359 cw_X1_insert rfl rfl rfl (Nat.le_of_ble_eq_true rfl) hdd hst h
theorem tw_364 : Cond.methodLink RX6 102 yX1_findCuts ∈ TB := tb_of 364 (by decide +kernel) (by decide +kernel)
theorem tw_365 : Cond.instanceMethod yX1_findCuts ∈ TB := tb_of 365 (by decide +kernel) (by decide +kernel)
theorem tw_366 : Cond.selects RX1 yX1_findCuts yX1_findCuts ∈ TB := tb_of 366 (by decide +kernel) (by decide +kernel)
theorem cv_X6_102 {M : MI} {d pc : Nat} {Q : Int → St → Prop} {ls : List (Option PV)} {st : List PV} {σ : St} {d' : Nat} (hM : M.1.cls = RX6) (hd : decode M.2.1 pc = .ok (.invokevirtual 102, 3)) (hdd : d' < d) (hst : st.length ≤ 8) (h : Wp mX1_findCuts d' (fun z τ => Wp M d Q (pc + 3) ls (.inl z :: st) τ) 0 [some (.inr 1), none, none] [] σ) : Wp M d Q pc ls (.inr 1 :: st) σ := w_cv (M' := mX1_findCuts) (k := 1) (vs := []) hd (by rw [hM]; exact tw_364) tw_365 tw_366 cw_X1_findCuts rfl rfl rfl (Nat.le_of_ble_eq_true rfl) hdd hst h
theorem tw_174 : Cond.fieldLink RX6 106 "ShelfShift$Cutter" "goes" "[I" ∈ TB := tb_of 174 (by decide +kernel) (by decide +kernel)
theorem gf_X6_106 {M : MI} {d pc : Nat} {Q : Int → St → Prop} {ls : List (Option PV)} {st : List PV} {σ : St} (hM : M.1.cls = RX6) (hd : decode M.2.1 pc = .ok (.getfield 106, 3)) (h : Wp M d Q (pc + 3) ls (.inr 14 :: st) σ) : Wp M d Q pc ls (.inr 1 :: st) σ := w_get (k := 1) (j := 0) (v := .inr 14) rfl inTB1 rfl (by decide) (by rw [hM]; exact tw_174) (fun _ => rfl) hd h
theorem tw_382 : Cond.methodLink RX6 109 yX1_forget ∈ TB := tb_of 382 (by decide +kernel) (by decide +kernel)
theorem tw_383 : Cond.instanceMethod yX1_forget ∈ TB := tb_of 383 (by decide +kernel) (by decide +kernel)
theorem tw_384 : Cond.selects RX1 yX1_forget yX1_forget ∈ TB := tb_of 384 (by decide +kernel) (by decide +kernel)
theorem cv_X6_109 {M : MI} {d pc : Nat} {Q : Int → St → Prop} {ls : List (Option PV)} {st : List PV} {σ : St} {d' : Nat} {a1 : PV} (hM : M.1.cls = RX6) (hd : decode M.2.1 pc = .ok (.invokevirtual 109, 3)) (hdd : d' < d) (hst : st.length ≤ 8) (h : Wp mX1_forget d' (fun z τ => Wp M d Q (pc + 3) ls (st) τ) 0 [some (.inr 1), some a1] [] σ) : Wp M d Q pc ls (a1 :: .inr 1 :: st) σ := w_cv (M' := mX1_forget) (k := 1) (vs := [a1]) hd (by rw [hM]; exact tw_382) tw_383 tw_384 cw_X1_forget rfl rfl rfl (Nat.le_of_ble_eq_true rfl) hdd hst h
theorem tw_386 : Cond.methodLink RX6 113 yX6_moveAtOnce ∈ TB := tb_of 386 (by decide +kernel) (by decide +kernel)
theorem tw_388 : Cond.instanceMethod yX6_moveAtOnce ∈ TB := tb_of 388 (by decide +kernel) (by decide +kernel)
theorem tw_7 : Cond.selects RX6 yX6_moveAtOnce yX6_moveAtOnce ∈ TB := tb_of 7 (by decide +kernel) (by decide +kernel)
theorem cv_X6_113 {M : MI} {d pc : Nat} {Q : Int → St → Prop} {ls : List (Option PV)} {st : List PV} {σ : St} {d' : Nat} (hM : M.1.cls = RX6) (hd : decode M.2.1 pc = .ok (.invokevirtual 113, 3)) (hdd : d' < d) (hst : st.length ≤ 8) (h : Wp mX6_moveAtOnce d' (fun z τ => Wp M d Q (pc + 3) ls (st) τ) 0 [some (.inr 6), none, none] [] σ) : Wp M d Q pc ls (.inr 6 :: st) σ := w_cv (M' := mX6_moveAtOnce) (k := 6) (vs := []) hd (by rw [hM]; exact tw_386) tw_388 tw_7 cw_X6_moveAtOnce rfl rfl rfl (Nat.le_of_ble_eq_true rfl) hdd hst h
theorem tw_423 : Cond.methodLink RX6 116 yX0_insert ∈ TB := tb_of 423 (by decide +kernel) (by decide +kernel)
theorem tw_424 : Cond.instanceMethod yX0_insert ∈ TB := tb_of 424 (by decide +kernel) (by decide +kernel)
theorem tw_425 : Cond.selects RX0 yX0_insert yX0_insert ∈ TB := tb_of 425 (by decide +kernel) (by decide +kernel)
theorem cv_X6_116 {M : MI} {d pc : Nat} {Q : Int → St → Prop} {ls : List (Option PV)} {st : List PV} {σ : St} {d' : Nat} {a1 a2 a3 a4 : PV} (hM : M.1.cls = RX6) (hd : decode M.2.1 pc = .ok (.invokevirtual 116, 3)) (hdd : d' < d) (hst : st.length ≤ 8) (h : Wp mX0_insert d' (fun z τ => Wp M d Q (pc + 3) ls (st) τ) 0 [some (.inr 0), some a1, some a2, some a3, some a4] [] σ) : Wp M d Q pc ls (a4 :: a3 :: a2 :: a1 :: .inr 0 :: st) σ := w_cv (M' := mX0_insert) (k := 0) (vs := [a1, a2, a3, a4]) hd (by rw [hM]; exact tw_423) tw_424 tw_425 cw_X0_insert rfl rfl rfl (Nat.le_of_ble_eq_true rfl) hdd hst h
theorem tw_273 : Cond.fieldLink RX6 47 "ShelfShift" "logbook" "LShelfShift$Logbook;" ∈ TB := tb_of 273 (by decide +kernel) (by decide +kernel)
theorem gf_X6_47 {M : MI} {d pc : Nat} {Q : Int → St → Prop} {ls : List (Option PV)} {st : List PV} {σ : St} (hM : M.1.cls = RX6) (hd : decode M.2.1 pc = .ok (.getfield 47, 3)) (h : Wp M d Q (pc + 3) ls (.inr 3 :: st) σ) : Wp M d Q pc ls (.inr 6 :: st) σ := w_get (k := 6) (j := 5) (v := .inr 3) rfl inTB6 rfl (by decide) (by rw [hM]; exact tw_273) (fun _ => rfl) hd h
theorem tw_408 : Cond.methodLink RX6 119 yX3_write ∈ TB := tb_of 408 (by decide +kernel) (by decide +kernel)
theorem tw_409 : Cond.instanceMethod yX3_write ∈ TB := tb_of 409 (by decide +kernel) (by decide +kernel)
theorem tw_410 : Cond.selects RX3 yX3_write yX3_write ∈ TB := tb_of 410 (by decide +kernel) (by decide +kernel)
theorem cv_X6_119 {M : MI} {d pc : Nat} {Q : Int → St → Prop} {ls : List (Option PV)} {st : List PV} {σ : St} {d' : Nat} {a1 a2 a3 a4 a5 : PV} (hM : M.1.cls = RX6) (hd : decode M.2.1 pc = .ok (.invokevirtual 119, 3)) (hdd : d' < d) (hst : st.length ≤ 8) (h : Wp mX3_write d' (fun z τ => Wp M d Q (pc + 3) ls (st) τ) 0 [some (.inr 3), some a1, some a2, some a3, some a4, some a5, none] [] σ) : Wp M d Q pc ls (a5 :: a4 :: a3 :: a2 :: a1 :: .inr 3 :: st) σ := w_cv (M' := mX3_write) (k := 3) (vs := [a1, a2, a3, a4, a5]) hd (by rw [hM]; exact tw_408) tw_409 tw_410 cw_X3_write rfl rfl rfl (Nat.le_of_ble_eq_true rfl) hdd hst h
theorem tw_436 : Cond.methodLink RX6 123 yX6_hasBook ∈ TB := tb_of 436 (by decide +kernel) (by decide +kernel)
theorem tw_438 : Cond.instanceMethod yX6_hasBook ∈ TB := tb_of 438 (by decide +kernel) (by decide +kernel)
theorem tw_11 : Cond.selects RX6 yX6_hasBook yX6_hasBook ∈ TB := tb_of 11 (by decide +kernel) (by decide +kernel)
theorem cv_X6_123 {M : MI} {d pc : Nat} {Q : Int → St → Prop} {ls : List (Option PV)} {st : List PV} {σ : St} {d' : Nat} {a1 : PV} (hM : M.1.cls = RX6) (hd : decode M.2.1 pc = .ok (.invokevirtual 123, 3)) (hdd : d' < d) (hst : st.length ≤ 8) (h : Wp mX6_hasBook d' (fun z τ => Wp M d Q (pc + 3) ls (.inl z :: st) τ) 0 [some (.inr 6), some a1] [] σ) : Wp M d Q pc ls (a1 :: .inr 6 :: st) σ := w_cv (M' := mX6_hasBook) (k := 6) (vs := [a1]) hd (by rw [hM]; exact tw_436) tw_438 tw_11 cw_X6_hasBook rfl rfl rfl (Nat.le_of_ble_eq_true rfl) hdd hst h
theorem tw_138 : Cond.fieldLink RX6 126 "ShelfShift$Books" "shelf" "[I" ∈ TB := tb_of 138 (by decide +kernel) (by decide +kernel)
theorem gf_X6_126 {M : MI} {d pc : Nat} {Q : Int → St → Prop} {ls : List (Option PV)} {st : List PV} {σ : St} (hM : M.1.cls = RX6) (hd : decode M.2.1 pc = .ok (.getfield 126, 3)) (h : Wp M d Q (pc + 3) ls (.inr 11 :: st) σ) : Wp M d Q pc ls (.inr 0 :: st) σ := w_get (k := 0) (j := 3) (v := .inr 11) rfl inTB0 rfl (by decide) (by rw [hM]; exact tw_138) (fun _ => rfl) hd h
theorem tw_127 : Cond.fieldLink RX6 129 "ShelfShift$Books" "group" "[I" ∈ TB := tb_of 127 (by decide +kernel) (by decide +kernel)
theorem gf_X6_129 {M : MI} {d pc : Nat} {Q : Int → St → Prop} {ls : List (Option PV)} {st : List PV} {σ : St} (hM : M.1.cls = RX6) (hd : decode M.2.1 pc = .ok (.getfield 129, 3)) (h : Wp M d Q (pc + 3) ls (.inr 8 :: st) σ) : Wp M d Q pc ls (.inr 0 :: st) σ := w_get (k := 0) (j := 0) (v := .inr 8) rfl inTB0 rfl (by decide) (by rw [hM]; exact tw_127) (fun _ => rfl) hd h
theorem tw_131 : Cond.fieldLink RX6 132 "ShelfShift$Books" "width" "[I" ∈ TB := tb_of 131 (by decide +kernel) (by decide +kernel)
theorem gf_X6_132 {M : MI} {d pc : Nat} {Q : Int → St → Prop} {ls : List (Option PV)} {st : List PV} {σ : St} (hM : M.1.cls = RX6) (hd : decode M.2.1 pc = .ok (.getfield 132, 3)) (h : Wp M d Q (pc + 3) ls (.inr 9 :: st) σ) : Wp M d Q pc ls (.inr 0 :: st) σ := w_get (k := 0) (j := 1) (v := .inr 9) rfl inTB0 rfl (by decide) (by rw [hM]; exact tw_131) (fun _ => rfl) hd h
theorem tw_440 : Cond.methodLink RX6 135 yX0_remove ∈ TB := tb_of 440 (by decide +kernel) (by decide +kernel)
theorem tw_441 : Cond.instanceMethod yX0_remove ∈ TB := tb_of 441 (by decide +kernel) (by decide +kernel)
theorem tw_442 : Cond.selects RX0 yX0_remove yX0_remove ∈ TB := tb_of 442 (by decide +kernel) (by decide +kernel)
theorem cv_X6_135 {M : MI} {d pc : Nat} {Q : Int → St → Prop} {ls : List (Option PV)} {st : List PV} {σ : St} {d' : Nat} {a1 : PV} (hM : M.1.cls = RX6) (hd : decode M.2.1 pc = .ok (.invokevirtual 135, 3)) (hdd : d' < d) (hst : st.length ≤ 8) (h : Wp mX0_remove d' (fun z τ => Wp M d Q (pc + 3) ls (st) τ) 0 [some (.inr 0), some a1] [] σ) : Wp M d Q pc ls (a1 :: .inr 0 :: st) σ := w_cv (M' := mX0_remove) (k := 0) (vs := [a1]) hd (by rw [hM]; exact tw_440) tw_441 tw_442 cw_X0_remove rfl rfl rfl (Nat.le_of_ble_eq_true rfl) hdd hst h
theorem tw_274 : Cond.fieldLink RX6 51 "ShelfShift" "dayLimit" "I" ∈ TB := tb_of 274 (by decide +kernel) (by decide +kernel)
theorem gf_X6_51 {M : MI} {d pc : Nat} {Q : Int → St → Prop} {ls : List (Option PV)} {st : List PV} {σ : St} (hM : M.1.cls = RX6) (hd : decode M.2.1 pc = .ok (.getfield 51, 3)) (h : Wp M d Q (pc + 3) ls (.inl (σ 6 6) :: st) σ) : Wp M d Q pc ls (.inr 6 :: st) σ := w_get (k := 6) (j := 6) (v := .inl (σ 6 6)) rfl inTB6 rfl (by decide) (by rw [hM]; exact tw_274) (fun _ => rfl) hd h
theorem pf_X6_51 {M : MI} {d pc : Nat} {Q : Int → St → Prop} {ls : List (Option PV)} {st : List PV} {σ : St} {z : Int} (hM : M.1.cls = RX6) (hz : InR z) (hd : decode M.2.1 pc = .ok (.putfield 51, 3)) (h : Wp M d Q (pc + 3) ls st (put σ 6 6 z)) : Wp M d Q pc ls (.inl z :: .inr 6 :: st) σ := w_put (k := 6) (j := 6) (ty := .int) rfl inTB6 tyX6 tyX6_ok nmX6 rfl (by decide) rfl rfl (by rw [hM]; exact tw_274) (by decide +kernel) rfl rfl hz hd h
theorem tw_456 : Cond.methodLink RX6 138 yX0_allWidths ∈ TB := tb_of 456 (by decide +kernel) (by decide +kernel)
theorem tw_457 : Cond.instanceMethod yX0_allWidths ∈ TB := tb_of 457 (by decide +kernel) (by decide +kernel)
theorem tw_458 : Cond.selects RX0 yX0_allWidths yX0_allWidths ∈ TB := tb_of 458 (by decide +kernel) (by decide +kernel)
theorem cv_X6_138 {M : MI} {d pc : Nat} {Q : Int → St → Prop} {ls : List (Option PV)} {st : List PV} {σ : St} {d' : Nat} (hM : M.1.cls = RX6) (hd : decode M.2.1 pc = .ok (.invokevirtual 138, 3)) (hdd : d' < d) (hst : st.length ≤ 8) (h : Wp mX0_allWidths d' (fun z τ => Wp M d Q (pc + 3) ls (.inl z :: st) τ) 0 [some (.inr 0), none, none] [] σ) : Wp M d Q pc ls (.inr 0 :: st) σ := w_cv (M' := mX0_allWidths) (k := 0) (vs := []) hd (by rw [hM]; exact tw_456) tw_457 tw_458 cw_X0_allWidths rfl rfl rfl (Nat.le_of_ble_eq_true rfl) hdd hst h
theorem tw_460 : Cond.methodLink RX6 142 yX5_openLengths ∈ TB := tb_of 460 (by decide +kernel) (by decide +kernel)
theorem tw_461 : Cond.instanceMethod yX5_openLengths ∈ TB := tb_of 461 (by decide +kernel) (by decide +kernel)
theorem tw_462 : Cond.selects RX5 yX5_openLengths yX5_openLengths ∈ TB := tb_of 462 (by decide +kernel) (by decide +kernel)
theorem cv_X6_142 {M : MI} {d pc : Nat} {Q : Int → St → Prop} {ls : List (Option PV)} {st : List PV} {σ : St} {d' : Nat} (hM : M.1.cls = RX6) (hd : decode M.2.1 pc = .ok (.invokevirtual 142, 3)) (hdd : d' < d) (hst : st.length ≤ 8) (h : Wp mX5_openLengths d' (fun z τ => Wp M d Q (pc + 3) ls (.inl z :: st) τ) 0 [some (.inr 5), none, none] [] σ) : Wp M d Q pc ls (.inr 5 :: st) σ := w_cv (M' := mX5_openLengths) (k := 5) (vs := []) hd (by rw [hM]; exact tw_460) tw_461 tw_462 cw_X5_openLengths rfl rfl rfl (Nat.le_of_ble_eq_true rfl) hdd hst h
theorem tw_229 : Cond.fieldLink RX6 145 "ShelfShift$Plan" "total" "I" ∈ TB := tb_of 229 (by decide +kernel) (by decide +kernel)
theorem gf_X6_145 {M : MI} {d pc : Nat} {Q : Int → St → Prop} {ls : List (Option PV)} {st : List PV} {σ : St} (hM : M.1.cls = RX6) (hd : decode M.2.1 pc = .ok (.getfield 145, 3)) (h : Wp M d Q (pc + 3) ls (.inl (σ 4 5) :: st) σ) : Wp M d Q pc ls (.inr 4 :: st) σ := w_get (k := 4) (j := 5) (v := .inl (σ 4 5)) rfl inTB4 rfl (by decide) (by rw [hM]; exact tw_229) (fun _ => rfl) hd h
theorem tw_231 : Cond.fieldLink RX6 148 "ShelfShift$Plan" "done" "I" ∈ TB := tb_of 231 (by decide +kernel) (by decide +kernel)
theorem gf_X6_148 {M : MI} {d pc : Nat} {Q : Int → St → Prop} {ls : List (Option PV)} {st : List PV} {σ : St} (hM : M.1.cls = RX6) (hd : decode M.2.1 pc = .ok (.getfield 148, 3)) (h : Wp M d Q (pc + 3) ls (.inl (σ 4 6) :: st) σ) : Wp M d Q pc ls (.inr 4 :: st) σ := w_get (k := 4) (j := 6) (v := .inl (σ 4 6)) rfl inTB4 rfl (by decide) (by rw [hM]; exact tw_231) (fun _ => rfl) hd h
theorem tw_464 : Cond.methodLink RX6 151 yX4_exists ∈ TB := tb_of 464 (by decide +kernel) (by decide +kernel)
theorem tw_465 : Cond.instanceMethod yX4_exists ∈ TB := tb_of 465 (by decide +kernel) (by decide +kernel)
theorem tw_466 : Cond.selects RX4 yX4_exists yX4_exists ∈ TB := tb_of 466 (by decide +kernel) (by decide +kernel)
theorem cv_X6_151 {M : MI} {d pc : Nat} {Q : Int → St → Prop} {ls : List (Option PV)} {st : List PV} {σ : St} {d' : Nat} (hM : M.1.cls = RX6) (hd : decode M.2.1 pc = .ok (.invokevirtual 151, 3)) (hdd : d' < d) (hst : st.length ≤ 8) (h : Wp mX4_exists d' (fun z τ => Wp M d Q (pc + 3) ls (.inl z :: st) τ) 0 [some (.inr 4)] [] σ) : Wp M d Q pc ls (.inr 4 :: st) σ := w_cv (M' := mX4_exists) (k := 4) (vs := []) hd (by rw [hM]; exact tw_464) tw_465 tw_466 cw_X4_exists rfl rfl rfl (Nat.le_of_ble_eq_true rfl) hdd hst h
theorem tw_233 : Cond.fieldLink RX6 154 "ShelfShift$Plan" "years" "I" ∈ TB := tb_of 233 (by decide +kernel) (by decide +kernel)
theorem gf_X6_154 {M : MI} {d pc : Nat} {Q : Int → St → Prop} {ls : List (Option PV)} {st : List PV} {σ : St} (hM : M.1.cls = RX6) (hd : decode M.2.1 pc = .ok (.getfield 154, 3)) (h : Wp M d Q (pc + 3) ls (.inl (σ 4 7) :: st) σ) : Wp M d Q pc ls (.inr 4 :: st) σ := w_get (k := 4) (j := 7) (v := .inl (σ 4 7)) rfl inTB4 rfl (by decide) (by rw [hM]; exact tw_233) (fun _ => rfl) hd h
theorem tw_260 : Cond.fieldLink RX6 157 "ShelfShift$Logbook" "count" "I" ∈ TB := tb_of 260 (by decide +kernel) (by decide +kernel)
theorem gf_X6_157 {M : MI} {d pc : Nat} {Q : Int → St → Prop} {ls : List (Option PV)} {st : List PV} {σ : St} (hM : M.1.cls = RX6) (hd : decode M.2.1 pc = .ok (.getfield 157, 3)) (h : Wp M d Q (pc + 3) ls (.inl (σ 3 2) :: st) σ) : Wp M d Q pc ls (.inr 3 :: st) σ := w_get (k := 3) (j := 2) (v := .inl (σ 3 2)) rfl inTB3 rfl (by decide) (by rw [hM]; exact tw_260) (fun _ => rfl) hd h
theorem tw_147 : Cond.fieldLink RX6 158 "ShelfShift$Books" "handledInAll" "I" ∈ TB := tb_of 147 (by decide +kernel) (by decide +kernel)
theorem gf_X6_158 {M : MI} {d pc : Nat} {Q : Int → St → Prop} {ls : List (Option PV)} {st : List PV} {σ : St} (hM : M.1.cls = RX6) (hd : decode M.2.1 pc = .ok (.getfield 158, 3)) (h : Wp M d Q (pc + 3) ls (.inl (σ 0 7) :: st) σ) : Wp M d Q pc ls (.inr 0 :: st) σ := w_get (k := 0) (j := 7) (v := .inl (σ 0 7)) rfl inTB0 rfl (by decide) (by rw [hM]; exact tw_147) (fun _ => rfl) hd h
theorem tw_90 : Cond.fieldLink RX6 168 "ShelfShift$Shelves" "length" "[I" ∈ TB := tb_of 90 (by decide +kernel) (by decide +kernel)
theorem gf_X6_168 {M : MI} {d pc : Nat} {Q : Int → St → Prop} {ls : List (Option PV)} {st : List PV} {σ : St} (hM : M.1.cls = RX6) (hd : decode M.2.1 pc = .ok (.getfield 168, 3)) (h : Wp M d Q (pc + 3) ls (.inr 55 :: st) σ) : Wp M d Q pc ls (.inr 5 :: st) σ := w_get (k := 5) (j := 0) (v := .inr 55) rfl inTB5 rfl (by decide) (by rw [hM]; exact tw_90) (fun _ => rfl) hd h
theorem tw_492 : Cond.methodLink RX6 171 yX0_loadOn ∈ TB := tb_of 492 (by decide +kernel) (by decide +kernel)
theorem tw_493 : Cond.instanceMethod yX0_loadOn ∈ TB := tb_of 493 (by decide +kernel) (by decide +kernel)
theorem tw_494 : Cond.selects RX0 yX0_loadOn yX0_loadOn ∈ TB := tb_of 494 (by decide +kernel) (by decide +kernel)
theorem cv_X6_171 {M : MI} {d pc : Nat} {Q : Int → St → Prop} {ls : List (Option PV)} {st : List PV} {σ : St} {d' : Nat} {a1 : PV} (hM : M.1.cls = RX6) (hd : decode M.2.1 pc = .ok (.invokevirtual 171, 3)) (hdd : d' < d) (hst : st.length ≤ 8) (h : Wp mX0_loadOn d' (fun z τ => Wp M d Q (pc + 3) ls (.inl z :: st) τ) 0 [some (.inr 0), some a1] [] σ) : Wp M d Q pc ls (a1 :: .inr 0 :: st) σ := w_cv (M' := mX0_loadOn) (k := 0) (vs := [a1]) hd (by rw [hM]; exact tw_492) tw_493 tw_494 cw_X0_loadOn rfl rfl rfl (Nat.le_of_ble_eq_true rfl) hdd hst h
theorem tw_488 : Cond.methodLink RX6 174 yX6_roomOn ∈ TB := tb_of 488 (by decide +kernel) (by decide +kernel)
theorem tw_490 : Cond.instanceMethod yX6_roomOn ∈ TB := tb_of 490 (by decide +kernel) (by decide +kernel)
theorem tw_15 : Cond.selects RX6 yX6_roomOn yX6_roomOn ∈ TB := tb_of 15 (by decide +kernel) (by decide +kernel)
theorem cv_X6_174 {M : MI} {d pc : Nat} {Q : Int → St → Prop} {ls : List (Option PV)} {st : List PV} {σ : St} {d' : Nat} {a1 : PV} (hM : M.1.cls = RX6) (hd : decode M.2.1 pc = .ok (.invokevirtual 174, 3)) (hdd : d' < d) (hst : st.length ≤ 8) (h : Wp mX6_roomOn d' (fun z τ => Wp M d Q (pc + 3) ls (.inl z :: st) τ) 0 [some (.inr 6), some a1] [] σ) : Wp M d Q pc ls (a1 :: .inr 6 :: st) σ := w_cv (M' := mX6_roomOn) (k := 6) (vs := [a1]) hd (by rw [hM]; exact tw_488) tw_490 tw_15 cw_X6_roomOn rfl rfl rfl (Nat.le_of_ble_eq_true rfl) hdd hst h
theorem tw_484 : Cond.methodLink RX6 177 yX0_rateOn ∈ TB := tb_of 484 (by decide +kernel) (by decide +kernel)
theorem tw_485 : Cond.instanceMethod yX0_rateOn ∈ TB := tb_of 485 (by decide +kernel) (by decide +kernel)
theorem tw_486 : Cond.selects RX0 yX0_rateOn yX0_rateOn ∈ TB := tb_of 486 (by decide +kernel) (by decide +kernel)
theorem cv_X6_177 {M : MI} {d pc : Nat} {Q : Int → St → Prop} {ls : List (Option PV)} {st : List PV} {σ : St} {d' : Nat} {a1 : PV} (hM : M.1.cls = RX6) (hd : decode M.2.1 pc = .ok (.invokevirtual 177, 3)) (hdd : d' < d) (hst : st.length ≤ 8) (h : Wp mX0_rateOn d' (fun z τ => Wp M d Q (pc + 3) ls (.inl z :: st) τ) 0 [some (.inr 0), some a1] [] σ) : Wp M d Q pc ls (a1 :: .inr 0 :: st) σ := w_cv (M' := mX0_rateOn) (k := 0) (vs := [a1]) hd (by rw [hM]; exact tw_484) tw_485 tw_486 cw_X0_rateOn rfl rfl rfl (Nat.le_of_ble_eq_true rfl) hdd hst h
theorem tw_480 : Cond.methodLink RX6 180 yX6_yearsOn ∈ TB := tb_of 480 (by decide +kernel) (by decide +kernel)
theorem tw_482 : Cond.instanceMethod yX6_yearsOn ∈ TB := tb_of 482 (by decide +kernel) (by decide +kernel)
theorem tw_14 : Cond.selects RX6 yX6_yearsOn yX6_yearsOn ∈ TB := tb_of 14 (by decide +kernel) (by decide +kernel)
theorem cv_X6_180 {M : MI} {d pc : Nat} {Q : Int → St → Prop} {ls : List (Option PV)} {st : List PV} {σ : St} {d' : Nat} {a1 : PV} (hM : M.1.cls = RX6) (hd : decode M.2.1 pc = .ok (.invokevirtual 180, 3)) (hdd : d' < d) (hst : st.length ≤ 8) (h : Wp mX6_yearsOn d' (fun z τ => Wp M d Q (pc + 3) ls (.inl z :: st) τ) 0 [some (.inr 6), some a1, none] [] σ) : Wp M d Q pc ls (a1 :: .inr 6 :: st) σ := w_cv (M' := mX6_yearsOn) (k := 6) (vs := [a1]) hd (by rw [hM]; exact tw_480) tw_482 tw_14 cw_X6_yearsOn rfl rfl rfl (Nat.le_of_ble_eq_true rfl) hdd hst h
theorem tw_672 : Cond.methodLink RX6 183 yX0_firstOn ∈ TB := tb_of 672 (by decide +kernel) (by decide +kernel)
theorem tw_673 : Cond.instanceMethod yX0_firstOn ∈ TB := tb_of 673 (by decide +kernel) (by decide +kernel)
theorem tw_674 : Cond.selects RX0 yX0_firstOn yX0_firstOn ∈ TB := tb_of 674 (by decide +kernel) (by decide +kernel)
theorem cv_X6_183 {M : MI} {d pc : Nat} {Q : Int → St → Prop} {ls : List (Option PV)} {st : List PV} {σ : St} {d' : Nat} {a1 : PV} (hM : M.1.cls = RX6) (hd : decode M.2.1 pc = .ok (.invokevirtual 183, 3)) (hdd : d' < d) (hst : st.length ≤ 8) (h : Wp mX0_firstOn d' (fun z τ => Wp M d Q (pc + 3) ls (.inl z :: st) τ) 0 [some (.inr 0), some a1] [] σ) : Wp M d Q pc ls (a1 :: .inr 0 :: st) σ := w_cv (M' := mX0_firstOn) (k := 0) (vs := [a1]) hd (by rw [hM]; exact tw_672) tw_673 tw_674 cw_X0_firstOn rfl rfl rfl (Nat.le_of_ble_eq_true rfl) hdd hst h
theorem tw_472 : Cond.methodLink RX6 186 yX0_countOn ∈ TB := tb_of 472 (by decide +kernel) (by decide +kernel)
theorem tw_473 : Cond.instanceMethod yX0_countOn ∈ TB := tb_of 473 (by decide +kernel) (by decide +kernel)
theorem tw_474 : Cond.selects RX0 yX0_countOn yX0_countOn ∈ TB := tb_of 474 (by decide +kernel) (by decide +kernel)
theorem cv_X6_186 {M : MI} {d pc : Nat} {Q : Int → St → Prop} {ls : List (Option PV)} {st : List PV} {σ : St} {d' : Nat} {a1 : PV} (hM : M.1.cls = RX6) (hd : decode M.2.1 pc = .ok (.invokevirtual 186, 3)) (hdd : d' < d) (hst : st.length ≤ 8) (h : Wp mX0_countOn d' (fun z τ => Wp M d Q (pc + 3) ls (.inl z :: st) τ) 0 [some (.inr 0), some a1] [] σ) : Wp M d Q pc ls (a1 :: .inr 0 :: st) σ := w_cv (M' := mX0_countOn) (k := 0) (vs := [a1]) hd (by rw [hM]; exact tw_472) tw_473 tw_474 cw_X0_countOn rfl rfl rfl (Nat.le_of_ble_eq_true rfl) hdd hst h
theorem tw_689 : Cond.methodLink RX6 193 yX0_countIn ∈ TB := tb_of 689 (by decide +kernel) (by decide +kernel)
theorem tw_690 : Cond.instanceMethod yX0_countIn ∈ TB := tb_of 690 (by decide +kernel) (by decide +kernel)
theorem tw_691 : Cond.selects RX0 yX0_countIn yX0_countIn ∈ TB := tb_of 691 (by decide +kernel) (by decide +kernel)
theorem cv_X6_193 {M : MI} {d pc : Nat} {Q : Int → St → Prop} {ls : List (Option PV)} {st : List PV} {σ : St} {d' : Nat} {a1 : PV} (hM : M.1.cls = RX6) (hd : decode M.2.1 pc = .ok (.invokevirtual 193, 3)) (hdd : d' < d) (hst : st.length ≤ 8) (h : Wp mX0_countIn d' (fun z τ => Wp M d Q (pc + 3) ls (.inl z :: st) τ) 0 [some (.inr 0), some a1] [] σ) : Wp M d Q pc ls (a1 :: .inr 0 :: st) σ := w_cv (M' := mX0_countIn) (k := 0) (vs := [a1]) hd (by rw [hM]; exact tw_689) tw_690 tw_691 cw_X0_countIn rfl rfl rfl (Nat.le_of_ble_eq_true rfl) hdd hst h
theorem tw_693 : Cond.methodLink RX6 196 yX0_widthsIn ∈ TB := tb_of 693 (by decide +kernel) (by decide +kernel)
theorem cv_X6_196 {M : MI} {d pc : Nat} {Q : Int → St → Prop} {ls : List (Option PV)} {st : List PV} {σ : St} {d' : Nat} {a1 : PV} (hM : M.1.cls = RX6) (hd : decode M.2.1 pc = .ok (.invokevirtual 196, 3)) (hdd : d' < d) (hst : st.length ≤ 8) (h : Wp mX0_widthsIn d' (fun z τ => Wp M d Q (pc + 3) ls (.inl z :: st) τ) 0 [some (.inr 0), some a1] [] σ) : Wp M d Q pc ls (a1 :: .inr 0 :: st) σ := w_cv (M' := mX0_widthsIn) (k := 0) (vs := [a1]) hd (by rw [hM]; exact tw_693) tw_334 tw_335 cw_X0_widthsIn rfl rfl rfl (Nat.le_of_ble_eq_true rfl) hdd hst h
theorem tw_694 : Cond.methodLink RX6 199 yX0_firstIn ∈ TB := tb_of 694 (by decide +kernel) (by decide +kernel)
theorem tw_695 : Cond.instanceMethod yX0_firstIn ∈ TB := tb_of 695 (by decide +kernel) (by decide +kernel)
theorem tw_696 : Cond.selects RX0 yX0_firstIn yX0_firstIn ∈ TB := tb_of 696 (by decide +kernel) (by decide +kernel)
theorem cv_X6_199 {M : MI} {d pc : Nat} {Q : Int → St → Prop} {ls : List (Option PV)} {st : List PV} {σ : St} {d' : Nat} {a1 : PV} (hM : M.1.cls = RX6) (hd : decode M.2.1 pc = .ok (.invokevirtual 199, 3)) (hdd : d' < d) (hst : st.length ≤ 8) (h : Wp mX0_firstIn d' (fun z τ => Wp M d Q (pc + 3) ls (.inl z :: st) τ) 0 [some (.inr 0), some a1] [] σ) : Wp M d Q pc ls (a1 :: .inr 0 :: st) σ := w_cv (M' := mX0_firstIn) (k := 0) (vs := [a1]) hd (by rw [hM]; exact tw_694) tw_695 tw_696 cw_X0_firstIn rfl rfl rfl (Nat.le_of_ble_eq_true rfl) hdd hst h
theorem tw_698 : Cond.methodLink RX6 202 yX0_shelvesOf ∈ TB := tb_of 698 (by decide +kernel) (by decide +kernel)
theorem tw_699 : Cond.instanceMethod yX0_shelvesOf ∈ TB := tb_of 699 (by decide +kernel) (by decide +kernel)
theorem tw_700 : Cond.selects RX0 yX0_shelvesOf yX0_shelvesOf ∈ TB := tb_of 700 (by decide +kernel) (by decide +kernel)
theorem cv_X6_202 {M : MI} {d pc : Nat} {Q : Int → St → Prop} {ls : List (Option PV)} {st : List PV} {σ : St} {d' : Nat} {a1 : PV} (hM : M.1.cls = RX6) (hd : decode M.2.1 pc = .ok (.invokevirtual 202, 3)) (hdd : d' < d) (hst : st.length ≤ 8) (h : Wp mX0_shelvesOf d' (fun z τ => Wp M d Q (pc + 3) ls (.inl z :: st) τ) 0 [some (.inr 0), some a1, none, none, none] [] σ) : Wp M d Q pc ls (a1 :: .inr 0 :: st) σ := w_cv (M' := mX0_shelvesOf) (k := 0) (vs := [a1]) hd (by rw [hM]; exact tw_698) tw_699 tw_700 cw_X0_shelvesOf rfl rfl rfl (Nat.le_of_ble_eq_true rfl) hdd hst h
theorem tw_134 : Cond.fieldLink RX6 207 "ShelfShift$Books" "need" "[I" ∈ TB := tb_of 134 (by decide +kernel) (by decide +kernel)
theorem gf_X6_207 {M : MI} {d pc : Nat} {Q : Int → St → Prop} {ls : List (Option PV)} {st : List PV} {σ : St} (hM : M.1.cls = RX6) (hd : decode M.2.1 pc = .ok (.getfield 207, 3)) (h : Wp M d Q (pc + 3) ls (.inr 10 :: st) σ) : Wp M d Q pc ls (.inr 0 :: st) σ := w_get (k := 0) (j := 2) (v := .inr 10) rfl inTB0 rfl (by decide) (by rw [hM]; exact tw_134) (fun _ => rfl) hd h
theorem tw_710 : Cond.methodLink RX6 210 yX0_widthsAheadOf ∈ TB := tb_of 710 (by decide +kernel) (by decide +kernel)
theorem tw_711 : Cond.instanceMethod yX0_widthsAheadOf ∈ TB := tb_of 711 (by decide +kernel) (by decide +kernel)
theorem tw_712 : Cond.selects RX0 yX0_widthsAheadOf yX0_widthsAheadOf ∈ TB := tb_of 712 (by decide +kernel) (by decide +kernel)
theorem cv_X6_210 {M : MI} {d pc : Nat} {Q : Int → St → Prop} {ls : List (Option PV)} {st : List PV} {σ : St} {d' : Nat} {a1 : PV} (hM : M.1.cls = RX6) (hd : decode M.2.1 pc = .ok (.invokevirtual 210, 3)) (hdd : d' < d) (hst : st.length ≤ 8) (h : Wp mX0_widthsAheadOf d' (fun z τ => Wp M d Q (pc + 3) ls (.inl z :: st) τ) 0 [some (.inr 0), some a1, none, none] [] σ) : Wp M d Q pc ls (a1 :: .inr 0 :: st) σ := w_cv (M' := mX0_widthsAheadOf) (k := 0) (vs := [a1]) hd (by rw [hM]; exact tw_710) tw_711 tw_712 cw_X0_widthsAheadOf rfl rfl rfl (Nat.le_of_ble_eq_true rfl) hdd hst h
theorem tw_140 : Cond.fieldLink RX6 213 "ShelfShift$Books" "handled" "[I" ∈ TB := tb_of 140 (by decide +kernel) (by decide +kernel)
theorem gf_X6_213 {M : MI} {d pc : Nat} {Q : Int → St → Prop} {ls : List (Option PV)} {st : List PV} {σ : St} (hM : M.1.cls = RX6) (hd : decode M.2.1 pc = .ok (.getfield 213, 3)) (h : Wp M d Q (pc + 3) ls (.inr 12 :: st) σ) : Wp M d Q pc ls (.inr 0 :: st) σ := w_get (k := 0) (j := 4) (v := .inr 12) rfl inTB0 rfl (by decide) (by rw [hM]; exact tw_140) (fun _ => rfl) hd h
theorem tw_219 : Cond.fieldLink RX6 216 "ShelfShift$Plan" "goes" "[I" ∈ TB := tb_of 219 (by decide +kernel) (by decide +kernel)
theorem gf_X6_216 {M : MI} {d pc : Nat} {Q : Int → St → Prop} {ls : List (Option PV)} {st : List PV} {σ : St} (hM : M.1.cls = RX6) (hd : decode M.2.1 pc = .ok (.getfield 216, 3)) (h : Wp M d Q (pc + 3) ls (.inr 50 :: st) σ) : Wp M d Q pc ls (.inr 4 :: st) σ := w_get (k := 4) (j := 0) (v := .inr 50) rfl inTB4 rfl (by decide) (by rw [hM]; exact tw_219) (fun _ => rfl) hd h
theorem tw_496 : Cond.methodLink RX6 217 Lib.Math.min.name ∈ TB := tb_of 496 (by decide +kernel) (by decide +kernel)
theorem tw_501 : Cond.methodLink RX6 222 yX6_hasCuts ∈ TB := tb_of 501 (by decide +kernel) (by decide +kernel)
theorem tw_503 : Cond.instanceMethod yX6_hasCuts ∈ TB := tb_of 503 (by decide +kernel) (by decide +kernel)
theorem tw_16 : Cond.selects RX6 yX6_hasCuts yX6_hasCuts ∈ TB := tb_of 16 (by decide +kernel) (by decide +kernel)
theorem cv_X6_222 {M : MI} {d pc : Nat} {Q : Int → St → Prop} {ls : List (Option PV)} {st : List PV} {σ : St} {d' : Nat} {a1 : PV} (hM : M.1.cls = RX6) (hd : decode M.2.1 pc = .ok (.invokevirtual 222, 3)) (hdd : d' < d) (hst : st.length ≤ 8) (h : Wp mX6_hasCuts d' (fun z τ => Wp M d Q (pc + 3) ls (.inl z :: st) τ) 0 [some (.inr 6), some a1] [] σ) : Wp M d Q pc ls (a1 :: .inr 6 :: st) σ := w_cv (M' := mX6_hasCuts) (k := 6) (vs := [a1]) hd (by rw [hM]; exact tw_501) tw_503 tw_16 cw_X6_hasCuts rfl rfl rfl (Nat.le_of_ble_eq_true rfl) hdd hst h
theorem tw_176 : Cond.fieldLink RX6 225 "ShelfShift$Cutter" "taken" "[I" ∈ TB := tb_of 176 (by decide +kernel) (by decide +kernel)
theorem gf_X6_225 {M : MI} {d pc : Nat} {Q : Int → St → Prop} {ls : List (Option PV)} {st : List PV} {σ : St} (hM : M.1.cls = RX6) (hd : decode M.2.1 pc = .ok (.getfield 225, 3)) (h : Wp M d Q (pc + 3) ls (.inr 15 :: st) σ) : Wp M d Q pc ls (.inr 1 :: st) σ := w_get (k := 1) (j := 1) (v := .inr 15) rfl inTB1 rfl (by decide) (by rw [hM]; exact tw_176) (fun _ => rfl) hd h
theorem tw_509 : Cond.methodLink RX6 228 yX1_partOfPrice ∈ TB := tb_of 509 (by decide +kernel) (by decide +kernel)
theorem tw_510 : Cond.instanceMethod yX1_partOfPrice ∈ TB := tb_of 510 (by decide +kernel) (by decide +kernel)
theorem tw_511 : Cond.selects RX1 yX1_partOfPrice yX1_partOfPrice ∈ TB := tb_of 511 (by decide +kernel) (by decide +kernel)
theorem cv_X6_228 {M : MI} {d pc : Nat} {Q : Int → St → Prop} {ls : List (Option PV)} {st : List PV} {σ : St} {d' : Nat} {a1 : PV} (hM : M.1.cls = RX6) (hd : decode M.2.1 pc = .ok (.invokevirtual 228, 3)) (hdd : d' < d) (hst : st.length ≤ 8) (h : Wp mX1_partOfPrice d' (fun z τ => Wp M d Q (pc + 3) ls (.inl z :: st) τ) 0 [some (.inr 1), some a1] [] σ) : Wp M d Q pc ls (a1 :: .inr 1 :: st) σ := w_cv (M' := mX1_partOfPrice) (k := 1) (vs := [a1]) hd (by rw [hM]; exact tw_509) tw_510 tw_511 cw_X1_partOfPrice rfl rfl rfl (Nat.le_of_ble_eq_true rfl) hdd hst h
theorem tw_517 : Cond.methodLink RX6 231 yX6_isRoomFor ∈ TB := tb_of 517 (by decide +kernel) (by decide +kernel)
theorem tw_519 : Cond.instanceMethod yX6_isRoomFor ∈ TB := tb_of 519 (by decide +kernel) (by decide +kernel)
theorem tw_17 : Cond.selects RX6 yX6_isRoomFor yX6_isRoomFor ∈ TB := tb_of 17 (by decide +kernel) (by decide +kernel)
theorem cv_X6_231 {M : MI} {d pc : Nat} {Q : Int → St → Prop} {ls : List (Option PV)} {st : List PV} {σ : St} {d' : Nat} {a1 a2 : PV} (hM : M.1.cls = RX6) (hd : decode M.2.1 pc = .ok (.invokevirtual 231, 3)) (hdd : d' < d) (hst : st.length ≤ 8) (h : Wp mX6_isRoomFor d' (fun z τ => Wp M d Q (pc + 3) ls (.inl z :: st) τ) 0 [some (.inr 6), some a1, some a2] [] σ) : Wp M d Q pc ls (a2 :: a1 :: .inr 6 :: st) σ := w_cv (M' := mX6_isRoomFor) (k := 6) (vs := [a1, a2]) hd (by rw [hM]; exact tw_517) tw_519 tw_17 cw_X6_isRoomFor rfl rfl rfl (Nat.le_of_ble_eq_true rfl) hdd hst h
theorem tw_521 : Cond.methodLink RX6 235 yX1_shelvesFilled ∈ TB := tb_of 521 (by decide +kernel) (by decide +kernel)
theorem tw_522 : Cond.instanceMethod yX1_shelvesFilled ∈ TB := tb_of 522 (by decide +kernel) (by decide +kernel)
theorem tw_523 : Cond.selects RX1 yX1_shelvesFilled yX1_shelvesFilled ∈ TB := tb_of 523 (by decide +kernel) (by decide +kernel)
theorem cv_X6_235 {M : MI} {d pc : Nat} {Q : Int → St → Prop} {ls : List (Option PV)} {st : List PV} {σ : St} {d' : Nat} {a1 : PV} (hM : M.1.cls = RX6) (hd : decode M.2.1 pc = .ok (.invokevirtual 235, 3)) (hdd : d' < d) (hst : st.length ≤ 8) (h : Wp mX1_shelvesFilled d' (fun z τ => Wp M d Q (pc + 3) ls (.inl z :: st) τ) 0 [some (.inr 1), some a1, none, none] [] σ) : Wp M d Q pc ls (a1 :: .inr 1 :: st) σ := w_cv (M' := mX1_shelvesFilled) (k := 1) (vs := [a1]) hd (by rw [hM]; exact tw_521) tw_522 tw_523 cw_X1_shelvesFilled rfl rfl rfl (Nat.le_of_ble_eq_true rfl) hdd hst h
theorem tw_390 : Cond.methodLink RX6 238 yX4_make ∈ TB := tb_of 390 (by decide +kernel) (by decide +kernel)
theorem tw_391 : Cond.instanceMethod yX4_make ∈ TB := tb_of 391 (by decide +kernel) (by decide +kernel)
theorem tw_392 : Cond.selects RX4 yX4_make yX4_make ∈ TB := tb_of 392 (by decide +kernel) (by decide +kernel)
theorem cv_X6_238 {M : MI} {d pc : Nat} {Q : Int → St → Prop} {ls : List (Option PV)} {st : List PV} {σ : St} {d' : Nat} {a1 a2 a3 : PV} (hM : M.1.cls = RX6) (hd : decode M.2.1 pc = .ok (.invokevirtual 238, 3)) (hdd : d' < d) (hst : st.length ≤ 8) (h : Wp mX4_make d' (fun z τ => Wp M d Q (pc + 3) ls (st) τ) 0 [some (.inr 4), some a1, some a2, some a3, none] [] σ) : Wp M d Q pc ls (a3 :: a2 :: a1 :: .inr 4 :: st) σ := w_cv (M' := mX4_make) (k := 4) (vs := [a1, a2, a3]) hd (by rw [hM]; exact tw_390) tw_391 tw_392 cw_X4_make rfl rfl rfl (Nat.le_of_ble_eq_true rfl) hdd hst h
theorem tw_400 : Cond.methodLink RX6 242 yX6_makeNextMove ∈ TB := tb_of 400 (by decide +kernel) (by decide +kernel)
theorem tw_402 : Cond.instanceMethod yX6_makeNextMove ∈ TB := tb_of 402 (by decide +kernel) (by decide +kernel)
theorem tw_9 : Cond.selects RX6 yX6_makeNextMove yX6_makeNextMove ∈ TB := tb_of 9 (by decide +kernel) (by decide +kernel)
theorem cv_X6_242 {M : MI} {d pc : Nat} {Q : Int → St → Prop} {ls : List (Option PV)} {st : List PV} {σ : St} {d' : Nat} (hM : M.1.cls = RX6) (hd : decode M.2.1 pc = .ok (.invokevirtual 242, 3)) (hdd : d' < d) (hst : st.length ≤ 8) (h : Wp mX6_makeNextMove d' (fun z τ => Wp M d Q (pc + 3) ls (.inl z :: st) τ) 0 [some (.inr 6), none, none] [] σ) : Wp M d Q pc ls (.inr 6 :: st) σ := w_cv (M' := mX6_makeNextMove) (k := 6) (vs := []) hd (by rw [hM]; exact tw_400) tw_402 tw_9 cw_X6_makeNextMove rfl rfl rfl (Nat.le_of_ble_eq_true rfl) hdd hst h
theorem tw_553 : Cond.methodLink RX6 245 yX4_movesOfNextDay ∈ TB := tb_of 553 (by decide +kernel) (by decide +kernel)
theorem tw_554 : Cond.instanceMethod yX4_movesOfNextDay ∈ TB := tb_of 554 (by decide +kernel) (by decide +kernel)
theorem tw_555 : Cond.selects RX4 yX4_movesOfNextDay yX4_movesOfNextDay ∈ TB := tb_of 555 (by decide +kernel) (by decide +kernel)
theorem cv_X6_245 {M : MI} {d pc : Nat} {Q : Int → St → Prop} {ls : List (Option PV)} {st : List PV} {σ : St} {d' : Nat} {a1 : PV} (hM : M.1.cls = RX6) (hd : decode M.2.1 pc = .ok (.invokevirtual 245, 3)) (hdd : d' < d) (hst : st.length ≤ 8) (h : Wp mX4_movesOfNextDay d' (fun z τ => Wp M d Q (pc + 3) ls (.inl z :: st) τ) 0 [some (.inr 4), some a1, none, none] [] σ) : Wp M d Q pc ls (a1 :: .inr 4 :: st) σ := w_cv (M' := mX4_movesOfNextDay) (k := 4) (vs := [a1]) hd (by rw [hM]; exact tw_553) tw_554 tw_555 cw_X4_movesOfNextDay rfl rfl rfl (Nat.le_of_ble_eq_true rfl) hdd hst h
theorem tw_221 : Cond.fieldLink RX6 248 "ShelfShift$Plan" "book" "[I" ∈ TB := tb_of 221 (by decide +kernel) (by decide +kernel)
theorem gf_X6_248 {M : MI} {d pc : Nat} {Q : Int → St → Prop} {ls : List (Option PV)} {st : List PV} {σ : St} (hM : M.1.cls = RX6) (hd : decode M.2.1 pc = .ok (.getfield 248, 3)) (h : Wp M d Q (pc + 3) ls (.inr 51 :: st) σ) : Wp M d Q pc ls (.inr 4 :: st) σ := w_get (k := 4) (j := 1) (v := .inr 51) rfl inTB4 rfl (by decide) (by rw [hM]; exact tw_221) (fun _ => rfl) hd h
theorem tw_225 : Cond.fieldLink RX6 251 "ShelfShift$Plan" "from" "[I" ∈ TB := tb_of 225 (by decide +kernel) (by decide +kernel)
theorem gf_X6_251 {M : MI} {d pc : Nat} {Q : Int → St → Prop} {ls : List (Option PV)} {st : List PV} {σ : St} (hM : M.1.cls = RX6) (hd : decode M.2.1 pc = .ok (.getfield 251, 3)) (h : Wp M d Q (pc + 3) ls (.inr 53 :: st) σ) : Wp M d Q pc ls (.inr 4 :: st) σ := w_get (k := 4) (j := 3) (v := .inr 53) rfl inTB4 rfl (by decide) (by rw [hM]; exact tw_225) (fun _ => rfl) hd h
theorem tw_227 : Cond.fieldLink RX6 254 "ShelfShift$Plan" "to" "[I" ∈ TB := tb_of 227 (by decide +kernel) (by decide +kernel)
theorem gf_X6_254 {M : MI} {d pc : Nat} {Q : Int → St → Prop} {ls : List (Option PV)} {st : List PV} {σ : St} (hM : M.1.cls = RX6) (hd : decode M.2.1 pc = .ok (.getfield 254, 3)) (h : Wp M d Q (pc + 3) ls (.inr 54 :: st) σ) : Wp M d Q pc ls (.inr 4 :: st) σ := w_get (k := 4) (j := 4) (v := .inr 54) rfl inTB4 rfl (by decide) (by rw [hM]; exact tw_227) (fun _ => rfl) hd h
theorem tw_404 : Cond.methodLink RX6 257 yX4_direction ∈ TB := tb_of 404 (by decide +kernel) (by decide +kernel)
theorem cv_X6_257 {M : MI} {d pc : Nat} {Q : Int → St → Prop} {ls : List (Option PV)} {st : List PV} {σ : St} {d' : Nat} {a1 : PV} (hM : M.1.cls = RX6) (hd : decode M.2.1 pc = .ok (.invokevirtual 257, 3)) (hdd : d' < d) (hst : st.length ≤ 8) (h : Wp mX4_direction d' (fun z τ => Wp M d Q (pc + 3) ls (.inl z :: st) τ) 0 [some (.inr 4), some a1] [] σ) : Wp M d Q pc ls (a1 :: .inr 4 :: st) σ := w_cv (M' := mX4_direction) (k := 4) (vs := [a1]) hd (by rw [hM]; exact tw_404) tw_405 tw_406 cw_X4_direction rfl rfl rfl (Nat.le_of_ble_eq_true rfl) hdd hst h
theorem tw_561 : Cond.methodLink RX6 260 yX4_days ∈ TB := tb_of 561 (by decide +kernel) (by decide +kernel)
theorem tw_562 : Cond.instanceMethod yX4_days ∈ TB := tb_of 562 (by decide +kernel) (by decide +kernel)
theorem tw_563 : Cond.selects RX4 yX4_days yX4_days ∈ TB := tb_of 563 (by decide +kernel) (by decide +kernel)
theorem cv_X6_260 {M : MI} {d pc : Nat} {Q : Int → St → Prop} {ls : List (Option PV)} {st : List PV} {σ : St} {d' : Nat} {a1 a2 a3 : PV} (hM : M.1.cls = RX6) (hd : decode M.2.1 pc = .ok (.invokevirtual 260, 3)) (hdd : d' < d) (hst : st.length ≤ 8) (h : Wp mX4_days d' (fun z τ => Wp M d Q (pc + 3) ls (.inl z :: st) τ) 0 [some (.inr 4), some a1, some a2, some a3, none, none, none] [] σ) : Wp M d Q pc ls (a3 :: a2 :: a1 :: .inr 4 :: st) σ := w_cv (M' := mX4_days) (k := 4) (vs := [a1, a2, a3]) hd (by rw [hM]; exact tw_561) tw_562 tw_563 cw_X4_days rfl rfl rfl (Nat.le_of_ble_eq_true rfl) hdd hst h
theorem tw_565 : Cond.methodLink RX6 264 yX4_trips ∈ TB := tb_of 565 (by decide +kernel) (by decide +kernel)
theorem tw_566 : Cond.instanceMethod yX4_trips ∈ TB := tb_of 566 (by decide +kernel) (by decide +kernel)
theorem tw_567 : Cond.selects RX4 yX4_trips yX4_trips ∈ TB := tb_of 567 (by decide +kernel) (by decide +kernel)
theorem cv_X6_264 {M : MI} {d pc : Nat} {Q : Int → St → Prop} {ls : List (Option PV)} {st : List PV} {σ : St} {d' : Nat} {a1 a2 : PV} (hM : M.1.cls = RX6) (hd : decode M.2.1 pc = .ok (.invokevirtual 264, 3)) (hdd : d' < d) (hst : st.length ≤ 8) (h : Wp mX4_trips d' (fun z τ => Wp M d Q (pc + 3) ls (.inl z :: st) τ) 0 [some (.inr 4), some a1, some a2, none, none] [] σ) : Wp M d Q pc ls (a2 :: a1 :: .inr 4 :: st) σ := w_cv (M' := mX4_trips) (k := 4) (vs := [a1, a2]) hd (by rw [hM]; exact tw_565) tw_566 tw_567 cw_X4_trips rfl rfl rfl (Nat.le_of_ble_eq_true rfl) hdd hst h
theorem tw_569 : Cond.methodLink RX6 267 yX4_takenAheadOf ∈ TB := tb_of 569 (by decide +kernel) (by decide +kernel)
theorem tw_570 : Cond.instanceMethod yX4_takenAheadOf ∈ TB := tb_of 570 (by decide +kernel) (by decide +kernel)
theorem tw_571 : Cond.selects RX4 yX4_takenAheadOf yX4_takenAheadOf ∈ TB := tb_of 571 (by decide +kernel) (by decide +kernel)
theorem cv_X6_267 {M : MI} {d pc : Nat} {Q : Int → St → Prop} {ls : List (Option PV)} {st : List PV} {σ : St} {d' : Nat} {a1 : PV} (hM : M.1.cls = RX6) (hd : decode M.2.1 pc = .ok (.invokevirtual 267, 3)) (hdd : d' < d) (hst : st.length ≤ 8) (h : Wp mX4_takenAheadOf d' (fun z τ => Wp M d Q (pc + 3) ls (.inl z :: st) τ) 0 [some (.inr 4), some a1, none, none] [] σ) : Wp M d Q pc ls (a1 :: .inr 4 :: st) σ := w_cv (M' := mX4_takenAheadOf) (k := 4) (vs := [a1]) hd (by rw [hM]; exact tw_569) tw_570 tw_571 cw_X4_takenAheadOf rfl rfl rfl (Nat.le_of_ble_eq_true rfl) hdd hst h
theorem tw_577 : Cond.methodLink RX6 270 yX4_widthsLeft ∈ TB := tb_of 577 (by decide +kernel) (by decide +kernel)
theorem tw_578 : Cond.instanceMethod yX4_widthsLeft ∈ TB := tb_of 578 (by decide +kernel) (by decide +kernel)
theorem tw_579 : Cond.selects RX4 yX4_widthsLeft yX4_widthsLeft ∈ TB := tb_of 579 (by decide +kernel) (by decide +kernel)
theorem cv_X6_270 {M : MI} {d pc : Nat} {Q : Int → St → Prop} {ls : List (Option PV)} {st : List PV} {σ : St} {d' : Nat} (hM : M.1.cls = RX6) (hd : decode M.2.1 pc = .ok (.invokevirtual 270, 3)) (hdd : d' < d) (hst : st.length ≤ 8) (h : Wp mX4_widthsLeft d' (fun z τ => Wp M d Q (pc + 3) ls (.inl z :: st) τ) 0 [some (.inr 4), none, none] [] σ) : Wp M d Q pc ls (.inr 4 :: st) σ := w_cv (M' := mX4_widthsLeft) (k := 4) (vs := []) hd (by rw [hM]; exact tw_577) tw_578 tw_579 cw_X4_widthsLeft rfl rfl rfl (Nat.le_of_ble_eq_true rfl) hdd hst h
theorem tw_581 : Cond.methodLink RX6 273 yX4_rightsLeft ∈ TB := tb_of 581 (by decide +kernel) (by decide +kernel)
theorem tw_582 : Cond.instanceMethod yX4_rightsLeft ∈ TB := tb_of 582 (by decide +kernel) (by decide +kernel)
theorem tw_583 : Cond.selects RX4 yX4_rightsLeft yX4_rightsLeft ∈ TB := tb_of 583 (by decide +kernel) (by decide +kernel)
theorem cv_X6_273 {M : MI} {d pc : Nat} {Q : Int → St → Prop} {ls : List (Option PV)} {st : List PV} {σ : St} {d' : Nat} (hM : M.1.cls = RX6) (hd : decode M.2.1 pc = .ok (.invokevirtual 273, 3)) (hdd : d' < d) (hst : st.length ≤ 8) (h : Wp mX4_rightsLeft d' (fun z τ => Wp M d Q (pc + 3) ls (.inl z :: st) τ) 0 [some (.inr 4), none, none] [] σ) : Wp M d Q pc ls (.inr 4 :: st) σ := w_cv (M' := mX4_rightsLeft) (k := 4) (vs := []) hd (by rw [hM]; exact tw_581) tw_582 tw_583 cw_X4_rightsLeft rfl rfl rfl (Nat.le_of_ble_eq_true rfl) hdd hst h
theorem tw_594 : Cond.methodLink RX6 276 yX3_read ∈ TB := tb_of 594 (by decide +kernel) (by decide +kernel)
theorem tw_595 : Cond.instanceMethod yX3_read ∈ TB := tb_of 595 (by decide +kernel) (by decide +kernel)
theorem tw_596 : Cond.selects RX3 yX3_read yX3_read ∈ TB := tb_of 596 (by decide +kernel) (by decide +kernel)
theorem cv_X6_276 {M : MI} {d pc : Nat} {Q : Int → St → Prop} {ls : List (Option PV)} {st : List PV} {σ : St} {d' : Nat} {a1 a2 : PV} (hM : M.1.cls = RX6) (hd : decode M.2.1 pc = .ok (.invokevirtual 276, 3)) (hdd : d' < d) (hst : st.length ≤ 8) (h : Wp mX3_read d' (fun z τ => Wp M d Q (pc + 3) ls (.inl z :: st) τ) 0 [some (.inr 3), some a1, some a2, none] [] σ) : Wp M d Q pc ls (a2 :: a1 :: .inr 3 :: st) σ := w_cv (M' := mX3_read) (k := 3) (vs := [a1, a2]) hd (by rw [hM]; exact tw_594) tw_595 tw_596 cw_X3_read rfl rfl rfl (Nat.le_of_ble_eq_true rfl) hdd hst h
theorem tw_223 : Cond.fieldLink RX6 279 "ShelfShift$Plan" "width" "[I" ∈ TB := tb_of 223 (by decide +kernel) (by decide +kernel)
theorem gf_X6_279 {M : MI} {d pc : Nat} {Q : Int → St → Prop} {ls : List (Option PV)} {st : List PV} {σ : St} (hM : M.1.cls = RX6) (hd : decode M.2.1 pc = .ok (.getfield 279, 3)) (h : Wp M d Q (pc + 3) ls (.inr 52 :: st) σ) : Wp M d Q pc ls (.inr 4 :: st) σ := w_get (k := 4) (j := 2) (v := .inr 52) rfl inTB4 rfl (by decide) (by rw [hM]; exact tw_223) (fun _ => rfl) hd h
theorem tw_415 : Cond.methodLink RX6 280 yX0_carry ∈ TB := tb_of 415 (by decide +kernel) (by decide +kernel)
theorem tw_416 : Cond.instanceMethod yX0_carry ∈ TB := tb_of 416 (by decide +kernel) (by decide +kernel)
theorem tw_417 : Cond.selects RX0 yX0_carry yX0_carry ∈ TB := tb_of 417 (by decide +kernel) (by decide +kernel)
theorem cv_X6_280 {M : MI} {d pc : Nat} {Q : Int → St → Prop} {ls : List (Option PV)} {st : List PV} {σ : St} {d' : Nat} {a1 a2 : PV} (hM : M.1.cls = RX6) (hd : decode M.2.1 pc = .ok (.invokevirtual 280, 3)) (hdd : d' < d) (hst : st.length ≤ 8) (h : Wp mX0_carry d' (fun z τ => Wp M d Q (pc + 3) ls (st) τ) 0 [some (.inr 0), some a1, some a2] [] σ) : Wp M d Q pc ls (a2 :: a1 :: .inr 0 :: st) σ := w_cv (M' := mX0_carry) (k := 0) (vs := [a1, a2]) hd (by rw [hM]; exact tw_415) tw_416 tw_417 cw_X0_carry rfl rfl rfl (Nat.le_of_ble_eq_true rfl) hdd hst h
theorem tw_419 : Cond.methodLink RX6 283 yX4_stepOn ∈ TB := tb_of 419 (by decide +kernel) (by decide +kernel)
theorem tw_420 : Cond.instanceMethod yX4_stepOn ∈ TB := tb_of 420 (by decide +kernel) (by decide +kernel)
theorem tw_421 : Cond.selects RX4 yX4_stepOn yX4_stepOn ∈ TB := tb_of 421 (by decide +kernel) (by decide +kernel)
theorem cv_X6_283 {M : MI} {d pc : Nat} {Q : Int → St → Prop} {ls : List (Option PV)} {st : List PV} {σ : St} {d' : Nat} (hM : M.1.cls = RX6) (hd : decode M.2.1 pc = .ok (.invokevirtual 283, 3)) (hdd : d' < d) (hst : st.length ≤ 8) (h : Wp mX4_stepOn d' (fun z τ => Wp M d Q (pc + 3) ls (st) τ) 0 [some (.inr 4)] [] σ) : Wp M d Q pc ls (.inr 4 :: st) σ := w_cv (M' := mX4_stepOn) (k := 4) (vs := []) hd (by rw [hM]; exact tw_419) tw_420 tw_421 cw_X4_stepOn rfl rfl rfl (Nat.le_of_ble_eq_true rfl) hdd hst h
theorem tw_720 : Cond.fieldLink RX7 68 "ShelfShiftModel" "raised" "I" ∈ TB := tb_of 720 (by decide +kernel) (by decide +kernel)
theorem gf_X7_68 {M : MI} {d pc : Nat} {Q : Int → St → Prop} {ls : List (Option PV)} {st : List PV} {σ : St} (hM : M.1.cls = RX7) (hd : decode M.2.1 pc = .ok (.getfield 68, 3)) (h : Wp M d Q (pc + 3) ls (.inl (σ 7 0) :: st) σ) : Wp M d Q pc ls (.inr 7 :: st) σ := w_get (k := 7) (j := 0) (v := .inl (σ 7 0)) rfl inTB7 rfl (by decide) (by rw [hM]; exact tw_720) (fun _ => rfl) hd h
theorem tw_721 : Cond.fieldLink RX7 71 "ShelfShiftModel" "shelves" "I" ∈ TB := tb_of 721 (by decide +kernel) (by decide +kernel)
theorem gf_X7_71 {M : MI} {d pc : Nat} {Q : Int → St → Prop} {ls : List (Option PV)} {st : List PV} {σ : St} (hM : M.1.cls = RX7) (hd : decode M.2.1 pc = .ok (.getfield 71, 3)) (h : Wp M d Q (pc + 3) ls (.inl (σ 7 1) :: st) σ) : Wp M d Q pc ls (.inr 7 :: st) σ := w_get (k := 7) (j := 1) (v := .inl (σ 7 1)) rfl inTB7 rfl (by decide) (by rw [hM]; exact tw_721) (fun _ => rfl) hd h
theorem tw_816 : Cond.methodLink RX7 74 yX7_isIn ∈ TB := tb_of 816 (by decide +kernel) (by decide +kernel)
theorem tw_817 : Cond.static yX7_isIn ∈ TB := tb_of 817 (by decide +kernel) (by decide +kernel)
theorem cv_X7_74 {M : MI} {d pc : Nat} {Q : Int → St → Prop} {ls : List (Option PV)} {st : List PV} {σ : St} {d' : Nat} {a1 a2 a3 : PV} (hM : M.1.cls = RX7) (hd : decode M.2.1 pc = .ok (.invokestatic 74, 3)) (hdd : d' < d) (hst : st.length ≤ 8) (h : Wp mX7_isIn d' (fun z τ => Wp M d Q (pc + 3) ls (.inl z :: st) τ) 0 [some a1, some a2, some a3] [] σ) : Wp M d Q pc ls (a3 :: a2 :: a1 :: st) σ := w_cs (M' := mX7_isIn) (vs := [a1, a2, a3]) hd (by rw [hM]; exact tw_816) tw_817 cw_X7_isIn (by rw [hM]; rfl) (Nat.le_of_ble_eq_true rfl) hdd hst h
theorem tw_724 : Cond.fieldLink RX7 78 "ShelfShiftModel" "groups" "I" ∈ TB := tb_of 724 (by decide +kernel) (by decide +kernel)
theorem gf_X7_78 {M : MI} {d pc : Nat} {Q : Int → St → Prop} {ls : List (Option PV)} {st : List PV} {σ : St} (hM : M.1.cls = RX7) (hd : decode M.2.1 pc = .ok (.getfield 78, 3)) (h : Wp M d Q (pc + 3) ls (.inl (σ 7 4) :: st) σ) : Wp M d Q pc ls (.inr 7 :: st) σ := w_get (k := 7) (j := 4) (v := .inl (σ 7 4)) rfl inTB7 rfl (by decide) (by rw [hM]; exact tw_724) (fun _ => rfl) hd h
theorem tw_726 : Cond.fieldLink RX7 81 "ShelfShiftModel" "books" "I" ∈ TB := tb_of 726 (by decide +kernel) (by decide +kernel)
theorem gf_X7_81 {M : MI} {d pc : Nat} {Q : Int → St → Prop} {ls : List (Option PV)} {st : List PV} {σ : St} (hM : M.1.cls = RX7) (hd : decode M.2.1 pc = .ok (.getfield 81, 3)) (h : Wp M d Q (pc + 3) ls (.inl (σ 7 6) :: st) σ) : Wp M d Q pc ls (.inr 7 :: st) σ := w_get (k := 7) (j := 6) (v := .inl (σ 7 6)) rfl inTB7 rfl (by decide) (by rw [hM]; exact tw_726) (fun _ => rfl) hd h
theorem tw_734 : Cond.fieldLink RX7 84 "ShelfShiftModel" "logMany" "I" ∈ TB := tb_of 734 (by decide +kernel) (by decide +kernel)
theorem gf_X7_84 {M : MI} {d pc : Nat} {Q : Int → St → Prop} {ls : List (Option PV)} {st : List PV} {σ : St} (hM : M.1.cls = RX7) (hd : decode M.2.1 pc = .ok (.getfield 84, 3)) (h : Wp M d Q (pc + 3) ls (.inl (σ 7 14) :: st) σ) : Wp M d Q pc ls (.inr 7 :: st) σ := w_get (k := 7) (j := 14) (v := .inl (σ 7 14)) rfl inTB7 rfl (by decide) (by rw [hM]; exact tw_734) (fun _ => rfl) hd h
theorem tw_733 : Cond.fieldLink RX7 35 "ShelfShiftModel" "logs" "[I" ∈ TB := tb_of 733 (by decide +kernel) (by decide +kernel)
theorem gf_X7_35 {M : MI} {d pc : Nat} {Q : Int → St → Prop} {ls : List (Option PV)} {st : List PV} {σ : St} (hM : M.1.cls = RX7) (hd : decode M.2.1 pc = .ok (.getfield 35, 3)) (h : Wp M d Q (pc + 3) ls (.inr 64 :: st) σ) : Wp M d Q pc ls (.inr 7 :: st) σ := w_get (k := 7) (j := 13) (v := .inr 64) rfl inTB7 rfl (by decide) (by rw [hM]; exact tw_733) (fun _ => rfl) hd h
theorem pf_X7_84 {M : MI} {d pc : Nat} {Q : Int → St → Prop} {ls : List (Option PV)} {st : List PV} {σ : St} {z : Int} (hM : M.1.cls = RX7) (hz : InR z) (hd : decode M.2.1 pc = .ok (.putfield 84, 3)) (h : Wp M d Q (pc + 3) ls st (put σ 7 14 z)) : Wp M d Q pc ls (.inl z :: .inr 7 :: st) σ := w_put (k := 7) (j := 14) (ty := .int) rfl inTB7 tyX7 tyX7_ok nmX7 rfl (by decide) rfl rfl (by rw [hM]; exact tw_734) (by decide +kernel) rfl rfl hz hd h
theorem tw_728 : Cond.fieldLink RX7 22 "ShelfShiftModel" "width" "[I" ∈ TB := tb_of 728 (by decide +kernel) (by decide +kernel)
theorem gf_X7_22 {M : MI} {d pc : Nat} {Q : Int → St → Prop} {ls : List (Option PV)} {st : List PV} {σ : St} (hM : M.1.cls = RX7) (hd : decode M.2.1 pc = .ok (.getfield 22, 3)) (h : Wp M d Q (pc + 3) ls (.inr 61 :: st) σ) : Wp M d Q pc ls (.inr 7 :: st) σ := w_get (k := 7) (j := 8) (v := .inr 61) rfl inTB7 rfl (by decide) (by rw [hM]; exact tw_728) (fun _ => rfl) hd h
theorem pf_X7_68 {M : MI} {d pc : Nat} {Q : Int → St → Prop} {ls : List (Option PV)} {st : List PV} {σ : St} {z : Int} (hM : M.1.cls = RX7) (hz : InR z) (hd : decode M.2.1 pc = .ok (.putfield 68, 3)) (h : Wp M d Q (pc + 3) ls st (put σ 7 0 z)) : Wp M d Q pc ls (.inl z :: .inr 7 :: st) σ := w_put (k := 7) (j := 0) (ty := .int) rfl inTB7 tyX7 tyX7_ok nmX7 rfl (by decide) rfl rfl (by rw [hM]; exact tw_720) (by decide +kernel) rfl rfl hz hd h
theorem tw_727 : Cond.fieldLink RX7 19 "ShelfShiftModel" "group" "[I" ∈ TB := tb_of 727 (by decide +kernel) (by decide +kernel)
theorem gf_X7_19 {M : MI} {d pc : Nat} {Q : Int → St → Prop} {ls : List (Option PV)} {st : List PV} {σ : St} (hM : M.1.cls = RX7) (hd : decode M.2.1 pc = .ok (.getfield 19, 3)) (h : Wp M d Q (pc + 3) ls (.inr 60 :: st) σ) : Wp M d Q pc ls (.inr 7 :: st) σ := w_get (k := 7) (j := 7) (v := .inr 60) rfl inTB7 rfl (by decide) (by rw [hM]; exact tw_727) (fun _ => rfl) hd h
theorem tw_838 : Cond.methodLink RX7 87 yX7_widthOf ∈ TB := tb_of 838 (by decide +kernel) (by decide +kernel)
theorem tw_840 : Cond.instanceMethod yX7_widthOf ∈ TB := tb_of 840 (by decide +kernel) (by decide +kernel)
theorem tw_24 : Cond.selects RX7 yX7_widthOf yX7_widthOf ∈ TB := tb_of 24 (by decide +kernel) (by decide +kernel)
theorem cv_X7_87 {M : MI} {d pc : Nat} {Q : Int → St → Prop} {ls : List (Option PV)} {st : List PV} {σ : St} {d' : Nat} {a1 : PV} (hM : M.1.cls = RX7) (hd : decode M.2.1 pc = .ok (.invokevirtual 87, 3)) (hdd : d' < d) (hst : st.length ≤ 8) (h : Wp mX7_widthOf d' (fun z τ => Wp M d Q (pc + 3) ls (.inl z :: st) τ) 0 [some (.inr 7), some a1, none, none] [] σ) : Wp M d Q pc ls (a1 :: .inr 7 :: st) σ := w_cv (M' := mX7_widthOf) (k := 7) (vs := [a1]) hd (by rw [hM]; exact tw_838) tw_840 tw_24 cw_X7_widthOf rfl rfl rfl (Nat.le_of_ble_eq_true rfl) hdd hst h
theorem tw_725 : Cond.fieldLink RX7 16 "ShelfShiftModel" "growth" "[I" ∈ TB := tb_of 725 (by decide +kernel) (by decide +kernel)
theorem gf_X7_16 {M : MI} {d pc : Nat} {Q : Int → St → Prop} {ls : List (Option PV)} {st : List PV} {σ : St} (hM : M.1.cls = RX7) (hd : decode M.2.1 pc = .ok (.getfield 16, 3)) (h : Wp M d Q (pc + 3) ls (.inr 59 :: st) σ) : Wp M d Q pc ls (.inr 7 :: st) σ := w_get (k := 7) (j := 5) (v := .inr 59) rfl inTB7 rfl (by decide) (by rw [hM]; exact tw_725) (fun _ => rfl) hd h
theorem tw_735 : Cond.fieldLink RX7 38 "ShelfShiftModel" "need" "[I" ∈ TB := tb_of 735 (by decide +kernel) (by decide +kernel)
theorem gf_X7_38 {M : MI} {d pc : Nat} {Q : Int → St → Prop} {ls : List (Option PV)} {st : List PV} {σ : St} (hM : M.1.cls = RX7) (hd : decode M.2.1 pc = .ok (.getfield 38, 3)) (h : Wp M d Q (pc + 3) ls (.inr 65 :: st) σ) : Wp M d Q pc ls (.inr 7 :: st) σ := w_get (k := 7) (j := 15) (v := .inr 65) rfl inTB7 rfl (by decide) (by rw [hM]; exact tw_735) (fun _ => rfl) hd h
theorem tw_736 : Cond.fieldLink RX7 41 "ShelfShiftModel" "lost" "[I" ∈ TB := tb_of 736 (by decide +kernel) (by decide +kernel)
theorem gf_X7_41 {M : MI} {d pc : Nat} {Q : Int → St → Prop} {ls : List (Option PV)} {st : List PV} {σ : St} (hM : M.1.cls = RX7) (hd : decode M.2.1 pc = .ok (.getfield 41, 3)) (h : Wp M d Q (pc + 3) ls (.inr 66 :: st) σ) : Wp M d Q pc ls (.inr 7 :: st) σ := w_get (k := 7) (j := 16) (v := .inr 66) rfl inTB7 rfl (by decide) (by rw [hM]; exact tw_736) (fun _ => rfl) hd h
theorem tw_729 : Cond.fieldLink RX7 25 "ShelfShiftModel" "shelf" "[I" ∈ TB := tb_of 729 (by decide +kernel) (by decide +kernel)
theorem gf_X7_25 {M : MI} {d pc : Nat} {Q : Int → St → Prop} {ls : List (Option PV)} {st : List PV} {σ : St} (hM : M.1.cls = RX7) (hd : decode M.2.1 pc = .ok (.getfield 25, 3)) (h : Wp M d Q (pc + 3) ls (.inr 62 :: st) σ) : Wp M d Q pc ls (.inr 7 :: st) σ := w_get (k := 7) (j := 9) (v := .inr 62) rfl inTB7 rfl (by decide) (by rw [hM]; exact tw_729) (fun _ => rfl) hd h
theorem tw_834 : Cond.methodLink RX7 91 yX7_laysNeeds ∈ TB := tb_of 834 (by decide +kernel) (by decide +kernel)
theorem tw_836 : Cond.instanceMethod yX7_laysNeeds ∈ TB := tb_of 836 (by decide +kernel) (by decide +kernel)
theorem tw_23 : Cond.selects RX7 yX7_laysNeeds yX7_laysNeeds ∈ TB := tb_of 23 (by decide +kernel) (by decide +kernel)
theorem cv_X7_91 {M : MI} {d pc : Nat} {Q : Int → St → Prop} {ls : List (Option PV)} {st : List PV} {σ : St} {d' : Nat} (hM : M.1.cls = RX7) (hd : decode M.2.1 pc = .ok (.invokevirtual 91, 3)) (hdd : d' < d) (hst : st.length ≤ 8) (h : Wp mX7_laysNeeds d' (fun z τ => Wp M d Q (pc + 3) ls (st) τ) 0 [some (.inr 7), none, none, none, none, none] [] σ) : Wp M d Q pc ls (.inr 7 :: st) σ := w_cv (M' := mX7_laysNeeds) (k := 7) (vs := []) hd (by rw [hM]; exact tw_834) tw_836 tw_23 cw_X7_laysNeeds rfl rfl rfl (Nat.le_of_ble_eq_true rfl) hdd hst h
theorem tw_1024 : Cond.methodLink RX7 94 yX7_rateOf ∈ TB := tb_of 1024 (by decide +kernel) (by decide +kernel)
theorem tw_1026 : Cond.instanceMethod yX7_rateOf ∈ TB := tb_of 1026 (by decide +kernel) (by decide +kernel)
theorem tw_50 : Cond.selects RX7 yX7_rateOf yX7_rateOf ∈ TB := tb_of 50 (by decide +kernel) (by decide +kernel)
theorem cv_X7_94 {M : MI} {d pc : Nat} {Q : Int → St → Prop} {ls : List (Option PV)} {st : List PV} {σ : St} {d' : Nat} {a1 : PV} (hM : M.1.cls = RX7) (hd : decode M.2.1 pc = .ok (.invokevirtual 94, 3)) (hdd : d' < d) (hst : st.length ≤ 8) (h : Wp mX7_rateOf d' (fun z τ => Wp M d Q (pc + 3) ls (.inl z :: st) τ) 0 [some (.inr 7), some a1, none, none] [] σ) : Wp M d Q pc ls (a1 :: .inr 7 :: st) σ := w_cv (M' := mX7_rateOf) (k := 7) (vs := [a1]) hd (by rw [hM]; exact tw_1024) tw_1026 tw_50 cw_X7_rateOf rfl rfl rfl (Nat.le_of_ble_eq_true rfl) hdd hst h
theorem tw_722 : Cond.fieldLink RX7 7 "ShelfShiftModel" "length" "[I" ∈ TB := tb_of 722 (by decide +kernel) (by decide +kernel)
theorem gf_X7_7 {M : MI} {d pc : Nat} {Q : Int → St → Prop} {ls : List (Option PV)} {st : List PV} {σ : St} (hM : M.1.cls = RX7) (hd : decode M.2.1 pc = .ok (.getfield 7, 3)) (h : Wp M d Q (pc + 3) ls (.inr 57 :: st) σ) : Wp M d Q pc ls (.inr 7 :: st) σ := w_get (k := 7) (j := 2) (v := .inr 57) rfl inTB7 rfl (by decide) (by rw [hM]; exact tw_722) (fun _ => rfl) hd h
theorem tw_1020 : Cond.methodLink RX7 97 yX7_loadOf ∈ TB := tb_of 1020 (by decide +kernel) (by decide +kernel)
theorem tw_1022 : Cond.instanceMethod yX7_loadOf ∈ TB := tb_of 1022 (by decide +kernel) (by decide +kernel)
theorem tw_49 : Cond.selects RX7 yX7_loadOf yX7_loadOf ∈ TB := tb_of 49 (by decide +kernel) (by decide +kernel)
theorem cv_X7_97 {M : MI} {d pc : Nat} {Q : Int → St → Prop} {ls : List (Option PV)} {st : List PV} {σ : St} {d' : Nat} {a1 : PV} (hM : M.1.cls = RX7) (hd : decode M.2.1 pc = .ok (.invokevirtual 97, 3)) (hdd : d' < d) (hst : st.length ≤ 8) (h : Wp mX7_loadOf d' (fun z τ => Wp M d Q (pc + 3) ls (.inl z :: st) τ) 0 [some (.inr 7), some a1, none, none] [] σ) : Wp M d Q pc ls (a1 :: .inr 7 :: st) σ := w_cv (M' := mX7_loadOf) (k := 7) (vs := [a1]) hd (by rw [hM]; exact tw_1020) tw_1022 tw_49 cw_X7_loadOf rfl rfl rfl (Nat.le_of_ble_eq_true rfl) hdd hst h
theorem tw_723 : Cond.fieldLink RX7 13 "ShelfShiftModel" "kind" "[I" ∈ TB := tb_of 723 (by decide +kernel) (by decide +kernel)
theorem gf_X7_13 {M : MI} {d pc : Nat} {Q : Int → St → Prop} {ls : List (Option PV)} {st : List PV} {σ : St} (hM : M.1.cls = RX7) (hd : decode M.2.1 pc = .ok (.getfield 13, 3)) (h : Wp M d Q (pc + 3) ls (.inr 58 :: st) σ) : Wp M d Q pc ls (.inr 7 :: st) σ := w_get (k := 7) (j := 3) (v := .inr 58) rfl inTB7 rfl (by decide) (by rw [hM]; exact tw_723) (fun _ => rfl) hd h
theorem tw_859 : Cond.constant RX7 100 (Int32.ofInt 1000000) ∈ TB := tb_of 859 (by decide +kernel) (by decide +kernel)
theorem tw_739 : Cond.fieldLink RX7 50 "ShelfShiftModel" "takes" "[I" ∈ TB := tb_of 739 (by decide +kernel) (by decide +kernel)
theorem gf_X7_50 {M : MI} {d pc : Nat} {Q : Int → St → Prop} {ls : List (Option PV)} {st : List PV} {σ : St} (hM : M.1.cls = RX7) (hd : decode M.2.1 pc = .ok (.getfield 50, 3)) (h : Wp M d Q (pc + 3) ls (.inr 69 :: st) σ) : Wp M d Q pc ls (.inr 7 :: st) σ := w_get (k := 7) (j := 19) (v := .inr 69) rfl inTB7 rfl (by decide) (by rw [hM]; exact tw_739) (fun _ => rfl) hd h
theorem tw_737 : Cond.fieldLink RX7 44 "ShelfShiftModel" "least" "[I" ∈ TB := tb_of 737 (by decide +kernel) (by decide +kernel)
theorem gf_X7_44 {M : MI} {d pc : Nat} {Q : Int → St → Prop} {ls : List (Option PV)} {st : List PV} {σ : St} (hM : M.1.cls = RX7) (hd : decode M.2.1 pc = .ok (.getfield 44, 3)) (h : Wp M d Q (pc + 3) ls (.inr 67 :: st) σ) : Wp M d Q pc ls (.inr 7 :: st) σ := w_get (k := 7) (j := 17) (v := .inr 67) rfl inTB7 rfl (by decide) (by rw [hM]; exact tw_737) (fun _ => rfl) hd h
theorem tw_842 : Cond.methodLink RX7 101 yX7_cell ∈ TB := tb_of 842 (by decide +kernel) (by decide +kernel)
theorem tw_844 : Cond.instanceMethod yX7_cell ∈ TB := tb_of 844 (by decide +kernel) (by decide +kernel)
theorem tw_25 : Cond.selects RX7 yX7_cell yX7_cell ∈ TB := tb_of 25 (by decide +kernel) (by decide +kernel)
theorem cv_X7_101 {M : MI} {d pc : Nat} {Q : Int → St → Prop} {ls : List (Option PV)} {st : List PV} {σ : St} {d' : Nat} {a1 a2 : PV} (hM : M.1.cls = RX7) (hd : decode M.2.1 pc = .ok (.invokevirtual 101, 3)) (hdd : d' < d) (hst : st.length ≤ 8) (h : Wp mX7_cell d' (fun z τ => Wp M d Q (pc + 3) ls (.inl z :: st) τ) 0 [some (.inr 7), some a1, some a2] [] σ) : Wp M d Q pc ls (a2 :: a1 :: .inr 7 :: st) σ := w_cv (M' := mX7_cell) (k := 7) (vs := [a1, a2]) hd (by rw [hM]; exact tw_842) tw_844 tw_25 cw_X7_cell rfl rfl rfl (Nat.le_of_ble_eq_true rfl) hdd hst h
theorem tw_846 : Cond.constant RX7 105 (Int32.ofInt 1000000000) ∈ TB := tb_of 846 (by decide +kernel) (by decide +kernel)
theorem tw_847 : Cond.methodLink RX7 106 yX7_laysLeast ∈ TB := tb_of 847 (by decide +kernel) (by decide +kernel)
theorem tw_849 : Cond.instanceMethod yX7_laysLeast ∈ TB := tb_of 849 (by decide +kernel) (by decide +kernel)
theorem tw_26 : Cond.selects RX7 yX7_laysLeast yX7_laysLeast ∈ TB := tb_of 26 (by decide +kernel) (by decide +kernel)
theorem cv_X7_106 {M : MI} {d pc : Nat} {Q : Int → St → Prop} {ls : List (Option PV)} {st : List PV} {σ : St} {d' : Nat} {a1 a2 : PV} (hM : M.1.cls = RX7) (hd : decode M.2.1 pc = .ok (.invokevirtual 106, 3)) (hdd : d' < d) (hst : st.length ≤ 8) (h : Wp mX7_laysLeast d' (fun z τ => Wp M d Q (pc + 3) ls (st) τ) 0 [some (.inr 7), some a1, some a2, none, none, none] [] σ) : Wp M d Q pc ls (a2 :: a1 :: .inr 7 :: st) σ := w_cv (M' := mX7_laysLeast) (k := 7) (vs := [a1, a2]) hd (by rw [hM]; exact tw_847) tw_849 tw_26 cw_X7_laysLeast rfl rfl rfl (Nat.le_of_ble_eq_true rfl) hdd hst h
theorem tw_851 : Cond.methodLink RX7 110 yX7_mostOn ∈ TB := tb_of 851 (by decide +kernel) (by decide +kernel)
theorem tw_853 : Cond.instanceMethod yX7_mostOn ∈ TB := tb_of 853 (by decide +kernel) (by decide +kernel)
theorem tw_27 : Cond.selects RX7 yX7_mostOn yX7_mostOn ∈ TB := tb_of 27 (by decide +kernel) (by decide +kernel)
theorem cv_X7_110 {M : MI} {d pc : Nat} {Q : Int → St → Prop} {ls : List (Option PV)} {st : List PV} {σ : St} {d' : Nat} {a1 a2 : PV} (hM : M.1.cls = RX7) (hd : decode M.2.1 pc = .ok (.invokevirtual 110, 3)) (hdd : d' < d) (hst : st.length ≤ 8) (h : Wp mX7_mostOn d' (fun z τ => Wp M d Q (pc + 3) ls (.inl z :: st) τ) 0 [some (.inr 7), some a1, some a2, none, none] [] σ) : Wp M d Q pc ls (a2 :: a1 :: .inr 7 :: st) σ := w_cv (M' := mX7_mostOn) (k := 7) (vs := [a1, a2]) hd (by rw [hM]; exact tw_851) tw_853 tw_27 cw_X7_mostOn rfl rfl rfl (Nat.le_of_ble_eq_true rfl) hdd hst h
theorem tw_855 : Cond.methodLink RX7 113 yX7_costOf ∈ TB := tb_of 855 (by decide +kernel) (by decide +kernel)
theorem tw_857 : Cond.instanceMethod yX7_costOf ∈ TB := tb_of 857 (by decide +kernel) (by decide +kernel)
theorem tw_28 : Cond.selects RX7 yX7_costOf yX7_costOf ∈ TB := tb_of 28 (by decide +kernel) (by decide +kernel)
theorem cv_X7_113 {M : MI} {d pc : Nat} {Q : Int → St → Prop} {ls : List (Option PV)} {st : List PV} {σ : St} {d' : Nat} {a1 a2 a3 : PV} (hM : M.1.cls = RX7) (hd : decode M.2.1 pc = .ok (.invokevirtual 113, 3)) (hdd : d' < d) (hst : st.length ≤ 8) (h : Wp mX7_costOf d' (fun z τ => Wp M d Q (pc + 3) ls (.inl z :: st) τ) 0 [some (.inr 7), some a1, some a2, some a3, none, none] [] σ) : Wp M d Q pc ls (a3 :: a2 :: a1 :: .inr 7 :: st) σ := w_cv (M' := mX7_costOf) (k := 7) (vs := [a1, a2, a3]) hd (by rw [hM]; exact tw_855) tw_857 tw_28 cw_X7_costOf rfl rfl rfl (Nat.le_of_ble_eq_true rfl) hdd hst h
theorem tw_738 : Cond.fieldLink RX7 47 "ShelfShiftModel" "cutMany" "[I" ∈ TB := tb_of 738 (by decide +kernel) (by decide +kernel)
theorem gf_X7_47 {M : MI} {d pc : Nat} {Q : Int → St → Prop} {ls : List (Option PV)} {st : List PV} {σ : St} (hM : M.1.cls = RX7) (hd : decode M.2.1 pc = .ok (.getfield 47, 3)) (h : Wp M d Q (pc + 3) ls (.inr 68 :: st) σ) : Wp M d Q pc ls (.inr 7 :: st) σ := w_get (k := 7) (j := 18) (v := .inr 68) rfl inTB7 rfl (by decide) (by rw [hM]; exact tw_738) (fun _ => rfl) hd h
theorem tw_823 : Cond.methodLink RX7 117 yX7_isShelf ∈ TB := tb_of 823 (by decide +kernel) (by decide +kernel)
theorem tw_825 : Cond.instanceMethod yX7_isShelf ∈ TB := tb_of 825 (by decide +kernel) (by decide +kernel)
theorem tw_21 : Cond.selects RX7 yX7_isShelf yX7_isShelf ∈ TB := tb_of 21 (by decide +kernel) (by decide +kernel)
theorem cv_X7_117 {M : MI} {d pc : Nat} {Q : Int → St → Prop} {ls : List (Option PV)} {st : List PV} {σ : St} {d' : Nat} {a1 : PV} (hM : M.1.cls = RX7) (hd : decode M.2.1 pc = .ok (.invokevirtual 117, 3)) (hdd : d' < d) (hst : st.length ≤ 8) (h : Wp mX7_isShelf d' (fun z τ => Wp M d Q (pc + 3) ls (.inl z :: st) τ) 0 [some (.inr 7), some a1] [] σ) : Wp M d Q pc ls (a1 :: .inr 7 :: st) σ := w_cv (M' := mX7_isShelf) (k := 7) (vs := [a1]) hd (by rw [hM]; exact tw_823) tw_825 tw_21 cw_X7_isShelf rfl rfl rfl (Nat.le_of_ble_eq_true rfl) hdd hst h
theorem tw_827 : Cond.methodLink RX7 121 yX7_isYears ∈ TB := tb_of 827 (by decide +kernel) (by decide +kernel)
theorem tw_828 : Cond.static yX7_isYears ∈ TB := tb_of 828 (by decide +kernel) (by decide +kernel)
theorem cv_X7_121 {M : MI} {d pc : Nat} {Q : Int → St → Prop} {ls : List (Option PV)} {st : List PV} {σ : St} {d' : Nat} {a1 : PV} (hM : M.1.cls = RX7) (hd : decode M.2.1 pc = .ok (.invokestatic 121, 3)) (hdd : d' < d) (hst : st.length ≤ 8) (h : Wp mX7_isYears d' (fun z τ => Wp M d Q (pc + 3) ls (.inl z :: st) τ) 0 [some a1] [] σ) : Wp M d Q pc ls (a1 :: st) σ := w_cs (M' := mX7_isYears) (vs := [a1]) hd (by rw [hM]; exact tw_827) tw_828 cw_X7_isYears (by rw [hM]; rfl) (Nat.le_of_ble_eq_true rfl) hdd hst h
theorem tw_830 : Cond.methodLink RX7 124 yX7_cuts ∈ TB := tb_of 830 (by decide +kernel) (by decide +kernel)
theorem tw_832 : Cond.instanceMethod yX7_cuts ∈ TB := tb_of 832 (by decide +kernel) (by decide +kernel)
theorem tw_22 : Cond.selects RX7 yX7_cuts yX7_cuts ∈ TB := tb_of 22 (by decide +kernel) (by decide +kernel)
theorem cv_X7_124 {M : MI} {d pc : Nat} {Q : Int → St → Prop} {ls : List (Option PV)} {st : List PV} {σ : St} {d' : Nat} {a1 : PV} (hM : M.1.cls = RX7) (hd : decode M.2.1 pc = .ok (.invokevirtual 124, 3)) (hdd : d' < d) (hst : st.length ≤ 8) (h : Wp mX7_cuts d' (fun z τ => Wp M d Q (pc + 3) ls (.inl z :: st) τ) 0 [some (.inr 7), some a1, none, none, none] [] σ) : Wp M d Q pc ls (a1 :: .inr 7 :: st) σ := w_cv (M' := mX7_cuts) (k := 7) (vs := [a1]) hd (by rw [hM]; exact tw_830) tw_832 tw_22 cw_X7_cuts rfl rfl rfl (Nat.le_of_ble_eq_true rfl) hdd hst h
theorem tw_868 : Cond.methodLink RX7 127 yX7_fits ∈ TB := tb_of 868 (by decide +kernel) (by decide +kernel)
theorem tw_870 : Cond.instanceMethod yX7_fits ∈ TB := tb_of 870 (by decide +kernel) (by decide +kernel)
theorem tw_29 : Cond.selects RX7 yX7_fits yX7_fits ∈ TB := tb_of 29 (by decide +kernel) (by decide +kernel)
theorem cv_X7_127 {M : MI} {d pc : Nat} {Q : Int → St → Prop} {ls : List (Option PV)} {st : List PV} {σ : St} {d' : Nat} {a1 a2 : PV} (hM : M.1.cls = RX7) (hd : decode M.2.1 pc = .ok (.invokevirtual 127, 3)) (hdd : d' < d) (hst : st.length ≤ 8) (h : Wp mX7_fits d' (fun z τ => Wp M d Q (pc + 3) ls (.inl z :: st) τ) 0 [some (.inr 7), some a1, some a2, none, none, none] [] σ) : Wp M d Q pc ls (a2 :: a1 :: .inr 7 :: st) σ := w_cv (M' := mX7_fits) (k := 7) (vs := [a1, a2]) hd (by rw [hM]; exact tw_868) tw_870 tw_29 cw_X7_fits rfl rfl rfl (Nat.le_of_ble_eq_true rfl) hdd hst h
theorem tw_730 : Cond.fieldLink RX7 28 "ShelfShiftModel" "handled" "[I" ∈ TB := tb_of 730 (by decide +kernel) (by decide +kernel)
theorem gf_X7_28 {M : MI} {d pc : Nat} {Q : Int → St → Prop} {ls : List (Option PV)} {st : List PV} {σ : St} (hM : M.1.cls = RX7) (hd : decode M.2.1 pc = .ok (.getfield 28, 3)) (h : Wp M d Q (pc + 3) ls (.inr 63 :: st) σ) : Wp M d Q pc ls (.inr 7 :: st) σ := w_get (k := 7) (j := 10) (v := .inr 63) rfl inTB7 rfl (by decide) (by rw [hM]; exact tw_730) (fun _ => rfl) hd h
theorem pf_X7_81 {M : MI} {d pc : Nat} {Q : Int → St → Prop} {ls : List (Option PV)} {st : List PV} {σ : St} {z : Int} (hM : M.1.cls = RX7) (hz : InR z) (hd : decode M.2.1 pc = .ok (.putfield 81, 3)) (h : Wp M d Q (pc + 3) ls st (put σ 7 6 z)) : Wp M d Q pc ls (.inl z :: .inr 7 :: st) σ := w_put (k := 7) (j := 6) (ty := .int) rfl inTB7 tyX7 tyX7_ok nmX7 rfl (by decide) rfl rfl (by rw [hM]; exact tw_726) (by decide +kernel) rfl rfl hz hd h
theorem tw_892 : Cond.methodLink RX7 131 yX7_opens ∈ TB := tb_of 892 (by decide +kernel) (by decide +kernel)
theorem tw_894 : Cond.instanceMethod yX7_opens ∈ TB := tb_of 894 (by decide +kernel) (by decide +kernel)
theorem tw_33 : Cond.selects RX7 yX7_opens yX7_opens ∈ TB := tb_of 33 (by decide +kernel) (by decide +kernel)
theorem cv_X7_131 {M : MI} {d pc : Nat} {Q : Int → St → Prop} {ls : List (Option PV)} {st : List PV} {σ : St} {d' : Nat} {a1 : PV} (hM : M.1.cls = RX7) (hd : decode M.2.1 pc = .ok (.invokevirtual 131, 3)) (hdd : d' < d) (hst : st.length ≤ 8) (h : Wp mX7_opens d' (fun z τ => Wp M d Q (pc + 3) ls (st) τ) 0 [some (.inr 7), some a1, none] [] σ) : Wp M d Q pc ls (a1 :: .inr 7 :: st) σ := w_cv (M' := mX7_opens) (k := 7) (vs := [a1]) hd (by rw [hM]; exact tw_892) tw_894 tw_33 cw_X7_opens rfl rfl rfl (Nat.le_of_ble_eq_true rfl) hdd hst h
theorem tw_740 : Cond.fieldLink RX7 53 "ShelfShiftModel" "goal" "[I" ∈ TB := tb_of 740 (by decide +kernel) (by decide +kernel)
theorem gf_X7_53 {M : MI} {d pc : Nat} {Q : Int → St → Prop} {ls : List (Option PV)} {st : List PV} {σ : St} (hM : M.1.cls = RX7) (hd : decode M.2.1 pc = .ok (.getfield 53, 3)) (h : Wp M d Q (pc + 3) ls (.inr 70 :: st) σ) : Wp M d Q pc ls (.inr 7 :: st) σ := w_get (k := 7) (j := 20) (v := .inr 70) rfl inTB7 rfl (by decide) (by rw [hM]; exact tw_740) (fun _ => rfl) hd h
theorem tw_880 : Cond.methodLink RX7 135 yX7_isGroup ∈ TB := tb_of 880 (by decide +kernel) (by decide +kernel)
theorem tw_882 : Cond.instanceMethod yX7_isGroup ∈ TB := tb_of 882 (by decide +kernel) (by decide +kernel)
theorem tw_30 : Cond.selects RX7 yX7_isGroup yX7_isGroup ∈ TB := tb_of 30 (by decide +kernel) (by decide +kernel)
theorem cv_X7_135 {M : MI} {d pc : Nat} {Q : Int → St → Prop} {ls : List (Option PV)} {st : List PV} {σ : St} {d' : Nat} {a1 : PV} (hM : M.1.cls = RX7) (hd : decode M.2.1 pc = .ok (.invokevirtual 135, 3)) (hdd : d' < d) (hst : st.length ≤ 8) (h : Wp mX7_isGroup d' (fun z τ => Wp M d Q (pc + 3) ls (.inl z :: st) τ) 0 [some (.inr 7), some a1] [] σ) : Wp M d Q pc ls (a1 :: .inr 7 :: st) σ := w_cv (M' := mX7_isGroup) (k := 7) (vs := [a1]) hd (by rw [hM]; exact tw_880) tw_882 tw_30 cw_X7_isGroup rfl rfl rfl (Nat.le_of_ble_eq_true rfl) hdd hst h
theorem tw_884 : Cond.methodLink RX7 138 yX7_behind ∈ TB := tb_of 884 (by decide +kernel) (by decide +kernel)
theorem tw_886 : Cond.instanceMethod yX7_behind ∈ TB := tb_of 886 (by decide +kernel) (by decide +kernel)
theorem tw_31 : Cond.selects RX7 yX7_behind yX7_behind ∈ TB := tb_of 31 (by decide +kernel) (by decide +kernel)
theorem cv_X7_138 {M : MI} {d pc : Nat} {Q : Int → St → Prop} {ls : List (Option PV)} {st : List PV} {σ : St} {d' : Nat} {a1 : PV} (hM : M.1.cls = RX7) (hd : decode M.2.1 pc = .ok (.invokevirtual 138, 3)) (hdd : d' < d) (hst : st.length ≤ 8) (h : Wp mX7_behind d' (fun z τ => Wp M d Q (pc + 3) ls (.inl z :: st) τ) 0 [some (.inr 7), some a1, none] [] σ) : Wp M d Q pc ls (a1 :: .inr 7 :: st) σ := w_cv (M' := mX7_behind) (k := 7) (vs := [a1]) hd (by rw [hM]; exact tw_884) tw_886 tw_31 cw_X7_behind rfl rfl rfl (Nat.le_of_ble_eq_true rfl) hdd hst h
theorem tw_888 : Cond.methodLink RX7 141 yX7_comes ∈ TB := tb_of 888 (by decide +kernel) (by decide +kernel)
theorem tw_890 : Cond.instanceMethod yX7_comes ∈ TB := tb_of 890 (by decide +kernel) (by decide +kernel)
theorem tw_32 : Cond.selects RX7 yX7_comes yX7_comes ∈ TB := tb_of 32 (by decide +kernel) (by decide +kernel)
theorem cv_X7_141 {M : MI} {d pc : Nat} {Q : Int → St → Prop} {ls : List (Option PV)} {st : List PV} {σ : St} {d' : Nat} {a1 a2 a3 : PV} (hM : M.1.cls = RX7) (hd : decode M.2.1 pc = .ok (.invokevirtual 141, 3)) (hdd : d' < d) (hst : st.length ≤ 8) (h : Wp mX7_comes d' (fun z τ => Wp M d Q (pc + 3) ls (st) τ) 0 [some (.inr 7), some a1, some a2, some a3] [] σ) : Wp M d Q pc ls (a3 :: a2 :: a1 :: .inr 7 :: st) σ := w_cv (M' := mX7_comes) (k := 7) (vs := [a1, a2, a3]) hd (by rw [hM]; exact tw_888) tw_890 tw_32 cw_X7_comes rfl rfl rfl (Nat.le_of_ble_eq_true rfl) hdd hst h
theorem tw_896 : Cond.methodLink RX7 145 yX7_closes ∈ TB := tb_of 896 (by decide +kernel) (by decide +kernel)
theorem tw_898 : Cond.instanceMethod yX7_closes ∈ TB := tb_of 898 (by decide +kernel) (by decide +kernel)
theorem tw_34 : Cond.selects RX7 yX7_closes yX7_closes ∈ TB := tb_of 34 (by decide +kernel) (by decide +kernel)
theorem cv_X7_145 {M : MI} {d pc : Nat} {Q : Int → St → Prop} {ls : List (Option PV)} {st : List PV} {σ : St} {d' : Nat} {a1 : PV} (hM : M.1.cls = RX7) (hd : decode M.2.1 pc = .ok (.invokevirtual 145, 3)) (hdd : d' < d) (hst : st.length ≤ 8) (h : Wp mX7_closes d' (fun z τ => Wp M d Q (pc + 3) ls (st) τ) 0 [some (.inr 7), some a1, none] [] σ) : Wp M d Q pc ls (a1 :: .inr 7 :: st) σ := w_cv (M' := mX7_closes) (k := 7) (vs := [a1]) hd (by rw [hM]; exact tw_896) tw_898 tw_34 cw_X7_closes rfl rfl rfl (Nat.le_of_ble_eq_true rfl) hdd hst h
theorem tw_900 : Cond.methodLink RX7 148 yX7_laysGoals ∈ TB := tb_of 900 (by decide +kernel) (by decide +kernel)
theorem tw_902 : Cond.instanceMethod yX7_laysGoals ∈ TB := tb_of 902 (by decide +kernel) (by decide +kernel)
theorem tw_35 : Cond.selects RX7 yX7_laysGoals yX7_laysGoals ∈ TB := tb_of 35 (by decide +kernel) (by decide +kernel)
theorem cv_X7_148 {M : MI} {d pc : Nat} {Q : Int → St → Prop} {ls : List (Option PV)} {st : List PV} {σ : St} {d' : Nat} (hM : M.1.cls = RX7) (hd : decode M.2.1 pc = .ok (.invokevirtual 148, 3)) (hdd : d' < d) (hst : st.length ≤ 8) (h : Wp mX7_laysGoals d' (fun z τ => Wp M d Q (pc + 3) ls (st) τ) 0 [some (.inr 7), none, none, none] [] σ) : Wp M d Q pc ls (.inr 7 :: st) σ := w_cv (M' := mX7_laysGoals) (k := 7) (vs := []) hd (by rw [hM]; exact tw_900) tw_902 tw_35 cw_X7_laysGoals rfl rfl rfl (Nat.le_of_ble_eq_true rfl) hdd hst h
theorem tw_904 : Cond.methodLink RX7 151 yX7_ends ∈ TB := tb_of 904 (by decide +kernel) (by decide +kernel)
theorem tw_906 : Cond.instanceMethod yX7_ends ∈ TB := tb_of 906 (by decide +kernel) (by decide +kernel)
theorem tw_36 : Cond.selects RX7 yX7_ends yX7_ends ∈ TB := tb_of 36 (by decide +kernel) (by decide +kernel)
theorem cv_X7_151 {M : MI} {d pc : Nat} {Q : Int → St → Prop} {ls : List (Option PV)} {st : List PV} {σ : St} {d' : Nat} (hM : M.1.cls = RX7) (hd : decode M.2.1 pc = .ok (.invokevirtual 151, 3)) (hdd : d' < d) (hst : st.length ≤ 8) (h : Wp mX7_ends d' (fun z τ => Wp M d Q (pc + 3) ls (st) τ) 0 [some (.inr 7)] [] σ) : Wp M d Q pc ls (.inr 7 :: st) σ := w_cv (M' := mX7_ends) (k := 7) (vs := []) hd (by rw [hM]; exact tw_904) tw_906 tw_36 cw_X7_ends rfl rfl rfl (Nat.le_of_ble_eq_true rfl) hdd hst h
theorem tw_908 : Cond.methodLink RX7 154 yX7_moves ∈ TB := tb_of 908 (by decide +kernel) (by decide +kernel)
theorem tw_910 : Cond.instanceMethod yX7_moves ∈ TB := tb_of 910 (by decide +kernel) (by decide +kernel)
theorem tw_37 : Cond.selects RX7 yX7_moves yX7_moves ∈ TB := tb_of 37 (by decide +kernel) (by decide +kernel)
theorem cv_X7_154 {M : MI} {d pc : Nat} {Q : Int → St → Prop} {ls : List (Option PV)} {st : List PV} {σ : St} {d' : Nat} {a1 a2 : PV} (hM : M.1.cls = RX7) (hd : decode M.2.1 pc = .ok (.invokevirtual 154, 3)) (hdd : d' < d) (hst : st.length ≤ 8) (h : Wp mX7_moves d' (fun z τ => Wp M d Q (pc + 3) ls (st) τ) 0 [some (.inr 7), some a1, some a2] [] σ) : Wp M d Q pc ls (a2 :: a1 :: .inr 7 :: st) σ := w_cv (M' := mX7_moves) (k := 7) (vs := [a1, a2]) hd (by rw [hM]; exact tw_908) tw_910 tw_37 cw_X7_moves rfl rfl rfl (Nat.le_of_ble_eq_true rfl) hdd hst h
theorem tw_912 : Cond.methodLink RX7 157 yX7_notes ∈ TB := tb_of 912 (by decide +kernel) (by decide +kernel)
theorem tw_914 : Cond.instanceMethod yX7_notes ∈ TB := tb_of 914 (by decide +kernel) (by decide +kernel)
theorem tw_38 : Cond.selects RX7 yX7_notes yX7_notes ∈ TB := tb_of 38 (by decide +kernel) (by decide +kernel)
theorem cv_X7_157 {M : MI} {d pc : Nat} {Q : Int → St → Prop} {ls : List (Option PV)} {st : List PV} {σ : St} {d' : Nat} {a1 a2 a3 a4 : PV} (hM : M.1.cls = RX7) (hd : decode M.2.1 pc = .ok (.invokevirtual 157, 3)) (hdd : d' < d) (hst : st.length ≤ 8) (h : Wp mX7_notes d' (fun z τ => Wp M d Q (pc + 3) ls (st) τ) 0 [some (.inr 7), some a1, some a2, some a3, some a4, none] [] σ) : Wp M d Q pc ls (a4 :: a3 :: a2 :: a1 :: .inr 7 :: st) σ := w_cv (M' := mX7_notes) (k := 7) (vs := [a1, a2, a3, a4]) hd (by rw [hM]; exact tw_912) tw_914 tw_38 cw_X7_notes rfl rfl rfl (Nat.le_of_ble_eq_true rfl) hdd hst h
theorem tw_920 : Cond.methodLink RX7 161 yX7_isBook ∈ TB := tb_of 920 (by decide +kernel) (by decide +kernel)
theorem tw_922 : Cond.instanceMethod yX7_isBook ∈ TB := tb_of 922 (by decide +kernel) (by decide +kernel)
theorem tw_39 : Cond.selects RX7 yX7_isBook yX7_isBook ∈ TB := tb_of 39 (by decide +kernel) (by decide +kernel)
theorem cv_X7_161 {M : MI} {d pc : Nat} {Q : Int → St → Prop} {ls : List (Option PV)} {st : List PV} {σ : St} {d' : Nat} {a1 : PV} (hM : M.1.cls = RX7) (hd : decode M.2.1 pc = .ok (.invokevirtual 161, 3)) (hdd : d' < d) (hst : st.length ≤ 8) (h : Wp mX7_isBook d' (fun z τ => Wp M d Q (pc + 3) ls (.inl z :: st) τ) 0 [some (.inr 7), some a1] [] σ) : Wp M d Q pc ls (a1 :: .inr 7 :: st) σ := w_cv (M' := mX7_isBook) (k := 7) (vs := [a1]) hd (by rw [hM]; exact tw_920) tw_922 tw_39 cw_X7_isBook rfl rfl rfl (Nat.le_of_ble_eq_true rfl) hdd hst h
theorem tw_741 : Cond.fieldLink RX7 164 "ShelfShiftModel" "isPlanned" "Z" ∈ TB := tb_of 741 (by decide +kernel) (by decide +kernel)
theorem pf_X7_164 {M : MI} {d pc : Nat} {Q : Int → St → Prop} {ls : List (Option PV)} {st : List PV} {σ : St} {z : Int} (hM : M.1.cls = RX7) (hz : z = 0 ∨ z = 1) (hd : decode M.2.1 pc = .ok (.putfield 164, 3)) (h : Wp M d Q (pc + 3) ls st (put σ 7 21 z)) : Wp M d Q pc ls (.inl z :: .inr 7 :: st) σ := w_put (k := 7) (j := 21) (ty := .boolean) rfl inTB7 tyX7 tyX7_ok nmX7 rfl (by decide) rfl rfl (by rw [hM]; exact tw_741) (by decide +kernel) (by rcases hz with rfl | rfl <;> decide) (by rcases hz with rfl | rfl <;> decide) (by omega) hd h
theorem tw_731 : Cond.fieldLink RX7 168 "ShelfShiftModel" "handledAll" "I" ∈ TB := tb_of 731 (by decide +kernel) (by decide +kernel)
theorem gf_X7_168 {M : MI} {d pc : Nat} {Q : Int → St → Prop} {ls : List (Option PV)} {st : List PV} {σ : St} (hM : M.1.cls = RX7) (hd : decode M.2.1 pc = .ok (.getfield 168, 3)) (h : Wp M d Q (pc + 3) ls (.inl (σ 7 11) :: st) σ) : Wp M d Q pc ls (.inr 7 :: st) σ := w_get (k := 7) (j := 11) (v := .inl (σ 7 11)) rfl inTB7 rfl (by decide) (by rw [hM]; exact tw_731) (fun _ => rfl) hd h
theorem pf_X7_168 {M : MI} {d pc : Nat} {Q : Int → St → Prop} {ls : List (Option PV)} {st : List PV} {σ : St} {z : Int} (hM : M.1.cls = RX7) (hz : InR z) (hd : decode M.2.1 pc = .ok (.putfield 168, 3)) (h : Wp M d Q (pc + 3) ls st (put σ 7 11 z)) : Wp M d Q pc ls (.inl z :: .inr 7 :: st) σ := w_put (k := 7) (j := 11) (ty := .int) rfl inTB7 tyX7 tyX7_ok nmX7 rfl (by decide) rfl rfl (by rw [hM]; exact tw_731) (by decide +kernel) rfl rfl hz hd h
theorem tw_745 : Cond.fieldLink RX7 56 "ShelfShiftModel" "planBook" "[I" ∈ TB := tb_of 745 (by decide +kernel) (by decide +kernel)
theorem gf_X7_56 {M : MI} {d pc : Nat} {Q : Int → St → Prop} {ls : List (Option PV)} {st : List PV} {σ : St} (hM : M.1.cls = RX7) (hd : decode M.2.1 pc = .ok (.getfield 56, 3)) (h : Wp M d Q (pc + 3) ls (.inr 71 :: st) σ) : Wp M d Q pc ls (.inr 7 :: st) σ := w_get (k := 7) (j := 25) (v := .inr 71) rfl inTB7 rfl (by decide) (by rw [hM]; exact tw_745) (fun _ => rfl) hd h
theorem tw_743 : Cond.fieldLink RX7 171 "ShelfShiftModel" "planMany" "I" ∈ TB := tb_of 743 (by decide +kernel) (by decide +kernel)
theorem gf_X7_171 {M : MI} {d pc : Nat} {Q : Int → St → Prop} {ls : List (Option PV)} {st : List PV} {σ : St} (hM : M.1.cls = RX7) (hd : decode M.2.1 pc = .ok (.getfield 171, 3)) (h : Wp M d Q (pc + 3) ls (.inl (σ 7 23) :: st) σ) : Wp M d Q pc ls (.inr 7 :: st) σ := w_get (k := 7) (j := 23) (v := .inl (σ 7 23)) rfl inTB7 rfl (by decide) (by rw [hM]; exact tw_743) (fun _ => rfl) hd h
theorem tw_746 : Cond.fieldLink RX7 59 "ShelfShiftModel" "planFrom" "[I" ∈ TB := tb_of 746 (by decide +kernel) (by decide +kernel)
theorem gf_X7_59 {M : MI} {d pc : Nat} {Q : Int → St → Prop} {ls : List (Option PV)} {st : List PV} {σ : St} (hM : M.1.cls = RX7) (hd : decode M.2.1 pc = .ok (.getfield 59, 3)) (h : Wp M d Q (pc + 3) ls (.inr 72 :: st) σ) : Wp M d Q pc ls (.inr 7 :: st) σ := w_get (k := 7) (j := 26) (v := .inr 72) rfl inTB7 rfl (by decide) (by rw [hM]; exact tw_746) (fun _ => rfl) hd h
theorem tw_747 : Cond.fieldLink RX7 62 "ShelfShiftModel" "planTo" "[I" ∈ TB := tb_of 747 (by decide +kernel) (by decide +kernel)
theorem gf_X7_62 {M : MI} {d pc : Nat} {Q : Int → St → Prop} {ls : List (Option PV)} {st : List PV} {σ : St} (hM : M.1.cls = RX7) (hd : decode M.2.1 pc = .ok (.getfield 62, 3)) (h : Wp M d Q (pc + 3) ls (.inr 73 :: st) σ) : Wp M d Q pc ls (.inr 7 :: st) σ := w_get (k := 7) (j := 27) (v := .inr 73) rfl inTB7 rfl (by decide) (by rw [hM]; exact tw_747) (fun _ => rfl) hd h
theorem pf_X7_171 {M : MI} {d pc : Nat} {Q : Int → St → Prop} {ls : List (Option PV)} {st : List PV} {σ : St} {z : Int} (hM : M.1.cls = RX7) (hz : InR z) (hd : decode M.2.1 pc = .ok (.putfield 171, 3)) (h : Wp M d Q (pc + 3) ls st (put σ 7 23 z)) : Wp M d Q pc ls (.inl z :: .inr 7 :: st) σ := w_put (k := 7) (j := 23) (ty := .int) rfl inTB7 tyX7 tyX7_ok nmX7 rfl (by decide) rfl rfl (by rw [hM]; exact tw_743) (by decide +kernel) rfl rfl hz hd h
theorem tw_744 : Cond.fieldLink RX7 174 "ShelfShiftModel" "planDone" "I" ∈ TB := tb_of 744 (by decide +kernel) (by decide +kernel)
theorem pf_X7_174 {M : MI} {d pc : Nat} {Q : Int → St → Prop} {ls : List (Option PV)} {st : List PV} {σ : St} {z : Int} (hM : M.1.cls = RX7) (hz : InR z) (hd : decode M.2.1 pc = .ok (.putfield 174, 3)) (h : Wp M d Q (pc + 3) ls st (put σ 7 24 z)) : Wp M d Q pc ls (.inl z :: .inr 7 :: st) σ := w_put (k := 7) (j := 24) (ty := .int) rfl inTB7 tyX7 tyX7_ok nmX7 rfl (by decide) rfl rfl (by rw [hM]; exact tw_744) (by decide +kernel) rfl rfl hz hd h
theorem tw_742 : Cond.fieldLink RX7 177 "ShelfShiftModel" "planYears" "I" ∈ TB := tb_of 742 (by decide +kernel) (by decide +kernel)
theorem pf_X7_177 {M : MI} {d pc : Nat} {Q : Int → St → Prop} {ls : List (Option PV)} {st : List PV} {σ : St} {z : Int} (hM : M.1.cls = RX7) (hz : InR z) (hd : decode M.2.1 pc = .ok (.putfield 177, 3)) (h : Wp M d Q (pc + 3) ls st (put σ 7 22 z)) : Wp M d Q pc ls (.inl z :: .inr 7 :: st) σ := w_put (k := 7) (j := 22) (ty := .int) rfl inTB7 tyX7 tyX7_ok nmX7 rfl (by decide) rfl rfl (by rw [hM]; exact tw_742) (by decide +kernel) rfl rfl hz hd h
theorem tw_748 : Cond.fieldLink RX7 65 "ShelfShiftModel" "planGoal" "[I" ∈ TB := tb_of 748 (by decide +kernel) (by decide +kernel)
theorem gf_X7_65 {M : MI} {d pc : Nat} {Q : Int → St → Prop} {ls : List (Option PV)} {st : List PV} {σ : St} (hM : M.1.cls = RX7) (hd : decode M.2.1 pc = .ok (.getfield 65, 3)) (h : Wp M d Q (pc + 3) ls (.inr 74 :: st) σ) : Wp M d Q pc ls (.inr 7 :: st) σ := w_get (k := 7) (j := 28) (v := .inr 74) rfl inTB7 rfl (by decide) (by rw [hM]; exact tw_748) (fun _ => rfl) hd h
theorem tw_932 : Cond.methodLink RX7 180 yX7_plans ∈ TB := tb_of 932 (by decide +kernel) (by decide +kernel)
theorem tw_934 : Cond.instanceMethod yX7_plans ∈ TB := tb_of 934 (by decide +kernel) (by decide +kernel)
theorem tw_40 : Cond.selects RX7 yX7_plans yX7_plans ∈ TB := tb_of 40 (by decide +kernel) (by decide +kernel)
theorem cv_X7_180 {M : MI} {d pc : Nat} {Q : Int → St → Prop} {ls : List (Option PV)} {st : List PV} {σ : St} {d' : Nat} {a1 : PV} (hM : M.1.cls = RX7) (hd : decode M.2.1 pc = .ok (.invokevirtual 180, 3)) (hdd : d' < d) (hst : st.length ≤ 8) (h : Wp mX7_plans d' (fun z τ => Wp M d Q (pc + 3) ls (st) τ) 0 [some (.inr 7), some a1] [] σ) : Wp M d Q pc ls (a1 :: .inr 7 :: st) σ := w_cv (M' := mX7_plans) (k := 7) (vs := [a1]) hd (by rw [hM]; exact tw_932) tw_934 tw_40 cw_X7_plans rfl rfl rfl (Nat.le_of_ble_eq_true rfl) hdd hst h
theorem gf_X7_164 {M : MI} {d pc : Nat} {Q : Int → St → Prop} {ls : List (Option PV)} {st : List PV} {σ : St} (hM : M.1.cls = RX7) (hd : decode M.2.1 pc = .ok (.getfield 164, 3)) (h : Wp M d Q (pc + 3) ls (.inl (σ 7 21) :: st) σ) : Wp M d Q pc ls (.inr 7 :: st) σ := w_get (k := 7) (j := 21) (v := .inl (σ 7 21)) rfl inTB7 rfl (by decide) (by rw [hM]; exact tw_741) (fun _ => rfl) hd h
theorem gf_X7_174 {M : MI} {d pc : Nat} {Q : Int → St → Prop} {ls : List (Option PV)} {st : List PV} {σ : St} (hM : M.1.cls = RX7) (hd : decode M.2.1 pc = .ok (.getfield 174, 3)) (h : Wp M d Q (pc + 3) ls (.inl (σ 7 24) :: st) σ) : Wp M d Q pc ls (.inr 7 :: st) σ := w_get (k := 7) (j := 24) (v := .inl (σ 7 24)) rfl inTB7 rfl (by decide) (by rw [hM]; exact tw_744) (fun _ => rfl) hd h
theorem tw_944 : Cond.methodLink RX7 183 yX7_goesOn ∈ TB := tb_of 944 (by decide +kernel) (by decide +kernel)
theorem tw_946 : Cond.instanceMethod yX7_goesOn ∈ TB := tb_of 946 (by decide +kernel) (by decide +kernel)
theorem tw_41 : Cond.selects RX7 yX7_goesOn yX7_goesOn ∈ TB := tb_of 41 (by decide +kernel) (by decide +kernel)
theorem cv_X7_183 {M : MI} {d pc : Nat} {Q : Int → St → Prop} {ls : List (Option PV)} {st : List PV} {σ : St} {d' : Nat} (hM : M.1.cls = RX7) (hd : decode M.2.1 pc = .ok (.invokevirtual 183, 3)) (hdd : d' < d) (hst : st.length ≤ 8) (h : Wp mX7_goesOn d' (fun z τ => Wp M d Q (pc + 3) ls (.inl z :: st) τ) 0 [some (.inr 7), none] [] σ) : Wp M d Q pc ls (.inr 7 :: st) σ := w_cv (M' := mX7_goesOn) (k := 7) (vs := []) hd (by rw [hM]; exact tw_944) tw_946 tw_41 cw_X7_goesOn rfl rfl rfl (Nat.le_of_ble_eq_true rfl) hdd hst h
theorem tw_732 : Cond.fieldLink RX7 31 "ShelfShiftModel" "limit" "I" ∈ TB := tb_of 732 (by decide +kernel) (by decide +kernel)
theorem gf_X7_31 {M : MI} {d pc : Nat} {Q : Int → St → Prop} {ls : List (Option PV)} {st : List PV} {σ : St} (hM : M.1.cls = RX7) (hd : decode M.2.1 pc = .ok (.getfield 31, 3)) (h : Wp M d Q (pc + 3) ls (.inl (σ 7 12) :: st) σ) : Wp M d Q pc ls (.inr 7 :: st) σ := w_get (k := 7) (j := 12) (v := .inl (σ 7 12)) rfl inTB7 rfl (by decide) (by rw [hM]; exact tw_732) (fun _ => rfl) hd h
theorem tw_956 : Cond.methodLink RX7 187 yX7_dayOf ∈ TB := tb_of 956 (by decide +kernel) (by decide +kernel)
theorem tw_958 : Cond.instanceMethod yX7_dayOf ∈ TB := tb_of 958 (by decide +kernel) (by decide +kernel)
theorem tw_42 : Cond.selects RX7 yX7_dayOf yX7_dayOf ∈ TB := tb_of 42 (by decide +kernel) (by decide +kernel)
theorem cv_X7_187 {M : MI} {d pc : Nat} {Q : Int → St → Prop} {ls : List (Option PV)} {st : List PV} {σ : St} {d' : Nat} {a1 a2 a3 : PV} (hM : M.1.cls = RX7) (hd : decode M.2.1 pc = .ok (.invokevirtual 187, 3)) (hdd : d' < d) (hst : st.length ≤ 8) (h : Wp mX7_dayOf d' (fun z τ => Wp M d Q (pc + 3) ls (.inl z :: st) τ) 0 [some (.inr 7), some a1, some a2, some a3, none, none, none, none] [] σ) : Wp M d Q pc ls (a3 :: a2 :: a1 :: .inr 7 :: st) σ := w_cv (M' := mX7_dayOf) (k := 7) (vs := [a1, a2, a3]) hd (by rw [hM]; exact tw_956) tw_958 tw_42 cw_X7_dayOf rfl rfl rfl (Nat.le_of_ble_eq_true rfl) hdd hst h
theorem tw_960 : Cond.methodLink RX7 190 yX7_tripOf ∈ TB := tb_of 960 (by decide +kernel) (by decide +kernel)
theorem tw_962 : Cond.instanceMethod yX7_tripOf ∈ TB := tb_of 962 (by decide +kernel) (by decide +kernel)
theorem tw_43 : Cond.selects RX7 yX7_tripOf yX7_tripOf ∈ TB := tb_of 43 (by decide +kernel) (by decide +kernel)
theorem cv_X7_190 {M : MI} {d pc : Nat} {Q : Int → St → Prop} {ls : List (Option PV)} {st : List PV} {σ : St} {d' : Nat} {a1 a2 : PV} (hM : M.1.cls = RX7) (hd : decode M.2.1 pc = .ok (.invokevirtual 190, 3)) (hdd : d' < d) (hst : st.length ≤ 8) (h : Wp mX7_tripOf d' (fun z τ => Wp M d Q (pc + 3) ls (.inl z :: st) τ) 0 [some (.inr 7), some a1, some a2, none, none] [] σ) : Wp M d Q pc ls (a2 :: a1 :: .inr 7 :: st) σ := w_cv (M' := mX7_tripOf) (k := 7) (vs := [a1, a2]) hd (by rw [hM]; exact tw_960) tw_962 tw_43 cw_X7_tripOf rfl rfl rfl (Nat.le_of_ble_eq_true rfl) hdd hst h
theorem tw_964 : Cond.methodLink RX7 193 yX7_taken ∈ TB := tb_of 964 (by decide +kernel) (by decide +kernel)
theorem tw_966 : Cond.instanceMethod yX7_taken ∈ TB := tb_of 966 (by decide +kernel) (by decide +kernel)
theorem tw_44 : Cond.selects RX7 yX7_taken yX7_taken ∈ TB := tb_of 44 (by decide +kernel) (by decide +kernel)
theorem cv_X7_193 {M : MI} {d pc : Nat} {Q : Int → St → Prop} {ls : List (Option PV)} {st : List PV} {σ : St} {d' : Nat} {a1 : PV} (hM : M.1.cls = RX7) (hd : decode M.2.1 pc = .ok (.invokevirtual 193, 3)) (hdd : d' < d) (hst : st.length ≤ 8) (h : Wp mX7_taken d' (fun z τ => Wp M d Q (pc + 3) ls (.inl z :: st) τ) 0 [some (.inr 7), some a1, none, none] [] σ) : Wp M d Q pc ls (a1 :: .inr 7 :: st) σ := w_cv (M' := mX7_taken) (k := 7) (vs := [a1]) hd (by rw [hM]; exact tw_964) tw_966 tw_44 cw_X7_taken rfl rfl rfl (Nat.le_of_ble_eq_true rfl) hdd hst h
theorem tw_972 : Cond.methodLink RX7 196 yX7_leftWidths ∈ TB := tb_of 972 (by decide +kernel) (by decide +kernel)
theorem tw_974 : Cond.instanceMethod yX7_leftWidths ∈ TB := tb_of 974 (by decide +kernel) (by decide +kernel)
theorem tw_45 : Cond.selects RX7 yX7_leftWidths yX7_leftWidths ∈ TB := tb_of 45 (by decide +kernel) (by decide +kernel)
theorem cv_X7_196 {M : MI} {d pc : Nat} {Q : Int → St → Prop} {ls : List (Option PV)} {st : List PV} {σ : St} {d' : Nat} (hM : M.1.cls = RX7) (hd : decode M.2.1 pc = .ok (.invokevirtual 196, 3)) (hdd : d' < d) (hst : st.length ≤ 8) (h : Wp mX7_leftWidths d' (fun z τ => Wp M d Q (pc + 3) ls (.inl z :: st) τ) 0 [some (.inr 7), none, none] [] σ) : Wp M d Q pc ls (.inr 7 :: st) σ := w_cv (M' := mX7_leftWidths) (k := 7) (vs := []) hd (by rw [hM]; exact tw_972) tw_974 tw_45 cw_X7_leftWidths rfl rfl rfl (Nat.le_of_ble_eq_true rfl) hdd hst h
theorem tw_976 : Cond.methodLink RX7 199 yX7_leftRight ∈ TB := tb_of 976 (by decide +kernel) (by decide +kernel)
theorem tw_978 : Cond.instanceMethod yX7_leftRight ∈ TB := tb_of 978 (by decide +kernel) (by decide +kernel)
theorem tw_46 : Cond.selects RX7 yX7_leftRight yX7_leftRight ∈ TB := tb_of 46 (by decide +kernel) (by decide +kernel)
theorem cv_X7_199 {M : MI} {d pc : Nat} {Q : Int → St → Prop} {ls : List (Option PV)} {st : List PV} {σ : St} {d' : Nat} (hM : M.1.cls = RX7) (hd : decode M.2.1 pc = .ok (.invokevirtual 199, 3)) (hdd : d' < d) (hst : st.length ≤ 8) (h : Wp mX7_leftRight d' (fun z τ => Wp M d Q (pc + 3) ls (.inl z :: st) τ) 0 [some (.inr 7), none, none] [] σ) : Wp M d Q pc ls (.inr 7 :: st) σ := w_cv (M' := mX7_leftRight) (k := 7) (vs := []) hd (by rw [hM]; exact tw_976) tw_978 tw_46 cw_X7_leftRight rfl rfl rfl (Nat.le_of_ble_eq_true rfl) hdd hst h
theorem pf_X7_71 {M : MI} {d pc : Nat} {Q : Int → St → Prop} {ls : List (Option PV)} {st : List PV} {σ : St} {z : Int} (hM : M.1.cls = RX7) (hz : InR z) (hd : decode M.2.1 pc = .ok (.putfield 71, 3)) (h : Wp M d Q (pc + 3) ls st (put σ 7 1 z)) : Wp M d Q pc ls (.inl z :: .inr 7 :: st) σ := w_put (k := 7) (j := 1) (ty := .int) rfl inTB7 tyX7 tyX7_ok nmX7 rfl (by decide) rfl rfl (by rw [hM]; exact tw_721) (by decide +kernel) rfl rfl hz hd h
theorem pf_X7_78 {M : MI} {d pc : Nat} {Q : Int → St → Prop} {ls : List (Option PV)} {st : List PV} {σ : St} {z : Int} (hM : M.1.cls = RX7) (hz : InR z) (hd : decode M.2.1 pc = .ok (.putfield 78, 3)) (h : Wp M d Q (pc + 3) ls st (put σ 7 4 z)) : Wp M d Q pc ls (.inl z :: .inr 7 :: st) σ := w_put (k := 7) (j := 4) (ty := .int) rfl inTB7 tyX7 tyX7_ok nmX7 rfl (by decide) rfl rfl (by rw [hM]; exact tw_724) (by decide +kernel) rfl rfl hz hd h
theorem pf_X7_31 {M : MI} {d pc : Nat} {Q : Int → St → Prop} {ls : List (Option PV)} {st : List PV} {σ : St} {z : Int} (hM : M.1.cls = RX7) (hz : InR z) (hd : decode M.2.1 pc = .ok (.putfield 31, 3)) (h : Wp M d Q (pc + 3) ls st (put σ 7 12 z)) : Wp M d Q pc ls (.inl z :: .inr 7 :: st) σ := w_put (k := 7) (j := 12) (ty := .int) rfl inTB7 tyX7 tyX7_ok nmX7 rfl (by decide) rfl rfl (by rw [hM]; exact tw_732) (by decide +kernel) rfl rfl hz hd h
theorem tw_1008 : Cond.methodLink RX7 202 yX7_allWidths ∈ TB := tb_of 1008 (by decide +kernel) (by decide +kernel)
theorem tw_1010 : Cond.instanceMethod yX7_allWidths ∈ TB := tb_of 1010 (by decide +kernel) (by decide +kernel)
theorem tw_47 : Cond.selects RX7 yX7_allWidths yX7_allWidths ∈ TB := tb_of 47 (by decide +kernel) (by decide +kernel)
theorem cv_X7_202 {M : MI} {d pc : Nat} {Q : Int → St → Prop} {ls : List (Option PV)} {st : List PV} {σ : St} {d' : Nat} (hM : M.1.cls = RX7) (hd : decode M.2.1 pc = .ok (.invokevirtual 202, 3)) (hdd : d' < d) (hst : st.length ≤ 8) (h : Wp mX7_allWidths d' (fun z τ => Wp M d Q (pc + 3) ls (.inl z :: st) τ) 0 [some (.inr 7), none, none] [] σ) : Wp M d Q pc ls (.inr 7 :: st) σ := w_cv (M' := mX7_allWidths) (k := 7) (vs := []) hd (by rw [hM]; exact tw_1008) tw_1010 tw_47 cw_X7_allWidths rfl rfl rfl (Nat.le_of_ble_eq_true rfl) hdd hst h
theorem tw_1012 : Cond.methodLink RX7 205 yX7_openLengths ∈ TB := tb_of 1012 (by decide +kernel) (by decide +kernel)
theorem tw_1014 : Cond.instanceMethod yX7_openLengths ∈ TB := tb_of 1014 (by decide +kernel) (by decide +kernel)
theorem tw_48 : Cond.selects RX7 yX7_openLengths yX7_openLengths ∈ TB := tb_of 48 (by decide +kernel) (by decide +kernel)
theorem cv_X7_205 {M : MI} {d pc : Nat} {Q : Int → St → Prop} {ls : List (Option PV)} {st : List PV} {σ : St} {d' : Nat} (hM : M.1.cls = RX7) (hd : decode M.2.1 pc = .ok (.invokevirtual 205, 3)) (hdd : d' < d) (hst : st.length ≤ 8) (h : Wp mX7_openLengths d' (fun z τ => Wp M d Q (pc + 3) ls (.inl z :: st) τ) 0 [some (.inr 7), none, none] [] σ) : Wp M d Q pc ls (.inr 7 :: st) σ := w_cv (M' := mX7_openLengths) (k := 7) (vs := []) hd (by rw [hM]; exact tw_1012) tw_1014 tw_48 cw_X7_openLengths rfl rfl rfl (Nat.le_of_ble_eq_true rfl) hdd hst h
theorem gf_X7_177 {M : MI} {d pc : Nat} {Q : Int → St → Prop} {ls : List (Option PV)} {st : List PV} {σ : St} (hM : M.1.cls = RX7) (hd : decode M.2.1 pc = .ok (.getfield 177, 3)) (h : Wp M d Q (pc + 3) ls (.inl (σ 7 22) :: st) σ) : Wp M d Q pc ls (.inr 7 :: st) σ := w_get (k := 7) (j := 22) (v := .inl (σ 7 22)) rfl inTB7 rfl (by decide) (by rw [hM]; exact tw_742) (fun _ => rfl) hd h
theorem tw_1028 : Cond.methodLink RX7 208 yX7_lastsOf ∈ TB := tb_of 1028 (by decide +kernel) (by decide +kernel)
theorem tw_1030 : Cond.instanceMethod yX7_lastsOf ∈ TB := tb_of 1030 (by decide +kernel) (by decide +kernel)
theorem tw_51 : Cond.selects RX7 yX7_lastsOf yX7_lastsOf ∈ TB := tb_of 51 (by decide +kernel) (by decide +kernel)
theorem cv_X7_208 {M : MI} {d pc : Nat} {Q : Int → St → Prop} {ls : List (Option PV)} {st : List PV} {σ : St} {d' : Nat} {a1 : PV} (hM : M.1.cls = RX7) (hd : decode M.2.1 pc = .ok (.invokevirtual 208, 3)) (hdd : d' < d) (hst : st.length ≤ 8) (h : Wp mX7_lastsOf d' (fun z τ => Wp M d Q (pc + 3) ls (.inl z :: st) τ) 0 [some (.inr 7), some a1, none, none] [] σ) : Wp M d Q pc ls (a1 :: .inr 7 :: st) σ := w_cv (M' := mX7_lastsOf) (k := 7) (vs := [a1]) hd (by rw [hM]; exact tw_1028) tw_1030 tw_51 cw_X7_lastsOf rfl rfl rfl (Nat.le_of_ble_eq_true rfl) hdd hst h
theorem tw_1032 : Cond.methodLink RX7 211 yX7_firstOn ∈ TB := tb_of 1032 (by decide +kernel) (by decide +kernel)
theorem tw_1034 : Cond.instanceMethod yX7_firstOn ∈ TB := tb_of 1034 (by decide +kernel) (by decide +kernel)
theorem tw_52 : Cond.selects RX7 yX7_firstOn yX7_firstOn ∈ TB := tb_of 52 (by decide +kernel) (by decide +kernel)
theorem cv_X7_211 {M : MI} {d pc : Nat} {Q : Int → St → Prop} {ls : List (Option PV)} {st : List PV} {σ : St} {d' : Nat} {a1 : PV} (hM : M.1.cls = RX7) (hd : decode M.2.1 pc = .ok (.invokevirtual 211, 3)) (hdd : d' < d) (hst : st.length ≤ 8) (h : Wp mX7_firstOn d' (fun z τ => Wp M d Q (pc + 3) ls (.inl z :: st) τ) 0 [some (.inr 7), some a1, none] [] σ) : Wp M d Q pc ls (a1 :: .inr 7 :: st) σ := w_cv (M' := mX7_firstOn) (k := 7) (vs := [a1]) hd (by rw [hM]; exact tw_1032) tw_1034 tw_52 cw_X7_firstOn rfl rfl rfl (Nat.le_of_ble_eq_true rfl) hdd hst h
theorem tw_1036 : Cond.methodLink RX7 214 yX7_manyOn ∈ TB := tb_of 1036 (by decide +kernel) (by decide +kernel)
theorem tw_1038 : Cond.instanceMethod yX7_manyOn ∈ TB := tb_of 1038 (by decide +kernel) (by decide +kernel)
theorem tw_53 : Cond.selects RX7 yX7_manyOn yX7_manyOn ∈ TB := tb_of 53 (by decide +kernel) (by decide +kernel)
theorem cv_X7_214 {M : MI} {d pc : Nat} {Q : Int → St → Prop} {ls : List (Option PV)} {st : List PV} {σ : St} {d' : Nat} {a1 : PV} (hM : M.1.cls = RX7) (hd : decode M.2.1 pc = .ok (.invokevirtual 214, 3)) (hdd : d' < d) (hst : st.length ≤ 8) (h : Wp mX7_manyOn d' (fun z τ => Wp M d Q (pc + 3) ls (.inl z :: st) τ) 0 [some (.inr 7), some a1, none, none] [] σ) : Wp M d Q pc ls (a1 :: .inr 7 :: st) σ := w_cv (M' := mX7_manyOn) (k := 7) (vs := [a1]) hd (by rw [hM]; exact tw_1036) tw_1038 tw_53 cw_X7_manyOn rfl rfl rfl (Nat.le_of_ble_eq_true rfl) hdd hst h
theorem tw_1044 : Cond.methodLink RX7 217 yX7_booksOf ∈ TB := tb_of 1044 (by decide +kernel) (by decide +kernel)
theorem tw_1046 : Cond.instanceMethod yX7_booksOf ∈ TB := tb_of 1046 (by decide +kernel) (by decide +kernel)
theorem tw_54 : Cond.selects RX7 yX7_booksOf yX7_booksOf ∈ TB := tb_of 54 (by decide +kernel) (by decide +kernel)
theorem cv_X7_217 {M : MI} {d pc : Nat} {Q : Int → St → Prop} {ls : List (Option PV)} {st : List PV} {σ : St} {d' : Nat} {a1 : PV} (hM : M.1.cls = RX7) (hd : decode M.2.1 pc = .ok (.invokevirtual 217, 3)) (hdd : d' < d) (hst : st.length ≤ 8) (h : Wp mX7_booksOf d' (fun z τ => Wp M d Q (pc + 3) ls (.inl z :: st) τ) 0 [some (.inr 7), some a1, none, none] [] σ) : Wp M d Q pc ls (a1 :: .inr 7 :: st) σ := w_cv (M' := mX7_booksOf) (k := 7) (vs := [a1]) hd (by rw [hM]; exact tw_1044) tw_1046 tw_54 cw_X7_booksOf rfl rfl rfl (Nat.le_of_ble_eq_true rfl) hdd hst h
theorem tw_1048 : Cond.methodLink RX7 220 yX7_firstOf ∈ TB := tb_of 1048 (by decide +kernel) (by decide +kernel)
theorem tw_1050 : Cond.instanceMethod yX7_firstOf ∈ TB := tb_of 1050 (by decide +kernel) (by decide +kernel)
theorem tw_55 : Cond.selects RX7 yX7_firstOf yX7_firstOf ∈ TB := tb_of 55 (by decide +kernel) (by decide +kernel)
theorem cv_X7_220 {M : MI} {d pc : Nat} {Q : Int → St → Prop} {ls : List (Option PV)} {st : List PV} {σ : St} {d' : Nat} {a1 : PV} (hM : M.1.cls = RX7) (hd : decode M.2.1 pc = .ok (.invokevirtual 220, 3)) (hdd : d' < d) (hst : st.length ≤ 8) (h : Wp mX7_firstOf d' (fun z τ => Wp M d Q (pc + 3) ls (.inl z :: st) τ) 0 [some (.inr 7), some a1, none] [] σ) : Wp M d Q pc ls (a1 :: .inr 7 :: st) σ := w_cv (M' := mX7_firstOf) (k := 7) (vs := [a1]) hd (by rw [hM]; exact tw_1048) tw_1050 tw_55 cw_X7_firstOf rfl rfl rfl (Nat.le_of_ble_eq_true rfl) hdd hst h
theorem tw_1052 : Cond.methodLink RX7 223 yX7_shelvesOf ∈ TB := tb_of 1052 (by decide +kernel) (by decide +kernel)
theorem tw_1054 : Cond.instanceMethod yX7_shelvesOf ∈ TB := tb_of 1054 (by decide +kernel) (by decide +kernel)
theorem tw_56 : Cond.selects RX7 yX7_shelvesOf yX7_shelvesOf ∈ TB := tb_of 56 (by decide +kernel) (by decide +kernel)
theorem cv_X7_223 {M : MI} {d pc : Nat} {Q : Int → St → Prop} {ls : List (Option PV)} {st : List PV} {σ : St} {d' : Nat} {a1 : PV} (hM : M.1.cls = RX7) (hd : decode M.2.1 pc = .ok (.invokevirtual 223, 3)) (hdd : d' < d) (hst : st.length ≤ 8) (h : Wp mX7_shelvesOf d' (fun z τ => Wp M d Q (pc + 3) ls (.inl z :: st) τ) 0 [some (.inr 7), some a1, none, none, none] [] σ) : Wp M d Q pc ls (a1 :: .inr 7 :: st) σ := w_cv (M' := mX7_shelvesOf) (k := 7) (vs := [a1]) hd (by rw [hM]; exact tw_1052) tw_1054 tw_56 cw_X7_shelvesOf rfl rfl rfl (Nat.le_of_ble_eq_true rfl) hdd hst h
theorem tw_1060 : Cond.methodLink RX7 226 yX7_needOf ∈ TB := tb_of 1060 (by decide +kernel) (by decide +kernel)
theorem tw_1062 : Cond.instanceMethod yX7_needOf ∈ TB := tb_of 1062 (by decide +kernel) (by decide +kernel)
theorem tw_57 : Cond.selects RX7 yX7_needOf yX7_needOf ∈ TB := tb_of 57 (by decide +kernel) (by decide +kernel)
theorem cv_X7_226 {M : MI} {d pc : Nat} {Q : Int → St → Prop} {ls : List (Option PV)} {st : List PV} {σ : St} {d' : Nat} {a1 : PV} (hM : M.1.cls = RX7) (hd : decode M.2.1 pc = .ok (.invokevirtual 226, 3)) (hdd : d' < d) (hst : st.length ≤ 8) (h : Wp mX7_needOf d' (fun z τ => Wp M d Q (pc + 3) ls (.inl z :: st) τ) 0 [some (.inr 7), some a1] [] σ) : Wp M d Q pc ls (a1 :: .inr 7 :: st) σ := w_cv (M' := mX7_needOf) (k := 7) (vs := [a1]) hd (by rw [hM]; exact tw_1060) tw_1062 tw_57 cw_X7_needOf rfl rfl rfl (Nat.le_of_ble_eq_true rfl) hdd hst h
theorem tw_1064 : Cond.methodLink RX7 229 yX7_ahead ∈ TB := tb_of 1064 (by decide +kernel) (by decide +kernel)
theorem tw_1066 : Cond.instanceMethod yX7_ahead ∈ TB := tb_of 1066 (by decide +kernel) (by decide +kernel)
theorem tw_58 : Cond.selects RX7 yX7_ahead yX7_ahead ∈ TB := tb_of 58 (by decide +kernel) (by decide +kernel)
theorem cv_X7_229 {M : MI} {d pc : Nat} {Q : Int → St → Prop} {ls : List (Option PV)} {st : List PV} {σ : St} {d' : Nat} {a1 : PV} (hM : M.1.cls = RX7) (hd : decode M.2.1 pc = .ok (.invokevirtual 229, 3)) (hdd : d' < d) (hst : st.length ≤ 8) (h : Wp mX7_ahead d' (fun z τ => Wp M d Q (pc + 3) ls (.inl z :: st) τ) 0 [some (.inr 7), some a1, none, none] [] σ) : Wp M d Q pc ls (a1 :: .inr 7 :: st) σ := w_cv (M' := mX7_ahead) (k := 7) (vs := [a1]) hd (by rw [hM]; exact tw_1064) tw_1066 tw_58 cw_X7_ahead rfl rfl rfl (Nat.le_of_ble_eq_true rfl) hdd hst h
