set_option maxRecDepth 20000 in
theorem ggX1_turn_X8_bit : GoodIn wsX1_turn wsX8_bit := goodIn_r _ [4] rfl (by decide +kernel)
set_option maxRecDepth 20000 in
theorem gX1_turn_X8_bit_n26 : GoodIn wsX1_turn (wsX8_bit) := ggX1_turn_X8_bit
set_option maxRecDepth 20000 in
theorem ggX1_pass_X8_bit : GoodIn wsX1_pass wsX8_bit := goodIn_r _ [13] rfl (by decide +kernel)
set_option maxRecDepth 20000 in
theorem gX1_pass_X8_bit_n26 : GoodIn wsX1_pass (wsX8_bit) := ggX1_pass_X8_bit
set_option maxRecDepth 20000 in
theorem ggX1_calls_X8_bit : GoodIn wsX1_calls wsX8_bit := goodIn_r _ [5] rfl (by decide +kernel)
set_option maxRecDepth 20000 in
theorem gX1_calls_X8_bit_n26 : GoodIn wsX1_calls (wsX8_bit) := ggX1_calls_X8_bit
set_option maxRecDepth 20000 in
theorem ggX1_extendsGreen_X8_bit : GoodIn wsX1_extendsGreen wsX8_bit := goodIn_r _ [5] rfl (by decide +kernel)
set_option maxRecDepth 20000 in
theorem gX1_extendsGreen_X8_bit_n26 : GoodIn wsX1_extendsGreen (wsX8_bit) := ggX1_extendsGreen_X8_bit
set_option maxRecDepth 20000 in
theorem ggX2_turn_X8_isInput : GoodIn wsX2_turn wsX8_isInput := goodIn_r _ [4] rfl (by decide +kernel)
set_option maxRecDepth 20000 in
theorem gX2_turn_X8_isInput_n19 : GoodIn wsX2_turn (wsX8_isInput) := ggX2_turn_X8_isInput
set_option maxRecDepth 20000 in
theorem ggX2_aim_X8_isInput : GoodIn wsX2_aim wsX8_isInput := goodIn_r _ [4] rfl (by decide +kernel)
set_option maxRecDepth 20000 in
theorem gX2_aim_X8_isInput_n19 : GoodIn wsX2_aim (wsX8_isInput) := ggX2_aim_X8_isInput
set_option maxRecDepth 20000 in
theorem ggX2_targetInForce_X8_bit : GoodIn wsX2_targetInForce wsX8_bit := goodIn_r _ [5] rfl (by decide +kernel)
set_option maxRecDepth 20000 in
theorem gX2_targetInForce_X8_bit_n23 : GoodIn wsX2_targetInForce (wsX8_bit) := ggX2_targetInForce_X8_bit
set_option maxRecDepth 20000 in
theorem ggX3_take_X8_wrap : GoodIn wsX3_take wsX8_wrap := goodIn_r _ [7, 8, 9, 10, 11] rfl (by decide +kernel)
set_option maxRecDepth 20000 in
theorem gX3_take_X8_wrap_n24 : GoodIn wsX3_take (wsX8_wrap) := ggX3_take_X8_wrap
set_option maxRecDepth 20000 in
theorem ggX3_fitTo_X8_wrap : GoodIn wsX3_fitTo wsX8_wrap := goodIn_r _ [5, 6, 7, 8, 9] rfl (by decide +kernel)
set_option maxRecDepth 20000 in
theorem gX3_fitTo_X8_wrap_n24 : GoodIn wsX3_fitTo (wsX8_wrap) := ggX3_fitTo_X8_wrap
set_option maxRecDepth 20000 in
theorem ggX3_pass_X5_cycleOf : GoodIn wsX3_pass wsX5_cycleOf := goodIn_r _ [8, 9, 10, 11, 12, 7, 13, 34, 35, 36] rfl (by decide +kernel)
set_option maxRecDepth 20000 in
theorem gX3_pass_X5_cycleOf : GoodIn wsX3_pass (wsV RX3 28 RX5 yX5_cycleOf wsX5_cycleOf) := goodIn_app (goodIn_of _ (by decide +kernel)) ggX3_pass_X5_cycleOf
set_option maxRecDepth 20000 in
theorem ggX3_pass_X8_wrap : GoodIn wsX3_pass wsX8_wrap := goodIn_r _ [16, 17, 18, 19, 20] rfl (by decide +kernel)
set_option maxRecDepth 20000 in
theorem gX3_pass_X8_wrap_n24 : GoodIn wsX3_pass (wsX8_wrap) := ggX3_pass_X8_wrap
set_option maxRecDepth 20000 in
theorem ggX3_pass_X5_offsetOf : GoodIn wsX3_pass wsX5_offsetOf := goodIn_r _ [24, 25, 10, 11, 12, 7, 13, 9, 34, 35, 36] rfl (by decide +kernel)
set_option maxRecDepth 20000 in
theorem gX3_pass_X5_offsetOf : GoodIn wsX3_pass (wsV RX3 34 RX5 yX5_offsetOf wsX5_offsetOf) := goodIn_app (goodIn_of _ (by decide +kernel)) ggX3_pass_X5_offsetOf
set_option maxRecDepth 20000 in
theorem ggX3_pass_X3_shorterWay : GoodIn wsX3_pass wsX3_shorterWay := goodIn_r _ [29] rfl (by decide +kernel)
set_option maxRecDepth 20000 in
theorem gX3_pass_X3_shorterWay : GoodIn wsX3_pass (va_wsS RX3 37 yX3_shorterWay wsX3_shorterWay) := goodIn_app (goodIn_of _ (by decide +kernel)) ggX3_pass_X3_shorterWay
set_option maxRecDepth 20000 in
theorem ggX3_isBeforeSplit_X5_splitOf : GoodIn wsX3_isBeforeSplit wsX5_splitOf := goodIn_r _ [7, 8, 9, 10, 11, 6, 12, 13, 18, 19, 20] rfl (by decide +kernel)
set_option maxRecDepth 20000 in
theorem gX3_isBeforeSplit_X5_splitOf : GoodIn wsX3_isBeforeSplit (wsV RX3 40 RX5 yX5_splitOf wsX5_splitOf) := goodIn_app (goodIn_of _ (by decide +kernel)) ggX3_isBeforeSplit_X5_splitOf
set_option maxRecDepth 20000 in
theorem ggX4_see_X8_isPhase : GoodIn wsX4_see wsX8_isPhase := goodIn_r _ [4] rfl (by decide +kernel)
set_option maxRecDepth 20000 in
theorem gX4_see_X8_isPhase_n25 : GoodIn wsX4_see (wsX8_isPhase) := ggX4_see_X8_isPhase
set_option maxRecDepth 20000 in
theorem ggX4_look_X4_seesConflict : GoodIn wsX4_look wsX4_seesConflict := goodIn_r _ [5, 6, 7, 8, 9, 10, 11, 4, 12, 13, 14, 15, 16, 17, 18, 19, 35, 36, 37, 38] rfl (by decide +kernel)
set_option maxRecDepth 20000 in
theorem gX4_look_X4_seesConflict : GoodIn wsX4_look (wsV RX4 29 RX4 yX4_seesConflict wsX4_seesConflict) := goodIn_app (goodIn_of _ (by decide +kernel)) ggX4_look_X4_seesConflict
set_option maxRecDepth 20000 in
theorem ggX4_look_X4_seesDark : GoodIn wsX4_look wsX4_seesDark := goodIn_r _ [23, 24, 6, 25, 7, 8, 9, 35, 36, 37, 38] rfl (by decide +kernel)
set_option maxRecDepth 20000 in
theorem gX4_look_X4_seesDark : GoodIn wsX4_look (wsV RX4 32 RX4 yX4_seesDark wsX4_seesDark) := goodIn_app (goodIn_of _ (by decide +kernel)) ggX4_look_X4_seesDark
set_option maxRecDepth 20000 in
theorem ggX4_look_X4_seesShort : GoodIn wsX4_look wsX4_seesShort := goodIn_r _ [29, 25, 6, 30, 10, 11, 4, 12, 7, 8, 9, 35, 36, 37, 38] rfl (by decide +kernel)
set_option maxRecDepth 20000 in
theorem gX4_look_X4_seesShort : GoodIn wsX4_look (wsV RX4 35 RX4 yX4_seesShort wsX4_seesShort) := goodIn_app (goodIn_of _ (by decide +kernel)) ggX4_look_X4_seesShort
set_option maxRecDepth 20000 in
theorem ggX4_look_X4_remember : GoodIn wsX4_look wsX4_remember := goodIn_r _ [34, 24, 25, 6, 30, 35, 36, 37, 38] rfl (by decide +kernel)
set_option maxRecDepth 20000 in
theorem gX4_look_X4_remember : GoodIn wsX4_look (wsV RX4 38 RX4 yX4_remember wsX4_remember) := goodIn_app (goodIn_of _ (by decide +kernel)) ggX4_look_X4_remember
set_option maxRecDepth 20000 in
theorem ggX4_seesConflict_X8_bit : GoodIn wsX4_seesConflict wsX8_bit := goodIn_r _ [4] rfl (by decide +kernel)
set_option maxRecDepth 20000 in
theorem gX4_seesConflict_X8_bit_n41 : GoodIn wsX4_seesConflict (wsX8_bit) := ggX4_seesConflict_X8_bit
set_option maxRecDepth 20000 in
theorem ggX4_seesConflict_X4_goes : GoodIn wsX4_seesConflict wsX4_goes := goodIn_r _ [8] rfl (by decide +kernel)
set_option maxRecDepth 20000 in
theorem gX4_seesConflict_X4_goes : GoodIn wsX4_seesConflict (va_wsS RX4 45 yX4_goes wsX4_goes) := goodIn_app (goodIn_of _ (by decide +kernel)) ggX4_seesConflict_X4_goes
set_option maxRecDepth 20000 in
theorem ggX4_seesConflict_X4_goTogether : GoodIn wsX4_seesConflict wsX4_goTogether := goodIn_r _ [11, 12, 3, 13, 14, 15] rfl (by decide +kernel)
set_option maxRecDepth 20000 in
theorem gX4_seesConflict_X4_goTogether : GoodIn wsX4_seesConflict (va_wsS RX4 48 yX4_goTogether wsX4_goTogether) := goodIn_app (goodIn_of _ (by decide +kernel)) ggX4_seesConflict_X4_goTogether
set_option maxRecDepth 20000 in
theorem ggX4_seesDark_X8_bit : GoodIn wsX4_seesDark wsX8_bit := goodIn_r _ [6] rfl (by decide +kernel)
set_option maxRecDepth 20000 in
theorem gX4_seesDark_X8_bit_n41 : GoodIn wsX4_seesDark (wsX8_bit) := ggX4_seesDark_X8_bit
set_option maxRecDepth 20000 in
theorem ggX4_seesShort_X4_goes : GoodIn wsX4_seesShort wsX4_goes := goodIn_r _ [7] rfl (by decide +kernel)
set_option maxRecDepth 20000 in
theorem gX4_seesShort_X4_goes : GoodIn wsX4_seesShort (va_wsS RX4 45 yX4_goes wsX4_goes) := goodIn_app (goodIn_of _ (by decide +kernel)) ggX4_seesShort_X4_goes
set_option maxRecDepth 20000 in
theorem ggX4_seesShort_X8_bit : GoodIn wsX4_seesShort wsX8_bit := goodIn_r _ [10] rfl (by decide +kernel)
set_option maxRecDepth 20000 in
theorem gX4_seesShort_X8_bit_n41 : GoodIn wsX4_seesShort (wsX8_bit) := ggX4_seesShort_X8_bit
set_option maxRecDepth 20000 in
theorem ggX4_goTogether_X8_ringOf : GoodIn wsX4_goTogether wsX8_ringOf := goodIn_r _ [3] rfl (by decide +kernel)
set_option maxRecDepth 20000 in
theorem gX4_goTogether_X8_ringOf_n52 : GoodIn wsX4_goTogether (wsX8_ringOf) := ggX4_goTogether_X8_ringOf
set_option maxRecDepth 20000 in
theorem ggX4_goTogether_X8_sideOf : GoodIn wsX4_goTogether wsX8_sideOf := goodIn_r _ [5] rfl (by decide +kernel)
set_option maxRecDepth 20000 in
theorem gX4_goTogether_X8_sideOf_n55 : GoodIn wsX4_goTogether (wsX8_sideOf) := ggX4_goTogether_X8_sideOf
set_option maxRecDepth 20000 in
theorem ggX5_cycleOf_X5_isMade : GoodIn wsX5_cycleOf wsX5_isMade := goodIn_r _ [6, 1, 7, 8, 9] rfl (by decide +kernel)
set_option maxRecDepth 20000 in
theorem gX5_cycleOf_X5_isMade : GoodIn wsX5_cycleOf (wsV RX5 21 RX5 yX5_isMade wsX5_isMade) := goodIn_app (goodIn_of _ (by decide +kernel)) ggX5_cycleOf_X5_isMade
set_option maxRecDepth 20000 in
theorem ggX5_offsetOf_X5_isMade : GoodIn wsX5_offsetOf wsX5_isMade := goodIn_r _ [6, 7, 8, 9, 10] rfl (by decide +kernel)
set_option maxRecDepth 20000 in
theorem gX5_offsetOf_X5_isMade : GoodIn wsX5_offsetOf (wsV RX5 21 RX5 yX5_isMade wsX5_isMade) := goodIn_app (goodIn_of _ (by decide +kernel)) ggX5_offsetOf_X5_isMade
set_option maxRecDepth 20000 in
theorem ggX5_splitOf_X5_isMade : GoodIn wsX5_splitOf wsX5_isMade := goodIn_r _ [6, 7, 8, 9, 10] rfl (by decide +kernel)
set_option maxRecDepth 20000 in
theorem gX5_splitOf_X5_isMade : GoodIn wsX5_splitOf (wsV RX5 21 RX5 yX5_isMade wsX5_isMade) := goodIn_app (goodIn_of _ (by decide +kernel)) ggX5_splitOf_X5_isMade
set_option maxRecDepth 20000 in
theorem ggX6_greenPhase_X8_bit : GoodIn wsX6_greenPhase wsX8_bit := goodIn_r _ [5] rfl (by decide +kernel)
set_option maxRecDepth 20000 in
theorem gX6_greenPhase_X8_bit_n43 : GoodIn wsX6_greenPhase (wsX8_bit) := ggX6_greenPhase_X8_bit
set_option maxRecDepth 20000 in
theorem ggX6_phaseBefore_X6_waits : GoodIn wsX6_phaseBefore wsX6_waits := goodIn_r _ [6, 1, 10, 11, 12, 13, 14, 15, 16, 17, 18, 19] rfl (by decide +kernel)
set_option maxRecDepth 20000 in
theorem gX6_phaseBefore_X6_waits : GoodIn wsX6_phaseBefore (wsV RX6 47 RX6 yX6_waits wsX6_waits) := goodIn_app (goodIn_of _ (by decide +kernel)) ggX6_phaseBefore_X6_waits
set_option maxRecDepth 20000 in
theorem ggX6_phaseBefore_X8_bit : GoodIn wsX6_phaseBefore wsX8_bit := goodIn_r _ [9] rfl (by decide +kernel)
set_option maxRecDepth 20000 in
theorem gX6_phaseBefore_X8_bit_n43 : GoodIn wsX6_phaseBefore (wsX8_bit) := ggX6_phaseBefore_X8_bit
set_option maxRecDepth 20000 in
theorem ggX6_phaseBehind_X6_waits : GoodIn wsX6_phaseBehind wsX6_waits := goodIn_r _ [6, 1, 10, 11, 12, 13, 14, 15, 16, 17, 18, 19] rfl (by decide +kernel)
set_option maxRecDepth 20000 in
theorem gX6_phaseBehind_X6_waits : GoodIn wsX6_phaseBehind (wsV RX6 47 RX6 yX6_waits wsX6_waits) := goodIn_app (goodIn_of _ (by decide +kernel)) ggX6_phaseBehind_X6_waits
set_option maxRecDepth 20000 in
theorem ggX6_phaseBehind_X8_bit : GoodIn wsX6_phaseBehind wsX8_bit := goodIn_r _ [9] rfl (by decide +kernel)
set_option maxRecDepth 20000 in
theorem gX6_phaseBehind_X8_bit_n43 : GoodIn wsX6_phaseBehind (wsX8_bit) := ggX6_phaseBehind_X8_bit
set_option maxRecDepth 20000 in
theorem ggX6_begin_X6_show : GoodIn wsX6_begin wsX6_show := goodIn_r _ [10, 11, 12, 13, 14, 15, 16, 17, 18, 19, 20, 21, 22] rfl (by decide +kernel)
set_option maxRecDepth 20000 in
theorem gX6_begin_X6_show : GoodIn wsX6_begin (wsV RX6 51 RX6 yX6_show wsX6_show) := goodIn_app (goodIn_of _ (by decide +kernel)) ggX6_begin_X6_show
set_option maxRecDepth 20000 in
theorem ggX6_turnYellow_X6_show : GoodIn wsX6_turnYellow wsX6_show := goodIn_r _ [6, 7, 8, 9, 10, 11, 12, 13, 14, 15, 16, 17, 18] rfl (by decide +kernel)
set_option maxRecDepth 20000 in
theorem gX6_turnYellow_X6_show : GoodIn wsX6_turnYellow (wsV RX6 51 RX6 yX6_show wsX6_show) := goodIn_app (goodIn_of _ (by decide +kernel)) ggX6_turnYellow_X6_show
set_option maxRecDepth 20000 in
theorem ggX6_passWalk_X6_beginClear : GoodIn wsX6_passWalk wsX6_beginClear := goodIn_r _ [7, 2, 1, 8, 9, 10, 11, 12, 13, 14, 15, 16, 17] rfl (by decide +kernel)
set_option maxRecDepth 20000 in
theorem gX6_passWalk_X6_beginClear : GoodIn wsX6_passWalk (wsV RX6 55 RX6 yX6_beginClear wsX6_beginClear) := goodIn_app (goodIn_of _ (by decide +kernel)) ggX6_passWalk_X6_beginClear
set_option maxRecDepth 20000 in
theorem ggX7_isUsed_X7_at : GoodIn wsX7_isUsed wsX7_at := goodIn_r _ [5, 6, 7] rfl (by decide +kernel)
set_option maxRecDepth 20000 in
theorem gX7_isUsed_X7_at : GoodIn wsX7_isUsed (wsV RX7 21 RX7 yX7_at wsX7_at) := goodIn_app (goodIn_of _ (by decide +kernel)) ggX7_isUsed_X7_at
set_option maxRecDepth 20000 in
theorem ggX7_used_X7_isUsed : GoodIn wsX7_used wsX7_isUsed := goodIn_r _ [5, 6, 7, 8, 4, 9, 10, 14] rfl (by decide +kernel)
set_option maxRecDepth 20000 in
theorem gX7_used_X7_isUsed : GoodIn wsX7_used (wsV RX7 25 RX7 yX7_isUsed wsX7_isUsed) := goodIn_app (goodIn_of _ (by decide +kernel)) ggX7_used_X7_isUsed
set_option maxRecDepth 20000 in
theorem ggX7_used_X8_bit : GoodIn wsX7_used wsX8_bit := goodIn_r _ [13] rfl (by decide +kernel)
set_option maxRecDepth 20000 in
theorem gX7_used_X8_bit_n29 : GoodIn wsX7_used (wsX8_bit) := ggX7_used_X8_bit
set_option maxRecDepth 20000 in
theorem ggX7_wrongPlace_X7_isUsed : GoodIn wsX7_wrongPlace wsX7_isUsed := goodIn_r _ [5, 6, 7, 8, 4, 9, 10, 22] rfl (by decide +kernel)
set_option maxRecDepth 20000 in
theorem gX7_wrongPlace_X7_isUsed : GoodIn wsX7_wrongPlace (wsV RX7 25 RX7 yX7_isUsed wsX7_isUsed) := goodIn_app (goodIn_of _ (by decide +kernel)) ggX7_wrongPlace_X7_isUsed
set_option maxRecDepth 20000 in
theorem ggX7_wrongPlace_X7_isRight : GoodIn wsX7_wrongPlace wsX7_isRight := goodIn_r _ [14, 6, 7, 8, 4, 9, 10, 22] rfl (by decide +kernel)
set_option maxRecDepth 20000 in
theorem gX7_wrongPlace_X7_isRight : GoodIn wsX7_wrongPlace (wsV RX7 33 RX7 yX7_isRight wsX7_isRight) := goodIn_app (goodIn_of _ (by decide +kernel)) ggX7_wrongPlace_X7_isRight
set_option maxRecDepth 20000 in
theorem ggX7_wrongPlace_X7_used : GoodIn wsX7_wrongPlace wsX7_used := goodIn_r _ [18, 1, 2, 3, 4, 5, 6, 7, 8, 9, 10, 19, 20, 21, 22] rfl (by decide +kernel)
set_option maxRecDepth 20000 in
theorem gX7_wrongPlace_X7_used : GoodIn wsX7_wrongPlace (wsV RX7 37 RX7 yX7_used wsX7_used) := goodIn_app (goodIn_of _ (by decide +kernel)) ggX7_wrongPlace_X7_used
set_option maxRecDepth 20000 in
theorem ggX7_isRight_X7_at : GoodIn wsX7_isRight wsX7_at := goodIn_r _ [5, 6, 7] rfl (by decide +kernel)
set_option maxRecDepth 20000 in
theorem gX7_isRight_X7_at : GoodIn wsX7_isRight (wsV RX7 21 RX7 yX7_at wsX7_at) := goodIn_app (goodIn_of _ (by decide +kernel)) ggX7_isRight_X7_at
set_option maxRecDepth 20000 in
theorem ggX8_init_X5_init : GoodIn wsX8_init wsX5_init := goodIn_r _ [15, 16, 2, 3, 17, 18, 19, 20, 103, 104, 105] rfl (by decide +kernel)
set_option maxRecDepth 20000 in
theorem gX8_init_X5_init_n9 : GoodIn wsX8_init (wsX5_init) := ggX8_init_X5_init
set_option maxRecDepth 20000 in
theorem ggX8_init_X0_init : GoodIn wsX8_init wsX0_init := goodIn_r _ [22, 23, 2, 3, 24, 25, 26, 27, 28, 29, 30, 31, 32, 33, 34, 35, 36, 37, 38, 39, 40, 41, 42, 43, 44, 45, 46, 47, 48, 49, 17, 50, 51, 52, 53, 54, 55, 56, 57, 58, 59, 60, 61, 62, 63, 64, 65, 66, 67, 68, 69, 70, 71, 72, 73, 74, 75, 76, 77, 78, 79, 80, 81, 82, 83, 84, 85, 86, 87, 88, 89, 90, 91, 92, 93, 94, 95, 96, 97, 98, 99, 100, 101, 102, 126, 110, 111, 112, 113, 114, 115, 116, 117, 118, 119, 120, 121, 122, 123, 124, 125, 127, 128, 129, 130, 131, 132, 133, 134, 135, 136, 137, 138, 139, 140, 141, 142, 143, 144, 145, 146, 147, 148, 149, 150] rfl (by decide +kernel)
set_option maxRecDepth 20000 in
theorem gX8_init_X0_init_n18 : GoodIn wsX8_init (wsX0_init) := ggX8_init_X0_init
set_option maxRecDepth 20000 in
theorem ggX8_put_X8_controllerOf : GoodIn wsX8_put wsX8_controllerOf := goodIn_r _ [5, 6, 7, 33, 34, 35, 36] rfl (by decide +kernel)
set_option maxRecDepth 20000 in
theorem gX8_put_X8_controllerOf : GoodIn wsX8_put (wsV RX8 30 RX8 yX8_controllerOf wsX8_controllerOf) := goodIn_app (goodIn_of _ (by decide +kernel)) ggX8_put_X8_controllerOf
set_option maxRecDepth 20000 in
theorem ggX8_put_X8_isPhase : GoodIn wsX8_put wsX8_isPhase := goodIn_r _ [10] rfl (by decide +kernel)
set_option maxRecDepth 20000 in
theorem gX8_put_X8_isPhase : GoodIn wsX8_put (va_wsS RX8 34 yX8_isPhase wsX8_isPhase) := goodIn_app (goodIn_of _ (by decide +kernel)) ggX8_put_X8_isPhase
set_option maxRecDepth 20000 in
theorem ggX8_put_X7_write : GoodIn wsX8_put wsX7_write := goodIn_r _ [15, 16, 37] rfl (by decide +kernel)
set_option maxRecDepth 20000 in
theorem gX8_put_X7_write : GoodIn wsX8_put (wsV RX8 42 RX7 yX7_write wsX7_write) := goodIn_app (goodIn_of _ (by decide +kernel)) ggX8_put_X7_write
set_option maxRecDepth 20000 in
theorem ggX8_enact_X8_controllerOf : GoodIn wsX8_enact wsX8_controllerOf := goodIn_r _ [9, 10, 11, 105, 106, 107, 108] rfl (by decide +kernel)
set_option maxRecDepth 20000 in
theorem gX8_enact_X8_controllerOf : GoodIn wsX8_enact (wsV RX8 30 RX8 yX8_controllerOf wsX8_controllerOf) := goodIn_app (goodIn_of _ (by decide +kernel)) ggX8_enact_X8_controllerOf
set_option maxRecDepth 20000 in
theorem ggX8_enact_X0_takeWrittenTable : GoodIn wsX8_enact wsX0_takeWrittenTable := goodIn_r _ [16, 17, 18, 19, 20, 21, 22, 23, 24, 25, 26, 27, 28, 29, 30, 31, 32, 33, 34, 35, 36, 37, 38, 39, 40, 41, 42, 43, 8, 44, 45, 46, 47, 48, 49, 50, 51, 52, 53, 54, 55, 56, 15, 57, 58, 59, 60, 61, 62, 63, 64, 65, 66, 67, 68, 69, 70, 71, 72, 73, 74, 75, 76, 77, 78, 79, 80, 81, 89, 90, 91, 92, 93, 94, 95, 96, 97, 98, 99, 100, 101, 102, 103, 104, 109, 110, 111, 112, 113, 114, 115, 116, 117, 118, 119, 120, 121, 122, 123] rfl (by decide +kernel)
set_option maxRecDepth 20000 in
theorem gX8_enact_X0_takeWrittenTable : GoodIn wsX8_enact (wsV RX8 55 RX0 yX0_takeWrittenTable wsX0_takeWrittenTable) := goodIn_app (goodIn_of _ (by decide +kernel)) ggX8_enact_X0_takeWrittenTable
set_option maxRecDepth 20000 in
theorem ggX8_enact_J6_bitCount_0f7a4 : GoodIn wsX8_enact wsJ6_bitCount_0f7a4 := goodIn_r _ [85, 86, 87, 88] rfl (by decide +kernel)
set_option maxRecDepth 20000 in
theorem gX8_enact_J6_bitCount_0f7a4 : GoodIn wsX8_enact (va_wsS RX8 67 yJ6_bitCount_0f7a4 wsJ6_bitCount_0f7a4) := goodIn_app (goodIn_of _ (by decide +kernel)) ggX8_enact_J6_bitCount_0f7a4
set_option maxRecDepth 20000 in
theorem ggX8_place_X8_controllerOf : GoodIn wsX8_place wsX8_controllerOf := goodIn_r _ [5, 6, 7, 24, 25, 26, 27] rfl (by decide +kernel)
set_option maxRecDepth 20000 in
theorem gX8_place_X8_controllerOf : GoodIn wsX8_place (wsV RX8 30 RX8 yX8_controllerOf wsX8_controllerOf) := goodIn_app (goodIn_of _ (by decide +kernel)) ggX8_place_X8_controllerOf
set_option maxRecDepth 20000 in
theorem ggX8_detect_X8_controllerOf : GoodIn wsX8_detect wsX8_controllerOf := goodIn_r _ [5, 6, 7, 35, 36, 37, 38] rfl (by decide +kernel)
set_option maxRecDepth 20000 in
theorem gX8_detect_X8_controllerOf : GoodIn wsX8_detect (wsV RX8 30 RX8 yX8_controllerOf wsX8_controllerOf) := goodIn_app (goodIn_of _ (by decide +kernel)) ggX8_detect_X8_controllerOf
set_option maxRecDepth 20000 in
theorem ggX8_detect_X8_isPhase : GoodIn wsX8_detect wsX8_isPhase := goodIn_r _ [10] rfl (by decide +kernel)
set_option maxRecDepth 20000 in
theorem gX8_detect_X8_isPhase : GoodIn wsX8_detect (va_wsS RX8 34 yX8_isPhase wsX8_isPhase) := goodIn_app (goodIn_of _ (by decide +kernel)) ggX8_detect_X8_isPhase
set_option maxRecDepth 20000 in
theorem ggX8_detect_X1_turn : GoodIn wsX8_detect wsX1_turn := goodIn_r _ [15, 16, 17, 4, 18, 39, 40, 41, 42] rfl (by decide +kernel)
set_option maxRecDepth 20000 in
theorem gX8_detect_X1_turn : GoodIn wsX8_detect (wsV RX8 80 RX1 yX1_turn wsX1_turn) := goodIn_app (goodIn_of _ (by decide +kernel)) ggX8_detect_X1_turn
set_option maxRecDepth 20000 in
theorem ggX8_press_X8_controllerOf : GoodIn wsX8_press wsX8_controllerOf := goodIn_r _ [5, 6, 7, 28, 29, 30, 31] rfl (by decide +kernel)
set_option maxRecDepth 20000 in
theorem gX8_press_X8_controllerOf : GoodIn wsX8_press (wsV RX8 30 RX8 yX8_controllerOf wsX8_controllerOf) := goodIn_app (goodIn_of _ (by decide +kernel)) ggX8_press_X8_controllerOf
set_option maxRecDepth 20000 in
theorem ggX8_press_X8_isPhase : GoodIn wsX8_press wsX8_isPhase := goodIn_r _ [10] rfl (by decide +kernel)
set_option maxRecDepth 20000 in
theorem gX8_press_X8_isPhase : GoodIn wsX8_press (va_wsS RX8 34 yX8_isPhase wsX8_isPhase) := goodIn_app (goodIn_of _ (by decide +kernel)) ggX8_press_X8_isPhase
set_option maxRecDepth 20000 in
theorem ggX8_press_X0_takeButton : GoodIn wsX8_press wsX0_takeButton := goodIn_r _ [15, 16, 17, 18, 19, 20, 4, 21, 22, 23, 24, 25, 26, 27, 32, 33, 34, 35, 36, 37, 38, 39, 40, 41, 42, 43, 44, 45, 46, 47, 48] rfl (by decide +kernel)
set_option maxRecDepth 20000 in
theorem gX8_press_X0_takeButton : GoodIn wsX8_press (wsV RX8 86 RX0 yX0_takeButton wsX0_takeButton) := goodIn_app (goodIn_of _ (by decide +kernel)) ggX8_press_X0_takeButton
set_option maxRecDepth 20000 in
theorem ggX8_target_X8_controllerOf : GoodIn wsX8_target wsX8_controllerOf := goodIn_r _ [5, 6, 7, 36, 37, 38, 39] rfl (by decide +kernel)
set_option maxRecDepth 20000 in
theorem gX8_target_X8_controllerOf : GoodIn wsX8_target (wsV RX8 30 RX8 yX8_controllerOf wsX8_controllerOf) := goodIn_app (goodIn_of _ (by decide +kernel)) ggX8_target_X8_controllerOf
set_option maxRecDepth 20000 in
theorem ggX8_target_X8_isInput : GoodIn wsX8_target wsX8_isInput := goodIn_r _ [10] rfl (by decide +kernel)
set_option maxRecDepth 20000 in
theorem gX8_target_X8_isInput : GoodIn wsX8_target (va_wsS RX8 89 yX8_isInput wsX8_isInput) := goodIn_app (goodIn_of _ (by decide +kernel)) ggX8_target_X8_isInput
set_option maxRecDepth 20000 in
theorem ggX8_target_X8_isPhase : GoodIn wsX8_target wsX8_isPhase := goodIn_r _ [13] rfl (by decide +kernel)
set_option maxRecDepth 20000 in
theorem gX8_target_X8_isPhase : GoodIn wsX8_target (va_wsS RX8 34 yX8_isPhase wsX8_isPhase) := goodIn_app (goodIn_of _ (by decide +kernel)) ggX8_target_X8_isPhase
set_option maxRecDepth 20000 in
theorem ggX8_target_X2_aim : GoodIn wsX8_target wsX2_aim := goodIn_r _ [18, 19, 9, 4, 10, 40, 41] rfl (by decide +kernel)
set_option maxRecDepth 20000 in
theorem gX8_target_X2_aim : GoodIn wsX8_target (wsV RX8 96 RX2 yX2_aim wsX2_aim) := goodIn_app (goodIn_of _ (by decide +kernel)) ggX8_target_X2_aim
set_option maxRecDepth 20000 in
theorem ggX8_preempt_X8_controllerOf : GoodIn wsX8_preempt wsX8_controllerOf := goodIn_r _ [5, 6, 7, 33, 34, 35, 36] rfl (by decide +kernel)
set_option maxRecDepth 20000 in
theorem gX8_preempt_X8_controllerOf : GoodIn wsX8_preempt (wsV RX8 30 RX8 yX8_controllerOf wsX8_controllerOf) := goodIn_app (goodIn_of _ (by decide +kernel)) ggX8_preempt_X8_controllerOf
set_option maxRecDepth 20000 in
theorem ggX8_preempt_X8_isInput : GoodIn wsX8_preempt wsX8_isInput := goodIn_r _ [10] rfl (by decide +kernel)
set_option maxRecDepth 20000 in
theorem gX8_preempt_X8_isInput : GoodIn wsX8_preempt (va_wsS RX8 89 yX8_isInput wsX8_isInput) := goodIn_app (goodIn_of _ (by decide +kernel)) ggX8_preempt_X8_isInput
set_option maxRecDepth 20000 in
theorem ggX8_preempt_X2_turn : GoodIn wsX8_preempt wsX2_turn := goodIn_r _ [15, 16, 9, 4, 10, 37, 38] rfl (by decide +kernel)
set_option maxRecDepth 20000 in
theorem gX8_preempt_X2_turn : GoodIn wsX8_preempt (wsV RX8 102 RX2 yX2_turn wsX2_turn) := goodIn_app (goodIn_of _ (by decide +kernel)) ggX8_preempt_X2_turn
set_option maxRecDepth 20000 in
theorem ggX8_plan_X5_make : GoodIn wsX8_plan wsX5_make := goodIn_r _ [8, 9, 10, 11, 46, 47, 48] rfl (by decide +kernel)
set_option maxRecDepth 20000 in
theorem gX8_plan_X5_make : GoodIn wsX8_plan (wsV RX8 103 RX5 yX5_make wsX5_make) := goodIn_app (goodIn_of _ (by decide +kernel)) ggX8_plan_X5_make
set_option maxRecDepth 20000 in
theorem ggX8_plan_X3_fitTo : GoodIn wsX8_plan wsX3_fitTo := goodIn_r _ [16, 17, 18, 19, 20, 21, 22, 23, 24, 25, 49, 50, 51, 52] rfl (by decide +kernel)
set_option maxRecDepth 20000 in
theorem gX8_plan_X3_fitTo : GoodIn wsX8_plan (wsV RX8 111 RX3 yX3_fitTo wsX3_fitTo) := goodIn_app (goodIn_of _ (by decide +kernel)) ggX8_plan_X3_fitTo
set_option maxRecDepth 20000 in
theorem ggX8_message_X8_controllerOf : GoodIn wsX8_message wsX8_controllerOf := goodIn_r _ [6, 7, 8, 39, 40, 41, 42] rfl (by decide +kernel)
set_option maxRecDepth 20000 in
theorem gX8_message_X8_controllerOf : GoodIn wsX8_message (wsV RX8 30 RX8 yX8_controllerOf wsX8_controllerOf) := goodIn_app (goodIn_of _ (by decide +kernel)) ggX8_message_X8_controllerOf
set_option maxRecDepth 20000 in
theorem ggX8_message_X5_isMade : GoodIn wsX8_message wsX5_isMade := goodIn_r _ [13, 14, 59, 60, 61] rfl (by decide +kernel)
set_option maxRecDepth 20000 in
theorem gX8_message_X5_isMade : GoodIn wsX8_message (wsV RX8 116 RX5 yX5_isMade wsX5_isMade) := goodIn_app (goodIn_of _ (by decide +kernel)) ggX8_message_X5_isMade
set_option maxRecDepth 20000 in
theorem ggX8_message_X3_expects : GoodIn wsX8_message wsX3_expects := goodIn_r _ [19, 20, 62, 63, 64, 65] rfl (by decide +kernel)
set_option maxRecDepth 20000 in
theorem gX8_message_X3_expects : GoodIn wsX8_message (wsV RX8 119 RX3 yX3_expects wsX3_expects) := goodIn_app (goodIn_of _ (by decide +kernel)) ggX8_message_X3_expects
set_option maxRecDepth 20000 in
theorem ggX8_message_X5_cycleOf : GoodIn wsX8_message wsX5_cycleOf := goodIn_r _ [24, 14, 25, 10, 11, 12, 13, 59, 60, 61] rfl (by decide +kernel)
set_option maxRecDepth 20000 in
theorem gX8_message_X5_cycleOf : GoodIn wsX8_message (wsV RX8 122 RX5 yX5_cycleOf wsX5_cycleOf) := goodIn_app (goodIn_of _ (by decide +kernel)) ggX8_message_X5_cycleOf
set_option maxRecDepth 20000 in
theorem ggX8_message_X3_take : GoodIn wsX8_message wsX3_take := goodIn_r _ [29, 30, 31, 20, 32, 33, 5, 34, 35, 36, 37, 38, 62, 63, 64, 65] rfl (by decide +kernel)
set_option maxRecDepth 20000 in
theorem gX8_message_X3_take : GoodIn wsX8_message (wsV RX8 125 RX3 yX3_take wsX3_take) := goodIn_app (goodIn_of _ (by decide +kernel)) ggX8_message_X3_take
set_option maxRecDepth 20000 in
theorem ggX8_fault_X8_controllerOf : GoodIn wsX8_fault wsX8_controllerOf := goodIn_r _ [5, 6, 7, 27, 28, 29, 30] rfl (by decide +kernel)
set_option maxRecDepth 20000 in
theorem gX8_fault_X8_controllerOf : GoodIn wsX8_fault (wsV RX8 30 RX8 yX8_controllerOf wsX8_controllerOf) := goodIn_app (goodIn_of _ (by decide +kernel)) ggX8_fault_X8_controllerOf
set_option maxRecDepth 20000 in
theorem ggX8_fault_X8_isPhase : GoodIn wsX8_fault wsX8_isPhase := goodIn_r _ [10] rfl (by decide +kernel)
set_option maxRecDepth 20000 in
theorem gX8_fault_X8_isPhase : GoodIn wsX8_fault (va_wsS RX8 34 yX8_isPhase wsX8_isPhase) := goodIn_app (goodIn_of _ (by decide +kernel)) ggX8_fault_X8_isPhase
set_option maxRecDepth 20000 in
theorem ggX8_reset_X8_controllerOf : GoodIn wsX8_reset wsX8_controllerOf := goodIn_r _ [5, 6, 7, 54, 55, 56, 57] rfl (by decide +kernel)
set_option maxRecDepth 20000 in
theorem gX8_reset_X8_controllerOf : GoodIn wsX8_reset (wsV RX8 30 RX8 yX8_controllerOf wsX8_controllerOf) := goodIn_app (goodIn_of _ (by decide +kernel)) ggX8_reset_X8_controllerOf
set_option maxRecDepth 20000 in
theorem ggX8_reset_X0_start : GoodIn wsX8_reset wsX0_start := goodIn_r _ [12, 13, 14, 15, 16, 17, 18, 19, 20, 21, 22, 23, 24, 25, 26, 27, 28, 29, 30, 31, 32, 33, 34, 35, 36, 37, 38, 39, 40, 41, 42, 43, 44, 45, 46, 47, 48, 49, 50, 51, 52, 53, 58, 59, 60, 61, 62, 63, 64, 65, 66, 67, 68, 69, 70, 71] rfl (by decide +kernel)
set_option maxRecDepth 20000 in
theorem gX8_reset_X0_start : GoodIn wsX8_reset (wsV RX8 135 RX0 yX0_start wsX0_start) := goodIn_app (goodIn_of _ (by decide +kernel)) ggX8_reset_X0_start
set_option maxRecDepth 20000 in
theorem ggX8_tick_X0_pass : GoodIn wsX8_tick wsX0_pass := goodIn_r _ [11, 12, 13, 14, 15, 16, 17, 18, 19, 20, 21, 22, 23, 24, 25, 26, 27, 28, 29, 30, 31, 32, 33, 34, 35, 36, 37, 38, 39, 40, 41, 42, 43, 44, 45, 46, 47, 48, 49, 50, 51, 52, 53, 54, 55, 56, 57, 58, 59, 60, 61, 62, 63, 64, 65, 66, 67, 68, 69, 70, 71, 10, 72, 73, 74, 75, 76, 77, 78, 79, 80, 81, 82, 83, 84, 85, 86, 87, 88, 89, 90, 91, 92, 93, 94, 95, 96, 97, 98, 99, 100, 101, 102, 103, 104, 105, 106, 107, 108, 109, 110, 111, 112, 113, 114, 115, 116, 117, 118, 119, 120, 121, 122, 123, 124, 125, 126, 127, 128, 129, 130, 131, 132, 133, 134, 135, 136, 137, 138, 139, 140, 141, 142, 143, 144, 145, 146, 147, 148, 149, 150, 151, 152, 153, 154, 155, 156, 157, 158, 159, 160, 161, 162, 163, 164, 165, 166, 167, 168, 169, 170, 171, 172, 173, 174, 175, 176, 177, 178, 179, 180, 181, 182, 183, 184, 185, 186, 187, 188, 189, 190, 191, 192, 193, 194, 195, 196, 197, 198, 199, 200, 201, 202, 203, 204, 205, 206, 207, 208, 209, 210, 211, 212, 213, 214, 215, 216, 217, 218, 219, 220, 221, 222, 223, 224, 225, 226, 227, 228, 229, 230, 231, 232, 233, 234, 235, 236, 237, 238, 239, 240, 241, 242, 243, 244, 245, 246, 247, 248, 249, 250, 251, 252, 253, 254, 255, 256, 257, 258, 259, 260, 261, 262, 263, 264, 265, 266, 267, 268, 269, 270, 271, 272, 273, 274, 275, 276, 277, 278, 279, 280, 281, 282, 283, 284, 285, 286, 287, 288, 289, 290, 291, 292, 293, 294, 295, 296, 297, 298, 299, 300, 301, 302, 303, 304, 305, 306, 307, 308, 309, 310, 311, 312, 317, 318, 319, 320, 321, 322, 323, 324, 325, 326, 327, 328, 329, 330, 331, 332, 333, 334, 335, 336, 337, 338, 339, 340, 341, 342, 343, 344, 345, 346, 347, 348, 349, 350, 351, 352, 353, 354, 355, 356, 357, 358, 359, 360] rfl (by decide +kernel)
set_option maxRecDepth 20000 in
theorem gX8_tick_X0_pass : GoodIn wsX8_tick (wsV RX8 140 RX0 yX0_pass wsX0_pass) := goodIn_app (goodIn_of _ (by decide +kernel)) ggX8_tick_X0_pass
set_option maxRecDepth 20000 in
theorem ggX8_lamp_X8_controllerOf : GoodIn wsX8_lamp wsX8_controllerOf := goodIn_r _ [5, 6, 7, 29, 30, 31, 32] rfl (by decide +kernel)
set_option maxRecDepth 20000 in
theorem gX8_lamp_X8_controllerOf : GoodIn wsX8_lamp (wsV RX8 30 RX8 yX8_controllerOf wsX8_controllerOf) := goodIn_app (goodIn_of _ (by decide +kernel)) ggX8_lamp_X8_controllerOf
set_option maxRecDepth 20000 in
theorem ggX8_lamp_X8_isPhase : GoodIn wsX8_lamp wsX8_isPhase := goodIn_r _ [10] rfl (by decide +kernel)
set_option maxRecDepth 20000 in
theorem gX8_lamp_X8_isPhase : GoodIn wsX8_lamp (va_wsS RX8 34 yX8_isPhase wsX8_isPhase) := goodIn_app (goodIn_of _ (by decide +kernel)) ggX8_lamp_X8_isPhase
set_option maxRecDepth 20000 in
theorem ggX8_lamp_X0_lampsOf : GoodIn wsX8_lamp wsX0_lampsOf := goodIn_r _ [15, 16, 17, 18, 9, 4, 10, 19, 20, 21, 22, 23, 24, 25, 14, 26, 27, 28, 33, 34, 35, 36, 37, 38, 39, 40, 41, 42, 43, 44, 45, 46, 47, 48, 49, 50, 51, 52, 53, 54, 55, 56, 57, 58] rfl (by decide +kernel)
set_option maxRecDepth 20000 in
theorem gX8_lamp_X0_lampsOf : GoodIn wsX8_lamp (wsV RX8 144 RX0 yX0_lampsOf wsX0_lampsOf) := goodIn_app (goodIn_of _ (by decide +kernel)) ggX8_lamp_X0_lampsOf
set_option maxRecDepth 20000 in
theorem ggX8_signs_X8_controllerOf : GoodIn wsX8_signs wsX8_controllerOf := goodIn_r _ [5, 6, 7, 29, 30, 31, 32] rfl (by decide +kernel)
set_option maxRecDepth 20000 in
theorem gX8_signs_X8_controllerOf : GoodIn wsX8_signs (wsV RX8 30 RX8 yX8_controllerOf wsX8_controllerOf) := goodIn_app (goodIn_of _ (by decide +kernel)) ggX8_signs_X8_controllerOf
set_option maxRecDepth 20000 in
theorem ggX8_signs_X8_isPhase : GoodIn wsX8_signs wsX8_isPhase := goodIn_r _ [10] rfl (by decide +kernel)
set_option maxRecDepth 20000 in
theorem gX8_signs_X8_isPhase : GoodIn wsX8_signs (va_wsS RX8 34 yX8_isPhase wsX8_isPhase) := goodIn_app (goodIn_of _ (by decide +kernel)) ggX8_signs_X8_isPhase
set_option maxRecDepth 20000 in
theorem ggX8_signs_X0_signsOf : GoodIn wsX8_signs wsX0_signsOf := goodIn_r _ [15, 16, 17, 18, 19, 4, 20, 21, 22, 23, 14, 24, 25, 26, 27, 28, 33, 34, 35, 36, 37, 38, 39, 40, 41, 42, 43, 44, 45, 46, 47, 48, 49, 50, 51, 52, 53, 54, 55, 56, 57, 58, 59, 60, 61, 62] rfl (by decide +kernel)
set_option maxRecDepth 20000 in
theorem gX8_signs_X0_signsOf : GoodIn wsX8_signs (wsV RX8 147 RX0 yX0_signsOf wsX0_signsOf) := goodIn_app (goodIn_of _ (by decide +kernel)) ggX8_signs_X0_signsOf
set_option maxRecDepth 20000 in
theorem ggX8_crossing_X8_controllerOf : GoodIn wsX8_crossing wsX8_controllerOf := goodIn_r _ [5, 6, 7, 67, 68, 69, 70] rfl (by decide +kernel)
set_option maxRecDepth 20000 in
theorem gX8_crossing_X8_controllerOf : GoodIn wsX8_crossing (wsV RX8 30 RX8 yX8_controllerOf wsX8_controllerOf) := goodIn_app (goodIn_of _ (by decide +kernel)) ggX8_crossing_X8_controllerOf
set_option maxRecDepth 20000 in
theorem ggX8_crossing_X0_way : GoodIn wsX8_crossing wsX0_way := goodIn_r _ [12, 13, 14, 15, 16, 17, 18, 19, 11, 20, 21, 22, 23, 24, 25, 26, 27, 28, 4, 29, 37, 38, 39, 40, 41, 42, 43, 44, 45, 46, 47, 48, 49, 50, 51, 52, 53, 54, 55, 56, 71, 72] rfl (by decide +kernel)
set_option maxRecDepth 20000 in
theorem gX8_crossing_X0_way : GoodIn wsX8_crossing (wsV RX8 153 RX0 yX0_way wsX0_way) := goodIn_app (goodIn_of _ (by decide +kernel)) ggX8_crossing_X0_way
set_option maxRecDepth 20000 in
theorem ggX8_crossing_X3_shownClock : GoodIn wsX8_crossing wsX3_shownClock := goodIn_r _ [34, 35, 36, 53, 54, 55, 56] rfl (by decide +kernel)
set_option maxRecDepth 20000 in
theorem gX8_crossing_X3_shownClock : GoodIn wsX8_crossing (wsV RX8 160 RX3 yX3_shownClock wsX3_shownClock) := goodIn_app (goodIn_of _ (by decide +kernel)) ggX8_crossing_X3_shownClock
set_option maxRecDepth 20000 in
theorem ggX8_occupancy_X8_controllerOf : GoodIn wsX8_occupancy wsX8_controllerOf := goodIn_r _ [5, 6, 7, 31, 32, 33, 34] rfl (by decide +kernel)
set_option maxRecDepth 20000 in
theorem gX8_occupancy_X8_controllerOf : GoodIn wsX8_occupancy (wsV RX8 30 RX8 yX8_controllerOf wsX8_controllerOf) := goodIn_app (goodIn_of _ (by decide +kernel)) ggX8_occupancy_X8_controllerOf
set_option maxRecDepth 20000 in
theorem ggX8_occupancy_X8_isPhase : GoodIn wsX8_occupancy wsX8_isPhase := goodIn_r _ [10] rfl (by decide +kernel)
set_option maxRecDepth 20000 in
theorem gX8_occupancy_X8_isPhase : GoodIn wsX8_occupancy (va_wsS RX8 34 yX8_isPhase wsX8_isPhase) := goodIn_app (goodIn_of _ (by decide +kernel)) ggX8_occupancy_X8_isPhase
set_option maxRecDepth 20000 in
theorem ggX8_wrap_J9_floorMod_7cf53 : GoodIn wsX8_wrap wsJ9_floorMod_7cf53 := goodIn_r _ [4] rfl (by decide +kernel)
set_option maxRecDepth 20000 in
theorem gX8_wrap_J9_floorMod_7cf53 : GoodIn wsX8_wrap (va_wsS RX8 179 yJ9_floorMod_7cf53 wsJ9_floorMod_7cf53) := goodIn_app (goodIn_of _ (by decide +kernel)) ggX8_wrap_J9_floorMod_7cf53
