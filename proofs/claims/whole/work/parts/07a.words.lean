set_option maxRecDepth 20000 in
theorem ggX9_isPhase_X9_isCrossing : GoodIn wsX9_isPhase wsX9_isCrossing := goodIn_r _ [4] rfl (by decide +kernel)
set_option maxRecDepth 20000 in
theorem gX9_isPhase_X9_isCrossing : GoodIn wsX9_isPhase (va_wsS RX9 122 yX9_isCrossing wsX9_isCrossing) := goodIn_app (goodIn_of _ (by decide +kernel)) ggX9_isPhase_X9_isCrossing
set_option maxRecDepth 20000 in
theorem ggX9_isGreen_X9_ringOf : GoodIn wsX9_isGreen wsX9_ringOf := goodIn_r _ [6] rfl (by decide +kernel)
set_option maxRecDepth 20000 in
theorem gX9_isGreen_X9_ringOf : GoodIn wsX9_isGreen (va_wsS RX9 126 yX9_ringOf wsX9_ringOf) := goodIn_app (goodIn_of _ (by decide +kernel)) ggX9_isGreen_X9_ringOf
set_option maxRecDepth 20000 in
theorem ggX9_put_X9_isPhase : GoodIn wsX9_put wsX9_isPhase := goodIn_r _ [6, 7, 8, 5, 9] rfl (by decide +kernel)
set_option maxRecDepth 20000 in
theorem gX9_put_X9_isPhase : GoodIn wsX9_put (va_wsS RX9 130 yX9_isPhase wsX9_isPhase) := goodIn_app (goodIn_of _ (by decide +kernel)) ggX9_put_X9_isPhase
set_option maxRecDepth 20000 in
theorem ggX9_wrongPlace_X9_isWrong : GoodIn wsX9_wrongPlace wsX9_isWrong := goodIn_r _ [6, 1, 10, 11, 12, 13, 14, 15, 16, 17, 18, 19, 20, 21, 22, 23, 24, 25, 26, 27, 28, 29, 30, 31, 32, 33, 34, 35, 36, 37, 38, 39, 40, 41, 42, 43, 44, 45, 46] rfl (by decide +kernel)
set_option maxRecDepth 20000 in
theorem gX9_wrongPlace_X9_isWrong : GoodIn wsX9_wrongPlace (wsV RX9 134 RX9 yX9_isWrong wsX9_isWrong) := goodIn_app (goodIn_of _ (by decide +kernel)) ggX9_wrongPlace_X9_isWrong
set_option maxRecDepth 20000 in
theorem ggX9_wrongPlace_X9_sideOf : GoodIn wsX9_wrongPlace wsX9_sideOf := goodIn_r _ [9] rfl (by decide +kernel)
set_option maxRecDepth 20000 in
theorem gX9_wrongPlace_X9_sideOf : GoodIn wsX9_wrongPlace (va_wsS RX9 137 yX9_sideOf wsX9_sideOf) := goodIn_app (goodIn_of _ (by decide +kernel)) ggX9_wrongPlace_X9_sideOf
set_option maxRecDepth 20000 in
theorem ggX9_enact_X9_isCrossing : GoodIn wsX9_enact wsX9_isCrossing := goodIn_r _ [9] rfl (by decide +kernel)
set_option maxRecDepth 20000 in
theorem gX9_enact_X9_isCrossing : GoodIn wsX9_enact (va_wsS RX9 122 yX9_isCrossing wsX9_isCrossing) := goodIn_app (goodIn_of _ (by decide +kernel)) ggX9_enact_X9_isCrossing
set_option maxRecDepth 20000 in
theorem ggX9_enact_X9_wrongPlace : GoodIn wsX9_enact wsX9_wrongPlace := goodIn_r _ [13, 4, 14, 15, 16, 8, 17, 18, 19, 20, 46, 47, 48, 49, 50, 51, 52, 53, 54, 55, 56, 57, 58, 59, 60, 61, 62, 63, 64, 65, 66, 67, 68, 69, 70, 71, 72, 73, 74, 75, 76, 77, 78, 79, 80, 81, 82] rfl (by decide +kernel)
set_option maxRecDepth 20000 in
theorem gX9_enact_X9_wrongPlace : GoodIn wsX9_enact (wsV RX9 141 RX9 yX9_wrongPlace wsX9_wrongPlace) := goodIn_app (goodIn_of _ (by decide +kernel)) ggX9_enact_X9_wrongPlace
set_option maxRecDepth 20000 in
theorem ggX9_enact_X9_entry : GoodIn wsX9_enact wsX9_entry := goodIn_r _ [24, 3, 46, 47, 48, 49, 50, 51, 52, 53, 54, 55, 56, 57, 58, 59, 60, 61, 62, 63, 64, 65, 66, 67, 68, 69, 70, 71, 72, 73, 74, 75, 76, 77, 78, 79, 80, 81, 82] rfl (by decide +kernel)
set_option maxRecDepth 20000 in
theorem gX9_enact_X9_entry : GoodIn wsX9_enact (wsV RX9 144 RX9 yX9_entry wsX9_entry) := goodIn_app (goodIn_of _ (by decide +kernel)) ggX9_enact_X9_entry
set_option maxRecDepth 20000 in
theorem ggX9_enact_X9_start : GoodIn wsX9_enact wsX9_start := goodIn_r _ [28, 29, 30, 31, 32, 33, 5, 34, 35, 36, 37, 38, 39, 40, 8, 41, 42, 43, 44, 45, 46, 47, 48, 49, 50, 51, 52, 53, 54, 55, 56, 57, 58, 59, 60, 61, 62, 63, 64, 65, 66, 67, 68, 69, 70, 71, 72, 73, 74, 75, 76, 77, 78, 79, 80, 81, 82] rfl (by decide +kernel)
set_option maxRecDepth 20000 in
theorem gX9_enact_X9_start : GoodIn wsX9_enact (wsV RX9 148 RX9 yX9_start wsX9_start) := goodIn_app (goodIn_of _ (by decide +kernel)) ggX9_enact_X9_start
set_option maxRecDepth 20000 in
theorem ggX9_start_X9_stopRing : GoodIn wsX9_start wsX9_stopRing := goodIn_r _ [15, 16, 17, 18, 19, 20, 21, 22, 23, 24, 25, 26, 27, 28, 29, 30, 31, 32, 33, 34, 35, 36, 37, 38, 39, 40, 41, 42, 43, 44, 45, 46, 47, 48, 49, 50, 51, 52, 53, 54, 55, 56] rfl (by decide +kernel)
set_option maxRecDepth 20000 in
theorem gX9_start_X9_stopRing : GoodIn wsX9_start (wsV RX9 152 RX9 yX9_stopRing wsX9_stopRing) := goodIn_app (goodIn_of _ (by decide +kernel)) ggX9_start_X9_stopRing
set_option maxRecDepth 20000 in
theorem ggX9_called_X9_isGreen : GoodIn wsX9_called wsX9_isGreen := goodIn_r _ [7, 8, 9, 10, 11, 6, 12, 13, 14, 15, 16, 17, 18, 19, 20, 21, 22, 23, 24, 25, 26, 27, 28, 29, 30, 31, 32, 33, 34, 35, 36, 37, 38, 39, 40, 41, 42, 43, 44, 45, 46, 47, 48, 49] rfl (by decide +kernel)
set_option maxRecDepth 20000 in
theorem gX9_called_X9_isGreen : GoodIn wsX9_called (wsV RX9 155 RX9 yX9_isGreen wsX9_isGreen) := goodIn_app (goodIn_of _ (by decide +kernel)) ggX9_called_X9_isGreen
set_option maxRecDepth 20000 in
theorem ggX9_calledOn_X9_sideOf : GoodIn wsX9_calledOn wsX9_sideOf := goodIn_r _ [4] rfl (by decide +kernel)
set_option maxRecDepth 20000 in
theorem gX9_calledOn_X9_sideOf : GoodIn wsX9_calledOn (va_wsS RX9 137 yX9_sideOf wsX9_sideOf) := goodIn_app (goodIn_of _ (by decide +kernel)) ggX9_calledOn_X9_sideOf
set_option maxRecDepth 20000 in
theorem ggX9_calledOn_X9_called : GoodIn wsX9_calledOn wsX9_called := goodIn_r _ [8, 9, 10, 11, 12, 13, 3, 14, 15, 16, 17, 18, 19, 20, 21, 22, 23, 24, 25, 26, 27, 28, 29, 30, 31, 32, 33, 34, 35, 36, 37, 38, 39, 40, 41, 42, 43, 44, 45, 46, 47, 48, 49, 50, 51, 52, 53, 54, 55, 56] rfl (by decide +kernel)
set_option maxRecDepth 20000 in
theorem gX9_calledOn_X9_called : GoodIn wsX9_calledOn (wsV RX9 158 RX9 yX9_called wsX9_called) := goodIn_app (goodIn_of _ (by decide +kernel)) ggX9_calledOn_X9_called
set_option maxRecDepth 20000 in
theorem ggX9_needed_X9_calledOn : GoodIn wsX9_needed wsX9_calledOn := goodIn_r _ [8, 9, 10, 7, 11, 12, 13, 14, 15, 16, 17, 18, 19, 20, 21, 2, 3, 22, 23, 24, 25, 26, 27, 28, 29, 30, 31, 32, 33, 34, 35, 36, 37, 38, 39, 40, 41, 42, 43, 44, 45, 46, 47, 48, 49, 50, 51, 52, 53, 54, 55, 56, 57, 58, 59, 60, 61] rfl (by decide +kernel)
set_option maxRecDepth 20000 in
theorem gX9_needed_X9_calledOn : GoodIn wsX9_needed (wsV RX9 161 RX9 yX9_calledOn wsX9_calledOn) := goodIn_app (goodIn_of _ (by decide +kernel)) ggX9_needed_X9_calledOn
set_option maxRecDepth 20000 in
theorem ggX9_needed_X9_ringOf : GoodIn wsX9_needed wsX9_ringOf := goodIn_r _ [24] rfl (by decide +kernel)
set_option maxRecDepth 20000 in
theorem gX9_needed_X9_ringOf : GoodIn wsX9_needed (va_wsS RX9 126 yX9_ringOf wsX9_ringOf) := goodIn_app (goodIn_of _ (by decide +kernel)) ggX9_needed_X9_ringOf
set_option maxRecDepth 20000 in
theorem ggX9_needed_X9_sideOf : GoodIn wsX9_needed wsX9_sideOf := goodIn_r _ [11] rfl (by decide +kernel)
set_option maxRecDepth 20000 in
theorem gX9_needed_X9_sideOf : GoodIn wsX9_needed (va_wsS RX9 137 yX9_sideOf wsX9_sideOf) := goodIn_app (goodIn_of _ (by decide +kernel)) ggX9_needed_X9_sideOf
set_option maxRecDepth 20000 in
theorem ggX9_needed_X9_called : GoodIn wsX9_needed wsX9_called := goodIn_r _ [15, 16, 17, 18, 19, 20, 7, 21, 2, 3, 22, 23, 24, 25, 26, 27, 28, 29, 30, 31, 32, 33, 34, 35, 36, 37, 38, 39, 40, 41, 42, 43, 44, 45, 46, 47, 48, 49, 50, 51, 52, 53, 54, 55, 56, 57, 58, 59, 60, 61] rfl (by decide +kernel)
set_option maxRecDepth 20000 in
theorem gX9_needed_X9_called : GoodIn wsX9_needed (wsV RX9 158 RX9 yX9_called wsX9_called) := goodIn_app (goodIn_of _ (by decide +kernel)) ggX9_needed_X9_called
set_option maxRecDepth 20000 in
theorem ggX9_forward_X9_called : GoodIn wsX9_forward wsX9_called := goodIn_r _ [7, 8, 9, 10, 11, 12, 6, 13, 1, 2, 14, 15, 16, 17, 18, 19, 20, 21, 22, 23, 24, 25, 26, 27, 28, 29, 30, 31, 32, 33, 34, 35, 36, 37, 38, 39, 40, 41, 42, 43, 44, 45, 46, 47, 48, 49, 50, 51, 52, 53] rfl (by decide +kernel)
set_option maxRecDepth 20000 in
theorem gX9_forward_X9_called : GoodIn wsX9_forward (wsV RX9 158 RX9 yX9_called wsX9_called) := goodIn_app (goodIn_of _ (by decide +kernel)) ggX9_forward_X9_called
set_option maxRecDepth 20000 in
theorem ggX9_wanted_X9_forward : GoodIn wsX9_wanted wsX9_forward := goodIn_r _ [5, 6, 7, 8, 9, 10, 4, 11, 12, 13, 14, 15, 16, 17, 18, 19, 20, 33, 34, 35, 36, 37, 38, 39, 40, 41, 42, 43, 44, 45, 46, 47, 48, 49, 50, 51, 52, 53, 54, 55, 56, 57, 58, 59, 60, 61, 62, 63, 64, 65, 66, 67, 68, 69] rfl (by decide +kernel)
set_option maxRecDepth 20000 in
theorem gX9_wanted_X9_forward : GoodIn wsX9_wanted (wsV RX9 164 RX9 yX9_forward wsX9_forward) := goodIn_app (goodIn_of _ (by decide +kernel)) ggX9_wanted_X9_forward
set_option maxRecDepth 20000 in
theorem ggX9_wanted_X9_needed : GoodIn wsX9_wanted wsX9_needed := goodIn_r _ [24, 25, 6, 7, 26, 27, 28, 4, 29, 30, 31, 32, 8, 9, 10, 11, 12, 13, 14, 15, 16, 17, 18, 19, 20, 33, 34, 35, 36, 37, 38, 39, 40, 41, 42, 43, 44, 45, 46, 47, 48, 49, 50, 51, 52, 53, 54, 55, 56, 57, 58, 59, 60, 61, 62, 63, 64, 65, 66, 67, 68, 69] rfl (by decide +kernel)
set_option maxRecDepth 20000 in
theorem gX9_wanted_X9_needed : GoodIn wsX9_wanted (wsV RX9 167 RX9 yX9_needed wsX9_needed) := goodIn_app (goodIn_of _ (by decide +kernel)) ggX9_wanted_X9_needed
set_option maxRecDepth 20000 in
theorem ggX9_passes_X9_failed : GoodIn wsX9_passes wsX9_failed := goodIn_r _ [6, 7, 8, 9, 10, 11, 12, 13, 14, 15, 16, 17, 18, 19, 20, 21, 22, 23, 24, 25, 26, 27, 28, 29, 30, 31, 32, 33, 34, 35, 36, 37, 38, 39, 40, 41, 42, 43, 44] rfl (by decide +kernel)
set_option maxRecDepth 20000 in
theorem gX9_passes_X9_failed : GoodIn wsX9_passes (wsV RX9 175 RX9 yX9_failed wsX9_failed) := goodIn_app (goodIn_of _ (by decide +kernel)) ggX9_passes_X9_failed
set_option maxRecDepth 20000 in
theorem ggX9_call_X9_entry : GoodIn wsX9_call wsX9_entry := goodIn_r _ [10, 11, 30, 31, 32, 33, 34, 35, 36, 37, 38, 39, 40, 41, 42, 43, 44, 45, 46, 47, 48, 49, 50, 51, 52, 53, 54, 55, 56, 57, 58, 59, 60, 61, 62, 63, 64, 65, 66] rfl (by decide +kernel)
set_option maxRecDepth 20000 in
theorem gX9_call_X9_entry : GoodIn wsX9_call (wsV RX9 144 RX9 yX9_entry wsX9_entry) := goodIn_app (goodIn_of _ (by decide +kernel)) ggX9_call_X9_entry
set_option maxRecDepth 20000 in
theorem ggX9_call_X9_isGreen : GoodIn wsX9_call wsX9_isGreen := goodIn_r _ [15, 16, 17, 18, 19, 9, 20, 30, 31, 32, 33, 34, 35, 36, 37, 38, 39, 40, 41, 42, 43, 44, 45, 46, 47, 48, 49, 50, 51, 52, 53, 54, 55, 56, 57, 58, 59, 60, 61, 62, 63, 64, 65, 66] rfl (by decide +kernel)
set_option maxRecDepth 20000 in
theorem gX9_call_X9_isGreen : GoodIn wsX9_call (wsV RX9 155 RX9 yX9_isGreen wsX9_isGreen) := goodIn_app (goodIn_of _ (by decide +kernel)) ggX9_call_X9_isGreen
set_option maxRecDepth 20000 in
theorem ggX9_call_X9_ringOf : GoodIn wsX9_call wsX9_ringOf := goodIn_r _ [20] rfl (by decide +kernel)
set_option maxRecDepth 20000 in
theorem gX9_call_X9_ringOf : GoodIn wsX9_call (va_wsS RX9 126 yX9_ringOf wsX9_ringOf) := goodIn_app (goodIn_of _ (by decide +kernel)) ggX9_call_X9_ringOf
set_option maxRecDepth 20000 in
theorem ggX9_call_X9_passes : GoodIn wsX9_call wsX9_passes := goodIn_r _ [24, 3, 25, 26, 27, 9, 28, 29, 30, 31, 32, 33, 34, 35, 36, 37, 38, 39, 40, 41, 42, 43, 44, 45, 46, 47, 48, 49, 50, 51, 52, 53, 54, 55, 56, 57, 58, 59, 60, 61, 62, 63, 64, 65, 66] rfl (by decide +kernel)
set_option maxRecDepth 20000 in
theorem gX9_call_X9_passes : GoodIn wsX9_call (wsV RX9 178 RX9 yX9_passes wsX9_passes) := goodIn_app (goodIn_of _ (by decide +kernel)) ggX9_call_X9_passes
set_option maxRecDepth 20000 in
theorem ggX9_call_X9_failed : GoodIn wsX9_call wsX9_failed := goodIn_r _ [28, 29, 30, 31, 32, 33, 34, 35, 36, 37, 38, 39, 40, 41, 42, 43, 44, 45, 46, 47, 48, 49, 50, 51, 52, 53, 54, 55, 56, 57, 58, 59, 60, 61, 62, 63, 64, 65, 66] rfl (by decide +kernel)
set_option maxRecDepth 20000 in
theorem gX9_call_X9_failed : GoodIn wsX9_call (wsV RX9 175 RX9 yX9_failed wsX9_failed) := goodIn_app (goodIn_of _ (by decide +kernel)) ggX9_call_X9_failed
set_option maxRecDepth 20000 in
theorem ggX9_begin_X9_ringOf : GoodIn wsX9_begin wsX9_ringOf := goodIn_r _ [13] rfl (by decide +kernel)
set_option maxRecDepth 20000 in
theorem gX9_begin_X9_ringOf : GoodIn wsX9_begin (va_wsS RX9 126 yX9_ringOf wsX9_ringOf) := goodIn_app (goodIn_of _ (by decide +kernel)) ggX9_begin_X9_ringOf
set_option maxRecDepth 20000 in
theorem ggX9_begin_X9_passes : GoodIn wsX9_begin wsX9_passes := goodIn_r _ [17, 18, 19, 20, 21, 12, 22, 23, 34, 35, 36, 37, 38, 39, 40, 41, 42, 43, 44, 45, 46, 47, 48, 49, 50, 51, 52, 53, 54, 55, 56, 57, 58, 59, 60, 61, 62, 63, 64, 65, 66, 67, 68, 69, 70] rfl (by decide +kernel)
set_option maxRecDepth 20000 in
theorem gX9_begin_X9_passes : GoodIn wsX9_begin (wsV RX9 178 RX9 yX9_passes wsX9_passes) := goodIn_app (goodIn_of _ (by decide +kernel)) ggX9_begin_X9_passes
set_option maxRecDepth 20000 in
theorem ggX9_begin_X9_entry : GoodIn wsX9_begin wsX9_entry := goodIn_r _ [27, 28, 34, 35, 36, 37, 38, 39, 40, 41, 42, 43, 44, 45, 46, 47, 48, 49, 50, 51, 52, 53, 54, 55, 56, 57, 58, 59, 60, 61, 62, 63, 64, 65, 66, 67, 68, 69, 70] rfl (by decide +kernel)
set_option maxRecDepth 20000 in
theorem gX9_begin_X9_entry : GoodIn wsX9_begin (wsV RX9 144 RX9 yX9_entry wsX9_entry) := goodIn_app (goodIn_of _ (by decide +kernel)) ggX9_begin_X9_entry
set_option maxRecDepth 20000 in
theorem ggX9_begin_X9_beginWalk : GoodIn wsX9_begin wsX9_beginWalk := goodIn_r _ [32, 8, 33, 9, 2, 34, 35, 36, 37, 38, 39, 40, 41, 42, 43, 44, 45, 46, 47, 48, 49, 50, 51, 52, 53, 54, 55, 56, 57, 58, 59, 60, 61, 62, 63, 64, 65, 66, 67, 68, 69, 70] rfl (by decide +kernel)
set_option maxRecDepth 20000 in
theorem gX9_begin_X9_beginWalk : GoodIn wsX9_begin (wsV RX9 181 RX9 yX9_beginWalk wsX9_beginWalk) := goodIn_app (goodIn_of _ (by decide +kernel)) ggX9_begin_X9_beginWalk
set_option maxRecDepth 20000 in
theorem ggX9_pace_X9_entry : GoodIn wsX9_pace wsX9_entry := goodIn_r _ [8, 9, 10, 11, 12, 13, 14, 15, 16, 17, 18, 19, 20, 21, 22, 23, 24, 25, 26, 27, 28, 29, 30, 31, 32, 33, 34, 35, 36, 37, 38, 39, 40, 41, 42, 43, 44, 45, 46] rfl (by decide +kernel)
set_option maxRecDepth 20000 in
theorem gX9_pace_X9_entry : GoodIn wsX9_pace (wsV RX9 144 RX9 yX9_entry wsX9_entry) := goodIn_app (goodIn_of _ (by decide +kernel)) ggX9_pace_X9_entry
set_option maxRecDepth 20000 in
theorem ggX9_grow_X9_pace : GoodIn wsX9_grow wsX9_pace := goodIn_r _ [10, 11, 12, 4, 13, 14, 15, 9, 16, 17, 74, 75, 76, 77, 78, 79, 80, 81, 82, 83, 84, 85, 86, 87, 88, 89, 90, 91, 92, 93, 94, 95, 96, 97, 98, 99, 100, 101, 102, 103, 104, 105, 106, 107, 108, 109, 110] rfl (by decide +kernel)
set_option maxRecDepth 20000 in
theorem gX9_grow_X9_pace : GoodIn wsX9_grow (wsV RX9 185 RX9 yX9_pace wsX9_pace) := goodIn_app (goodIn_of _ (by decide +kernel)) ggX9_grow_X9_pace
set_option maxRecDepth 20000 in
theorem ggX9_grow_X9_wanted : GoodIn wsX9_grow wsX9_wanted := goodIn_r _ [21, 22, 23, 24, 9, 25, 1, 4, 26, 27, 28, 29, 30, 31, 32, 33, 34, 35, 36, 37, 38, 39, 40, 41, 42, 43, 44, 45, 46, 47, 48, 49, 50, 74, 75, 76, 77, 78, 79, 80, 81, 82, 83, 84, 85, 86, 87, 88, 89, 90, 91, 92, 93, 94, 95, 96, 97, 98, 99, 100, 101, 102, 103, 104, 105, 106, 107, 108, 109, 110] rfl (by decide +kernel)
set_option maxRecDepth 20000 in
theorem gX9_grow_X9_wanted : GoodIn wsX9_grow (wsV RX9 188 RX9 yX9_wanted wsX9_wanted) := goodIn_app (goodIn_of _ (by decide +kernel)) ggX9_grow_X9_wanted
set_option maxRecDepth 20000 in
theorem ggX9_grow_X9_entry : GoodIn wsX9_grow wsX9_entry := goodIn_r _ [16, 17, 74, 75, 76, 77, 78, 79, 80, 81, 82, 83, 84, 85, 86, 87, 88, 89, 90, 91, 92, 93, 94, 95, 96, 97, 98, 99, 100, 101, 102, 103, 104, 105, 106, 107, 108, 109, 110] rfl (by decide +kernel)
set_option maxRecDepth 20000 in
theorem gX9_grow_X9_entry : GoodIn wsX9_grow (wsV RX9 144 RX9 yX9_entry wsX9_entry) := goodIn_app (goodIn_of _ (by decide +kernel)) ggX9_grow_X9_entry
set_option maxRecDepth 20000 in
theorem ggX9_grow_X9_begin : GoodIn wsX9_grow wsX9_begin := goodIn_r _ [54, 1, 4, 5, 2, 30, 3, 55, 11, 31, 36, 37, 9, 38, 56, 57, 58, 59, 60, 61, 62, 63, 64, 65, 13, 14, 15, 16, 17, 66, 67, 68, 69, 12, 74, 75, 76, 77, 78, 79, 80, 81, 82, 83, 84, 85, 86, 87, 88, 89, 90, 91, 92, 93, 94, 95, 96, 97, 98, 99, 100, 101, 102, 103, 104, 105, 106, 107, 108, 109, 110] rfl (by decide +kernel)
set_option maxRecDepth 20000 in
theorem gX9_grow_X9_begin : GoodIn wsX9_grow (wsV RX9 191 RX9 yX9_begin wsX9_begin) := goodIn_app (goodIn_of _ (by decide +kernel)) ggX9_grow_X9_begin
set_option maxRecDepth 20000 in
theorem ggX9_grow_X9_stopRing : GoodIn wsX9_grow wsX9_stopRing := goodIn_r _ [73, 1, 4, 5, 11, 74, 75, 76, 77, 78, 79, 80, 81, 82, 83, 84, 85, 86, 87, 88, 89, 90, 91, 92, 93, 94, 95, 96, 97, 98, 99, 100, 101, 102, 103, 104, 105, 106, 107, 108, 109, 110] rfl (by decide +kernel)
set_option maxRecDepth 20000 in
theorem gX9_grow_X9_stopRing : GoodIn wsX9_grow (wsV RX9 152 RX9 yX9_stopRing wsX9_stopRing) := goodIn_app (goodIn_of _ (by decide +kernel)) ggX9_grow_X9_stopRing
set_option maxRecDepth 20000 in
theorem ggX9_plainDone_X9_entry : GoodIn wsX9_plainDone wsX9_entry := goodIn_r _ [12, 13, 53, 54, 55, 56, 57, 58, 59, 60, 61, 62, 63, 64, 65, 66, 67, 68, 69, 70, 71, 72, 73, 74, 75, 76, 77, 78, 79, 80, 81, 82, 83, 84, 85, 86, 87, 88, 89] rfl (by decide +kernel)
set_option maxRecDepth 20000 in
theorem gX9_plainDone_X9_entry : GoodIn wsX9_plainDone (wsV RX9 144 RX9 yX9_entry wsX9_entry) := goodIn_app (goodIn_of _ (by decide +kernel)) ggX9_plainDone_X9_entry
set_option maxRecDepth 20000 in
theorem ggX9_plainDone_X9_wanted : GoodIn wsX9_plainDone wsX9_wanted := goodIn_r _ [17, 18, 19, 20, 11, 21, 1, 3, 22, 23, 24, 25, 26, 27, 28, 29, 30, 31, 32, 33, 34, 35, 36, 37, 38, 7, 39, 40, 41, 42, 43, 44, 45, 53, 54, 55, 56, 57, 58, 59, 60, 61, 62, 63, 64, 65, 66, 67, 68, 69, 70, 71, 72, 73, 74, 75, 76, 77, 78, 79, 80, 81, 82, 83, 84, 85, 86, 87, 88, 89] rfl (by decide +kernel)
set_option maxRecDepth 20000 in
theorem gX9_plainDone_X9_wanted : GoodIn wsX9_plainDone (wsV RX9 188 RX9 yX9_wanted wsX9_wanted) := goodIn_app (goodIn_of _ (by decide +kernel)) ggX9_plainDone_X9_wanted
set_option maxRecDepth 20000 in
theorem ggX9_plainDone_X9_isEarly : GoodIn wsX9_plainDone wsX9_isEarly := goodIn_r _ [49, 50, 51, 52, 53, 54, 55, 56, 57, 58, 59, 60, 61, 62, 63, 64, 65, 66, 67, 68, 69, 70, 71, 72, 73, 74, 75, 76, 77, 78, 79, 80, 81, 82, 83, 84, 85, 86, 87, 88, 89] rfl (by decide +kernel)
set_option maxRecDepth 20000 in
theorem gX9_plainDone_X9_isEarly : GoodIn wsX9_plainDone (wsV RX9 194 RX9 yX9_isEarly wsX9_isEarly) := goodIn_app (goodIn_of _ (by decide +kernel)) ggX9_plainDone_X9_isEarly
set_option maxRecDepth 20000 in
theorem ggX9_greaterDone_X9_goal : GoodIn wsX9_greaterDone wsX9_goal := goodIn_r _ [9, 10, 16, 17, 18, 19, 20, 21, 22, 23, 24, 25, 26, 27, 28, 29, 30, 31, 32, 33, 34, 35, 36, 37, 38, 39, 40, 41, 42, 43, 44, 45, 46, 47, 48, 49, 50, 51, 52] rfl (by decide +kernel)
set_option maxRecDepth 20000 in
theorem gX9_greaterDone_X9_goal : GoodIn wsX9_greaterDone (wsV RX9 197 RX9 yX9_goal wsX9_goal) := goodIn_app (goodIn_of _ (by decide +kernel)) ggX9_greaterDone_X9_goal
set_option maxRecDepth 20000 in
theorem ggX9_greaterDone_X9_entry : GoodIn wsX9_greaterDone wsX9_entry := goodIn_r _ [14, 15, 16, 17, 18, 19, 20, 21, 22, 23, 24, 25, 26, 27, 28, 29, 30, 31, 32, 33, 34, 35, 36, 37, 38, 39, 40, 41, 42, 43, 44, 45, 46, 47, 48, 49, 50, 51, 52] rfl (by decide +kernel)
set_option maxRecDepth 20000 in
theorem gX9_greaterDone_X9_entry : GoodIn wsX9_greaterDone (wsV RX9 144 RX9 yX9_entry wsX9_entry) := goodIn_app (goodIn_of _ (by decide +kernel)) ggX9_greaterDone_X9_entry
set_option maxRecDepth 20000 in
theorem ggX9_empty_X9_plainDone : GoodIn wsX9_empty wsX9_plainDone := goodIn_r _ [6, 1, 7, 8, 9, 10, 11, 12, 13, 14, 15, 5, 16, 17, 18, 19, 20, 21, 22, 23, 24, 25, 26, 27, 28, 29, 30, 31, 32, 33, 34, 35, 36, 37, 38, 39, 40, 41, 42, 43, 44, 45, 46, 47, 48, 49, 50, 51, 52, 53, 54, 55, 56, 71, 72, 73, 74, 75, 76, 77, 78, 79, 80, 81, 82, 83, 84, 85, 86, 87, 88, 89, 90, 91, 92, 93, 94, 95, 96, 97, 98, 99, 100, 101, 102, 103, 104, 105, 106, 107] rfl (by decide +kernel)
set_option maxRecDepth 20000 in
theorem gX9_empty_X9_plainDone : GoodIn wsX9_empty (wsV RX9 200 RX9 yX9_plainDone wsX9_plainDone) := goodIn_app (goodIn_of _ (by decide +kernel)) ggX9_empty_X9_plainDone
set_option maxRecDepth 20000 in
theorem ggX9_empty_X9_greaterDone : GoodIn wsX9_empty wsX9_greaterDone := goodIn_r _ [60, 1, 8, 7, 9, 61, 62, 63, 5, 64, 65, 13, 14, 15, 16, 17, 71, 72, 73, 74, 75, 76, 77, 78, 79, 80, 81, 82, 83, 84, 85, 86, 87, 88, 89, 90, 91, 92, 93, 94, 95, 96, 97, 98, 99, 100, 101, 102, 103, 104, 105, 106, 107] rfl (by decide +kernel)
set_option maxRecDepth 20000 in
theorem gX9_empty_X9_greaterDone : GoodIn wsX9_empty (wsV RX9 203 RX9 yX9_greaterDone wsX9_greaterDone) := goodIn_app (goodIn_of _ (by decide +kernel)) ggX9_empty_X9_greaterDone
set_option maxRecDepth 20000 in
theorem ggX9_empty_X9_yellow : GoodIn wsX9_empty wsX9_yellow := goodIn_r _ [69, 1, 7, 70, 71, 72, 73, 74, 75, 76, 77, 78, 79, 80, 81, 82, 83, 84, 85, 86, 87, 88, 89, 90, 91, 92, 93, 94, 95, 96, 97, 98, 99, 100, 101, 102, 103, 104, 105, 106, 107] rfl (by decide +kernel)
set_option maxRecDepth 20000 in
theorem gX9_empty_X9_yellow : GoodIn wsX9_empty (wsV RX9 207 RX9 yX9_yellow wsX9_yellow) := goodIn_app (goodIn_of _ (by decide +kernel)) ggX9_empty_X9_yellow
set_option maxRecDepth 20000 in
theorem ggX9_cross_X9_calledOn : GoodIn wsX9_cross wsX9_calledOn := goodIn_r _ [7, 8, 9, 6, 10, 11, 12, 13, 14, 15, 16, 17, 18, 19, 20, 21, 22, 23, 24, 25, 55, 56, 57, 58, 59, 60, 61, 62, 63, 64, 65, 66, 67, 68, 69, 70, 71, 72, 73, 74, 75, 76, 77, 78, 79, 80, 81, 82, 83, 84, 85, 86, 87, 88, 89, 90, 91] rfl (by decide +kernel)
set_option maxRecDepth 20000 in
theorem gX9_cross_X9_calledOn : GoodIn wsX9_cross (wsV RX9 161 RX9 yX9_calledOn wsX9_calledOn) := goodIn_app (goodIn_of _ (by decide +kernel)) ggX9_cross_X9_calledOn
set_option maxRecDepth 20000 in
theorem ggX9_cross_X9_called : GoodIn wsX9_cross wsX9_called := goodIn_r _ [14, 15, 16, 17, 18, 19, 6, 20, 21, 22, 23, 24, 25, 55, 56, 57, 58, 59, 60, 61, 62, 63, 64, 65, 66, 67, 68, 69, 70, 71, 72, 73, 74, 75, 76, 77, 78, 79, 80, 81, 82, 83, 84, 85, 86, 87, 88, 89, 90, 91] rfl (by decide +kernel)
set_option maxRecDepth 20000 in
theorem gX9_cross_X9_called : GoodIn wsX9_cross (wsV RX9 158 RX9 yX9_called wsX9_called) := goodIn_app (goodIn_of _ (by decide +kernel)) ggX9_cross_X9_called
set_option maxRecDepth 20000 in
theorem ggX9_cross_X9_begin : GoodIn wsX9_cross wsX9_begin := goodIn_r _ [29, 21, 22, 30, 31, 15, 32, 33, 34, 16, 23, 24, 6, 25, 35, 36, 37, 38, 39, 40, 41, 42, 43, 44, 45, 46, 47, 48, 49, 50, 51, 52, 53, 54, 55, 56, 57, 58, 59, 60, 61, 62, 63, 64, 65, 66, 67, 68, 69, 70, 71, 72, 73, 74, 75, 76, 77, 78, 79, 80, 81, 82, 83, 84, 85, 86, 87, 88, 89, 90, 91] rfl (by decide +kernel)
set_option maxRecDepth 20000 in
theorem gX9_cross_X9_begin : GoodIn wsX9_cross (wsV RX9 191 RX9 yX9_begin wsX9_begin) := goodIn_app (goodIn_of _ (by decide +kernel)) ggX9_cross_X9_begin
set_option maxRecDepth 20000 in
theorem ggX9_actPlain_X9_wanted : GoodIn wsX9_actPlain wsX9_wanted := goodIn_r _ [10, 11, 12, 13, 9, 14, 1, 3, 15, 16, 17, 18, 19, 2, 20, 21, 22, 23, 24, 25, 26, 27, 28, 29, 30, 5, 31, 32, 33, 34, 35, 36, 37, 102, 103, 104, 105, 106, 107, 108, 109, 110, 111, 112, 113, 114, 115, 116, 117, 118, 119, 120, 121, 122, 123, 124, 125, 126, 127, 128, 129, 130, 131, 132, 133, 134, 135, 136, 137, 138] rfl (by decide +kernel)
set_option maxRecDepth 20000 in
theorem gX9_actPlain_X9_wanted : GoodIn wsX9_actPlain (wsV RX9 188 RX9 yX9_wanted wsX9_wanted) := goodIn_app (goodIn_of _ (by decide +kernel)) ggX9_actPlain_X9_wanted
set_option maxRecDepth 20000 in
theorem ggX9_actPlain_X9_beginWalk : GoodIn wsX9_actPlain wsX9_beginWalk := goodIn_r _ [41, 4, 42, 2, 3, 102, 103, 104, 105, 106, 107, 108, 109, 110, 111, 112, 113, 114, 115, 116, 117, 118, 119, 120, 121, 122, 123, 124, 125, 126, 127, 128, 129, 130, 131, 132, 133, 134, 135, 136, 137, 138] rfl (by decide +kernel)
set_option maxRecDepth 20000 in
theorem gX9_actPlain_X9_beginWalk : GoodIn wsX9_actPlain (wsV RX9 181 RX9 yX9_beginWalk wsX9_beginWalk) := goodIn_app (goodIn_of _ (by decide +kernel)) ggX9_actPlain_X9_beginWalk
set_option maxRecDepth 20000 in
theorem ggX9_actPlain_X9_plainDone : GoodIn wsX9_actPlain wsX9_plainDone := goodIn_r _ [46, 1, 47, 3, 4, 48, 49, 5, 50, 51, 52, 9, 53, 54, 6, 7, 8, 10, 11, 12, 13, 14, 15, 16, 17, 18, 19, 2, 20, 21, 22, 23, 24, 25, 26, 27, 28, 29, 30, 31, 32, 33, 34, 35, 36, 37, 55, 56, 57, 58, 59, 60, 61, 102, 103, 104, 105, 106, 107, 108, 109, 110, 111, 112, 113, 114, 115, 116, 117, 118, 119, 120, 121, 122, 123, 124, 125, 126, 127, 128, 129, 130, 131, 132, 133, 134, 135, 136, 137, 138] rfl (by decide +kernel)
set_option maxRecDepth 20000 in
theorem gX9_actPlain_X9_plainDone : GoodIn wsX9_actPlain (wsV RX9 200 RX9 yX9_plainDone wsX9_plainDone) := goodIn_app (goodIn_of _ (by decide +kernel)) ggX9_actPlain_X9_plainDone
set_option maxRecDepth 20000 in
theorem ggX9_actPlain_X9_forward : GoodIn wsX9_actPlain wsX9_forward := goodIn_r _ [14, 1, 3, 15, 16, 17, 9, 18, 19, 2, 20, 21, 22, 23, 24, 25, 26, 102, 103, 104, 105, 106, 107, 108, 109, 110, 111, 112, 113, 114, 115, 116, 117, 118, 119, 120, 121, 122, 123, 124, 125, 126, 127, 128, 129, 130, 131, 132, 133, 134, 135, 136, 137, 138] rfl (by decide +kernel)
set_option maxRecDepth 20000 in
theorem gX9_actPlain_X9_forward : GoodIn wsX9_actPlain (wsV RX9 164 RX9 yX9_forward wsX9_forward) := goodIn_app (goodIn_of _ (by decide +kernel)) ggX9_actPlain_X9_forward
set_option maxRecDepth 20000 in
theorem ggX9_actPlain_X9_yellow : GoodIn wsX9_actPlain wsX9_yellow := goodIn_r _ [65, 1, 47, 66, 102, 103, 104, 105, 106, 107, 108, 109, 110, 111, 112, 113, 114, 115, 116, 117, 118, 119, 120, 121, 122, 123, 124, 125, 126, 127, 128, 129, 130, 131, 132, 133, 134, 135, 136, 137, 138] rfl (by decide +kernel)
set_option maxRecDepth 20000 in
theorem gX9_actPlain_X9_yellow : GoodIn wsX9_actPlain (wsV RX9 207 RX9 yX9_yellow wsX9_yellow) := goodIn_app (goodIn_of _ (by decide +kernel)) ggX9_actPlain_X9_yellow
set_option maxRecDepth 20000 in
theorem ggX9_actPlain_X9_isEarly : GoodIn wsX9_actPlain wsX9_isEarly := goodIn_r _ [58, 59, 60, 61, 102, 103, 104, 105, 106, 107, 108, 109, 110, 111, 112, 113, 114, 115, 116, 117, 118, 119, 120, 121, 122, 123, 124, 125, 126, 127, 128, 129, 130, 131, 132, 133, 134, 135, 136, 137, 138] rfl (by decide +kernel)
set_option maxRecDepth 20000 in
theorem gX9_actPlain_X9_isEarly : GoodIn wsX9_actPlain (wsV RX9 194 RX9 yX9_isEarly wsX9_isEarly) := goodIn_app (goodIn_of _ (by decide +kernel)) ggX9_actPlain_X9_isEarly
set_option maxRecDepth 20000 in
theorem ggX9_actPlain_X9_empty : GoodIn wsX9_actPlain wsX9_empty := goodIn_r _ [70, 1, 43, 44, 45, 9, 46, 47, 3, 4, 48, 49, 5, 50, 51, 52, 53, 54, 6, 7, 8, 10, 11, 12, 13, 14, 15, 16, 17, 18, 19, 2, 20, 21, 22, 23, 24, 25, 26, 27, 28, 29, 30, 31, 32, 33, 34, 35, 36, 37, 55, 56, 57, 58, 59, 60, 61, 71, 72, 73, 74, 75, 76, 77, 78, 79, 62, 63, 64, 65, 66, 102, 103, 104, 105, 106, 107, 108, 109, 110, 111, 112, 113, 114, 115, 116, 117, 118, 119, 120, 121, 122, 123, 124, 125, 126, 127, 128, 129, 130, 131, 132, 133, 134, 135, 136, 137, 138] rfl (by decide +kernel)
set_option maxRecDepth 20000 in
theorem gX9_actPlain_X9_empty : GoodIn wsX9_actPlain (wsV RX9 210 RX9 yX9_empty wsX9_empty) := goodIn_app (goodIn_of _ (by decide +kernel)) ggX9_actPlain_X9_empty
set_option maxRecDepth 20000 in
theorem ggX9_actPlain_X9_bothWait : GoodIn wsX9_actPlain wsX9_bothWait := goodIn_r _ [83, 1, 102, 103, 104, 105, 106, 107, 108, 109, 110, 111, 112, 113, 114, 115, 116, 117, 118, 119, 120, 121, 122, 123, 124, 125, 126, 127, 128, 129, 130, 131, 132, 133, 134, 135, 136, 137, 138] rfl (by decide +kernel)
set_option maxRecDepth 20000 in
theorem gX9_actPlain_X9_bothWait : GoodIn wsX9_actPlain (wsV RX9 213 RX9 yX9_bothWait wsX9_bothWait) := goodIn_app (goodIn_of _ (by decide +kernel)) ggX9_actPlain_X9_bothWait
set_option maxRecDepth 20000 in
theorem ggX9_actPlain_X9_cross : GoodIn wsX9_actPlain wsX9_cross := goodIn_r _ [87, 5, 79, 31, 32, 33, 9, 34, 35, 36, 37, 15, 16, 17, 18, 19, 2, 20, 21, 22, 23, 1, 3, 24, 25, 26, 88, 89, 90, 91, 66, 47, 49, 48, 4, 92, 93, 94, 95, 96, 97, 98, 99, 100, 101, 50, 51, 52, 53, 54, 38, 39, 40, 41, 42, 102, 103, 104, 105, 106, 107, 108, 109, 110, 111, 112, 113, 114, 115, 116, 117, 118, 119, 120, 121, 122, 123, 124, 125, 126, 127, 128, 129, 130, 131, 132, 133, 134, 135, 136, 137, 138] rfl (by decide +kernel)
set_option maxRecDepth 20000 in
theorem gX9_actPlain_X9_cross : GoodIn wsX9_actPlain (wsV RX9 216 RX9 yX9_cross wsX9_cross) := goodIn_app (goodIn_of _ (by decide +kernel)) ggX9_actPlain_X9_cross
set_option maxRecDepth 20000 in
theorem ggX9_actGreater_X9_sideOf : GoodIn wsX9_actGreater wsX9_sideOf := goodIn_r _ [8] rfl (by decide +kernel)
set_option maxRecDepth 20000 in
theorem gX9_actGreater_X9_sideOf : GoodIn wsX9_actGreater (va_wsS RX9 137 yX9_sideOf wsX9_sideOf) := goodIn_app (goodIn_of _ (by decide +kernel)) ggX9_actGreater_X9_sideOf
set_option maxRecDepth 20000 in
theorem ggX9_actGreater_X9_greaterDone : GoodIn wsX9_actGreater wsX9_greaterDone := goodIn_r _ [12, 4, 13, 14, 1, 15, 16, 17, 7, 18, 19, 20, 21, 22, 23, 24, 98, 99, 100, 101, 102, 103, 104, 105, 106, 107, 108, 109, 110, 111, 112, 113, 114, 115, 116, 117, 118, 119, 120, 121, 122, 123, 124, 125, 126, 127, 128, 129, 130, 131, 132, 133, 134] rfl (by decide +kernel)
set_option maxRecDepth 20000 in
theorem gX9_actGreater_X9_greaterDone : GoodIn wsX9_actGreater (wsV RX9 203 RX9 yX9_greaterDone wsX9_greaterDone) := goodIn_app (goodIn_of _ (by decide +kernel)) ggX9_actGreater_X9_greaterDone
set_option maxRecDepth 20000 in
theorem ggX9_actGreater_X9_goal : GoodIn wsX9_actGreater wsX9_goal := goodIn_r _ [18, 19, 98, 99, 100, 101, 102, 103, 104, 105, 106, 107, 108, 109, 110, 111, 112, 113, 114, 115, 116, 117, 118, 119, 120, 121, 122, 123, 124, 125, 126, 127, 128, 129, 130, 131, 132, 133, 134] rfl (by decide +kernel)
set_option maxRecDepth 20000 in
theorem gX9_actGreater_X9_goal : GoodIn wsX9_actGreater (wsV RX9 197 RX9 yX9_goal wsX9_goal) := goodIn_app (goodIn_of _ (by decide +kernel)) ggX9_actGreater_X9_goal
set_option maxRecDepth 20000 in
theorem ggX9_actGreater_X9_yellow : GoodIn wsX9_actGreater wsX9_yellow := goodIn_r _ [28, 4, 14, 29, 98, 99, 100, 101, 102, 103, 104, 105, 106, 107, 108, 109, 110, 111, 112, 113, 114, 115, 116, 117, 118, 119, 120, 121, 122, 123, 124, 125, 126, 127, 128, 129, 130, 131, 132, 133, 134] rfl (by decide +kernel)
set_option maxRecDepth 20000 in
theorem gX9_actGreater_X9_yellow : GoodIn wsX9_actGreater (wsV RX9 207 RX9 yX9_yellow wsX9_yellow) := goodIn_app (goodIn_of _ (by decide +kernel)) ggX9_actGreater_X9_yellow
