set_option maxRecDepth 20000 in
theorem ggX9_actGreater_X9_empty : GoodIn wsX9_actGreater wsX9_empty := goodIn_r _ [33, 4, 34, 35, 36, 7, 37, 14, 13, 1, 38, 39, 3, 20, 21, 22, 23, 24, 40, 41, 42, 43, 44, 45, 46, 47, 48, 49, 50, 51, 52, 53, 54, 55, 56, 57, 58, 59, 60, 61, 62, 63, 64, 65, 66, 67, 68, 5, 6, 8, 69, 70, 71, 72, 73, 74, 75, 9, 10, 11, 12, 15, 16, 17, 18, 19, 25, 26, 27, 28, 29, 98, 99, 100, 101, 102, 103, 104, 105, 106, 107, 108, 109, 110, 111, 112, 113, 114, 115, 116, 117, 118, 119, 120, 121, 122, 123, 124, 125, 126, 127, 128, 129, 130, 131, 132, 133, 134] rfl (by decide +kernel)
set_option maxRecDepth 20000 in
theorem gX9_actGreater_X9_empty : GoodIn wsX9_actGreater (wsV RX9 210 RX9 yX9_empty wsX9_empty) := goodIn_app (goodIn_of _ (by decide +kernel)) ggX9_actGreater_X9_empty
set_option maxRecDepth 20000 in
theorem ggX9_actGreater_X9_bothWait : GoodIn wsX9_actGreater wsX9_bothWait := goodIn_r _ [79, 4, 98, 99, 100, 101, 102, 103, 104, 105, 106, 107, 108, 109, 110, 111, 112, 113, 114, 115, 116, 117, 118, 119, 120, 121, 122, 123, 124, 125, 126, 127, 128, 129, 130, 131, 132, 133, 134] rfl (by decide +kernel)
set_option maxRecDepth 20000 in
theorem gX9_actGreater_X9_bothWait : GoodIn wsX9_actGreater (wsV RX9 213 RX9 yX9_bothWait wsX9_bothWait) := goodIn_app (goodIn_of _ (by decide +kernel)) ggX9_actGreater_X9_bothWait
set_option maxRecDepth 20000 in
theorem ggX9_actGreater_X9_begin : GoodIn wsX9_actGreater wsX9_begin := goodIn_r _ [83, 4, 13, 29, 14, 52, 39, 38, 1, 53, 58, 59, 7, 60, 84, 85, 86, 87, 88, 89, 90, 91, 92, 93, 20, 21, 22, 23, 24, 94, 95, 96, 97, 2, 98, 99, 100, 101, 102, 103, 104, 105, 106, 107, 108, 109, 110, 111, 112, 113, 114, 115, 116, 117, 118, 119, 120, 121, 122, 123, 124, 125, 126, 127, 128, 129, 130, 131, 132, 133, 134] rfl (by decide +kernel)
set_option maxRecDepth 20000 in
theorem gX9_actGreater_X9_begin : GoodIn wsX9_actGreater (wsV RX9 191 RX9 yX9_begin wsX9_begin) := goodIn_app (goodIn_of _ (by decide +kernel)) ggX9_actGreater_X9_begin
set_option maxRecDepth 20000 in
theorem ggX9_lampsOf_X9_ringOf : GoodIn wsX9_lampsOf wsX9_ringOf := goodIn_r _ [8] rfl (by decide +kernel)
set_option maxRecDepth 20000 in
theorem gX9_lampsOf_X9_ringOf : GoodIn wsX9_lampsOf (va_wsS RX9 126 yX9_ringOf wsX9_ringOf) := goodIn_app (goodIn_of _ (by decide +kernel)) ggX9_lampsOf_X9_ringOf
set_option maxRecDepth 20000 in
theorem ggX9_conflict_X9_sideOf : GoodIn wsX9_conflict wsX9_sideOf := goodIn_r _ [5] rfl (by decide +kernel)
set_option maxRecDepth 20000 in
theorem gX9_conflict_X9_sideOf : GoodIn wsX9_conflict (va_wsS RX9 137 yX9_sideOf wsX9_sideOf) := goodIn_app (goodIn_of _ (by decide +kernel)) ggX9_conflict_X9_sideOf
set_option maxRecDepth 20000 in
theorem ggX9_watch_X9_lampsOf : GoodIn wsX9_watch wsX9_lampsOf := goodIn_r _ [9, 10, 11, 12, 13, 14, 15, 8, 16, 41, 42, 43, 44, 45, 46, 47, 48, 49, 50, 51, 52, 53, 54, 55, 56, 57, 58, 59, 60, 61, 62, 63, 64, 65, 66, 67, 68, 69, 70, 71, 72, 73, 74, 75, 76, 77] rfl (by decide +kernel)
set_option maxRecDepth 20000 in
theorem gX9_watch_X9_lampsOf : GoodIn wsX9_watch (wsV RX9 219 RX9 yX9_lampsOf wsX9_lampsOf) := goodIn_app (goodIn_of _ (by decide +kernel)) ggX9_watch_X9_lampsOf
set_option maxRecDepth 20000 in
theorem ggX9_watch_X9_dark : GoodIn wsX9_watch wsX9_dark := goodIn_r _ [20, 21, 10, 1, 41, 42, 43, 44, 45, 46, 47, 48, 49, 50, 51, 52, 53, 54, 55, 56, 57, 58, 59, 60, 61, 62, 63, 64, 65, 66, 67, 68, 69, 70, 71, 72, 73, 74, 75, 76, 77] rfl (by decide +kernel)
set_option maxRecDepth 20000 in
theorem gX9_watch_X9_dark : GoodIn wsX9_watch (wsV RX9 222 RX9 yX9_dark wsX9_dark) := goodIn_app (goodIn_of _ (by decide +kernel)) ggX9_watch_X9_dark
set_option maxRecDepth 20000 in
theorem ggX9_watch_X9_tooShort : GoodIn wsX9_watch wsX9_tooShort := goodIn_r _ [25, 1, 26, 27, 41, 42, 43, 44, 45, 46, 47, 48, 49, 50, 51, 52, 53, 54, 55, 56, 57, 58, 59, 60, 61, 62, 63, 64, 65, 66, 67, 68, 69, 70, 71, 72, 73, 74, 75, 76, 77] rfl (by decide +kernel)
set_option maxRecDepth 20000 in
theorem gX9_watch_X9_tooShort : GoodIn wsX9_watch (wsV RX9 225 RX9 yX9_tooShort wsX9_tooShort) := goodIn_app (goodIn_of _ (by decide +kernel)) ggX9_watch_X9_tooShort
set_option maxRecDepth 20000 in
theorem ggX9_watch_X9_conflict : GoodIn wsX9_watch wsX9_conflict := goodIn_r _ [31, 1, 32, 33, 8, 34, 41, 42, 43, 44, 45, 46, 47, 48, 49, 50, 51, 52, 53, 54, 55, 56, 57, 58, 59, 60, 61, 62, 63, 64, 65, 66, 67, 68, 69, 70, 71, 72, 73, 74, 75, 76, 77] rfl (by decide +kernel)
set_option maxRecDepth 20000 in
theorem gX9_watch_X9_conflict : GoodIn wsX9_watch (wsV RX9 228 RX9 yX9_conflict wsX9_conflict) := goodIn_app (goodIn_of _ (by decide +kernel)) ggX9_watch_X9_conflict
set_option maxRecDepth 20000 in
theorem ggX9_watch_X9_stopRing : GoodIn wsX9_watch wsX9_stopRing := goodIn_r _ [38, 11, 12, 39, 40, 41, 42, 43, 44, 45, 46, 47, 48, 49, 50, 51, 52, 53, 54, 55, 56, 57, 58, 59, 60, 61, 62, 63, 64, 65, 66, 67, 68, 69, 70, 71, 72, 73, 74, 75, 76, 77] rfl (by decide +kernel)
set_option maxRecDepth 20000 in
theorem gX9_watch_X9_stopRing : GoodIn wsX9_watch (wsV RX9 152 RX9 yX9_stopRing wsX9_stopRing) := goodIn_app (goodIn_of _ (by decide +kernel)) ggX9_watch_X9_stopRing
set_option maxRecDepth 20000 in
theorem ggX9_step_X9_sense : GoodIn wsX9_step wsX9_sense := goodIn_r _ [9, 10, 11, 12, 13, 14, 179, 180, 181, 182, 183, 184, 185, 186, 187, 188, 189, 190, 191, 192, 193, 194, 195, 196, 197, 198, 199, 200, 201, 202, 203, 204, 205, 206, 207, 208, 209, 210, 211, 212, 213, 214, 215] rfl (by decide +kernel)
set_option maxRecDepth 20000 in
theorem gX9_step_X9_sense : GoodIn wsX9_step (wsV RX9 231 RX9 yX9_sense wsX9_sense) := goodIn_app (goodIn_of _ (by decide +kernel)) ggX9_step_X9_sense
set_option maxRecDepth 20000 in
theorem ggX9_step_X9_link : GoodIn wsX9_step wsX9_link := goodIn_r _ [18, 19, 20, 21, 22, 23, 24, 179, 180, 181, 182, 183, 184, 185, 186, 187, 188, 189, 190, 191, 192, 193, 194, 195, 196, 197, 198, 199, 200, 201, 202, 203, 204, 205, 206, 207, 208, 209, 210, 211, 212, 213, 214, 215] rfl (by decide +kernel)
set_option maxRecDepth 20000 in
theorem gX9_step_X9_link : GoodIn wsX9_step (wsV RX9 234 RX9 yX9_link wsX9_link) := goodIn_app (goodIn_of _ (by decide +kernel)) ggX9_step_X9_link
set_option maxRecDepth 20000 in
theorem ggX9_step_X9_runs : GoodIn wsX9_step wsX9_runs := goodIn_r _ [28, 29, 30, 179, 180, 181, 182, 183, 184, 185, 186, 187, 188, 189, 190, 191, 192, 193, 194, 195, 196, 197, 198, 199, 200, 201, 202, 203, 204, 205, 206, 207, 208, 209, 210, 211, 212, 213, 214, 215] rfl (by decide +kernel)
set_option maxRecDepth 20000 in
theorem gX9_step_X9_runs : GoodIn wsX9_step (wsV RX9 237 RX9 yX9_runs wsX9_runs) := goodIn_app (goodIn_of _ (by decide +kernel)) ggX9_step_X9_runs
set_option maxRecDepth 20000 in
theorem ggX9_step_X9_inputOf : GoodIn wsX9_step wsX9_inputOf := goodIn_r _ [34, 35, 4, 2, 179, 180, 181, 182, 183, 184, 185, 186, 187, 188, 189, 190, 191, 192, 193, 194, 195, 196, 197, 198, 199, 200, 201, 202, 203, 204, 205, 206, 207, 208, 209, 210, 211, 212, 213, 214, 215] rfl (by decide +kernel)
set_option maxRecDepth 20000 in
theorem gX9_step_X9_inputOf : GoodIn wsX9_step (wsV RX9 240 RX9 yX9_inputOf wsX9_inputOf) := goodIn_app (goodIn_of _ (by decide +kernel)) ggX9_step_X9_inputOf
set_option maxRecDepth 20000 in
theorem ggX9_step_X9_call : GoodIn wsX9_step wsX9_call := goodIn_r _ [39, 2, 40, 11, 3, 41, 42, 43, 44, 8, 45, 46, 47, 48, 49, 50, 51, 52, 53, 54, 55, 56, 57, 58, 59, 60, 61, 62, 63, 10, 179, 180, 181, 182, 183, 184, 185, 186, 187, 188, 189, 190, 191, 192, 193, 194, 195, 196, 197, 198, 199, 200, 201, 202, 203, 204, 205, 206, 207, 208, 209, 210, 211, 212, 213, 214, 215] rfl (by decide +kernel)
set_option maxRecDepth 20000 in
theorem gX9_step_X9_call : GoodIn wsX9_step (wsV RX9 243 RX9 yX9_call wsX9_call) := goodIn_app (goodIn_of _ (by decide +kernel)) ggX9_step_X9_call
set_option maxRecDepth 20000 in
theorem ggX9_step_X9_grow : GoodIn wsX9_step wsX9_grow := goodIn_r _ [67, 51, 68, 69, 52, 70, 71, 72, 73, 8, 74, 75, 76, 42, 43, 44, 45, 46, 77, 78, 79, 80, 81, 82, 83, 84, 85, 86, 87, 88, 3, 41, 47, 48, 49, 50, 53, 54, 55, 89, 90, 91, 92, 93, 94, 95, 96, 97, 98, 99, 100, 101, 102, 103, 104, 40, 56, 57, 58, 59, 11, 60, 61, 62, 63, 10, 105, 106, 107, 108, 109, 110, 111, 112, 179, 180, 181, 182, 183, 184, 185, 186, 187, 188, 189, 190, 191, 192, 193, 194, 195, 196, 197, 198, 199, 200, 201, 202, 203, 204, 205, 206, 207, 208, 209, 210, 211, 212, 213, 214, 215] rfl (by decide +kernel)
set_option maxRecDepth 20000 in
theorem gX9_step_X9_grow : GoodIn wsX9_step (wsV RX9 246 RX9 yX9_grow wsX9_grow) := goodIn_app (goodIn_of _ (by decide +kernel)) ggX9_step_X9_grow
set_option maxRecDepth 20000 in
theorem ggX9_step_X9_isGreen : GoodIn wsX9_step wsX9_isGreen := goodIn_r _ [50, 51, 52, 53, 54, 8, 55, 179, 180, 181, 182, 183, 184, 185, 186, 187, 188, 189, 190, 191, 192, 193, 194, 195, 196, 197, 198, 199, 200, 201, 202, 203, 204, 205, 206, 207, 208, 209, 210, 211, 212, 213, 214, 215] rfl (by decide +kernel)
set_option maxRecDepth 20000 in
theorem gX9_step_X9_isGreen : GoodIn wsX9_step (wsV RX9 155 RX9 yX9_isGreen wsX9_isGreen) := goodIn_app (goodIn_of _ (by decide +kernel)) ggX9_step_X9_isGreen
set_option maxRecDepth 20000 in
theorem ggX9_step_X9_actGreater : GoodIn wsX9_step wsX9_actGreater := goodIn_r _ [116, 75, 76, 93, 51, 98, 99, 8, 100, 117, 118, 119, 120, 52, 68, 121, 122, 123, 124, 2, 42, 43, 44, 45, 46, 125, 126, 127, 128, 70, 129, 130, 131, 132, 133, 134, 135, 136, 40, 69, 77, 78, 79, 80, 81, 82, 83, 84, 85, 86, 87, 88, 3, 41, 47, 48, 49, 50, 53, 54, 55, 89, 90, 91, 92, 94, 95, 96, 97, 137, 138, 139, 140, 19, 21, 141, 142, 143, 144, 145, 101, 102, 103, 104, 56, 57, 58, 59, 11, 60, 61, 62, 63, 10, 105, 106, 107, 108, 179, 180, 181, 182, 183, 184, 185, 186, 187, 188, 189, 190, 191, 192, 193, 194, 195, 196, 197, 198, 199, 200, 201, 202, 203, 204, 205, 206, 207, 208, 209, 210, 211, 212, 213, 214, 215] rfl (by decide +kernel)
set_option maxRecDepth 20000 in
theorem gX9_step_X9_actGreater : GoodIn wsX9_step (wsV RX9 250 RX9 yX9_actGreater wsX9_actGreater) := goodIn_app (goodIn_of _ (by decide +kernel)) ggX9_step_X9_actGreater
set_option maxRecDepth 20000 in
theorem ggX9_step_X9_actPlain : GoodIn wsX9_step wsX9_actPlain := goodIn_r _ [149, 51, 41, 52, 75, 93, 77, 78, 79, 8, 80, 81, 82, 83, 84, 85, 86, 87, 88, 3, 47, 48, 49, 50, 53, 54, 55, 89, 90, 91, 92, 94, 95, 96, 97, 98, 99, 100, 105, 106, 107, 108, 76, 133, 134, 135, 136, 68, 40, 69, 42, 43, 44, 45, 46, 137, 138, 139, 140, 19, 21, 141, 125, 126, 127, 128, 70, 129, 130, 131, 132, 117, 118, 119, 120, 121, 122, 123, 124, 2, 142, 143, 144, 145, 150, 151, 152, 153, 101, 102, 103, 104, 56, 57, 58, 59, 11, 60, 61, 62, 63, 10, 179, 180, 181, 182, 183, 184, 185, 186, 187, 188, 189, 190, 191, 192, 193, 194, 195, 196, 197, 198, 199, 200, 201, 202, 203, 204, 205, 206, 207, 208, 209, 210, 211, 212, 213, 214, 215] rfl (by decide +kernel)
set_option maxRecDepth 20000 in
theorem gX9_step_X9_actPlain : GoodIn wsX9_step (wsV RX9 253 RX9 yX9_actPlain wsX9_actPlain) := goodIn_app (goodIn_of _ (by decide +kernel)) ggX9_step_X9_actPlain
set_option maxRecDepth 20000 in
theorem ggX9_step_X9_watch : GoodIn wsX9_step wsX9_watch := goodIn_r _ [157, 158, 30, 3, 41, 159, 160, 161, 8, 162, 2, 51, 52, 163, 53, 54, 55, 164, 165, 166, 167, 168, 169, 170, 171, 172, 173, 174, 175, 176, 177, 178, 98, 99, 100, 109, 110, 111, 112, 70, 75, 179, 180, 181, 182, 183, 184, 185, 186, 187, 188, 189, 190, 191, 192, 193, 194, 195, 196, 197, 198, 199, 200, 201, 202, 203, 204, 205, 206, 207, 208, 209, 210, 211, 212, 213, 214, 215] rfl (by decide +kernel)
set_option maxRecDepth 20000 in
theorem gX9_step_X9_watch : GoodIn wsX9_step (wsV RX9 256 RX9 yX9_watch wsX9_watch) := goodIn_app (goodIn_of _ (by decide +kernel)) ggX9_step_X9_watch
set_option maxRecDepth 20000 in
theorem ggX9_place_X9_isCrossing : GoodIn wsX9_place wsX9_isCrossing := goodIn_r _ [6] rfl (by decide +kernel)
set_option maxRecDepth 20000 in
theorem gX9_place_X9_isCrossing : GoodIn wsX9_place (va_wsS RX9 122 yX9_isCrossing wsX9_isCrossing) := goodIn_app (goodIn_of _ (by decide +kernel)) ggX9_place_X9_isCrossing
set_option maxRecDepth 20000 in
theorem ggX9_detect_X9_isPhase : GoodIn wsX9_detect wsX9_isPhase := goodIn_r _ [6, 7, 8, 5, 9] rfl (by decide +kernel)
set_option maxRecDepth 20000 in
theorem gX9_detect_X9_isPhase : GoodIn wsX9_detect (va_wsS RX9 130 yX9_isPhase wsX9_isPhase) := goodIn_app (goodIn_of _ (by decide +kernel)) ggX9_detect_X9_isPhase
set_option maxRecDepth 20000 in
theorem ggX9_press_X9_isPhase : GoodIn wsX9_press wsX9_isPhase := goodIn_r _ [7, 8, 9, 6, 10] rfl (by decide +kernel)
set_option maxRecDepth 20000 in
theorem gX9_press_X9_isPhase : GoodIn wsX9_press (va_wsS RX9 130 yX9_isPhase wsX9_isPhase) := goodIn_app (goodIn_of _ (by decide +kernel)) ggX9_press_X9_isPhase
set_option maxRecDepth 20000 in
theorem ggX9_press_X9_runs : GoodIn wsX9_press wsX9_runs := goodIn_r _ [14, 15, 16, 22, 23, 24, 25, 26, 27, 28, 29, 30, 31, 32, 33, 34, 35, 36, 37, 38, 39, 40, 41, 42, 43, 44, 45, 46, 47, 48, 49, 50, 51, 52, 53, 54, 55, 56, 57, 58] rfl (by decide +kernel)
set_option maxRecDepth 20000 in
theorem gX9_press_X9_runs : GoodIn wsX9_press (wsV RX9 237 RX9 yX9_runs wsX9_runs) := goodIn_app (goodIn_of _ (by decide +kernel)) ggX9_press_X9_runs
set_option maxRecDepth 20000 in
theorem ggX9_press_X9_entry : GoodIn wsX9_press wsX9_entry := goodIn_r _ [20, 21, 22, 23, 24, 25, 26, 27, 28, 29, 30, 31, 32, 33, 34, 35, 36, 37, 38, 39, 40, 41, 42, 43, 44, 45, 46, 47, 48, 49, 50, 51, 52, 53, 54, 55, 56, 57, 58] rfl (by decide +kernel)
set_option maxRecDepth 20000 in
theorem gX9_press_X9_entry : GoodIn wsX9_press (wsV RX9 144 RX9 yX9_entry wsX9_entry) := goodIn_app (goodIn_of _ (by decide +kernel)) ggX9_press_X9_entry
set_option maxRecDepth 20000 in
theorem ggX9_target_X9_isPhase : GoodIn wsX9_target wsX9_isPhase := goodIn_r _ [6, 7, 8, 5, 9] rfl (by decide +kernel)
set_option maxRecDepth 20000 in
theorem gX9_target_X9_isPhase : GoodIn wsX9_target (va_wsS RX9 130 yX9_isPhase wsX9_isPhase) := goodIn_app (goodIn_of _ (by decide +kernel)) ggX9_target_X9_isPhase
set_option maxRecDepth 20000 in
theorem ggX9_preempt_X9_isCrossing : GoodIn wsX9_preempt wsX9_isCrossing := goodIn_r _ [6] rfl (by decide +kernel)
set_option maxRecDepth 20000 in
theorem gX9_preempt_X9_isCrossing : GoodIn wsX9_preempt (va_wsS RX9 122 yX9_isCrossing wsX9_isCrossing) := goodIn_app (goodIn_of _ (by decide +kernel)) ggX9_preempt_X9_isCrossing
set_option maxRecDepth 20000 in
theorem ggX9_message_X9_isCrossing : GoodIn wsX9_message wsX9_isCrossing := goodIn_r _ [10] rfl (by decide +kernel)
set_option maxRecDepth 20000 in
theorem gX9_message_X9_isCrossing : GoodIn wsX9_message (va_wsS RX9 122 yX9_isCrossing wsX9_isCrossing) := goodIn_app (goodIn_of _ (by decide +kernel)) ggX9_message_X9_isCrossing
set_option maxRecDepth 20000 in
theorem ggX9_fault_X9_isPhase : GoodIn wsX9_fault wsX9_isPhase := goodIn_r _ [6, 7, 8, 5, 9] rfl (by decide +kernel)
set_option maxRecDepth 20000 in
theorem gX9_fault_X9_isPhase : GoodIn wsX9_fault (va_wsS RX9 130 yX9_isPhase wsX9_isPhase) := goodIn_app (goodIn_of _ (by decide +kernel)) ggX9_fault_X9_isPhase
set_option maxRecDepth 20000 in
theorem ggX9_reset_X9_isCrossing : GoodIn wsX9_reset wsX9_isCrossing := goodIn_r _ [6] rfl (by decide +kernel)
set_option maxRecDepth 20000 in
theorem gX9_reset_X9_isCrossing : GoodIn wsX9_reset (va_wsS RX9 122 yX9_isCrossing wsX9_isCrossing) := goodIn_app (goodIn_of _ (by decide +kernel)) ggX9_reset_X9_isCrossing
set_option maxRecDepth 20000 in
theorem ggX9_reset_X9_start : GoodIn wsX9_reset wsX9_start := goodIn_r _ [10, 11, 2, 12, 13, 14, 15, 16, 17, 18, 19, 20, 21, 22, 5, 23, 24, 25, 26, 27, 28, 29, 30, 31, 32, 33, 34, 35, 36, 37, 38, 39, 40, 41, 42, 43, 44, 45, 46, 47, 48, 49, 50, 51, 52, 53, 54, 55, 56, 57, 58, 59, 60, 61, 62, 63, 64] rfl (by decide +kernel)
set_option maxRecDepth 20000 in
theorem gX9_reset_X9_start : GoodIn wsX9_reset (wsV RX9 148 RX9 yX9_start wsX9_start) := goodIn_app (goodIn_of _ (by decide +kernel)) ggX9_reset_X9_start
set_option maxRecDepth 20000 in
theorem ggX9_tick_X9_step : GoodIn wsX9_tick wsX9_step := goodIn_r _ [7, 8, 9, 10, 11, 12, 13, 14, 6, 15, 16, 17, 18, 19, 20, 21, 22, 23, 24, 25, 26, 27, 28, 2, 29, 30, 31, 32, 33, 34, 35, 36, 37, 38, 39, 40, 41, 42, 43, 44, 45, 46, 47, 48, 49, 50, 51, 52, 53, 54, 55, 56, 57, 58, 59, 60, 61, 62, 63, 64, 65, 66, 67, 68, 69, 70, 71, 72, 73, 74, 75, 76, 77, 78, 79, 80, 81, 82, 83, 84, 85, 86, 87, 88, 89, 90, 91, 92, 93, 94, 95, 96, 97, 98, 99, 100, 101, 102, 103, 104, 105, 106, 107, 108, 109, 110, 111, 112, 113, 114, 115, 116, 117, 118, 119, 120, 121, 122, 123, 124, 125, 126, 127, 128, 129, 130, 131, 132, 133, 134, 135, 136, 137, 138, 139, 140, 141, 142, 143, 144, 145, 146, 147, 148, 149, 150, 151, 152, 153, 154, 155, 156, 157, 158, 159, 160, 161, 162, 163, 164, 165, 166, 167, 168, 169, 170, 171, 172, 173, 174, 175, 176, 177, 178, 179, 180, 181, 182, 183, 184, 185, 186, 187, 188, 189, 190, 191, 192, 193, 194, 195, 196, 197, 198, 199, 200, 201, 202, 203, 204, 205, 206, 207, 208, 209, 210, 211, 212, 213, 214, 215, 216, 217, 218, 219, 220] rfl (by decide +kernel)
set_option maxRecDepth 20000 in
theorem gX9_tick_X9_step : GoodIn wsX9_tick (wsV RX9 259 RX9 yX9_step wsX9_step) := goodIn_app (goodIn_of _ (by decide +kernel)) ggX9_tick_X9_step
set_option maxRecDepth 20000 in
theorem ggX9_lamp_X9_isPhase : GoodIn wsX9_lamp wsX9_isPhase := goodIn_r _ [8, 9, 10, 7, 11] rfl (by decide +kernel)
set_option maxRecDepth 20000 in
theorem gX9_lamp_X9_isPhase : GoodIn wsX9_lamp (va_wsS RX9 130 yX9_isPhase wsX9_isPhase) := goodIn_app (goodIn_of _ (by decide +kernel)) ggX9_lamp_X9_isPhase
set_option maxRecDepth 20000 in
theorem ggX9_lamp_X9_lampsOf : GoodIn wsX9_lamp wsX9_lampsOf := goodIn_r _ [15, 3, 16, 17, 18, 19, 20, 7, 21, 22, 23, 24, 25, 26, 27, 28, 29, 30, 31, 32, 33, 34, 35, 36, 37, 38, 39, 40, 41, 42, 43, 44, 45, 46, 47, 48, 49, 50, 51, 52, 53, 54, 55, 56, 57, 58] rfl (by decide +kernel)
set_option maxRecDepth 20000 in
theorem gX9_lamp_X9_lampsOf : GoodIn wsX9_lamp (wsV RX9 219 RX9 yX9_lampsOf wsX9_lampsOf) := goodIn_app (goodIn_of _ (by decide +kernel)) ggX9_lamp_X9_lampsOf
set_option maxRecDepth 20000 in
theorem ggX9_signs_X9_isPhase : GoodIn wsX9_signs wsX9_isPhase := goodIn_r _ [8, 9, 10, 7, 11] rfl (by decide +kernel)
set_option maxRecDepth 20000 in
theorem gX9_signs_X9_isPhase : GoodIn wsX9_signs (va_wsS RX9 130 yX9_isPhase wsX9_isPhase) := goodIn_app (goodIn_of _ (by decide +kernel)) ggX9_signs_X9_isPhase
set_option maxRecDepth 20000 in
theorem ggX9_signs_X9_failed : GoodIn wsX9_signs wsX9_failed := goodIn_r _ [15, 16, 26, 27, 28, 29, 30, 31, 32, 33, 34, 35, 36, 37, 38, 39, 40, 41, 42, 43, 44, 45, 46, 47, 48, 49, 50, 51, 52, 53, 54, 55, 56, 57, 58, 59, 60, 61, 62] rfl (by decide +kernel)
set_option maxRecDepth 20000 in
theorem gX9_signs_X9_failed : GoodIn wsX9_signs (wsV RX9 175 RX9 yX9_failed wsX9_failed) := goodIn_app (goodIn_of _ (by decide +kernel)) ggX9_signs_X9_failed
set_option maxRecDepth 20000 in
theorem ggX9_signs_X9_isGreen : GoodIn wsX9_signs wsX9_isGreen := goodIn_r _ [20, 21, 22, 23, 24, 7, 25, 26, 27, 28, 29, 30, 31, 32, 33, 34, 35, 36, 37, 38, 39, 40, 41, 42, 43, 44, 45, 46, 47, 48, 49, 50, 51, 52, 53, 54, 55, 56, 57, 58, 59, 60, 61, 62] rfl (by decide +kernel)
set_option maxRecDepth 20000 in
theorem gX9_signs_X9_isGreen : GoodIn wsX9_signs (wsV RX9 155 RX9 yX9_isGreen wsX9_isGreen) := goodIn_app (goodIn_of _ (by decide +kernel)) ggX9_signs_X9_isGreen
set_option maxRecDepth 20000 in
theorem ggX9_signs_X9_ringOf : GoodIn wsX9_signs wsX9_ringOf := goodIn_r _ [25] rfl (by decide +kernel)
set_option maxRecDepth 20000 in
theorem gX9_signs_X9_ringOf : GoodIn wsX9_signs (va_wsS RX9 126 yX9_ringOf wsX9_ringOf) := goodIn_app (goodIn_of _ (by decide +kernel)) ggX9_signs_X9_ringOf
set_option maxRecDepth 20000 in
theorem ggX9_crossing_X9_isCrossing : GoodIn wsX9_crossing wsX9_isCrossing := goodIn_r _ [11] rfl (by decide +kernel)
set_option maxRecDepth 20000 in
theorem gX9_crossing_X9_isCrossing : GoodIn wsX9_crossing (va_wsS RX9 122 yX9_isCrossing wsX9_isCrossing) := goodIn_app (goodIn_of _ (by decide +kernel)) ggX9_crossing_X9_isCrossing
set_option maxRecDepth 20000 in
theorem ggX9_crossing_X9_inputOf : GoodIn wsX9_crossing wsX9_inputOf := goodIn_r _ [15, 16, 17, 18, 19, 20, 21, 22, 23, 24, 25, 26, 27, 28, 29, 30, 31, 32, 33, 34, 35, 36, 37, 38, 39, 40, 41, 42, 43, 44, 45, 46, 47, 48, 49, 50, 51, 52, 53, 54, 55] rfl (by decide +kernel)
set_option maxRecDepth 20000 in
theorem gX9_crossing_X9_inputOf : GoodIn wsX9_crossing (wsV RX9 240 RX9 yX9_inputOf wsX9_inputOf) := goodIn_app (goodIn_of _ (by decide +kernel)) ggX9_crossing_X9_inputOf
set_option maxRecDepth 20000 in
theorem ggX9_occupancy_X9_isPhase : GoodIn wsX9_occupancy wsX9_isPhase := goodIn_r _ [6, 7, 8, 5, 9] rfl (by decide +kernel)
set_option maxRecDepth 20000 in
theorem gX9_occupancy_X9_isPhase : GoodIn wsX9_occupancy (va_wsS RX9 130 yX9_isPhase wsX9_isPhase) := goodIn_app (goodIn_of _ (by decide +kernel)) ggX9_occupancy_X9_isPhase
