set_option maxRecDepth 20000 in
theorem ggX0_goByCalls_X0_greenPhases : GoodIn wsX0_goByCalls wsX0_greenPhases := goodIn_r _ [11, 5, 6, 12, 13, 14, 15, 16, 17, 18, 19, 20, 21, 127, 128, 129, 130, 131, 132, 133, 134, 135, 136, 137, 138, 139, 140, 141, 142, 143, 144, 145, 146, 147, 148, 149, 150, 151, 152] rfl (by decide +kernel)
set_option maxRecDepth 20000 in
theorem gX0_goByCalls_X0_greenPhases : GoodIn wsX0_goByCalls (wsV RX0 232 RX0 yX0_greenPhases wsX0_greenPhases) := goodIn_app (goodIn_of _ (by decide +kernel)) ggX0_goByCalls_X0_greenPhases
set_option maxRecDepth 20000 in
theorem ggX0_goByCalls_X0_countingCalls : GoodIn wsX0_goByCalls wsX0_countingCalls := goodIn_r _ [25, 3, 26, 7, 8, 9, 10, 11, 5, 6, 12, 13, 14, 15, 16, 17, 18, 19, 20, 21, 127, 128, 129, 130, 131, 132, 133, 134, 135, 136, 137, 138, 139, 140, 141, 142, 143, 144, 145, 146, 147, 148, 149, 150, 151, 152] rfl (by decide +kernel)
set_option maxRecDepth 20000 in
theorem gX0_goByCalls_X0_countingCalls : GoodIn wsX0_goByCalls (wsV RX0 185 RX0 yX0_countingCalls wsX0_countingCalls) := goodIn_app (goodIn_of _ (by decide +kernel)) ggX0_goByCalls_X0_countingCalls
set_option maxRecDepth 20000 in
theorem ggX0_goByCalls_X0_weigh : GoodIn wsX0_goByCalls wsX0_weigh := goodIn_r _ [30, 5, 6, 1, 31, 32, 33, 15, 34, 18, 35, 36, 37, 38, 19, 20, 21, 39, 40, 41, 42, 43, 44, 127, 128, 129, 130, 131, 132, 133, 134, 135, 136, 137, 138, 139, 140, 141, 142, 143, 144, 145, 146, 147, 148, 149, 150, 151, 152] rfl (by decide +kernel)
set_option maxRecDepth 20000 in
theorem gX0_goByCalls_X0_weigh : GoodIn wsX0_goByCalls (wsV RX0 188 RX0 yX0_weigh wsX0_weigh) := goodIn_app (goodIn_of _ (by decide +kernel)) ggX0_goByCalls_X0_weigh
set_option maxRecDepth 20000 in
theorem ggX0_goByCalls_X0_goOn : GoodIn wsX0_goByCalls wsX0_goOn := goodIn_r _ [48, 26, 49, 50, 51, 15, 52, 17, 19, 20, 21, 53, 54, 55, 10, 56, 57, 58, 59, 60, 61, 62, 63, 64, 65, 66, 67, 68, 69, 70, 71, 72, 73, 74, 75, 76, 77, 78, 79, 80, 81, 82, 83, 84, 85, 86, 87, 143, 144, 145, 146, 147, 148, 149, 150, 151, 152, 127, 128, 129, 130, 131, 132, 133, 134, 135, 136, 137, 138, 139, 140, 141, 142, 153] rfl (by decide +kernel)
set_option maxRecDepth 20000 in
theorem gX0_goByCalls_X0_goOn : GoodIn wsX0_goByCalls (wsV RX0 235 RX0 yX0_goOn wsX0_goOn) := goodIn_app (goodIn_of _ (by decide +kernel)) ggX0_goByCalls_X0_goOn
set_option maxRecDepth 20000 in
theorem ggX0_goByCalls_X0_mayLeave : GoodIn wsX0_goByCalls wsX0_mayLeave := goodIn_r _ [91, 92, 36, 37, 15, 38, 18, 63, 64, 65, 10, 66, 67, 68, 69, 70, 71, 72, 73, 74, 75, 76, 77, 17, 61, 78, 143, 144, 145, 146, 147, 148, 149, 150, 151, 152, 127, 128, 129, 130, 131, 132, 133, 134, 135, 136, 137, 138, 139, 140, 141, 142, 153] rfl (by decide +kernel)
set_option maxRecDepth 20000 in
theorem gX0_goByCalls_X0_mayLeave : GoodIn wsX0_goByCalls (wsV RX0 239 RX0 yX0_mayLeave wsX0_mayLeave) := goodIn_app (goodIn_of _ (by decide +kernel)) ggX0_goByCalls_X0_mayLeave
set_option maxRecDepth 20000 in
theorem ggX0_goByCalls_X0_leaveSide : GoodIn wsX0_goByCalls wsX0_leaveSide := goodIn_r _ [96, 97, 98, 99, 10, 100, 5, 6, 49, 50, 51, 15, 52, 17, 79, 80, 81, 82, 83, 84, 85, 86, 87, 78, 127, 128, 129, 130, 131, 132, 133, 134, 135, 136, 137, 138, 139, 140, 141, 142, 143, 144, 145, 146, 147, 148, 149, 150, 151, 152] rfl (by decide +kernel)
set_option maxRecDepth 20000 in
theorem gX0_goByCalls_X0_leaveSide : GoodIn wsX0_goByCalls (wsV RX0 243 RX0 yX0_leaveSide wsX0_leaveSide) := goodIn_app (goodIn_of _ (by decide +kernel)) ggX0_goByCalls_X0_leaveSide
set_option maxRecDepth 20000 in
theorem ggX0_goByCalls_X6_waits : GoodIn wsX0_goByCalls wsX6_waits := goodIn_r _ [38, 18, 143, 144, 145, 146, 147, 148, 149, 150, 151, 152] rfl (by decide +kernel)
set_option maxRecDepth 20000 in
theorem gX0_goByCalls_X6_waits : GoodIn wsX0_goByCalls (wsV RX0 175 RX6 yX6_waits wsX6_waits) := goodIn_app (goodIn_of _ (by decide +kernel)) ggX0_goByCalls_X6_waits
set_option maxRecDepth 20000 in
theorem ggX0_goByCalls_X0_cross : GoodIn wsX0_goByCalls wsX0_cross := goodIn_r _ [104, 1, 4, 39, 20, 40, 105, 106, 107, 10, 108, 19, 21, 97, 98, 99, 100, 5, 6, 109, 110, 111, 112, 113, 67, 3, 26, 114, 115, 116, 117, 118, 119, 120, 68, 69, 70, 71, 72, 73, 121, 122, 123, 15, 124, 18, 83, 125, 126, 61, 84, 85, 86, 87, 17, 78, 53, 54, 55, 56, 57, 58, 59, 60, 62, 127, 128, 129, 130, 131, 132, 133, 134, 135, 136, 137, 138, 139, 140, 141, 142, 154, 155, 156, 157, 153, 143, 144, 145, 146, 147, 148, 149, 150, 151, 152] rfl (by decide +kernel)
set_option maxRecDepth 20000 in
theorem gX0_goByCalls_X0_cross : GoodIn wsX0_goByCalls (wsV RX0 246 RX0 yX0_cross wsX0_cross) := goodIn_app (goodIn_of _ (by decide +kernel)) ggX0_goByCalls_X0_cross
set_option maxRecDepth 20000 in
theorem ggX0_goOn_X6_isGreen : GoodIn wsX0_goOn wsX6_isGreen := goodIn_r _ [6, 7, 47, 48, 49, 50, 51, 52, 53, 54, 55, 56] rfl (by decide +kernel)
set_option maxRecDepth 20000 in
theorem gX0_goOn_X6_isGreen : GoodIn wsX0_goOn (wsV RX0 154 RX6 yX6_isGreen wsX6_isGreen) := goodIn_app (goodIn_of _ (by decide +kernel)) ggX0_goOn_X6_isGreen
set_option maxRecDepth 20000 in
theorem ggX0_goOn_X8_bit : GoodIn wsX0_goOn wsX8_bit := goodIn_r _ [10] rfl (by decide +kernel)
set_option maxRecDepth 20000 in
theorem gX0_goOn_X8_bit_n104 : GoodIn wsX0_goOn (wsX8_bit) := ggX0_goOn_X8_bit
set_option maxRecDepth 20000 in
theorem ggX0_goOn_X0_beginWalk : GoodIn wsX0_goOn wsX0_beginWalk := goodIn_r _ [15, 1, 16, 17, 18, 5, 19, 20, 21, 8, 9, 10, 57, 58, 59, 60, 61, 62, 63, 64, 65, 66, 67, 68, 69, 70, 71, 72, 47, 48, 49, 50, 51, 52, 53, 54, 55, 56] rfl (by decide +kernel)
set_option maxRecDepth 20000 in
theorem gX0_goOn_X0_beginWalk : GoodIn wsX0_goOn (wsV RX0 227 RX0 yX0_beginWalk wsX0_beginWalk) := goodIn_app (goodIn_of _ (by decide +kernel)) ggX0_goOn_X0_beginWalk
set_option maxRecDepth 20000 in
theorem ggX0_goOn_X0_isDone : GoodIn wsX0_goOn wsX0_isDone := goodIn_r _ [25, 26, 27, 28, 29, 30, 31, 32, 33, 34, 35, 5, 36, 7, 20, 37, 47, 48, 49, 50, 51, 52, 53, 54, 55, 56, 57, 58, 59, 60, 61, 62, 63, 64, 65, 66, 67, 68, 69, 70, 71, 72, 73] rfl (by decide +kernel)
set_option maxRecDepth 20000 in
theorem gX0_goOn_X0_isDone : GoodIn wsX0_goOn (wsV RX0 252 RX0 yX0_isDone wsX0_isDone) := goodIn_app (goodIn_of _ (by decide +kernel)) ggX0_goOn_X0_isDone
set_option maxRecDepth 20000 in
theorem ggX0_goOn_X6_turnYellow : GoodIn wsX0_goOn wsX6_turnYellow := goodIn_r _ [41, 42, 43, 44, 45, 5, 46, 7, 37, 47, 48, 49, 50, 51, 52, 53, 54, 55, 56] rfl (by decide +kernel)
set_option maxRecDepth 20000 in
theorem gX0_goOn_X6_turnYellow : GoodIn wsX0_goOn (wsV RX0 255 RX6 yX6_turnYellow wsX6_turnYellow) := goodIn_app (goodIn_of _ (by decide +kernel)) ggX0_goOn_X6_turnYellow
set_option maxRecDepth 20000 in
theorem ggX0_mayLeave_X6_waits : GoodIn wsX0_mayLeave wsX6_waits := goodIn_r _ [5, 6, 26, 27, 28, 29, 30, 31, 32, 33, 34, 35] rfl (by decide +kernel)
set_option maxRecDepth 20000 in
theorem gX0_mayLeave_X6_waits : GoodIn wsX0_mayLeave (wsV RX0 175 RX6 yX6_waits wsX6_waits) := goodIn_app (goodIn_of _ (by decide +kernel)) ggX0_mayLeave_X6_waits
set_option maxRecDepth 20000 in
theorem ggX0_mayLeave_X0_isDone : GoodIn wsX0_mayLeave wsX0_isDone := goodIn_r _ [11, 12, 13, 14, 15, 16, 17, 18, 19, 20, 21, 4, 22, 23, 24, 25, 26, 27, 28, 29, 30, 31, 32, 33, 34, 35, 36, 37, 38, 39, 40, 41, 42, 43, 44, 45, 46, 47, 48, 49, 50, 51, 52] rfl (by decide +kernel)
set_option maxRecDepth 20000 in
theorem gX0_mayLeave_X0_isDone : GoodIn wsX0_mayLeave (wsV RX0 252 RX0 yX0_isDone wsX0_isDone) := goodIn_app (goodIn_of _ (by decide +kernel)) ggX0_mayLeave_X0_isDone
set_option maxRecDepth 20000 in
theorem ggX0_isDone_X7_at : GoodIn wsX0_isDone wsX7_at := goodIn_r _ [6, 7, 42] rfl (by decide +kernel)
set_option maxRecDepth 20000 in
theorem gX0_isDone_X7_at : GoodIn wsX0_isDone (wsV RX0 108 RX7 yX7_at wsX7_at) := goodIn_app (goodIn_of _ (by decide +kernel)) ggX0_isDone_X7_at
set_option maxRecDepth 20000 in
theorem ggX0_isDone_X6_mayEnd : GoodIn wsX0_isDone wsX6_mayEnd := goodIn_r _ [12, 13, 14, 15, 16, 17, 18, 19, 20, 21, 22, 23, 24, 25] rfl (by decide +kernel)
set_option maxRecDepth 20000 in
theorem gX0_isDone_X6_mayEnd : GoodIn wsX0_isDone (wsV RX0 258 RX6 yX6_mayEnd wsX6_mayEnd) := goodIn_app (goodIn_of _ (by decide +kernel)) ggX0_isDone_X6_mayEnd
set_option maxRecDepth 20000 in
theorem ggX0_leaveSide_X0_ring : GoodIn wsX0_leaveSide wsX0_ring := goodIn_r _ [5, 6, 7, 24, 25, 26, 27, 28, 29, 30, 31, 32, 33, 34, 35, 36, 37, 38, 39] rfl (by decide +kernel)
set_option maxRecDepth 20000 in
theorem gX0_leaveSide_X0_ring : GoodIn wsX0_leaveSide (wsV RX0 150 RX0 yX0_ring wsX0_ring) := goodIn_app (goodIn_of _ (by decide +kernel)) ggX0_leaveSide_X0_ring
set_option maxRecDepth 20000 in
theorem ggX0_leaveSide_X6_isGreen : GoodIn wsX0_leaveSide wsX6_isGreen := goodIn_r _ [12, 13, 40, 41, 42, 43, 44, 45, 46, 47, 48, 49] rfl (by decide +kernel)
set_option maxRecDepth 20000 in
theorem gX0_leaveSide_X6_isGreen : GoodIn wsX0_leaveSide (wsV RX0 154 RX6 yX6_isGreen wsX6_isGreen) := goodIn_app (goodIn_of _ (by decide +kernel)) ggX0_leaveSide_X6_isGreen
set_option maxRecDepth 20000 in
theorem ggX0_leaveSide_X6_turnYellow : GoodIn wsX0_leaveSide wsX6_turnYellow := goodIn_r _ [17, 18, 19, 20, 21, 11, 22, 13, 23, 40, 41, 42, 43, 44, 45, 46, 47, 48, 49] rfl (by decide +kernel)
set_option maxRecDepth 20000 in
theorem gX0_leaveSide_X6_turnYellow : GoodIn wsX0_leaveSide (wsV RX0 255 RX6 yX6_turnYellow wsX6_turnYellow) := goodIn_app (goodIn_of _ (by decide +kernel)) ggX0_leaveSide_X6_turnYellow
set_option maxRecDepth 20000 in
theorem ggX0_cross_X8_phasesOfSide : GoodIn wsX0_cross wsX8_phasesOfSide := goodIn_r _ [5] rfl (by decide +kernel)
set_option maxRecDepth 20000 in
theorem gX0_cross_X8_phasesOfSide_n210 : GoodIn wsX0_cross (wsX8_phasesOfSide) := ggX0_cross_X8_phasesOfSide
set_option maxRecDepth 20000 in
theorem ggX0_cross_X0_firstOfSide : GoodIn wsX0_cross wsX0_firstOfSide := goodIn_r _ [10, 1, 11, 4, 12, 65, 66, 67, 68, 69, 70, 71, 72, 73, 74, 75, 76, 77, 78, 79, 80] rfl (by decide +kernel)
set_option maxRecDepth 20000 in
theorem gX0_cross_X0_firstOfSide : GoodIn wsX0_cross (wsV RX0 261 RX0 yX0_firstOfSide wsX0_firstOfSide) := goodIn_app (goodIn_of _ (by decide +kernel)) ggX0_cross_X0_firstOfSide
set_option maxRecDepth 20000 in
theorem ggX0_cross_X0_ring : GoodIn wsX0_cross wsX0_ring := goodIn_r _ [16, 17, 18, 65, 66, 67, 68, 69, 70, 71, 72, 73, 74, 75, 76, 77, 78, 79, 80] rfl (by decide +kernel)
set_option maxRecDepth 20000 in
theorem gX0_cross_X0_ring : GoodIn wsX0_cross (wsV RX0 150 RX0 yX0_ring wsX0_ring) := goodIn_app (goodIn_of _ (by decide +kernel)) ggX0_cross_X0_ring
set_option maxRecDepth 20000 in
theorem ggX0_cross_X0_begin : GoodIn wsX0_cross wsX0_begin := goodIn_r _ [22, 23, 24, 25, 26, 27, 28, 29, 30, 31, 32, 33, 11, 4, 12, 34, 35, 36, 37, 38, 39, 40, 41, 42, 43, 44, 45, 46, 47, 48, 49, 50, 51, 52, 53, 54, 55, 56, 57, 58, 9, 59, 60, 61, 62, 63, 64, 65, 66, 67, 68, 69, 70, 71, 72, 73, 74, 75, 76, 77, 78, 79, 80, 81, 82, 83, 84, 85, 86, 87, 88, 89, 90, 91, 92, 93, 94, 95] rfl (by decide +kernel)
set_option maxRecDepth 20000 in
theorem gX0_cross_X0_begin : GoodIn wsX0_cross (wsV RX0 222 RX0 yX0_begin wsX0_begin) := goodIn_app (goodIn_of _ (by decide +kernel)) ggX0_cross_X0_begin
set_option maxRecDepth 20000 in
theorem ggX0_firstOfSide_X8_bit : GoodIn wsX0_firstOfSide wsX8_bit := goodIn_r _ [4] rfl (by decide +kernel)
set_option maxRecDepth 20000 in
theorem gX0_firstOfSide_X8_bit_n104 : GoodIn wsX0_firstOfSide (wsX8_bit) := ggX0_firstOfSide_X8_bit
set_option maxRecDepth 20000 in
theorem ggX0_goByInput_X8_sideOf : GoodIn wsX0_goByInput wsX8_sideOf := goodIn_r _ [7] rfl (by decide +kernel)
set_option maxRecDepth 20000 in
theorem gX0_goByInput_X8_sideOf_n264 : GoodIn wsX0_goByInput (wsX8_sideOf) := ggX0_goByInput_X8_sideOf
set_option maxRecDepth 20000 in
theorem ggX0_goByInput_X0_ring : GoodIn wsX0_goByInput wsX0_ring := goodIn_r _ [12, 3, 4, 100, 101, 102, 103, 104, 105, 106, 107, 108, 109, 110, 111, 112, 113, 114, 115] rfl (by decide +kernel)
set_option maxRecDepth 20000 in
theorem gX0_goByInput_X0_ring : GoodIn wsX0_goByInput (wsV RX0 150 RX0 yX0_ring wsX0_ring) := goodIn_app (goodIn_of _ (by decide +kernel)) ggX0_goByInput_X0_ring
set_option maxRecDepth 20000 in
theorem ggX0_goByInput_X0_goalOf : GoodIn wsX0_goByInput wsX0_goalOf := goodIn_r _ [16, 17, 18, 6, 19, 20, 21, 100, 101, 102, 103, 104, 105, 106, 107, 108, 109, 110, 111, 112, 113, 114, 115] rfl (by decide +kernel)
set_option maxRecDepth 20000 in
theorem gX0_goByInput_X0_goalOf : GoodIn wsX0_goByInput (wsV RX0 267 RX0 yX0_goalOf wsX0_goalOf) := goodIn_app (goodIn_of _ (by decide +kernel)) ggX0_goByInput_X0_goalOf
set_option maxRecDepth 20000 in
theorem ggX0_goByInput_X0_giveWay : GoodIn wsX0_goByInput wsX0_giveWay := goodIn_r _ [25, 26, 27, 28, 29, 30, 31, 32, 33, 34, 35, 36, 37, 38, 39, 40, 41, 42, 43, 44, 45, 46, 47, 48, 49, 50, 51, 52, 53, 54, 116, 117, 118, 119, 120, 121, 122, 123, 124, 125, 100, 101, 102, 103, 104, 105, 106, 107, 108, 109, 110, 111, 112, 113, 114, 115, 126] rfl (by decide +kernel)
set_option maxRecDepth 20000 in
theorem gX0_goByInput_X0_giveWay : GoodIn wsX0_goByInput (wsV RX0 270 RX0 yX0_giveWay wsX0_giveWay) := goodIn_app (goodIn_of _ (by decide +kernel)) ggX0_goByInput_X0_giveWay
set_option maxRecDepth 20000 in
theorem ggX0_goByInput_X0_mayLeaveByInput : GoodIn wsX0_goByInput wsX0_mayLeaveByInput := goodIn_r _ [58, 26, 59, 60, 61, 30, 62, 63, 34, 35, 36, 37, 38, 39, 40, 41, 42, 43, 44, 32, 45, 100, 101, 102, 103, 104, 105, 106, 107, 108, 109, 110, 111, 112, 113, 114, 115, 116, 117, 118, 119, 120, 121, 122, 123, 124, 125, 126] rfl (by decide +kernel)
set_option maxRecDepth 20000 in
theorem gX0_goByInput_X0_mayLeaveByInput : GoodIn wsX0_goByInput (wsV RX0 274 RX0 yX0_mayLeaveByInput wsX0_mayLeaveByInput) := goodIn_app (goodIn_of _ (by decide +kernel)) ggX0_goByInput_X0_mayLeaveByInput
set_option maxRecDepth 20000 in
theorem ggX0_goByInput_X0_leaveSide : GoodIn wsX0_goByInput wsX0_leaveSide := goodIn_r _ [67, 8, 9, 10, 11, 12, 3, 4, 68, 69, 70, 30, 71, 44, 46, 47, 48, 49, 50, 51, 52, 53, 54, 45, 100, 101, 102, 103, 104, 105, 106, 107, 108, 109, 110, 111, 112, 113, 114, 115, 116, 117, 118, 119, 120, 121, 122, 123, 124, 125] rfl (by decide +kernel)
set_option maxRecDepth 20000 in
theorem gX0_goByInput_X0_leaveSide : GoodIn wsX0_goByInput (wsV RX0 243 RX0 yX0_leaveSide wsX0_leaveSide) := goodIn_app (goodIn_of _ (by decide +kernel)) ggX0_goByInput_X0_leaveSide
set_option maxRecDepth 20000 in
theorem ggX0_goByInput_X6_waits : GoodIn wsX0_goByInput wsX6_waits := goodIn_r _ [62, 63, 116, 117, 118, 119, 120, 121, 122, 123, 124, 125] rfl (by decide +kernel)
set_option maxRecDepth 20000 in
theorem gX0_goByInput_X6_waits : GoodIn wsX0_goByInput (wsV RX0 175 RX6 yX6_waits wsX6_waits) := goodIn_app (goodIn_of _ (by decide +kernel)) ggX0_goByInput_X6_waits
set_option maxRecDepth 20000 in
theorem ggX0_goByInput_X0_begin : GoodIn wsX0_goByInput wsX0_begin := goodIn_r _ [75, 76, 26, 77, 78, 79, 80, 81, 82, 83, 84, 85, 20, 6, 21, 34, 35, 36, 37, 38, 39, 86, 87, 88, 30, 89, 63, 50, 90, 91, 32, 51, 52, 53, 54, 44, 45, 92, 93, 94, 11, 95, 96, 97, 98, 99, 33, 100, 101, 102, 103, 104, 105, 106, 107, 108, 109, 110, 111, 112, 113, 114, 115, 127, 128, 129, 130, 126, 116, 117, 118, 119, 120, 121, 122, 123, 124, 125] rfl (by decide +kernel)
set_option maxRecDepth 20000 in
theorem gX0_goByInput_X0_begin : GoodIn wsX0_goByInput (wsV RX0 222 RX0 yX0_begin wsX0_begin) := goodIn_app (goodIn_of _ (by decide +kernel)) ggX0_goByInput_X0_begin
set_option maxRecDepth 20000 in
theorem ggX0_giveWay_X6_beginClear : GoodIn wsX0_giveWay wsX6_beginClear := goodIn_r _ [6, 7, 8, 30, 31, 32, 33, 34, 35, 36, 37, 38, 39] rfl (by decide +kernel)
set_option maxRecDepth 20000 in
theorem gX0_giveWay_X6_beginClear : GoodIn wsX0_giveWay (wsV RX0 278 RX6 yX6_beginClear wsX6_beginClear) := goodIn_app (goodIn_of _ (by decide +kernel)) ggX0_giveWay_X6_beginClear
set_option maxRecDepth 20000 in
theorem ggX0_giveWay_X7_at : GoodIn wsX0_giveWay wsX7_at := goodIn_r _ [13, 14, 56] rfl (by decide +kernel)
set_option maxRecDepth 20000 in
theorem gX0_giveWay_X7_at : GoodIn wsX0_giveWay (wsV RX0 108 RX7 yX7_at wsX7_at) := goodIn_app (goodIn_of _ (by decide +kernel)) ggX0_giveWay_X7_at
set_option maxRecDepth 20000 in
theorem ggX0_giveWay_X6_mayEnd : GoodIn wsX0_giveWay wsX6_mayEnd := goodIn_r _ [18, 19, 7, 20, 30, 31, 32, 33, 34, 35, 36, 37, 38, 39] rfl (by decide +kernel)
set_option maxRecDepth 20000 in
theorem gX0_giveWay_X6_mayEnd : GoodIn wsX0_giveWay (wsV RX0 258 RX6 yX6_mayEnd wsX6_mayEnd) := goodIn_app (goodIn_of _ (by decide +kernel)) ggX0_giveWay_X6_mayEnd
set_option maxRecDepth 20000 in
theorem ggX0_giveWay_X6_turnYellow : GoodIn wsX0_giveWay wsX6_turnYellow := goodIn_r _ [24, 25, 26, 27, 28, 5, 29, 19, 20, 30, 31, 32, 33, 34, 35, 36, 37, 38, 39] rfl (by decide +kernel)
set_option maxRecDepth 20000 in
theorem gX0_giveWay_X6_turnYellow : GoodIn wsX0_giveWay (wsV RX0 255 RX6 yX6_turnYellow wsX6_turnYellow) := goodIn_app (goodIn_of _ (by decide +kernel)) ggX0_giveWay_X6_turnYellow
set_option maxRecDepth 20000 in
theorem ggX0_mayLeaveByInput_X6_waits : GoodIn wsX0_mayLeaveByInput wsX6_waits := goodIn_r _ [6, 7, 37, 38, 39, 40, 41, 42, 43, 44, 45, 46] rfl (by decide +kernel)
set_option maxRecDepth 20000 in
theorem gX0_mayLeaveByInput_X6_waits : GoodIn wsX0_mayLeaveByInput (wsV RX0 175 RX6 yX6_waits wsX6_waits) := goodIn_app (goodIn_of _ (by decide +kernel)) ggX0_mayLeaveByInput_X6_waits
set_option maxRecDepth 20000 in
theorem ggX0_mayLeaveByInput_X7_at : GoodIn wsX0_mayLeaveByInput wsX7_at := goodIn_r _ [12, 13, 47] rfl (by decide +kernel)
set_option maxRecDepth 20000 in
theorem gX0_mayLeaveByInput_X7_at : GoodIn wsX0_mayLeaveByInput (wsV RX0 108 RX7 yX7_at wsX7_at) := goodIn_app (goodIn_of _ (by decide +kernel)) ggX0_mayLeaveByInput_X7_at
set_option maxRecDepth 20000 in
theorem ggX0_mayLeaveByInput_X6_mayEnd : GoodIn wsX0_mayLeaveByInput wsX6_mayEnd := goodIn_r _ [17, 18, 19, 20, 37, 38, 39, 40, 41, 42, 43, 44, 45, 46] rfl (by decide +kernel)
set_option maxRecDepth 20000 in
theorem gX0_mayLeaveByInput_X6_mayEnd : GoodIn wsX0_mayLeaveByInput (wsV RX0 258 RX6 yX6_mayEnd wsX6_mayEnd) := goodIn_app (goodIn_of _ (by decide +kernel)) ggX0_mayLeaveByInput_X6_mayEnd
set_option maxRecDepth 20000 in
theorem ggX0_goalOf_X8_ringOf : GoodIn wsX0_goalOf wsX8_ringOf := goodIn_r _ [4] rfl (by decide +kernel)
set_option maxRecDepth 20000 in
theorem gX0_goalOf_X8_ringOf_n147 : GoodIn wsX0_goalOf (wsX8_ringOf) := ggX0_goalOf_X8_ringOf
set_option maxRecDepth 20000 in
theorem ggX0_goalOf_X8_bit : GoodIn wsX0_goalOf wsX8_bit := goodIn_r _ [6] rfl (by decide +kernel)
set_option maxRecDepth 20000 in
theorem gX0_goalOf_X8_bit_n104 : GoodIn wsX0_goalOf (wsX8_bit) := ggX0_goalOf_X8_bit
set_option maxRecDepth 20000 in
theorem ggX0_watch_X0_lampsOf : GoodIn wsX0_watch wsX0_lampsOf := goodIn_r _ [12, 2, 3, 13, 14, 15, 16, 17, 18, 19, 20, 21, 22, 23, 11, 24, 4, 5, 71, 72, 73, 74, 75, 76, 77, 78, 79, 80, 81, 82, 83, 84, 85, 86, 87, 88, 89, 90, 91, 92, 93, 94, 95, 96] rfl (by decide +kernel)
set_option maxRecDepth 20000 in
theorem gX0_watch_X0_lampsOf : GoodIn wsX0_watch (wsV RX0 281 RX0 yX0_lampsOf wsX0_lampsOf) := goodIn_app (goodIn_of _ (by decide +kernel)) ggX0_watch_X0_lampsOf
set_option maxRecDepth 20000 in
theorem ggX0_watch_X4_see : GoodIn wsX0_watch wsX4_see := goodIn_r _ [29, 30, 14, 15, 16, 97, 98, 99, 100] rfl (by decide +kernel)
set_option maxRecDepth 20000 in
theorem gX0_watch_X4_see : GoodIn wsX0_watch (wsV RX0 284 RX4 yX4_see wsX4_see) := goodIn_app (goodIn_of _ (by decide +kernel)) ggX0_watch_X4_see
set_option maxRecDepth 20000 in
theorem ggX0_watch_X4_look : GoodIn wsX0_watch wsX4_look := goodIn_r _ [34, 35, 36, 37, 28, 38, 30, 17, 15, 18, 39, 40, 41, 42, 43, 44, 19, 20, 45, 46, 47, 48, 49, 50, 51, 52, 53, 54, 55, 56, 57, 58, 59, 60, 61, 97, 98, 99, 100] rfl (by decide +kernel)
set_option maxRecDepth 20000 in
theorem gX0_watch_X4_look : GoodIn wsX0_watch (wsV RX0 287 RX4 yX4_look wsX4_look) := goodIn_app (goodIn_of _ (by decide +kernel)) ggX0_watch_X4_look
set_option maxRecDepth 20000 in
theorem ggX0_watch_X6_rest : GoodIn wsX0_watch wsX6_rest := goodIn_r _ [66, 67, 68, 69, 70, 87, 88, 89, 90, 91, 92, 93, 94, 95, 96] rfl (by decide +kernel)
set_option maxRecDepth 20000 in
theorem gX0_watch_X6_rest : GoodIn wsX0_watch (wsV RX0 98 RX6 yX6_rest wsX6_rest) := goodIn_app (goodIn_of _ (by decide +kernel)) ggX0_watch_X6_rest
set_option maxRecDepth 20000 in
theorem ggX0_lampsOf_X8_isPhase : GoodIn wsX0_lampsOf wsX8_isPhase := goodIn_r _ [6] rfl (by decide +kernel)
set_option maxRecDepth 20000 in
theorem gX0_lampsOf_X8_isPhase_n290 : GoodIn wsX0_lampsOf (wsX8_isPhase) := ggX0_lampsOf_X8_isPhase
set_option maxRecDepth 20000 in
theorem ggX0_lampsOf_X8_bit : GoodIn wsX0_lampsOf wsX8_bit := goodIn_r _ [8] rfl (by decide +kernel)
set_option maxRecDepth 20000 in
theorem gX0_lampsOf_X8_bit_n104 : GoodIn wsX0_lampsOf (wsX8_bit) := ggX0_lampsOf_X8_bit
set_option maxRecDepth 20000 in
theorem ggX0_lampsOf_X8_ringOf : GoodIn wsX0_lampsOf wsX8_ringOf := goodIn_r _ [10] rfl (by decide +kernel)
set_option maxRecDepth 20000 in
theorem gX0_lampsOf_X8_ringOf_n147 : GoodIn wsX0_lampsOf (wsX8_ringOf) := ggX0_lampsOf_X8_ringOf
set_option maxRecDepth 20000 in
theorem ggX0_lampsOf_X0_ring : GoodIn wsX0_lampsOf wsX0_ring := goodIn_r _ [15, 16, 17, 18, 19, 20, 21, 22, 23, 24, 25, 26, 27, 28, 29, 30, 31, 32, 33] rfl (by decide +kernel)
set_option maxRecDepth 20000 in
theorem gX0_lampsOf_X0_ring : GoodIn wsX0_lampsOf (wsV RX0 150 RX0 yX0_ring wsX0_ring) := goodIn_app (goodIn_of _ (by decide +kernel)) ggX0_lampsOf_X0_ring
set_option maxRecDepth 20000 in
theorem ggX0_signsOf_X8_ringOf : GoodIn wsX0_signsOf wsX8_ringOf := goodIn_r _ [6] rfl (by decide +kernel)
set_option maxRecDepth 20000 in
theorem gX0_signsOf_X8_ringOf_n147 : GoodIn wsX0_signsOf (wsX8_ringOf) := ggX0_signsOf_X8_ringOf
set_option maxRecDepth 20000 in
theorem ggX0_signsOf_X0_ring : GoodIn wsX0_signsOf wsX0_ring := goodIn_r _ [11, 12, 13, 26, 27, 28, 29, 30, 31, 32, 33, 34, 35, 36, 37, 38, 39, 40, 41] rfl (by decide +kernel)
set_option maxRecDepth 20000 in
theorem gX0_signsOf_X0_ring : GoodIn wsX0_signsOf (wsV RX0 150 RX0 yX0_ring wsX0_ring) := goodIn_app (goodIn_of _ (by decide +kernel)) ggX0_signsOf_X0_ring
set_option maxRecDepth 20000 in
theorem ggX0_signsOf_X8_bit : GoodIn wsX0_signsOf wsX8_bit := goodIn_r _ [15] rfl (by decide +kernel)
set_option maxRecDepth 20000 in
theorem gX0_signsOf_X8_bit_n104 : GoodIn wsX0_signsOf (wsX8_bit) := ggX0_signsOf_X8_bit
set_option maxRecDepth 20000 in
theorem ggX0_way_X0_isOff : GoodIn wsX0_way wsX0_isOff := goodIn_r _ [9, 3, 20, 21, 22, 23, 24, 25, 26, 27, 28, 29, 30, 31, 32, 33, 34, 35] rfl (by decide +kernel)
set_option maxRecDepth 20000 in
theorem gX0_way_X0_isOff : GoodIn wsX0_way (wsV RX0 118 RX0 yX0_isOff wsX0_isOff) := goodIn_app (goodIn_of _ (by decide +kernel)) ggX0_way_X0_isOff
set_option maxRecDepth 20000 in
theorem ggX0_way_X2_targetInForce : GoodIn wsX0_way wsX2_targetInForce := goodIn_r _ [14, 15, 16, 17, 18, 19, 40, 41] rfl (by decide +kernel)
set_option maxRecDepth 20000 in
theorem gX0_way_X2_targetInForce : GoodIn wsX0_way (wsV RX0 129 RX2 yX2_targetInForce wsX2_targetInForce) := goodIn_app (goodIn_of _ (by decide +kernel)) ggX0_way_X2_targetInForce
set_option maxRecDepth 20000 in
theorem ggX0_countingCalls_X0_greenPhases : GoodIn wsX0_countingCalls wsX0_greenPhases := goodIn_r _ [7, 8, 9, 10, 11, 12, 13, 14, 15, 16, 17, 18, 19, 20, 21, 22, 23, 24, 25, 26, 27, 28, 29, 30, 31, 32, 33, 34, 35, 36, 37, 38, 39, 40, 41, 42, 43, 44, 45] rfl (by decide +kernel)
set_option maxRecDepth 20000 in
theorem gX0_countingCalls_X0_greenPhases : GoodIn wsX0_countingCalls (wsV RX0 232 RX0 yX0_greenPhases wsX0_greenPhases) := goodIn_app (goodIn_of _ (by decide +kernel)) ggX0_countingCalls_X0_greenPhases
set_option maxRecDepth 20000 in
theorem ggX0_greenPhases_X6_greenPhase : GoodIn wsX0_greenPhases wsX6_greenPhase := goodIn_r _ [7, 8, 9, 10, 11, 12, 29, 30, 31, 32, 33, 34, 35, 36, 37, 38] rfl (by decide +kernel)
set_option maxRecDepth 20000 in
theorem gX0_greenPhases_X6_greenPhase : GoodIn wsX0_greenPhases (wsV RX0 299 RX6 yX6_greenPhase wsX6_greenPhase) := goodIn_app (goodIn_of _ (by decide +kernel)) ggX0_greenPhases_X6_greenPhase
