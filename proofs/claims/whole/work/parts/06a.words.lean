set_option maxRecDepth 20000 in
theorem ggX0_init_X7_init : GoodIn wsX0_init wsX7_init := goodIn_r _ [40, 41, 2, 3, 30, 42, 84] rfl (by decide +kernel)
set_option maxRecDepth 20000 in
theorem gX0_init_X7_init_n11 : GoodIn wsX0_init (wsX7_init) := ggX0_init_X7_init
set_option maxRecDepth 20000 in
theorem ggX0_init_X1_init : GoodIn wsX0_init wsX1_init := goodIn_r _ [44, 45, 2, 3, 30, 46, 47, 48, 49, 50, 101, 102, 103, 104] rfl (by decide +kernel)
set_option maxRecDepth 20000 in
theorem gX0_init_X1_init_n23 : GoodIn wsX0_init (wsX1_init) := ggX0_init_X1_init
set_option maxRecDepth 20000 in
theorem ggX0_init_X3_init : GoodIn wsX0_init wsX3_init := goodIn_r _ [52, 53, 2, 3, 54, 55, 56, 57, 105, 106, 107, 108] rfl (by decide +kernel)
set_option maxRecDepth 20000 in
theorem gX0_init_X3_init_n30 : GoodIn wsX0_init (wsX3_init) := ggX0_init_X3_init
set_option maxRecDepth 20000 in
theorem ggX0_init_X2_init : GoodIn wsX0_init wsX2_init := goodIn_r _ [59, 60, 2, 3, 61, 62, 30, 63, 109, 110] rfl (by decide +kernel)
set_option maxRecDepth 20000 in
theorem gX0_init_X2_init_n37 : GoodIn wsX0_init (wsX2_init) := ggX0_init_X2_init
set_option maxRecDepth 20000 in
theorem ggX0_init_X4_init : GoodIn wsX0_init wsX4_init := goodIn_r _ [65, 66, 2, 3, 30, 67, 68, 69, 70, 111, 112, 113, 114] rfl (by decide +kernel)
set_option maxRecDepth 20000 in
theorem gX0_init_X4_init_n44 : GoodIn wsX0_init (wsX4_init) := ggX0_init_X4_init
set_option maxRecDepth 20000 in
theorem ggX0_init_X6_init : GoodIn wsX0_init wsX6_init := goodIn_r _ [72, 73, 2, 3, 74, 75, 76, 77, 78, 79, 80, 81, 82, 83, 115, 116, 117, 118, 119, 120, 121, 122, 123, 124] rfl (by decide +kernel)
set_option maxRecDepth 20000 in
theorem gX0_init_X6_init_n51 : GoodIn wsX0_init (wsX6_init) := ggX0_init_X6_init
set_option maxRecDepth 20000 in
theorem ggX0_takeWrittenTable_X7_wrongPlace : GoodIn wsX0_takeWrittenTable wsX7_wrongPlace := goodIn_r _ [9, 10, 11, 12, 8, 13, 14, 15, 16, 17, 18, 19, 20, 21, 22, 23, 24, 25, 26, 27, 28, 29, 84] rfl (by decide +kernel)
set_option maxRecDepth 20000 in
theorem gX0_takeWrittenTable_X7_wrongPlace : GoodIn wsX0_takeWrittenTable (wsV RX0 86 RX7 yX7_wrongPlace wsX7_wrongPlace) := goodIn_app (goodIn_of _ (by decide +kernel)) ggX0_takeWrittenTable_X7_wrongPlace
set_option maxRecDepth 20000 in
theorem ggX0_takeWrittenTable_X7_copyFrom : GoodIn wsX0_takeWrittenTable wsX7_copyFrom := goodIn_r _ [33, 18, 34, 35, 36, 37, 84] rfl (by decide +kernel)
set_option maxRecDepth 20000 in
theorem gX0_takeWrittenTable_X7_copyFrom : GoodIn wsX0_takeWrittenTable (wsV RX0 89 RX7 yX7_copyFrom wsX7_copyFrom) := goodIn_app (goodIn_of _ (by decide +kernel)) ggX0_takeWrittenTable_X7_copyFrom
set_option maxRecDepth 20000 in
theorem ggX0_takeWrittenTable_X7_used : GoodIn wsX0_takeWrittenTable wsX7_used := goodIn_r _ [26, 10, 11, 12, 8, 13, 14, 15, 16, 17, 18, 27, 28, 29, 84] rfl (by decide +kernel)
set_option maxRecDepth 20000 in
theorem gX0_takeWrittenTable_X7_used : GoodIn wsX0_takeWrittenTable (wsV RX0 93 RX7 yX7_used wsX7_used) := goodIn_app (goodIn_of _ (by decide +kernel)) ggX0_takeWrittenTable_X7_used
set_option maxRecDepth 20000 in
theorem ggX0_takeWrittenTable_X0_start : GoodIn wsX0_takeWrittenTable wsX0_start := goodIn_r _ [43, 44, 45, 46, 47, 4, 48, 49, 50, 51, 52, 53, 54, 55, 56, 57, 58, 59, 60, 61, 62, 63, 64, 65, 66, 67, 68, 69, 70, 71, 72, 73, 74, 75, 76, 77, 78, 79, 80, 81, 82, 83, 85, 86, 87, 88, 89, 90, 91, 92, 93, 94, 95, 96, 97, 98] rfl (by decide +kernel)
set_option maxRecDepth 20000 in
theorem gX0_takeWrittenTable_X0_start : GoodIn wsX0_takeWrittenTable (wsV RX0 95 RX0 yX0_start wsX0_start) := goodIn_app (goodIn_of _ (by decide +kernel)) ggX0_takeWrittenTable_X0_start
set_option maxRecDepth 20000 in
theorem ggX0_start_X6_rest : GoodIn wsX0_start wsX6_rest := goodIn_r _ [13, 14, 15, 16, 17, 42, 43, 44, 45, 46, 47, 48, 49, 50, 51] rfl (by decide +kernel)
set_option maxRecDepth 20000 in
theorem gX0_start_X6_rest : GoodIn wsX0_start (wsV RX0 98 RX6 yX6_rest wsX6_rest) := goodIn_app (goodIn_of _ (by decide +kernel)) ggX0_start_X6_rest
set_option maxRecDepth 20000 in
theorem ggX0_start_X4_beginAnew : GoodIn wsX0_start wsX4_beginAnew := goodIn_r _ [22, 23, 24, 25, 52, 53, 54, 55] rfl (by decide +kernel)
set_option maxRecDepth 20000 in
theorem gX0_start_X4_beginAnew : GoodIn wsX0_start (wsV RX0 101 RX4 yX4_beginAnew wsX4_beginAnew) := goodIn_app (goodIn_of _ (by decide +kernel)) ggX0_start_X4_beginAnew
set_option maxRecDepth 20000 in
theorem ggX0_takeButton_X8_bit : GoodIn wsX0_takeButton wsX8_bit := goodIn_r _ [7] rfl (by decide +kernel)
set_option maxRecDepth 20000 in
theorem gX0_takeButton_X8_bit_n104 : GoodIn wsX0_takeButton (wsX8_bit) := ggX0_takeButton_X8_bit
set_option maxRecDepth 20000 in
theorem ggX0_takeButton_X7_at : GoodIn wsX0_takeButton wsX7_at := goodIn_r _ [12, 13, 30] rfl (by decide +kernel)
set_option maxRecDepth 20000 in
theorem gX0_takeButton_X7_at : GoodIn wsX0_takeButton (wsV RX0 108 RX7 yX7_at wsX7_at) := goodIn_app (goodIn_of _ (by decide +kernel)) ggX0_takeButton_X7_at
set_option maxRecDepth 20000 in
theorem ggX0_pass_X1_pass : GoodIn wsX0_pass wsX1_pass := goodIn_r _ [12, 13, 14, 15, 16, 17, 18, 19, 20, 21, 22, 23, 24, 25, 319, 320, 321, 322] rfl (by decide +kernel)
set_option maxRecDepth 20000 in
theorem gX0_pass_X1_pass : GoodIn wsX0_pass (wsV RX0 112 RX1 yX1_pass wsX1_pass) := goodIn_app (goodIn_of _ (by decide +kernel)) ggX0_pass_X1_pass
set_option maxRecDepth 20000 in
theorem ggX0_pass_X3_pass : GoodIn wsX0_pass wsX3_pass := goodIn_r _ [30, 31, 32, 33, 34, 35, 36, 37, 38, 39, 40, 41, 42, 43, 44, 24, 45, 46, 47, 48, 49, 50, 51, 52, 53, 54, 55, 56, 29, 57, 323, 324, 325, 326, 327, 328, 329] rfl (by decide +kernel)
set_option maxRecDepth 20000 in
theorem gX0_pass_X3_pass : GoodIn wsX0_pass (wsV RX0 115 RX3 yX3_pass wsX3_pass) := goodIn_app (goodIn_of _ (by decide +kernel)) ggX0_pass_X3_pass
set_option maxRecDepth 20000 in
theorem ggX0_pass_X0_isOff : GoodIn wsX0_pass wsX0_isOff := goodIn_r _ [62, 7, 303, 304, 305, 306, 307, 308, 309, 310, 311, 312, 313, 314, 315, 316, 317, 318] rfl (by decide +kernel)
set_option maxRecDepth 20000 in
theorem gX0_pass_X0_isOff : GoodIn wsX0_pass (wsV RX0 118 RX0 yX0_isOff wsX0_isOff) := goodIn_app (goodIn_of _ (by decide +kernel)) ggX0_pass_X0_isOff
set_option maxRecDepth 20000 in
theorem ggX0_pass_X0_passCalls : GoodIn wsX0_pass wsX0_passCalls := goodIn_r _ [66, 7, 67, 24, 68, 69, 70, 71, 61, 72, 4, 5, 73, 74, 75, 76, 77, 78, 79, 80, 81, 82, 1, 83, 84, 85, 86, 11, 87, 14, 13, 23, 25, 88, 89, 90, 91, 92, 93, 94, 95, 96, 97, 98, 99, 100, 101, 102, 103, 330, 331, 332, 333, 334, 335, 336, 337, 338, 339, 303, 304, 305, 306, 307, 308, 309, 310, 311, 312, 313, 314, 315, 316, 317, 318, 319, 320, 321, 322, 340] rfl (by decide +kernel)
set_option maxRecDepth 20000 in
theorem gX0_pass_X0_passCalls : GoodIn wsX0_pass (wsV RX0 122 RX0 yX0_passCalls wsX0_passCalls) := goodIn_app (goodIn_of _ (by decide +kernel)) ggX0_pass_X0_passCalls
set_option maxRecDepth 20000 in
theorem ggX0_pass_X0_passTimes : GoodIn wsX0_pass wsX0_passTimes := goodIn_r _ [107, 83, 6, 7, 108, 109, 110, 76, 111, 112, 73, 74, 75, 77, 78, 88, 89, 90, 91, 92, 93, 113, 114, 115, 116, 117, 118, 119, 120, 121, 122, 123, 124, 125, 61, 126, 98, 99, 127, 128, 129, 130, 4, 5, 131, 132, 133, 134, 23, 24, 25, 135, 136, 137, 138, 139, 140, 141, 142, 143, 144, 145, 146, 147, 148, 149, 150, 151, 152, 153, 154, 155, 156, 157, 158, 159, 160, 161, 162, 163, 164, 165, 166, 167, 168, 169, 170, 171, 172, 173, 174, 175, 1, 84, 85, 86, 11, 87, 14, 13, 176, 177, 178, 179, 180, 181, 182, 183, 184, 185, 186, 187, 188, 189, 190, 330, 331, 332, 333, 334, 335, 336, 337, 338, 339, 303, 304, 305, 306, 307, 308, 309, 310, 311, 312, 313, 314, 315, 316, 317, 318, 340, 341, 342, 319, 320, 321, 322] rfl (by decide +kernel)
set_option maxRecDepth 20000 in
theorem gX0_pass_X0_passTimes : GoodIn wsX0_pass (wsV RX0 125 RX0 yX0_passTimes wsX0_passTimes) := goodIn_app (goodIn_of _ (by decide +kernel)) ggX0_pass_X0_passTimes
set_option maxRecDepth 20000 in
theorem ggX0_pass_X2_targetInForce : GoodIn wsX0_pass wsX2_targetInForce := goodIn_r _ [155, 156, 157, 23, 24, 25, 341, 342] rfl (by decide +kernel)
set_option maxRecDepth 20000 in
theorem gX0_pass_X2_targetInForce : GoodIn wsX0_pass (wsV RX0 129 RX2 yX2_targetInForce wsX2_targetInForce) := goodIn_app (goodIn_of _ (by decide +kernel)) ggX0_pass_X2_targetInForce
set_option maxRecDepth 20000 in
theorem ggX0_pass_X0_goByInput : GoodIn wsX0_pass wsX0_goByInput := goodIn_r _ [194, 195, 139, 4, 5, 196, 24, 197, 69, 70, 71, 61, 72, 198, 199, 200, 201, 7, 67, 68, 23, 25, 202, 203, 204, 205, 83, 206, 120, 121, 76, 122, 118, 117, 88, 89, 90, 91, 92, 93, 207, 208, 209, 210, 78, 162, 211, 212, 213, 214, 171, 182, 159, 160, 161, 215, 216, 217, 218, 108, 109, 110, 111, 112, 219, 220, 221, 222, 73, 74, 75, 77, 172, 173, 174, 175, 1, 98, 99, 84, 85, 86, 11, 87, 14, 13, 176, 177, 178, 179, 180, 181, 183, 184, 185, 186, 187, 188, 189, 190, 303, 304, 305, 306, 307, 308, 309, 310, 311, 312, 313, 314, 315, 316, 317, 318, 330, 331, 332, 333, 334, 335, 336, 337, 338, 339, 340, 319, 320, 321, 322] rfl (by decide +kernel)
set_option maxRecDepth 20000 in
theorem gX0_pass_X0_goByInput : GoodIn wsX0_pass (wsV RX0 132 RX0 yX0_goByInput wsX0_goByInput) := goodIn_app (goodIn_of _ (by decide +kernel)) ggX0_pass_X0_goByInput
set_option maxRecDepth 20000 in
theorem ggX0_pass_X3_isBeforeSplit : GoodIn wsX0_pass wsX3_isBeforeSplit := goodIn_r _ [226, 31, 33, 227, 228, 229, 37, 230, 231, 40, 41, 42, 43, 39, 323, 324, 325, 326, 327, 328, 329] rfl (by decide +kernel)
set_option maxRecDepth 20000 in
theorem gX0_pass_X3_isBeforeSplit : GoodIn wsX0_pass (wsV RX0 136 RX3 yX3_isBeforeSplit wsX3_isBeforeSplit) := goodIn_app (goodIn_of _ (by decide +kernel)) ggX0_pass_X3_isBeforeSplit
set_option maxRecDepth 20000 in
theorem ggX0_pass_X0_goByCalls : GoodIn wsX0_pass wsX0_goByCalls := goodIn_r _ [235, 139, 195, 98, 7, 4, 5, 127, 128, 129, 61, 130, 131, 132, 133, 76, 134, 78, 112, 23, 24, 25, 123, 124, 125, 126, 99, 135, 136, 137, 138, 140, 141, 142, 143, 144, 109, 110, 111, 145, 146, 147, 148, 149, 150, 236, 237, 238, 239, 73, 74, 75, 77, 183, 184, 185, 186, 187, 188, 189, 190, 118, 117, 240, 241, 242, 243, 83, 88, 89, 90, 91, 92, 93, 207, 208, 209, 210, 162, 211, 212, 213, 214, 171, 182, 159, 160, 161, 244, 245, 246, 247, 108, 219, 220, 221, 222, 69, 70, 71, 72, 248, 249, 250, 251, 252, 253, 254, 255, 172, 173, 174, 175, 1, 84, 85, 86, 11, 87, 14, 13, 176, 177, 178, 179, 180, 181, 303, 304, 305, 306, 307, 308, 309, 310, 311, 312, 313, 314, 315, 316, 317, 318, 330, 331, 332, 333, 334, 335, 336, 337, 338, 339, 340, 319, 320, 321, 322] rfl (by decide +kernel)
set_option maxRecDepth 20000 in
theorem gX0_pass_X0_goByCalls : GoodIn wsX0_pass (wsV RX0 140 RX0 yX0_goByCalls wsX0_goByCalls) := goodIn_app (goodIn_of _ (by decide +kernel)) ggX0_pass_X0_goByCalls
set_option maxRecDepth 20000 in
theorem ggX0_pass_X0_watch : GoodIn wsX0_pass wsX0_watch := goodIn_r _ [259, 260, 7, 3, 4, 5, 98, 99, 261, 262, 263, 61, 264, 265, 266, 24, 267, 23, 25, 67, 68, 69, 70, 71, 72, 268, 269, 270, 271, 272, 273, 274, 275, 276, 277, 278, 279, 280, 281, 282, 283, 284, 285, 286, 287, 196, 197, 288, 289, 290, 291, 292, 293, 294, 295, 296, 297, 298, 299, 300, 301, 302, 167, 168, 169, 76, 170, 112, 171, 78, 118, 303, 304, 305, 306, 307, 308, 309, 310, 311, 312, 313, 314, 315, 316, 317, 318, 330, 331, 332, 333, 334, 335, 336, 337, 338, 339, 343, 344, 345, 346] rfl (by decide +kernel)
set_option maxRecDepth 20000 in
theorem gX0_pass_X0_watch : GoodIn wsX0_pass (wsV RX0 144 RX0 yX0_watch wsX0_watch) := goodIn_app (goodIn_of _ (by decide +kernel)) ggX0_pass_X0_watch
set_option maxRecDepth 20000 in
theorem ggX0_passCalls_X8_ringOf : GoodIn wsX0_passCalls wsX8_ringOf := goodIn_r _ [4] rfl (by decide +kernel)
set_option maxRecDepth 20000 in
theorem gX0_passCalls_X8_ringOf_n147 : GoodIn wsX0_passCalls (wsX8_ringOf) := ggX0_passCalls_X8_ringOf
set_option maxRecDepth 20000 in
theorem ggX0_passCalls_X0_ring : GoodIn wsX0_passCalls wsX0_ring := goodIn_r _ [9, 10, 11, 59, 60, 61, 62, 63, 64, 65, 66, 67, 68, 69, 70, 71, 72, 73, 74] rfl (by decide +kernel)
set_option maxRecDepth 20000 in
theorem gX0_passCalls_X0_ring : GoodIn wsX0_passCalls (wsV RX0 150 RX0 yX0_ring wsX0_ring) := goodIn_app (goodIn_of _ (by decide +kernel)) ggX0_passCalls_X0_ring
set_option maxRecDepth 20000 in
theorem ggX0_passCalls_X6_isGreen : GoodIn wsX0_passCalls wsX6_isGreen := goodIn_r _ [16, 17, 49, 50, 51, 52, 53, 54, 55, 56, 57, 58] rfl (by decide +kernel)
set_option maxRecDepth 20000 in
theorem gX0_passCalls_X6_isGreen : GoodIn wsX0_passCalls (wsV RX0 154 RX6 yX6_isGreen wsX6_isGreen) := goodIn_app (goodIn_of _ (by decide +kernel)) ggX0_passCalls_X6_isGreen
set_option maxRecDepth 20000 in
theorem ggX0_passCalls_X0_passGap : GoodIn wsX0_passCalls wsX0_passGap := goodIn_r _ [21, 22, 23, 24, 25, 26, 27, 28, 29, 30, 31, 3, 32, 33, 34, 35, 36, 37, 38, 49, 50, 51, 52, 53, 54, 55, 56, 57, 58, 59, 60, 61, 62, 63, 64, 65, 66, 67, 68, 69, 70, 71, 72, 73, 74, 75, 76, 77, 78, 79] rfl (by decide +kernel)
set_option maxRecDepth 20000 in
theorem gX0_passCalls_X0_passGap : GoodIn wsX0_passCalls (wsV RX0 160 RX0 yX0_passGap wsX0_passGap) := goodIn_app (goodIn_of _ (by decide +kernel)) ggX0_passCalls_X0_passGap
set_option maxRecDepth 20000 in
theorem ggX0_passCalls_X8_bit : GoodIn wsX0_passCalls wsX8_bit := goodIn_r _ [32] rfl (by decide +kernel)
set_option maxRecDepth 20000 in
theorem gX0_passCalls_X8_bit_n104 : GoodIn wsX0_passCalls (wsX8_bit) := ggX0_passCalls_X8_bit
set_option maxRecDepth 20000 in
theorem ggX0_passCalls_X0_noteCalls : GoodIn wsX0_passCalls wsX0_noteCalls := goodIn_r _ [42, 23, 22, 43, 44, 33, 34, 35, 36, 37, 38, 45, 46, 47, 27, 48, 29, 30, 31, 3, 32, 59, 60, 61, 62, 63, 64, 65, 66, 67, 68, 69, 70, 71, 72, 73, 74, 79, 75, 76, 77, 78] rfl (by decide +kernel)
set_option maxRecDepth 20000 in
theorem gX0_passCalls_X0_noteCalls : GoodIn wsX0_passCalls (wsV RX0 163 RX0 yX0_noteCalls wsX0_noteCalls) := goodIn_app (goodIn_of _ (by decide +kernel)) ggX0_passCalls_X0_noteCalls
set_option maxRecDepth 20000 in
theorem ggX0_passGap_X1_extendsGreen : GoodIn wsX0_passGap wsX1_extendsGreen := goodIn_r _ [7, 8, 9, 10, 11, 12, 45, 46, 47, 48] rfl (by decide +kernel)
set_option maxRecDepth 20000 in
theorem gX0_passGap_X1_extendsGreen : GoodIn wsX0_passGap (wsV RX0 166 RX1 yX1_extendsGreen wsX1_extendsGreen) := goodIn_app (goodIn_of _ (by decide +kernel)) ggX0_passGap_X1_extendsGreen
set_option maxRecDepth 20000 in
theorem ggX0_passGap_X7_at : GoodIn wsX0_passGap wsX7_at := goodIn_r _ [17, 18, 49] rfl (by decide +kernel)
set_option maxRecDepth 20000 in
theorem gX0_passGap_X7_at : GoodIn wsX0_passGap (wsV RX0 108 RX7 yX7_at wsX7_at) := goodIn_app (goodIn_of _ (by decide +kernel)) ggX0_passGap_X7_at
set_option maxRecDepth 20000 in
theorem ggX0_noteCalls_X7_at : GoodIn wsX0_noteCalls wsX7_at := goodIn_r _ [9, 10, 37] rfl (by decide +kernel)
set_option maxRecDepth 20000 in
theorem gX0_noteCalls_X7_at : GoodIn wsX0_noteCalls (wsV RX0 108 RX7 yX7_at wsX7_at) := goodIn_app (goodIn_of _ (by decide +kernel)) ggX0_noteCalls_X7_at
set_option maxRecDepth 20000 in
theorem ggX0_noteCalls_X1_calls : GoodIn wsX0_noteCalls wsX1_calls := goodIn_r _ [15, 16, 17, 18, 19, 20, 38, 39, 40, 41] rfl (by decide +kernel)
set_option maxRecDepth 20000 in
theorem gX0_noteCalls_X1_calls : GoodIn wsX0_noteCalls (wsV RX0 173 RX1 yX1_calls wsX1_calls) := goodIn_app (goodIn_of _ (by decide +kernel)) ggX0_noteCalls_X1_calls
set_option maxRecDepth 20000 in
theorem ggX0_noteCalls_X8_bit : GoodIn wsX0_noteCalls wsX8_bit := goodIn_r _ [20] rfl (by decide +kernel)
set_option maxRecDepth 20000 in
theorem gX0_noteCalls_X8_bit_n104 : GoodIn wsX0_noteCalls (wsX8_bit) := ggX0_noteCalls_X8_bit
set_option maxRecDepth 20000 in
theorem ggX0_passTimes_X6_waits : GoodIn wsX0_passTimes wsX6_waits := goodIn_r _ [8, 9, 115, 116, 117, 118, 119, 120, 121, 122, 123, 124] rfl (by decide +kernel)
set_option maxRecDepth 20000 in
theorem gX0_passTimes_X6_waits : GoodIn wsX0_passTimes (wsV RX0 175 RX6 yX6_waits wsX6_waits) := goodIn_app (goodIn_of _ (by decide +kernel)) ggX0_passTimes_X6_waits
set_option maxRecDepth 20000 in
theorem ggX0_passTimes_X6_isGreen : GoodIn wsX0_passTimes wsX6_isGreen := goodIn_r _ [13, 14, 115, 116, 117, 118, 119, 120, 121, 122, 123, 124] rfl (by decide +kernel)
set_option maxRecDepth 20000 in
theorem gX0_passTimes_X6_isGreen : GoodIn wsX0_passTimes (wsV RX0 154 RX6 yX6_isGreen wsX6_isGreen) := goodIn_app (goodIn_of _ (by decide +kernel)) ggX0_passTimes_X6_isGreen
set_option maxRecDepth 20000 in
theorem ggX0_passTimes_X7_at : GoodIn wsX0_passTimes wsX7_at := goodIn_r _ [19, 20, 141] rfl (by decide +kernel)
set_option maxRecDepth 20000 in
theorem gX0_passTimes_X7_at : GoodIn wsX0_passTimes (wsV RX0 108 RX7 yX7_at wsX7_at) := goodIn_app (goodIn_of _ (by decide +kernel)) ggX0_passTimes_X7_at
set_option maxRecDepth 20000 in
theorem ggX0_passTimes_X6_passWalk : GoodIn wsX0_passTimes wsX6_passWalk := goodIn_r _ [24, 25, 26, 27, 28, 29, 7, 30, 115, 116, 117, 118, 119, 120, 121, 122, 123, 124] rfl (by decide +kernel)
set_option maxRecDepth 20000 in
theorem gX0_passTimes_X6_passWalk : GoodIn wsX0_passTimes (wsV RX0 181 RX6 yX6_passWalk wsX6_passWalk) := goodIn_app (goodIn_of _ (by decide +kernel)) ggX0_passTimes_X6_passWalk
set_option maxRecDepth 20000 in
theorem ggX0_passTimes_X0_countingCalls : GoodIn wsX0_passTimes wsX0_countingCalls := goodIn_r _ [35, 36, 37, 38, 39, 40, 34, 41, 42, 43, 44, 45, 46, 7, 47, 14, 9, 48, 49, 50, 125, 126, 127, 128, 129, 130, 131, 132, 133, 134, 135, 136, 137, 138, 139, 140, 115, 116, 117, 118, 119, 120, 121, 122, 123, 124] rfl (by decide +kernel)
set_option maxRecDepth 20000 in
theorem gX0_passTimes_X0_countingCalls : GoodIn wsX0_passTimes (wsV RX0 185 RX0 yX0_countingCalls wsX0_countingCalls) := goodIn_app (goodIn_of _ (by decide +kernel)) ggX0_passTimes_X0_countingCalls
set_option maxRecDepth 20000 in
theorem ggX0_passTimes_X0_weigh : GoodIn wsX0_passTimes wsX0_weigh := goodIn_r _ [54, 42, 43, 55, 56, 57, 58, 7, 59, 9, 60, 5, 6, 8, 48, 49, 50, 61, 62, 63, 64, 65, 66, 125, 126, 127, 128, 129, 130, 131, 132, 133, 134, 135, 136, 137, 138, 139, 140, 115, 116, 117, 118, 119, 120, 121, 122, 123, 124] rfl (by decide +kernel)
set_option maxRecDepth 20000 in
theorem gX0_passTimes_X0_weigh : GoodIn wsX0_passTimes (wsV RX0 188 RX0 yX0_weigh wsX0_weigh) := goodIn_app (goodIn_of _ (by decide +kernel)) ggX0_passTimes_X0_weigh
set_option maxRecDepth 20000 in
theorem ggX0_passTimes_X2_targetInForce : GoodIn wsX0_passTimes wsX2_targetInForce := goodIn_r _ [71, 72, 73, 48, 49, 50, 142, 143] rfl (by decide +kernel)
set_option maxRecDepth 20000 in
theorem gX0_passTimes_X2_targetInForce : GoodIn wsX0_passTimes (wsV RX0 129 RX2 yX2_targetInForce wsX2_targetInForce) := goodIn_app (goodIn_of _ (by decide +kernel)) ggX0_passTimes_X2_targetInForce
set_option maxRecDepth 20000 in
theorem ggX0_passTimes_X6_show : GoodIn wsX0_passTimes wsX6_show := goodIn_r _ [77, 14, 78, 115, 116, 117, 118, 119, 120, 121, 122, 123, 124] rfl (by decide +kernel)
set_option maxRecDepth 20000 in
theorem gX0_passTimes_X6_show : GoodIn wsX0_passTimes (wsV RX0 201 RX6 yX6_show wsX6_show) := goodIn_app (goodIn_of _ (by decide +kernel)) ggX0_passTimes_X6_show
set_option maxRecDepth 20000 in
theorem ggX0_passTimes_X0_end : GoodIn wsX0_passTimes wsX0_end := goodIn_r _ [82, 83, 84, 85, 7, 86, 9, 87, 14, 26, 88, 89, 90, 34, 91, 92, 1, 36, 37, 93, 94, 95, 96, 97, 98, 99, 48, 49, 50, 15, 16, 17, 18, 19, 20, 100, 101, 102, 103, 104, 105, 106, 75, 76, 77, 78, 107, 108, 109, 110, 111, 112, 113, 114, 25, 115, 116, 117, 118, 119, 120, 121, 122, 123, 124, 125, 126, 127, 128, 129, 130, 131, 132, 133, 134, 135, 136, 137, 138, 139, 140, 144, 145, 146, 147, 141] rfl (by decide +kernel)
set_option maxRecDepth 20000 in
theorem gX0_passTimes_X0_end : GoodIn wsX0_passTimes (wsV RX0 204 RX0 yX0_end wsX0_end) := goodIn_app (goodIn_of _ (by decide +kernel)) ggX0_passTimes_X0_end
set_option maxRecDepth 20000 in
theorem ggX0_weigh_X6_phaseBefore : GoodIn wsX0_weigh wsX6_phaseBefore := goodIn_r _ [8, 9, 10, 11, 12, 7, 13, 14, 15, 16, 39, 40, 41, 42, 43, 44, 45, 46, 47, 48] rfl (by decide +kernel)
set_option maxRecDepth 20000 in
theorem gX0_weigh_X6_phaseBefore : GoodIn wsX0_weigh (wsV RX0 207 RX6 yX6_phaseBefore wsX6_phaseBefore) := goodIn_app (goodIn_of _ (by decide +kernel)) ggX0_weigh_X6_phaseBefore
set_option maxRecDepth 20000 in
theorem ggX0_weigh_X8_phasesOfSide : GoodIn wsX0_weigh wsX8_phasesOfSide := goodIn_r _ [18] rfl (by decide +kernel)
set_option maxRecDepth 20000 in
theorem gX0_weigh_X8_phasesOfSide_n210 : GoodIn wsX0_weigh (wsX8_phasesOfSide) := ggX0_weigh_X8_phasesOfSide
set_option maxRecDepth 20000 in
theorem ggX0_weigh_X6_phaseBehind : GoodIn wsX0_weigh wsX6_phaseBehind := goodIn_r _ [22, 9, 10, 11, 12, 7, 13, 14, 15, 16, 39, 40, 41, 42, 43, 44, 45, 46, 47, 48] rfl (by decide +kernel)
set_option maxRecDepth 20000 in
theorem gX0_weigh_X6_phaseBehind : GoodIn wsX0_weigh (wsV RX0 213 RX6 yX6_phaseBehind wsX6_phaseBehind) := goodIn_app (goodIn_of _ (by decide +kernel)) ggX0_weigh_X6_phaseBehind
set_option maxRecDepth 20000 in
theorem ggX0_end_X6_rest : GoodIn wsX0_end wsX6_rest := goodIn_r _ [5, 6, 7, 8, 9, 55, 56, 57, 58, 59, 60, 61, 62, 63, 64] rfl (by decide +kernel)
set_option maxRecDepth 20000 in
theorem gX0_end_X6_rest : GoodIn wsX0_end (wsV RX0 98 RX6 yX6_rest wsX6_rest) := goodIn_app (goodIn_of _ (by decide +kernel)) ggX0_end_X6_rest
set_option maxRecDepth 20000 in
theorem ggX0_end_X0_begin : GoodIn wsX0_end wsX0_begin := goodIn_r _ [14, 15, 16, 17, 18, 19, 20, 21, 22, 23, 24, 25, 26, 27, 28, 29, 30, 31, 32, 33, 34, 35, 36, 37, 4, 38, 6, 7, 39, 40, 9, 41, 42, 43, 44, 8, 45, 46, 47, 48, 13, 49, 50, 51, 52, 53, 54, 65, 66, 67, 68, 69, 70, 71, 72, 73, 74, 75, 76, 77, 78, 79, 80, 81, 82, 83, 84, 85, 55, 56, 57, 58, 59, 60, 61, 62, 63, 64] rfl (by decide +kernel)
set_option maxRecDepth 20000 in
theorem gX0_end_X0_begin : GoodIn wsX0_end (wsV RX0 222 RX0 yX0_begin wsX0_begin) := goodIn_app (goodIn_of _ (by decide +kernel)) ggX0_end_X0_begin
set_option maxRecDepth 20000 in
theorem ggX0_begin_X1_extendsGreen : GoodIn wsX0_begin wsX1_extendsGreen := goodIn_r _ [9, 10, 11, 12, 13, 14, 63, 64, 65, 66] rfl (by decide +kernel)
set_option maxRecDepth 20000 in
theorem gX0_begin_X1_extendsGreen : GoodIn wsX0_begin (wsV RX0 166 RX1 yX1_extendsGreen wsX1_extendsGreen) := goodIn_app (goodIn_of _ (by decide +kernel)) ggX0_begin_X1_extendsGreen
set_option maxRecDepth 20000 in
theorem ggX0_begin_X7_at : GoodIn wsX0_begin wsX7_at := goodIn_r _ [19, 20, 67] rfl (by decide +kernel)
set_option maxRecDepth 20000 in
theorem gX0_begin_X7_at : GoodIn wsX0_begin (wsV RX0 108 RX7 yX7_at wsX7_at) := goodIn_app (goodIn_of _ (by decide +kernel)) ggX0_begin_X7_at
set_option maxRecDepth 20000 in
theorem ggX0_begin_X6_begin : GoodIn wsX0_begin wsX6_begin := goodIn_r _ [25, 26, 27, 28, 29, 30, 31, 32, 33, 24, 34, 35, 36, 68, 69, 70, 71, 72, 73, 74, 75, 76, 77] rfl (by decide +kernel)
set_option maxRecDepth 20000 in
theorem gX0_begin_X6_begin : GoodIn wsX0_begin (wsV RX0 225 RX6 yX6_begin wsX6_begin) := goodIn_app (goodIn_of _ (by decide +kernel)) ggX0_begin_X6_begin
set_option maxRecDepth 20000 in
theorem ggX0_begin_X8_bit : GoodIn wsX0_begin wsX8_bit := goodIn_r _ [14] rfl (by decide +kernel)
set_option maxRecDepth 20000 in
theorem gX0_begin_X8_bit_n104 : GoodIn wsX0_begin (wsX8_bit) := ggX0_begin_X8_bit
set_option maxRecDepth 20000 in
theorem ggX0_begin_X0_beginWalk : GoodIn wsX0_begin wsX0_beginWalk := goodIn_r _ [41, 4, 42, 43, 44, 24, 45, 30, 46, 12, 13, 14, 47, 48, 49, 50, 51, 52, 53, 54, 55, 56, 57, 58, 59, 60, 61, 62, 68, 69, 70, 71, 72, 73, 74, 75, 76, 77] rfl (by decide +kernel)
set_option maxRecDepth 20000 in
theorem gX0_begin_X0_beginWalk : GoodIn wsX0_begin (wsV RX0 227 RX0 yX0_beginWalk wsX0_beginWalk) := goodIn_app (goodIn_of _ (by decide +kernel)) ggX0_begin_X0_beginWalk
set_option maxRecDepth 20000 in
theorem ggX0_beginWalk_X6_beginWalk : GoodIn wsX0_beginWalk wsX6_beginWalk := goodIn_r _ [6, 7, 8, 28, 29, 30, 31, 32, 33, 34, 35, 36, 37] rfl (by decide +kernel)
set_option maxRecDepth 20000 in
theorem gX0_beginWalk_X6_beginWalk : GoodIn wsX0_beginWalk (wsV RX0 230 RX6 yX6_beginWalk wsX6_beginWalk) := goodIn_app (goodIn_of _ (by decide +kernel)) ggX0_beginWalk_X6_beginWalk
set_option maxRecDepth 20000 in
theorem ggX0_beginWalk_X8_bit : GoodIn wsX0_beginWalk wsX8_bit := goodIn_r _ [11] rfl (by decide +kernel)
set_option maxRecDepth 20000 in
theorem gX0_beginWalk_X8_bit_n104 : GoodIn wsX0_beginWalk (wsX8_bit) := ggX0_beginWalk_X8_bit
