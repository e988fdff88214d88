set_option maxRecDepth 20000 in
theorem ggL_law_X3_sideBySide : GoodIn wsL_law wsX3_sideBySide := goodIn_r _ [467, 16, 439, 440, 2, 441, 76, 77, 78, 135, 99, 100, 15, 101, 39, 93, 468, 469, 470, 471, 37, 169, 170, 171, 172, 472, 473, 474, 475, 476, 607, 608, 609, 610, 611, 612, 613, 614, 615, 637, 638, 639, 640, 641, 642, 643, 644, 645, 646, 647, 648] rfl (by decide +kernel)
set_option maxRecDepth 20000 in
theorem gL_law_X3_sideBySide : GoodIn wsL_law (wsV RL 61 RX3 yX3_sideBySide wsX3_sideBySide) := goodIn_app (goodIn_r _ [464, 465, 466, 2] rfl (by decide +kernel)) ggL_law_X3_sideBySide
set_option maxRecDepth 20000 in
theorem ggL_law_X4_sideBySide : GoodIn wsL_law wsX4_sideBySide := goodIn_r _ [480, 58, 106, 107, 5, 108, 217, 218, 219, 220, 616, 617, 618, 619, 620, 621, 622, 623, 624, 625, 626, 627, 628, 629, 630, 631, 632, 633, 634, 635, 636] rfl (by decide +kernel)
set_option maxRecDepth 20000 in
theorem gL_law_X4_sideBySide : GoodIn wsL_law (wsV RL 64 RX4 yX4_sideBySide wsX4_sideBySide) := goodIn_app (goodIn_r _ [477, 478, 479, 5] rfl (by decide +kernel)) ggL_law_X4_sideBySide
set_option maxRecDepth 20000 in
theorem ggL_law_X3_common : GoodIn wsL_law wsX3_common := goodIn_r _ [484, 16, 233, 30, 349, 273, 162, 163, 164, 263, 239, 240, 15, 241, 93, 77, 2, 78, 340, 243, 244, 245, 39, 485, 283, 284, 285, 607, 608, 609, 610, 611, 612, 613, 614, 615, 637, 638, 639, 640, 641, 642, 643, 644, 645, 646, 647, 648] rfl (by decide +kernel)
set_option maxRecDepth 20000 in
theorem gL_law_X3_common : GoodIn wsL_law (wsV RL 65 RX3 yX3_common wsX3_common) := goodIn_app (goodIn_r _ [481, 482, 483, 2] rfl (by decide +kernel)) ggL_law_X3_common
set_option maxRecDepth 20000 in
theorem ggL_law_X4_common : GoodIn wsL_law wsX4_common := goodIn_r _ [489, 58, 255, 256, 257, 5, 258, 106, 107, 108, 217, 218, 219, 220, 616, 617, 618, 619, 620, 621, 622, 623, 624, 625, 626, 627, 628, 629, 630, 631, 632, 633, 634, 635, 636] rfl (by decide +kernel)
set_option maxRecDepth 20000 in
theorem gL_law_X4_common : GoodIn wsL_law (wsV RL 68 RX4 yX4_common wsX4_common) := goodIn_app (goodIn_r _ [486, 487, 488, 5] rfl (by decide +kernel)) ggL_law_X4_common
set_option maxRecDepth 20000 in
theorem ggL_law_X3_ifHeated : GoodIn wsL_law wsX3_ifHeated := goodIn_r _ [493, 16, 233, 17, 407, 118, 234, 235, 236, 15, 237, 238, 239, 240, 241, 93, 77, 2, 78, 242, 243, 244, 245, 39, 76, 494, 495, 496, 497, 286, 86, 87, 88, 36, 89, 90, 91, 92, 37, 38, 40, 41, 94, 95, 96, 97, 98, 99, 100, 101, 246, 178, 179, 180, 181, 182, 163, 183, 156, 157, 158, 159, 160, 161, 162, 164, 165, 166, 167, 168, 169, 170, 171, 172, 173, 174, 175, 176, 177, 320, 321, 322, 323, 324, 325, 326, 327, 607, 608, 609, 610, 611, 612, 613, 614, 615, 637, 638, 639, 640, 641, 642, 643, 644, 645, 646, 647, 648] rfl (by decide +kernel)
set_option maxRecDepth 20000 in
theorem gL_law_X3_ifHeated : GoodIn wsL_law (wsV RL 69 RX3 yX3_ifHeated wsX3_ifHeated) := goodIn_app (goodIn_r _ [490, 491, 492, 2] rfl (by decide +kernel)) ggL_law_X3_ifHeated
set_option maxRecDepth 20000 in
theorem ggL_law_X4_ifHeated : GoodIn wsL_law wsX4_ifHeated := goodIn_r _ [501, 502, 503, 504, 505, 251, 252, 253, 5, 254, 58, 255, 256, 257, 258, 106, 107, 108, 217, 218, 219, 220, 506, 507, 508, 509, 59, 510, 511, 512, 513, 225, 226, 227, 228, 205, 206, 207, 208, 209, 210, 211, 212, 213, 214, 215, 216, 221, 222, 223, 224, 332, 333, 334, 335, 514, 515, 516, 517, 616, 617, 618, 619, 620, 621, 622, 623, 624, 625, 626, 627, 628, 629, 630, 631, 632, 633, 634, 635, 636] rfl (by decide +kernel)
set_option maxRecDepth 20000 in
theorem gL_law_X4_ifHeated : GoodIn wsL_law (wsV RL 73 RX4 yX4_ifHeated wsX4_ifHeated) := goodIn_app (goodIn_r _ [498, 499, 500, 5] rfl (by decide +kernel)) ggL_law_X4_ifHeated
set_option maxRecDepth 20000 in
theorem ggL_law_X3_critical : GoodIn wsL_law wsX3_critical := goodIn_r _ [521, 16, 233, 75, 319, 273, 162, 163, 164, 17, 407, 234, 235, 236, 15, 237, 238, 239, 240, 241, 93, 77, 2, 78, 242, 243, 244, 245, 39, 522, 523, 524, 525, 38, 36, 98, 99, 100, 101, 494, 495, 496, 497, 286, 86, 87, 88, 89, 90, 91, 92, 37, 40, 41, 94, 95, 96, 97, 246, 178, 179, 180, 181, 182, 183, 156, 157, 158, 159, 160, 161, 165, 166, 167, 168, 169, 170, 171, 172, 173, 174, 175, 176, 177, 607, 608, 609, 610, 611, 612, 613, 614, 615, 637, 638, 639, 640, 641, 642, 643, 644, 645, 646, 647, 648] rfl (by decide +kernel)
set_option maxRecDepth 20000 in
theorem gL_law_X3_critical : GoodIn wsL_law (wsV RL 74 RX3 yX3_critical wsX3_critical) := goodIn_app (goodIn_r _ [518, 519, 520, 2] rfl (by decide +kernel)) ggL_law_X3_critical
set_option maxRecDepth 20000 in
theorem ggL_law_X4_critical : GoodIn wsL_law wsX4_critical := goodIn_r _ [529, 503, 251, 252, 253, 5, 254, 58, 255, 256, 257, 258, 106, 107, 108, 217, 218, 219, 220, 506, 507, 508, 509, 502, 59, 504, 505, 510, 511, 512, 513, 225, 226, 227, 228, 205, 206, 207, 208, 209, 210, 211, 212, 213, 214, 215, 216, 221, 222, 223, 224, 332, 333, 334, 335, 514, 515, 516, 517, 616, 617, 618, 619, 620, 621, 622, 623, 624, 625, 626, 627, 628, 629, 630, 631, 632, 633, 634, 635, 636] rfl (by decide +kernel)
set_option maxRecDepth 20000 in
theorem gL_law_X4_critical : GoodIn wsL_law (wsV RL 77 RX4 yX4_critical wsX4_critical) := goodIn_app (goodIn_r _ [526, 527, 528, 5] rfl (by decide +kernel)) ggL_law_X4_critical
set_option maxRecDepth 20000 in
theorem ggL_law_X3_touchiest : GoodIn wsL_law wsX3_touchiest := goodIn_r _ [533, 16, 118, 319, 75, 76, 77, 2, 78, 522, 523, 524, 15, 525, 38, 36, 98, 99, 100, 101, 39, 93, 135, 494, 495, 496, 497, 17, 286, 86, 87, 88, 89, 90, 91, 92, 37, 40, 41, 94, 95, 96, 97, 246, 178, 179, 180, 181, 182, 163, 183, 156, 157, 158, 159, 160, 161, 162, 164, 165, 166, 167, 168, 169, 170, 171, 172, 173, 174, 175, 176, 177, 472, 473, 474, 475, 476, 607, 608, 609, 610, 611, 612, 613, 614, 615, 637, 638, 639, 640, 641, 642, 643, 644, 645, 646, 647, 648] rfl (by decide +kernel)
set_option maxRecDepth 20000 in
theorem gL_law_X3_touchiest : GoodIn wsL_law (wsV RL 78 RX3 yX3_touchiest wsX3_touchiest) := goodIn_app (goodIn_r _ [530, 531, 532, 2] rfl (by decide +kernel)) ggL_law_X3_touchiest
set_option maxRecDepth 20000 in
theorem ggL_law_X4_touchiest : GoodIn wsL_law wsX4_touchiest := goodIn_r _ [537, 58, 502, 106, 107, 5, 108, 506, 507, 508, 509, 59, 503, 504, 505, 510, 511, 512, 513, 225, 226, 227, 228, 205, 206, 207, 208, 209, 210, 211, 212, 213, 214, 215, 216, 217, 218, 219, 220, 221, 222, 223, 224, 332, 333, 334, 335, 514, 515, 516, 517, 616, 617, 618, 619, 620, 621, 622, 623, 624, 625, 626, 627, 628, 629, 630, 631, 632, 633, 634, 635, 636] rfl (by decide +kernel)
set_option maxRecDepth 20000 in
theorem gL_law_X4_touchiest : GoodIn wsL_law (wsV RL 81 RX4 yX4_touchiest wsX4_touchiest) := goodIn_app (goodIn_r _ [534, 535, 536, 5] rfl (by decide +kernel)) ggL_law_X4_touchiest
set_option maxRecDepth 20000 in
theorem ggL_law_X3_coolestPair : GoodIn wsL_law wsX3_coolestPair := goodIn_r _ [541, 16, 118, 31, 32, 76, 77, 2, 78, 274, 275, 276, 15, 277, 42, 278, 279, 280, 281, 39, 37, 282, 283, 284, 285, 367, 368, 369, 370, 324, 325, 326, 327, 38, 607, 608, 609, 610, 611, 612, 613, 614, 615, 637, 638, 639, 640, 641, 642, 643, 644, 645, 646, 647, 648] rfl (by decide +kernel)
set_option maxRecDepth 20000 in
theorem gL_law_X3_coolestPair : GoodIn wsL_law (wsV RL 82 RX3 yX3_coolestPair wsX3_coolestPair) := goodIn_app (goodIn_r _ [538, 539, 540, 2] rfl (by decide +kernel)) ggL_law_X3_coolestPair
set_option maxRecDepth 20000 in
theorem ggL_law_X4_coolestPair : GoodIn wsL_law wsX4_coolestPair := goodIn_r _ [545, 58, 106, 107, 5, 108, 387, 388, 389, 390, 217, 218, 219, 220, 299, 300, 301, 302, 303, 304, 305, 306, 616, 617, 618, 619, 620, 621, 622, 623, 624, 625, 626, 627, 628, 629, 630, 631, 632, 633, 634, 635, 636] rfl (by decide +kernel)
set_option maxRecDepth 20000 in
theorem gL_law_X4_coolestPair : GoodIn wsL_law (wsV RL 85 RX4 yX4_coolestPair wsX4_coolestPair) := goodIn_app (goodIn_r _ [542, 543, 544, 5] rfl (by decide +kernel)) ggL_law_X4_coolestPair
