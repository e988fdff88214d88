set_option maxRecDepth 20000 in
theorem ggL_law_X3_init : GoodIn wsL_law wsX3_init := goodIn_r _ [9, 10, 11, 12, 13, 14, 15, 16, 17, 18, 19, 20, 21, 22, 23, 24, 25, 26, 27, 28, 29, 30, 31, 32, 33, 34, 35, 36, 37, 38, 39, 40, 41, 42, 43, 44, 45, 46, 47, 48, 49, 50, 51, 52, 53, 637, 638, 639, 640, 641, 642, 643, 644, 645, 646, 647, 648, 607, 608, 609, 610, 611, 612, 613, 614, 615, 649, 650, 651, 652, 653] rfl (by decide +kernel)
set_option maxRecDepth 20000 in
theorem gL_law_X3_init : GoodIn wsL_law (wsX3_init) := ggL_law_X3_init
set_option maxRecDepth 20000 in
theorem ggL_law_X4_init : GoodIn wsL_law wsX4_init := goodIn_r _ [56, 57, 11, 12, 29, 58, 59, 60, 61, 23, 62, 63, 64, 65, 66, 67, 68, 616, 617, 618, 619, 620, 621, 622, 623, 624, 625, 626, 627, 628, 629, 630, 631, 632, 633, 634, 635, 636] rfl (by decide +kernel)
set_option maxRecDepth 20000 in
theorem gL_law_X4_init : GoodIn wsL_law (wsX4_init) := ggL_law_X4_init
set_option maxRecDepth 20000 in
theorem ggL_law_X3_set : GoodIn wsL_law wsX3_set := goodIn_r _ [72, 73, 74, 21, 16, 75, 76, 77, 2, 78, 79, 80, 81, 20, 82, 48, 83, 84, 85, 86, 87, 15, 88, 36, 89, 90, 91, 92, 37, 38, 39, 93, 40, 41, 94, 95, 96, 97, 98, 99, 100, 101, 607, 608, 609, 610, 611, 612, 613, 614, 615, 637, 638, 639, 640, 641, 642, 643, 644, 645, 646, 647, 648, 649, 650, 651] rfl (by decide +kernel)
set_option maxRecDepth 20000 in
theorem gL_law_X3_set : GoodIn wsL_law (wsV RL 13 RX3 yX3_set wsX3_set) := goodIn_app (goodIn_r _ [69, 70, 71, 2] rfl (by decide +kernel)) ggL_law_X3_set
set_option maxRecDepth 20000 in
theorem ggL_law_X4_set : GoodIn wsL_law wsX4_set := goodIn_r _ [105, 58, 106, 107, 5, 108, 109, 110, 111, 112, 113, 60, 616, 617, 618, 619, 620, 621, 622, 623, 624, 625, 626, 627, 628, 629, 630, 631, 632, 633, 634, 635, 636] rfl (by decide +kernel)
set_option maxRecDepth 20000 in
theorem gL_law_X4_set : GoodIn wsL_law (wsV RL 17 RX4 yX4_set wsX4_set) := goodIn_app (goodIn_r _ [102, 103, 104, 5] rfl (by decide +kernel)) ggL_law_X4_set
set_option maxRecDepth 20000 in
theorem ggL_law_X3_write : GoodIn wsL_law wsX3_write := goodIn_r _ [117, 28, 16, 118, 21, 119, 120, 121, 122, 27, 123, 124, 53, 125, 126, 127, 128, 129, 130, 77, 2, 78, 131, 132, 133, 134, 135, 99, 100, 15, 101, 39, 93, 136, 137, 138, 139, 79, 80, 81, 20, 82, 48, 83, 84, 85, 86, 87, 88, 36, 89, 90, 91, 92, 37, 38, 40, 41, 94, 95, 96, 97, 98, 140, 141, 142, 143, 144, 145, 146, 147, 148, 149, 150, 151, 152, 153, 154, 155, 156, 157, 158, 159, 160, 161, 162, 163, 164, 165, 166, 167, 168, 169, 170, 171, 172, 173, 174, 175, 176, 177, 178, 179, 180, 181, 182, 183, 607, 608, 609, 610, 611, 612, 613, 614, 615, 637, 638, 639, 640, 641, 642, 643, 644, 645, 646, 647, 648, 652, 653, 649, 650, 651] rfl (by decide +kernel)
set_option maxRecDepth 20000 in
theorem gL_law_X3_write : GoodIn wsL_law (wsV RL 18 RX3 yX3_write wsX3_write) := goodIn_app (goodIn_r _ [114, 115, 116, 2] rfl (by decide +kernel)) ggL_law_X3_write
set_option maxRecDepth 20000 in
theorem ggL_law_X4_write : GoodIn wsL_law wsX4_write := goodIn_r _ [187, 188, 58, 189, 190, 66, 67, 68, 191, 192, 193, 194, 5, 195, 196, 197, 198, 199, 200, 63, 106, 107, 108, 201, 202, 203, 204, 109, 110, 111, 112, 113, 60, 205, 206, 207, 208, 209, 210, 211, 212, 213, 214, 215, 216, 217, 218, 219, 220, 221, 222, 223, 224, 225, 226, 227, 228, 616, 617, 618, 619, 620, 621, 622, 623, 624, 625, 626, 627, 628, 629, 630, 631, 632, 633, 634, 635, 636] rfl (by decide +kernel)
set_option maxRecDepth 20000 in
theorem gL_law_X4_write : GoodIn wsL_law (wsV RL 22 RX4 yX4_write wsX4_write) := goodIn_app (goodIn_r _ [184, 185, 186, 5] rfl (by decide +kernel)) ggL_law_X4_write
set_option maxRecDepth 20000 in
theorem ggL_law_X3_heat : GoodIn wsL_law wsX3_heat := goodIn_r _ [232, 16, 21, 233, 234, 235, 236, 15, 237, 238, 239, 240, 241, 93, 77, 2, 78, 242, 243, 244, 245, 39, 76, 79, 80, 81, 20, 82, 48, 83, 84, 85, 86, 87, 88, 36, 89, 90, 91, 92, 37, 38, 40, 41, 94, 95, 96, 97, 98, 99, 100, 101, 246, 178, 179, 180, 181, 182, 163, 183, 156, 157, 158, 159, 160, 161, 162, 164, 165, 166, 167, 168, 169, 170, 171, 172, 173, 174, 175, 176, 177, 607, 608, 609, 610, 611, 612, 613, 614, 615, 637, 638, 639, 640, 641, 642, 643, 644, 645, 646, 647, 648, 649, 650, 651] rfl (by decide +kernel)
set_option maxRecDepth 20000 in
theorem gL_law_X3_heat : GoodIn wsL_law (wsV RL 23 RX3 yX3_heat wsX3_heat) := goodIn_app (goodIn_r _ [229, 230, 231, 2] rfl (by decide +kernel)) ggL_law_X3_heat
set_option maxRecDepth 20000 in
theorem ggL_law_X4_heat : GoodIn wsL_law wsX4_heat := goodIn_r _ [250, 251, 252, 253, 5, 254, 58, 255, 256, 257, 258, 106, 107, 108, 109, 110, 111, 112, 113, 60, 217, 218, 219, 220, 225, 226, 227, 228, 205, 206, 207, 208, 209, 210, 211, 212, 213, 214, 215, 216, 221, 222, 223, 224, 616, 617, 618, 619, 620, 621, 622, 623, 624, 625, 626, 627, 628, 629, 630, 631, 632, 633, 634, 635, 636] rfl (by decide +kernel)
set_option maxRecDepth 20000 in
theorem gL_law_X4_heat : GoodIn wsL_law (wsV RL 27 RX4 yX4_heat wsX4_heat) := goodIn_app (goodIn_r _ [247, 248, 249, 5] rfl (by decide +kernel)) ggL_law_X4_heat
set_option maxRecDepth 20000 in
theorem ggL_law_X3_read : GoodIn wsL_law wsX3_read := goodIn_r _ [262, 16, 21, 233, 263, 239, 240, 15, 241, 93, 77, 2, 78, 76, 79, 80, 81, 20, 82, 48, 83, 84, 85, 86, 87, 88, 36, 89, 90, 91, 92, 37, 38, 39, 40, 41, 94, 95, 96, 97, 98, 99, 100, 101, 246, 178, 179, 180, 181, 182, 163, 183, 156, 157, 158, 159, 160, 161, 162, 164, 165, 166, 167, 168, 169, 170, 171, 172, 173, 174, 175, 176, 177, 607, 608, 609, 610, 611, 612, 613, 614, 615, 637, 638, 639, 640, 641, 642, 643, 644, 645, 646, 647, 648, 649, 650, 651] rfl (by decide +kernel)
set_option maxRecDepth 20000 in
theorem gL_law_X3_read : GoodIn wsL_law (wsV RL 28 RX3 yX3_read wsX3_read) := goodIn_app (goodIn_r _ [259, 260, 261, 2] rfl (by decide +kernel)) ggL_law_X3_read
set_option maxRecDepth 20000 in
theorem ggL_law_X4_read : GoodIn wsL_law wsX4_read := goodIn_r _ [267, 58, 255, 256, 257, 5, 258, 106, 107, 108, 109, 110, 111, 112, 113, 60, 217, 218, 219, 220, 225, 226, 227, 228, 205, 206, 207, 208, 209, 210, 211, 212, 213, 214, 215, 216, 221, 222, 223, 224, 616, 617, 618, 619, 620, 621, 622, 623, 624, 625, 626, 627, 628, 629, 630, 631, 632, 633, 634, 635, 636] rfl (by decide +kernel)
set_option maxRecDepth 20000 in
theorem gL_law_X4_read : GoodIn wsL_law (wsV RL 31 RX4 yX4_read wsX4_read) := goodIn_app (goodIn_r _ [264, 265, 266, 5] rfl (by decide +kernel)) ggL_law_X4_read
set_option maxRecDepth 20000 in
theorem ggL_law_X3_fuse : GoodIn wsL_law wsX3_fuse := goodIn_r _ [271, 16, 21, 17, 233, 272, 273, 162, 163, 164, 75, 263, 239, 240, 15, 241, 93, 77, 2, 78, 274, 275, 276, 277, 42, 278, 279, 280, 281, 39, 37, 282, 283, 284, 285, 79, 80, 81, 20, 82, 48, 83, 84, 85, 86, 87, 88, 36, 89, 90, 91, 92, 38, 40, 41, 94, 95, 96, 97, 98, 99, 100, 101, 286, 287, 288, 289, 290, 291, 292, 293, 294, 242, 243, 244, 245, 246, 178, 179, 180, 181, 182, 183, 156, 157, 158, 159, 160, 161, 165, 166, 167, 168, 169, 170, 171, 172, 173, 174, 175, 176, 177, 607, 608, 609, 610, 611, 612, 613, 614, 615, 637, 638, 639, 640, 641, 642, 643, 644, 645, 646, 647, 648, 649, 650, 651] rfl (by decide +kernel)
set_option maxRecDepth 20000 in
theorem gL_law_X3_fuse : GoodIn wsL_law (wsV RL 32 RX3 yX3_fuse wsX3_fuse) := goodIn_app (goodIn_r _ [268, 269, 270, 2] rfl (by decide +kernel)) ggL_law_X3_fuse
set_option maxRecDepth 20000 in
theorem ggL_law_X4_fuse : GoodIn wsL_law wsX4_fuse := goodIn_r _ [298, 58, 64, 65, 255, 256, 257, 5, 258, 106, 107, 108, 299, 300, 301, 302, 303, 304, 305, 306, 217, 218, 219, 220, 109, 110, 111, 112, 113, 60, 307, 308, 309, 310, 311, 312, 313, 314, 225, 226, 227, 228, 205, 206, 207, 208, 209, 210, 211, 212, 213, 214, 215, 216, 221, 222, 223, 224, 616, 617, 618, 619, 620, 621, 622, 623, 624, 625, 626, 627, 628, 629, 630, 631, 632, 633, 634, 635, 636] rfl (by decide +kernel)
set_option maxRecDepth 20000 in
theorem gL_law_X4_fuse : GoodIn wsL_law (wsV RL 35 RX4 yX4_fuse wsX4_fuse) := goodIn_app (goodIn_r _ [295, 296, 297, 5] rfl (by decide +kernel)) ggL_law_X4_fuse
