set_option maxRecDepth 20000 in
theorem ggL_law_X3_pass : GoodIn wsL_law wsX3_pass := goodIn_r _ [318, 21, 16, 75, 319, 273, 162, 163, 164, 76, 77, 2, 78, 79, 80, 81, 20, 82, 48, 83, 84, 85, 86, 87, 15, 88, 36, 89, 90, 91, 92, 37, 38, 39, 93, 40, 41, 94, 95, 96, 97, 98, 99, 100, 101, 135, 320, 321, 322, 323, 324, 325, 326, 327, 607, 608, 609, 610, 611, 612, 613, 614, 615, 637, 638, 639, 640, 641, 642, 643, 644, 645, 646, 647, 648, 649, 650, 651] rfl (by decide +kernel)
set_option maxRecDepth 20000 in
theorem gL_law_X3_pass : GoodIn wsL_law (wsV RL 36 RX3 yX3_pass wsX3_pass) := goodIn_app (goodIn_r _ [315, 316, 317, 2] rfl (by decide +kernel)) ggL_law_X3_pass
set_option maxRecDepth 20000 in
theorem ggL_law_X4_pass : GoodIn wsL_law wsX4_pass := goodIn_r _ [331, 58, 106, 107, 5, 108, 109, 110, 111, 112, 113, 60, 332, 333, 334, 335, 616, 617, 618, 619, 620, 621, 622, 623, 624, 625, 626, 627, 628, 629, 630, 631, 632, 633, 634, 635, 636] rfl (by decide +kernel)
set_option maxRecDepth 20000 in
theorem gL_law_X4_pass : GoodIn wsL_law (wsV RL 40 RX4 yX4_pass wsX4_pass) := goodIn_app (goodIn_r _ [328, 329, 330, 5] rfl (by decide +kernel)) ggL_law_X4_pass
set_option maxRecDepth 20000 in
theorem ggL_law_X3_burn : GoodIn wsL_law wsX3_burn := goodIn_r _ [339, 16, 21, 263, 239, 240, 15, 241, 93, 77, 2, 78, 79, 80, 81, 20, 82, 48, 83, 84, 85, 86, 87, 88, 36, 89, 90, 91, 92, 37, 38, 39, 40, 41, 94, 95, 96, 97, 98, 99, 100, 101, 340, 243, 244, 245, 287, 288, 289, 290, 607, 608, 609, 610, 611, 612, 613, 614, 615, 637, 638, 639, 640, 641, 642, 643, 644, 645, 646, 647, 648, 649, 650, 651] rfl (by decide +kernel)
set_option maxRecDepth 20000 in
theorem gL_law_X3_burn : GoodIn wsL_law (wsV RL 41 RX3 yX3_burn wsX3_burn) := goodIn_app (goodIn_r _ [336, 337, 338, 2] rfl (by decide +kernel)) ggL_law_X3_burn
set_option maxRecDepth 20000 in
theorem ggL_law_X4_burn : GoodIn wsL_law wsX4_burn := goodIn_r _ [344, 58, 255, 256, 257, 5, 258, 106, 107, 108, 109, 110, 111, 112, 113, 60, 217, 218, 219, 220, 307, 308, 309, 310, 311, 312, 313, 314, 616, 617, 618, 619, 620, 621, 622, 623, 624, 625, 626, 627, 628, 629, 630, 631, 632, 633, 634, 635, 636] rfl (by decide +kernel)
set_option maxRecDepth 20000 in
theorem gL_law_X4_burn : GoodIn wsL_law (wsV RL 44 RX4 yX4_burn wsX4_burn) := goodIn_app (goodIn_r _ [341, 342, 343, 5] rfl (by decide +kernel)) ggL_law_X4_burn
set_option maxRecDepth 20000 in
theorem ggL_law_X3_word : GoodIn wsL_law wsX3_word := goodIn_r _ [348, 16, 233, 349, 319, 234, 235, 236, 15, 237, 238, 239, 240, 241, 93, 77, 2, 78, 242, 243, 244, 245, 39, 350, 351, 352, 353, 354, 355, 356, 357, 37, 607, 608, 609, 610, 611, 612, 613, 614, 615, 637, 638, 639, 640, 641, 642, 643, 644, 645, 646, 647, 648] rfl (by decide +kernel)
set_option maxRecDepth 20000 in
theorem gL_law_X3_word : GoodIn wsL_law (wsV RL 45 RX3 yX3_word wsX3_word) := goodIn_app (goodIn_r _ [345, 346, 347, 2] rfl (by decide +kernel)) ggL_law_X3_word
set_option maxRecDepth 20000 in
theorem ggL_law_X4_word : GoodIn wsL_law wsX4_word := goodIn_r _ [361, 58, 251, 252, 253, 5, 254, 255, 256, 257, 258, 106, 107, 108, 217, 218, 219, 220, 303, 304, 305, 306, 616, 617, 618, 619, 620, 621, 622, 623, 624, 625, 626, 627, 628, 629, 630, 631, 632, 633, 634, 635, 636] rfl (by decide +kernel)
set_option maxRecDepth 20000 in
theorem gL_law_X4_word : GoodIn wsL_law (wsV RL 48 RX4 yX4_word wsX4_word) := goodIn_app (goodIn_r _ [358, 359, 360, 5] rfl (by decide +kernel)) ggL_law_X4_word
set_option maxRecDepth 20000 in
theorem ggL_law_X3_story : GoodIn wsL_law wsX3_story := goodIn_r _ [365, 16, 366, 272, 263, 239, 240, 15, 241, 93, 77, 2, 78, 340, 243, 244, 245, 39, 367, 368, 369, 370, 324, 325, 326, 327, 38, 274, 275, 276, 277, 42, 278, 279, 280, 281, 37, 282, 283, 284, 285, 371, 372, 373, 374, 375, 376, 377, 378, 379, 380, 381, 382, 242, 607, 608, 609, 610, 611, 612, 613, 614, 615, 637, 638, 639, 640, 641, 642, 643, 644, 645, 646, 647, 648] rfl (by decide +kernel)
set_option maxRecDepth 20000 in
theorem gL_law_X3_story : GoodIn wsL_law (wsV RL 49 RX3 yX3_story wsX3_story) := goodIn_app (goodIn_r _ [362, 363, 364, 2] rfl (by decide +kernel)) ggL_law_X3_story
set_option maxRecDepth 20000 in
theorem ggL_law_X4_story : GoodIn wsL_law wsX4_story := goodIn_r _ [386, 58, 255, 256, 257, 5, 258, 106, 107, 108, 387, 388, 389, 390, 217, 218, 219, 220, 299, 300, 301, 302, 303, 304, 305, 306, 391, 392, 393, 394, 395, 396, 397, 398, 399, 400, 401, 402, 616, 617, 618, 619, 620, 621, 622, 623, 624, 625, 626, 627, 628, 629, 630, 631, 632, 633, 634, 635, 636] rfl (by decide +kernel)
set_option maxRecDepth 20000 in
theorem gL_law_X4_story : GoodIn wsL_law (wsV RL 52 RX4 yX4_story wsX4_story) := goodIn_app (goodIn_r _ [383, 384, 385, 5] rfl (by decide +kernel)) ggL_law_X4_story
set_option maxRecDepth 20000 in
theorem ggL_law_X3_count : GoodIn wsL_law wsX3_count := goodIn_r _ [406, 16, 118, 407, 408, 409, 75, 28, 119, 21, 410, 135, 99, 100, 15, 101, 39, 93, 320, 321, 322, 323, 98, 324, 325, 326, 327, 38, 411, 412, 413, 414, 415, 416, 417, 418, 40, 419, 420, 421, 422, 41, 161, 162, 163, 164, 607, 608, 609, 610, 611, 612, 613, 614, 615, 637, 638, 639, 640, 641, 642, 643, 644, 645, 646, 647, 648, 652, 653, 649, 650, 651] rfl (by decide +kernel)
set_option maxRecDepth 20000 in
theorem gL_law_X3_count : GoodIn wsL_law (wsV RL 53 RX3 yX3_count wsX3_count) := goodIn_app (goodIn_r _ [403, 404, 405, 2] rfl (by decide +kernel)) ggL_law_X3_count
set_option maxRecDepth 20000 in
theorem ggL_law_X4_count : GoodIn wsL_law wsX4_count := goodIn_r _ [426, 58, 191, 113, 332, 333, 334, 5, 335, 427, 428, 429, 430, 431, 432, 433, 434, 616, 617, 618, 619, 620, 621, 622, 623, 624, 625, 626, 627, 628, 629, 630, 631, 632, 633, 634, 635, 636] rfl (by decide +kernel)
set_option maxRecDepth 20000 in
theorem gL_law_X4_count : GoodIn wsL_law (wsV RL 56 RX4 yX4_count wsX4_count) := goodIn_app (goodIn_r _ [423, 424, 425, 5] rfl (by decide +kernel)) ggL_law_X4_count
set_option maxRecDepth 20000 in
theorem ggL_law_X3_letter : GoodIn wsL_law wsX3_letter := goodIn_r _ [438, 16, 439, 440, 2, 441, 76, 77, 78, 442, 443, 444, 15, 445, 98, 99, 100, 101, 39, 93, 354, 355, 356, 357, 37, 446, 447, 448, 449, 450, 351, 352, 353, 451, 452, 453, 454, 455, 275, 276, 277, 42, 278, 279, 280, 281, 282, 283, 284, 285, 456, 457, 458, 459, 38, 607, 608, 609, 610, 611, 612, 613, 614, 615, 637, 638, 639, 640, 641, 642, 643, 644, 645, 646, 647, 648] rfl (by decide +kernel)
set_option maxRecDepth 20000 in
theorem gL_law_X3_letter : GoodIn wsL_law (wsV RL 57 RX3 yX3_letter wsX3_letter) := goodIn_app (goodIn_r _ [435, 436, 437, 2] rfl (by decide +kernel)) ggL_law_X3_letter
set_option maxRecDepth 20000 in
theorem ggL_law_X4_letter : GoodIn wsL_law wsX4_letter := goodIn_r _ [463, 58, 106, 107, 5, 108, 303, 304, 305, 306, 217, 218, 219, 220, 299, 300, 301, 302, 616, 617, 618, 619, 620, 621, 622, 623, 624, 625, 626, 627, 628, 629, 630, 631, 632, 633, 634, 635, 636] rfl (by decide +kernel)
set_option maxRecDepth 20000 in
theorem gL_law_X4_letter : GoodIn wsL_law (wsV RL 60 RX4 yX4_letter wsX4_letter) := goodIn_app (goodIn_r _ [460, 461, 462, 5] rfl (by decide +kernel)) ggL_law_X4_letter
