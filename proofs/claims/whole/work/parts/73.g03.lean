set_option maxRecDepth 20000 in
theorem ggL_law_X3_put : GoodIn wsL_law wsX3_put := goodIn_r _ [549, 28, 119, 550, 551, 27, 552, 553, 77, 2, 78, 554, 555, 556, 557, 53, 124, 607, 608, 609, 610, 611, 612, 613, 614, 615, 652, 653] rfl (by decide +kernel)
set_option maxRecDepth 20000 in
theorem gL_law_X3_put : GoodIn wsL_law (wsV RL 88 RX3 yX3_put wsX3_put) := goodIn_app (goodIn_r _ [546, 547, 548, 2] rfl (by decide +kernel)) ggL_law_X3_put
set_option maxRecDepth 20000 in
theorem ggL_law_X4_put : GoodIn wsL_law wsX4_put := goodIn_r _ [561, 562, 191, 63, 106, 107, 5, 108, 616, 617, 618, 619, 620, 621, 622, 623, 624, 625, 626, 627, 628, 629, 630, 631, 632, 633, 634, 635, 636] rfl (by decide +kernel)
set_option maxRecDepth 20000 in
theorem gL_law_X4_put : GoodIn wsL_law (wsV RL 92 RX4 yX4_put wsX4_put) := goodIn_app (goodIn_r _ [558, 559, 560, 5] rfl (by decide +kernel)) ggL_law_X4_put
set_option maxRecDepth 20000 in
theorem ggL_law_X3_wipe : GoodIn wsL_law wsX3_wipe := goodIn_r _ [566, 28, 119, 607, 608, 609, 610, 611, 612, 613, 614, 615, 652, 653] rfl (by decide +kernel)
set_option maxRecDepth 20000 in
theorem gL_law_X3_wipe : GoodIn wsL_law (wsV RL 93 RX3 yX3_wipe wsX3_wipe) := goodIn_app (goodIn_r _ [563, 564, 565, 2] rfl (by decide +kernel)) ggL_law_X3_wipe
set_option maxRecDepth 20000 in
theorem ggL_law_X4_wipe : GoodIn wsL_law wsX4_wipe := goodIn_r _ [570, 191, 616, 617, 618, 619, 620, 621, 622, 623, 624, 625, 626, 627, 628, 629, 630, 631, 632, 633, 634, 635, 636] rfl (by decide +kernel)
set_option maxRecDepth 20000 in
theorem gL_law_X4_wipe : GoodIn wsL_law (wsV RL 96 RX4 yX4_wipe wsX4_wipe) := goodIn_app (goodIn_r _ [567, 568, 569, 5] rfl (by decide +kernel)) ggL_law_X4_wipe
set_option maxRecDepth 20000 in
theorem ggL_law_X3_fault : GoodIn wsL_law wsX3_fault := goodIn_r _ [574, 28, 120, 121, 122, 27, 123, 124, 53, 125, 126, 127, 128, 129, 130, 77, 2, 78, 607, 608, 609, 610, 611, 612, 613, 614, 615, 652, 653] rfl (by decide +kernel)
set_option maxRecDepth 20000 in
theorem gL_law_X3_fault : GoodIn wsL_law (wsV RL 97 RX3 yX3_fault wsX3_fault) := goodIn_app (goodIn_r _ [571, 572, 573, 2] rfl (by decide +kernel)) ggL_law_X3_fault
set_option maxRecDepth 20000 in
theorem ggL_law_X4_fault : GoodIn wsL_law wsX4_fault := goodIn_r _ [578, 188, 196, 192, 193, 194, 5, 195, 190, 189, 66, 67, 68, 191, 197, 198, 199, 200, 63, 106, 107, 108, 201, 202, 203, 204, 616, 617, 618, 619, 620, 621, 622, 623, 624, 625, 626, 627, 628, 629, 630, 631, 632, 633, 634, 635, 636] rfl (by decide +kernel)
set_option maxRecDepth 20000 in
theorem gL_law_X4_fault : GoodIn wsL_law (wsV RL 100 RX4 yX4_fault wsX4_fault) := goodIn_app (goodIn_r _ [575, 576, 577, 5] rfl (by decide +kernel)) ggL_law_X4_fault
set_option maxRecDepth 20000 in
theorem ggL_law_X3_undo : GoodIn wsL_law wsX3_undo := goodIn_r _ [582, 21, 410, 16, 583, 584, 585, 20, 586, 84, 48, 83, 85, 86, 87, 15, 88, 36, 89, 90, 91, 92, 37, 38, 39, 93, 40, 41, 94, 95, 96, 97, 98, 99, 100, 101, 607, 608, 609, 610, 611, 612, 613, 614, 615, 649, 650, 651, 637, 638, 639, 640, 641, 642, 643, 644, 645, 646, 647, 648] rfl (by decide +kernel)
set_option maxRecDepth 20000 in
theorem gL_law_X3_undo : GoodIn wsL_law (wsV RL 101 RX3 yX3_undo wsX3_undo) := goodIn_app (goodIn_r _ [579, 580, 581, 2] rfl (by decide +kernel)) ggL_law_X3_undo
set_option maxRecDepth 20000 in
theorem ggL_law_X4_undo : GoodIn wsL_law wsX4_undo := goodIn_r _ [590, 113, 58, 60, 616, 617, 618, 619, 620, 621, 622, 623, 624, 625, 626, 627, 628, 629, 630, 631, 632, 633, 634, 635, 636] rfl (by decide +kernel)
set_option maxRecDepth 20000 in
theorem gL_law_X4_undo : GoodIn wsL_law (wsV RL 104 RX4 yX4_undo wsX4_undo) := goodIn_app (goodIn_r _ [587, 588, 589, 5] rfl (by decide +kernel)) ggL_law_X4_undo
set_option maxRecDepth 20000 in
theorem ggL_law_X3_save : GoodIn wsL_law wsX3_save := goodIn_r _ [594, 22, 16, 24, 118, 76, 77, 2, 78, 286, 86, 87, 15, 88, 36, 89, 90, 91, 92, 37, 38, 39, 93, 40, 41, 94, 95, 96, 97, 98, 99, 100, 101, 607, 608, 609, 610, 611, 612, 613, 614, 615, 637, 638, 639, 640, 641, 642, 643, 644, 645, 646, 647, 648] rfl (by decide +kernel)
set_option maxRecDepth 20000 in
theorem gL_law_X3_save : GoodIn wsL_law (wsV RL 105 RX3 yX3_save wsX3_save) := goodIn_app (goodIn_r _ [591, 592, 593, 2] rfl (by decide +kernel)) ggL_law_X3_save
set_option maxRecDepth 20000 in
theorem ggL_law_X4_save : GoodIn wsL_law wsX4_save := goodIn_r _ [598, 61, 58, 62, 106, 107, 5, 108, 616, 617, 618, 619, 620, 621, 622, 623, 624, 625, 626, 627, 628, 629, 630, 631, 632, 633, 634, 635, 636] rfl (by decide +kernel)
set_option maxRecDepth 20000 in
theorem gL_law_X4_save : GoodIn wsL_law (wsV RL 108 RX4 yX4_save wsX4_save) := goodIn_app (goodIn_r _ [595, 596, 597, 5] rfl (by decide +kernel)) ggL_law_X4_save
set_option maxRecDepth 20000 in
theorem ggL_law_X3_restore : GoodIn wsL_law wsX3_restore := goodIn_r _ [602, 24, 21, 16, 22, 118, 76, 77, 2, 78, 79, 80, 81, 20, 82, 48, 83, 84, 85, 86, 87, 15, 88, 36, 89, 90, 91, 92, 37, 38, 39, 93, 40, 41, 94, 95, 96, 97, 98, 99, 100, 101, 286, 607, 608, 609, 610, 611, 612, 613, 614, 615, 637, 638, 639, 640, 641, 642, 643, 644, 645, 646, 647, 648, 649, 650, 651] rfl (by decide +kernel)
set_option maxRecDepth 20000 in
theorem gL_law_X3_restore : GoodIn wsL_law (wsV RL 109 RX3 yX3_restore wsX3_restore) := goodIn_app (goodIn_r _ [599, 600, 601, 2] rfl (by decide +kernel)) ggL_law_X3_restore
set_option maxRecDepth 20000 in
theorem ggL_law_X4_restore : GoodIn wsL_law wsX4_restore := goodIn_r _ [606, 62, 58, 61, 106, 107, 5, 108, 109, 110, 111, 112, 113, 60, 616, 617, 618, 619, 620, 621, 622, 623, 624, 625, 626, 627, 628, 629, 630, 631, 632, 633, 634, 635, 636] rfl (by decide +kernel)
set_option maxRecDepth 20000 in
theorem gL_law_X4_restore : GoodIn wsL_law (wsV RL 112 RX4 yX4_restore wsX4_restore) := goodIn_app (goodIn_r _ [603, 604, 605, 5] rfl (by decide +kernel)) ggL_law_X4_restore
