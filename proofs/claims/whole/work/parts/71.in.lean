/-! the words of the law, by their places -/
theorem in_r {big : List Cond} (ws : List Cond) (ps : List Nat) (hp : ws = ps.filterMap (fun i => big[i]?)) : ∀ w ∈ ws, w ∈ big := by
  intro w hw
  rw [hp] at hw
  obtain ⟨i, -, hi⟩ := List.mem_filterMap.mp hw
  exact List.mem_of_getElem? hi
theorem in_app {big a b : List Cond} (ha : ∀ w ∈ a, w ∈ big) (hb : ∀ w ∈ b, w ∈ big) : ∀ w ∈ a ++ b, w ∈ big := fun w h => (List.mem_append.mp h).elim (ha w) (hb w)
set_option maxRecDepth 20000 in
theorem inl_wsL_law_r1 : ∀ w ∈ wsL_law_r1, w ∈ lw_tbl := in_r _ [36, 37, 28, 471, 472, 32, 741, 38, 39, 40, 41, 42, 43, 44, 45, 29, 134, 135, 98, 99, 30, 136, 137, 132] rfl
set_option maxRecDepth 20000 in
theorem inl_wsL_law_r2 : ∀ w ∈ wsL_law_r2, w ∈ lw_tbl := in_r _ [138, 118, 119, 31, 139, 97, 140, 141, 142, 47, 48, 49, 50, 52, 54, 56, 58, 60, 62, 100, 101, 102, 103, 104] rfl
set_option maxRecDepth 20000 in
theorem inl_wsL_law_r3 : ∀ w ∈ wsL_law_r3, w ∈ lw_tbl := in_r _ [107, 121, 122, 123, 133, 124, 473, 474, 475, 476, 477, 478, 479, 481, 482, 483, 485, 486, 493, 494, 495, 162, 163, 164] rfl
set_option maxRecDepth 20000 in
theorem inl_wsL_law_r4 : ∀ w ∈ wsL_law_r4, w ∈ lw_tbl := in_r _ [165, 169, 171, 51, 166, 167, 168, 173, 174, 175, 176, 108, 109, 177, 178, 179, 180, 185, 187, 186, 33, 63, 65, 66] rfl
set_option maxRecDepth 20000 in
theorem inl_wsL_law_r5 : ∀ w ∈ wsL_law_r5, w ∈ lw_tbl := in_r _ [68, 70, 181, 182, 183, 184, 541, 542, 543, 544, 545, 546, 547, 548, 550, 1, 551, 480, 188, 189, 190, 191, 64, 126] rfl
set_option maxRecDepth 20000 in
theorem inl_wsL_law_r6 : ∀ w ∈ wsL_law_r6, w ∈ lw_tbl := in_r _ [192, 193, 194, 195, 125, 196, 197, 198, 199, 200, 201, 203, 204, 205, 206, 207, 208, 209, 210, 211, 212, 213, 214, 215] rfl
set_option maxRecDepth 20000 in
theorem inl_wsL_law_r7 : ∀ w ∈ wsL_law_r7, w ∈ lw_tbl := in_r _ [216, 217, 218, 219, 220, 221, 222, 223, 224, 225, 226, 227, 228, 229, 230, 231, 232, 252, 253, 34, 254, 233, 234, 235] rfl
set_option maxRecDepth 20000 in
theorem inl_wsL_law_r8 : ∀ w ∈ wsL_law_r8, w ∈ lw_tbl := in_r _ [236, 237, 238, 239, 240, 241, 242, 243, 244, 245, 246, 247, 248, 249, 250, 251, 725, 726, 727, 728, 492, 497, 496, 484] rfl
set_option maxRecDepth 20000 in
theorem inl_wsL_law_r9 : ∀ w ∈ wsL_law_r9, w ∈ lw_tbl := in_r _ [713, 715, 24, 716, 491, 717, 719, 25, 720, 721, 723, 26, 724, 572, 574, 6, 575, 576, 578, 7, 579, 580, 582, 8] rfl
set_option maxRecDepth 20000 in
theorem inl_wsL_law_r10 : ∀ w ∈ wsL_law_r10, w ∈ lw_tbl := in_r _ [583, 564, 566, 4, 567, 584, 586, 9, 587, 568, 570, 5, 571, 255, 256, 257, 258, 57, 259, 260, 261, 262, 263, 264] rfl
set_option maxRecDepth 20000 in
theorem inl_wsL_law_r11 : ∀ w ∈ wsL_law_r11, w ∈ lw_tbl := in_r _ [265, 266, 268, 269, 270, 271, 272, 552, 553, 554, 555, 556, 558, 2, 559, 560, 562, 3, 563, 273, 274, 275, 276, 277] rfl
set_option maxRecDepth 20000 in
theorem inl_wsL_law_r12 : ∀ w ∈ wsL_law_r12, w ∈ lw_tbl := in_r _ [588, 589, 590, 591, 278, 279, 280, 281, 61, 302, 282, 283, 284, 285, 286, 287, 288, 289, 290, 291, 35, 292, 293, 294] rfl
set_option maxRecDepth 20000 in
theorem inl_wsL_law_r13 : ∀ w ∈ wsL_law_r13, w ∈ lw_tbl := in_r _ [295, 296, 297, 298, 299, 300, 301, 592, 593, 594, 595, 596, 598, 10, 599, 600, 602, 11, 603, 604, 606, 12, 607, 608] rfl
set_option maxRecDepth 20000 in
theorem inl_wsL_law_r14 : ∀ w ∈ wsL_law_r14, w ∈ lw_tbl := in_r _ [610, 13, 611, 303, 304, 305, 306, 55, 307, 308, 309, 310, 311, 312, 313, 314, 612, 613, 614, 615, 616, 618, 14, 619] rfl
set_option maxRecDepth 20000 in
theorem inl_wsL_law_r15 : ∀ w ∈ wsL_law_r15, w ∈ lw_tbl := in_r _ [315, 316, 317, 318, 319, 620, 621, 622, 623, 320, 321, 322, 323, 53, 324, 325, 326, 327, 328, 329, 330, 331, 624, 625] rfl
set_option maxRecDepth 20000 in
theorem inl_wsL_law_r16 : ∀ w ∈ wsL_law_r16, w ∈ lw_tbl := in_r _ [626, 627, 332, 333, 334, 335, 59, 336, 337, 338, 339, 340, 341, 342, 343, 344, 345, 346, 347, 348, 349, 350, 351, 628] rfl
set_option maxRecDepth 20000 in
theorem inl_wsL_law_r17 : ∀ w ∈ wsL_law_r17, w ∈ lw_tbl := in_r _ [629, 630, 631, 632, 634, 15, 635, 636, 638, 16, 639, 640, 642, 17, 643, 644, 646, 18, 647, 352, 353, 354, 355, 67] rfl
set_option maxRecDepth 20000 in
theorem inl_wsL_law_r18 : ∀ w ∈ wsL_law_r18, w ∈ lw_tbl := in_r _ [69, 71, 110, 356, 357, 358, 359, 360, 361, 362, 363, 364, 365, 366, 367, 648, 649, 650, 651, 652, 654, 19, 655, 656] rfl
set_option maxRecDepth 20000 in
theorem inl_wsL_law_r19 : ∀ w ∈ wsL_law_r19, w ∈ lw_tbl := in_r _ [658, 20, 659, 368, 369, 370, 371, 372, 373, 374, 375, 376, 377, 378, 379, 380, 381, 382, 383, 384, 385, 386, 387, 388] rfl
set_option maxRecDepth 20000 in
theorem inl_wsL_law_r20 : ∀ w ∈ wsL_law_r20, w ∈ lw_tbl := in_r _ [389, 390, 391, 392, 660, 661, 662, 663, 393, 394, 395, 396, 397, 398, 399, 400, 401, 402, 403, 404, 405, 664, 665, 666] rfl
set_option maxRecDepth 20000 in
theorem inl_wsL_law_r21 : ∀ w ∈ wsL_law_r21, w ∈ lw_tbl := in_r _ [667, 406, 407, 408, 409, 410, 668, 669, 670, 671, 411, 412, 413, 414, 415, 417, 0, 418, 672, 673, 674, 675, 487, 488] rfl
set_option maxRecDepth 20000 in
theorem inl_wsL_law_r22 : ∀ w ∈ wsL_law_r22, w ∈ lw_tbl := in_r _ [489, 490, 676, 678, 21, 679, 680, 682, 22, 683, 684, 686, 23, 687, 419, 420, 421, 422, 423, 424, 425, 426, 688, 689] rfl
set_option maxRecDepth 20000 in
theorem inl_wsL_law_r23 : ∀ w ∈ wsL_law_r23, w ∈ lw_tbl := in_r _ [690, 691, 427, 428, 429, 430, 692, 693, 694, 695, 431, 432, 433, 434, 696, 697, 698, 699, 435, 436, 437, 438, 439, 440] rfl
set_option maxRecDepth 20000 in
theorem inl_wsL_law_r24 : ∀ w ∈ wsL_law_r24, w ∈ lw_tbl := in_r _ [441, 442, 443, 444, 445, 446, 700, 701, 702, 703, 704, 447, 448, 449, 450, 705, 706, 707, 708, 451, 452, 453, 454, 709] rfl
set_option maxRecDepth 20000 in
theorem inl_wsL_law_r25 : ∀ w ∈ wsL_law_r25, w ∈ lw_tbl := in_r _ [710, 711, 712, 455, 456, 457, 458, 459, 460, 461, 462, 729, 730, 731, 732, 463, 464, 465, 466, 733, 734, 735, 736, 467] rfl
set_option maxRecDepth 20000 in
theorem inl_wsL_law_r26 : ∀ w ∈ wsL_law_r26, w ∈ lw_tbl := in_r _ [468, 469, 470, 737, 738, 739, 740] rfl
set_option maxRecDepth 20000 in
theorem inl_wsX30 : ∀ w ∈ wsX30, w ∈ lw_tbl := in_r _ [143, 145, 147, 149, 151, 153, 155, 157, 159] rfl
set_option maxRecDepth 20000 in
theorem inl_wsX40 : ∀ w ∈ wsX40, w ∈ lw_tbl := in_r _ [498, 500, 502, 504, 506, 508, 510, 512, 514, 516, 518, 520, 522, 524, 526, 528, 530, 532, 534, 536, 538] rfl
set_option maxRecDepth 20000 in
theorem inl_wsX20 : ∀ w ∈ wsX20, w ∈ lw_tbl := in_r _ [72, 74, 76, 78, 80, 82, 84, 86, 88, 90, 92, 94] rfl
set_option maxRecDepth 20000 in
theorem inl_wsX00 : ∀ w ∈ wsX00, w ∈ lw_tbl := in_r _ [111, 113, 115] rfl
set_option maxRecDepth 20000 in
theorem inl_wsX10 : ∀ w ∈ wsX10, w ∈ lw_tbl := in_r _ [127, 129] rfl
theorem wsL_law_in : ∀ w ∈ wsL_law, w ∈ lw_tbl := in_app (in_app (in_app (in_app (in_app (in_app (in_app (inl_wsL_law_r1) (in_app (inl_wsL_law_r2) (in_app (inl_wsL_law_r3) (in_app (inl_wsL_law_r4) (in_app (inl_wsL_law_r5) (in_app (inl_wsL_law_r6) (in_app (inl_wsL_law_r7) (in_app (inl_wsL_law_r8) (in_app (inl_wsL_law_r9) (in_app (inl_wsL_law_r10) (in_app (inl_wsL_law_r11) (in_app (inl_wsL_law_r12) (in_app (inl_wsL_law_r13) (in_app (inl_wsL_law_r14) (in_app (inl_wsL_law_r15) (in_app (inl_wsL_law_r16) (in_app (inl_wsL_law_r17) (in_app (inl_wsL_law_r18) (in_app (inl_wsL_law_r19) (in_app (inl_wsL_law_r20) (in_app (inl_wsL_law_r21) (in_app (inl_wsL_law_r22) (in_app (inl_wsL_law_r23) (in_app (inl_wsL_law_r24) (in_app (inl_wsL_law_r25) (inl_wsL_law_r26)))))))))))))))))))))))))) (inl_wsX30)) (inl_wsX40)) (inl_wsX20)) (inl_wsX00)) (inl_wsX10)) ((fun w h => absurd h List.not_mem_nil))
