theorem inlX0 : ∀ w ∈ wsX00, w ∈ wsL_law := fun _ h => List.mem_append_left _ (List.mem_append_left _ (List.mem_append_left _ (List.mem_append_left _ (List.mem_append_left _ (List.mem_append_left _ (List.mem_append_left _ (List.mem_append_left _ (List.mem_append_right _ h))))))))
theorem inX0 : ∀ w ∈ wsX00, w ∈ lw_tbl := fun w h => wsL_law_in w (inlX0 w h)
theorem inlX1 : ∀ w ∈ wsX10, w ∈ wsL_law := fun _ h => List.mem_append_left _ (List.mem_append_left _ (List.mem_append_left _ (List.mem_append_right _ h)))
theorem inX1 : ∀ w ∈ wsX10, w ∈ lw_tbl := fun w h => wsL_law_in w (inlX1 w h)
theorem inlX2 : ∀ w ∈ wsX20, w ∈ wsL_law := fun _ h => List.mem_append_left _ (List.mem_append_left _ (List.mem_append_left _ (List.mem_append_left _ (List.mem_append_right _ h))))
theorem inX2 : ∀ w ∈ wsX20, w ∈ lw_tbl := fun w h => wsL_law_in w (inlX2 w h)
theorem inlX3 : ∀ w ∈ wsX30, w ∈ wsL_law := fun _ h => List.mem_append_left _ (List.mem_append_left _ (List.mem_append_right _ h))
theorem inX3 : ∀ w ∈ wsX30, w ∈ lw_tbl := fun w h => wsL_law_in w (inlX3 w h)
theorem inlX4 : ∀ w ∈ wsX40, w ∈ wsL_law := fun _ h => List.mem_append_left _ (List.mem_append_left _ (List.mem_append_left _ (List.mem_append_left _ (List.mem_append_left _ (List.mem_append_left _ (List.mem_append_left _ (List.mem_append_right _ h)))))))
theorem inX4 : ∀ w ∈ wsX40, w ∈ lw_tbl := fun w h => wsL_law_in w (inlX4 w h)
theorem inX5 : ∀ w ∈ wsX50, w ∈ lw_tbl := by decide +kernel
theorem inlX6 : ∀ w ∈ wsX60, w ∈ wsL_law := fun _ h => List.mem_append_left _ (List.mem_append_left _ (List.mem_append_left _ (List.mem_append_left _ (List.mem_append_left _ (List.mem_append_right _ h)))))
theorem inX6 : ∀ w ∈ wsX60, w ∈ lw_tbl := fun w h => wsL_law_in w (inlX6 w h)
theorem inlX7 : ∀ w ∈ wsX70, w ∈ wsL_law := fun _ h => List.mem_append_left _ (List.mem_append_left _ (List.mem_append_left _ (List.mem_append_left _ (List.mem_append_left _ (List.mem_append_left _ (List.mem_append_right _ h))))))
theorem inX7 : ∀ w ∈ wsX70, w ∈ lw_tbl := fun w h => wsL_law_in w (inlX7 w h)
theorem inlX8 : ∀ w ∈ wsX80, w ∈ wsL_law := fun _ h => List.mem_append_left _ (List.mem_append_left _ (List.mem_append_left _ (List.mem_append_left _ (List.mem_append_left _ (List.mem_append_left _ (List.mem_append_left _ (List.mem_append_left _ (List.mem_append_left _ (List.mem_append_left _ (List.mem_append_right _ h))))))))))
theorem inX8 : ∀ w ∈ wsX80, w ∈ lw_tbl := fun w h => wsL_law_in w (inlX8 w h)
theorem inlX9 : ∀ w ∈ wsX90, w ∈ wsL_law := fun _ h => List.mem_append_left _ (List.mem_append_left _ (List.mem_append_left _ (List.mem_append_left _ (List.mem_append_left _ (List.mem_append_left _ (List.mem_append_left _ (List.mem_append_left _ (List.mem_append_left _ (List.mem_append_right _ h)))))))))
theorem inX9 : ∀ w ∈ wsX90, w ∈ lw_tbl := fun w h => wsL_law_in w (inlX9 w h)
theorem inlJx00060 : ∀ w ∈ wsJx000600, w ∈ wsL_law := fun _ h => List.mem_append_left _ (List.mem_append_right _ h)
theorem inJx00060 : ∀ w ∈ wsJx000600, w ∈ lw_tbl := fun w h => wsL_law_in w (inlJx00060 w h)
set_option maxRecDepth 20000 in
theorem ggL_digit_X8_digit : GoodIn wsL_digit wsX8_digit := goodIn_r _ [5, 6, 7, 8, 9, 10, 11, 12, 13, 14, 15, 16, 17, 4, 18, 19, 20, 21, 22, 23, 24, 25, 26, 27, 28, 29, 30, 31, 32, 33, 34, 35, 36] (by decide +kernel) (by decide +kernel)
set_option maxRecDepth 20000 in
theorem gL_digit_X8_digit : GoodIn wsL_digit (wsV RL 7 RX8 yX8_digit wsX8_digit) := goodIn_app (goodIn_of _ (by decide +kernel)) ggL_digit_X8_digit
set_option maxRecDepth 20000 in
theorem ggL_law_X8_init : GoodIn wsL_law wsX8_init := goodIn_r _ [10, 11, 12, 13, 14, 15, 16, 17, 18, 19, 20, 21, 22, 23, 24, 25, 26, 27, 28, 29, 30, 31, 32, 33, 34, 35, 36, 37, 38, 39, 40, 41, 6, 42, 43, 44, 45, 46, 47, 48, 49, 50, 51, 52, 53, 54, 55, 56, 57, 58, 59, 60, 61, 62, 63, 64, 65, 66, 67, 68, 69, 70, 71, 72, 73, 74, 75, 76, 77, 78, 79, 80, 81, 82, 83, 84, 85, 86, 87, 88, 89, 90, 91, 92, 93, 94, 95, 96, 97, 98, 99, 100, 101, 667, 668, 669, 626, 627, 628, 629, 630, 631, 632, 633, 634, 670, 671, 672, 673, 674, 675, 676, 677, 678, 679, 680, 681, 682, 683, 684, 685, 686, 687, 688, 689, 690, 691, 692, 693, 694] (by decide +kernel) (by decide +kernel)
set_option maxRecDepth 20000 in
theorem gL_law_X8_init : GoodIn wsL_law (wsX8_init) := ggL_law_X8_init
set_option maxRecDepth 20000 in
theorem ggL_law_X9_init : GoodIn wsL_law wsX9_init := goodIn_r _ [104, 105, 12, 13, 48, 106, 107, 108, 56, 109, 110, 111, 112, 6, 113, 114, 115, 116, 117, 118, 119, 120, 121, 122, 123, 124, 125, 126, 127, 128, 635, 636, 637, 638, 639, 640, 641, 642, 643, 644, 645, 646, 647, 648, 649, 650, 651, 652, 653, 654, 655, 656, 657, 658, 659, 660, 661, 662, 663, 664, 665, 666] (by decide +kernel) (by decide +kernel)
set_option maxRecDepth 20000 in
theorem gL_law_X9_init : GoodIn wsL_law (wsX9_init) := ggL_law_X9_init
set_option maxRecDepth 20000 in
theorem ggL_law_X8_width : GoodIn wsL_law wsX8_width := goodIn_r _ [132, 17, 133, 134, 135, 16, 136, 49, 137, 2, 138, 626, 627, 628, 629, 630, 631, 632, 633, 634, 667, 668, 669] (by decide +kernel) (by decide +kernel)
set_option maxRecDepth 20000 in
theorem gL_law_X8_width : GoodIn wsL_law (wsV RL 19 RX8 yX8_width wsX8_width) := goodIn_app (goodIn_of _ (by decide +kernel)) ggL_law_X8_width
set_option maxRecDepth 20000 in
theorem ggL_law_X9_width : GoodIn wsL_law wsX9_width := goodIn_r _ [142, 143, 144, 145, 106, 146, 147, 5, 148, 635, 636, 637, 638, 639, 640, 641, 642, 643, 644, 645, 646, 647, 648, 649, 650, 651, 652, 653, 654, 655, 656, 657, 658, 659, 660, 661, 662, 663, 664, 665, 666] (by decide +kernel) (by decide +kernel)
set_option maxRecDepth 20000 in
theorem gL_law_X9_width : GoodIn wsL_law (wsV RL 23 RX9 yX9_width wsX9_width) := goodIn_app (goodIn_of _ (by decide +kernel)) ggL_law_X9_width
set_option maxRecDepth 20000 in
theorem ggL_law_X8_read : GoodIn wsL_law wsX8_read := goodIn_r _ [152, 17, 153, 154, 155, 16, 156, 51, 157, 158, 159, 160, 49, 161, 162, 163, 164, 50, 165, 166, 167, 168, 169, 170, 171, 172, 137, 2, 138, 173, 174, 175, 176, 177, 178, 179, 180, 181, 626, 627, 628, 629, 630, 631, 632, 633, 634, 667, 668, 669] (by decide +kernel) (by decide +kernel)
set_option maxRecDepth 20000 in
theorem gL_law_X8_read : GoodIn wsL_law (wsV RL 24 RX8 yX8_read wsX8_read) := goodIn_app (goodIn_of _ (by decide +kernel)) ggL_law_X8_read
set_option maxRecDepth 20000 in
theorem ggL_law_X9_read : GoodIn wsL_law wsX9_read := goodIn_r _ [185, 143, 186, 187, 188, 189, 5, 190, 107, 191, 192, 193, 194, 106, 195, 196, 197, 198, 199, 200, 201, 202, 203, 204, 205, 635, 636, 637, 638, 639, 640, 641, 642, 643, 644, 645, 646, 647, 648, 649, 650, 651, 652, 653, 654, 655, 656, 657, 658, 659, 660, 661, 662, 663, 664, 665, 666] (by decide +kernel) (by decide +kernel)
set_option maxRecDepth 20000 in
theorem gL_law_X9_read : GoodIn wsL_law (wsV RL 28 RX9 yX9_read wsX9_read) := goodIn_app (goodIn_of _ (by decide +kernel)) ggL_law_X9_read
set_option maxRecDepth 20000 in
theorem ggL_law_X8_back : GoodIn wsL_law wsX8_back := goodIn_r _ [209, 17, 153, 154, 155, 16, 156, 51, 157, 158, 159, 160, 49, 161, 162, 163, 164, 50, 165, 166, 167, 168, 169, 170, 171, 172, 137, 2, 138, 173, 174, 175, 176, 177, 178, 179, 180, 181, 626, 627, 628, 629, 630, 631, 632, 633, 634, 667, 668, 669] (by decide +kernel) (by decide +kernel)
set_option maxRecDepth 20000 in
theorem gL_law_X8_back : GoodIn wsL_law (wsV RL 29 RX8 yX8_back wsX8_back) := goodIn_app (goodIn_of _ (by decide +kernel)) ggL_law_X8_back
set_option maxRecDepth 20000 in
theorem ggL_law_X9_back : GoodIn wsL_law wsX9_back := goodIn_r _ [213, 143, 186, 187, 188, 189, 5, 190, 107, 191, 192, 193, 194, 106, 195, 196, 197, 198, 199, 200, 201, 202, 203, 204, 205, 635, 636, 637, 638, 639, 640, 641, 642, 643, 644, 645, 646, 647, 648, 649, 650, 651, 652, 653, 654, 655, 656, 657, 658, 659, 660, 661, 662, 663, 664, 665, 666] (by decide +kernel) (by decide +kernel)
set_option maxRecDepth 20000 in
theorem gL_law_X9_back : GoodIn wsL_law (wsV RL 32 RX9 yX9_back wsX9_back) := goodIn_app (goodIn_of _ (by decide +kernel)) ggL_law_X9_back
set_option maxRecDepth 20000 in
theorem ggL_law_L_digit : GoodIn wsL_law wsL_digit := goodIn_r _ [217, 218, 219, 220, 2, 221, 17, 222, 223, 224, 225, 226, 227, 16, 228, 51, 50, 137, 138, 626, 627, 628, 629, 630, 631, 632, 633, 634, 695, 696, 697, 698, 699, 700, 667, 668, 669] (by decide +kernel) (by decide +kernel)
set_option maxRecDepth 20000 in
theorem gL_law_L_digit : GoodIn wsL_law (va_wsS RL 33 yL_digit wsL_digit) := goodIn_app (goodIn_of _ (by decide +kernel)) ggL_law_L_digit
set_option maxRecDepth 20000 in
theorem ggL_law_X9_digit : GoodIn wsL_law wsX9_digit := goodIn_r _ [232, 186, 143, 107, 635, 636, 637, 638, 639, 640, 641, 642, 643, 644, 645, 646, 647, 648, 649, 650, 651, 652, 653, 654, 655, 656, 657, 658, 659, 660, 661, 662, 663, 664, 665, 666] (by decide +kernel) (by decide +kernel)
set_option maxRecDepth 20000 in
theorem gL_law_X9_digit : GoodIn wsL_law (wsV RL 38 RX9 yX9_digit wsX9_digit) := goodIn_app (goodIn_of _ (by decide +kernel)) ggL_law_X9_digit
set_option maxRecDepth 20000 in
theorem ggL_law_X9_thrown : GoodIn wsL_law wsX9_thrown := goodIn_r _ [236, 143, 635, 636, 637, 638, 639, 640, 641, 642, 643, 644, 645, 646, 647, 648, 649, 650, 651, 652, 653, 654, 655, 656, 657, 658, 659, 660, 661, 662, 663, 664, 665, 666] (by decide +kernel) (by decide +kernel)
set_option maxRecDepth 20000 in
theorem gL_law_X9_thrown : GoodIn wsL_law (wsV RL 39 RX9 yX9_thrown wsX9_thrown) := goodIn_app (goodIn_of _ (by decide +kernel)) ggL_law_X9_thrown
set_option maxRecDepth 20000 in
theorem ggL_law_X8_check : GoodIn wsL_law wsX8_check := goodIn_r _ [240, 241, 242, 243, 244, 137, 2, 138, 245, 246, 247, 248, 249, 250, 251, 252, 253, 254, 255] (by decide +kernel) (by decide +kernel)
set_option maxRecDepth 20000 in
theorem gL_law_X8_check : GoodIn wsL_law (wsV RL 44 RX8 yX8_check wsX8_check) := goodIn_app (goodIn_of _ (by decide +kernel)) ggL_law_X8_check
set_option maxRecDepth 20000 in
theorem ggL_law_X9_check : GoodIn wsL_law wsX9_check := goodIn_r _ [259, 143, 260, 146, 147, 5, 148, 261, 262, 263, 264, 635, 636, 637, 638, 639, 640, 641, 642, 643, 644, 645, 646, 647, 648, 649, 650, 651, 652, 653, 654, 655, 656, 657, 658, 659, 660, 661, 662, 663, 664, 665, 666] (by decide +kernel) (by decide +kernel)
set_option maxRecDepth 20000 in
theorem gL_law_X9_check : GoodIn wsL_law (wsV RL 48 RX9 yX9_check wsX9_check) := goodIn_app (goodIn_of _ (by decide +kernel)) ggL_law_X9_check
set_option maxRecDepth 20000 in
theorem ggL_law_X8_good : GoodIn wsL_law wsX8_good := goodIn_r _ [268, 241, 242, 243, 244, 137, 2, 138, 245, 246, 247, 248, 269, 270, 271, 252, 272, 250, 251, 253, 254, 255] (by decide +kernel) (by decide +kernel)
set_option maxRecDepth 20000 in
theorem gL_law_X8_good : GoodIn wsL_law (wsV RL 49 RX8 yX8_good wsX8_good) := goodIn_app (goodIn_of _ (by decide +kernel)) ggL_law_X8_good
set_option maxRecDepth 20000 in
theorem ggL_law_X9_good : GoodIn wsL_law wsX9_good := goodIn_r _ [276, 143, 260, 264, 146, 147, 5, 148, 261, 262, 263, 635, 636, 637, 638, 639, 640, 641, 642, 643, 644, 645, 646, 647, 648, 649, 650, 651, 652, 653, 654, 655, 656, 657, 658, 659, 660, 661, 662, 663, 664, 665, 666] (by decide +kernel) (by decide +kernel)
set_option maxRecDepth 20000 in
theorem gL_law_X9_good : GoodIn wsL_law (wsV RL 53 RX9 yX9_good wsX9_good) := goodIn_app (goodIn_of _ (by decide +kernel)) ggL_law_X9_good
set_option maxRecDepth 20000 in
theorem ggL_law_X8_machine : GoodIn wsL_law wsX8_machine := goodIn_r _ [280, 21, 281, 282, 283, 20, 284, 61, 58, 59, 626, 627, 628, 629, 630, 631, 632, 633, 634, 670, 671, 672, 673, 674] (by decide +kernel) (by decide +kernel)
set_option maxRecDepth 20000 in
theorem gL_law_X8_machine : GoodIn wsL_law (wsV RL 54 RX8 yX8_machine wsX8_machine) := goodIn_app (goodIn_of _ (by decide +kernel)) ggL_law_X8_machine
set_option maxRecDepth 20000 in
theorem ggL_law_X9_machine : GoodIn wsL_law wsX9_machine := goodIn_r _ [288, 143, 289, 108, 635, 636, 637, 638, 639, 640, 641, 642, 643, 644, 645, 646, 647, 648, 649, 650, 651, 652, 653, 654, 655, 656, 657, 658, 659, 660, 661, 662, 663, 664, 665, 666] (by decide +kernel) (by decide +kernel)
set_option maxRecDepth 20000 in
theorem gL_law_X9_machine : GoodIn wsL_law (wsV RL 57 RX9 yX9_machine wsX9_machine) := goodIn_app (goodIn_of _ (by decide +kernel)) ggL_law_X9_machine
set_option maxRecDepth 20000 in
theorem ggL_law_X8_shape : GoodIn wsL_law wsX8_shape := goodIn_r _ [293, 25, 294, 295, 296, 24, 297, 298, 66, 67, 68, 299, 300, 301, 302, 137, 2, 138, 626, 627, 628, 629, 630, 631, 632, 633, 634, 675, 676, 677] (by decide +kernel) (by decide +kernel)
set_option maxRecDepth 20000 in
theorem gL_law_X8_shape : GoodIn wsL_law (wsV RL 58 RX8 yX8_shape wsX8_shape) := goodIn_app (goodIn_of _ (by decide +kernel)) ggL_law_X8_shape
set_option maxRecDepth 20000 in
theorem ggL_law_X9_shape : GoodIn wsL_law wsX9_shape := goodIn_r _ [306, 143, 307, 308, 111, 112, 146, 147, 5, 148, 635, 636, 637, 638, 639, 640, 641, 642, 643, 644, 645, 646, 647, 648, 649, 650, 651, 652, 653, 654, 655, 656, 657, 658, 659, 660, 661, 662, 663, 664, 665, 666] (by decide +kernel) (by decide +kernel)
set_option maxRecDepth 20000 in
theorem gL_law_X9_shape : GoodIn wsL_law (wsV RL 62 RX9 yX9_shape wsX9_shape) := goodIn_app (goodIn_of _ (by decide +kernel)) ggL_law_X9_shape
set_option maxRecDepth 20000 in
theorem ggL_law_X8_full : GoodIn wsL_law wsX8_full := goodIn_r _ [312, 21, 313, 314, 315, 20, 316, 57, 317, 318, 319, 320, 61, 137, 2, 138, 626, 627, 628, 629, 630, 631, 632, 633, 634, 670, 671, 672, 673, 674] (by decide +kernel) (by decide +kernel)
set_option maxRecDepth 20000 in
theorem gL_law_X8_full : GoodIn wsL_law (wsV RL 63 RX8 yX8_full wsX8_full) := goodIn_app (goodIn_of _ (by decide +kernel)) ggL_law_X8_full
set_option maxRecDepth 20000 in
theorem ggL_law_X9_full : GoodIn wsL_law wsX9_full := goodIn_r _ [324, 109, 325, 326, 327, 5, 328, 143, 289, 635, 636, 637, 638, 639, 640, 641, 642, 643, 644, 645, 646, 647, 648, 649, 650, 651, 652, 653, 654, 655, 656, 657, 658, 659, 660, 661, 662, 663, 664, 665, 666] (by decide +kernel) (by decide +kernel)
set_option maxRecDepth 20000 in
theorem gL_law_X9_full : GoodIn wsL_law (wsV RL 67 RX9 yX9_full wsX9_full) := goodIn_app (goodIn_of _ (by decide +kernel)) ggL_law_X9_full
set_option maxRecDepth 20000 in
theorem ggL_law_X8_power : GoodIn wsL_law wsX8_power := goodIn_r _ [332, 21, 333, 334, 335, 20, 336, 58, 317, 318, 319, 320, 61, 137, 2, 138, 626, 627, 628, 629, 630, 631, 632, 633, 634, 670, 671, 672, 673, 674] (by decide +kernel) (by decide +kernel)
set_option maxRecDepth 20000 in
theorem gL_law_X8_power : GoodIn wsL_law (wsV RL 68 RX8 yX8_power wsX8_power) := goodIn_app (goodIn_of _ (by decide +kernel)) ggL_law_X8_power
set_option maxRecDepth 20000 in
theorem ggL_law_X9_power : GoodIn wsL_law wsX9_power := goodIn_r _ [340, 110, 325, 326, 327, 5, 328, 143, 289, 635, 636, 637, 638, 639, 640, 641, 642, 643, 644, 645, 646, 647, 648, 649, 650, 651, 652, 653, 654, 655, 656, 657, 658, 659, 660, 661, 662, 663, 664, 665, 666] (by decide +kernel) (by decide +kernel)
set_option maxRecDepth 20000 in
theorem gL_law_X9_power : GoodIn wsL_law (wsV RL 71 RX9 yX9_power wsX9_power) := goodIn_app (goodIn_of _ (by decide +kernel)) ggL_law_X9_power
set_option maxRecDepth 20000 in
theorem ggL_law_X8_give : GoodIn wsL_law wsX8_give := goodIn_r _ [344, 345, 29, 43, 346, 21, 245, 246, 243, 247, 248, 347, 348, 349, 28, 350, 79, 351, 352, 353, 2, 354, 25, 355, 318, 319, 20, 320, 61, 137, 138, 356, 357, 358, 359, 57, 317, 360, 361, 362, 363, 58, 364, 365, 366, 24, 367, 66, 299, 300, 301, 302, 368, 369, 370, 371, 67, 68, 372, 269, 270, 271, 252, 272, 250, 251, 253, 254, 255, 373, 374, 375, 376, 59, 377, 378, 379, 380, 73, 75, 381, 382, 383, 384, 41, 385, 386, 387, 388, 78, 389, 390, 391, 40, 392, 101, 100, 393, 394, 395, 396, 74, 76, 77, 397, 398, 399, 400, 60, 626, 627, 628, 629, 630, 631, 632, 633, 634, 678, 679, 680, 681, 682, 683, 684, 670, 671, 672, 673, 674, 675, 676, 677, 693, 694] (by decide +kernel) (by decide +kernel)
set_option maxRecDepth 20000 in
theorem gL_law_X8_give : GoodIn wsL_law (wsV RL 72 RX8 yX8_give wsX8_give) := goodIn_app (goodIn_of _ (by decide +kernel)) ggL_law_X8_give
set_option maxRecDepth 20000 in
theorem ggL_law_X9_give : GoodIn wsL_law wsX9_give := goodIn_r _ [404, 143, 260, 405, 406, 407, 113, 114, 115, 116, 408, 117, 118, 146, 147, 5, 148, 409, 410, 411, 412, 109, 110, 307, 111, 112, 264, 108, 325, 326, 327, 328, 289, 261, 262, 263, 413, 414, 415, 416, 417, 418, 419, 420, 421, 119, 120, 121, 422, 635, 636, 637, 638, 639, 640, 641, 642, 643, 644, 645, 646, 647, 648, 649, 650, 651, 652, 653, 654, 655, 656, 657, 658, 659, 660, 661, 662, 663, 664, 665, 666] (by decide +kernel) (by decide +kernel)
set_option maxRecDepth 20000 in
theorem gL_law_X9_give : GoodIn wsL_law (wsV RL 76 RX9 yX9_give wsX9_give) := goodIn_app (goodIn_of _ (by decide +kernel)) ggL_law_X9_give
set_option maxRecDepth 20000 in
theorem ggL_law_X8_reason : GoodIn wsL_law wsX8_reason := goodIn_r _ [426, 43, 626, 627, 628, 629, 630, 631, 632, 633, 634] (by decide +kernel) (by decide +kernel)
set_option maxRecDepth 20000 in
theorem gL_law_X8_reason : GoodIn wsL_law (wsV RL 77 RX8 yX8_reason wsX8_reason) := goodIn_app (goodIn_of _ (by decide +kernel)) ggL_law_X8_reason
set_option maxRecDepth 20000 in
theorem ggL_law_X9_reason : GoodIn wsL_law wsX9_reason := goodIn_r _ [430, 143, 407, 635, 636, 637, 638, 639, 640, 641, 642, 643, 644, 645, 646, 647, 648, 649, 650, 651, 652, 653, 654, 655, 656, 657, 658, 659, 660, 661, 662, 663, 664, 665, 666] (by decide +kernel) (by decide +kernel)
set_option maxRecDepth 20000 in
theorem gL_law_X9_reason : GoodIn wsL_law (wsV RL 80 RX9 yX9_reason wsX9_reason) := goodIn_app (goodIn_of _ (by decide +kernel)) ggL_law_X9_reason
set_option maxRecDepth 20000 in
theorem ggL_law_X8_count : GoodIn wsL_law wsX8_count := goodIn_r _ [434, 21, 25, 435, 29, 355, 318, 319, 20, 320, 61, 137, 2, 138, 436, 300, 301, 24, 302, 437, 438, 439, 28, 440, 79, 74, 76, 626, 627, 628, 629, 630, 631, 632, 633, 634, 670, 671, 672, 673, 674, 678, 679, 680, 681, 682, 683, 684] (by decide +kernel) (by decide +kernel)
set_option maxRecDepth 20000 in
theorem gL_law_X8_count : GoodIn wsL_law (wsV RL 81 RX8 yX8_count wsX8_count) := goodIn_app (goodIn_of _ (by decide +kernel)) ggL_law_X8_count
set_option maxRecDepth 20000 in
theorem ggL_law_X9_count : GoodIn wsL_law wsX9_count := goodIn_r _ [444, 307, 445, 406, 114, 115, 325, 326, 327, 5, 328, 143, 289, 146, 147, 148, 635, 636, 637, 638, 639, 640, 641, 642, 643, 644, 645, 646, 647, 648, 649, 650, 651, 652, 653, 654, 655, 656, 657, 658, 659, 660, 661, 662, 663, 664, 665, 666] (by decide +kernel) (by decide +kernel)
set_option maxRecDepth 20000 in
theorem gL_law_X9_count : GoodIn wsL_law (wsV RL 85 RX9 yX9_count wsX9_count) := goodIn_app (goodIn_of _ (by decide +kernel)) ggL_law_X9_count
set_option maxRecDepth 20000 in
theorem ggL_law_X8_join : GoodIn wsL_law wsX8_join := goodIn_r _ [449, 21, 29, 355, 318, 319, 20, 320, 61, 137, 2, 138, 373, 374, 375, 376, 59, 317, 450, 451, 452, 453, 33, 454, 455, 456, 32, 457, 87, 458, 459, 460, 28, 461, 79, 462, 463, 464, 465, 75, 466, 467, 468, 469, 73, 470, 377, 378, 379, 380, 471, 472, 473, 474, 74, 475, 476, 477, 478, 84, 85, 86, 479, 480, 481, 482, 483, 484, 485, 486, 487, 488, 489, 490, 626, 627, 628, 629, 630, 631, 632, 633, 634, 670, 671, 672, 673, 674, 685, 686, 687, 688, 678, 679, 680, 681, 682, 683, 684] (by decide +kernel) (by decide +kernel)
set_option maxRecDepth 20000 in
theorem gL_law_X8_join : GoodIn wsL_law (wsV RL 86 RX8 yX8_join wsX8_join) := goodIn_app (goodIn_of _ (by decide +kernel)) ggL_law_X8_join
set_option maxRecDepth 20000 in
theorem ggL_law_X9_join : GoodIn wsL_law wsX9_join := goodIn_r _ [494, 108, 495, 406, 117, 114, 113, 122, 289, 325, 326, 327, 5, 328, 143, 413, 414, 415, 416, 496, 497, 498, 499, 123, 124, 635, 636, 637, 638, 639, 640, 641, 642, 643, 644, 645, 646, 647, 648, 649, 650, 651, 652, 653, 654, 655, 656, 657, 658, 659, 660, 661, 662, 663, 664, 665, 666] (by decide +kernel) (by decide +kernel)
set_option maxRecDepth 20000 in
theorem gL_law_X9_join : GoodIn wsL_law (wsV RL 90 RX9 yX9_join wsX9_join) := goodIn_app (goodIn_of _ (by decide +kernel)) ggL_law_X9_join
set_option maxRecDepth 20000 in
theorem ggL_law_X8_double2 : GoodIn wsL_law wsX8_double2 := goodIn_r _ [503, 33, 504, 505, 506, 32, 507, 87, 85, 86, 84, 137, 2, 138, 508, 509, 243, 510, 252, 511, 512, 513, 514, 626, 627, 628, 629, 630, 631, 632, 633, 634, 685, 686, 687, 688] (by decide +kernel) (by decide +kernel)
set_option maxRecDepth 20000 in
theorem gL_law_X8_double2 : GoodIn wsL_law (wsV RL 91 RX8 yX8_double2 wsX8_double2) := goodIn_app (goodIn_of _ (by decide +kernel)) ggL_law_X8_double2
set_option maxRecDepth 20000 in
theorem ggL_law_X9_double2 : GoodIn wsL_law wsX9_double2 := goodIn_r _ [518, 143, 495, 122, 123, 124, 264, 519, 520, 5, 521, 522, 635, 636, 637, 638, 639, 640, 641, 642, 643, 644, 645, 646, 647, 648, 649, 650, 651, 652, 653, 654, 655, 656, 657, 658, 659, 660, 661, 662, 663, 664, 665, 666] (by decide +kernel) (by decide +kernel)
set_option maxRecDepth 20000 in
theorem gL_law_X9_double2 : GoodIn wsL_law (wsV RL 94 RX9 yX9_double2 wsX9_double2) := goodIn_app (goodIn_of _ (by decide +kernel)) ggL_law_X9_double2
set_option maxRecDepth 20000 in
theorem ggL_law_X8_mark : GoodIn wsL_law wsX8_mark := goodIn_r _ [526, 527, 528, 529, 530, 245, 246, 243, 247, 248] (by decide +kernel) (by decide +kernel)
set_option maxRecDepth 20000 in
theorem gL_law_X8_mark : GoodIn wsL_law (wsV RL 95 RX8 yX8_mark wsX8_mark) := goodIn_app (goodIn_of _ (by decide +kernel)) ggL_law_X8_mark
set_option maxRecDepth 20000 in
theorem ggL_law_X9_mark : GoodIn wsL_law wsX9_mark := goodIn_r _ [534, 143, 260, 535, 307, 536, 537, 146, 147, 5, 148, 635, 636, 637, 638, 639, 640, 641, 642, 643, 644, 645, 646, 647, 648, 649, 650, 651, 652, 653, 654, 655, 656, 657, 658, 659, 660, 661, 662, 663, 664, 665, 666] (by decide +kernel) (by decide +kernel)
set_option maxRecDepth 20000 in
theorem gL_law_X9_mark : GoodIn wsL_law (wsV RL 99 RX9 yX9_mark wsX9_mark) := goodIn_app (goodIn_of _ (by decide +kernel)) ggL_law_X9_mark
set_option maxRecDepth 20000 in
theorem ggL_law_X8_coupon : GoodIn wsL_law wsX8_coupon := goodIn_r _ [541, 21, 37, 360, 361, 362, 20, 363, 58, 317, 318, 319, 320, 61, 137, 2, 138, 542, 543, 544, 545, 60, 546, 547, 548, 36, 549, 95, 92, 626, 627, 628, 629, 630, 631, 632, 633, 634, 670, 671, 672, 673, 674, 689, 690, 691, 692] (by decide +kernel) (by decide +kernel)
set_option maxRecDepth 20000 in
theorem gL_law_X8_coupon : GoodIn wsL_law (wsV RL 100 RX8 yX8_coupon wsX8_coupon) := goodIn_app (goodIn_of _ (by decide +kernel)) ggL_law_X8_coupon
set_option maxRecDepth 20000 in
theorem ggL_law_X9_coupon : GoodIn wsL_law wsX9_coupon := goodIn_r _ [553, 110, 406, 114, 118, 125, 554, 325, 326, 327, 5, 328, 143, 289, 635, 636, 637, 638, 639, 640, 641, 642, 643, 644, 645, 646, 647, 648, 649, 650, 651, 652, 653, 654, 655, 656, 657, 658, 659, 660, 661, 662, 663, 664, 665, 666] (by decide +kernel) (by decide +kernel)
set_option maxRecDepth 20000 in
theorem gL_law_X9_coupon : GoodIn wsL_law (wsV RL 103 RX9 yX9_coupon wsX9_coupon) := goodIn_app (goodIn_of _ (by decide +kernel)) ggL_law_X9_coupon
set_option maxRecDepth 20000 in
theorem ggL_law_X8_redeem : GoodIn wsL_law wsX8_redeem := goodIn_r _ [558, 37, 559, 560, 561, 36, 562, 95, 93, 94, 92, 137, 2, 138, 626, 627, 628, 629, 630, 631, 632, 633, 634, 689, 690, 691, 692] (by decide +kernel) (by decide +kernel)
set_option maxRecDepth 20000 in
theorem gL_law_X8_redeem : GoodIn wsL_law (wsV RL 104 RX8 yX8_redeem wsX8_redeem) := goodIn_app (goodIn_of _ (by decide +kernel)) ggL_law_X8_redeem
set_option maxRecDepth 20000 in
theorem ggL_law_X9_redeem : GoodIn wsL_law wsX9_redeem := goodIn_r _ [566, 143, 554, 567, 126, 127, 125, 146, 147, 5, 148, 635, 636, 637, 638, 639, 640, 641, 642, 643, 644, 645, 646, 647, 648, 649, 650, 651, 652, 653, 654, 655, 656, 657, 658, 659, 660, 661, 662, 663, 664, 665, 666] (by decide +kernel) (by decide +kernel)
set_option maxRecDepth 20000 in
theorem gL_law_X9_redeem : GoodIn wsL_law (wsV RL 107 RX9 yX9_redeem wsX9_redeem) := goodIn_app (goodIn_of _ (by decide +kernel)) ggL_law_X9_redeem
set_option maxRecDepth 20000 in
theorem ggL_law_X8_shop : GoodIn wsL_law wsX8_shop := goodIn_r _ [571, 37, 572, 573, 574, 36, 575, 94, 576, 137, 2, 138, 626, 627, 628, 629, 630, 631, 632, 633, 634, 689, 690, 691, 692] (by decide +kernel) (by decide +kernel)
set_option maxRecDepth 20000 in
theorem gL_law_X8_shop : GoodIn wsL_law (wsV RL 108 RX8 yX8_shop wsX8_shop) := goodIn_app (goodIn_of _ (by decide +kernel)) ggL_law_X8_shop
set_option maxRecDepth 20000 in
theorem ggL_law_X9_shop : GoodIn wsL_law wsX9_shop := goodIn_r _ [580, 143, 567, 127, 445, 146, 147, 5, 148, 635, 636, 637, 638, 639, 640, 641, 642, 643, 644, 645, 646, 647, 648, 649, 650, 651, 652, 653, 654, 655, 656, 657, 658, 659, 660, 661, 662, 663, 664, 665, 666] (by decide +kernel) (by decide +kernel)
set_option maxRecDepth 20000 in
theorem gL_law_X9_shop : GoodIn wsL_law (wsV RL 112 RX9 yX9_shop wsX9_shop) := goodIn_app (goodIn_of _ (by decide +kernel)) ggL_law_X9_shop
set_option maxRecDepth 20000 in
theorem ggL_law_X8_clear : GoodIn wsL_law wsX8_clear := goodIn_r _ [584, 585, 29, 42, 586, 587, 588, 28, 589, 79, 77, 74, 73, 590, 591, 592, 137, 2, 138, 593, 594, 243, 595, 252, 596, 626, 627, 628, 629, 630, 631, 632, 633, 634, 678, 679, 680, 681, 682, 683, 684] (by decide +kernel) (by decide +kernel)
set_option maxRecDepth 20000 in
theorem gL_law_X8_clear : GoodIn wsL_law (wsV RL 113 RX8 yX8_clear wsX8_clear) := goodIn_app (goodIn_of _ (by decide +kernel)) ggL_law_X8_clear
set_option maxRecDepth 20000 in
theorem ggL_law_X9_clear : GoodIn wsL_law wsX9_clear := goodIn_r _ [600, 143, 601, 128, 406, 116, 114, 602, 113, 264, 603, 146, 147, 5, 148, 635, 636, 637, 638, 639, 640, 641, 642, 643, 644, 645, 646, 647, 648, 649, 650, 651, 652, 653, 654, 655, 656, 657, 658, 659, 660, 661, 662, 663, 664, 665, 666] (by decide +kernel) (by decide +kernel)
set_option maxRecDepth 20000 in
theorem gL_law_X9_clear : GoodIn wsL_law (wsV RL 116 RX9 yX9_clear wsX9_clear) := goodIn_app (goodIn_of _ (by decide +kernel)) ggL_law_X9_clear
set_option maxRecDepth 20000 in
theorem ggL_law_X8_cleared : GoodIn wsL_law wsX8_cleared := goodIn_r _ [607, 42, 608, 137, 2, 138, 626, 627, 628, 629, 630, 631, 632, 633, 634] (by decide +kernel) (by decide +kernel)
set_option maxRecDepth 20000 in
theorem gL_law_X8_cleared : GoodIn wsL_law (wsV RL 117 RX8 yX8_cleared wsX8_cleared) := goodIn_app (goodIn_of _ (by decide +kernel)) ggL_law_X8_cleared
set_option maxRecDepth 20000 in
theorem ggL_law_X9_cleared : GoodIn wsL_law wsX9_cleared := goodIn_r _ [612, 143, 613, 128, 146, 147, 5, 148, 635, 636, 637, 638, 639, 640, 641, 642, 643, 644, 645, 646, 647, 648, 649, 650, 651, 652, 653, 654, 655, 656, 657, 658, 659, 660, 661, 662, 663, 664, 665, 666] (by decide +kernel) (by decide +kernel)
set_option maxRecDepth 20000 in
theorem gL_law_X9_cleared : GoodIn wsL_law (wsV RL 120 RX9 yX9_cleared wsX9_cleared) := goodIn_app (goodIn_of _ (by decide +kernel)) ggL_law_X9_cleared
set_option maxRecDepth 20000 in
theorem ggL_law_X8_fraud : GoodIn wsL_law wsX8_fraud := goodIn_r _ [617, 41, 618, 619, 620, 40, 621, 101, 100, 137, 2, 138, 626, 627, 628, 629, 630, 631, 632, 633, 634, 693, 694] (by decide +kernel) (by decide +kernel)
set_option maxRecDepth 20000 in
theorem gL_law_X8_fraud : GoodIn wsL_law (wsV RL 121 RX8 yX8_fraud wsX8_fraud) := goodIn_app (goodIn_of _ (by decide +kernel)) ggL_law_X8_fraud
set_option maxRecDepth 20000 in
theorem ggL_law_X9_fraud : GoodIn wsL_law wsX9_fraud := goodIn_r _ [625, 143, 422, 121, 635, 636, 637, 638, 639, 640, 641, 642, 643, 644, 645, 646, 647, 648, 649, 650, 651, 652, 653, 654, 655, 656, 657, 658, 659, 660, 661, 662, 663, 664, 665, 666] (by decide +kernel) (by decide +kernel)
set_option maxRecDepth 20000 in
theorem gL_law_X9_fraud : GoodIn wsL_law (wsV RL 124 RX9 yX9_fraud wsX9_fraud) := goodIn_app (goodIn_of _ (by decide +kernel)) ggL_law_X9_fraud
