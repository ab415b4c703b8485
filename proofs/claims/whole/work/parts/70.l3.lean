set_option maxRecDepth 20000 in
theorem ggL_law_X5_node : GoodIn wsL_law wsX5_node := goodIn_r _ [520, 272, 521, 522, 523, 5, 524, 55, 274, 275, 276, 277, 278, 279, 280, 281, 282, 283, 525, 526, 527, 528, 423, 424, 425, 426, 529, 530, 531, 532, 533, 534, 535, 536, 537, 538, 539, 540, 783, 784, 785, 786, 787, 788, 789, 790, 791, 792, 793, 794, 795, 796, 797, 798, 799, 800, 801, 802, 803, 804, 805, 806, 807, 808] (by decide +kernel) (by decide +kernel)
set_option maxRecDepth 20000 in
theorem gL_law_X5_node : GoodIn wsL_law (wsV RL 109 RX5 yX5_node wsX5_node) := goodIn_app (goodIn_of _ (by decide +kernel)) ggL_law_X5_node
set_option maxRecDepth 20000 in
theorem ggL_law_L_child : GoodIn wsL_law wsL_child := goodIn_ca (goodIn_ca (goodIn_r _ [543, 72, 73, 544, 545, 546, 2, 547, 79, 80, 81, 82, 23, 87, 88, 89, 178, 179, 180, 22, 181, 46, 47, 508, 209, 210, 27, 211, 104, 204, 205, 206, 207, 208, 212, 122, 123, 124, 41, 775, 776, 777, 778, 779, 780, 781, 782, 816, 817, 818, 819, 820, 821] (by decide +kernel) (by decide +kernel)) (goodIn_sub (fun _ h => List.mem_append_left _ (List.mem_append_left _ (List.mem_append_right _ h))) (by decide +kernel))) (goodIn_sub (fun _ h => List.mem_append_left _ (List.mem_append_right _ h)) (by decide +kernel))
set_option maxRecDepth 20000 in
theorem gL_law_L_child : GoodIn wsL_law (va_wsS RL 110 yL_child wsL_child) := goodIn_app (goodIn_of _ (by decide +kernel)) ggL_law_L_child
set_option maxRecDepth 20000 in
theorem ggL_law_X5_child : GoodIn wsL_law wsX5_child := goodIn_r _ [551, 272, 521, 522, 523, 5, 524, 55, 274, 275, 276, 277, 278, 279, 280, 281, 282, 283, 552, 553, 554, 555, 423, 424, 425, 426, 783, 784, 785, 786, 787, 788, 789, 790, 791, 792, 793, 794, 795, 796, 797, 798, 799, 800, 801, 802, 803, 804, 805, 806, 807, 808] (by decide +kernel) (by decide +kernel)
set_option maxRecDepth 20000 in
theorem gL_law_X5_child : GoodIn wsL_law (wsV RL 112 RX5 yX5_child wsX5_child) := goodIn_app (goodIn_of _ (by decide +kernel)) ggL_law_X5_child
set_option maxRecDepth 20000 in
theorem ggL_law_L_shape : GoodIn wsL_law wsL_shape := goodIn_ca (goodIn_ca (goodIn_r _ [558, 72, 73, 559, 560, 561, 2, 562, 79, 80, 81, 82, 23, 87, 88, 89, 178, 179, 180, 22, 181, 46, 47, 563, 564, 565, 186, 86, 410, 411, 412, 413, 203, 122, 123, 27, 124, 104, 41, 775, 776, 777, 778, 779, 780, 781, 782, 816, 817, 818, 819, 820, 821] (by decide +kernel) (by decide +kernel)) (goodIn_sub (fun _ h => List.mem_append_left _ (List.mem_append_left _ (List.mem_append_right _ h))) (by decide +kernel))) (goodIn_sub (fun _ h => List.mem_append_left _ (List.mem_append_right _ h)) (by decide +kernel))
set_option maxRecDepth 20000 in
theorem gL_law_L_shape : GoodIn wsL_law (va_wsS RL 113 yL_shape wsL_shape) := goodIn_app (goodIn_of _ (by decide +kernel)) ggL_law_L_shape
set_option maxRecDepth 20000 in
theorem ggL_law_X5_shape : GoodIn wsL_law wsX5_shape := goodIn_r _ [569, 272, 274, 275, 5, 276, 277, 278, 279, 280, 281, 282, 283, 570, 571, 572, 573, 55, 529, 530, 531, 532, 423, 424, 425, 426, 533, 534, 535, 536, 783, 784, 785, 786, 787, 788, 789, 790, 791, 792, 793, 794, 795, 796, 797, 798, 799, 800, 801, 802, 803, 804, 805, 806, 807, 808] (by decide +kernel) (by decide +kernel)
set_option maxRecDepth 20000 in
theorem gL_law_X5_shape : GoodIn wsL_law (wsV RL 116 RX5 yX5_shape wsX5_shape) := goodIn_app (goodIn_of _ (by decide +kernel)) ggL_law_X5_shape
set_option maxRecDepth 20000 in
theorem ggL_law_L_document : GoodIn wsL_law wsL_document := goodIn_ca (goodIn_r _ [576, 73, 577, 578, 579, 2, 580, 81, 82, 19, 15, 85, 90, 91, 92, 18, 93, 37, 94, 95, 96, 97, 98, 99, 100, 101, 102, 27, 103, 104, 105, 106, 107, 108, 109, 110, 111, 112, 113, 114, 115, 116, 117, 118, 119, 120, 121, 122, 123, 124, 41, 125, 126, 127, 128, 129, 130, 131, 132, 133, 134, 135, 136, 137, 138, 139, 140, 141, 142, 143, 144, 145, 146, 147, 148, 149, 150, 151, 152, 153, 154, 155, 156, 157, 158, 159, 160, 161, 162, 163, 164, 165, 166, 167, 168, 169, 170, 171, 172, 173, 174, 175, 176, 177, 581, 582, 583, 584, 86, 410, 411, 412, 413, 203, 775, 776, 777, 778, 779, 780, 781, 782, 809, 810, 811, 812, 813, 814, 815, 819, 820, 821] (by decide +kernel) (by decide +kernel)) (goodIn_sub (fun _ h => List.mem_append_left _ (List.mem_append_right _ h)) (by decide +kernel))
set_option maxRecDepth 20000 in
theorem gL_law_L_document : GoodIn wsL_law (va_wsS RL 117 yL_document wsL_document) := goodIn_app (goodIn_of _ (by decide +kernel)) ggL_law_L_document
set_option maxRecDepth 20000 in
theorem ggL_law_X5_document : GoodIn wsL_law wsX5_document := goodIn_r _ [588, 272, 277, 278, 5, 279, 589, 590, 591, 592, 289, 291, 58, 284, 285, 286, 287, 288, 290, 292, 273, 293, 294, 295, 296, 57, 297, 298, 299, 300, 301, 302, 303, 304, 64, 305, 306, 307, 308, 59, 60, 61, 63, 309, 310, 311, 312, 313, 314, 315, 316, 62, 317, 318, 319, 320, 321, 322, 323, 324, 325, 326, 327, 328, 329, 330, 331, 332, 280, 281, 282, 283, 783, 784, 785, 786, 787, 788, 789, 790, 791, 792, 793, 794, 795, 796, 797, 798, 799, 800, 801, 802, 803, 804, 805, 806, 807, 808] (by decide +kernel) (by decide +kernel)
set_option maxRecDepth 20000 in
theorem gL_law_X5_document : GoodIn wsL_law (wsV RL 119 RX5 yX5_document wsX5_document) := goodIn_app (goodIn_of _ (by decide +kernel)) ggL_law_X5_document
set_option maxRecDepth 20000 in
theorem ggL_law_L_count : GoodIn wsL_law wsL_count := goodIn_ca (goodIn_r _ [595, 73, 596, 597, 598, 2, 599, 81, 82, 600, 601, 602, 603, 23, 232, 85, 241, 775, 776, 777, 778, 779, 780, 781, 782, 816, 817, 818] (by decide +kernel) (by decide +kernel)) (goodIn_sub (fun _ h => List.mem_append_left _ (List.mem_append_right _ h)) (by decide +kernel))
set_option maxRecDepth 20000 in
theorem gL_law_L_count : GoodIn wsL_law (va_wsS RL 120 yL_count wsL_count) := goodIn_app (goodIn_of _ (by decide +kernel)) ggL_law_L_count
set_option maxRecDepth 20000 in
theorem ggL_law_X5_count : GoodIn wsL_law wsX5_count := goodIn_r _ [607, 272, 55, 273, 378, 277, 278, 5, 279, 280, 281, 282, 283, 783, 784, 785, 786, 787, 788, 789, 790, 791, 792, 793, 794, 795, 796, 797, 798, 799, 800, 801, 802, 803, 804, 805, 806, 807, 808] (by decide +kernel) (by decide +kernel)
set_option maxRecDepth 20000 in
theorem gL_law_X5_count : GoodIn wsL_law (wsV RL 122 RX5 yX5_count wsX5_count) := goodIn_app (goodIn_of _ (by decide +kernel)) ggL_law_X5_count
set_option maxRecDepth 20000 in
theorem ggL_law_L_fits : GoodIn wsL_law wsL_fits := goodIn_ca (goodIn_ca (goodIn_r _ [610, 72, 73, 611, 612, 613, 2, 614, 79, 80, 81, 82, 19, 15, 85, 23, 87, 88, 89, 90, 91, 92, 18, 93, 37, 94, 95, 96, 97, 98, 99, 100, 101, 102, 27, 103, 104, 105, 106, 107, 108, 109, 110, 111, 112, 113, 114, 115, 116, 117, 118, 119, 120, 121, 122, 123, 124, 41, 125, 126, 127, 128, 129, 130, 131, 132, 133, 134, 135, 136, 137, 138, 139, 140, 141, 142, 143, 144, 145, 146, 147, 148, 149, 150, 151, 152, 153, 154, 155, 156, 157, 158, 159, 160, 161, 162, 163, 164, 165, 166, 167, 168, 169, 170, 171, 172, 173, 174, 175, 176, 177, 178, 179, 180, 22, 181, 46, 47, 615, 616, 617, 618, 32, 86, 619, 620, 621, 31, 622, 623, 624, 625, 626, 627, 628, 203, 217, 218, 219, 629, 225, 226, 227, 212, 204, 205, 206, 207, 208, 209, 210, 211, 630, 631, 632, 633, 634, 635, 508, 636, 637, 638, 639, 775, 776, 777, 778, 779, 780, 781, 782, 809, 810, 811, 812, 813, 814, 815, 819, 820, 821, 816, 817, 818, 822, 823, 824] (by decide +kernel) (by decide +kernel)) (goodIn_sub (fun _ h => List.mem_append_left _ (List.mem_append_left _ (List.mem_append_right _ h))) (by decide +kernel))) (goodIn_sub (fun _ h => List.mem_append_left _ (List.mem_append_right _ h)) (by decide +kernel))
set_option maxRecDepth 20000 in
theorem gL_law_L_fits : GoodIn wsL_law (va_wsS RL 123 yL_fits wsL_fits) := goodIn_app (goodIn_of _ (by decide +kernel)) ggL_law_L_fits
set_option maxRecDepth 20000 in
theorem ggL_law_X5_fits : GoodIn wsL_law wsX5_fits := goodIn_r _ [643, 272, 274, 275, 5, 276, 277, 278, 279, 280, 281, 282, 283, 644, 645, 646, 647, 648, 649, 650, 284, 285, 286, 287, 288, 289, 290, 291, 292, 273, 293, 294, 295, 296, 57, 297, 298, 299, 300, 301, 302, 303, 304, 64, 305, 306, 307, 308, 58, 59, 60, 61, 63, 309, 310, 311, 312, 313, 314, 315, 316, 62, 317, 318, 319, 320, 321, 322, 323, 324, 325, 326, 327, 328, 329, 330, 331, 332, 651, 652, 653, 654, 55, 66, 655, 656, 657, 658, 659, 660, 661, 662, 552, 553, 554, 555, 423, 424, 425, 426, 355, 356, 357, 533, 534, 535, 536, 783, 784, 785, 786, 787, 788, 789, 790, 791, 792, 793, 794, 795, 796, 797, 798, 799, 800, 801, 802, 803, 804, 805, 806, 807, 808] (by decide +kernel) (by decide +kernel)
set_option maxRecDepth 20000 in
theorem gL_law_X5_fits : GoodIn wsL_law (wsV RL 125 RX5 yX5_fits wsX5_fits) := goodIn_app (goodIn_of _ (by decide +kernel)) ggL_law_X5_fits
