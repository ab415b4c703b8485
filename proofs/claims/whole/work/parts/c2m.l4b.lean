theorem goodIn_cut {big ws : List Cond} (k : Nat) (h1 : GoodIn big (ws.take k)) (h2 : GoodIn big (ws.drop k)) : GoodIn big ws := by
  have h := goodIn_app h1 h2
  rw [List.take_append_drop] at h
  exact h
set_option maxRecDepth 20000 in
theorem ggL_law_X4_digest_c0 : GoodIn wsL_law ((wsX4_digest).take 60) := goodIn_r _ [741, 19, 15, 85, 742, 743, 23, 442, 443, 28, 86, 90, 91, 92, 18, 93, 37, 94, 95, 96, 97, 98, 99, 100, 101, 102, 27, 103, 104, 105, 106, 107, 108, 109, 110, 111, 112, 113, 114, 115, 116, 117, 118, 119, 120, 121, 122, 123, 124, 41, 125, 126, 127, 128, 129, 130, 131, 132, 133, 134] (by decide +kernel) (by decide +kernel)
set_option maxRecDepth 20000 in
theorem ggL_law_X4_digest_c1 : GoodIn wsL_law ((((wsX4_digest).drop 60)).take 60) := goodIn_r _ [135, 136, 137, 138, 139, 140, 141, 142, 143, 144, 145, 146, 147, 148, 149, 150, 151, 152, 153, 154, 155, 156, 157, 158, 159, 160, 161, 162, 163, 164, 165, 166, 167, 168, 169, 170, 171, 172, 173, 174, 175, 176, 177, 600, 601, 602, 2, 603, 232, 241, 744, 745, 746, 747, 178, 179, 180, 22, 181, 46] (by decide +kernel) (by decide +kernel)
set_option maxRecDepth 20000 in
theorem ggL_law_X4_digest_c2 : GoodIn wsL_law ((((((wsX4_digest).drop 60)).drop 60)).take 60) := goodIn_r _ [47, 748, 749, 750, 563, 564, 565, 186, 410, 411, 412, 413, 203, 509, 510, 511, 512, 265, 266, 267, 212, 513, 514, 515, 516, 224, 225, 226, 227, 615, 616, 617, 618, 32, 619, 620, 621, 31, 622, 623, 624, 625, 626, 627, 628, 217, 218, 219, 629, 204, 205, 206, 207, 208, 209, 210, 211, 630, 631, 632] (by decide +kernel) (by decide +kernel)
set_option maxRecDepth 20000 in
theorem ggL_law_X4_digest_c3 : GoodIn wsL_law ((((((((wsX4_digest).drop 60)).drop 60)).drop 60)).take 60) := goodIn_r _ [633, 634, 635, 508, 182, 183, 184, 185, 187, 188, 189, 190, 191, 192, 193, 194, 195, 196, 197, 198, 199, 200, 201, 202, 213, 214, 215, 216, 220, 221, 222, 223, 636, 637, 638, 639, 670, 671, 672, 673, 228, 229, 230, 231, 233, 234, 235, 236, 689, 690, 691, 692, 693, 694, 695, 727, 728, 729, 751, 752] (by decide +kernel) (by decide +kernel)
set_option maxRecDepth 20000 in
theorem ggL_law_X4_digest_c4 : GoodIn wsL_law ((((((((wsX4_digest).drop 60)).drop 60)).drop 60)).drop 60) := goodIn_r _ [753, 754, 755, 756, 402, 403, 404, 405, 406, 407, 408, 409, 414, 581, 582, 583, 584, 775, 776, 777, 778, 779, 780, 781, 782, 816, 817, 818, 819, 820, 821, 809, 810, 811, 812, 813, 814, 815, 822, 823, 824] (by decide +kernel) (by decide +kernel)
theorem ggL_law_X4_digest : GoodIn wsL_law wsX4_digest := (goodIn_cut 60 ggL_law_X4_digest_c0 (goodIn_cut 60 ggL_law_X4_digest_c1 (goodIn_cut 60 ggL_law_X4_digest_c2 (goodIn_cut 60 ggL_law_X4_digest_c3 ggL_law_X4_digest_c4))))
set_option maxRecDepth 20000 in
theorem gL_law_X4_digest : GoodIn wsL_law (wsV RL 140 RX4 yX4_digest wsX4_digest) := goodIn_app (goodIn_of _ (by decide +kernel)) ggL_law_X4_digest
set_option maxRecDepth 20000 in
theorem ggL_law_X5_digest_c0 : GoodIn wsL_law ((wsX5_digest).take 60) := goodIn_r _ [760, 272, 761, 762, 55, 273, 378, 57, 570, 571, 572, 5, 573, 529, 530, 531, 532, 423, 424, 425, 426, 533, 534, 535, 536, 277, 278, 279, 525, 526, 527, 528, 537, 538, 539, 540, 644, 645, 646, 647, 648, 649, 650, 284, 285, 286, 287, 288, 289, 290, 291, 292, 293, 294, 295, 296, 297, 298, 299, 300] (by decide +kernel) (by decide +kernel)
set_option maxRecDepth 20000 in
theorem ggL_law_X5_digest_c1 : GoodIn wsL_law ((((wsX5_digest).drop 60)).take 60) := goodIn_r _ [301, 302, 303, 304, 64, 305, 306, 307, 308, 58, 59, 60, 61, 63, 309, 310, 311, 312, 313, 314, 315, 316, 62, 317, 318, 319, 320, 321, 322, 323, 324, 325, 326, 327, 328, 329, 330, 331, 332, 651, 652, 653, 654, 66, 655, 656, 657, 658, 659, 660, 661, 662, 552, 553, 554, 555, 355, 356, 357, 678] (by decide +kernel) (by decide +kernel)
set_option maxRecDepth 20000 in
theorem ggL_law_X5_digest_c2 : GoodIn wsL_law ((((((wsX5_digest).drop 60)).drop 60)).take 60) := goodIn_r _ [679, 680, 681, 65, 333, 334, 335, 336, 337, 338, 339, 340, 341, 342, 343, 344, 345, 346, 347, 348, 349, 350, 351, 352, 353, 354, 358, 359, 360, 361, 362, 363, 364, 365, 370, 371, 372, 373, 366, 367, 368, 369, 700, 701, 702, 703, 704, 705, 706, 707, 734, 735, 736, 737, 763, 764, 765, 766, 767, 768] (by decide +kernel) (by decide +kernel)
set_option maxRecDepth 20000 in
theorem ggL_law_X5_digest_c3 : GoodIn wsL_law ((((((wsX5_digest).drop 60)).drop 60)).drop 60) := goodIn_r _ [769, 770, 771, 772, 773, 774, 716, 717, 718, 719, 419, 420, 421, 422, 589, 590, 591, 592, 783, 784, 785, 786, 787, 788, 789, 790, 791, 792, 793, 794, 795, 796, 797, 798, 799, 800, 801, 802, 803, 804, 805, 806, 807, 808] (by decide +kernel) (by decide +kernel)
theorem ggL_law_X5_digest : GoodIn wsL_law wsX5_digest := (goodIn_cut 60 ggL_law_X5_digest_c0 (goodIn_cut 60 ggL_law_X5_digest_c1 (goodIn_cut 60 ggL_law_X5_digest_c2 ggL_law_X5_digest_c3)))
set_option maxRecDepth 20000 in
theorem gL_law_X5_digest : GoodIn wsL_law (wsV RL 144 RX5 yX5_digest wsX5_digest) := goodIn_app (goodIn_of _ (by decide +kernel)) ggL_law_X5_digest
