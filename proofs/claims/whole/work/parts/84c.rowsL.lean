set_option maxRecDepth 20000 in
theorem ggL_law_X4_time : GoodIn wsL_law wsX4_time := goodIn_r _ [441, 15, 21, 233, 234, 235, 14, 236, 35, 107, 2, 108, 442, 443, 444, 445, 37, 131, 132, 133, 20, 134, 54, 135, 136, 137, 138, 53, 139, 140, 141, 142, 143, 144, 145, 146, 36, 38, 39, 40, 41, 42, 43, 147, 148, 446, 447, 448, 449, 46, 47, 720, 721, 722, 723, 724, 725, 744, 745, 746, 747, 748, 749, 750, 751, 752, 753, 754] (by decide +kernel) (by decide +kernel)
set_option maxRecDepth 20000 in
theorem gL_law_X4_time : GoodIn wsL_law (wsV RL 37 RX4 yX4_time wsX4_time) := goodIn_app (goodIn_of _ (by decide +kernel)) ggL_law_X4_time
set_option maxRecDepth 20000 in
theorem ggL_law_X5_time : GoodIn wsL_law wsX5_time := goodIn_r _ [453, 454, 78, 261, 262, 263, 5, 264, 216, 217, 218, 219, 187, 188, 189, 201, 202, 203, 204, 79, 205, 206, 207, 224, 225, 226, 227, 228, 81, 726, 727, 728, 729, 730, 731, 732, 733, 734, 735, 736, 737, 738, 739, 740, 741, 742, 743] (by decide +kernel) (by decide +kernel)
set_option maxRecDepth 20000 in
theorem gL_law_X5_time : GoodIn wsL_law (wsV RL 40 RX5 yX5_time wsX5_time) := goodIn_app (goodIn_of _ (by decide +kernel)) ggL_law_X5_time
set_option maxRecDepth 20000 in
theorem ggL_law_X4_mend : GoodIn wsL_law wsX4_mend := goodIn_r _ [458, 21, 15, 289, 109, 2, 110, 459, 460, 461, 462, 305, 306, 307, 308, 29, 309, 310, 311, 28, 312, 68, 73, 69, 44, 45, 313, 314, 315, 14, 316, 42, 40, 107, 108, 317, 242, 243, 244, 36, 318, 319, 320, 321, 70, 71, 322, 323, 324, 325, 35, 326, 254, 255, 256, 38, 327, 328, 329, 330, 39, 331, 332, 333, 334, 123, 124, 335, 336, 337, 338, 339, 340, 341, 342, 343, 344, 72, 46, 47, 345, 346, 347, 348, 349, 350, 351, 352, 233, 234, 235, 236, 298, 463, 295, 296, 297, 161, 162, 163, 164, 241, 464, 465, 466, 467, 299, 300, 301, 302, 249, 250, 251, 252, 169, 170, 171, 172, 41, 303, 246, 247, 248, 304, 166, 167, 168, 468, 469, 470, 471, 131, 132, 133, 20, 134, 54, 135, 136, 137, 138, 53, 139, 140, 141, 142, 143, 144, 145, 146, 37, 43, 147, 148, 720, 721, 722, 723, 724, 725, 744, 745, 746, 747, 748, 749, 750, 751, 752, 761, 762, 763, 764, 765, 766, 753, 754] (by decide +kernel) (by decide +kernel)
set_option maxRecDepth 20000 in
theorem gL_law_X4_mend : GoodIn wsL_law (wsV RL 41 RX4 yX4_mend wsX4_mend) := goodIn_app (goodIn_of _ (by decide +kernel)) ggL_law_X4_mend
set_option maxRecDepth 20000 in
theorem ggL_law_X5_mend : GoodIn wsL_law wsX5_mend := goodIn_r _ [475, 357, 358, 5, 359, 360, 187, 188, 189, 201, 202, 203, 204, 78, 79, 205, 206, 207, 476, 477, 478, 479, 369, 370, 371, 372, 373, 374, 375, 376, 377, 86, 84, 87, 88, 378, 379, 380, 381, 216, 217, 218, 219, 382, 383, 384, 385, 386, 387, 388, 389, 390, 391, 392, 393, 85, 394, 395, 396, 397, 398, 399, 400, 401, 261, 262, 263, 264, 480, 481, 482, 483, 484, 485, 486, 487, 80, 365, 366, 367, 368, 83, 269, 270, 271, 272, 220, 221, 222, 223, 361, 362, 363, 364, 212, 213, 214, 215, 224, 225, 226, 227, 228, 81, 726, 727, 728, 729, 730, 731, 732, 733, 734, 735, 736, 737, 738, 739, 740, 741, 742, 743] (by decide +kernel) (by decide +kernel)
set_option maxRecDepth 20000 in
theorem gL_law_X5_mend : GoodIn wsL_law (wsV RL 44 RX5 yX5_mend wsX5_mend) := goodIn_app (goodIn_of _ (by decide +kernel)) ggL_law_X5_mend
set_option maxRecDepth 20000 in
theorem ggL_law_X4_type : GoodIn wsL_law wsX4_type := goodIn_r _ [491, 25, 492, 493, 494, 24, 495, 59, 60, 46, 2, 47, 720, 721, 722, 723, 724, 725, 755, 756, 757, 758, 759, 760] (by decide +kernel) (by decide +kernel)
set_option maxRecDepth 20000 in
theorem gL_law_X4_type : GoodIn wsL_law (wsV RL 45 RX4 yX4_type wsX4_type) := goodIn_app (goodIn_of _ (by decide +kernel)) ggL_law_X4_type
set_option maxRecDepth 20000 in
theorem ggL_law_X5_type : GoodIn wsL_law wsX5_type := goodIn_r _ [499, 182, 89, 726, 727, 728, 729, 730, 731, 732, 733, 734, 735, 736, 737, 738, 739, 740, 741, 742, 743] (by decide +kernel) (by decide +kernel)
set_option maxRecDepth 20000 in
theorem gL_law_X5_type : GoodIn wsL_law (wsV RL 49 RX5 yX5_type wsX5_type) := goodIn_app (goodIn_of _ (by decide +kernel)) ggL_law_X5_type
