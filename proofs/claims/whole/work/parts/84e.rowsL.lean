set_option maxRecDepth 20000 in
theorem ggL_law_X4_restore : GoodIn wsL_law wsX4_restore := goodIn_r _ [533, 17, 21, 15, 16, 131, 132, 133, 20, 134, 54, 135, 136, 137, 138, 53, 139, 140, 141, 142, 143, 144, 145, 14, 146, 35, 36, 37, 38, 39, 40, 41, 42, 43, 147, 2, 148, 524, 720, 721, 722, 723, 724, 725, 744, 745, 746, 747, 748, 749, 750, 751, 752, 753, 754] (by decide +kernel) (by decide +kernel)
set_option maxRecDepth 20000 in
theorem gL_law_X4_restore : GoodIn wsL_law (wsV RL 62 RX4 yX4_restore wsX4_restore) := goodIn_app (goodIn_of _ (by decide +kernel)) ggL_law_X4_restore
set_option maxRecDepth 20000 in
theorem ggL_law_X5_restore : GoodIn wsL_law wsX5_restore := goodIn_r _ [537, 529, 82, 78, 201, 202, 203, 5, 204, 79, 205, 206, 207, 224, 225, 226, 227, 228, 81, 726, 727, 728, 729, 730, 731, 732, 733, 734, 735, 736, 737, 738, 739, 740, 741, 742, 743] (by decide +kernel) (by decide +kernel)
set_option maxRecDepth 20000 in
theorem gL_law_X5_restore : GoodIn wsL_law (wsV RL 65 RX5 yX5_restore wsX5_restore) := goodIn_app (goodIn_of _ (by decide +kernel)) ggL_law_X5_restore
set_option maxRecDepth 20000 in
theorem ggL_law_X4_panel : GoodIn wsL_law wsX4_panel := goodIn_r _ [541, 15, 233, 234, 235, 14, 236, 35, 107, 2, 108, 298, 242, 243, 244, 36, 442, 443, 444, 445, 37, 253, 254, 255, 256, 38, 299, 300, 301, 302, 249, 250, 251, 252, 42, 40, 241, 169, 170, 171, 172, 41, 542, 543, 544, 545, 546, 547, 548, 549, 550, 551, 29, 305, 306, 307, 308, 309, 310, 311, 28, 312, 68, 73, 69, 44, 45, 313, 314, 315, 316, 317, 318, 319, 320, 321, 70, 71, 322, 323, 324, 325, 326, 327, 328, 329, 330, 39, 331, 332, 333, 334, 123, 124, 335, 336, 337, 338, 339, 340, 341, 342, 343, 344, 72, 46, 47, 345, 346, 347, 348, 349, 350, 351, 352, 552, 553, 554, 555, 720, 721, 722, 723, 724, 725, 744, 745, 746, 747, 748, 749, 750, 751, 752, 761, 762, 763, 764, 765, 766] (by decide +kernel) (by decide +kernel)
set_option maxRecDepth 20000 in
theorem gL_law_X4_panel : GoodIn wsL_law (wsV RL 66 RX4 yX4_panel wsX4_panel) := goodIn_app (goodIn_of _ (by decide +kernel)) ggL_law_X4_panel
set_option maxRecDepth 20000 in
theorem ggL_law_X5_panel : GoodIn wsL_law wsX5_panel := goodIn_r _ [559, 261, 262, 263, 5, 264, 78, 216, 217, 218, 219, 265, 266, 267, 268, 560, 561, 562, 563, 84, 564, 565, 566, 567, 378, 379, 380, 381, 568, 569, 570, 571, 373, 85, 374, 375, 376, 377, 86, 87, 88, 382, 383, 384, 385, 386, 387, 388, 389, 390, 391, 392, 393, 394, 395, 396, 397, 398, 399, 400, 401, 726, 727, 728, 729, 730, 731, 732, 733, 734, 735, 736, 737, 738, 739, 740, 741, 742, 743] (by decide +kernel) (by decide +kernel)
set_option maxRecDepth 20000 in
theorem gL_law_X5_panel : GoodIn wsL_law (wsV RL 69 RX5 yX5_panel wsX5_panel) := goodIn_app (goodIn_of _ (by decide +kernel)) ggL_law_X5_panel
set_option maxRecDepth 20000 in
theorem ggL_law_X4_event : GoodIn wsL_law wsX4_event := goodIn_r _ [575, 15, 233, 234, 235, 14, 236, 35, 107, 2, 108, 253, 254, 255, 256, 38, 576, 328, 329, 330, 39, 577, 331, 332, 578, 333, 334, 579, 123, 124, 580, 339, 340, 720, 721, 722, 723, 724, 725, 744, 745, 746, 747, 748, 749, 750, 751, 752] (by decide +kernel) (by decide +kernel)
set_option maxRecDepth 20000 in
theorem gL_law_X4_event : GoodIn wsL_law (wsV RL 70 RX4 yX4_event wsX4_event) := goodIn_app (goodIn_of _ (by decide +kernel)) ggL_law_X4_event
set_option maxRecDepth 20000 in
theorem ggL_law_X5_event : GoodIn wsL_law wsX5_event := goodIn_r _ [584, 585, 261, 262, 263, 5, 264, 78, 216, 217, 218, 219, 187, 188, 189, 386, 387, 388, 389, 726, 727, 728, 729, 730, 731, 732, 733, 734, 735, 736, 737, 738, 739, 740, 741, 742, 743] (by decide +kernel) (by decide +kernel)
set_option maxRecDepth 20000 in
theorem gL_law_X5_event : GoodIn wsL_law (wsV RL 73 RX5 yX5_event wsX5_event) := goodIn_app (goodIn_of _ (by decide +kernel)) ggL_law_X5_event
