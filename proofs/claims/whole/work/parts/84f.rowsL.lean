set_option maxRecDepth 20000 in
theorem ggL_law_X4_at : GoodIn wsL_law wsX4_at := goodIn_r _ [589, 15, 590, 314, 315, 14, 316, 42, 40, 107, 2, 108, 591, 323, 324, 325, 35, 720, 721, 722, 723, 724, 725, 744, 745, 746, 747, 748, 749, 750, 751, 752] (by decide +kernel) (by decide +kernel)
set_option maxRecDepth 20000 in
theorem gL_law_X4_at : GoodIn wsL_law (wsV RL 74 RX4 yX4_at wsX4_at) := goodIn_app (goodIn_of _ (by decide +kernel)) ggL_law_X4_at
set_option maxRecDepth 20000 in
theorem ggL_law_X5_at : GoodIn wsL_law wsX5_at := goodIn_r _ [595, 78, 84, 378, 379, 380, 5, 381, 216, 217, 218, 219, 726, 727, 728, 729, 730, 731, 732, 733, 734, 735, 736, 737, 738, 739, 740, 741, 742, 743] (by decide +kernel) (by decide +kernel)
set_option maxRecDepth 20000 in
theorem gL_law_X5_at : GoodIn wsL_law (wsV RL 77 RX5 yX5_at wsX5_at) := goodIn_app (goodIn_of _ (by decide +kernel)) ggL_law_X5_at
set_option maxRecDepth 20000 in
theorem ggL_law_X4_scene : GoodIn wsL_law wsX4_scene := goodIn_r _ [599, 15, 289, 109, 2, 110, 409, 410, 411, 14, 412, 41, 107, 108, 600, 162, 163, 164, 42, 36, 40, 601, 602, 603, 604, 605, 170, 171, 172, 543, 544, 545, 546, 547, 443, 444, 445, 37, 606, 607, 608, 609, 305, 306, 307, 308, 29, 309, 310, 311, 28, 312, 68, 73, 69, 44, 45, 313, 314, 315, 316, 317, 242, 243, 244, 318, 319, 320, 321, 70, 71, 322, 323, 324, 325, 35, 326, 254, 255, 256, 38, 327, 328, 329, 330, 39, 331, 332, 333, 334, 123, 124, 335, 336, 337, 338, 339, 340, 341, 342, 343, 344, 72, 46, 47, 345, 346, 347, 348, 349, 350, 351, 352, 610, 611, 612, 613, 552, 553, 554, 555, 233, 234, 235, 236, 298, 720, 721, 722, 723, 724, 725, 744, 745, 746, 747, 748, 749, 750, 751, 752, 761, 762, 763, 764, 765, 766] (by decide +kernel) (by decide +kernel)
set_option maxRecDepth 20000 in
theorem gL_law_X4_scene : GoodIn wsL_law (wsV RL 78 RX4 yX4_scene wsX4_scene) := goodIn_app (goodIn_of _ (by decide +kernel)) ggL_law_X4_scene
set_option maxRecDepth 20000 in
theorem ggL_law_X5_scene : GoodIn wsL_law wsX5_scene := goodIn_r _ [617, 357, 358, 5, 359, 360, 187, 188, 189, 434, 435, 436, 437, 78, 212, 213, 214, 215, 216, 217, 218, 219, 618, 619, 620, 621, 622, 623, 624, 625, 373, 85, 374, 375, 376, 377, 86, 84, 87, 88, 378, 379, 380, 381, 382, 383, 384, 385, 386, 387, 388, 389, 390, 391, 392, 393, 394, 395, 396, 397, 398, 399, 400, 401, 626, 627, 628, 629, 261, 262, 263, 264, 630, 631, 632, 633, 726, 727, 728, 729, 730, 731, 732, 733, 734, 735, 736, 737, 738, 739, 740, 741, 742, 743] (by decide +kernel) (by decide +kernel)
set_option maxRecDepth 20000 in
theorem gL_law_X5_scene : GoodIn wsL_law (wsV RL 81 RX5 yX5_scene wsX5_scene) := goodIn_app (goodIn_of _ (by decide +kernel)) ggL_law_X5_scene
set_option maxRecDepth 20000 in
theorem ggL_law_X4_holder : GoodIn wsL_law wsX4_holder := goodIn_r _ [637, 15, 29, 233, 234, 235, 14, 236, 35, 107, 2, 108, 542, 250, 251, 252, 42, 40, 309, 310, 311, 28, 312, 68, 73, 69, 44, 45, 313, 314, 315, 316, 317, 242, 243, 244, 36, 318, 319, 320, 321, 70, 71, 322, 323, 324, 325, 326, 254, 255, 256, 38, 327, 328, 329, 330, 39, 331, 332, 333, 334, 123, 124, 335, 336, 337, 338, 339, 340, 341, 342, 343, 344, 72, 46, 47, 345, 346, 347, 348, 349, 350, 351, 352, 638, 639, 640, 641, 720, 721, 722, 723, 724, 725, 744, 745, 746, 747, 748, 749, 750, 751, 752, 761, 762, 763, 764, 765, 766] (by decide +kernel) (by decide +kernel)
set_option maxRecDepth 20000 in
theorem gL_law_X4_holder : GoodIn wsL_law (wsV RL 82 RX4 yX4_holder wsX4_holder) := goodIn_app (goodIn_of _ (by decide +kernel)) ggL_law_X4_holder
set_option maxRecDepth 20000 in
theorem ggL_law_X5_holder : GoodIn wsL_law wsX5_holder := goodIn_r _ [645, 646, 88, 261, 262, 263, 5, 264, 78, 216, 217, 218, 219, 187, 188, 189, 374, 375, 376, 377, 373, 86, 84, 87, 378, 379, 380, 381, 382, 383, 384, 385, 386, 387, 388, 389, 390, 391, 392, 393, 85, 394, 395, 396, 397, 398, 399, 400, 401, 564, 565, 566, 567, 726, 727, 728, 729, 730, 731, 732, 733, 734, 735, 736, 737, 738, 739, 740, 741, 742, 743] (by decide +kernel) (by decide +kernel)
set_option maxRecDepth 20000 in
theorem gL_law_X5_holder : GoodIn wsL_law (wsV RL 85 RX5 yX5_holder wsX5_holder) := goodIn_app (goodIn_of _ (by decide +kernel)) ggL_law_X5_holder
