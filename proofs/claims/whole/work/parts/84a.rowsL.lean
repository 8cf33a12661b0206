set_option maxRecDepth 20000 in
theorem ggL_law_X4_init : GoodIn wsL_law wsX4_init := goodIn_r _ [8, 9, 10, 11, 12, 13, 14, 15, 16, 17, 18, 19, 20, 21, 22, 23, 24, 25, 26, 27, 28, 29, 30, 31, 32, 33, 34, 35, 36, 37, 38, 39, 40, 41, 42, 43, 44, 2, 45, 46, 47, 48, 49, 50, 51, 52, 53, 54, 55, 56, 57, 58, 59, 60, 61, 62, 63, 64, 65, 66, 67, 68, 69, 70, 71, 72, 73, 744, 745, 746, 747, 748, 749, 750, 751, 752, 720, 721, 722, 723, 724, 725, 753, 754, 755, 756, 757, 758, 759, 760, 761, 762, 763, 764, 765, 766] (by decide +kernel) (by decide +kernel)
set_option maxRecDepth 20000 in
theorem gL_law_X4_init : GoodIn wsL_law (wsX4_init) := ggL_law_X4_init
set_option maxRecDepth 20000 in
theorem ggL_law_X5_init : GoodIn wsL_law wsX5_init := goodIn_r _ [76, 77, 10, 11, 34, 78, 79, 80, 81, 82, 83, 84, 85, 86, 87, 88, 89, 90, 726, 727, 728, 729, 730, 731, 732, 733, 734, 735, 736, 737, 738, 739, 740, 741, 742, 743] (by decide +kernel) (by decide +kernel)
set_option maxRecDepth 20000 in
theorem gL_law_X5_init : GoodIn wsL_law (wsX5_init) := ggL_law_X5_init
set_option maxRecDepth 20000 in
theorem ggL_law_X4_putPanel : GoodIn wsL_law wsX4_putPanel := goodIn_r _ [94, 25, 15, 21, 95, 96, 97, 24, 98, 61, 62, 99, 100, 101, 102, 103, 104, 105, 106, 60, 59, 107, 2, 108, 109, 110, 111, 112, 113, 114, 63, 64, 115, 116, 117, 118, 119, 120, 121, 122, 123, 124, 125, 126, 46, 47, 127, 128, 129, 14, 130, 42, 43, 131, 132, 133, 20, 134, 54, 135, 136, 137, 138, 53, 139, 140, 141, 142, 143, 144, 145, 146, 35, 36, 37, 38, 39, 40, 41, 147, 148, 149, 150, 151, 152, 153, 154, 155, 156, 157, 158, 159, 160, 161, 162, 163, 164, 165, 166, 167, 168, 169, 170, 171, 172, 720, 721, 722, 723, 724, 725, 755, 756, 757, 758, 759, 760, 744, 745, 746, 747, 748, 749, 750, 751, 752, 753, 754] (by decide +kernel) (by decide +kernel)
set_option maxRecDepth 20000 in
theorem gL_law_X4_putPanel : GoodIn wsL_law (wsV RL 13 RX4 yX4_putPanel wsX4_putPanel) := goodIn_app (goodIn_of _ (by decide +kernel)) ggL_law_X4_putPanel
set_option maxRecDepth 20000 in
theorem ggL_law_X5_putPanel : GoodIn wsL_law wsX5_putPanel := goodIn_r _ [176, 78, 83, 177, 178, 179, 5, 180, 181, 90, 89, 182, 183, 184, 185, 186, 187, 188, 189, 190, 191, 192, 193, 194, 195, 196, 197, 198, 199, 200, 201, 202, 203, 204, 79, 205, 206, 207, 208, 209, 210, 211, 212, 213, 214, 215, 216, 217, 218, 219, 220, 221, 222, 223, 224, 225, 226, 227, 228, 81, 726, 727, 728, 729, 730, 731, 732, 733, 734, 735, 736, 737, 738, 739, 740, 741, 742, 743] (by decide +kernel) (by decide +kernel)
set_option maxRecDepth 20000 in
theorem gL_law_X5_putPanel : GoodIn wsL_law (wsV RL 17 RX5 yX5_putPanel wsX5_putPanel) := goodIn_app (goodIn_of _ (by decide +kernel)) ggL_law_X5_putPanel
set_option maxRecDepth 20000 in
theorem ggL_law_X4_redraw : GoodIn wsL_law wsX4_redraw := goodIn_r _ [232, 15, 25, 21, 233, 234, 235, 14, 236, 35, 107, 2, 108, 95, 96, 97, 24, 98, 61, 62, 99, 100, 101, 102, 103, 104, 105, 106, 60, 59, 109, 110, 111, 112, 113, 114, 63, 64, 115, 116, 117, 118, 119, 120, 121, 122, 123, 124, 125, 126, 46, 47, 131, 132, 133, 20, 134, 54, 135, 136, 137, 138, 53, 139, 140, 141, 142, 143, 144, 145, 146, 36, 37, 38, 39, 40, 41, 42, 43, 147, 148, 237, 238, 239, 240, 157, 158, 159, 160, 241, 242, 243, 244, 245, 246, 247, 248, 249, 250, 251, 252, 161, 162, 163, 164, 165, 166, 167, 168, 169, 170, 171, 172, 253, 254, 255, 256, 720, 721, 722, 723, 724, 725, 744, 745, 746, 747, 748, 749, 750, 751, 752, 755, 756, 757, 758, 759, 760, 753, 754] (by decide +kernel) (by decide +kernel)
set_option maxRecDepth 20000 in
theorem gL_law_X4_redraw : GoodIn wsL_law (wsV RL 18 RX4 yX4_redraw wsX4_redraw) := goodIn_app (goodIn_of _ (by decide +kernel)) ggL_law_X4_redraw
set_option maxRecDepth 20000 in
theorem ggL_law_X5_redraw : GoodIn wsL_law wsX5_redraw := goodIn_r _ [260, 90, 83, 261, 262, 263, 5, 264, 78, 216, 217, 218, 219, 177, 178, 179, 180, 181, 89, 182, 183, 184, 185, 186, 187, 188, 189, 190, 191, 192, 193, 194, 195, 196, 197, 198, 199, 200, 201, 202, 203, 204, 79, 205, 206, 207, 265, 266, 267, 268, 269, 270, 271, 272, 208, 209, 210, 211, 212, 213, 214, 215, 220, 221, 222, 223, 224, 225, 226, 227, 228, 81, 726, 727, 728, 729, 730, 731, 732, 733, 734, 735, 736, 737, 738, 739, 740, 741, 742, 743] (by decide +kernel) (by decide +kernel)
set_option maxRecDepth 20000 in
theorem gL_law_X5_redraw : GoodIn wsL_law (wsV RL 22 RX5 yX5_redraw wsX5_redraw) := goodIn_app (goodIn_of _ (by decide +kernel)) ggL_law_X5_redraw
