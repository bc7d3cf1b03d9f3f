set_option maxRecDepth 20000 in
theorem ggL_law_X5_init : GoodIn wsL_law wsX5_init := goodIn_r _ [8, 9, 10, 11, 12, 13, 14, 15, 16, 17, 18, 19, 20, 21, 22, 23, 24, 25, 26, 27, 28, 29, 30, 31, 32, 33, 34, 35, 36, 37, 38, 39, 40, 41, 42, 43, 44, 45, 46, 47, 48, 49, 50, 51, 52, 53, 54, 55, 56, 57, 58, 59, 60, 61, 62, 63, 64, 65, 66, 67, 68, 69, 70, 71, 72, 73, 74, 75, 76, 77, 78, 79, 80, 81, 82, 83, 84, 85, 86, 768, 769, 770, 771, 772, 773, 774, 775, 776, 738, 739, 740, 741, 742, 777, 778, 779, 780, 781, 782, 783, 784, 785, 786, 787, 788] (by decide +kernel) (by decide +kernel)
set_option maxRecDepth 20000 in
theorem gL_law_X5_init : GoodIn wsL_law (wsX5_init) := ggL_law_X5_init
set_option maxRecDepth 20000 in
theorem ggL_law_X6_init : GoodIn wsL_law wsX6_init := goodIn_r _ [89, 90, 10, 11, 36, 91, 92, 93, 43, 94, 95, 96, 97, 56, 98, 99, 100, 101, 102, 103, 104, 105, 106, 107, 108, 109, 110, 5, 111, 112, 113, 743, 744, 745, 746, 747, 748, 749, 750, 751, 752, 753, 754, 755, 756, 757, 758, 759, 760, 761, 762, 763, 764, 765, 766, 767] (by decide +kernel) (by decide +kernel)
set_option maxRecDepth 20000 in
theorem gL_law_X6_init : GoodIn wsL_law (wsX6_init) := ggL_law_X6_init
set_option maxRecDepth 20000 in
theorem ggL_law_X5_net : GoodIn wsL_law wsX5_net := goodIn_r _ [117, 15, 118, 119, 120, 2, 121, 122, 47, 48, 14, 49, 50, 37, 38, 39, 40, 41, 42, 51, 44, 45, 738, 739, 740, 741, 742, 768, 769, 770, 771, 772, 773, 774, 775, 776] (by decide +kernel) (by decide +kernel)
set_option maxRecDepth 20000 in
theorem gL_law_X5_net : GoodIn wsL_law (wsV RL 13 RX5 yX5_net wsX5_net) := goodIn_app (goodIn_of _ (by decide +kernel)) ggL_law_X5_net
set_option maxRecDepth 20000 in
theorem ggL_law_X6_net : GoodIn wsL_law wsX6_net := goodIn_r _ [126, 127, 112, 128, 129, 5, 130, 108, 109, 110, 111, 91, 92, 93, 94, 95, 96, 97, 113, 743, 744, 745, 746, 747, 748, 749, 750, 751, 752, 753, 754, 755, 756, 757, 758, 759, 760, 761, 762, 763, 764, 765, 766, 767] (by decide +kernel) (by decide +kernel)
set_option maxRecDepth 20000 in
theorem gL_law_X6_net : GoodIn wsL_law (wsV RL 17 RX6 yX6_net wsX6_net) := goodIn_app (goodIn_of _ (by decide +kernel)) ggL_law_X6_net
set_option maxRecDepth 20000 in
theorem ggL_law_X5_near : GoodIn wsL_law wsX5_near := goodIn_r _ [134, 15, 135, 136, 137, 138, 14, 139, 50, 119, 120, 2, 121, 140, 141, 142, 143, 37, 38, 144, 145, 146, 147, 148, 149, 150, 151, 152, 738, 739, 740, 741, 742, 768, 769, 770, 771, 772, 773, 774, 775, 776] (by decide +kernel) (by decide +kernel)
set_option maxRecDepth 20000 in
theorem gL_law_X5_near : GoodIn wsL_law (wsV RL 18 RX5 yX5_near wsX5_near) := goodIn_app (goodIn_of _ (by decide +kernel)) ggL_law_X5_near
set_option maxRecDepth 20000 in
theorem ggL_law_X6_near : GoodIn wsL_law wsX6_near := goodIn_r _ [156, 157, 158, 91, 159, 160, 161, 5, 162, 112, 128, 129, 130, 743, 744, 745, 746, 747, 748, 749, 750, 751, 752, 753, 754, 755, 756, 757, 758, 759, 760, 761, 762, 763, 764, 765, 766, 767] (by decide +kernel) (by decide +kernel)
set_option maxRecDepth 20000 in
theorem gL_law_X6_near : GoodIn wsL_law (wsV RL 22 RX6 yX6_near wsX6_near) := goodIn_app (goodIn_of _ (by decide +kernel)) ggL_law_X6_near
set_option maxRecDepth 20000 in
theorem ggL_law_X5_far : GoodIn wsL_law wsX5_far := goodIn_r _ [166, 15, 167, 168, 136, 137, 138, 14, 139, 50, 738, 739, 740, 741, 742, 768, 769, 770, 771, 772, 773, 774, 775, 776] (by decide +kernel) (by decide +kernel)
set_option maxRecDepth 20000 in
theorem gL_law_X5_far : GoodIn wsL_law (wsV RL 23 RX5 yX5_far wsX5_far) := goodIn_app (goodIn_of _ (by decide +kernel)) ggL_law_X5_far
set_option maxRecDepth 20000 in
theorem ggL_law_X6_far : GoodIn wsL_law wsX6_far := goodIn_r _ [172, 173, 159, 160, 161, 5, 162, 112, 128, 129, 130, 174, 175, 176, 177, 91, 178, 179, 180, 743, 744, 745, 746, 747, 748, 749, 750, 751, 752, 753, 754, 755, 756, 757, 758, 759, 760, 761, 762, 763, 764, 765, 766, 767] (by decide +kernel) (by decide +kernel)
set_option maxRecDepth 20000 in
theorem gL_law_X6_far : GoodIn wsL_law (wsV RL 26 RX6 yX6_far wsX6_far) := goodIn_app (goodIn_of _ (by decide +kernel)) ggL_law_X6_far
set_option maxRecDepth 20000 in
theorem ggL_law_X5_back : GoodIn wsL_law wsX5_back := goodIn_r _ [184, 15, 185, 186, 187, 14, 188, 50, 189, 190, 191, 192, 193, 194, 195, 196, 197, 198, 199, 200, 40, 144, 2, 145, 146, 147, 148, 149, 150, 151, 152, 201, 141, 142, 143, 37, 38, 738, 739, 740, 741, 742, 768, 769, 770, 771, 772, 773, 774, 775, 776] (by decide +kernel) (by decide +kernel)
set_option maxRecDepth 20000 in
theorem gL_law_X5_back : GoodIn wsL_law (wsV RL 27 RX5 yX5_back wsX5_back) := goodIn_app (goodIn_of _ (by decide +kernel)) ggL_law_X5_back
set_option maxRecDepth 20000 in
theorem ggL_law_X6_back : GoodIn wsL_law wsX6_back := goodIn_r _ [205, 112, 157, 158, 91, 206, 207, 208, 5, 209, 92, 178, 179, 180, 128, 129, 130, 743, 744, 745, 746, 747, 748, 749, 750, 751, 752, 753, 754, 755, 756, 757, 758, 759, 760, 761, 762, 763, 764, 765, 766, 767] (by decide +kernel) (by decide +kernel)
set_option maxRecDepth 20000 in
theorem gL_law_X6_back : GoodIn wsL_law (wsV RL 31 RX6 yX6_back wsX6_back) := goodIn_app (goodIn_of _ (by decide +kernel)) ggL_law_X6_back
set_option maxRecDepth 20000 in
theorem ggL_law_X5_tell : GoodIn wsL_law wsX5_tell := goodIn_r _ [213, 15, 214, 215, 216, 217, 218, 136, 137, 138, 14, 139, 50, 119, 120, 2, 121, 738, 739, 740, 741, 742, 768, 769, 770, 771, 772, 773, 774, 775, 776] (by decide +kernel) (by decide +kernel)
set_option maxRecDepth 20000 in
theorem gL_law_X5_tell : GoodIn wsL_law (wsV RL 32 RX5 yX5_tell wsX5_tell) := goodIn_app (goodIn_of _ (by decide +kernel)) ggL_law_X5_tell
set_option maxRecDepth 20000 in
theorem ggL_law_X6_tell : GoodIn wsL_law wsX6_tell := goodIn_r _ [222, 223, 224, 225, 226, 92, 159, 160, 161, 5, 162, 112, 128, 129, 130, 743, 744, 745, 746, 747, 748, 749, 750, 751, 752, 753, 754, 755, 756, 757, 758, 759, 760, 761, 762, 763, 764, 765, 766, 767] (by decide +kernel) (by decide +kernel)
set_option maxRecDepth 20000 in
theorem gL_law_X6_tell : GoodIn wsL_law (wsV RL 35 RX6 yX6_tell wsX6_tell) := goodIn_app (goodIn_of _ (by decide +kernel)) ggL_law_X6_tell
set_option maxRecDepth 20000 in
theorem ggL_law_X5_probe : GoodIn wsL_law wsX5_probe := goodIn_r _ [230, 15, 231, 136, 137, 138, 14, 139, 50, 119, 120, 2, 121, 738, 739, 740, 741, 742, 768, 769, 770, 771, 772, 773, 774, 775, 776] (by decide +kernel) (by decide +kernel)
set_option maxRecDepth 20000 in
theorem gL_law_X5_probe : GoodIn wsL_law (wsV RL 36 RX5 yX5_probe wsX5_probe) := goodIn_app (goodIn_of _ (by decide +kernel)) ggL_law_X5_probe
set_option maxRecDepth 20000 in
theorem ggL_law_X6_probe : GoodIn wsL_law wsX6_probe := goodIn_r _ [235, 236, 237, 93, 159, 160, 161, 5, 162, 112, 128, 129, 130, 743, 744, 745, 746, 747, 748, 749, 750, 751, 752, 753, 754, 755, 756, 757, 758, 759, 760, 761, 762, 763, 764, 765, 766, 767] (by decide +kernel) (by decide +kernel)
set_option maxRecDepth 20000 in
theorem gL_law_X6_probe : GoodIn wsL_law (wsV RL 39 RX6 yX6_probe wsX6_probe) := goodIn_app (goodIn_of _ (by decide +kernel)) ggL_law_X6_probe
set_option maxRecDepth 20000 in
theorem ggL_law_X5_seen : GoodIn wsL_law wsX5_seen := goodIn_r _ [241, 15, 167, 231, 214, 136, 137, 138, 14, 139, 50, 738, 739, 740, 741, 742, 768, 769, 770, 771, 772, 773, 774, 775, 776] (by decide +kernel) (by decide +kernel)
set_option maxRecDepth 20000 in
theorem gL_law_X5_seen : GoodIn wsL_law (wsV RL 40 RX5 yX5_seen wsX5_seen) := goodIn_app (goodIn_of _ (by decide +kernel)) ggL_law_X5_seen
set_option maxRecDepth 20000 in
theorem ggL_law_X6_seen : GoodIn wsL_law wsX6_seen := goodIn_r _ [245, 93, 223, 159, 160, 161, 5, 162, 112, 128, 129, 130, 174, 175, 176, 177, 91, 178, 179, 180, 743, 744, 745, 746, 747, 748, 749, 750, 751, 752, 753, 754, 755, 756, 757, 758, 759, 760, 761, 762, 763, 764, 765, 766, 767] (by decide +kernel) (by decide +kernel)
set_option maxRecDepth 20000 in
theorem gL_law_X6_seen : GoodIn wsL_law (wsV RL 43 RX6 yX6_seen wsX6_seen) := goodIn_app (goodIn_of _ (by decide +kernel)) ggL_law_X6_seen
set_option maxRecDepth 20000 in
theorem ggL_law_X5_unprobe : GoodIn wsL_law wsX5_unprobe := goodIn_r _ [249, 15, 250, 251, 252, 14, 253, 50, 39, 40, 254, 255, 256, 257, 738, 739, 740, 741, 742, 768, 769, 770, 771, 772, 773, 774, 775, 776] (by decide +kernel) (by decide +kernel)
set_option maxRecDepth 20000 in
theorem gL_law_X5_unprobe : GoodIn wsL_law (wsV RL 44 RX5 yX5_unprobe wsX5_unprobe) := goodIn_app (goodIn_of _ (by decide +kernel)) ggL_law_X5_unprobe
set_option maxRecDepth 20000 in
theorem ggL_law_X6_unprobe : GoodIn wsL_law wsX6_unprobe := goodIn_r _ [261, 112, 92, 93, 743, 744, 745, 746, 747, 748, 749, 750, 751, 752, 753, 754, 755, 756, 757, 758, 759, 760, 761, 762, 763, 764, 765, 766, 767] (by decide +kernel) (by decide +kernel)
set_option maxRecDepth 20000 in
theorem gL_law_X6_unprobe : GoodIn wsL_law (wsV RL 47 RX6 yX6_unprobe wsX6_unprobe) := goodIn_app (goodIn_of _ (by decide +kernel)) ggL_law_X6_unprobe
set_option maxRecDepth 20000 in
theorem ggL_law_X5_gated : GoodIn wsL_law wsX5_gated := goodIn_r _ [265, 15, 214, 217, 136, 137, 138, 14, 139, 50, 266, 267, 2, 268, 119, 120, 121, 269, 270, 271, 272, 38, 273, 274, 144, 145, 146, 147, 148, 149, 150, 151, 152, 738, 739, 740, 741, 742, 768, 769, 770, 771, 772, 773, 774, 775, 776] (by decide +kernel) (by decide +kernel)
set_option maxRecDepth 20000 in
theorem gL_law_X5_gated : GoodIn wsL_law (wsV RL 48 RX5 yX5_gated wsX5_gated) := goodIn_app (goodIn_of _ (by decide +kernel)) ggL_law_X5_gated
set_option maxRecDepth 20000 in
theorem ggL_law_X6_gated : GoodIn wsL_law wsX6_gated := goodIn_r _ [278, 223, 226, 112, 159, 160, 161, 5, 162, 128, 129, 130, 279, 280, 281, 282, 283, 284, 285, 174, 175, 176, 177, 91, 178, 179, 180, 743, 744, 745, 746, 747, 748, 749, 750, 751, 752, 753, 754, 755, 756, 757, 758, 759, 760, 761, 762, 763, 764, 765, 766, 767] (by decide +kernel) (by decide +kernel)
set_option maxRecDepth 20000 in
theorem gL_law_X6_gated : GoodIn wsL_law (wsV RL 52 RX6 yX6_gated wsX6_gated) := goodIn_app (goodIn_of _ (by decide +kernel)) ggL_law_X6_gated
set_option maxRecDepth 20000 in
theorem ggL_law_X5_power : GoodIn wsL_law wsX5_power := goodIn_r _ [289, 15, 290, 266, 267, 2, 268, 119, 120, 121, 291, 292, 293, 14, 294, 50, 38, 273, 274, 738, 739, 740, 741, 742, 768, 769, 770, 771, 772, 773, 774, 775, 776] (by decide +kernel) (by decide +kernel)
set_option maxRecDepth 20000 in
theorem gL_law_X5_power : GoodIn wsL_law (wsV RL 53 RX5 yX5_power wsX5_power) := goodIn_app (goodIn_of _ (by decide +kernel)) ggL_law_X5_power
set_option maxRecDepth 20000 in
theorem ggL_law_X6_power : GoodIn wsL_law wsX6_power := goodIn_r _ [298, 299, 112, 279, 280, 5, 281, 282, 128, 129, 130, 174, 175, 176, 177, 91, 178, 179, 180, 283, 284, 285, 743, 744, 745, 746, 747, 748, 749, 750, 751, 752, 753, 754, 755, 756, 757, 758, 759, 760, 761, 762, 763, 764, 765, 766, 767] (by decide +kernel) (by decide +kernel)
set_option maxRecDepth 20000 in
theorem gL_law_X6_power : GoodIn wsL_law (wsV RL 57 RX6 yX6_power wsX6_power) := goodIn_app (goodIn_of _ (by decide +kernel)) ggL_law_X6_power
set_option maxRecDepth 20000 in
theorem ggL_law_X5_lose : GoodIn wsL_law wsX5_lose := goodIn_r _ [303, 15, 304, 136, 137, 138, 14, 139, 50, 305, 306, 307, 308, 44, 309, 310, 311, 738, 739, 740, 741, 742, 768, 769, 770, 771, 772, 773, 774, 775, 776] (by decide +kernel) (by decide +kernel)
set_option maxRecDepth 20000 in
theorem gL_law_X5_lose : GoodIn wsL_law (wsV RL 58 RX5 yX5_lose wsX5_lose) := goodIn_app (goodIn_of _ (by decide +kernel)) ggL_law_X5_lose
set_option maxRecDepth 20000 in
theorem ggL_law_X6_lose : GoodIn wsL_law wsX6_lose := goodIn_r _ [315, 94, 159, 160, 161, 5, 162, 112, 128, 129, 130, 316, 317, 318, 319, 743, 744, 745, 746, 747, 748, 749, 750, 751, 752, 753, 754, 755, 756, 757, 758, 759, 760, 761, 762, 763, 764, 765, 766, 767] (by decide +kernel) (by decide +kernel)
set_option maxRecDepth 20000 in
theorem gL_law_X6_lose : GoodIn wsL_law (wsV RL 62 RX6 yX6_lose wsX6_lose) := goodIn_app (goodIn_of _ (by decide +kernel)) ggL_law_X6_lose
set_option maxRecDepth 20000 in
theorem ggL_law_X5_mends : GoodIn wsL_law wsX5_mends := goodIn_r _ [323, 19, 15, 266, 267, 2, 268, 119, 120, 121, 324, 325, 326, 18, 327, 328, 57, 329, 330, 331, 332, 333, 334, 335, 58, 336, 337, 338, 339, 273, 274, 340, 341, 342, 343, 344, 345, 144, 145, 146, 147, 148, 149, 150, 151, 152, 346, 347, 348, 349, 350, 351, 352, 353, 354, 355, 356, 357, 358, 359, 360, 361, 738, 739, 740, 741, 742, 777, 778, 779, 780, 768, 769, 770, 771, 772, 773, 774, 775, 776] (by decide +kernel) (by decide +kernel)
set_option maxRecDepth 20000 in
theorem gL_law_X5_mends : GoodIn wsL_law (wsV RL 63 RX5 yX5_mends wsX5_mends) := goodIn_app (goodIn_of _ (by decide +kernel)) ggL_law_X5_mends
set_option maxRecDepth 20000 in
theorem ggL_law_X6_mends : GoodIn wsL_law wsX6_mends := goodIn_r _ [365, 279, 280, 5, 281, 282, 128, 129, 130, 366, 367, 368, 369, 370, 112, 94, 99, 371, 91, 98, 100, 283, 284, 285, 178, 179, 180, 372, 373, 374, 375, 376, 377, 378, 379, 380, 381, 382, 743, 744, 745, 746, 747, 748, 749, 750, 751, 752, 753, 754, 755, 756, 757, 758, 759, 760, 761, 762, 763, 764, 765, 766, 767] (by decide +kernel) (by decide +kernel)
set_option maxRecDepth 20000 in
theorem gL_law_X6_mends : GoodIn wsL_law (wsV RL 66 RX6 yX6_mends wsX6_mends) := goodIn_app (goodIn_of _ (by decide +kernel)) ggL_law_X6_mends
set_option maxRecDepth 20000 in
theorem ggL_law_X5_mend : GoodIn wsL_law wsX5_mend := goodIn_r _ [386, 15, 304, 387, 388, 19, 389, 136, 137, 138, 14, 139, 50, 266, 267, 2, 268, 119, 120, 121, 324, 325, 326, 18, 327, 328, 57, 329, 330, 331, 332, 333, 334, 335, 58, 336, 337, 338, 339, 273, 274, 340, 341, 342, 343, 344, 345, 144, 145, 146, 147, 148, 149, 150, 151, 152, 346, 347, 348, 349, 350, 351, 352, 353, 354, 355, 356, 357, 358, 359, 360, 361, 390, 391, 392, 393, 394, 395, 396, 397, 398, 399, 400, 401, 402, 403, 195, 404, 405, 406, 407, 408, 738, 739, 740, 741, 742, 768, 769, 770, 771, 772, 773, 774, 775, 776, 777, 778, 779, 780] (by decide +kernel) (by decide +kernel)
set_option maxRecDepth 20000 in
theorem gL_law_X5_mend : GoodIn wsL_law (wsV RL 67 RX5 yX5_mend wsX5_mend) := goodIn_app (goodIn_of _ (by decide +kernel)) ggL_law_X5_mend
set_option maxRecDepth 20000 in
theorem ggL_law_X6_mend : GoodIn wsL_law wsX6_mend := goodIn_r _ [412, 94, 413, 414, 415, 99, 98, 100, 159, 160, 161, 5, 162, 112, 128, 129, 130, 279, 280, 281, 282, 366, 367, 368, 369, 370, 371, 91, 283, 284, 285, 178, 179, 180, 372, 373, 374, 375, 376, 377, 378, 379, 380, 381, 382, 743, 744, 745, 746, 747, 748, 749, 750, 751, 752, 753, 754, 755, 756, 757, 758, 759, 760, 761, 762, 763, 764, 765, 766, 767] (by decide +kernel) (by decide +kernel)
set_option maxRecDepth 20000 in
theorem gL_law_X6_mend : GoodIn wsL_law (wsV RL 71 RX6 yX6_mend wsX6_mend) := goodIn_app (goodIn_of _ (by decide +kernel)) ggL_law_X6_mend
set_option maxRecDepth 20000 in
theorem ggL_law_X5_sheet : GoodIn wsL_law wsX5_sheet := goodIn_r _ [419, 23, 119, 120, 2, 121, 420, 66, 67, 22, 68, 69, 70, 64, 738, 739, 740, 741, 742, 781, 782, 783] (by decide +kernel) (by decide +kernel)
set_option maxRecDepth 20000 in
theorem gL_law_X5_sheet : GoodIn wsL_law (wsV RL 72 RX5 yX5_sheet wsX5_sheet) := goodIn_app (goodIn_of _ (by decide +kernel)) ggL_law_X5_sheet
set_option maxRecDepth 20000 in
theorem ggL_law_X6_sheet : GoodIn wsL_law wsX6_sheet := goodIn_r _ [424, 425, 426, 105, 106, 101, 128, 129, 5, 130, 743, 744, 745, 746, 747, 748, 749, 750, 751, 752, 753, 754, 755, 756, 757, 758, 759, 760, 761, 762, 763, 764, 765, 766, 767] (by decide +kernel) (by decide +kernel)
set_option maxRecDepth 20000 in
theorem gL_law_X6_sheet : GoodIn wsL_law (wsV RL 75 RX6 yX6_sheet wsX6_sheet) := goodIn_app (goodIn_of _ (by decide +kernel)) ggL_law_X6_sheet
set_option maxRecDepth 20000 in
theorem ggL_law_X5_cell : GoodIn wsL_law wsX5_cell := goodIn_r _ [430, 23, 431, 432, 433, 434, 22, 435, 69, 70, 119, 120, 2, 121, 738, 739, 740, 741, 742, 781, 782, 783] (by decide +kernel) (by decide +kernel)
set_option maxRecDepth 20000 in
theorem gL_law_X5_cell : GoodIn wsL_law (wsV RL 76 RX5 yX5_cell wsX5_cell) := goodIn_app (goodIn_of _ (by decide +kernel)) ggL_law_X5_cell
set_option maxRecDepth 20000 in
theorem ggL_law_X6_cell : GoodIn wsL_law wsX6_cell := goodIn_r _ [439, 105, 106, 157, 158, 101, 128, 129, 5, 130, 743, 744, 745, 746, 747, 748, 749, 750, 751, 752, 753, 754, 755, 756, 757, 758, 759, 760, 761, 762, 763, 764, 765, 766, 767] (by decide +kernel) (by decide +kernel)
set_option maxRecDepth 20000 in
theorem gL_law_X6_cell : GoodIn wsL_law (wsV RL 79 RX6 yX6_cell wsX6_cell) := goodIn_app (goodIn_of _ (by decide +kernel)) ggL_law_X6_cell
set_option maxRecDepth 20000 in
theorem ggL_law_X5_closed : GoodIn wsL_law wsX5_closed := goodIn_r _ [443, 23, 444, 445, 119, 120, 2, 121, 446, 447, 448, 22, 449, 64, 69, 450, 451, 452, 453, 738, 739, 740, 741, 742, 781, 782, 783] (by decide +kernel) (by decide +kernel)
set_option maxRecDepth 20000 in
theorem gL_law_X5_closed : GoodIn wsL_law (wsV RL 80 RX5 yX5_closed wsX5_closed) := goodIn_app (goodIn_of _ (by decide +kernel)) ggL_law_X5_closed
set_option maxRecDepth 20000 in
theorem ggL_law_X6_closed : GoodIn wsL_law wsX6_closed := goodIn_r _ [457, 105, 106, 101, 128, 129, 5, 130, 458, 459, 460, 743, 744, 745, 746, 747, 748, 749, 750, 751, 752, 753, 754, 755, 756, 757, 758, 759, 760, 761, 762, 763, 764, 765, 766, 767] (by decide +kernel) (by decide +kernel)
set_option maxRecDepth 20000 in
theorem gL_law_X6_closed : GoodIn wsL_law (wsV RL 83 RX6 yX6_closed wsX6_closed) := goodIn_app (goodIn_of _ (by decide +kernel)) ggL_law_X6_closed
set_option maxRecDepth 20000 in
theorem ggL_law_X5_tied : GoodIn wsL_law wsX5_tied := goodIn_r _ [464, 23, 444, 445, 119, 120, 2, 121, 465, 466, 467, 22, 468, 64, 70, 738, 739, 740, 741, 742, 781, 782, 783] (by decide +kernel) (by decide +kernel)
set_option maxRecDepth 20000 in
theorem gL_law_X5_tied : GoodIn wsL_law (wsV RL 84 RX5 yX5_tied wsX5_tied) := goodIn_app (goodIn_of _ (by decide +kernel)) ggL_law_X5_tied
set_option maxRecDepth 20000 in
theorem ggL_law_X6_tied : GoodIn wsL_law wsX6_tied := goodIn_r _ [472, 105, 106, 101, 128, 129, 5, 130, 743, 744, 745, 746, 747, 748, 749, 750, 751, 752, 753, 754, 755, 756, 757, 758, 759, 760, 761, 762, 763, 764, 765, 766, 767] (by decide +kernel) (by decide +kernel)
set_option maxRecDepth 20000 in
theorem gL_law_X6_tied : GoodIn wsL_law (wsV RL 87 RX6 yX6_tied wsX6_tied) := goodIn_app (goodIn_of _ (by decide +kernel)) ggL_law_X6_tied
set_option maxRecDepth 20000 in
theorem ggL_law_X5_antennas : GoodIn wsL_law wsX5_antennas := goodIn_r _ [476, 27, 119, 120, 2, 121, 477, 79, 80, 26, 81, 82, 76, 77, 738, 739, 740, 741, 742, 784, 785, 786] (by decide +kernel) (by decide +kernel)
set_option maxRecDepth 20000 in
theorem gL_law_X5_antennas : GoodIn wsL_law (wsV RL 88 RX5 yX5_antennas wsX5_antennas) := goodIn_app (goodIn_of _ (by decide +kernel)) ggL_law_X5_antennas
set_option maxRecDepth 20000 in
theorem ggL_law_X6_antennas : GoodIn wsL_law wsX6_antennas := goodIn_r _ [481, 482, 127, 107, 102, 103, 128, 129, 5, 130, 743, 744, 745, 746, 747, 748, 749, 750, 751, 752, 753, 754, 755, 756, 757, 758, 759, 760, 761, 762, 763, 764, 765, 766, 767] (by decide +kernel) (by decide +kernel)
set_option maxRecDepth 20000 in
theorem gL_law_X6_antennas : GoodIn wsL_law (wsV RL 91 RX6 yX6_antennas wsX6_antennas) := goodIn_app (goodIn_of _ (by decide +kernel)) ggL_law_X6_antennas
set_option maxRecDepth 20000 in
theorem ggL_law_X5_together : GoodIn wsL_law wsX5_together := goodIn_r _ [486, 27, 487, 488, 489, 490, 26, 491, 82, 119, 120, 2, 121, 492, 493, 494, 495, 76, 77, 738, 739, 740, 741, 742, 784, 785, 786] (by decide +kernel) (by decide +kernel)
set_option maxRecDepth 20000 in
theorem gL_law_X5_together : GoodIn wsL_law (wsV RL 92 RX5 yX5_together wsX5_together) := goodIn_app (goodIn_of _ (by decide +kernel)) ggL_law_X5_together
set_option maxRecDepth 20000 in
theorem ggL_law_X6_together : GoodIn wsL_law wsX6_together := goodIn_r _ [499, 107, 500, 501, 102, 103, 128, 129, 5, 130, 743, 744, 745, 746, 747, 748, 749, 750, 751, 752, 753, 754, 755, 756, 757, 758, 759, 760, 761, 762, 763, 764, 765, 766, 767] (by decide +kernel) (by decide +kernel)
set_option maxRecDepth 20000 in
theorem gL_law_X6_together : GoodIn wsL_law (wsV RL 96 RX6 yX6_together wsX6_together) := goodIn_app (goodIn_of _ (by decide +kernel)) ggL_law_X6_together
set_option maxRecDepth 20000 in
theorem ggL_law_X5_gain : GoodIn wsL_law wsX5_gain := goodIn_r _ [505, 27, 168, 488, 489, 490, 26, 491, 82, 506, 507, 508, 509, 510, 511, 512, 513, 514, 76, 515, 516, 517, 518, 77, 738, 739, 740, 741, 742, 784, 785, 786] (by decide +kernel) (by decide +kernel)
set_option maxRecDepth 20000 in
theorem gL_law_X5_gain : GoodIn wsL_law (wsV RL 97 RX5 yX5_gain wsX5_gain) := goodIn_app (goodIn_of _ (by decide +kernel)) ggL_law_X5_gain
set_option maxRecDepth 20000 in
theorem ggL_law_X6_gain : GoodIn wsL_law wsX6_gain := goodIn_r _ [522, 107, 173, 523, 524, 525, 128, 129, 5, 130, 526, 527, 528, 529, 102, 103, 530, 531, 743, 744, 745, 746, 747, 748, 749, 750, 751, 752, 753, 754, 755, 756, 757, 758, 759, 760, 761, 762, 763, 764, 765, 766, 767] (by decide +kernel) (by decide +kernel)
set_option maxRecDepth 20000 in
theorem gL_law_X6_gain : GoodIn wsL_law (wsV RL 100 RX6 yX6_gain wsX6_gain) := goodIn_app (goodIn_of _ (by decide +kernel)) ggL_law_X6_gain
set_option maxRecDepth 20000 in
theorem ggL_law_X5_loose : GoodIn wsL_law wsX5_loose := goodIn_r _ [535, 27, 536, 537, 538, 195, 539, 540, 541, 542, 26, 543, 82, 544, 545, 546, 547, 511, 512, 513, 514, 76, 515, 516, 517, 518, 77, 738, 739, 740, 741, 742, 784, 785, 786] (by decide +kernel) (by decide +kernel)
set_option maxRecDepth 20000 in
theorem gL_law_X5_loose : GoodIn wsL_law (wsV RL 101 RX5 yX5_loose wsX5_loose) := goodIn_app (goodIn_of _ (by decide +kernel)) ggL_law_X5_loose
set_option maxRecDepth 20000 in
theorem ggL_law_X6_loose : GoodIn wsL_law wsX6_loose := goodIn_r _ [551, 107, 523, 531, 530, 526, 527, 528, 5, 529, 102, 103, 525, 743, 744, 745, 746, 747, 748, 749, 750, 751, 752, 753, 754, 755, 756, 757, 758, 759, 760, 761, 762, 763, 764, 765, 766, 767] (by decide +kernel) (by decide +kernel)
set_option maxRecDepth 20000 in
theorem gL_law_X6_loose : GoodIn wsL_law (wsV RL 104 RX6 yX6_loose wsX6_loose) := goodIn_app (goodIn_of _ (by decide +kernel)) ggL_law_X6_loose
set_option maxRecDepth 20000 in
theorem ggL_law_X5_measure : GoodIn wsL_law wsX5_measure := goodIn_r _ [555, 15, 215, 216, 556, 557, 136, 137, 138, 14, 139, 50, 119, 120, 2, 121, 738, 739, 740, 741, 742, 768, 769, 770, 771, 772, 773, 774, 775, 776] (by decide +kernel) (by decide +kernel)
set_option maxRecDepth 20000 in
theorem gL_law_X5_measure : GoodIn wsL_law (wsV RL 105 RX5 yX5_measure wsX5_measure) := goodIn_app (goodIn_of _ (by decide +kernel)) ggL_law_X5_measure
set_option maxRecDepth 20000 in
theorem ggL_law_X6_measure : GoodIn wsL_law wsX6_measure := goodIn_r _ [561, 224, 225, 95, 96, 159, 160, 161, 5, 162, 112, 128, 129, 130, 743, 744, 745, 746, 747, 748, 749, 750, 751, 752, 753, 754, 755, 756, 757, 758, 759, 760, 761, 762, 763, 764, 765, 766, 767] (by decide +kernel) (by decide +kernel)
set_option maxRecDepth 20000 in
theorem gL_law_X6_measure : GoodIn wsL_law (wsV RL 109 RX6 yX6_measure wsX6_measure) := goodIn_app (goodIn_of _ (by decide +kernel)) ggL_law_X6_measure
set_option maxRecDepth 20000 in
theorem ggL_law_X5_faults : GoodIn wsL_law wsX5_faults := goodIn_r _ [565, 15, 566, 567, 568, 14, 569, 50, 570, 571, 572, 573, 45, 41, 38, 574, 575, 576, 577, 578, 579, 580, 581, 582, 583, 584, 585, 144, 2, 145, 146, 147, 148, 149, 150, 151, 152, 738, 739, 740, 741, 742, 768, 769, 770, 771, 772, 773, 774, 775, 776] (by decide +kernel) (by decide +kernel)
set_option maxRecDepth 20000 in
theorem gL_law_X5_faults : GoodIn wsL_law (wsV RL 110 RX5 yX5_faults wsX5_faults) := goodIn_app (goodIn_of _ (by decide +kernel)) ggL_law_X5_faults
set_option maxRecDepth 20000 in
theorem ggL_law_X6_faults : GoodIn wsL_law wsX6_faults := goodIn_r _ [589, 112, 590, 591, 592, 5, 593, 95, 96, 174, 175, 176, 177, 91, 178, 179, 180, 594, 595, 596, 597, 743, 744, 745, 746, 747, 748, 749, 750, 751, 752, 753, 754, 755, 756, 757, 758, 759, 760, 761, 762, 763, 764, 765, 766, 767] (by decide +kernel) (by decide +kernel)
set_option maxRecDepth 20000 in
theorem gL_law_X6_faults : GoodIn wsL_law (wsV RL 113 RX6 yX6_faults wsX6_faults) := goodIn_app (goodIn_of _ (by decide +kernel)) ggL_law_X6_faults
set_option maxRecDepth 20000 in
theorem ggL_law_X5_fault : GoodIn wsL_law wsX5_fault := goodIn_r _ [601, 15, 602, 603, 604, 14, 605, 50, 578, 579, 580, 581, 45, 582, 583, 584, 585, 570, 571, 572, 573, 41, 38, 144, 2, 145, 146, 147, 148, 149, 150, 151, 152, 738, 739, 740, 741, 742, 768, 769, 770, 771, 772, 773, 774, 775, 776] (by decide +kernel) (by decide +kernel)
set_option maxRecDepth 20000 in
theorem gL_law_X5_fault : GoodIn wsL_law (wsV RL 114 RX5 yX5_fault wsX5_fault) := goodIn_app (goodIn_of _ (by decide +kernel)) ggL_law_X5_fault
set_option maxRecDepth 20000 in
theorem ggL_law_X6_fault : GoodIn wsL_law wsX6_fault := goodIn_r _ [609, 610, 611, 612, 5, 613, 112, 594, 595, 596, 597, 95, 96, 174, 175, 176, 177, 91, 178, 179, 180, 743, 744, 745, 746, 747, 748, 749, 750, 751, 752, 753, 754, 755, 756, 757, 758, 759, 760, 761, 762, 763, 764, 765, 766, 767] (by decide +kernel) (by decide +kernel)
set_option maxRecDepth 20000 in
theorem gL_law_X6_fault : GoodIn wsL_law (wsV RL 117 RX6 yX6_fault wsX6_fault) := goodIn_app (goodIn_of _ (by decide +kernel)) ggL_law_X6_fault
set_option maxRecDepth 20000 in
theorem ggL_law_X5_by : GoodIn wsL_law wsX5_by := goodIn_r _ [617, 15, 602, 603, 604, 14, 605, 50, 578, 579, 580, 581, 45, 582, 583, 584, 585, 570, 571, 572, 573, 41, 38, 144, 2, 145, 146, 147, 148, 149, 150, 151, 152, 618, 738, 739, 740, 741, 742, 768, 769, 770, 771, 772, 773, 774, 775, 776] (by decide +kernel) (by decide +kernel)
set_option maxRecDepth 20000 in
theorem gL_law_X5_by : GoodIn wsL_law (wsV RL 118 RX5 yX5_by wsX5_by) := goodIn_app (goodIn_of _ (by decide +kernel)) ggL_law_X5_by
set_option maxRecDepth 20000 in
theorem ggL_law_X6_by : GoodIn wsL_law wsX6_by := goodIn_r _ [622, 610, 611, 612, 5, 613, 112, 594, 595, 596, 597, 95, 96, 174, 175, 176, 177, 91, 178, 179, 180, 743, 744, 745, 746, 747, 748, 749, 750, 751, 752, 753, 754, 755, 756, 757, 758, 759, 760, 761, 762, 763, 764, 765, 766, 767] (by decide +kernel) (by decide +kernel)
set_option maxRecDepth 20000 in
theorem gL_law_X6_by : GoodIn wsL_law (wsV RL 121 RX6 yX6_by wsX6_by) := goodIn_app (goodIn_of _ (by decide +kernel)) ggL_law_X6_by
set_option maxRecDepth 20000 in
theorem ggL_law_X5_limit : GoodIn wsL_law wsX5_limit := goodIn_r _ [626, 15, 627, 628, 136, 137, 138, 14, 139, 50, 119, 120, 2, 121, 738, 739, 740, 741, 742, 768, 769, 770, 771, 772, 773, 774, 775, 776] (by decide +kernel) (by decide +kernel)
set_option maxRecDepth 20000 in
theorem gL_law_X5_limit : GoodIn wsL_law (wsV RL 122 RX5 yX5_limit wsX5_limit) := goodIn_app (goodIn_of _ (by decide +kernel)) ggL_law_X5_limit
set_option maxRecDepth 20000 in
theorem ggL_law_X6_limit : GoodIn wsL_law wsX6_limit := goodIn_r _ [632, 633, 97, 159, 160, 161, 5, 162, 112, 128, 129, 130, 743, 744, 745, 746, 747, 748, 749, 750, 751, 752, 753, 754, 755, 756, 757, 758, 759, 760, 761, 762, 763, 764, 765, 766, 767] (by decide +kernel) (by decide +kernel)
set_option maxRecDepth 20000 in
theorem gL_law_X6_limit : GoodIn wsL_law (wsV RL 125 RX6 yX6_limit wsX6_limit) := goodIn_app (goodIn_of _ (by decide +kernel)) ggL_law_X6_limit
set_option maxRecDepth 20000 in
theorem ggL_law_X5_broken : GoodIn wsL_law wsX5_broken := goodIn_r _ [637, 15, 118, 167, 638, 194, 195, 196, 628, 738, 739, 740, 741, 742, 768, 769, 770, 771, 772, 773, 774, 775, 776] (by decide +kernel) (by decide +kernel)
set_option maxRecDepth 20000 in
theorem gL_law_X5_broken : GoodIn wsL_law (wsV RL 126 RX5 yX5_broken wsX5_broken) := goodIn_app (goodIn_of _ (by decide +kernel)) ggL_law_X5_broken
set_option maxRecDepth 20000 in
theorem ggL_law_X6_broken : GoodIn wsL_law wsX6_broken := goodIn_r _ [642, 112, 97, 174, 175, 176, 5, 177, 91, 178, 179, 180, 743, 744, 745, 746, 747, 748, 749, 750, 751, 752, 753, 754, 755, 756, 757, 758, 759, 760, 761, 762, 763, 764, 765, 766, 767] (by decide +kernel) (by decide +kernel)
set_option maxRecDepth 20000 in
theorem gL_law_X6_broken : GoodIn wsL_law (wsV RL 129 RX6 yX6_broken wsX6_broken) := goodIn_app (goodIn_of _ (by decide +kernel)) ggL_law_X6_broken
set_option maxRecDepth 20000 in
theorem ggL_law_X5_doubt : GoodIn wsL_law wsX5_doubt := goodIn_r _ [646, 31, 647, 119, 120, 2, 121, 648, 649, 650, 30, 651, 652, 86, 738, 739, 740, 741, 742, 787, 788] (by decide +kernel) (by decide +kernel)
set_option maxRecDepth 20000 in
theorem gL_law_X5_doubt : GoodIn wsL_law (wsV RL 130 RX5 yX5_doubt wsX5_doubt) := goodIn_app (goodIn_of _ (by decide +kernel)) ggL_law_X5_doubt
set_option maxRecDepth 20000 in
theorem ggL_law_X6_doubt : GoodIn wsL_law wsX6_doubt := goodIn_r _ [656, 501, 657, 104, 128, 129, 5, 130, 743, 744, 745, 746, 747, 748, 749, 750, 751, 752, 753, 754, 755, 756, 757, 758, 759, 760, 761, 762, 763, 764, 765, 766, 767] (by decide +kernel) (by decide +kernel)
set_option maxRecDepth 20000 in
theorem gL_law_X6_doubt : GoodIn wsL_law (wsV RL 133 RX6 yX6_doubt wsX6_doubt) := goodIn_app (goodIn_of _ (by decide +kernel)) ggL_law_X6_doubt
set_option maxRecDepth 20000 in
theorem ggL_law_X5_budget : GoodIn wsL_law wsX5_budget := goodIn_r _ [661, 31, 662, 663, 664, 30, 665, 652, 86, 666, 667, 668, 669, 670, 671, 2, 672, 673, 674, 675, 676, 677, 538, 195, 539, 738, 739, 740, 741, 742, 787, 788] (by decide +kernel) (by decide +kernel)
set_option maxRecDepth 20000 in
theorem gL_law_X5_budget : GoodIn wsL_law (wsV RL 134 RX5 yX5_budget wsX5_budget) := goodIn_app (goodIn_of _ (by decide +kernel)) ggL_law_X5_budget
set_option maxRecDepth 20000 in
theorem ggL_law_X6_budget : GoodIn wsL_law wsX6_budget := goodIn_r _ [681, 425, 657, 104, 128, 129, 5, 130, 743, 744, 745, 746, 747, 748, 749, 750, 751, 752, 753, 754, 755, 756, 757, 758, 759, 760, 761, 762, 763, 764, 765, 766, 767] (by decide +kernel) (by decide +kernel)
set_option maxRecDepth 20000 in
theorem gL_law_X6_budget : GoodIn wsL_law (wsV RL 137 RX6 yX6_budget wsX6_budget) := goodIn_app (goodIn_of _ (by decide +kernel)) ggL_law_X6_budget
set_option maxRecDepth 20000 in
theorem ggL_law_X5_sure : GoodIn wsL_law wsX5_sure := goodIn_r _ [685, 31, 647, 738, 739, 740, 741, 742, 787, 788] (by decide +kernel) (by decide +kernel)
set_option maxRecDepth 20000 in
theorem gL_law_X5_sure : GoodIn wsL_law (wsV RL 138 RX5 yX5_sure wsX5_sure) := goodIn_app (goodIn_of _ (by decide +kernel)) ggL_law_X5_sure
set_option maxRecDepth 20000 in
theorem ggL_law_X6_sure : GoodIn wsL_law wsX6_sure := goodIn_r _ [689, 657, 743, 744, 745, 746, 747, 748, 749, 750, 751, 752, 753, 754, 755, 756, 757, 758, 759, 760, 761, 762, 763, 764, 765, 766, 767] (by decide +kernel) (by decide +kernel)
set_option maxRecDepth 20000 in
theorem gL_law_X6_sure : GoodIn wsL_law (wsV RL 141 RX6 yX6_sure wsX6_sure) := goodIn_app (goodIn_of _ (by decide +kernel)) ggL_law_X6_sure
set_option maxRecDepth 20000 in
theorem ggL_law_X5_count : GoodIn wsL_law wsX5_count := goodIn_r _ [693, 15, 118, 23, 444, 445, 27, 536, 31, 647, 305, 306, 307, 14, 308, 44, 309, 310, 311, 694, 695, 696, 697, 45, 698, 699, 700, 26, 701, 82, 76, 738, 739, 740, 741, 742, 768, 769, 770, 771, 772, 773, 774, 775, 776, 781, 782, 783, 784, 785, 786, 787, 788] (by decide +kernel) (by decide +kernel)
set_option maxRecDepth 20000 in
theorem gL_law_X5_count : GoodIn wsL_law (wsV RL 142 RX5 yX5_count wsX5_count) := goodIn_app (goodIn_of _ (by decide +kernel)) ggL_law_X5_count
set_option maxRecDepth 20000 in
theorem ggL_law_X6_count : GoodIn wsL_law wsX6_count := goodIn_r _ [705, 112, 95, 105, 106, 107, 102, 657, 316, 317, 318, 5, 319, 94, 743, 744, 745, 746, 747, 748, 749, 750, 751, 752, 753, 754, 755, 756, 757, 758, 759, 760, 761, 762, 763, 764, 765, 766, 767] (by decide +kernel) (by decide +kernel)
set_option maxRecDepth 20000 in
theorem gL_law_X6_count : GoodIn wsL_law (wsV RL 145 RX6 yX6_count wsX6_count) := goodIn_app (goodIn_of _ (by decide +kernel)) ggL_law_X6_count
set_option maxRecDepth 20000 in
theorem ggL_law_X5_digest : GoodIn wsL_law wsX5_digest := goodIn_r _ [709, 15, 710, 23, 27, 31, 711, 712, 713, 14, 714, 50, 37, 39, 40, 44, 45, 41, 42, 715, 2, 716, 717, 718, 719, 720, 721, 722, 723, 22, 724, 69, 70, 64, 725, 726, 727, 26, 728, 82, 76, 77, 729, 730, 731, 30, 732, 652, 86, 738, 739, 740, 741, 742, 768, 769, 770, 771, 772, 773, 774, 775, 776, 781, 782, 783, 784, 785, 786, 787, 788] (by decide +kernel) (by decide +kernel)
set_option maxRecDepth 20000 in
theorem gL_law_X5_digest : GoodIn wsL_law (wsV RL 146 RX5 yX5_digest wsX5_digest) := goodIn_app (goodIn_of _ (by decide +kernel)) ggL_law_X5_digest
set_option maxRecDepth 20000 in
theorem ggL_law_X6_digest : GoodIn wsL_law wsX6_digest := goodIn_r _ [736, 737, 282, 112, 91, 93, 92, 94, 95, 96, 97, 105, 106, 101, 107, 102, 103, 657, 104, 743, 744, 745, 746, 747, 748, 749, 750, 751, 752, 753, 754, 755, 756, 757, 758, 759, 760, 761, 762, 763, 764, 765, 766, 767] (by decide +kernel) (by decide +kernel)
set_option maxRecDepth 20000 in
theorem gL_law_X6_digest : GoodIn wsL_law (wsV RL 150 RX6 yX6_digest wsX6_digest) := goodIn_app (goodIn_of _ (by decide +kernel)) ggL_law_X6_digest
