/-! THE LAW, 2: the words of its calls, by their places (printed rows) -/
set_option maxRecDepth 20000 in
theorem ggL_law_X4_init : GoodIn wsL_law wsX4_init := goodIn_r _ [8, 9, 10, 11, 12, 13, 14, 15, 16, 17, 18, 19, 20, 21, 22, 23, 24, 25, 26, 27, 28, 29, 30, 31, 32, 33, 34, 35, 36, 37, 38, 39, 40, 41, 42, 43, 44, 45, 46, 47, 48, 49, 50, 51, 52, 53, 54, 55, 56, 57, 58, 59, 60, 61, 62, 63, 708, 709, 710, 711, 712, 713, 714, 715, 716, 717, 718, 719, 678, 679, 680, 681, 682, 683, 720, 721, 722, 723, 724, 725, 726, 727, 728, 729, 730] (by decide +kernel) (by decide +kernel)
set_option maxRecDepth 20000 in
theorem gL_law_X4_init : GoodIn wsL_law (wsX4_init) := ggL_law_X4_init
set_option maxRecDepth 20000 in
theorem ggL_law_X5_init : GoodIn wsL_law wsX5_init := goodIn_r _ [66, 67, 10, 11, 36, 68, 69, 70, 71, 72, 73, 74, 75, 76, 77, 78, 79, 80, 81, 684, 685, 686, 687, 688, 689, 690, 691, 692, 693, 694, 695, 696, 697, 698, 699, 700, 701, 702, 703, 704, 705, 706, 707] (by decide +kernel) (by decide +kernel)
set_option maxRecDepth 20000 in
theorem gL_law_X5_init : GoodIn wsL_law (wsX5_init) := ggL_law_X5_init
set_option maxRecDepth 20000 in
theorem ggL_law_X4_stand : GoodIn wsL_law wsX4_stand := goodIn_r _ [85, 15, 86, 87, 88, 89, 90, 2, 91, 92, 93, 94, 95, 96, 97, 14, 98, 37, 38, 99, 100, 101, 102, 103, 104, 105, 106, 107, 108, 678, 679, 680, 681, 682, 683, 708, 709, 710, 711, 712, 713, 714, 715, 716, 717, 718, 719] (by decide +kernel) (by decide +kernel)
set_option maxRecDepth 20000 in
theorem gL_law_X4_stand : GoodIn wsL_law (wsV RL 13 RX4 yX4_stand wsX4_stand) := goodIn_app (goodIn_of _ (by decide +kernel)) ggL_law_X4_stand
set_option maxRecDepth 20000 in
theorem ggL_law_X5_stand : GoodIn wsL_law wsX5_stand := goodIn_r _ [112, 113, 68, 69, 70, 114, 115, 116, 117, 5, 118, 119, 120, 121, 122, 123, 124, 125, 126, 127, 128, 684, 685, 686, 687, 688, 689, 690, 691, 692, 693, 694, 695, 696, 697, 698, 699, 700, 701, 702, 703, 704, 705, 706, 707] (by decide +kernel) (by decide +kernel)
set_option maxRecDepth 20000 in
theorem gL_law_X5_stand : GoodIn wsL_law (wsV RL 17 RX5 yX5_stand wsX5_stand) := goodIn_app (goodIn_of _ (by decide +kernel)) ggL_law_X5_stand
set_option maxRecDepth 20000 in
theorem ggL_law_X4_leave : GoodIn wsL_law wsX4_leave := goodIn_r _ [132, 15, 86, 133, 134, 135, 14, 136, 137, 90, 2, 91, 138, 139, 99, 100, 101, 102, 103, 104, 105, 106, 107, 108, 678, 679, 680, 681, 682, 683, 708, 709, 710, 711, 712, 713, 714, 715, 716, 717, 718, 719] (by decide +kernel) (by decide +kernel)
set_option maxRecDepth 20000 in
theorem gL_law_X4_leave : GoodIn wsL_law (wsV RL 18 RX4 yX4_leave wsX4_leave) := goodIn_app (goodIn_of _ (by decide +kernel)) ggL_law_X4_leave
set_option maxRecDepth 20000 in
theorem ggL_law_X5_leave : GoodIn wsL_law wsX5_leave := goodIn_r _ [143, 115, 144, 145, 146, 5, 147, 116, 117, 118, 119, 120, 121, 122, 126, 127, 128, 684, 685, 686, 687, 688, 689, 690, 691, 692, 693, 694, 695, 696, 697, 698, 699, 700, 701, 702, 703, 704, 705, 706, 707] (by decide +kernel) (by decide +kernel)
set_option maxRecDepth 20000 in
theorem gL_law_X5_leave : GoodIn wsL_law (wsV RL 22 RX5 yX5_leave wsX5_leave) := goodIn_app (goodIn_of _ (by decide +kernel)) ggL_law_X5_leave
set_option maxRecDepth 20000 in
theorem ggL_law_X4_table : GoodIn wsL_law wsX4_table := goodIn_r _ [151, 15, 152, 92, 93, 2, 94, 89, 90, 91, 99, 100, 101, 678, 679, 680, 681, 682, 683, 708, 709, 710, 711, 712, 713, 714, 715, 716, 717, 718, 719] (by decide +kernel) (by decide +kernel)
set_option maxRecDepth 20000 in
theorem gL_law_X4_table : GoodIn wsL_law (wsV RL 23 RX4 yX4_table wsX4_table) := goodIn_app (goodIn_of _ (by decide +kernel)) ggL_law_X4_table
set_option maxRecDepth 20000 in
theorem ggL_law_X5_table : GoodIn wsL_law wsX5_table := goodIn_r _ [156, 157, 123, 124, 5, 125, 113, 120, 121, 122, 684, 685, 686, 687, 688, 689, 690, 691, 692, 693, 694, 695, 696, 697, 698, 699, 700, 701, 702, 703, 704, 705, 706, 707] (by decide +kernel) (by decide +kernel)
set_option maxRecDepth 20000 in
theorem gL_law_X5_table : GoodIn wsL_law (wsV RL 27 RX5 yX5_table wsX5_table) := goodIn_app (goodIn_of _ (by decide +kernel)) ggL_law_X5_table
set_option maxRecDepth 20000 in
theorem ggL_law_X4_set : GoodIn wsL_law wsX4_set := goodIn_r _ [161, 15, 162, 163, 89, 90, 2, 91, 678, 679, 680, 681, 682, 683, 708, 709, 710, 711, 712, 713, 714, 715, 716, 717, 718, 719] (by decide +kernel) (by decide +kernel)
set_option maxRecDepth 20000 in
theorem gL_law_X4_set : GoodIn wsL_law (wsV RL 28 RX4 yX4_set wsX4_set) := goodIn_app (goodIn_of _ (by decide +kernel)) ggL_law_X4_set
set_option maxRecDepth 20000 in
theorem ggL_law_X5_set : GoodIn wsL_law wsX5_set := goodIn_r _ [167, 113, 80, 81, 120, 121, 5, 122, 684, 685, 686, 687, 688, 689, 690, 691, 692, 693, 694, 695, 696, 697, 698, 699, 700, 701, 702, 703, 704, 705, 706, 707] (by decide +kernel) (by decide +kernel)
set_option maxRecDepth 20000 in
theorem gL_law_X5_set : GoodIn wsL_law (wsV RL 32 RX5 yX5_set wsX5_set) := goodIn_app (goodIn_of _ (by decide +kernel)) ggL_law_X5_set
set_option maxRecDepth 20000 in
theorem ggL_law_X4_say : GoodIn wsL_law wsX4_say := goodIn_r _ [171, 21, 172, 89, 90, 2, 91, 173, 174, 175, 20, 176, 177, 49, 678, 679, 680, 681, 682, 683, 720, 721] (by decide +kernel) (by decide +kernel)
set_option maxRecDepth 20000 in
theorem gL_law_X4_say : GoodIn wsL_law (wsV RL 33 RX4 yX4_say wsX4_say) := goodIn_app (goodIn_of _ (by decide +kernel)) ggL_law_X4_say
set_option maxRecDepth 20000 in
theorem ggL_law_X5_say : GoodIn wsL_law wsX5_say := goodIn_r _ [181, 182, 183, 184, 74, 120, 121, 5, 122, 684, 685, 686, 687, 688, 689, 690, 691, 692, 693, 694, 695, 696, 697, 698, 699, 700, 701, 702, 703, 704, 705, 706, 707] (by decide +kernel) (by decide +kernel)
set_option maxRecDepth 20000 in
theorem gL_law_X5_say : GoodIn wsL_law (wsV RL 36 RX5 yX5_say wsX5_say) := goodIn_app (goodIn_of _ (by decide +kernel)) ggL_law_X5_say
set_option maxRecDepth 20000 in
theorem ggL_law_X4_wipe : GoodIn wsL_law wsX4_wipe := goodIn_r _ [188, 21, 172, 678, 679, 680, 681, 682, 683, 720, 721] (by decide +kernel) (by decide +kernel)
set_option maxRecDepth 20000 in
theorem gL_law_X4_wipe : GoodIn wsL_law (wsV RL 37 RX4 yX4_wipe wsX4_wipe) := goodIn_app (goodIn_of _ (by decide +kernel)) ggL_law_X4_wipe
set_option maxRecDepth 20000 in
theorem ggL_law_X5_wipe : GoodIn wsL_law wsX5_wipe := goodIn_r _ [192, 184, 684, 685, 686, 687, 688, 689, 690, 691, 692, 693, 694, 695, 696, 697, 698, 699, 700, 701, 702, 703, 704, 705, 706, 707] (by decide +kernel) (by decide +kernel)
set_option maxRecDepth 20000 in
theorem gL_law_X5_wipe : GoodIn wsL_law (wsV RL 41 RX5 yX5_wipe wsX5_wipe) := goodIn_app (goodIn_of _ (by decide +kernel)) ggL_law_X5_wipe
set_option maxRecDepth 20000 in
theorem ggL_law_X4_fault : GoodIn wsL_law wsX4_fault := goodIn_r _ [196, 21, 197, 198, 199, 20, 200, 177, 201, 202, 203, 204, 49, 90, 2, 91, 205, 206, 207, 208, 209, 210, 211, 212, 213, 678, 679, 680, 681, 682, 683, 720, 721] (by decide +kernel) (by decide +kernel)
set_option maxRecDepth 20000 in
theorem gL_law_X4_fault : GoodIn wsL_law (wsV RL 42 RX4 yX4_fault wsX4_fault) := goodIn_app (goodIn_of _ (by decide +kernel)) ggL_law_X4_fault
set_option maxRecDepth 20000 in
theorem ggL_law_X5_fault : GoodIn wsL_law wsX5_fault := goodIn_r _ [217, 184, 74, 218, 219, 5, 220, 221, 222, 223, 224, 120, 121, 122, 225, 226, 227, 684, 685, 686, 687, 688, 689, 690, 691, 692, 693, 694, 695, 696, 697, 698, 699, 700, 701, 702, 703, 704, 705, 706, 707] (by decide +kernel) (by decide +kernel)
set_option maxRecDepth 20000 in
theorem gL_law_X5_fault : GoodIn wsL_law (wsV RL 45 RX5 yX5_fault wsX5_fault) := goodIn_app (goodIn_of _ (by decide +kernel)) ggL_law_X5_fault
set_option maxRecDepth 20000 in
theorem ggL_law_X4_rules : GoodIn wsL_law wsX4_rules := goodIn_r _ [231, 15, 92, 93, 2, 94, 89, 90, 91, 232, 233, 234, 14, 235, 236, 237, 238, 239, 137, 240, 241, 242, 243, 244, 37, 38, 245, 246, 247, 248, 138, 139, 249, 250, 251, 252, 253, 35, 254, 255, 256, 34, 257, 258, 259, 260, 261, 262, 263, 264, 678, 679, 680, 681, 682, 683, 708, 709, 710, 711, 712, 713, 714, 715, 716, 717, 718, 719] (by decide +kernel) (by decide +kernel)
set_option maxRecDepth 20000 in
theorem gL_law_X4_rules : GoodIn wsL_law (wsV RL 46 RX4 yX4_rules wsX4_rules) := goodIn_app (goodIn_of _ (by decide +kernel)) ggL_law_X4_rules
set_option maxRecDepth 20000 in
theorem ggL_law_X5_rules : GoodIn wsL_law wsX5_rules := goodIn_r _ [268, 123, 124, 5, 125, 113, 120, 121, 122, 269, 270, 271, 272, 273, 274, 275, 276, 114, 68, 157, 81, 80, 69, 144, 145, 146, 147, 115, 116, 117, 118, 119, 277, 278, 279, 280, 684, 685, 686, 687, 688, 689, 690, 691, 692, 693, 694, 695, 696, 697, 698, 699, 700, 701, 702, 703, 704, 705, 706, 707] (by decide +kernel) (by decide +kernel)
set_option maxRecDepth 20000 in
theorem gL_law_X5_rules : GoodIn wsL_law (wsV RL 49 RX5 yX5_rules wsX5_rules) := goodIn_app (goodIn_of _ (by decide +kernel)) ggL_law_X5_rules
set_option maxRecDepth 20000 in
theorem ggL_law_X4_opens : GoodIn wsL_law wsX4_opens := goodIn_r _ [284, 15, 88, 133, 134, 135, 14, 136, 137, 90, 2, 91, 138, 139, 92, 93, 94, 89, 260, 261, 262, 263, 264, 37, 38, 249, 250, 251, 252, 253, 35, 254, 255, 247, 256, 34, 678, 679, 680, 681, 682, 683, 708, 709, 710, 711, 712, 713, 714, 715, 716, 717, 718, 719] (by decide +kernel) (by decide +kernel)
set_option maxRecDepth 20000 in
theorem gL_law_X4_opens : GoodIn wsL_law (wsV RL 50 RX4 yX4_opens wsX4_opens) := goodIn_app (goodIn_of _ (by decide +kernel)) ggL_law_X4_opens
set_option maxRecDepth 20000 in
theorem ggL_law_X5_opens : GoodIn wsL_law wsX5_opens := goodIn_r _ [288, 144, 145, 146, 5, 147, 115, 116, 117, 118, 119, 120, 121, 122, 123, 124, 125, 113, 273, 274, 275, 276, 114, 68, 157, 81, 80, 69, 684, 685, 686, 687, 688, 689, 690, 691, 692, 693, 694, 695, 696, 697, 698, 699, 700, 701, 702, 703, 704, 705, 706, 707] (by decide +kernel) (by decide +kernel)
set_option maxRecDepth 20000 in
theorem gL_law_X5_opens : GoodIn wsL_law (wsV RL 53 RX5 yX5_opens wsX5_opens) := goodIn_app (goodIn_of _ (by decide +kernel)) ggL_law_X5_opens
set_option maxRecDepth 20000 in
theorem ggL_law_X4_never : GoodIn wsL_law wsX4_never := goodIn_r _ [292, 15, 86, 232, 233, 234, 14, 235, 236, 237, 238, 239, 137, 240, 241, 242, 243, 244, 37, 38, 245, 246, 247, 248, 138, 2, 139, 249, 250, 251, 252, 253, 35, 254, 255, 256, 34, 678, 679, 680, 681, 682, 683, 708, 709, 710, 711, 712, 713, 714, 715, 716, 717, 718, 719] (by decide +kernel) (by decide +kernel)
set_option maxRecDepth 20000 in
theorem gL_law_X4_never : GoodIn wsL_law (wsV RL 54 RX4 yX4_never wsX4_never) := goodIn_app (goodIn_of _ (by decide +kernel)) ggL_law_X4_never
set_option maxRecDepth 20000 in
theorem ggL_law_X5_never : GoodIn wsL_law wsX5_never := goodIn_r _ [296, 115, 277, 278, 279, 5, 280, 269, 270, 271, 272, 273, 274, 275, 276, 114, 68, 157, 81, 80, 69, 144, 145, 146, 147, 116, 117, 118, 119, 120, 121, 122, 684, 685, 686, 687, 688, 689, 690, 691, 692, 693, 694, 695, 696, 697, 698, 699, 700, 701, 702, 703, 704, 705, 706, 707] (by decide +kernel) (by decide +kernel)
set_option maxRecDepth 20000 in
theorem gL_law_X5_never : GoodIn wsL_law (wsV RL 57 RX5 yX5_never wsX5_never) := goodIn_app (goodIn_of _ (by decide +kernel)) ggL_law_X5_never
set_option maxRecDepth 20000 in
theorem ggL_law_X4_reign : GoodIn wsL_law wsX4_reign := goodIn_r _ [300, 21, 25, 15, 301, 197, 198, 199, 20, 200, 177, 201, 202, 203, 204, 49, 90, 2, 91, 205, 206, 207, 208, 209, 210, 211, 212, 213, 302, 303, 304, 305, 89, 306, 307, 308, 24, 309, 310, 311, 312, 313, 314, 54, 315, 316, 55, 317, 318, 319, 14, 320, 34, 35, 137, 240, 321, 253, 322, 37, 323, 324, 325, 326, 38, 39, 40, 41, 327, 43, 44, 45, 328, 329, 330, 331, 332, 333, 334, 335, 336, 337, 236, 237, 238, 239, 100, 101, 241, 242, 243, 244, 245, 246, 247, 248, 138, 139, 249, 250, 251, 252, 254, 255, 256, 338, 339, 340, 341, 342, 343, 344, 345, 346, 347, 348, 349, 350, 351, 352, 353, 354, 355, 356, 357, 358, 359, 360, 361, 678, 679, 680, 681, 682, 683, 722, 723, 724, 725, 720, 721, 708, 709, 710, 711, 712, 713, 714, 715, 716, 717, 718, 719] (by decide +kernel) (by decide +kernel)
set_option maxRecDepth 20000 in
theorem gL_law_X4_reign : GoodIn wsL_law (wsV RL 58 RX4 yX4_reign wsX4_reign) := goodIn_app (goodIn_of _ (by decide +kernel)) ggL_law_X4_reign
set_option maxRecDepth 20000 in
theorem ggL_law_X5_reign : GoodIn wsL_law wsX5_reign := goodIn_r _ [365, 366, 367, 368, 215, 216, 5, 217, 184, 74, 218, 219, 220, 221, 222, 223, 224, 120, 121, 122, 225, 226, 227, 369, 370, 371, 372, 75, 373, 114, 374, 375, 376, 377, 378, 379, 380, 381, 70, 382, 383, 384, 385, 144, 145, 146, 147, 115, 116, 117, 118, 119, 277, 278, 279, 280, 269, 270, 271, 272, 273, 274, 275, 276, 68, 157, 81, 80, 69, 386, 387, 388, 389, 684, 685, 686, 687, 688, 689, 690, 691, 692, 693, 694, 695, 696, 697, 698, 699, 700, 701, 702, 703, 704, 705, 706, 707] (by decide +kernel) (by decide +kernel)
set_option maxRecDepth 20000 in
theorem gL_law_X5_reign : GoodIn wsL_law (wsV RL 61 RX5 yX5_reign wsX5_reign) := goodIn_app (goodIn_of _ (by decide +kernel)) ggL_law_X5_reign
set_option maxRecDepth 20000 in
theorem ggL_law_X4_years : GoodIn wsL_law wsX4_years := goodIn_r _ [393, 21, 25, 15, 394, 197, 198, 199, 20, 200, 177, 201, 202, 203, 204, 49, 90, 2, 91, 205, 206, 207, 208, 209, 210, 211, 212, 213, 89, 302, 303, 304, 305, 306, 307, 308, 24, 309, 310, 311, 312, 313, 314, 54, 315, 316, 55, 317, 318, 319, 14, 320, 34, 35, 137, 240, 321, 253, 322, 37, 323, 324, 325, 326, 38, 39, 40, 41, 327, 43, 44, 45, 328, 329, 330, 331, 332, 333, 334, 335, 336, 337, 236, 237, 238, 239, 100, 101, 241, 242, 243, 244, 245, 246, 247, 248, 138, 139, 249, 250, 251, 252, 254, 255, 256, 338, 339, 340, 341, 342, 343, 344, 345, 346, 347, 348, 349, 350, 351, 352, 353, 354, 355, 356, 357, 358, 359, 360, 361, 395, 396, 397, 398, 678, 679, 680, 681, 682, 683, 722, 723, 724, 725, 720, 721, 708, 709, 710, 711, 712, 713, 714, 715, 716, 717, 718, 719] (by decide +kernel) (by decide +kernel)
set_option maxRecDepth 20000 in
theorem gL_law_X4_years : GoodIn wsL_law (wsV RL 62 RX4 yX4_years wsX4_years) := goodIn_app (goodIn_of _ (by decide +kernel)) ggL_law_X4_years
set_option maxRecDepth 20000 in
theorem ggL_law_X5_years : GoodIn wsL_law wsX5_years := goodIn_r _ [402, 113, 373, 75, 368, 215, 216, 5, 217, 184, 74, 218, 219, 220, 221, 222, 223, 224, 120, 121, 122, 225, 226, 227, 369, 370, 371, 372, 367, 114, 374, 375, 376, 377, 378, 379, 380, 381, 70, 382, 383, 384, 385, 144, 145, 146, 147, 115, 116, 117, 118, 119, 277, 278, 279, 280, 269, 270, 271, 272, 273, 274, 275, 276, 68, 157, 81, 80, 69, 386, 387, 388, 389, 684, 685, 686, 687, 688, 689, 690, 691, 692, 693, 694, 695, 696, 697, 698, 699, 700, 701, 702, 703, 704, 705, 706, 707] (by decide +kernel) (by decide +kernel)
set_option maxRecDepth 20000 in
theorem gL_law_X5_years : GoodIn wsL_law (wsV RL 65 RX5 yX5_years wsX5_years) := goodIn_app (goodIn_of _ (by decide +kernel)) ggL_law_X5_years
set_option maxRecDepth 20000 in
theorem ggL_law_X4_weight : GoodIn wsL_law wsX4_weight := goodIn_r _ [406, 15, 407, 92, 93, 2, 94, 89, 90, 91, 408, 409, 410, 14, 411, 39, 678, 679, 680, 681, 682, 683, 708, 709, 710, 711, 712, 713, 714, 715, 716, 717, 718, 719] (by decide +kernel) (by decide +kernel)
set_option maxRecDepth 20000 in
theorem gL_law_X4_weight : GoodIn wsL_law (wsV RL 66 RX4 yX4_weight wsX4_weight) := goodIn_app (goodIn_of _ (by decide +kernel)) ggL_law_X4_weight
