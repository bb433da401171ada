/-! THE LAW, 2: the words of its calls, by their places (printed rows) -/
set_option maxRecDepth 20000 in
theorem ggL_law_X4_init : GoodIn wsL_law wsX4_init := goodIn_r _ [8, 9, 10, 11, 12, 13, 14, 15, 16, 17, 18, 19, 20, 21, 22, 23, 24, 25, 26, 27, 28, 29, 30, 31, 32, 33, 34, 35, 36, 37, 38, 39, 40, 41, 42, 43, 44, 45, 46, 47, 48, 49, 50, 51, 52, 53, 54, 55, 56, 57, 58, 59, 60, 61, 62, 711, 712, 713, 714, 715, 716, 717, 718, 719, 720, 721, 722, 681, 682, 683, 684, 685, 686, 723, 724, 725, 726, 727, 728, 729, 730, 731, 732, 733, 734] (by decide +kernel) (by decide +kernel)
set_option maxRecDepth 20000 in
theorem gL_law_X4_init : GoodIn wsL_law (wsX4_init) := ggL_law_X4_init
set_option maxRecDepth 20000 in
theorem ggL_law_X5_init : GoodIn wsL_law wsX5_init := goodIn_r _ [65, 66, 10, 11, 36, 67, 68, 69, 70, 71, 72, 73, 74, 75, 76, 77, 78, 79, 80, 687, 688, 689, 690, 691, 692, 693, 694, 695, 696, 697, 698, 699, 700, 701, 702, 703, 704, 705, 706, 707, 708, 709, 710] (by decide +kernel) (by decide +kernel)
set_option maxRecDepth 20000 in
theorem gL_law_X5_init : GoodIn wsL_law (wsX5_init) := ggL_law_X5_init
set_option maxRecDepth 20000 in
theorem ggL_law_X4_stand : GoodIn wsL_law wsX4_stand := goodIn_r _ [84, 15, 85, 86, 87, 88, 89, 2, 90, 91, 92, 93, 94, 95, 96, 14, 97, 37, 38, 98, 99, 100, 101, 102, 103, 104, 105, 106, 107, 681, 682, 683, 684, 685, 686, 711, 712, 713, 714, 715, 716, 717, 718, 719, 720, 721, 722] (by decide +kernel) (by decide +kernel)
set_option maxRecDepth 20000 in
theorem gL_law_X4_stand : GoodIn wsL_law (wsV RL 13 RX4 yX4_stand wsX4_stand) := goodIn_app (goodIn_of _ (by decide +kernel)) ggL_law_X4_stand
set_option maxRecDepth 20000 in
theorem ggL_law_X5_stand : GoodIn wsL_law wsX5_stand := goodIn_r _ [111, 112, 67, 68, 69, 113, 114, 115, 116, 5, 117, 118, 119, 120, 121, 122, 123, 124, 125, 126, 127, 687, 688, 689, 690, 691, 692, 693, 694, 695, 696, 697, 698, 699, 700, 701, 702, 703, 704, 705, 706, 707, 708, 709, 710] (by decide +kernel) (by decide +kernel)
set_option maxRecDepth 20000 in
theorem gL_law_X5_stand : GoodIn wsL_law (wsV RL 17 RX5 yX5_stand wsX5_stand) := goodIn_app (goodIn_of _ (by decide +kernel)) ggL_law_X5_stand
set_option maxRecDepth 20000 in
theorem ggL_law_X4_leave : GoodIn wsL_law wsX4_leave := goodIn_r _ [131, 15, 85, 132, 133, 134, 14, 135, 136, 89, 2, 90, 137, 138, 98, 99, 100, 101, 102, 103, 104, 105, 106, 107, 681, 682, 683, 684, 685, 686, 711, 712, 713, 714, 715, 716, 717, 718, 719, 720, 721, 722] (by decide +kernel) (by decide +kernel)
set_option maxRecDepth 20000 in
theorem gL_law_X4_leave : GoodIn wsL_law (wsV RL 18 RX4 yX4_leave wsX4_leave) := goodIn_app (goodIn_of _ (by decide +kernel)) ggL_law_X4_leave
set_option maxRecDepth 20000 in
theorem ggL_law_X5_leave : GoodIn wsL_law wsX5_leave := goodIn_r _ [142, 114, 143, 144, 145, 5, 146, 115, 116, 117, 118, 119, 120, 121, 125, 126, 127, 687, 688, 689, 690, 691, 692, 693, 694, 695, 696, 697, 698, 699, 700, 701, 702, 703, 704, 705, 706, 707, 708, 709, 710] (by decide +kernel) (by decide +kernel)
set_option maxRecDepth 20000 in
theorem gL_law_X5_leave : GoodIn wsL_law (wsV RL 22 RX5 yX5_leave wsX5_leave) := goodIn_app (goodIn_of _ (by decide +kernel)) ggL_law_X5_leave
set_option maxRecDepth 20000 in
theorem ggL_law_X4_table : GoodIn wsL_law wsX4_table := goodIn_r _ [150, 15, 151, 91, 92, 2, 93, 88, 89, 90, 98, 99, 100, 681, 682, 683, 684, 685, 686, 711, 712, 713, 714, 715, 716, 717, 718, 719, 720, 721, 722] (by decide +kernel) (by decide +kernel)
set_option maxRecDepth 20000 in
theorem gL_law_X4_table : GoodIn wsL_law (wsV RL 23 RX4 yX4_table wsX4_table) := goodIn_app (goodIn_of _ (by decide +kernel)) ggL_law_X4_table
set_option maxRecDepth 20000 in
theorem ggL_law_X5_table : GoodIn wsL_law wsX5_table := goodIn_r _ [155, 156, 122, 123, 5, 124, 112, 119, 120, 121, 687, 688, 689, 690, 691, 692, 693, 694, 695, 696, 697, 698, 699, 700, 701, 702, 703, 704, 705, 706, 707, 708, 709, 710] (by decide +kernel) (by decide +kernel)
set_option maxRecDepth 20000 in
theorem gL_law_X5_table : GoodIn wsL_law (wsV RL 27 RX5 yX5_table wsX5_table) := goodIn_app (goodIn_of _ (by decide +kernel)) ggL_law_X5_table
set_option maxRecDepth 20000 in
theorem ggL_law_X4_set : GoodIn wsL_law wsX4_set := goodIn_r _ [160, 15, 161, 162, 88, 89, 2, 90, 681, 682, 683, 684, 685, 686, 711, 712, 713, 714, 715, 716, 717, 718, 719, 720, 721, 722] (by decide +kernel) (by decide +kernel)
set_option maxRecDepth 20000 in
theorem gL_law_X4_set : GoodIn wsL_law (wsV RL 28 RX4 yX4_set wsX4_set) := goodIn_app (goodIn_of _ (by decide +kernel)) ggL_law_X4_set
set_option maxRecDepth 20000 in
theorem ggL_law_X5_set : GoodIn wsL_law wsX5_set := goodIn_r _ [166, 112, 79, 80, 119, 120, 5, 121, 687, 688, 689, 690, 691, 692, 693, 694, 695, 696, 697, 698, 699, 700, 701, 702, 703, 704, 705, 706, 707, 708, 709, 710] (by decide +kernel) (by decide +kernel)
set_option maxRecDepth 20000 in
theorem gL_law_X5_set : GoodIn wsL_law (wsV RL 32 RX5 yX5_set wsX5_set) := goodIn_app (goodIn_of _ (by decide +kernel)) ggL_law_X5_set
set_option maxRecDepth 20000 in
theorem ggL_law_X4_say : GoodIn wsL_law wsX4_say := goodIn_r _ [170, 21, 171, 88, 89, 2, 90, 172, 173, 174, 20, 175, 176, 49, 681, 682, 683, 684, 685, 686, 723, 724] (by decide +kernel) (by decide +kernel)
set_option maxRecDepth 20000 in
theorem gL_law_X4_say : GoodIn wsL_law (wsV RL 33 RX4 yX4_say wsX4_say) := goodIn_app (goodIn_of _ (by decide +kernel)) ggL_law_X4_say
set_option maxRecDepth 20000 in
theorem ggL_law_X5_say : GoodIn wsL_law wsX5_say := goodIn_r _ [180, 181, 182, 183, 73, 119, 120, 5, 121, 687, 688, 689, 690, 691, 692, 693, 694, 695, 696, 697, 698, 699, 700, 701, 702, 703, 704, 705, 706, 707, 708, 709, 710] (by decide +kernel) (by decide +kernel)
set_option maxRecDepth 20000 in
theorem gL_law_X5_say : GoodIn wsL_law (wsV RL 36 RX5 yX5_say wsX5_say) := goodIn_app (goodIn_of _ (by decide +kernel)) ggL_law_X5_say
set_option maxRecDepth 20000 in
theorem ggL_law_X4_wipe : GoodIn wsL_law wsX4_wipe := goodIn_r _ [187, 21, 171, 681, 682, 683, 684, 685, 686, 723, 724] (by decide +kernel) (by decide +kernel)
set_option maxRecDepth 20000 in
theorem gL_law_X4_wipe : GoodIn wsL_law (wsV RL 37 RX4 yX4_wipe wsX4_wipe) := goodIn_app (goodIn_of _ (by decide +kernel)) ggL_law_X4_wipe
set_option maxRecDepth 20000 in
theorem ggL_law_X5_wipe : GoodIn wsL_law wsX5_wipe := goodIn_r _ [191, 183, 687, 688, 689, 690, 691, 692, 693, 694, 695, 696, 697, 698, 699, 700, 701, 702, 703, 704, 705, 706, 707, 708, 709, 710] (by decide +kernel) (by decide +kernel)
set_option maxRecDepth 20000 in
theorem gL_law_X5_wipe : GoodIn wsL_law (wsV RL 41 RX5 yX5_wipe wsX5_wipe) := goodIn_app (goodIn_of _ (by decide +kernel)) ggL_law_X5_wipe
set_option maxRecDepth 20000 in
theorem ggL_law_X4_fault : GoodIn wsL_law wsX4_fault := goodIn_r _ [195, 21, 196, 197, 198, 20, 199, 176, 200, 201, 202, 203, 49, 89, 2, 90, 204, 205, 206, 207, 208, 209, 210, 211, 212, 681, 682, 683, 684, 685, 686, 723, 724] (by decide +kernel) (by decide +kernel)
set_option maxRecDepth 20000 in
theorem gL_law_X4_fault : GoodIn wsL_law (wsV RL 42 RX4 yX4_fault wsX4_fault) := goodIn_app (goodIn_of _ (by decide +kernel)) ggL_law_X4_fault
set_option maxRecDepth 20000 in
theorem ggL_law_X5_fault : GoodIn wsL_law wsX5_fault := goodIn_r _ [216, 183, 73, 217, 218, 5, 219, 220, 221, 222, 223, 119, 120, 121, 224, 225, 226, 687, 688, 689, 690, 691, 692, 693, 694, 695, 696, 697, 698, 699, 700, 701, 702, 703, 704, 705, 706, 707, 708, 709, 710] (by decide +kernel) (by decide +kernel)
set_option maxRecDepth 20000 in
theorem gL_law_X5_fault : GoodIn wsL_law (wsV RL 45 RX5 yX5_fault wsX5_fault) := goodIn_app (goodIn_of _ (by decide +kernel)) ggL_law_X5_fault
set_option maxRecDepth 20000 in
theorem ggL_law_X4_rules : GoodIn wsL_law wsX4_rules := goodIn_r _ [230, 15, 91, 92, 2, 93, 88, 89, 90, 231, 232, 233, 14, 234, 235, 236, 237, 238, 136, 239, 240, 241, 242, 243, 37, 38, 244, 245, 246, 247, 137, 138, 248, 249, 250, 251, 252, 35, 253, 254, 255, 34, 256, 257, 258, 259, 260, 261, 262, 263, 681, 682, 683, 684, 685, 686, 711, 712, 713, 714, 715, 716, 717, 718, 719, 720, 721, 722] (by decide +kernel) (by decide +kernel)
set_option maxRecDepth 20000 in
theorem gL_law_X4_rules : GoodIn wsL_law (wsV RL 46 RX4 yX4_rules wsX4_rules) := goodIn_app (goodIn_of _ (by decide +kernel)) ggL_law_X4_rules
set_option maxRecDepth 20000 in
theorem ggL_law_X5_rules : GoodIn wsL_law wsX5_rules := goodIn_r _ [267, 122, 123, 5, 124, 112, 119, 120, 121, 268, 269, 270, 271, 272, 273, 274, 275, 113, 67, 156, 80, 79, 68, 143, 144, 145, 146, 114, 115, 116, 117, 118, 276, 277, 278, 279, 687, 688, 689, 690, 691, 692, 693, 694, 695, 696, 697, 698, 699, 700, 701, 702, 703, 704, 705, 706, 707, 708, 709, 710] (by decide +kernel) (by decide +kernel)
set_option maxRecDepth 20000 in
theorem gL_law_X5_rules : GoodIn wsL_law (wsV RL 49 RX5 yX5_rules wsX5_rules) := goodIn_app (goodIn_of _ (by decide +kernel)) ggL_law_X5_rules
set_option maxRecDepth 20000 in
theorem ggL_law_X4_opens : GoodIn wsL_law wsX4_opens := goodIn_r _ [283, 15, 87, 132, 133, 134, 14, 135, 136, 89, 2, 90, 137, 138, 91, 92, 93, 88, 259, 260, 261, 262, 263, 37, 38, 248, 249, 250, 251, 252, 35, 253, 254, 246, 255, 34, 681, 682, 683, 684, 685, 686, 711, 712, 713, 714, 715, 716, 717, 718, 719, 720, 721, 722] (by decide +kernel) (by decide +kernel)
set_option maxRecDepth 20000 in
theorem gL_law_X4_opens : GoodIn wsL_law (wsV RL 50 RX4 yX4_opens wsX4_opens) := goodIn_app (goodIn_of _ (by decide +kernel)) ggL_law_X4_opens
set_option maxRecDepth 20000 in
theorem ggL_law_X5_opens : GoodIn wsL_law wsX5_opens := goodIn_r _ [287, 143, 144, 145, 5, 146, 114, 115, 116, 117, 118, 119, 120, 121, 122, 123, 124, 112, 272, 273, 274, 275, 113, 67, 156, 80, 79, 68, 687, 688, 689, 690, 691, 692, 693, 694, 695, 696, 697, 698, 699, 700, 701, 702, 703, 704, 705, 706, 707, 708, 709, 710] (by decide +kernel) (by decide +kernel)
set_option maxRecDepth 20000 in
theorem gL_law_X5_opens : GoodIn wsL_law (wsV RL 53 RX5 yX5_opens wsX5_opens) := goodIn_app (goodIn_of _ (by decide +kernel)) ggL_law_X5_opens
set_option maxRecDepth 20000 in
theorem ggL_law_X4_never : GoodIn wsL_law wsX4_never := goodIn_r _ [291, 15, 85, 231, 232, 233, 14, 234, 235, 236, 237, 238, 136, 239, 240, 241, 242, 243, 37, 38, 244, 245, 246, 247, 137, 2, 138, 248, 249, 250, 251, 252, 35, 253, 254, 255, 34, 681, 682, 683, 684, 685, 686, 711, 712, 713, 714, 715, 716, 717, 718, 719, 720, 721, 722] (by decide +kernel) (by decide +kernel)
set_option maxRecDepth 20000 in
theorem gL_law_X4_never : GoodIn wsL_law (wsV RL 54 RX4 yX4_never wsX4_never) := goodIn_app (goodIn_of _ (by decide +kernel)) ggL_law_X4_never
set_option maxRecDepth 20000 in
theorem ggL_law_X5_never : GoodIn wsL_law wsX5_never := goodIn_r _ [295, 114, 276, 277, 278, 5, 279, 268, 269, 270, 271, 272, 273, 274, 275, 113, 67, 156, 80, 79, 68, 143, 144, 145, 146, 115, 116, 117, 118, 119, 120, 121, 687, 688, 689, 690, 691, 692, 693, 694, 695, 696, 697, 698, 699, 700, 701, 702, 703, 704, 705, 706, 707, 708, 709, 710] (by decide +kernel) (by decide +kernel)
set_option maxRecDepth 20000 in
theorem gL_law_X5_never : GoodIn wsL_law (wsV RL 57 RX5 yX5_never wsX5_never) := goodIn_app (goodIn_of _ (by decide +kernel)) ggL_law_X5_never
set_option maxRecDepth 20000 in
theorem ggL_law_X4_reign : GoodIn wsL_law wsX4_reign := goodIn_r _ [299, 21, 25, 300, 196, 197, 198, 20, 199, 176, 200, 201, 202, 203, 49, 89, 2, 90, 204, 205, 206, 207, 208, 209, 210, 211, 212, 301, 302, 303, 304, 88, 305, 306, 307, 24, 308, 309, 310, 311, 312, 313, 314, 315, 316, 54, 317, 43, 44, 45, 318, 319, 320, 321, 322, 323, 55, 324, 325, 326, 327, 328, 236, 237, 14, 238, 136, 239, 329, 330, 331, 332, 37, 99, 100, 240, 241, 242, 243, 38, 244, 245, 246, 247, 137, 138, 248, 249, 250, 251, 252, 35, 253, 254, 255, 34, 333, 334, 335, 336, 337, 338, 339, 340, 341, 342, 343, 344, 345, 346, 347, 348, 349, 350, 351, 352, 353, 354, 681, 682, 683, 684, 685, 686, 725, 726, 727, 728, 729, 723, 724, 711, 712, 713, 714, 715, 716, 717, 718, 719, 720, 721, 722] (by decide +kernel) (by decide +kernel)
set_option maxRecDepth 20000 in
theorem gL_law_X4_reign : GoodIn wsL_law (wsV RL 58 RX4 yX4_reign wsX4_reign) := goodIn_app (goodIn_of _ (by decide +kernel)) ggL_law_X4_reign
set_option maxRecDepth 20000 in
theorem ggL_law_X5_reign : GoodIn wsL_law wsX5_reign := goodIn_r _ [358, 359, 360, 361, 214, 215, 5, 216, 183, 73, 217, 218, 219, 220, 221, 222, 223, 119, 120, 121, 224, 225, 226, 362, 363, 364, 365, 74, 366, 113, 367, 368, 369, 370, 371, 372, 373, 374, 69, 375, 376, 377, 378, 143, 144, 145, 146, 114, 115, 116, 117, 118, 276, 277, 278, 279, 268, 269, 270, 271, 272, 273, 274, 275, 67, 156, 80, 79, 68, 379, 380, 381, 382, 687, 688, 689, 690, 691, 692, 693, 694, 695, 696, 697, 698, 699, 700, 701, 702, 703, 704, 705, 706, 707, 708, 709, 710] (by decide +kernel) (by decide +kernel)
set_option maxRecDepth 20000 in
theorem gL_law_X5_reign : GoodIn wsL_law (wsV RL 61 RX5 yX5_reign wsX5_reign) := goodIn_app (goodIn_of _ (by decide +kernel)) ggL_law_X5_reign
set_option maxRecDepth 20000 in
theorem ggL_law_X4_years : GoodIn wsL_law wsX4_years := goodIn_r _ [386, 21, 25, 387, 196, 197, 198, 20, 199, 176, 200, 201, 202, 203, 49, 89, 2, 90, 204, 205, 206, 207, 208, 209, 210, 211, 212, 88, 301, 302, 303, 304, 305, 306, 307, 24, 308, 309, 310, 311, 312, 313, 314, 315, 316, 54, 317, 43, 44, 45, 318, 319, 320, 321, 322, 323, 55, 324, 325, 326, 327, 328, 236, 237, 14, 238, 136, 239, 329, 330, 331, 332, 37, 99, 100, 240, 241, 242, 243, 38, 244, 245, 246, 247, 137, 138, 248, 249, 250, 251, 252, 35, 253, 254, 255, 34, 333, 334, 335, 336, 337, 338, 339, 340, 341, 342, 343, 344, 345, 346, 347, 348, 349, 350, 351, 352, 353, 354, 388, 389, 390, 391, 681, 682, 683, 684, 685, 686, 725, 726, 727, 728, 729, 723, 724, 711, 712, 713, 714, 715, 716, 717, 718, 719, 720, 721, 722] (by decide +kernel) (by decide +kernel)
set_option maxRecDepth 20000 in
theorem gL_law_X4_years : GoodIn wsL_law (wsV RL 62 RX4 yX4_years wsX4_years) := goodIn_app (goodIn_of _ (by decide +kernel)) ggL_law_X4_years
set_option maxRecDepth 20000 in
theorem ggL_law_X5_years : GoodIn wsL_law wsX5_years := goodIn_r _ [395, 112, 366, 74, 361, 214, 215, 5, 216, 183, 73, 217, 218, 219, 220, 221, 222, 223, 119, 120, 121, 224, 225, 226, 362, 363, 364, 365, 360, 113, 367, 368, 369, 370, 371, 372, 373, 374, 69, 375, 376, 377, 378, 143, 144, 145, 146, 114, 115, 116, 117, 118, 276, 277, 278, 279, 268, 269, 270, 271, 272, 273, 274, 275, 67, 156, 80, 79, 68, 379, 380, 381, 382, 687, 688, 689, 690, 691, 692, 693, 694, 695, 696, 697, 698, 699, 700, 701, 702, 703, 704, 705, 706, 707, 708, 709, 710] (by decide +kernel) (by decide +kernel)
set_option maxRecDepth 20000 in
theorem gL_law_X5_years : GoodIn wsL_law (wsV RL 65 RX5 yX5_years wsX5_years) := goodIn_app (goodIn_of _ (by decide +kernel)) ggL_law_X5_years
set_option maxRecDepth 20000 in
theorem ggL_law_X4_weight : GoodIn wsL_law wsX4_weight := goodIn_r _ [399, 15, 400, 91, 92, 2, 93, 88, 89, 90, 401, 402, 403, 14, 404, 39, 681, 682, 683, 684, 685, 686, 711, 712, 713, 714, 715, 716, 717, 718, 719, 720, 721, 722] (by decide +kernel) (by decide +kernel)
set_option maxRecDepth 20000 in
theorem gL_law_X4_weight : GoodIn wsL_law (wsV RL 66 RX4 yX4_weight wsX4_weight) := goodIn_app (goodIn_of _ (by decide +kernel)) ggL_law_X4_weight
