/-! THE LAW, 3: the words of its calls, by their places (printed rows) -/
set_option maxRecDepth 20000 in
theorem ggL_law_X5_weight : GoodIn wsL_law wsX5_weight := goodIn_r _ [408, 112, 70, 122, 123, 5, 124, 119, 120, 121, 409, 410, 411, 412, 687, 688, 689, 690, 691, 692, 693, 694, 695, 696, 697, 698, 699, 700, 701, 702, 703, 704, 705, 706, 707, 708, 709, 710] (by decide +kernel) (by decide +kernel)
set_option maxRecDepth 20000 in
theorem gL_law_X5_weight : GoodIn wsL_law (wsV RL 69 RX5 yX5_weight wsX5_weight) := goodIn_app (goodIn_of _ (by decide +kernel)) ggL_law_X5_weight
set_option maxRecDepth 20000 in
theorem ggL_law_X4_chance : GoodIn wsL_law wsX4_chance := goodIn_r _ [416, 15, 417, 418, 86, 132, 133, 134, 14, 135, 136, 89, 2, 90, 137, 138, 88, 419, 420, 421, 422, 39, 235, 236, 237, 238, 239, 240, 241, 242, 243, 37, 38, 244, 245, 246, 247, 248, 249, 250, 251, 252, 35, 253, 254, 255, 34, 423, 102, 103, 104, 105, 106, 107, 424, 425, 426, 427, 428, 402, 403, 404, 429, 430, 431, 432, 433, 434, 681, 682, 683, 684, 685, 686, 711, 712, 713, 714, 715, 716, 717, 718, 719, 720, 721, 722] (by decide +kernel) (by decide +kernel)
set_option maxRecDepth 20000 in
theorem gL_law_X4_chance : GoodIn wsL_law (wsV RL 70 RX4 yX4_chance wsX4_chance) := goodIn_app (goodIn_of _ (by decide +kernel)) ggL_law_X4_chance
set_option maxRecDepth 20000 in
theorem ggL_law_X5_chance : GoodIn wsL_law wsX5_chance := goodIn_r _ [438, 439, 440, 441, 442, 143, 144, 145, 5, 146, 114, 115, 116, 117, 118, 119, 120, 121, 443, 444, 445, 446, 69, 70, 276, 277, 278, 279, 268, 269, 270, 271, 272, 273, 274, 275, 113, 67, 156, 80, 79, 68, 125, 126, 127, 409, 410, 411, 412, 447, 448, 449, 687, 688, 689, 690, 691, 692, 693, 694, 695, 696, 697, 698, 699, 700, 701, 702, 703, 704, 705, 706, 707, 708, 709, 710] (by decide +kernel) (by decide +kernel)
set_option maxRecDepth 20000 in
theorem gL_law_X5_chance : GoodIn wsL_law (wsV RL 74 RX5 yX5_chance wsX5_chance) := goodIn_app (goodIn_of _ (by decide +kernel)) ggL_law_X5_chance
set_option maxRecDepth 20000 in
theorem ggL_law_X4_best : GoodIn wsL_law wsX4_best := goodIn_r _ [453, 15, 132, 133, 134, 14, 135, 136, 89, 2, 90, 137, 138, 454, 455, 456, 457, 458, 459, 460, 461, 462, 16, 463, 464, 465, 466, 34, 35, 239, 467, 252, 468, 37, 469, 470, 471, 472, 38, 39, 40, 41, 94, 95, 96, 97, 419, 420, 421, 422, 235, 236, 237, 238, 240, 241, 242, 243, 244, 245, 246, 247, 248, 249, 250, 251, 253, 254, 255, 423, 102, 103, 104, 105, 106, 107, 681, 682, 683, 684, 685, 686, 711, 712, 713, 714, 715, 716, 717, 718, 719, 720, 721, 722] (by decide +kernel) (by decide +kernel)
set_option maxRecDepth 20000 in
theorem gL_law_X4_best : GoodIn wsL_law (wsV RL 75 RX4 yX4_best wsX4_best) := goodIn_app (goodIn_of _ (by decide +kernel)) ggL_law_X4_best
set_option maxRecDepth 20000 in
theorem ggL_law_X5_best : GoodIn wsL_law wsX5_best := goodIn_r _ [476, 477, 143, 144, 145, 5, 146, 114, 115, 116, 117, 118, 119, 120, 121, 478, 479, 480, 481, 67, 482, 443, 444, 445, 446, 69, 70, 276, 277, 278, 279, 268, 269, 270, 271, 272, 273, 274, 275, 113, 156, 80, 79, 68, 125, 126, 127, 687, 688, 689, 690, 691, 692, 693, 694, 695, 696, 697, 698, 699, 700, 701, 702, 703, 704, 705, 706, 707, 708, 709, 710] (by decide +kernel) (by decide +kernel)
set_option maxRecDepth 20000 in
theorem gL_law_X5_best : GoodIn wsL_law (wsV RL 78 RX5 yX5_best wsX5_best) := goodIn_app (goodIn_of _ (by decide +kernel)) ggL_law_X5_best
set_option maxRecDepth 20000 in
theorem ggL_law_X4_bestChance : GoodIn wsL_law wsX4_bestChance := goodIn_r _ [486, 15, 417, 418, 458, 132, 133, 134, 14, 135, 136, 89, 2, 90, 137, 138, 88, 454, 455, 456, 457, 459, 460, 461, 462, 16, 463, 464, 465, 466, 34, 35, 239, 467, 252, 468, 37, 469, 470, 471, 472, 38, 39, 40, 41, 94, 95, 96, 97, 419, 420, 421, 422, 235, 236, 237, 238, 240, 241, 242, 243, 244, 245, 246, 247, 248, 249, 250, 251, 253, 254, 255, 423, 102, 103, 104, 105, 106, 107, 424, 425, 426, 427, 428, 402, 403, 404, 429, 430, 431, 432, 433, 434, 681, 682, 683, 684, 685, 686, 711, 712, 713, 714, 715, 716, 717, 718, 719, 720, 721, 722] (by decide +kernel) (by decide +kernel)
set_option maxRecDepth 20000 in
theorem gL_law_X4_bestChance : GoodIn wsL_law (wsV RL 79 RX4 yX4_bestChance wsX4_bestChance) := goodIn_app (goodIn_of _ (by decide +kernel)) ggL_law_X4_bestChance
set_option maxRecDepth 20000 in
theorem ggL_law_X5_bestChance : GoodIn wsL_law wsX5_bestChance := goodIn_r _ [490, 441, 442, 482, 143, 144, 145, 5, 146, 114, 115, 116, 117, 118, 119, 120, 121, 478, 479, 480, 481, 67, 477, 443, 444, 445, 446, 69, 70, 276, 277, 278, 279, 268, 269, 270, 271, 272, 273, 274, 275, 113, 156, 80, 79, 68, 125, 126, 127, 409, 410, 411, 412, 447, 448, 449, 687, 688, 689, 690, 691, 692, 693, 694, 695, 696, 697, 698, 699, 700, 701, 702, 703, 704, 705, 706, 707, 708, 709, 710] (by decide +kernel) (by decide +kernel)
set_option maxRecDepth 20000 in
theorem gL_law_X5_bestChance : GoodIn wsL_law (wsV RL 82 RX5 yX5_bestChance wsX5_bestChance) := goodIn_app (goodIn_of _ (by decide +kernel)) ggL_law_X5_bestChance
set_option maxRecDepth 20000 in
theorem ggL_law_X4_rests : GoodIn wsL_law wsX4_rests := goodIn_r _ [494, 15, 85, 29, 101, 102, 103, 104, 105, 106, 107, 495, 496, 497, 28, 498, 499, 59, 500, 470, 471, 472, 62, 501, 502, 43, 44, 45, 503, 504, 505, 506, 60, 507, 508, 509, 133, 134, 14, 135, 136, 89, 2, 90, 137, 138, 510, 511, 512, 513, 514, 515, 516, 517, 249, 250, 251, 252, 35, 253, 254, 246, 255, 34, 518, 519, 520, 521, 522, 245, 247, 523, 524, 525, 526, 61, 527, 528, 529, 530, 531, 532, 533, 534, 535, 536, 537, 538, 539, 540, 541, 681, 682, 683, 684, 685, 686, 711, 712, 713, 714, 715, 716, 717, 718, 719, 720, 721, 722, 730, 731, 732, 733, 734] (by decide +kernel) (by decide +kernel)
set_option maxRecDepth 20000 in
theorem gL_law_X4_rests : GoodIn wsL_law (wsV RL 83 RX4 yX4_rests wsX4_rests) := goodIn_app (goodIn_of _ (by decide +kernel)) ggL_law_X4_rests
set_option maxRecDepth 20000 in
theorem ggL_law_X5_rests : GoodIn wsL_law wsX5_rests := goodIn_r _ [545, 114, 125, 126, 5, 127, 546, 547, 548, 549, 75, 67, 550, 551, 552, 553, 143, 144, 145, 146, 115, 116, 117, 118, 119, 120, 121, 554, 555, 556, 557, 482, 443, 444, 445, 446, 69, 70, 276, 277, 278, 279, 268, 269, 270, 271, 272, 273, 274, 275, 113, 156, 80, 79, 68, 478, 479, 480, 481, 477, 558, 559, 560, 561, 687, 688, 689, 690, 691, 692, 693, 694, 695, 696, 697, 698, 699, 700, 701, 702, 703, 704, 705, 706, 707, 708, 709, 710] (by decide +kernel) (by decide +kernel)
set_option maxRecDepth 20000 in
theorem gL_law_X5_rests : GoodIn wsL_law (wsV RL 86 RX5 yX5_rests wsX5_rests) := goodIn_app (goodIn_of _ (by decide +kernel)) ggL_law_X5_rests
set_option maxRecDepth 20000 in
theorem ggL_law_X4_coup : GoodIn wsL_law wsX4_coup := goodIn_r _ [565, 15, 566, 132, 133, 134, 14, 135, 136, 89, 2, 90, 137, 138, 567, 236, 237, 238, 239, 568, 330, 331, 332, 37, 99, 100, 240, 241, 242, 243, 38, 244, 245, 246, 247, 248, 249, 250, 251, 252, 35, 253, 254, 255, 34, 681, 682, 683, 684, 685, 686, 711, 712, 713, 714, 715, 716, 717, 718, 719, 720, 721, 722] (by decide +kernel) (by decide +kernel)
set_option maxRecDepth 20000 in
theorem gL_law_X4_coup : GoodIn wsL_law (wsV RL 87 RX4 yX4_coup wsX4_coup) := goodIn_app (goodIn_of _ (by decide +kernel)) ggL_law_X4_coup
set_option maxRecDepth 20000 in
theorem ggL_law_X5_coup : GoodIn wsL_law wsX5_coup := goodIn_r _ [572, 143, 144, 145, 5, 146, 114, 115, 116, 117, 118, 119, 120, 121, 379, 380, 381, 382, 67, 272, 273, 274, 275, 113, 156, 80, 79, 68, 687, 688, 689, 690, 691, 692, 693, 694, 695, 696, 697, 698, 699, 700, 701, 702, 703, 704, 705, 706, 707, 708, 709, 710] (by decide +kernel) (by decide +kernel)
set_option maxRecDepth 20000 in
theorem gL_law_X5_coup : GoodIn wsL_law (wsV RL 90 RX5 yX5_coup wsX5_coup) := goodIn_app (goodIn_of _ (by decide +kernel)) ggL_law_X5_coup
set_option maxRecDepth 20000 in
theorem ggL_law_X4_quick : GoodIn wsL_law wsX4_quick := goodIn_r _ [576, 15, 566, 132, 133, 134, 14, 135, 136, 89, 2, 90, 137, 138, 88, 424, 425, 426, 427, 428, 402, 403, 404, 39, 459, 460, 461, 462, 16, 463, 464, 465, 466, 34, 35, 239, 467, 252, 468, 37, 469, 470, 471, 472, 38, 40, 41, 94, 95, 96, 97, 419, 420, 421, 422, 235, 236, 237, 238, 240, 241, 242, 243, 244, 245, 246, 247, 248, 249, 250, 251, 253, 254, 255, 423, 102, 103, 104, 105, 106, 107, 681, 682, 683, 684, 685, 686, 711, 712, 713, 714, 715, 716, 717, 718, 719, 720, 721, 722] (by decide +kernel) (by decide +kernel)
set_option maxRecDepth 20000 in
theorem gL_law_X4_quick : GoodIn wsL_law (wsV RL 91 RX4 yX4_quick wsX4_quick) := goodIn_app (goodIn_of _ (by decide +kernel)) ggL_law_X4_quick
set_option maxRecDepth 20000 in
theorem ggL_law_X5_quick : GoodIn wsL_law wsX5_quick := goodIn_r _ [580, 581, 68, 143, 144, 145, 5, 146, 114, 115, 116, 117, 118, 119, 120, 121, 443, 444, 445, 446, 69, 70, 276, 277, 278, 279, 268, 269, 270, 271, 272, 273, 274, 275, 113, 67, 156, 80, 79, 125, 126, 127, 409, 410, 411, 412, 687, 688, 689, 690, 691, 692, 693, 694, 695, 696, 697, 698, 699, 700, 701, 702, 703, 704, 705, 706, 707, 708, 709, 710] (by decide +kernel) (by decide +kernel)
set_option maxRecDepth 20000 in
theorem gL_law_X5_quick : GoodIn wsL_law (wsV RL 95 RX5 yX5_quick wsX5_quick) := goodIn_app (goodIn_of _ (by decide +kernel)) ggL_law_X5_quick
set_option maxRecDepth 20000 in
theorem ggL_law_X4_seen : GoodIn wsL_law wsX4_seen := goodIn_r _ [585, 15, 586, 88, 89, 2, 90, 587, 588, 589, 14, 590, 468, 40, 41, 681, 682, 683, 684, 685, 686, 711, 712, 713, 714, 715, 716, 717, 718, 719, 720, 721, 722] (by decide +kernel) (by decide +kernel)
set_option maxRecDepth 20000 in
theorem gL_law_X4_seen : GoodIn wsL_law (wsV RL 96 RX4 yX4_seen wsX4_seen) := goodIn_app (goodIn_of _ (by decide +kernel)) ggL_law_X4_seen
set_option maxRecDepth 20000 in
theorem ggL_law_X5_seen : GoodIn wsL_law wsX5_seen := goodIn_r _ [594, 595, 596, 597, 71, 72, 119, 120, 5, 121, 115, 116, 117, 118, 687, 688, 689, 690, 691, 692, 693, 694, 695, 696, 697, 698, 699, 700, 701, 702, 703, 704, 705, 706, 707, 708, 709, 710] (by decide +kernel) (by decide +kernel)
set_option maxRecDepth 20000 in
theorem gL_law_X5_seen : GoodIn wsL_law (wsV RL 99 RX5 yX5_seen wsX5_seen) := goodIn_app (goodIn_of _ (by decide +kernel)) ggL_law_X5_seen
set_option maxRecDepth 20000 in
theorem ggL_law_X4_forget : GoodIn wsL_law wsX4_forget := goodIn_r _ [601, 15, 586, 681, 682, 683, 684, 685, 686, 711, 712, 713, 714, 715, 716, 717, 718, 719, 720, 721, 722] (by decide +kernel) (by decide +kernel)
set_option maxRecDepth 20000 in
theorem gL_law_X4_forget : GoodIn wsL_law (wsV RL 100 RX4 yX4_forget wsX4_forget) := goodIn_app (goodIn_of _ (by decide +kernel)) ggL_law_X4_forget
set_option maxRecDepth 20000 in
theorem ggL_law_X5_forget : GoodIn wsL_law wsX5_forget := goodIn_r _ [605, 597, 687, 688, 689, 690, 691, 692, 693, 694, 695, 696, 697, 698, 699, 700, 701, 702, 703, 704, 705, 706, 707, 708, 709, 710] (by decide +kernel) (by decide +kernel)
set_option maxRecDepth 20000 in
theorem gL_law_X5_forget : GoodIn wsL_law (wsV RL 103 RX5 yX5_forget wsX5_forget) := goodIn_app (goodIn_of _ (by decide +kernel)) ggL_law_X5_forget
set_option maxRecDepth 20000 in
theorem ggL_law_X4_fits : GoodIn wsL_law wsX4_fits := goodIn_r _ [609, 15, 231, 232, 233, 14, 234, 235, 236, 237, 238, 136, 239, 240, 241, 242, 243, 37, 38, 244, 245, 246, 247, 137, 2, 138, 248, 249, 250, 251, 252, 35, 253, 254, 255, 34, 610, 611, 612, 613, 468, 41, 40, 98, 99, 100, 681, 682, 683, 684, 685, 686, 711, 712, 713, 714, 715, 716, 717, 718, 719, 720, 721, 722] (by decide +kernel) (by decide +kernel)
set_option maxRecDepth 20000 in
theorem gL_law_X4_fits : GoodIn wsL_law (wsV RL 104 RX4 yX4_fits wsX4_fits) := goodIn_app (goodIn_of _ (by decide +kernel)) ggL_law_X4_fits
set_option maxRecDepth 20000 in
theorem ggL_law_X5_fits : GoodIn wsL_law wsX5_fits := goodIn_r _ [617, 597, 276, 277, 278, 5, 279, 268, 269, 270, 271, 272, 273, 274, 275, 113, 67, 156, 80, 79, 68, 143, 144, 145, 146, 114, 115, 116, 117, 118, 119, 120, 121, 618, 619, 620, 621, 71, 72, 687, 688, 689, 690, 691, 692, 693, 694, 695, 696, 697, 698, 699, 700, 701, 702, 703, 704, 705, 706, 707, 708, 709, 710] (by decide +kernel) (by decide +kernel)
set_option maxRecDepth 20000 in
theorem gL_law_X5_fits : GoodIn wsL_law (wsV RL 107 RX5 yX5_fits wsX5_fits) := goodIn_app (goodIn_of _ (by decide +kernel)) ggL_law_X5_fits
set_option maxRecDepth 20000 in
theorem ggL_law_X4_year : GoodIn wsL_law wsX4_year := goodIn_r _ [625, 25, 626, 387, 88, 89, 2, 90, 627, 311, 312, 24, 313, 314, 315, 316, 54, 317, 43, 44, 45, 628, 351, 352, 353, 55, 324, 325, 326, 327, 328, 236, 237, 14, 238, 136, 239, 354, 241, 242, 243, 37, 38, 244, 245, 246, 247, 137, 138, 248, 249, 250, 251, 252, 35, 253, 254, 255, 34, 333, 334, 335, 336, 337, 338, 339, 340, 629, 342, 343, 344, 345, 388, 389, 390, 391, 681, 682, 683, 684, 685, 686, 725, 726, 727, 728, 729, 711, 712, 713, 714, 715, 716, 717, 718, 719, 720, 721, 722] (by decide +kernel) (by decide +kernel)
set_option maxRecDepth 20000 in
theorem gL_law_X4_year : GoodIn wsL_law (wsV RL 108 RX4 yX4_year wsX4_year) := goodIn_app (goodIn_of _ (by decide +kernel)) ggL_law_X4_year
set_option maxRecDepth 20000 in
theorem ggL_law_X5_year : GoodIn wsL_law wsX5_year := goodIn_r _ [633, 634, 635, 440, 366, 360, 636, 637, 638, 119, 120, 5, 121, 276, 277, 278, 279, 268, 269, 270, 271, 272, 273, 274, 275, 113, 67, 156, 80, 79, 68, 143, 144, 145, 146, 114, 115, 116, 117, 118, 375, 376, 377, 378, 687, 688, 689, 690, 691, 692, 693, 694, 695, 696, 697, 698, 699, 700, 701, 702, 703, 704, 705, 706, 707, 708, 709, 710] (by decide +kernel) (by decide +kernel)
set_option maxRecDepth 20000 in
theorem gL_law_X5_year : GoodIn wsL_law (wsV RL 111 RX5 yX5_year wsX5_year) := goodIn_app (goodIn_of _ (by decide +kernel)) ggL_law_X5_year
set_option maxRecDepth 20000 in
theorem ggL_law_X4_image : GoodIn wsL_law wsX4_image := goodIn_r _ [642, 17, 12, 13, 14, 15, 88, 89, 2, 90, 30, 31, 32, 33, 10, 11, 34, 35, 36, 37, 38, 39, 40, 41, 42, 43, 44, 45, 463, 464, 465, 466, 136, 239, 467, 252, 468, 469, 470, 471, 472, 681, 682, 683, 684, 685, 686, 711, 712, 713, 714, 715, 716, 717, 718, 719, 720, 721, 722] (by decide +kernel) (by decide +kernel)
set_option maxRecDepth 20000 in
theorem gL_law_X4_image : GoodIn wsL_law (wsV RL 112 RX4 yX4_image wsX4_image) := goodIn_app (goodIn_of _ (by decide +kernel)) ggL_law_X4_image
set_option maxRecDepth 20000 in
theorem ggL_law_X5_image : GoodIn wsL_law wsX5_image := goodIn_r _ [646, 647, 648, 78, 119, 120, 5, 121, 649, 650, 651, 652, 114, 113, 156, 79, 80, 597, 67, 68, 69, 71, 72, 70, 653, 654, 655, 656, 76, 687, 688, 689, 690, 691, 692, 693, 694, 695, 696, 697, 698, 699, 700, 701, 702, 703, 704, 705, 706, 707, 708, 709, 710] (by decide +kernel) (by decide +kernel)
set_option maxRecDepth 20000 in
theorem gL_law_X5_image : GoodIn wsL_law (wsV RL 115 RX5 yX5_image wsX5_image) := goodIn_app (goodIn_of _ (by decide +kernel)) ggL_law_X5_image
set_option maxRecDepth 20000 in
theorem ggL_law_X4_restore : GoodIn wsL_law wsX4_restore := goodIn_r _ [660, 17, 15, 88, 89, 2, 90, 463, 464, 465, 14, 466, 34, 35, 136, 239, 467, 252, 468, 37, 469, 470, 471, 472, 38, 39, 40, 41, 681, 682, 683, 684, 685, 686, 711, 712, 713, 714, 715, 716, 717, 718, 719, 720, 721, 722] (by decide +kernel) (by decide +kernel)
set_option maxRecDepth 20000 in
theorem gL_law_X4_restore : GoodIn wsL_law (wsV RL 116 RX4 yX4_restore wsX4_restore) := goodIn_app (goodIn_of _ (by decide +kernel)) ggL_law_X4_restore
set_option maxRecDepth 20000 in
theorem ggL_law_X5_restore : GoodIn wsL_law wsX5_restore := goodIn_r _ [664, 78, 647, 648, 119, 120, 5, 121, 649, 650, 651, 652, 114, 113, 156, 79, 80, 597, 67, 68, 69, 71, 72, 70, 653, 654, 655, 656, 76, 687, 688, 689, 690, 691, 692, 693, 694, 695, 696, 697, 698, 699, 700, 701, 702, 703, 704, 705, 706, 707, 708, 709, 710] (by decide +kernel) (by decide +kernel)
set_option maxRecDepth 20000 in
theorem gL_law_X5_restore : GoodIn wsL_law (wsV RL 119 RX5 yX5_restore wsX5_restore) := goodIn_app (goodIn_of _ (by decide +kernel)) ggL_law_X5_restore
set_option maxRecDepth 20000 in
theorem ggL_law_X4_told : GoodIn wsL_law wsX4_told := goodIn_r _ [668, 21, 171, 15, 85, 161, 162, 151, 586, 400, 88, 89, 2, 90, 669, 670, 671, 672, 566, 458, 86, 87, 132, 133, 134, 14, 135, 136, 137, 138, 259, 681, 682, 683, 684, 685, 686, 723, 724, 711, 712, 713, 714, 715, 716, 717, 718, 719, 720, 721, 722] (by decide +kernel) (by decide +kernel)
set_option maxRecDepth 20000 in
theorem gL_law_X4_told : GoodIn wsL_law (wsV RL 120 RX4 yX4_told wsX4_told) := goodIn_app (goodIn_of _ (by decide +kernel)) ggL_law_X4_told
set_option maxRecDepth 20000 in
theorem ggL_law_X5_told : GoodIn wsL_law wsX5_told := goodIn_r _ [676, 677, 678, 70, 679, 680, 67, 68, 69, 113, 183, 114, 79, 80, 156, 597, 119, 120, 5, 121, 143, 144, 145, 146, 115, 116, 117, 118, 687, 688, 689, 690, 691, 692, 693, 694, 695, 696, 697, 698, 699, 700, 701, 702, 703, 704, 705, 706, 707, 708, 709, 710] (by decide +kernel) (by decide +kernel)
set_option maxRecDepth 20000 in
theorem gL_law_X5_told : GoodIn wsL_law (wsV RL 123 RX5 yX5_told wsX5_told) := goodIn_app (goodIn_of _ (by decide +kernel)) ggL_law_X5_told
