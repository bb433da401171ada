/-! THE LAW, 3: the words of its calls, by their places (printed rows) -/
set_option maxRecDepth 20000 in
theorem ggL_law_X5_weight : GoodIn wsL_law wsX5_weight := goodIn_r _ [415, 113, 71, 123, 124, 5, 125, 120, 121, 122, 416, 417, 418, 419, 684, 685, 686, 687, 688, 689, 690, 691, 692, 693, 694, 695, 696, 697, 698, 699, 700, 701, 702, 703, 704, 705, 706, 707] (by decide +kernel) (by decide +kernel)
set_option maxRecDepth 20000 in
theorem gL_law_X5_weight : GoodIn wsL_law (wsV RL 69 RX5 yX5_weight wsX5_weight) := goodIn_app (goodIn_of _ (by decide +kernel)) ggL_law_X5_weight
set_option maxRecDepth 20000 in
theorem ggL_law_X4_chance : GoodIn wsL_law wsX4_chance := goodIn_r _ [423, 15, 424, 425, 87, 133, 134, 135, 14, 136, 137, 90, 2, 91, 138, 139, 89, 426, 427, 428, 429, 39, 236, 237, 238, 239, 240, 241, 242, 243, 244, 37, 38, 245, 246, 247, 248, 249, 250, 251, 252, 253, 35, 254, 255, 256, 34, 430, 103, 104, 105, 106, 107, 108, 431, 432, 433, 434, 435, 409, 410, 411, 436, 437, 438, 439, 440, 441, 678, 679, 680, 681, 682, 683, 708, 709, 710, 711, 712, 713, 714, 715, 716, 717, 718, 719] (by decide +kernel) (by decide +kernel)
set_option maxRecDepth 20000 in
theorem gL_law_X4_chance : GoodIn wsL_law (wsV RL 70 RX4 yX4_chance wsX4_chance) := goodIn_app (goodIn_of _ (by decide +kernel)) ggL_law_X4_chance
set_option maxRecDepth 20000 in
theorem ggL_law_X5_chance : GoodIn wsL_law wsX5_chance := goodIn_r _ [445, 446, 447, 448, 449, 144, 145, 146, 5, 147, 115, 116, 117, 118, 119, 120, 121, 122, 450, 451, 452, 453, 70, 71, 277, 278, 279, 280, 269, 270, 271, 272, 273, 274, 275, 276, 114, 68, 157, 81, 80, 69, 126, 127, 128, 416, 417, 418, 419, 454, 455, 456, 684, 685, 686, 687, 688, 689, 690, 691, 692, 693, 694, 695, 696, 697, 698, 699, 700, 701, 702, 703, 704, 705, 706, 707] (by decide +kernel) (by decide +kernel)
set_option maxRecDepth 20000 in
theorem gL_law_X5_chance : GoodIn wsL_law (wsV RL 74 RX5 yX5_chance wsX5_chance) := goodIn_app (goodIn_of _ (by decide +kernel)) ggL_law_X5_chance
set_option maxRecDepth 20000 in
theorem ggL_law_X4_best : GoodIn wsL_law wsX4_best := goodIn_r _ [460, 15, 133, 134, 135, 14, 136, 137, 90, 2, 91, 138, 139, 461, 462, 463, 464, 465, 466, 467, 468, 469, 16, 470, 318, 319, 320, 34, 35, 240, 321, 253, 322, 37, 323, 324, 325, 326, 38, 39, 40, 41, 95, 96, 97, 98, 426, 427, 428, 429, 236, 237, 238, 239, 241, 242, 243, 244, 245, 246, 247, 248, 249, 250, 251, 252, 254, 255, 256, 430, 103, 104, 105, 106, 107, 108, 678, 679, 680, 681, 682, 683, 708, 709, 710, 711, 712, 713, 714, 715, 716, 717, 718, 719] (by decide +kernel) (by decide +kernel)
set_option maxRecDepth 20000 in
theorem gL_law_X4_best : GoodIn wsL_law (wsV RL 75 RX4 yX4_best wsX4_best) := goodIn_app (goodIn_of _ (by decide +kernel)) ggL_law_X4_best
set_option maxRecDepth 20000 in
theorem ggL_law_X5_best : GoodIn wsL_law wsX5_best := goodIn_r _ [474, 475, 144, 145, 146, 5, 147, 115, 116, 117, 118, 119, 120, 121, 122, 476, 477, 478, 479, 68, 480, 450, 451, 452, 453, 70, 71, 277, 278, 279, 280, 269, 270, 271, 272, 273, 274, 275, 276, 114, 157, 81, 80, 69, 126, 127, 128, 684, 685, 686, 687, 688, 689, 690, 691, 692, 693, 694, 695, 696, 697, 698, 699, 700, 701, 702, 703, 704, 705, 706, 707] (by decide +kernel) (by decide +kernel)
set_option maxRecDepth 20000 in
theorem gL_law_X5_best : GoodIn wsL_law (wsV RL 78 RX5 yX5_best wsX5_best) := goodIn_app (goodIn_of _ (by decide +kernel)) ggL_law_X5_best
set_option maxRecDepth 20000 in
theorem ggL_law_X4_bestChance : GoodIn wsL_law wsX4_bestChance := goodIn_r _ [484, 15, 424, 425, 465, 133, 134, 135, 14, 136, 137, 90, 2, 91, 138, 139, 89, 461, 462, 463, 464, 466, 467, 468, 469, 16, 470, 318, 319, 320, 34, 35, 240, 321, 253, 322, 37, 323, 324, 325, 326, 38, 39, 40, 41, 95, 96, 97, 98, 426, 427, 428, 429, 236, 237, 238, 239, 241, 242, 243, 244, 245, 246, 247, 248, 249, 250, 251, 252, 254, 255, 256, 430, 103, 104, 105, 106, 107, 108, 431, 432, 433, 434, 435, 409, 410, 411, 436, 437, 438, 439, 440, 441, 678, 679, 680, 681, 682, 683, 708, 709, 710, 711, 712, 713, 714, 715, 716, 717, 718, 719] (by decide +kernel) (by decide +kernel)
set_option maxRecDepth 20000 in
theorem gL_law_X4_bestChance : GoodIn wsL_law (wsV RL 79 RX4 yX4_bestChance wsX4_bestChance) := goodIn_app (goodIn_of _ (by decide +kernel)) ggL_law_X4_bestChance
set_option maxRecDepth 20000 in
theorem ggL_law_X5_bestChance : GoodIn wsL_law wsX5_bestChance := goodIn_r _ [488, 448, 449, 480, 144, 145, 146, 5, 147, 115, 116, 117, 118, 119, 120, 121, 122, 476, 477, 478, 479, 68, 475, 450, 451, 452, 453, 70, 71, 277, 278, 279, 280, 269, 270, 271, 272, 273, 274, 275, 276, 114, 157, 81, 80, 69, 126, 127, 128, 416, 417, 418, 419, 454, 455, 456, 684, 685, 686, 687, 688, 689, 690, 691, 692, 693, 694, 695, 696, 697, 698, 699, 700, 701, 702, 703, 704, 705, 706, 707] (by decide +kernel) (by decide +kernel)
set_option maxRecDepth 20000 in
theorem gL_law_X5_bestChance : GoodIn wsL_law (wsV RL 82 RX5 yX5_bestChance wsX5_bestChance) := goodIn_app (goodIn_of _ (by decide +kernel)) ggL_law_X5_bestChance
set_option maxRecDepth 20000 in
theorem ggL_law_X4_rests : GoodIn wsL_law wsX4_rests := goodIn_r _ [492, 15, 86, 29, 102, 103, 104, 105, 106, 107, 108, 493, 494, 495, 28, 496, 497, 60, 498, 324, 325, 326, 63, 499, 500, 43, 44, 45, 501, 502, 503, 504, 61, 505, 506, 507, 134, 135, 14, 136, 137, 90, 2, 91, 138, 139, 508, 509, 510, 511, 512, 513, 514, 515, 250, 251, 252, 253, 35, 254, 255, 247, 256, 34, 516, 517, 518, 519, 520, 246, 248, 521, 522, 523, 524, 62, 525, 526, 527, 528, 529, 530, 531, 532, 533, 534, 535, 536, 537, 538, 539, 678, 679, 680, 681, 682, 683, 708, 709, 710, 711, 712, 713, 714, 715, 716, 717, 718, 719, 726, 727, 728, 729, 730] (by decide +kernel) (by decide +kernel)
set_option maxRecDepth 20000 in
theorem gL_law_X4_rests : GoodIn wsL_law (wsV RL 83 RX4 yX4_rests wsX4_rests) := goodIn_app (goodIn_of _ (by decide +kernel)) ggL_law_X4_rests
set_option maxRecDepth 20000 in
theorem ggL_law_X5_rests : GoodIn wsL_law wsX5_rests := goodIn_r _ [543, 115, 126, 127, 5, 128, 544, 545, 546, 547, 76, 68, 548, 549, 550, 551, 144, 145, 146, 147, 116, 117, 118, 119, 120, 121, 122, 552, 553, 554, 555, 480, 450, 451, 452, 453, 70, 71, 277, 278, 279, 280, 269, 270, 271, 272, 273, 274, 275, 276, 114, 157, 81, 80, 69, 476, 477, 478, 479, 475, 556, 557, 558, 559, 684, 685, 686, 687, 688, 689, 690, 691, 692, 693, 694, 695, 696, 697, 698, 699, 700, 701, 702, 703, 704, 705, 706, 707] (by decide +kernel) (by decide +kernel)
set_option maxRecDepth 20000 in
theorem gL_law_X5_rests : GoodIn wsL_law (wsV RL 86 RX5 yX5_rests wsX5_rests) := goodIn_app (goodIn_of _ (by decide +kernel)) ggL_law_X5_rests
set_option maxRecDepth 20000 in
theorem ggL_law_X4_coup : GoodIn wsL_law wsX4_coup := goodIn_r _ [563, 15, 564, 133, 134, 135, 14, 136, 137, 90, 2, 91, 138, 139, 565, 335, 336, 337, 37, 236, 237, 238, 239, 240, 100, 101, 241, 242, 243, 244, 38, 245, 246, 247, 248, 249, 250, 251, 252, 253, 35, 254, 255, 256, 34, 678, 679, 680, 681, 682, 683, 708, 709, 710, 711, 712, 713, 714, 715, 716, 717, 718, 719] (by decide +kernel) (by decide +kernel)
set_option maxRecDepth 20000 in
theorem gL_law_X4_coup : GoodIn wsL_law (wsV RL 87 RX4 yX4_coup wsX4_coup) := goodIn_app (goodIn_of _ (by decide +kernel)) ggL_law_X4_coup
set_option maxRecDepth 20000 in
theorem ggL_law_X5_coup : GoodIn wsL_law wsX5_coup := goodIn_r _ [569, 144, 145, 146, 5, 147, 115, 116, 117, 118, 119, 120, 121, 122, 386, 387, 388, 389, 68, 273, 274, 275, 276, 114, 157, 81, 80, 69, 684, 685, 686, 687, 688, 689, 690, 691, 692, 693, 694, 695, 696, 697, 698, 699, 700, 701, 702, 703, 704, 705, 706, 707] (by decide +kernel) (by decide +kernel)
set_option maxRecDepth 20000 in
theorem gL_law_X5_coup : GoodIn wsL_law (wsV RL 90 RX5 yX5_coup wsX5_coup) := goodIn_app (goodIn_of _ (by decide +kernel)) ggL_law_X5_coup
set_option maxRecDepth 20000 in
theorem ggL_law_X4_quick : GoodIn wsL_law wsX4_quick := goodIn_r _ [573, 15, 564, 133, 134, 135, 14, 136, 137, 90, 2, 91, 138, 139, 89, 431, 432, 433, 434, 435, 409, 410, 411, 39, 466, 467, 468, 469, 16, 470, 318, 319, 320, 34, 35, 240, 321, 253, 322, 37, 323, 324, 325, 326, 38, 40, 41, 95, 96, 97, 98, 426, 427, 428, 429, 236, 237, 238, 239, 241, 242, 243, 244, 245, 246, 247, 248, 249, 250, 251, 252, 254, 255, 256, 430, 103, 104, 105, 106, 107, 108, 678, 679, 680, 681, 682, 683, 708, 709, 710, 711, 712, 713, 714, 715, 716, 717, 718, 719] (by decide +kernel) (by decide +kernel)
set_option maxRecDepth 20000 in
theorem gL_law_X4_quick : GoodIn wsL_law (wsV RL 91 RX4 yX4_quick wsX4_quick) := goodIn_app (goodIn_of _ (by decide +kernel)) ggL_law_X4_quick
set_option maxRecDepth 20000 in
theorem ggL_law_X5_quick : GoodIn wsL_law wsX5_quick := goodIn_r _ [577, 578, 69, 144, 145, 146, 5, 147, 115, 116, 117, 118, 119, 120, 121, 122, 450, 451, 452, 453, 70, 71, 277, 278, 279, 280, 269, 270, 271, 272, 273, 274, 275, 276, 114, 68, 157, 81, 80, 126, 127, 128, 416, 417, 418, 419, 684, 685, 686, 687, 688, 689, 690, 691, 692, 693, 694, 695, 696, 697, 698, 699, 700, 701, 702, 703, 704, 705, 706, 707] (by decide +kernel) (by decide +kernel)
set_option maxRecDepth 20000 in
theorem gL_law_X5_quick : GoodIn wsL_law (wsV RL 95 RX5 yX5_quick wsX5_quick) := goodIn_app (goodIn_of _ (by decide +kernel)) ggL_law_X5_quick
set_option maxRecDepth 20000 in
theorem ggL_law_X4_seen : GoodIn wsL_law wsX4_seen := goodIn_r _ [582, 15, 583, 89, 90, 2, 91, 584, 585, 586, 14, 587, 322, 40, 41, 678, 679, 680, 681, 682, 683, 708, 709, 710, 711, 712, 713, 714, 715, 716, 717, 718, 719] (by decide +kernel) (by decide +kernel)
set_option maxRecDepth 20000 in
theorem gL_law_X4_seen : GoodIn wsL_law (wsV RL 96 RX4 yX4_seen wsX4_seen) := goodIn_app (goodIn_of _ (by decide +kernel)) ggL_law_X4_seen
set_option maxRecDepth 20000 in
theorem ggL_law_X5_seen : GoodIn wsL_law wsX5_seen := goodIn_r _ [591, 592, 593, 594, 72, 73, 120, 121, 5, 122, 116, 117, 118, 119, 684, 685, 686, 687, 688, 689, 690, 691, 692, 693, 694, 695, 696, 697, 698, 699, 700, 701, 702, 703, 704, 705, 706, 707] (by decide +kernel) (by decide +kernel)
set_option maxRecDepth 20000 in
theorem gL_law_X5_seen : GoodIn wsL_law (wsV RL 99 RX5 yX5_seen wsX5_seen) := goodIn_app (goodIn_of _ (by decide +kernel)) ggL_law_X5_seen
set_option maxRecDepth 20000 in
theorem ggL_law_X4_forget : GoodIn wsL_law wsX4_forget := goodIn_r _ [598, 15, 583, 678, 679, 680, 681, 682, 683, 708, 709, 710, 711, 712, 713, 714, 715, 716, 717, 718, 719] (by decide +kernel) (by decide +kernel)
set_option maxRecDepth 20000 in
theorem gL_law_X4_forget : GoodIn wsL_law (wsV RL 100 RX4 yX4_forget wsX4_forget) := goodIn_app (goodIn_of _ (by decide +kernel)) ggL_law_X4_forget
set_option maxRecDepth 20000 in
theorem ggL_law_X5_forget : GoodIn wsL_law wsX5_forget := goodIn_r _ [602, 594, 684, 685, 686, 687, 688, 689, 690, 691, 692, 693, 694, 695, 696, 697, 698, 699, 700, 701, 702, 703, 704, 705, 706, 707] (by decide +kernel) (by decide +kernel)
set_option maxRecDepth 20000 in
theorem gL_law_X5_forget : GoodIn wsL_law (wsV RL 103 RX5 yX5_forget wsX5_forget) := goodIn_app (goodIn_of _ (by decide +kernel)) ggL_law_X5_forget
set_option maxRecDepth 20000 in
theorem ggL_law_X4_fits : GoodIn wsL_law wsX4_fits := goodIn_r _ [606, 15, 232, 233, 234, 14, 235, 236, 237, 238, 239, 137, 240, 241, 242, 243, 244, 37, 38, 245, 246, 247, 248, 138, 2, 139, 249, 250, 251, 252, 253, 35, 254, 255, 256, 34, 607, 608, 609, 610, 322, 41, 40, 99, 100, 101, 678, 679, 680, 681, 682, 683, 708, 709, 710, 711, 712, 713, 714, 715, 716, 717, 718, 719] (by decide +kernel) (by decide +kernel)
set_option maxRecDepth 20000 in
theorem gL_law_X4_fits : GoodIn wsL_law (wsV RL 104 RX4 yX4_fits wsX4_fits) := goodIn_app (goodIn_of _ (by decide +kernel)) ggL_law_X4_fits
set_option maxRecDepth 20000 in
theorem ggL_law_X5_fits : GoodIn wsL_law wsX5_fits := goodIn_r _ [614, 594, 277, 278, 279, 5, 280, 269, 270, 271, 272, 273, 274, 275, 276, 114, 68, 157, 81, 80, 69, 144, 145, 146, 147, 115, 116, 117, 118, 119, 120, 121, 122, 615, 616, 617, 618, 72, 73, 684, 685, 686, 687, 688, 689, 690, 691, 692, 693, 694, 695, 696, 697, 698, 699, 700, 701, 702, 703, 704, 705, 706, 707] (by decide +kernel) (by decide +kernel)
set_option maxRecDepth 20000 in
theorem gL_law_X5_fits : GoodIn wsL_law (wsV RL 107 RX5 yX5_fits wsX5_fits) := goodIn_app (goodIn_of _ (by decide +kernel)) ggL_law_X5_fits
set_option maxRecDepth 20000 in
theorem ggL_law_X4_year : GoodIn wsL_law wsX4_year := goodIn_r _ [622, 25, 15, 623, 394, 89, 90, 2, 91, 624, 312, 313, 24, 314, 54, 315, 316, 55, 317, 318, 319, 14, 320, 34, 35, 137, 240, 321, 253, 322, 37, 323, 324, 325, 326, 38, 39, 40, 41, 327, 43, 44, 45, 625, 357, 358, 359, 360, 237, 238, 239, 361, 242, 243, 244, 245, 246, 247, 248, 138, 139, 249, 250, 251, 252, 254, 255, 256, 338, 339, 340, 341, 342, 343, 344, 345, 626, 347, 348, 349, 350, 395, 396, 397, 398, 678, 679, 680, 681, 682, 683, 722, 723, 724, 725, 708, 709, 710, 711, 712, 713, 714, 715, 716, 717, 718, 719] (by decide +kernel) (by decide +kernel)
set_option maxRecDepth 20000 in
theorem gL_law_X4_year : GoodIn wsL_law (wsV RL 108 RX4 yX4_year wsX4_year) := goodIn_app (goodIn_of _ (by decide +kernel)) ggL_law_X4_year
set_option maxRecDepth 20000 in
theorem ggL_law_X5_year : GoodIn wsL_law wsX5_year := goodIn_r _ [630, 631, 632, 447, 373, 367, 633, 634, 635, 120, 121, 5, 122, 277, 278, 279, 280, 269, 270, 271, 272, 273, 274, 275, 276, 114, 68, 157, 81, 80, 69, 144, 145, 146, 147, 115, 116, 117, 118, 119, 382, 383, 384, 385, 684, 685, 686, 687, 688, 689, 690, 691, 692, 693, 694, 695, 696, 697, 698, 699, 700, 701, 702, 703, 704, 705, 706, 707] (by decide +kernel) (by decide +kernel)
set_option maxRecDepth 20000 in
theorem gL_law_X5_year : GoodIn wsL_law (wsV RL 111 RX5 yX5_year wsX5_year) := goodIn_app (goodIn_of _ (by decide +kernel)) ggL_law_X5_year
set_option maxRecDepth 20000 in
theorem ggL_law_X4_image : GoodIn wsL_law wsX4_image := goodIn_r _ [639, 17, 12, 13, 14, 15, 89, 90, 2, 91, 30, 31, 32, 33, 10, 11, 34, 35, 36, 37, 38, 39, 40, 41, 42, 43, 44, 45, 470, 318, 319, 320, 137, 240, 321, 253, 322, 323, 324, 325, 326, 678, 679, 680, 681, 682, 683, 708, 709, 710, 711, 712, 713, 714, 715, 716, 717, 718, 719] (by decide +kernel) (by decide +kernel)
set_option maxRecDepth 20000 in
theorem gL_law_X4_image : GoodIn wsL_law (wsV RL 112 RX4 yX4_image wsX4_image) := goodIn_app (goodIn_of _ (by decide +kernel)) ggL_law_X4_image
set_option maxRecDepth 20000 in
theorem ggL_law_X5_image : GoodIn wsL_law wsX5_image := goodIn_r _ [643, 644, 645, 79, 120, 121, 5, 122, 646, 647, 648, 649, 115, 114, 157, 80, 81, 594, 68, 69, 70, 72, 73, 71, 650, 651, 652, 653, 77, 684, 685, 686, 687, 688, 689, 690, 691, 692, 693, 694, 695, 696, 697, 698, 699, 700, 701, 702, 703, 704, 705, 706, 707] (by decide +kernel) (by decide +kernel)
set_option maxRecDepth 20000 in
theorem gL_law_X5_image : GoodIn wsL_law (wsV RL 115 RX5 yX5_image wsX5_image) := goodIn_app (goodIn_of _ (by decide +kernel)) ggL_law_X5_image
set_option maxRecDepth 20000 in
theorem ggL_law_X4_restore : GoodIn wsL_law wsX4_restore := goodIn_r _ [657, 17, 15, 89, 90, 2, 91, 470, 318, 319, 14, 320, 34, 35, 137, 240, 321, 253, 322, 37, 323, 324, 325, 326, 38, 39, 40, 41, 678, 679, 680, 681, 682, 683, 708, 709, 710, 711, 712, 713, 714, 715, 716, 717, 718, 719] (by decide +kernel) (by decide +kernel)
set_option maxRecDepth 20000 in
theorem gL_law_X4_restore : GoodIn wsL_law (wsV RL 116 RX4 yX4_restore wsX4_restore) := goodIn_app (goodIn_of _ (by decide +kernel)) ggL_law_X4_restore
set_option maxRecDepth 20000 in
theorem ggL_law_X5_restore : GoodIn wsL_law wsX5_restore := goodIn_r _ [661, 79, 644, 645, 120, 121, 5, 122, 646, 647, 648, 649, 115, 114, 157, 80, 81, 594, 68, 69, 70, 72, 73, 71, 650, 651, 652, 653, 77, 684, 685, 686, 687, 688, 689, 690, 691, 692, 693, 694, 695, 696, 697, 698, 699, 700, 701, 702, 703, 704, 705, 706, 707] (by decide +kernel) (by decide +kernel)
set_option maxRecDepth 20000 in
theorem gL_law_X5_restore : GoodIn wsL_law (wsV RL 119 RX5 yX5_restore wsX5_restore) := goodIn_app (goodIn_of _ (by decide +kernel)) ggL_law_X5_restore
set_option maxRecDepth 20000 in
theorem ggL_law_X4_told : GoodIn wsL_law wsX4_told := goodIn_r _ [665, 21, 172, 15, 86, 162, 163, 152, 583, 407, 89, 90, 2, 91, 666, 667, 668, 669, 564, 465, 87, 88, 133, 134, 135, 14, 136, 137, 138, 139, 260, 678, 679, 680, 681, 682, 683, 720, 721, 708, 709, 710, 711, 712, 713, 714, 715, 716, 717, 718, 719] (by decide +kernel) (by decide +kernel)
set_option maxRecDepth 20000 in
theorem gL_law_X4_told : GoodIn wsL_law (wsV RL 120 RX4 yX4_told wsX4_told) := goodIn_app (goodIn_of _ (by decide +kernel)) ggL_law_X4_told
set_option maxRecDepth 20000 in
theorem ggL_law_X5_told : GoodIn wsL_law wsX5_told := goodIn_r _ [673, 674, 675, 71, 676, 677, 68, 69, 70, 114, 184, 115, 80, 81, 157, 594, 120, 121, 5, 122, 144, 145, 146, 147, 116, 117, 118, 119, 684, 685, 686, 687, 688, 689, 690, 691, 692, 693, 694, 695, 696, 697, 698, 699, 700, 701, 702, 703, 704, 705, 706, 707] (by decide +kernel) (by decide +kernel)
set_option maxRecDepth 20000 in
theorem gL_law_X5_told : GoodIn wsL_law (wsV RL 123 RX5 yX5_told wsX5_told) := goodIn_app (goodIn_of _ (by decide +kernel)) ggL_law_X5_told
