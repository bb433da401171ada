/-! THE LAW, 3: the words of its calls, by their places (printed rows) -/
set_option maxRecDepth 20000 in
theorem ggL_law_X5_weight : GoodIn wsL_law wsX5_weight := goodIn_r _ [409, 112, 70, 122, 123, 5, 124, 119, 120, 121, 410, 411, 412, 413, 689, 690, 691, 692, 693, 694, 695, 696, 697, 698, 699, 700, 701, 702, 703, 704, 705, 706, 707, 708, 709, 710, 711, 712] (by decide +kernel) (by decide +kernel)
set_option maxRecDepth 20000 in
theorem gL_law_X5_weight : GoodIn wsL_law (wsV RL 69 RX5 yX5_weight wsX5_weight) := goodIn_app (goodIn_of _ (by decide +kernel)) ggL_law_X5_weight
set_option maxRecDepth 20000 in
theorem ggL_law_X4_chance : GoodIn wsL_law wsX4_chance := goodIn_r _ [417, 15, 418, 419, 86, 132, 133, 134, 14, 135, 136, 89, 2, 90, 137, 138, 88, 420, 421, 422, 423, 39, 235, 236, 237, 238, 239, 240, 241, 242, 243, 244, 37, 38, 245, 246, 247, 248, 249, 250, 251, 252, 253, 35, 254, 255, 256, 34, 424, 102, 103, 104, 105, 106, 107, 425, 426, 427, 428, 429, 403, 404, 405, 430, 431, 432, 433, 434, 435, 683, 684, 685, 686, 687, 688, 713, 714, 715, 716, 717, 718, 719, 720, 721, 722, 723, 724] (by decide +kernel) (by decide +kernel)
set_option maxRecDepth 20000 in
theorem gL_law_X4_chance : GoodIn wsL_law (wsV RL 70 RX4 yX4_chance wsX4_chance) := goodIn_app (goodIn_of _ (by decide +kernel)) ggL_law_X4_chance
set_option maxRecDepth 20000 in
theorem ggL_law_X5_chance : GoodIn wsL_law wsX5_chance := goodIn_r _ [439, 440, 441, 442, 443, 143, 144, 145, 5, 146, 114, 115, 116, 117, 118, 119, 120, 121, 444, 445, 446, 447, 69, 70, 277, 278, 279, 280, 269, 270, 271, 272, 273, 274, 275, 276, 113, 67, 156, 80, 79, 68, 125, 126, 127, 410, 411, 412, 413, 448, 449, 450, 689, 690, 691, 692, 693, 694, 695, 696, 697, 698, 699, 700, 701, 702, 703, 704, 705, 706, 707, 708, 709, 710, 711, 712] (by decide +kernel) (by decide +kernel)
set_option maxRecDepth 20000 in
theorem gL_law_X5_chance : GoodIn wsL_law (wsV RL 74 RX5 yX5_chance wsX5_chance) := goodIn_app (goodIn_of _ (by decide +kernel)) ggL_law_X5_chance
set_option maxRecDepth 20000 in
theorem ggL_law_X4_best : GoodIn wsL_law wsX4_best := goodIn_r _ [454, 15, 132, 133, 134, 14, 135, 136, 89, 2, 90, 137, 138, 455, 456, 457, 458, 459, 460, 461, 462, 463, 16, 464, 465, 466, 467, 34, 35, 239, 468, 253, 469, 37, 470, 471, 472, 473, 38, 39, 40, 41, 94, 95, 96, 97, 420, 421, 422, 423, 235, 236, 237, 238, 240, 241, 242, 243, 244, 245, 246, 247, 248, 249, 250, 251, 252, 254, 255, 256, 424, 102, 103, 104, 105, 106, 107, 683, 684, 685, 686, 687, 688, 713, 714, 715, 716, 717, 718, 719, 720, 721, 722, 723, 724] (by decide +kernel) (by decide +kernel)
set_option maxRecDepth 20000 in
theorem gL_law_X4_best : GoodIn wsL_law (wsV RL 75 RX4 yX4_best wsX4_best) := goodIn_app (goodIn_of _ (by decide +kernel)) ggL_law_X4_best
set_option maxRecDepth 20000 in
theorem ggL_law_X5_best : GoodIn wsL_law wsX5_best := goodIn_r _ [477, 478, 143, 144, 145, 5, 146, 114, 115, 116, 117, 118, 119, 120, 121, 479, 480, 481, 482, 67, 483, 444, 445, 446, 447, 69, 70, 277, 278, 279, 280, 269, 270, 271, 272, 273, 274, 275, 276, 113, 156, 80, 79, 68, 125, 126, 127, 689, 690, 691, 692, 693, 694, 695, 696, 697, 698, 699, 700, 701, 702, 703, 704, 705, 706, 707, 708, 709, 710, 711, 712] (by decide +kernel) (by decide +kernel)
set_option maxRecDepth 20000 in
theorem gL_law_X5_best : GoodIn wsL_law (wsV RL 78 RX5 yX5_best wsX5_best) := goodIn_app (goodIn_of _ (by decide +kernel)) ggL_law_X5_best
set_option maxRecDepth 20000 in
theorem ggL_law_X4_bestChance : GoodIn wsL_law wsX4_bestChance := goodIn_r _ [487, 15, 418, 419, 459, 132, 133, 134, 14, 135, 136, 89, 2, 90, 137, 138, 88, 455, 456, 457, 458, 460, 461, 462, 463, 16, 464, 465, 466, 467, 34, 35, 239, 468, 253, 469, 37, 470, 471, 472, 473, 38, 39, 40, 41, 94, 95, 96, 97, 420, 421, 422, 423, 235, 236, 237, 238, 240, 241, 242, 243, 244, 245, 246, 247, 248, 249, 250, 251, 252, 254, 255, 256, 424, 102, 103, 104, 105, 106, 107, 425, 426, 427, 428, 429, 403, 404, 405, 430, 431, 432, 433, 434, 435, 683, 684, 685, 686, 687, 688, 713, 714, 715, 716, 717, 718, 719, 720, 721, 722, 723, 724] (by decide +kernel) (by decide +kernel)
set_option maxRecDepth 20000 in
theorem gL_law_X4_bestChance : GoodIn wsL_law (wsV RL 79 RX4 yX4_bestChance wsX4_bestChance) := goodIn_app (goodIn_of _ (by decide +kernel)) ggL_law_X4_bestChance
set_option maxRecDepth 20000 in
theorem ggL_law_X5_bestChance : GoodIn wsL_law wsX5_bestChance := goodIn_r _ [491, 442, 443, 483, 143, 144, 145, 5, 146, 114, 115, 116, 117, 118, 119, 120, 121, 479, 480, 481, 482, 67, 478, 444, 445, 446, 447, 69, 70, 277, 278, 279, 280, 269, 270, 271, 272, 273, 274, 275, 276, 113, 156, 80, 79, 68, 125, 126, 127, 410, 411, 412, 413, 448, 449, 450, 689, 690, 691, 692, 693, 694, 695, 696, 697, 698, 699, 700, 701, 702, 703, 704, 705, 706, 707, 708, 709, 710, 711, 712] (by decide +kernel) (by decide +kernel)
set_option maxRecDepth 20000 in
theorem gL_law_X5_bestChance : GoodIn wsL_law (wsV RL 82 RX5 yX5_bestChance wsX5_bestChance) := goodIn_app (goodIn_of _ (by decide +kernel)) ggL_law_X5_bestChance
set_option maxRecDepth 20000 in
theorem ggL_law_X4_rests : GoodIn wsL_law wsX4_rests := goodIn_r _ [495, 15, 85, 29, 101, 102, 103, 104, 105, 106, 107, 496, 497, 498, 28, 499, 500, 59, 501, 471, 472, 473, 62, 502, 503, 43, 44, 45, 504, 505, 506, 507, 60, 508, 509, 510, 511, 133, 134, 14, 135, 136, 89, 2, 90, 137, 138, 512, 513, 514, 515, 516, 517, 518, 519, 250, 251, 252, 253, 35, 254, 255, 247, 256, 34, 520, 521, 522, 523, 524, 246, 248, 525, 526, 527, 528, 61, 529, 530, 531, 532, 533, 534, 535, 536, 537, 538, 539, 540, 541, 542, 543, 683, 684, 685, 686, 687, 688, 713, 714, 715, 716, 717, 718, 719, 720, 721, 722, 723, 724, 732, 733, 734, 735, 736] (by decide +kernel) (by decide +kernel)
set_option maxRecDepth 20000 in
theorem gL_law_X4_rests : GoodIn wsL_law (wsV RL 83 RX4 yX4_rests wsX4_rests) := goodIn_app (goodIn_of _ (by decide +kernel)) ggL_law_X4_rests
set_option maxRecDepth 20000 in
theorem ggL_law_X5_rests : GoodIn wsL_law wsX5_rests := goodIn_r _ [547, 114, 125, 126, 5, 127, 548, 549, 550, 551, 75, 67, 552, 553, 554, 555, 143, 144, 145, 146, 115, 116, 117, 118, 119, 120, 121, 556, 557, 558, 559, 483, 444, 445, 446, 447, 69, 70, 277, 278, 279, 280, 269, 270, 271, 272, 273, 274, 275, 276, 113, 156, 80, 79, 68, 479, 480, 481, 482, 478, 560, 561, 562, 563, 689, 690, 691, 692, 693, 694, 695, 696, 697, 698, 699, 700, 701, 702, 703, 704, 705, 706, 707, 708, 709, 710, 711, 712] (by decide +kernel) (by decide +kernel)
set_option maxRecDepth 20000 in
theorem gL_law_X5_rests : GoodIn wsL_law (wsV RL 86 RX5 yX5_rests wsX5_rests) := goodIn_app (goodIn_of _ (by decide +kernel)) ggL_law_X5_rests
set_option maxRecDepth 20000 in
theorem ggL_law_X4_coup : GoodIn wsL_law wsX4_coup := goodIn_r _ [567, 15, 568, 132, 133, 134, 14, 135, 136, 89, 2, 90, 137, 138, 569, 236, 237, 238, 239, 570, 331, 332, 333, 37, 99, 100, 240, 241, 242, 243, 244, 38, 245, 246, 247, 248, 249, 250, 251, 252, 253, 35, 254, 255, 256, 34, 683, 684, 685, 686, 687, 688, 713, 714, 715, 716, 717, 718, 719, 720, 721, 722, 723, 724] (by decide +kernel) (by decide +kernel)
set_option maxRecDepth 20000 in
theorem gL_law_X4_coup : GoodIn wsL_law (wsV RL 87 RX4 yX4_coup wsX4_coup) := goodIn_app (goodIn_of _ (by decide +kernel)) ggL_law_X4_coup
set_option maxRecDepth 20000 in
theorem ggL_law_X5_coup : GoodIn wsL_law wsX5_coup := goodIn_r _ [574, 143, 144, 145, 5, 146, 114, 115, 116, 117, 118, 119, 120, 121, 380, 381, 382, 383, 67, 273, 274, 275, 276, 113, 156, 80, 79, 68, 689, 690, 691, 692, 693, 694, 695, 696, 697, 698, 699, 700, 701, 702, 703, 704, 705, 706, 707, 708, 709, 710, 711, 712] (by decide +kernel) (by decide +kernel)
set_option maxRecDepth 20000 in
theorem gL_law_X5_coup : GoodIn wsL_law (wsV RL 90 RX5 yX5_coup wsX5_coup) := goodIn_app (goodIn_of _ (by decide +kernel)) ggL_law_X5_coup
set_option maxRecDepth 20000 in
theorem ggL_law_X4_quick : GoodIn wsL_law wsX4_quick := goodIn_r _ [578, 15, 568, 132, 133, 134, 14, 135, 136, 89, 2, 90, 137, 138, 88, 425, 426, 427, 428, 429, 403, 404, 405, 39, 460, 461, 462, 463, 16, 464, 465, 466, 467, 34, 35, 239, 468, 253, 469, 37, 470, 471, 472, 473, 38, 40, 41, 94, 95, 96, 97, 420, 421, 422, 423, 235, 236, 237, 238, 240, 241, 242, 243, 244, 245, 246, 247, 248, 249, 250, 251, 252, 254, 255, 256, 424, 102, 103, 104, 105, 106, 107, 683, 684, 685, 686, 687, 688, 713, 714, 715, 716, 717, 718, 719, 720, 721, 722, 723, 724] (by decide +kernel) (by decide +kernel)
set_option maxRecDepth 20000 in
theorem gL_law_X4_quick : GoodIn wsL_law (wsV RL 91 RX4 yX4_quick wsX4_quick) := goodIn_app (goodIn_of _ (by decide +kernel)) ggL_law_X4_quick
set_option maxRecDepth 20000 in
theorem ggL_law_X5_quick : GoodIn wsL_law wsX5_quick := goodIn_r _ [582, 583, 68, 143, 144, 145, 5, 146, 114, 115, 116, 117, 118, 119, 120, 121, 444, 445, 446, 447, 69, 70, 277, 278, 279, 280, 269, 270, 271, 272, 273, 274, 275, 276, 113, 67, 156, 80, 79, 125, 126, 127, 410, 411, 412, 413, 689, 690, 691, 692, 693, 694, 695, 696, 697, 698, 699, 700, 701, 702, 703, 704, 705, 706, 707, 708, 709, 710, 711, 712] (by decide +kernel) (by decide +kernel)
set_option maxRecDepth 20000 in
theorem gL_law_X5_quick : GoodIn wsL_law (wsV RL 95 RX5 yX5_quick wsX5_quick) := goodIn_app (goodIn_of _ (by decide +kernel)) ggL_law_X5_quick
set_option maxRecDepth 20000 in
theorem ggL_law_X4_seen : GoodIn wsL_law wsX4_seen := goodIn_r _ [587, 15, 588, 88, 89, 2, 90, 589, 590, 591, 14, 592, 469, 40, 41, 683, 684, 685, 686, 687, 688, 713, 714, 715, 716, 717, 718, 719, 720, 721, 722, 723, 724] (by decide +kernel) (by decide +kernel)
set_option maxRecDepth 20000 in
theorem gL_law_X4_seen : GoodIn wsL_law (wsV RL 96 RX4 yX4_seen wsX4_seen) := goodIn_app (goodIn_of _ (by decide +kernel)) ggL_law_X4_seen
set_option maxRecDepth 20000 in
theorem ggL_law_X5_seen : GoodIn wsL_law wsX5_seen := goodIn_r _ [596, 597, 598, 599, 71, 72, 119, 120, 5, 121, 115, 116, 117, 118, 689, 690, 691, 692, 693, 694, 695, 696, 697, 698, 699, 700, 701, 702, 703, 704, 705, 706, 707, 708, 709, 710, 711, 712] (by decide +kernel) (by decide +kernel)
set_option maxRecDepth 20000 in
theorem gL_law_X5_seen : GoodIn wsL_law (wsV RL 99 RX5 yX5_seen wsX5_seen) := goodIn_app (goodIn_of _ (by decide +kernel)) ggL_law_X5_seen
set_option maxRecDepth 20000 in
theorem ggL_law_X4_forget : GoodIn wsL_law wsX4_forget := goodIn_r _ [603, 15, 588, 683, 684, 685, 686, 687, 688, 713, 714, 715, 716, 717, 718, 719, 720, 721, 722, 723, 724] (by decide +kernel) (by decide +kernel)
set_option maxRecDepth 20000 in
theorem gL_law_X4_forget : GoodIn wsL_law (wsV RL 100 RX4 yX4_forget wsX4_forget) := goodIn_app (goodIn_of _ (by decide +kernel)) ggL_law_X4_forget
set_option maxRecDepth 20000 in
theorem ggL_law_X5_forget : GoodIn wsL_law wsX5_forget := goodIn_r _ [607, 599, 689, 690, 691, 692, 693, 694, 695, 696, 697, 698, 699, 700, 701, 702, 703, 704, 705, 706, 707, 708, 709, 710, 711, 712] (by decide +kernel) (by decide +kernel)
set_option maxRecDepth 20000 in
theorem gL_law_X5_forget : GoodIn wsL_law (wsV RL 103 RX5 yX5_forget wsX5_forget) := goodIn_app (goodIn_of _ (by decide +kernel)) ggL_law_X5_forget
set_option maxRecDepth 20000 in
theorem ggL_law_X4_fits : GoodIn wsL_law wsX4_fits := goodIn_r _ [611, 15, 231, 232, 233, 14, 234, 235, 236, 237, 238, 136, 239, 240, 241, 242, 243, 244, 37, 38, 245, 246, 247, 248, 137, 2, 138, 249, 250, 251, 252, 253, 35, 254, 255, 256, 34, 612, 613, 614, 615, 469, 41, 40, 98, 99, 100, 683, 684, 685, 686, 687, 688, 713, 714, 715, 716, 717, 718, 719, 720, 721, 722, 723, 724] (by decide +kernel) (by decide +kernel)
set_option maxRecDepth 20000 in
theorem gL_law_X4_fits : GoodIn wsL_law (wsV RL 104 RX4 yX4_fits wsX4_fits) := goodIn_app (goodIn_of _ (by decide +kernel)) ggL_law_X4_fits
set_option maxRecDepth 20000 in
theorem ggL_law_X5_fits : GoodIn wsL_law wsX5_fits := goodIn_r _ [619, 599, 277, 278, 279, 5, 280, 269, 270, 271, 272, 273, 274, 275, 276, 113, 67, 156, 80, 79, 68, 143, 144, 145, 146, 114, 115, 116, 117, 118, 119, 120, 121, 620, 621, 622, 623, 71, 72, 689, 690, 691, 692, 693, 694, 695, 696, 697, 698, 699, 700, 701, 702, 703, 704, 705, 706, 707, 708, 709, 710, 711, 712] (by decide +kernel) (by decide +kernel)
set_option maxRecDepth 20000 in
theorem gL_law_X5_fits : GoodIn wsL_law (wsV RL 107 RX5 yX5_fits wsX5_fits) := goodIn_app (goodIn_of _ (by decide +kernel)) ggL_law_X5_fits
set_option maxRecDepth 20000 in
theorem ggL_law_X4_year : GoodIn wsL_law wsX4_year := goodIn_r _ [627, 25, 628, 388, 88, 89, 2, 90, 629, 312, 313, 24, 314, 315, 316, 317, 54, 318, 43, 44, 45, 630, 352, 353, 354, 55, 325, 326, 327, 328, 329, 236, 237, 14, 238, 136, 239, 355, 241, 242, 243, 244, 37, 38, 245, 246, 247, 248, 137, 138, 249, 250, 251, 252, 253, 35, 254, 255, 256, 34, 334, 335, 336, 337, 338, 339, 340, 341, 631, 343, 344, 345, 346, 389, 390, 391, 392, 683, 684, 685, 686, 687, 688, 727, 728, 729, 730, 731, 713, 714, 715, 716, 717, 718, 719, 720, 721, 722, 723, 724] (by decide +kernel) (by decide +kernel)
set_option maxRecDepth 20000 in
theorem gL_law_X4_year : GoodIn wsL_law (wsV RL 108 RX4 yX4_year wsX4_year) := goodIn_app (goodIn_of _ (by decide +kernel)) ggL_law_X4_year
set_option maxRecDepth 20000 in
theorem ggL_law_X5_year : GoodIn wsL_law wsX5_year := goodIn_r _ [635, 636, 637, 441, 367, 361, 638, 639, 640, 119, 120, 5, 121, 277, 278, 279, 280, 269, 270, 271, 272, 273, 274, 275, 276, 113, 67, 156, 80, 79, 68, 143, 144, 145, 146, 114, 115, 116, 117, 118, 376, 377, 378, 379, 689, 690, 691, 692, 693, 694, 695, 696, 697, 698, 699, 700, 701, 702, 703, 704, 705, 706, 707, 708, 709, 710, 711, 712] (by decide +kernel) (by decide +kernel)
set_option maxRecDepth 20000 in
theorem gL_law_X5_year : GoodIn wsL_law (wsV RL 111 RX5 yX5_year wsX5_year) := goodIn_app (goodIn_of _ (by decide +kernel)) ggL_law_X5_year
set_option maxRecDepth 20000 in
theorem ggL_law_X4_image : GoodIn wsL_law wsX4_image := goodIn_r _ [644, 17, 12, 13, 14, 15, 88, 89, 2, 90, 30, 31, 32, 33, 10, 11, 34, 35, 36, 37, 38, 39, 40, 41, 42, 43, 44, 45, 464, 465, 466, 467, 136, 239, 468, 253, 469, 470, 471, 472, 473, 683, 684, 685, 686, 687, 688, 713, 714, 715, 716, 717, 718, 719, 720, 721, 722, 723, 724] (by decide +kernel) (by decide +kernel)
set_option maxRecDepth 20000 in
theorem gL_law_X4_image : GoodIn wsL_law (wsV RL 112 RX4 yX4_image wsX4_image) := goodIn_app (goodIn_of _ (by decide +kernel)) ggL_law_X4_image
set_option maxRecDepth 20000 in
theorem ggL_law_X5_image : GoodIn wsL_law wsX5_image := goodIn_r _ [648, 649, 650, 78, 119, 120, 5, 121, 651, 652, 653, 654, 114, 113, 156, 79, 80, 599, 67, 68, 69, 71, 72, 70, 655, 656, 657, 658, 76, 689, 690, 691, 692, 693, 694, 695, 696, 697, 698, 699, 700, 701, 702, 703, 704, 705, 706, 707, 708, 709, 710, 711, 712] (by decide +kernel) (by decide +kernel)
set_option maxRecDepth 20000 in
theorem gL_law_X5_image : GoodIn wsL_law (wsV RL 115 RX5 yX5_image wsX5_image) := goodIn_app (goodIn_of _ (by decide +kernel)) ggL_law_X5_image
set_option maxRecDepth 20000 in
theorem ggL_law_X4_restore : GoodIn wsL_law wsX4_restore := goodIn_r _ [662, 17, 15, 88, 89, 2, 90, 464, 465, 466, 14, 467, 34, 35, 136, 239, 468, 253, 469, 37, 470, 471, 472, 473, 38, 39, 40, 41, 683, 684, 685, 686, 687, 688, 713, 714, 715, 716, 717, 718, 719, 720, 721, 722, 723, 724] (by decide +kernel) (by decide +kernel)
set_option maxRecDepth 20000 in
theorem gL_law_X4_restore : GoodIn wsL_law (wsV RL 116 RX4 yX4_restore wsX4_restore) := goodIn_app (goodIn_of _ (by decide +kernel)) ggL_law_X4_restore
set_option maxRecDepth 20000 in
theorem ggL_law_X5_restore : GoodIn wsL_law wsX5_restore := goodIn_r _ [666, 78, 649, 650, 119, 120, 5, 121, 651, 652, 653, 654, 114, 113, 156, 79, 80, 599, 67, 68, 69, 71, 72, 70, 655, 656, 657, 658, 76, 689, 690, 691, 692, 693, 694, 695, 696, 697, 698, 699, 700, 701, 702, 703, 704, 705, 706, 707, 708, 709, 710, 711, 712] (by decide +kernel) (by decide +kernel)
set_option maxRecDepth 20000 in
theorem gL_law_X5_restore : GoodIn wsL_law (wsV RL 119 RX5 yX5_restore wsX5_restore) := goodIn_app (goodIn_of _ (by decide +kernel)) ggL_law_X5_restore
set_option maxRecDepth 20000 in
theorem ggL_law_X4_told : GoodIn wsL_law wsX4_told := goodIn_r _ [670, 21, 171, 15, 85, 161, 162, 151, 588, 401, 88, 89, 2, 90, 671, 672, 673, 674, 568, 459, 86, 87, 132, 133, 134, 14, 135, 136, 137, 138, 260, 683, 684, 685, 686, 687, 688, 725, 726, 713, 714, 715, 716, 717, 718, 719, 720, 721, 722, 723, 724] (by decide +kernel) (by decide +kernel)
set_option maxRecDepth 20000 in
theorem gL_law_X4_told : GoodIn wsL_law (wsV RL 120 RX4 yX4_told wsX4_told) := goodIn_app (goodIn_of _ (by decide +kernel)) ggL_law_X4_told
set_option maxRecDepth 20000 in
theorem ggL_law_X5_told : GoodIn wsL_law wsX5_told := goodIn_r _ [678, 679, 680, 70, 681, 682, 67, 68, 69, 113, 183, 114, 79, 80, 156, 599, 119, 120, 5, 121, 143, 144, 145, 146, 115, 116, 117, 118, 689, 690, 691, 692, 693, 694, 695, 696, 697, 698, 699, 700, 701, 702, 703, 704, 705, 706, 707, 708, 709, 710, 711, 712] (by decide +kernel) (by decide +kernel)
set_option maxRecDepth 20000 in
theorem gL_law_X5_told : GoodIn wsL_law (wsV RL 123 RX5 yX5_told wsX5_told) := goodIn_app (goodIn_of _ (by decide +kernel)) ggL_law_X5_told
