/-! THE LAW, 1: the words of the law in its table, by their places -/
theorem lw_mem {big ws : List Cond} (ps : List Nat) (hp : ws = ps.filterMap (fun i => big[i]?)) : ∀ w ∈ ws, w ∈ big := by
  intro w hw
  rw [hp] at hw
  obtain ⟨i, -, hi⟩ := List.mem_filterMap.mp hw
  exact List.mem_of_getElem? hi
set_option maxRecDepth 20000 in
theorem iwsL_law_r1 : ∀ w ∈ wsL_law_r1, w ∈ lw_tbl := lw_mem [33, 34, 23, 522, 523, 29, 35, 36, 37, 38, 39, 40, 41, 42, 24, 164, 165, 166, 103, 104, 26, 167, 118, 119] (by decide +kernel)
set_option maxRecDepth 20000 in
theorem iwsL_law_r2 : ∀ w ∈ wsL_law_r2, w ∈ lw_tbl := lw_mem [27, 168, 142, 143, 28, 169, 43, 44, 45, 46, 50, 52, 101, 66, 68, 71, 74, 75, 47, 48, 25, 49, 106, 107] (by decide +kernel)
set_option maxRecDepth 20000 in
theorem iwsL_law_r3 : ∀ w ∈ wsL_law_r3, w ∈ lw_tbl := lw_mem [108, 109, 120, 121, 122, 123, 125, 124, 145, 146, 147, 149, 150, 151, 152, 524, 525, 526, 527, 529, 530, 531, 536, 537] (by decide +kernel)
set_option maxRecDepth 20000 in
theorem iwsL_law_r4 : ∀ w ∈ wsL_law_r4, w ∈ lw_tbl := lw_mem [538, 540, 542, 547, 548, 601, 549, 534, 535, 183, 184, 185, 186, 55, 60, 57, 187, 188, 189, 190, 191, 192, 193, 194] (by decide +kernel)
set_option maxRecDepth 20000 in
theorem iwsL_law_r5 : ∀ w ∈ wsL_law_r5, w ∈ lw_tbl := lw_mem [195, 196, 198, 199, 200, 201, 202, 30, 203, 204, 205, 206, 602, 603, 604, 605, 616, 532, 528, 606, 607, 608, 609, 610] (by decide +kernel)
set_option maxRecDepth 20000 in
theorem iwsL_law_r6 : ∀ w ∈ wsL_law_r6, w ∈ lw_tbl := lw_mem [611, 612, 613, 614, 615, 617, 618, 619, 207, 208, 209, 210, 211, 212, 213, 214, 54, 216, 217, 620, 621, 622, 623, 624] (by decide +kernel)
set_option maxRecDepth 20000 in
theorem iwsL_law_r7 : ∀ w ∈ wsL_law_r7, w ∈ lw_tbl := lw_mem [626, 3, 627, 218, 219, 220, 221, 63, 628, 629, 630, 631, 533, 222, 223, 224, 225, 51, 53, 632, 633, 634, 635, 226] (by decide +kernel)
set_option maxRecDepth 20000 in
theorem iwsL_law_r8 : ∀ w ∈ wsL_law_r8, w ∈ lw_tbl := lw_mem [227, 228, 229, 112, 230, 231, 232, 233, 110, 636, 637, 638, 639, 640, 641, 541, 235, 236, 237, 238, 642, 643, 644, 645] (by decide +kernel)
set_option maxRecDepth 20000 in
theorem iwsL_law_r9 : ∀ w ∈ wsL_law_r9, w ∈ lw_tbl := lw_mem [239, 240, 241, 242, 243, 244, 245, 246, 247, 248, 249, 250, 251, 252, 253, 254, 255, 256, 257, 258, 259, 646, 647, 648] (by decide +kernel)
set_option maxRecDepth 20000 in
theorem iwsL_law_r10 : ∀ w ∈ wsL_law_r10, w ∈ lw_tbl := lw_mem [649, 650, 651, 652, 653, 654, 655, 656, 657, 658, 659, 260, 261, 262, 263, 264, 265, 266, 267, 268, 269, 270, 271, 56] (by decide +kernel)
set_option maxRecDepth 20000 in
theorem iwsL_law_r11 : ∀ w ∈ wsL_law_r11, w ∈ lw_tbl := lw_mem [272, 273, 274, 275, 283, 284, 31, 285, 276, 277, 278, 279, 62, 280, 281, 282, 286, 287, 288, 289, 290, 291, 292, 293] (by decide +kernel)
set_option maxRecDepth 20000 in
theorem iwsL_law_r12 : ∀ w ∈ wsL_law_r12, w ∈ lw_tbl := lw_mem [660, 661, 662, 663, 664, 666, 4, 667, 668, 670, 5, 671, 672, 674, 6, 675, 294, 295, 296, 297, 676, 677, 678, 679] (by decide +kernel)
set_option maxRecDepth 20000 in
theorem iwsL_law_r13 : ∀ w ∈ wsL_law_r13, w ∈ lw_tbl := lw_mem [298, 299, 300, 301, 680, 681, 682, 683, 302, 303, 304, 305, 127, 306, 307, 308, 309, 310, 311, 312, 313, 111, 314, 315] (by decide +kernel)
set_option maxRecDepth 20000 in
theorem iwsL_law_r14 : ∀ w ∈ wsL_law_r14, w ∈ lw_tbl := lw_mem [316, 317, 126, 128, 129, 318, 319, 320, 321, 322, 323, 324, 325, 326, 327, 328, 329, 330, 331, 332, 333, 335, 336, 337] (by decide +kernel)
set_option maxRecDepth 20000 in
theorem iwsL_law_r15 : ∀ w ∈ wsL_law_r15, w ∈ lw_tbl := lw_mem [338, 339, 340, 341, 342, 343, 344, 345, 346, 61, 348, 349, 350, 351, 353, 354, 355, 356, 357, 684, 685, 686, 687, 709] (by decide +kernel)
set_option maxRecDepth 20000 in
theorem iwsL_law_r16 : ∀ w ∈ wsL_law_r16, w ∈ lw_tbl := lw_mem [544, 688, 689, 691, 7, 692, 543, 693, 695, 8, 696, 697, 699, 9, 700, 701, 703, 10, 704, 705, 707, 11, 708, 358] (by decide +kernel)
set_option maxRecDepth 20000 in
theorem iwsL_law_r17 : ∀ w ∈ wsL_law_r17, w ∈ lw_tbl := lw_mem [359, 360, 361, 130, 362, 363, 364, 365, 710, 711, 712, 713, 367, 368, 369, 370, 73, 371, 372, 373, 374, 714, 715, 716] (by decide +kernel)
set_option maxRecDepth 20000 in
theorem iwsL_law_r18 : ∀ w ∈ wsL_law_r18, w ∈ lw_tbl := lw_mem [717, 718, 720, 12, 721, 375, 376, 377, 378, 379, 380, 381, 382, 383, 384, 385, 386, 387, 388, 389, 390, 391, 392, 393] (by decide +kernel)
set_option maxRecDepth 20000 in
theorem iwsL_law_r19 : ∀ w ∈ wsL_law_r19, w ∈ lw_tbl := lw_mem [394, 395, 396, 722, 723, 724, 725, 726, 727, 728, 736, 729, 731, 13, 732, 733, 734, 735, 397, 398, 399, 400, 401, 403] (by decide +kernel)
set_option maxRecDepth 20000 in
theorem iwsL_law_r20 : ∀ w ∈ wsL_law_r20, w ∈ lw_tbl := lw_mem [0, 404, 70, 405, 407, 1, 408, 409, 410, 411, 412, 59, 64, 413, 415, 414, 32, 737, 738, 739, 740, 545, 741, 743] (by decide +kernel)
set_option maxRecDepth 20000 in
theorem iwsL_law_r21 : ∀ w ∈ wsL_law_r21, w ∈ lw_tbl := lw_mem [14, 744, 546, 416, 417, 418, 419, 745, 746, 747, 748, 420, 421, 422, 423, 424, 425, 426, 427, 72, 428, 148, 429, 430] (by decide +kernel)
set_option maxRecDepth 20000 in
theorem iwsL_law_r22 : ∀ w ∈ wsL_law_r22, w ∈ lw_tbl := lw_mem [431, 432, 433, 58, 69, 434, 436, 437, 438, 439, 440, 441, 442, 443, 444, 445, 446, 447, 448, 449, 450, 451, 452, 453] (by decide +kernel)
set_option maxRecDepth 20000 in
theorem iwsL_law_r23 : ∀ w ∈ wsL_law_r23, w ∈ lw_tbl := lw_mem [454, 455, 456, 457, 458, 459, 460, 461, 462, 463, 464, 465, 466, 467, 749, 750, 751, 752, 753, 755, 15, 756, 757, 759] (by decide +kernel)
set_option maxRecDepth 20000 in
theorem iwsL_law_r24 : ∀ w ∈ wsL_law_r24, w ∈ lw_tbl := lw_mem [16, 760, 761, 763, 17, 764, 765, 767, 18, 768, 468, 469, 470, 471, 67, 472, 473, 769, 770, 771, 772, 474, 475, 476] (by decide +kernel)
set_option maxRecDepth 20000 in
theorem iwsL_law_r25 : ∀ w ∈ wsL_law_r25, w ∈ lw_tbl := lw_mem [477, 773, 774, 775, 776, 777, 478, 479, 480, 481, 65, 482, 483, 484, 485, 778, 779, 780, 781, 782, 783, 539, 486, 487] (by decide +kernel)
set_option maxRecDepth 20000 in
theorem iwsL_law_r26 : ∀ w ∈ wsL_law_r26, w ∈ lw_tbl := lw_mem [488, 489, 784, 785, 786, 787, 490, 491, 492, 493, 494, 495, 496, 497, 788, 789, 790, 791, 792, 794, 19, 795, 498, 499] (by decide +kernel)
set_option maxRecDepth 20000 in
theorem iwsL_law_r27 : ∀ w ∈ wsL_law_r27, w ∈ lw_tbl := lw_mem [500, 501, 503, 502, 504, 505, 796, 797, 798, 799, 800, 801, 802, 803, 804, 506, 507, 508, 509, 805, 806, 807, 808, 550] (by decide +kernel)
set_option maxRecDepth 20000 in
theorem iwsL_law_r28 : ∀ w ∈ wsL_law_r28, w ∈ lw_tbl := lw_mem [551, 809, 811, 20, 812, 813, 815, 21, 816, 510, 511, 512, 513, 817, 818, 819, 820, 514, 515, 516, 517, 518, 520, 2] (by decide +kernel)
set_option maxRecDepth 20000 in
theorem iwsL_law_r29 : ∀ w ∈ wsL_law_r29, w ∈ lw_tbl := lw_mem [521, 821, 822, 823, 824, 825, 826, 827, 828] (by decide +kernel)
set_option maxRecDepth 20000 in
theorem iwsX0 : ∀ w ∈ wsX00, w ∈ lw_tbl := lw_mem [76, 78, 80, 82, 84, 86, 88, 90, 92, 94, 96, 98] (by decide +kernel)
set_option maxRecDepth 20000 in
theorem iwsX1 : ∀ w ∈ wsX10, w ∈ lw_tbl := lw_mem [131, 133, 135, 137, 139] (by decide +kernel)
set_option maxRecDepth 20000 in
theorem iwsX2 : ∀ w ∈ wsX20, w ∈ lw_tbl := lw_mem [113, 115] (by decide +kernel)
set_option maxRecDepth 20000 in
theorem iwsX3 : ∀ w ∈ wsX30, w ∈ lw_tbl := lw_mem [153, 155, 157, 159, 161] (by decide +kernel)
set_option maxRecDepth 20000 in
theorem iwsX4 : ∀ w ∈ wsX40, w ∈ lw_tbl := lw_mem [170, 172, 174, 176, 178, 180] (by decide +kernel)
set_option maxRecDepth 20000 in
theorem iwsX5 : ∀ w ∈ wsX50, w ∈ lw_tbl := lw_mem [552, 554, 556, 558, 560, 562, 564, 566, 568, 570, 572, 574, 576, 578, 580, 582, 584, 586, 588, 590, 592, 594, 596, 598] (by decide +kernel)
theorem wsL_law_in : ∀ w ∈ wsL_law, w ∈ lw_tbl := by
  intro w hw
  unfold wsL_law at hw
  simp only [List.mem_append, List.not_mem_nil, or_false] at hw
  rcases hw with ((((((h | h | h | h | h | h | h | h | h | h | h | h | h | h | h | h | h | h | h | h | h | h | h | h | h | h | h | h | h) | h) | h) | h) | h) | h) | h
  · exact iwsL_law_r1 w h
  · exact iwsL_law_r2 w h
  · exact iwsL_law_r3 w h
  · exact iwsL_law_r4 w h
  · exact iwsL_law_r5 w h
  · exact iwsL_law_r6 w h
  · exact iwsL_law_r7 w h
  · exact iwsL_law_r8 w h
  · exact iwsL_law_r9 w h
  · exact iwsL_law_r10 w h
  · exact iwsL_law_r11 w h
  · exact iwsL_law_r12 w h
  · exact iwsL_law_r13 w h
  · exact iwsL_law_r14 w h
  · exact iwsL_law_r15 w h
  · exact iwsL_law_r16 w h
  · exact iwsL_law_r17 w h
  · exact iwsL_law_r18 w h
  · exact iwsL_law_r19 w h
  · exact iwsL_law_r20 w h
  · exact iwsL_law_r21 w h
  · exact iwsL_law_r22 w h
  · exact iwsL_law_r23 w h
  · exact iwsL_law_r24 w h
  · exact iwsL_law_r25 w h
  · exact iwsL_law_r26 w h
  · exact iwsL_law_r27 w h
  · exact iwsL_law_r28 w h
  · exact iwsL_law_r29 w h
  · exact iwsX4 w h
  · exact iwsX5 w h
  · exact iwsX0 w h
  · exact iwsX2 w h
  · exact iwsX1 w h
  · exact iwsX3 w h
set_option maxRecDepth 20000 in
theorem inwL : ∀ w ∈ nwL, w ∈ lw_tbl := lw_mem [105, 144, 197, 215, 334, 352, 347, 366, 234, 435] (by decide +kernel)
theorem law_ao : Cond.arrayOver (.object RX0) ∈ lw_tbl := List.mem_of_getElem? (i := 102) (by decide +kernel)
theorem law_ai : Cond.arrayClass .int ∈ lw_tbl := List.mem_of_getElem? (i := 101) (by decide +kernel)
theorem law_az : Cond.arrayClass .boolean ∈ lw_tbl := List.mem_of_getElem? (i := 601) (by decide +kernel)
theorem law_in0 : Cond.instantiable RX0 12 ∈ lw_tbl := List.mem_of_getElem? (i := 42) (by decide +kernel)
theorem law_in1 : Cond.instantiable RX1 5 ∈ lw_tbl := List.mem_of_getElem? (i := 119) (by decide +kernel)
theorem law_in2 : Cond.instantiable RX2 2 ∈ lw_tbl := List.mem_of_getElem? (i := 104) (by decide +kernel)
theorem law_in3 : Cond.instantiable RX3 5 ∈ lw_tbl := List.mem_of_getElem? (i := 143) (by decide +kernel)
theorem law_in4 : Cond.instantiable RX4 6 ∈ lw_tbl := List.mem_of_getElem? (i := 34) (by decide +kernel)
theorem law_in5 : Cond.instantiable RX5 24 ∈ lw_tbl := List.mem_of_getElem? (i := 523) (by decide +kernel)
