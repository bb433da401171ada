/-! THE LAW, 1: the words of the law in its table, by their places -/
theorem lw_mem {big ws : List Cond} (ps : List Nat) (hp : ws = ps.filterMap (fun i => big[i]?)) : ∀ w ∈ ws, w ∈ big := by
  intro w hw
  rw [hp] at hw
  obtain ⟨i, -, hi⟩ := List.mem_filterMap.mp hw
  exact List.mem_of_getElem? hi
set_option maxRecDepth 20000 in
theorem iwsL_law_r1 : ∀ w ∈ wsL_law_r1, w ∈ lw_tbl := lw_mem [33, 34, 23, 524, 525, 29, 35, 36, 37, 38, 39, 40, 41, 42, 24, 164, 165, 166, 103, 104, 26, 167, 118, 119] (by decide +kernel)
set_option maxRecDepth 20000 in
theorem iwsL_law_r2 : ∀ w ∈ wsL_law_r2, w ∈ lw_tbl := lw_mem [27, 168, 142, 143, 28, 169, 43, 44, 45, 46, 50, 52, 101, 66, 68, 71, 74, 75, 47, 48, 25, 49, 106, 107] (by decide +kernel)
set_option maxRecDepth 20000 in
theorem iwsL_law_r3 : ∀ w ∈ wsL_law_r3, w ∈ lw_tbl := lw_mem [108, 109, 120, 121, 122, 123, 125, 124, 145, 146, 147, 149, 150, 151, 152, 526, 527, 528, 529, 531, 532, 533, 538, 539] (by decide +kernel)
set_option maxRecDepth 20000 in
theorem iwsL_law_r4 : ∀ w ∈ wsL_law_r4, w ∈ lw_tbl := lw_mem [540, 542, 544, 549, 550, 603, 551, 536, 537, 183, 184, 185, 186, 55, 60, 57, 187, 188, 189, 190, 191, 192, 193, 194] (by decide +kernel)
set_option maxRecDepth 20000 in
theorem iwsL_law_r5 : ∀ w ∈ wsL_law_r5, w ∈ lw_tbl := lw_mem [195, 196, 198, 199, 200, 201, 202, 30, 203, 204, 205, 206, 604, 605, 606, 607, 618, 534, 530, 608, 609, 610, 611, 612] (by decide +kernel)
set_option maxRecDepth 20000 in
theorem iwsL_law_r6 : ∀ w ∈ wsL_law_r6, w ∈ lw_tbl := lw_mem [613, 614, 615, 616, 617, 619, 620, 621, 207, 208, 209, 210, 211, 212, 213, 214, 54, 216, 217, 622, 623, 624, 625, 626] (by decide +kernel)
set_option maxRecDepth 20000 in
theorem iwsL_law_r7 : ∀ w ∈ wsL_law_r7, w ∈ lw_tbl := lw_mem [628, 3, 629, 218, 219, 220, 221, 63, 630, 631, 632, 633, 535, 222, 223, 224, 225, 51, 53, 634, 635, 636, 637, 226] (by decide +kernel)
set_option maxRecDepth 20000 in
theorem iwsL_law_r8 : ∀ w ∈ wsL_law_r8, w ∈ lw_tbl := lw_mem [227, 228, 229, 112, 230, 231, 232, 233, 110, 638, 639, 640, 641, 642, 643, 543, 235, 236, 237, 238, 644, 645, 646, 647] (by decide +kernel)
set_option maxRecDepth 20000 in
theorem iwsL_law_r9 : ∀ w ∈ wsL_law_r9, w ∈ lw_tbl := lw_mem [239, 240, 241, 242, 243, 244, 245, 246, 247, 248, 249, 250, 251, 252, 253, 254, 255, 256, 257, 258, 259, 648, 649, 650] (by decide +kernel)
set_option maxRecDepth 20000 in
theorem iwsL_law_r10 : ∀ w ∈ wsL_law_r10, w ∈ lw_tbl := lw_mem [651, 652, 653, 654, 655, 656, 657, 658, 659, 660, 661, 260, 261, 262, 263, 264, 265, 266, 267, 268, 269, 270, 271, 56] (by decide +kernel)
set_option maxRecDepth 20000 in
theorem iwsL_law_r11 : ∀ w ∈ wsL_law_r11, w ∈ lw_tbl := lw_mem [272, 273, 274, 275, 276, 284, 285, 31, 286, 277, 278, 279, 280, 62, 281, 282, 283, 287, 288, 289, 290, 291, 292, 293] (by decide +kernel)
set_option maxRecDepth 20000 in
theorem iwsL_law_r12 : ∀ w ∈ wsL_law_r12, w ∈ lw_tbl := lw_mem [294, 662, 663, 664, 665, 666, 668, 4, 669, 670, 672, 5, 673, 674, 676, 6, 677, 295, 296, 297, 298, 678, 679, 680] (by decide +kernel)
set_option maxRecDepth 20000 in
theorem iwsL_law_r13 : ∀ w ∈ wsL_law_r13, w ∈ lw_tbl := lw_mem [681, 299, 300, 301, 302, 682, 683, 684, 685, 303, 304, 305, 306, 127, 307, 308, 309, 310, 311, 312, 313, 314, 111, 315] (by decide +kernel)
set_option maxRecDepth 20000 in
theorem iwsL_law_r14 : ∀ w ∈ wsL_law_r14, w ∈ lw_tbl := lw_mem [316, 317, 318, 126, 128, 129, 319, 320, 321, 322, 323, 324, 325, 326, 327, 328, 329, 330, 331, 332, 333, 334, 336, 337] (by decide +kernel)
set_option maxRecDepth 20000 in
theorem iwsL_law_r15 : ∀ w ∈ wsL_law_r15, w ∈ lw_tbl := lw_mem [338, 339, 340, 341, 342, 343, 344, 345, 346, 347, 61, 349, 350, 351, 352, 354, 355, 356, 357, 358, 686, 687, 688, 689] (by decide +kernel)
set_option maxRecDepth 20000 in
theorem iwsL_law_r16 : ∀ w ∈ wsL_law_r16, w ∈ lw_tbl := lw_mem [711, 546, 690, 691, 693, 7, 694, 545, 695, 697, 8, 698, 699, 701, 9, 702, 703, 705, 10, 706, 707, 709, 11, 710] (by decide +kernel)
set_option maxRecDepth 20000 in
theorem iwsL_law_r17 : ∀ w ∈ wsL_law_r17, w ∈ lw_tbl := lw_mem [359, 360, 361, 362, 130, 363, 364, 365, 366, 712, 713, 714, 715, 368, 369, 370, 371, 73, 372, 373, 374, 375, 716, 717] (by decide +kernel)
set_option maxRecDepth 20000 in
theorem iwsL_law_r18 : ∀ w ∈ wsL_law_r18, w ∈ lw_tbl := lw_mem [718, 719, 720, 722, 12, 723, 376, 377, 378, 379, 380, 381, 382, 383, 384, 385, 386, 387, 388, 389, 390, 391, 392, 393] (by decide +kernel)
set_option maxRecDepth 20000 in
theorem iwsL_law_r19 : ∀ w ∈ wsL_law_r19, w ∈ lw_tbl := lw_mem [394, 395, 396, 397, 724, 725, 726, 727, 728, 729, 730, 738, 731, 733, 13, 734, 735, 736, 737, 398, 399, 400, 401, 402] (by decide +kernel)
set_option maxRecDepth 20000 in
theorem iwsL_law_r20 : ∀ w ∈ wsL_law_r20, w ∈ lw_tbl := lw_mem [404, 0, 405, 70, 406, 408, 1, 409, 410, 411, 412, 413, 59, 64, 414, 416, 415, 32, 739, 740, 741, 742, 547, 743] (by decide +kernel)
set_option maxRecDepth 20000 in
theorem iwsL_law_r21 : ∀ w ∈ wsL_law_r21, w ∈ lw_tbl := lw_mem [745, 14, 746, 548, 417, 418, 419, 420, 747, 748, 749, 750, 421, 422, 423, 424, 425, 426, 427, 428, 72, 429, 148, 430] (by decide +kernel)
set_option maxRecDepth 20000 in
theorem iwsL_law_r22 : ∀ w ∈ wsL_law_r22, w ∈ lw_tbl := lw_mem [431, 432, 433, 434, 435, 58, 69, 436, 438, 439, 440, 441, 442, 443, 444, 445, 446, 447, 448, 449, 450, 451, 452, 453] (by decide +kernel)
set_option maxRecDepth 20000 in
theorem iwsL_law_r23 : ∀ w ∈ wsL_law_r23, w ∈ lw_tbl := lw_mem [454, 455, 456, 457, 458, 459, 460, 461, 462, 463, 464, 465, 466, 467, 468, 469, 751, 752, 753, 754, 755, 757, 15, 758] (by decide +kernel)
set_option maxRecDepth 20000 in
theorem iwsL_law_r24 : ∀ w ∈ wsL_law_r24, w ∈ lw_tbl := lw_mem [759, 761, 16, 762, 763, 765, 17, 766, 767, 769, 18, 770, 470, 471, 472, 473, 67, 474, 475, 771, 772, 773, 774, 476] (by decide +kernel)
set_option maxRecDepth 20000 in
theorem iwsL_law_r25 : ∀ w ∈ wsL_law_r25, w ∈ lw_tbl := lw_mem [477, 478, 479, 775, 776, 777, 778, 779, 480, 481, 482, 483, 65, 484, 485, 486, 487, 780, 781, 782, 783, 784, 785, 541] (by decide +kernel)
set_option maxRecDepth 20000 in
theorem iwsL_law_r26 : ∀ w ∈ wsL_law_r26, w ∈ lw_tbl := lw_mem [488, 489, 490, 491, 786, 787, 788, 789, 492, 493, 494, 495, 496, 497, 498, 499, 790, 791, 792, 793, 794, 796, 19, 797] (by decide +kernel)
set_option maxRecDepth 20000 in
theorem iwsL_law_r27 : ∀ w ∈ wsL_law_r27, w ∈ lw_tbl := lw_mem [500, 501, 502, 503, 505, 504, 506, 507, 798, 799, 800, 801, 802, 803, 804, 805, 806, 508, 509, 510, 511, 807, 808, 809] (by decide +kernel)
set_option maxRecDepth 20000 in
theorem iwsL_law_r28 : ∀ w ∈ wsL_law_r28, w ∈ lw_tbl := lw_mem [810, 552, 553, 811, 813, 20, 814, 815, 817, 21, 818, 512, 513, 514, 515, 819, 820, 821, 822, 516, 517, 518, 519, 520] (by decide +kernel)
set_option maxRecDepth 20000 in
theorem iwsL_law_r29 : ∀ w ∈ wsL_law_r29, w ∈ lw_tbl := lw_mem [522, 2, 523, 823, 824, 825, 826, 827, 828, 829, 830] (by decide +kernel)
set_option maxRecDepth 20000 in
theorem iwsX0 : ∀ w ∈ wsX00, w ∈ lw_tbl := lw_mem [76, 78, 80, 82, 84, 86, 88, 90, 92, 94, 96, 98] (by decide +kernel)
set_option maxRecDepth 20000 in
theorem iwsX1 : ∀ w ∈ wsX10, w ∈ lw_tbl := lw_mem [131, 133, 135, 137, 139] (by decide +kernel)
set_option maxRecDepth 20000 in
theorem iwsX2 : ∀ w ∈ wsX20, w ∈ lw_tbl := lw_mem [113, 115] (by decide +kernel)
set_option maxRecDepth 20000 in
theorem iwsX3 : ∀ w ∈ wsX30, w ∈ lw_tbl := lw_mem [153, 155, 157, 159, 161] (by decide +kernel)
set_option maxRecDepth 20000 in
theorem iwsX4 : ∀ w ∈ wsX40, w ∈ lw_tbl := lw_mem [170, 172, 174, 176, 178, 180] (by decide +kernel)
set_option maxRecDepth 20000 in
theorem iwsX5 : ∀ w ∈ wsX50, w ∈ lw_tbl := lw_mem [554, 556, 558, 560, 562, 564, 566, 568, 570, 572, 574, 576, 578, 580, 582, 584, 586, 588, 590, 592, 594, 596, 598, 600] (by decide +kernel)
theorem wsL_law_in : ∀ w ∈ wsL_law, w ∈ lw_tbl := by
  intro w hw
  unfold wsL_law at hw
  simp only [List.mem_append, List.not_mem_nil, or_false] at hw
  rcases hw with ((((((h | h | h | h | h | h | h | h | h | h | h | h | h | h | h | h | h | h | h | h | h | h | h | h | h | h | h | h | h) | h) | h) | h) | h) | h) | h
  · exact iwsL_law_r1 w h
  · exact iwsL_law_r2 w h
  · exact iwsL_law_r3 w h
  · exact iwsL_law_r4 w h
  · exact iwsL_law_r5 w h
  · exact iwsL_law_r6 w h
  · exact iwsL_law_r7 w h
  · exact iwsL_law_r8 w h
  · exact iwsL_law_r9 w h
  · exact iwsL_law_r10 w h
  · exact iwsL_law_r11 w h
  · exact iwsL_law_r12 w h
  · exact iwsL_law_r13 w h
  · exact iwsL_law_r14 w h
  · exact iwsL_law_r15 w h
  · exact iwsL_law_r16 w h
  · exact iwsL_law_r17 w h
  · exact iwsL_law_r18 w h
  · exact iwsL_law_r19 w h
  · exact iwsL_law_r20 w h
  · exact iwsL_law_r21 w h
  · exact iwsL_law_r22 w h
  · exact iwsL_law_r23 w h
  · exact iwsL_law_r24 w h
  · exact iwsL_law_r25 w h
  · exact iwsL_law_r26 w h
  · exact iwsL_law_r27 w h
  · exact iwsL_law_r28 w h
  · exact iwsL_law_r29 w h
  · exact iwsX4 w h
  · exact iwsX5 w h
  · exact iwsX0 w h
  · exact iwsX2 w h
  · exact iwsX1 w h
  · exact iwsX3 w h
set_option maxRecDepth 20000 in
theorem inwL : ∀ w ∈ nwL, w ∈ lw_tbl := lw_mem [105, 144, 197, 215, 335, 353, 348, 367, 234, 437] (by decide +kernel)
theorem law_ao : Cond.arrayOver (.object RX0) ∈ lw_tbl := List.mem_of_getElem? (i := 102) (by decide +kernel)
theorem law_ai : Cond.arrayClass .int ∈ lw_tbl := List.mem_of_getElem? (i := 101) (by decide +kernel)
theorem law_az : Cond.arrayClass .boolean ∈ lw_tbl := List.mem_of_getElem? (i := 603) (by decide +kernel)
theorem law_in0 : Cond.instantiable RX0 12 ∈ lw_tbl := List.mem_of_getElem? (i := 42) (by decide +kernel)
theorem law_in1 : Cond.instantiable RX1 5 ∈ lw_tbl := List.mem_of_getElem? (i := 119) (by decide +kernel)
theorem law_in2 : Cond.instantiable RX2 2 ∈ lw_tbl := List.mem_of_getElem? (i := 104) (by decide +kernel)
theorem law_in3 : Cond.instantiable RX3 5 ∈ lw_tbl := List.mem_of_getElem? (i := 143) (by decide +kernel)
theorem law_in4 : Cond.instantiable RX4 6 ∈ lw_tbl := List.mem_of_getElem? (i := 34) (by decide +kernel)
theorem law_in5 : Cond.instantiable RX5 24 ∈ lw_tbl := List.mem_of_getElem? (i := 525) (by decide +kernel)
