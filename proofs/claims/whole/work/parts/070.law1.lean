/-! THE LAW, 1: the words of the law in its table, by their places -/
theorem lw_mem {big ws : List Cond} (ps : List Nat) (hp : ws = ps.filterMap (fun i => big[i]?)) : ∀ w ∈ ws, w ∈ big := by
  intro w hw
  rw [hp] at hw
  obtain ⟨i, -, hi⟩ := List.mem_filterMap.mp hw
  exact List.mem_of_getElem? hi
set_option maxRecDepth 20000 in
theorem iwsL_law_r1 : ∀ w ∈ wsL_law_r1, w ∈ lw_tbl := lw_mem [33, 34, 23, 518, 519, 29, 35, 36, 37, 38, 39, 40, 41, 42, 24, 164, 165, 166, 104, 105, 26, 167, 119, 120] (by decide +kernel)
set_option maxRecDepth 20000 in
theorem iwsL_law_r2 : ∀ w ∈ wsL_law_r2, w ∈ lw_tbl := lw_mem [27, 168, 142, 143, 28, 169, 43, 44, 45, 46, 50, 52, 102, 67, 69, 72, 75, 76, 47, 48, 25, 49, 107, 108] (by decide +kernel)
set_option maxRecDepth 20000 in
theorem iwsL_law_r3 : ∀ w ∈ wsL_law_r3, w ∈ lw_tbl := lw_mem [109, 110, 122, 123, 124, 125, 127, 128, 126, 145, 146, 147, 149, 150, 151, 152, 520, 521, 522, 523, 525, 526, 527, 532] (by decide +kernel)
set_option maxRecDepth 20000 in
theorem iwsL_law_r4 : ∀ w ∈ wsL_law_r4, w ∈ lw_tbl := lw_mem [533, 534, 536, 538, 543, 544, 597, 545, 530, 531, 183, 184, 185, 186, 55, 61, 57, 187, 188, 189, 190, 191, 192, 193] (by decide +kernel)
set_option maxRecDepth 20000 in
theorem iwsL_law_r5 : ∀ w ∈ wsL_law_r5, w ∈ lw_tbl := lw_mem [194, 195, 196, 198, 199, 200, 201, 202, 30, 203, 204, 205, 206, 598, 599, 600, 601, 612, 528, 524, 602, 603, 604, 605] (by decide +kernel)
set_option maxRecDepth 20000 in
theorem iwsL_law_r6 : ∀ w ∈ wsL_law_r6, w ∈ lw_tbl := lw_mem [606, 607, 608, 609, 610, 611, 613, 614, 615, 207, 208, 209, 210, 211, 212, 213, 214, 54, 216, 217, 616, 617, 618, 619] (by decide +kernel)
set_option maxRecDepth 20000 in
theorem iwsL_law_r7 : ∀ w ∈ wsL_law_r7, w ∈ lw_tbl := lw_mem [620, 622, 3, 623, 218, 219, 220, 221, 64, 624, 625, 626, 627, 529, 222, 223, 224, 225, 51, 53, 628, 629, 630, 631] (by decide +kernel)
set_option maxRecDepth 20000 in
theorem iwsL_law_r8 : ∀ w ∈ wsL_law_r8, w ∈ lw_tbl := lw_mem [226, 227, 228, 229, 113, 230, 231, 232, 233, 111, 632, 633, 634, 635, 636, 637, 537, 235, 236, 237, 238, 638, 639, 640] (by decide +kernel)
set_option maxRecDepth 20000 in
theorem iwsL_law_r9 : ∀ w ∈ wsL_law_r9, w ∈ lw_tbl := lw_mem [641, 239, 240, 241, 242, 243, 244, 245, 246, 247, 248, 249, 250, 251, 252, 253, 254, 255, 256, 257, 258, 259, 642, 643] (by decide +kernel)
set_option maxRecDepth 20000 in
theorem iwsL_law_r10 : ∀ w ∈ wsL_law_r10, w ∈ lw_tbl := lw_mem [644, 645, 646, 647, 648, 649, 650, 651, 652, 653, 654, 655, 260, 261, 262, 263, 264, 265, 266, 267, 268, 269, 270, 271] (by decide +kernel)
set_option maxRecDepth 20000 in
theorem iwsL_law_r11 : ∀ w ∈ wsL_law_r11, w ∈ lw_tbl := lw_mem [56, 272, 273, 274, 275, 283, 284, 31, 285, 276, 277, 278, 279, 63, 280, 281, 282, 286, 287, 288, 289, 290, 291, 292] (by decide +kernel)
set_option maxRecDepth 20000 in
theorem iwsL_law_r12 : ∀ w ∈ wsL_law_r12, w ∈ lw_tbl := lw_mem [293, 656, 657, 658, 659, 660, 662, 4, 663, 664, 666, 5, 667, 668, 670, 6, 671, 294, 295, 296, 297, 672, 673, 674] (by decide +kernel)
set_option maxRecDepth 20000 in
theorem iwsL_law_r13 : ∀ w ∈ wsL_law_r13, w ∈ lw_tbl := lw_mem [675, 298, 299, 300, 301, 676, 677, 678, 679, 302, 303, 304, 305, 130, 306, 307, 308, 309, 310, 311, 312, 313, 112, 314] (by decide +kernel)
set_option maxRecDepth 20000 in
theorem iwsL_law_r14 : ∀ w ∈ wsL_law_r14, w ∈ lw_tbl := lw_mem [315, 316, 317, 129, 131, 318, 319, 320, 321, 60, 65, 322, 324, 323, 32, 325, 326, 327, 328, 329, 330, 331, 332, 333] (by decide +kernel)
set_option maxRecDepth 20000 in
theorem iwsL_law_r15 : ∀ w ∈ wsL_law_r15, w ∈ lw_tbl := lw_mem [334, 335, 337, 338, 339, 340, 341, 342, 343, 344, 345, 346, 347, 348, 62, 350, 351, 352, 353, 59, 355, 356, 357, 358] (by decide +kernel)
set_option maxRecDepth 20000 in
theorem iwsL_law_r16 : ∀ w ∈ wsL_law_r16, w ∈ lw_tbl := lw_mem [359, 360, 680, 681, 682, 683, 705, 540, 684, 685, 687, 7, 688, 539, 689, 691, 8, 692, 693, 695, 9, 696, 697, 699] (by decide +kernel)
set_option maxRecDepth 20000 in
theorem iwsL_law_r17 : ∀ w ∈ wsL_law_r17, w ∈ lw_tbl := lw_mem [10, 700, 701, 703, 11, 704, 361, 362, 363, 364, 132, 365, 366, 367, 368, 706, 707, 708, 709, 370, 371, 372, 373, 74] (by decide +kernel)
set_option maxRecDepth 20000 in
theorem iwsL_law_r18 : ∀ w ∈ wsL_law_r18, w ∈ lw_tbl := lw_mem [374, 375, 376, 377, 710, 711, 712, 713, 714, 716, 12, 717, 378, 379, 380, 381, 382, 383, 384, 385, 386, 387, 388, 389] (by decide +kernel)
set_option maxRecDepth 20000 in
theorem iwsL_law_r19 : ∀ w ∈ wsL_law_r19, w ∈ lw_tbl := lw_mem [390, 391, 392, 393, 394, 395, 396, 397, 398, 399, 718, 719, 720, 721, 722, 723, 724, 732, 725, 727, 13, 728, 729, 730] (by decide +kernel)
set_option maxRecDepth 20000 in
theorem iwsL_law_r20 : ∀ w ∈ wsL_law_r20, w ∈ lw_tbl := lw_mem [731, 400, 401, 402, 403, 404, 406, 0, 407, 71, 408, 410, 1, 411, 412, 733, 734, 735, 736, 541, 737, 739, 14, 740] (by decide +kernel)
set_option maxRecDepth 20000 in
theorem iwsL_law_r21 : ∀ w ∈ wsL_law_r21, w ∈ lw_tbl := lw_mem [542, 413, 414, 415, 416, 741, 742, 743, 744, 417, 418, 419, 420, 421, 422, 423, 424, 73, 425, 148, 426, 427, 428, 429] (by decide +kernel)
set_option maxRecDepth 20000 in
theorem iwsL_law_r22 : ∀ w ∈ wsL_law_r22, w ∈ lw_tbl := lw_mem [430, 58, 70, 431, 433, 434, 435, 436, 437, 438, 439, 440, 441, 442, 443, 444, 445, 446, 447, 448, 449, 450, 451, 452] (by decide +kernel)
set_option maxRecDepth 20000 in
theorem iwsL_law_r23 : ∀ w ∈ wsL_law_r23, w ∈ lw_tbl := lw_mem [453, 454, 455, 456, 457, 458, 459, 460, 461, 462, 463, 464, 745, 746, 747, 748, 749, 751, 15, 752, 753, 755, 16, 756] (by decide +kernel)
set_option maxRecDepth 20000 in
theorem iwsL_law_r24 : ∀ w ∈ wsL_law_r24, w ∈ lw_tbl := lw_mem [757, 759, 17, 760, 761, 763, 18, 764, 465, 466, 467, 468, 68, 469, 765, 766, 767, 768, 470, 471, 472, 473, 769, 770] (by decide +kernel)
set_option maxRecDepth 20000 in
theorem iwsL_law_r25 : ∀ w ∈ wsL_law_r25, w ∈ lw_tbl := lw_mem [771, 772, 773, 474, 475, 476, 477, 66, 478, 479, 480, 481, 774, 775, 776, 777, 778, 779, 535, 482, 483, 484, 485, 780] (by decide +kernel)
set_option maxRecDepth 20000 in
theorem iwsL_law_r26 : ∀ w ∈ wsL_law_r26, w ∈ lw_tbl := lw_mem [781, 782, 783, 486, 487, 488, 489, 490, 491, 492, 493, 784, 785, 786, 787, 788, 790, 19, 791, 494, 495, 496, 497, 499] (by decide +kernel)
set_option maxRecDepth 20000 in
theorem iwsL_law_r27 : ∀ w ∈ wsL_law_r27, w ∈ lw_tbl := lw_mem [498, 500, 501, 792, 793, 794, 795, 796, 797, 798, 799, 800, 502, 503, 504, 505, 801, 802, 803, 804, 546, 547, 805, 807] (by decide +kernel)
set_option maxRecDepth 20000 in
theorem iwsL_law_r28 : ∀ w ∈ wsL_law_r28, w ∈ lw_tbl := lw_mem [20, 808, 809, 811, 21, 812, 506, 507, 508, 509, 813, 814, 815, 816, 510, 511, 512, 513, 514, 516, 2, 517, 817, 818] (by decide +kernel)
set_option maxRecDepth 20000 in
theorem iwsL_law_r29 : ∀ w ∈ wsL_law_r29, w ∈ lw_tbl := lw_mem [819, 820, 821, 822, 823, 824] (by decide +kernel)
set_option maxRecDepth 20000 in
theorem iwsX0 : ∀ w ∈ wsX00, w ∈ lw_tbl := lw_mem [77, 79, 81, 83, 85, 87, 89, 91, 93, 95, 97, 99] (by decide +kernel)
set_option maxRecDepth 20000 in
theorem iwsX1 : ∀ w ∈ wsX10, w ∈ lw_tbl := lw_mem [133, 135, 137, 139] (by decide +kernel)
set_option maxRecDepth 20000 in
theorem iwsX2 : ∀ w ∈ wsX20, w ∈ lw_tbl := lw_mem [114, 116] (by decide +kernel)
set_option maxRecDepth 20000 in
theorem iwsX3 : ∀ w ∈ wsX30, w ∈ lw_tbl := lw_mem [153, 155, 157, 159, 161] (by decide +kernel)
set_option maxRecDepth 20000 in
theorem iwsX4 : ∀ w ∈ wsX40, w ∈ lw_tbl := lw_mem [170, 172, 174, 176, 178, 180] (by decide +kernel)
set_option maxRecDepth 20000 in
theorem iwsX5 : ∀ w ∈ wsX50, w ∈ lw_tbl := lw_mem [548, 550, 552, 554, 556, 558, 560, 562, 564, 566, 568, 570, 572, 574, 576, 578, 580, 582, 584, 586, 588, 590, 592, 594] (by decide +kernel)
theorem wsL_law_in : ∀ w ∈ wsL_law, w ∈ lw_tbl := by
  intro w hw
  unfold wsL_law at hw
  simp only [List.mem_append, List.not_mem_nil, or_false] at hw
  rcases hw with ((((((h | h | h | h | h | h | h | h | h | h | h | h | h | h | h | h | h | h | h | h | h | h | h | h | h | h | h | h | h) | h) | h) | h) | h) | h) | h
  · exact iwsL_law_r1 w h
  · exact iwsL_law_r2 w h
  · exact iwsL_law_r3 w h
  · exact iwsL_law_r4 w h
  · exact iwsL_law_r5 w h
  · exact iwsL_law_r6 w h
  · exact iwsL_law_r7 w h
  · exact iwsL_law_r8 w h
  · exact iwsL_law_r9 w h
  · exact iwsL_law_r10 w h
  · exact iwsL_law_r11 w h
  · exact iwsL_law_r12 w h
  · exact iwsL_law_r13 w h
  · exact iwsL_law_r14 w h
  · exact iwsL_law_r15 w h
  · exact iwsL_law_r16 w h
  · exact iwsL_law_r17 w h
  · exact iwsL_law_r18 w h
  · exact iwsL_law_r19 w h
  · exact iwsL_law_r20 w h
  · exact iwsL_law_r21 w h
  · exact iwsL_law_r22 w h
  · exact iwsL_law_r23 w h
  · exact iwsL_law_r24 w h
  · exact iwsL_law_r25 w h
  · exact iwsL_law_r26 w h
  · exact iwsL_law_r27 w h
  · exact iwsL_law_r28 w h
  · exact iwsL_law_r29 w h
  · exact iwsX4 w h
  · exact iwsX5 w h
  · exact iwsX0 w h
  · exact iwsX2 w h
  · exact iwsX1 w h
  · exact iwsX3 w h
set_option maxRecDepth 20000 in
theorem inwL : ∀ w ∈ nwL, w ∈ lw_tbl := lw_mem [106, 121, 144, 197, 215, 336, 354, 349, 369, 234, 432] (by decide +kernel)
theorem law_ao : Cond.arrayOver (.object RX0) ∈ lw_tbl := List.mem_of_getElem? (i := 103) (by decide +kernel)
theorem law_ai : Cond.arrayClass .int ∈ lw_tbl := List.mem_of_getElem? (i := 102) (by decide +kernel)
theorem law_az : Cond.arrayClass .boolean ∈ lw_tbl := List.mem_of_getElem? (i := 597) (by decide +kernel)
theorem law_in0 : Cond.instantiable RX0 12 ∈ lw_tbl := List.mem_of_getElem? (i := 42) (by decide +kernel)
theorem law_in1 : Cond.instantiable RX1 4 ∈ lw_tbl := List.mem_of_getElem? (i := 120) (by decide +kernel)
theorem law_in2 : Cond.instantiable RX2 2 ∈ lw_tbl := List.mem_of_getElem? (i := 105) (by decide +kernel)
theorem law_in3 : Cond.instantiable RX3 5 ∈ lw_tbl := List.mem_of_getElem? (i := 143) (by decide +kernel)
theorem law_in4 : Cond.instantiable RX4 6 ∈ lw_tbl := List.mem_of_getElem? (i := 34) (by decide +kernel)
theorem law_in5 : Cond.instantiable RX5 24 ∈ lw_tbl := List.mem_of_getElem? (i := 519) (by decide +kernel)
