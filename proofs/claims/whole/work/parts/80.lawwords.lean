/-! THE LAW: its words, by their places in the tables; its calls; its rows -/
theorem mem_r {big : List Cond} (ws : List Cond) (ps : List Nat) (hp : ws = ps.filterMap (fun i => big[i]?)) : ∀ w ∈ ws, w ∈ big := by
  intro w hw
  rw [hp] at hw
  obtain ⟨i, -, hi⟩ := List.mem_filterMap.mp hw
  exact List.mem_of_getElem? hi
set_option maxRecDepth 100000 in
theorem in_wsL_law_r1 : ∀ w ∈ wsL_law_r1, w ∈ lw_tbl := mem_r _ [76, 77, 62, 637, 638, 67, 988, 78, 79, 80, 81, 82, 83, 84, 85, 63, 203, 125, 126, 64, 204, 205, 206, 153] (by decide +kernel)
set_option maxRecDepth 100000 in
theorem in_wsL_law_r2 : ∀ w ∈ wsL_law_r2, w ∈ lw_tbl := mem_r _ [154, 65, 207, 208, 201, 209, 173, 174, 66, 210, 87, 88, 89, 92, 93, 94, 95, 96, 98, 99, 124, 102, 103, 104] (by decide +kernel)
set_option maxRecDepth 100000 in
theorem in_wsL_law_r3 : ∀ w ∈ wsL_law_r3, w ∈ lw_tbl := mem_r _ [128, 129, 130, 131, 132, 133, 134, 135, 155, 156, 157, 158, 159, 162, 176, 177, 178, 202, 179, 184, 639, 640, 641, 642] (by decide +kernel)
set_option maxRecDepth 100000 in
theorem in_wsL_law_r4 : ∀ w ∈ wsL_law_r4, w ∈ lw_tbl := mem_r _ [644, 645, 647, 648, 649, 651, 652, 653, 654, 655, 656, 657, 658, 659, 660, 661, 664, 643, 228, 229, 230, 231, 232, 233] (by decide +kernel)
set_option maxRecDepth 100000 in
theorem in_wsL_law_r5 : ∀ w ∈ wsL_law_r5, w ∈ lw_tbl := mem_r _ [234, 235, 163, 164, 236, 237, 238, 239, 240, 242, 241, 68, 106, 109, 243, 244, 245, 246, 248, 249, 254, 256, 0, 257] (by decide +kernel)
set_option maxRecDepth 100000 in
theorem in_wsL_law_r6 : ∀ w ∈ wsL_law_r6, w ∈ lw_tbl := mem_r _ [258, 259, 260, 261, 262, 263, 264, 265, 105, 136, 108, 137, 266, 268, 1, 269, 270, 271, 272, 273, 274, 275, 276, 277] (by decide +kernel)
set_option maxRecDepth 100000 in
theorem in_wsL_law_r7 : ∀ w ∈ wsL_law_r7, w ∈ lw_tbl := mem_r _ [278, 280, 2, 281, 282, 283, 284, 285, 286, 288, 3, 289, 101, 317, 318, 69, 319, 290, 292, 4, 293, 294, 296, 5] (by decide +kernel)
set_option maxRecDepth 100000 in
theorem in_wsL_law_r8 : ∀ w ∈ wsL_law_r8, w ∈ lw_tbl := mem_r _ [297, 298, 300, 6, 301, 302, 303, 304, 305, 306, 308, 7, 309, 314, 315, 316, 310, 311, 312, 313, 320, 322, 8, 323] (by decide +kernel)
set_option maxRecDepth 100000 in
theorem in_wsL_law_r9 : ∀ w ∈ wsL_law_r9, w ∈ lw_tbl := mem_r _ [324, 326, 9, 327, 328, 330, 10, 331, 332, 333, 334, 335, 336, 338, 11, 339, 713, 714, 715, 716, 717, 718, 719, 720] (by decide +kernel)
set_option maxRecDepth 100000 in
theorem in_wsL_law_r10 : ∀ w ∈ wsL_law_r10, w ∈ lw_tbl := mem_r _ [721, 722, 723, 725, 23, 726, 646, 340, 341, 342, 343, 344, 345, 346, 347, 349, 350, 351, 352, 353, 354, 355, 356, 357] (by decide +kernel)
set_option maxRecDepth 100000 in
theorem in_wsL_law_r11 : ∀ w ∈ wsL_law_r11, w ∈ lw_tbl := mem_r _ [358, 727, 728, 729, 730, 731, 733, 24, 734, 735, 736, 737, 738, 740, 25, 741, 359, 360, 361, 362, 363, 364, 365, 366] (by decide +kernel)
set_option maxRecDepth 100000 in
theorem in_wsL_law_r12 : ∀ w ∈ wsL_law_r12, w ∈ lw_tbl := mem_r _ [367, 368, 369, 370, 742, 743, 744, 745, 746, 748, 26, 749, 750, 752, 27, 753, 371, 372, 373, 374, 375, 376, 377, 378] (by decide +kernel)
set_option maxRecDepth 100000 in
theorem in_wsL_law_r13 : ∀ w ∈ wsL_law_r13, w ∈ lw_tbl := mem_r _ [754, 755, 756, 757, 758, 760, 28, 761, 762, 764, 29, 765, 379, 380, 381, 382, 383, 384, 385, 386, 387, 388, 389, 390] (by decide +kernel)
set_option maxRecDepth 100000 in
theorem in_wsL_law_r14 : ∀ w ∈ wsL_law_r14, w ∈ lw_tbl := mem_r _ [766, 767, 768, 769, 770, 772, 30, 773, 774, 776, 31, 777, 778, 780, 32, 781, 392, 393, 394, 395, 396, 397, 398, 782] (by decide +kernel)
set_option maxRecDepth 100000 in
theorem in_wsL_law_r15 : ∀ w ∈ wsL_law_r15, w ∈ lw_tbl := mem_r _ [783, 784, 785, 786, 788, 33, 789, 790, 792, 34, 793, 794, 796, 35, 797, 798, 800, 36, 801, 802, 804, 37, 805, 806] (by decide +kernel)
set_option maxRecDepth 100000 in
theorem in_wsL_law_r16 : ∀ w ∈ wsL_law_r16, w ∈ lw_tbl := mem_r _ [808, 38, 809, 810, 812, 39, 813, 814, 816, 40, 817, 818, 820, 41, 821, 822, 824, 42, 825, 826, 828, 43, 829, 399] (by decide +kernel)
set_option maxRecDepth 100000 in
theorem in_wsL_law_r17 : ∀ w ∈ wsL_law_r17, w ∈ lw_tbl := mem_r _ [400, 401, 402, 403, 404, 405, 830, 831, 832, 833, 834, 836, 44, 837, 838, 840, 45, 841, 406, 407, 408, 409, 410, 411] (by decide +kernel)
set_option maxRecDepth 100000 in
theorem in_wsL_law_r18 : ∀ w ∈ wsL_law_r18, w ∈ lw_tbl := mem_r _ [842, 843, 844, 845, 412, 413, 414, 415, 416, 417, 418, 419, 846, 847, 848, 849, 850, 852, 46, 853, 854, 856, 47, 857] (by decide +kernel)
set_option maxRecDepth 100000 in
theorem in_wsL_law_r19 : ∀ w ∈ wsL_law_r19, w ∈ lw_tbl := mem_r _ [420, 421, 422, 423, 107, 110, 100, 181, 165, 424, 425, 426, 427, 428, 429, 430, 431, 432, 433, 434, 435, 436, 437, 438] (by decide +kernel)
set_option maxRecDepth 100000 in
theorem in_wsL_law_r20 : ∀ w ∈ wsL_law_r20, w ∈ lw_tbl := mem_r _ [439, 440, 858, 859, 860, 861, 650, 862, 864, 48, 865, 866, 868, 49, 869, 441, 442, 443, 444, 870, 871, 872, 873, 445] (by decide +kernel)
set_option maxRecDepth 100000 in
theorem in_wsL_law_r21 : ∀ w ∈ wsL_law_r21, w ∈ lw_tbl := mem_r _ [446, 447, 448, 449, 450, 451, 452, 874, 875, 876, 877, 878, 879, 70, 880, 884, 886, 885, 70, 887, 881, 882, 883, 453] (by decide +kernel)
set_option maxRecDepth 100000 in
theorem in_wsL_law_r22 : ∀ w ∈ wsL_law_r22, w ∈ lw_tbl := mem_r _ [454, 455, 456, 457, 888, 889, 890, 891, 892, 893, 894, 71, 895, 899, 901, 900, 71, 902, 896, 897, 898, 458, 459, 460] (by decide +kernel)
set_option maxRecDepth 100000 in
theorem in_wsL_law_r23 : ∀ w ∈ wsL_law_r23, w ∈ lw_tbl := mem_r _ [461, 462, 463, 464, 903, 904, 905, 906, 465, 466, 467, 468, 907, 908, 909, 910, 469, 470, 471, 472, 473, 478, 474, 476] (by decide +kernel)
set_option maxRecDepth 100000 in
theorem in_wsL_law_r24 : ∀ w ∈ wsL_law_r24, w ∈ lw_tbl := mem_r _ [12, 477, 911, 912, 913, 914, 915, 917, 50, 918, 479, 480, 481, 482, 483, 484, 485, 486, 487, 180, 919, 920, 921, 922] (by decide +kernel)
set_option maxRecDepth 100000 in
theorem in_wsL_law_r25 : ∀ w ∈ wsL_law_r25, w ∈ lw_tbl := mem_r _ [923, 489, 490, 491, 492, 924, 925, 926, 927, 493, 494, 495, 496, 497, 498, 499, 500, 182, 501, 502, 503, 504, 505, 506] (by decide +kernel)
set_option maxRecDepth 100000 in
theorem in_wsL_law_r26 : ∀ w ∈ wsL_law_r26, w ∈ lw_tbl := mem_r _ [507, 508, 186, 183, 509, 511, 13, 512, 513, 515, 14, 516, 517, 518, 519, 525, 526, 527, 72, 528, 989, 529, 530, 531] (by decide +kernel)
set_option maxRecDepth 100000 in
theorem in_wsL_law_r27 : ∀ w ∈ wsL_law_r27, w ∈ lw_tbl := mem_r _ [532, 533, 534, 535, 536, 537, 990, 539, 540, 541, 542, 543, 544, 545, 546, 547, 548, 73, 549, 550, 551, 552, 553, 555] (by decide +kernel)
set_option maxRecDepth 100000 in
theorem in_wsL_law_r28 : ∀ w ∈ wsL_law_r28, w ∈ lw_tbl := mem_r _ [556, 74, 557, 558, 559, 75, 560, 561, 562, 563, 564, 565, 566, 567, 568, 569, 570, 571, 573, 575, 577, 579, 15, 580] (by decide +kernel)
set_option maxRecDepth 100000 in
theorem in_wsL_law_r29 : ∀ w ∈ wsL_law_r29, w ∈ lw_tbl := mem_r _ [581, 583, 16, 584, 585, 587, 17, 588, 589, 591, 18, 592, 593, 595, 19, 596, 597, 599, 20, 600, 601, 602, 603, 604] (by decide +kernel)
set_option maxRecDepth 100000 in
theorem in_wsL_law_r30 : ∀ w ∈ wsL_law_r30, w ∈ lw_tbl := mem_r _ [928, 929, 930, 931, 932, 934, 51, 935, 662, 663, 665, 936, 938, 52, 939, 940, 942, 53, 943, 944, 946, 54, 947, 948] (by decide +kernel)
set_option maxRecDepth 100000 in
theorem in_wsL_law_r31 : ∀ w ∈ wsL_law_r31, w ∈ lw_tbl := mem_r _ [950, 55, 951, 952, 954, 56, 955, 956, 958, 57, 959, 960, 962, 58, 963, 606, 607, 608, 609, 610, 612, 21, 613, 614] (by decide +kernel)
set_option maxRecDepth 100000 in
theorem in_wsL_law_r32 : ∀ w ∈ wsL_law_r32, w ∈ lw_tbl := mem_r _ [615, 616, 617, 619, 22, 620, 185, 187, 964, 965, 966, 967, 968, 970, 59, 971, 972, 974, 60, 975, 621, 622, 623, 624] (by decide +kernel)
set_option maxRecDepth 100000 in
theorem in_wsL_law_r33 : ∀ w ∈ wsL_law_r33, w ∈ lw_tbl := mem_r _ [625, 626, 627, 628, 976, 977, 978, 979, 629, 630, 631, 632, 980, 981, 982, 983, 633, 634, 635, 636, 984, 985, 986, 987] (by decide +kernel)
theorem inZ0 : ∀ w ∈ wsX00, w ∈ lw_tbl := by decide +kernel
theorem inZ1 : ∀ w ∈ wsX10, w ∈ lw_tbl := by decide +kernel
theorem inZ2 : ∀ w ∈ wsX20, w ∈ lw_tbl := by decide +kernel
theorem inZ3 : ∀ w ∈ wsX30, w ∈ lw_tbl := by decide +kernel
theorem inZ4 : ∀ w ∈ wsX40, w ∈ lw_tbl := by decide +kernel
theorem inZ5 : ∀ w ∈ wsX50, w ∈ lw_tbl := by decide +kernel
theorem wsL_big : ∀ w ∈ (wsL_law_r1 ++ (wsL_law_r2 ++ (wsL_law_r3 ++ (wsL_law_r4 ++ (wsL_law_r5 ++ (wsL_law_r6 ++ (wsL_law_r7 ++ (wsL_law_r8 ++ (wsL_law_r9 ++ (wsL_law_r10 ++ (wsL_law_r11 ++ (wsL_law_r12 ++ (wsL_law_r13 ++ (wsL_law_r14 ++ (wsL_law_r15 ++ (wsL_law_r16 ++ (wsL_law_r17 ++ (wsL_law_r18 ++ (wsL_law_r19 ++ (wsL_law_r20 ++ (wsL_law_r21 ++ (wsL_law_r22 ++ (wsL_law_r23 ++ (wsL_law_r24 ++ (wsL_law_r25 ++ (wsL_law_r26 ++ (wsL_law_r27 ++ (wsL_law_r28 ++ (wsL_law_r29 ++ (wsL_law_r30 ++ (wsL_law_r31 ++ (wsL_law_r32 ++ wsL_law_r33)))))))))))))))))))))))))))))))), w ∈ lw_tbl := by
  intro w h
  rcases List.mem_append.mp h with h | h
  · exact in_wsL_law_r1 w h
  rcases List.mem_append.mp h with h | h
  · exact in_wsL_law_r2 w h
  rcases List.mem_append.mp h with h | h
  · exact in_wsL_law_r3 w h
  rcases List.mem_append.mp h with h | h
  · exact in_wsL_law_r4 w h
  rcases List.mem_append.mp h with h | h
  · exact in_wsL_law_r5 w h
  rcases List.mem_append.mp h with h | h
  · exact in_wsL_law_r6 w h
  rcases List.mem_append.mp h with h | h
  · exact in_wsL_law_r7 w h
  rcases List.mem_append.mp h with h | h
  · exact in_wsL_law_r8 w h
  rcases List.mem_append.mp h with h | h
  · exact in_wsL_law_r9 w h
  rcases List.mem_append.mp h with h | h
  · exact in_wsL_law_r10 w h
  rcases List.mem_append.mp h with h | h
  · exact in_wsL_law_r11 w h
  rcases List.mem_append.mp h with h | h
  · exact in_wsL_law_r12 w h
  rcases List.mem_append.mp h with h | h
  · exact in_wsL_law_r13 w h
  rcases List.mem_append.mp h with h | h
  · exact in_wsL_law_r14 w h
  rcases List.mem_append.mp h with h | h
  · exact in_wsL_law_r15 w h
  rcases List.mem_append.mp h with h | h
  · exact in_wsL_law_r16 w h
  rcases List.mem_append.mp h with h | h
  · exact in_wsL_law_r17 w h
  rcases List.mem_append.mp h with h | h
  · exact in_wsL_law_r18 w h
  rcases List.mem_append.mp h with h | h
  · exact in_wsL_law_r19 w h
  rcases List.mem_append.mp h with h | h
  · exact in_wsL_law_r20 w h
  rcases List.mem_append.mp h with h | h
  · exact in_wsL_law_r21 w h
  rcases List.mem_append.mp h with h | h
  · exact in_wsL_law_r22 w h
  rcases List.mem_append.mp h with h | h
  · exact in_wsL_law_r23 w h
  rcases List.mem_append.mp h with h | h
  · exact in_wsL_law_r24 w h
  rcases List.mem_append.mp h with h | h
  · exact in_wsL_law_r25 w h
  rcases List.mem_append.mp h with h | h
  · exact in_wsL_law_r26 w h
  rcases List.mem_append.mp h with h | h
  · exact in_wsL_law_r27 w h
  rcases List.mem_append.mp h with h | h
  · exact in_wsL_law_r28 w h
  rcases List.mem_append.mp h with h | h
  · exact in_wsL_law_r29 w h
  rcases List.mem_append.mp h with h | h
  · exact in_wsL_law_r30 w h
  rcases List.mem_append.mp h with h | h
  · exact in_wsL_law_r31 w h
  rcases List.mem_append.mp h with h | h
  · exact in_wsL_law_r32 w h
  exact in_wsL_law_r33 w h
theorem wsL_law_in : ∀ w ∈ wsL_law, w ∈ lw_tbl := by
  intro w h
  unfold wsL_law at h
  rcases List.mem_append.mp h with h | h
  rotate_left
  · cases h
  rcases List.mem_append.mp h with h | h
  rotate_left
  · exact inZ1 w h
  rcases List.mem_append.mp h with h | h
  rotate_left
  · exact inZ0 w h
  rcases List.mem_append.mp h with h | h
  rotate_left
  · exact inZ2 w h
  rcases List.mem_append.mp h with h | h
  rotate_left
  · exact inZ3 w h
  rcases List.mem_append.mp h with h | h
  rotate_left
  · exact inZ5 w h
  rcases List.mem_append.mp h with h | h
  rotate_left
  · exact inZ4 w h
  exact wsL_big w h
theorem inlX0 : ∀ w ∈ wsX00, w ∈ wsL_law := fun _ h => List.mem_append_left _ (List.mem_append_left _ (List.mem_append_right _ h))
theorem inX0 : ∀ w ∈ wsX00, w ∈ lw_tbl := fun w h => wsL_law_in w (inlX0 w h)
theorem inlX1 : ∀ w ∈ wsX10, w ∈ wsL_law := fun _ h => List.mem_append_left _ (List.mem_append_right _ h)
theorem inX1 : ∀ w ∈ wsX10, w ∈ lw_tbl := fun w h => wsL_law_in w (inlX1 w h)
theorem inlX2 : ∀ w ∈ wsX20, w ∈ wsL_law := fun _ h => List.mem_append_left _ (List.mem_append_left _ (List.mem_append_left _ (List.mem_append_right _ h)))
theorem inX2 : ∀ w ∈ wsX20, w ∈ lw_tbl := fun w h => wsL_law_in w (inlX2 w h)
theorem inlX3 : ∀ w ∈ wsX30, w ∈ wsL_law := fun _ h => List.mem_append_left _ (List.mem_append_left _ (List.mem_append_left _ (List.mem_append_left _ (List.mem_append_right _ h))))
theorem inX3 : ∀ w ∈ wsX30, w ∈ lw_tbl := fun w h => wsL_law_in w (inlX3 w h)
theorem inlX4 : ∀ w ∈ wsX40, w ∈ wsL_law := fun _ h => List.mem_append_left _ (List.mem_append_left _ (List.mem_append_left _ (List.mem_append_left _ (List.mem_append_left _ (List.mem_append_left _ (List.mem_append_right _ h))))))
theorem inX4 : ∀ w ∈ wsX40, w ∈ lw_tbl := fun w h => wsL_law_in w (inlX4 w h)
theorem inlX5 : ∀ w ∈ wsX50, w ∈ wsL_law := fun _ h => List.mem_append_left _ (List.mem_append_left _ (List.mem_append_left _ (List.mem_append_left _ (List.mem_append_left _ (List.mem_append_right _ h)))))
theorem inX5 : ∀ w ∈ wsX50, w ∈ lw_tbl := fun w h => wsL_law_in w (inlX5 w h)
