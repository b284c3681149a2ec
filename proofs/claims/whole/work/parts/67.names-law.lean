theorem mem_r {big : List Cond} (ws : List Cond) (ps : List Nat) (hp : ws = ps.filterMap (fun i => big[i]?)) : ∀ w ∈ ws, w ∈ big := by
  intro w hw
  rw [hp] at hw
  obtain ⟨i, -, hi⟩ := List.mem_filterMap.mp hw
  exact List.mem_of_getElem? hi
theorem mem_a {big a b : List Cond} (ha : ∀ w ∈ a, w ∈ big) (hb : ∀ w ∈ b, w ∈ big) : ∀ w ∈ a ++ b, w ∈ big := fun w h => (List.mem_append.mp h).elim (ha w) (hb w)
set_option maxRecDepth 20000 in
theorem wsL_in_1 : ∀ w ∈ wsL_law_r1, w ∈ lw_tbl := mem_r _ [56, 57, 43, 745, 746, 53, 58, 59, 60, 61, 62, 63, 64, 65, 44, 243, 244, 245, 188, 189, 50, 246, 207, 208] (by decide +kernel)
set_option maxRecDepth 20000 in
theorem wsL_in_2 : ∀ w ∈ wsL_law_r2, w ∈ lw_tbl := mem_r _ [51, 247, 221, 222, 52, 248, 249, 250, 251, 252, 67, 68, 69, 70, 71, 45, 163, 93, 94, 46, 164, 106, 107, 47] (by decide +kernel)
set_option maxRecDepth 20000 in
theorem wsL_in_3 : ∀ w ∈ wsL_law_r3, w ∈ lw_tbl := mem_r _ [165, 122, 123, 48, 166, 135, 136, 49, 167, 168, 169, 170, 72, 73, 74, 75, 92, 76, 77, 78, 79, 80, 95, 96] (by decide +kernel)
set_option maxRecDepth 20000 in
theorem wsL_in_4 : ∀ w ∈ wsL_law_r4, w ∈ lw_tbl := mem_r _ [97, 98, 99, 100, 109, 110, 111, 112, 113, 114, 125, 126, 127, 128, 129, 138, 139, 140, 141, 142, 143, 144, 145, 146] (by decide +kernel)
set_option maxRecDepth 20000 in
theorem wsL_in_5 : ∀ w ∈ wsL_law_r5, w ∈ lw_tbl := mem_r _ [147, 190, 191, 192, 193, 194, 197, 198, 199, 210, 211, 212, 220, 213, 214, 224, 225, 226, 227, 228, 229, 230, 231, 747] (by decide +kernel)
set_option maxRecDepth 20000 in
theorem wsL_in_6 : ∀ w ∈ wsL_law_r6, w ∈ lw_tbl := mem_r _ [748, 749, 750, 755, 756, 757, 759, 761, 751, 763, 764, 752, 753, 754, 274, 275, 276, 277, 278, 279, 280, 281, 282, 283] (by decide +kernel)
set_option maxRecDepth 20000 in
theorem wsL_in_7 : ∀ w ∈ wsL_law_r7, w ∈ lw_tbl := mem_r _ [284, 285, 286, 288, 287, 54, 289, 290, 291, 292, 293, 294, 295, 296, 297, 298, 299, 300, 301, 302, 303, 304, 305, 306] (by decide +kernel)
set_option maxRecDepth 20000 in
theorem wsL_in_8 : ∀ w ∈ wsL_law_r8, w ∈ lw_tbl := mem_r _ [307, 308, 309, 310, 311, 315, 316, 319, 320, 55, 321, 313, 314, 322, 323, 324, 325, 326, 328, 0, 329, 330, 331, 332] (by decide +kernel)
set_option maxRecDepth 20000 in
theorem wsL_in_9 : ∀ w ∈ wsL_law_r9, w ∈ lw_tbl := mem_r _ [333, 335, 336, 337, 334, 804, 805, 806, 807, 814, 808, 809, 810, 811, 812, 813, 815, 817, 13, 818, 758, 819, 821, 14] (by decide +kernel)
set_option maxRecDepth 20000 in
theorem wsL_in_10 : ∀ w ∈ wsL_law_r10, w ∈ lw_tbl := mem_r _ [822, 823, 824, 825, 338, 339, 340, 341, 342, 343, 344, 345, 346, 347, 348, 349, 350, 351, 352, 353, 354, 356, 1, 357] (by decide +kernel)
set_option maxRecDepth 20000 in
theorem wsL_in_11 : ∀ w ∈ wsL_law_r11, w ∈ lw_tbl := mem_r _ [358, 371, 359, 361, 2, 362, 363, 364, 365, 366, 367, 368, 369, 370, 372, 373, 374, 375, 826, 827, 828, 829, 830, 832] (by decide +kernel)
set_option maxRecDepth 20000 in
theorem wsL_in_12 : ∀ w ∈ wsL_law_r12, w ∈ lw_tbl := mem_r _ [15, 833, 834, 836, 16, 837, 838, 840, 17, 841, 842, 847, 843, 845, 18, 846, 848, 850, 19, 851, 376, 377, 378, 379] (by decide +kernel)
set_option maxRecDepth 20000 in
theorem wsL_in_13 : ∀ w ∈ wsL_law_r13, w ∈ lw_tbl := mem_r _ [380, 381, 382, 383, 385, 386, 387, 388, 389, 390, 391, 392, 393, 394, 852, 853, 854, 855, 856, 857, 858, 395, 396, 397] (by decide +kernel)
set_option maxRecDepth 20000 in
theorem wsL_in_14 : ∀ w ∈ wsL_law_r14, w ∈ lw_tbl := mem_r _ [398, 399, 400, 401, 402, 406, 404, 405, 407, 408, 409, 410, 411, 412, 413, 414, 415, 416, 417, 418, 859, 860, 861, 862] (by decide +kernel)
set_option maxRecDepth 20000 in
theorem wsL_in_15 : ∀ w ∈ wsL_law_r15, w ∈ lw_tbl := mem_r _ [863, 865, 20, 866, 867, 868, 870, 21, 871, 419, 420, 421, 422, 423, 424, 425, 426, 427, 428, 429, 430, 431, 432, 433] (by decide +kernel)
set_option maxRecDepth 20000 in
theorem wsL_in_16 : ∀ w ∈ wsL_law_r16, w ∈ lw_tbl := mem_r _ [434, 435, 436, 437, 438, 872, 873, 874, 875, 439, 440, 441, 442, 443, 444, 445, 446, 448, 449, 876, 877, 878, 879, 880] (by decide +kernel)
set_option maxRecDepth 20000 in
theorem wsL_in_17 : ∀ w ∈ wsL_law_r17, w ∈ lw_tbl := mem_r _ [882, 22, 883, 450, 451, 452, 453, 454, 455, 456, 457, 474, 458, 460, 3, 461, 462, 463, 464, 465, 466, 467, 468, 469] (by decide +kernel)
set_option maxRecDepth 20000 in
theorem wsL_in_18 : ∀ w ∈ wsL_law_r18, w ∈ lw_tbl := mem_r _ [470, 471, 472, 473, 475, 476, 477, 478, 492, 490, 491, 481, 482, 483, 484, 485, 486, 487, 488, 489, 493, 494, 495, 496] (by decide +kernel)
set_option maxRecDepth 20000 in
theorem wsL_in_19 : ∀ w ∈ wsL_law_r19, w ∈ lw_tbl := mem_r _ [498, 499, 500, 501, 502, 504, 4, 505, 506, 507, 508, 509, 510, 511, 512, 513, 514, 515, 516, 517, 518, 884, 885, 886] (by decide +kernel)
set_option maxRecDepth 20000 in
theorem wsL_in_20 : ∀ w ∈ wsL_law_r20, w ∈ lw_tbl := mem_r _ [887, 900, 888, 890, 23, 891, 892, 894, 24, 895, 896, 898, 25, 899, 901, 903, 26, 904, 905, 907, 27, 908, 909, 910] (by decide +kernel)
set_option maxRecDepth 20000 in
theorem wsL_in_21 : ∀ w ∈ wsL_law_r21, w ∈ lw_tbl := mem_r _ [911, 912, 914, 28, 915, 916, 918, 29, 919, 519, 520, 521, 522, 523, 524, 525, 526, 920, 921, 922, 923, 924, 926, 30] (by decide +kernel)
set_option maxRecDepth 20000 in
theorem wsL_in_22 : ∀ w ∈ wsL_law_r22, w ∈ lw_tbl := mem_r _ [927, 527, 528, 529, 530, 531, 532, 533, 534, 535, 928, 929, 930, 931, 762, 536, 537, 538, 539, 540, 541, 542, 543, 932] (by decide +kernel)
set_option maxRecDepth 20000 in
theorem wsL_in_23 : ∀ w ∈ wsL_law_r23, w ∈ lw_tbl := mem_r _ [933, 934, 935, 544, 545, 546, 547, 590, 613, 618, 548, 549, 550, 551, 552, 554, 5, 555, 556, 557, 558, 559, 560, 562] (by decide +kernel)
set_option maxRecDepth 20000 in
theorem wsL_in_24 : ∀ w ∈ wsL_law_r24, w ∈ lw_tbl := mem_r _ [6, 563, 564, 566, 7, 567, 568, 570, 8, 571, 572, 574, 9, 575, 577, 579, 10, 580, 581, 583, 11, 584, 586, 587] (by decide +kernel)
set_option maxRecDepth 20000 in
theorem wsL_in_25 : ∀ w ∈ wsL_law_r25, w ∈ lw_tbl := mem_r _ [588, 589, 591, 592, 593, 594, 595, 596, 597, 598, 599, 600, 601, 602, 603, 604, 605, 606, 607, 608, 609, 610, 611, 612] (by decide +kernel)
set_option maxRecDepth 20000 in
theorem wsL_in_26 : ∀ w ∈ wsL_law_r26, w ∈ lw_tbl := mem_r _ [614, 616, 12, 617, 936, 937, 938, 939, 766, 964, 765, 770, 940, 942, 31, 943, 944, 946, 32, 947, 767, 768, 769, 948] (by decide +kernel)
set_option maxRecDepth 20000 in
theorem wsL_in_27 : ∀ w ∈ wsL_law_r27, w ∈ lw_tbl := mem_r _ [950, 33, 951, 952, 954, 34, 955, 956, 958, 35, 959, 960, 962, 36, 963, 965, 967, 37, 968, 969, 971, 38, 972, 619] (by decide +kernel)
set_option maxRecDepth 20000 in
theorem wsL_in_28 : ∀ w ∈ wsL_law_r28, w ∈ lw_tbl := mem_r _ [620, 621, 622, 623, 973, 974, 975, 976, 624, 625, 626, 627, 628, 629, 630, 631, 632, 633, 634, 635, 977, 978, 979, 980] (by decide +kernel)
set_option maxRecDepth 20000 in
theorem wsL_in_29 : ∀ w ∈ wsL_law_r29, w ∈ lw_tbl := mem_r _ [636, 637, 638, 639, 640, 641, 642, 643, 981, 982, 983, 984, 760, 644, 645, 646, 647, 985, 986, 987, 988, 648, 649, 650] (by decide +kernel)
set_option maxRecDepth 20000 in
theorem wsL_in_30 : ∀ w ∈ wsL_law_r30, w ∈ lw_tbl := mem_r _ [651, 652, 653, 654, 655, 656, 657, 658, 659, 660, 661, 662, 663, 664, 665, 666, 667, 668, 669, 670, 671, 672, 673, 674] (by decide +kernel)
set_option maxRecDepth 20000 in
theorem wsL_in_31 : ∀ w ∈ wsL_law_r31, w ∈ lw_tbl := mem_r _ [989, 990, 991, 992, 993, 995, 39, 996, 675, 676, 677, 678, 679, 680, 681, 682, 997, 998, 999, 1000, 683, 684, 685, 686] (by decide +kernel)
set_option maxRecDepth 20000 in
theorem wsL_in_32 : ∀ w ∈ wsL_law_r32, w ∈ lw_tbl := mem_r _ [687, 688, 689, 690, 691, 692, 693, 694, 695, 696, 697, 698, 1001, 1002, 1003, 1004, 699, 700, 701, 702, 703, 704, 705, 706] (by decide +kernel)
set_option maxRecDepth 20000 in
theorem wsL_in_33 : ∀ w ∈ wsL_law_r33, w ∈ lw_tbl := mem_r _ [1005, 1006, 1007, 1008, 707, 708, 709, 710, 712, 711, 713, 714, 1009, 1010, 1011, 1012, 715, 716, 717, 718, 719, 720, 721, 722] (by decide +kernel)
set_option maxRecDepth 20000 in
theorem wsL_in_34 : ∀ w ∈ wsL_law_r34, w ∈ lw_tbl := mem_r _ [723, 724, 725, 726, 727, 728, 729, 730, 1013, 1014, 1015, 1016, 731, 732, 733, 734, 735, 736, 737, 738, 739, 740, 741, 742] (by decide +kernel)
set_option maxRecDepth 20000 in
theorem wsL_in_35 : ∀ w ∈ wsL_law_r35, w ∈ lw_tbl := mem_r _ [743, 744, 1017, 1018, 1019, 1020, 1021, 1023, 40, 1024, 1025, 1027, 41, 1028] (by decide +kernel)
theorem inX9 : ∀ w ∈ wsX90, w ∈ lw_tbl := by decide +kernel
theorem inX10 : ∀ w ∈ wsX100, w ∈ lw_tbl := by decide +kernel
theorem inX7 : ∀ w ∈ wsX70, w ∈ lw_tbl := by decide +kernel
theorem inX3 : ∀ w ∈ wsX30, w ∈ lw_tbl := by decide +kernel
theorem inX8 : ∀ w ∈ wsX80, w ∈ lw_tbl := by decide +kernel
theorem inX5 : ∀ w ∈ wsX50, w ∈ lw_tbl := by decide +kernel
theorem inX4 : ∀ w ∈ wsX40, w ∈ lw_tbl := by decide +kernel
theorem inX2 : ∀ w ∈ wsX20, w ∈ lw_tbl := by decide +kernel
theorem inX1 : ∀ w ∈ wsX10, w ∈ lw_tbl := by decide +kernel
theorem inX6 : ∀ w ∈ wsX60, w ∈ lw_tbl := by decide +kernel
theorem inX0 : ∀ w ∈ wsX00, w ∈ lw_tbl := by decide +kernel
theorem wsL_law_in : ∀ w ∈ wsL_law, w ∈ lw_tbl := (mem_a (mem_a (mem_a (mem_a (mem_a (mem_a (mem_a (mem_a (mem_a (mem_a (mem_a (mem_a (mem_a wsL_in_1 (mem_a wsL_in_2 (mem_a wsL_in_3 (mem_a wsL_in_4 (mem_a wsL_in_5 (mem_a wsL_in_6 (mem_a wsL_in_7 (mem_a wsL_in_8 (mem_a wsL_in_9 (mem_a wsL_in_10 (mem_a wsL_in_11 (mem_a wsL_in_12 (mem_a wsL_in_13 (mem_a wsL_in_14 (mem_a wsL_in_15 (mem_a wsL_in_16 (mem_a wsL_in_17 (mem_a wsL_in_18 (mem_a wsL_in_19 (mem_a wsL_in_20 (mem_a wsL_in_21 (mem_a wsL_in_22 (mem_a wsL_in_23 (mem_a wsL_in_24 (mem_a wsL_in_25 (mem_a wsL_in_26 (mem_a wsL_in_27 (mem_a wsL_in_28 (mem_a wsL_in_29 (mem_a wsL_in_30 (mem_a wsL_in_31 (mem_a wsL_in_32 (mem_a wsL_in_33 (mem_a wsL_in_34 wsL_in_35)))))))))))))))))))))))))))))))))) inX9) inX10) inX7) inX3) inX8) inX5) inX4) inX2) inX1) inX6) inX0) (fun _ h => absurd h List.not_mem_nil))
theorem inlX0 : ∀ w ∈ wsX00, w ∈ wsL_law := fun _ h => List.mem_append_left _ (List.mem_append_right _ h)
theorem inlX1 : ∀ w ∈ wsX10, w ∈ wsL_law := fun _ h => List.mem_append_left _ (List.mem_append_left _ (List.mem_append_left _ (List.mem_append_right _ h)))
theorem inlX2 : ∀ w ∈ wsX20, w ∈ wsL_law := fun _ h => List.mem_append_left _ (List.mem_append_left _ (List.mem_append_left _ (List.mem_append_left _ (List.mem_append_right _ h))))
theorem inlX3 : ∀ w ∈ wsX30, w ∈ wsL_law := fun _ h => List.mem_append_left _ (List.mem_append_left _ (List.mem_append_left _ (List.mem_append_left _ (List.mem_append_left _ (List.mem_append_left _ (List.mem_append_left _ (List.mem_append_left _ (List.mem_append_right _ h))))))))
theorem inlX4 : ∀ w ∈ wsX40, w ∈ wsL_law := fun _ h => List.mem_append_left _ (List.mem_append_left _ (List.mem_append_left _ (List.mem_append_left _ (List.mem_append_left _ (List.mem_append_right _ h)))))
theorem inlX5 : ∀ w ∈ wsX50, w ∈ wsL_law := fun _ h => List.mem_append_left _ (List.mem_append_left _ (List.mem_append_left _ (List.mem_append_left _ (List.mem_append_left _ (List.mem_append_left _ (List.mem_append_right _ h))))))
theorem inlX6 : ∀ w ∈ wsX60, w ∈ wsL_law := fun _ h => List.mem_append_left _ (List.mem_append_left _ (List.mem_append_right _ h))
theorem inlX7 : ∀ w ∈ wsX70, w ∈ wsL_law := fun _ h => List.mem_append_left _ (List.mem_append_left _ (List.mem_append_left _ (List.mem_append_left _ (List.mem_append_left _ (List.mem_append_left _ (List.mem_append_left _ (List.mem_append_left _ (List.mem_append_left _ (List.mem_append_right _ h)))))))))
theorem inlX8 : ∀ w ∈ wsX80, w ∈ wsL_law := fun _ h => List.mem_append_left _ (List.mem_append_left _ (List.mem_append_left _ (List.mem_append_left _ (List.mem_append_left _ (List.mem_append_left _ (List.mem_append_left _ (List.mem_append_right _ h)))))))
theorem inlX9 : ∀ w ∈ wsX90, w ∈ wsL_law := fun _ h => List.mem_append_left _ (List.mem_append_left _ (List.mem_append_left _ (List.mem_append_left _ (List.mem_append_left _ (List.mem_append_left _ (List.mem_append_left _ (List.mem_append_left _ (List.mem_append_left _ (List.mem_append_left _ (List.mem_append_left _ (List.mem_append_right _ h)))))))))))
theorem inlX10 : ∀ w ∈ wsX100, w ∈ wsL_law := fun _ h => List.mem_append_left _ (List.mem_append_left _ (List.mem_append_left _ (List.mem_append_left _ (List.mem_append_left _ (List.mem_append_left _ (List.mem_append_left _ (List.mem_append_left _ (List.mem_append_left _ (List.mem_append_left _ (List.mem_append_right _ h))))))))))
theorem inJ9 : ∀ w ∈ wsJ90, w ∈ lw_tbl := by decide +kernel
theorem inJ10 : ∀ w ∈ wsJ100, w ∈ lw_tbl := by decide +kernel
set_option maxRecDepth 20000 in
theorem ggL_law_X9_init : GoodIn wsL_law wsX9_init := goodIn_r _ [8, 9, 10, 11, 12, 13, 14, 15, 16, 17, 18, 19, 20, 21, 22, 23, 24, 25, 26, 27, 28, 29, 30, 31, 32, 33, 34, 35, 36, 37, 38, 39, 40, 41, 42, 43, 44, 45, 46, 47, 48, 49, 50, 51, 52, 53, 54, 55, 56, 57, 58, 59, 60, 61, 62, 63, 64, 65, 66, 67, 68, 69, 70, 71, 72, 73, 74, 75, 76, 77, 78, 79, 80, 81, 82, 83, 84, 85, 86, 87, 88, 89, 90, 91, 92, 93, 94, 95, 96, 97, 98, 99, 100, 101, 102, 103, 104, 105, 106, 107, 108, 109, 110, 111, 112, 113, 114, 115, 116, 117, 118, 856, 857, 858, 859, 860, 861, 862, 863, 830, 831, 832, 833, 834, 835, 836, 837, 838, 839, 864, 865, 866, 867, 868, 869, 870, 871, 872, 873, 874, 875, 876, 877, 878, 879, 880, 881, 882, 883, 884, 885, 886, 887, 888, 889, 890, 891, 892] (by decide +kernel) (by decide +kernel)
set_option maxRecDepth 20000 in
theorem gL_law_X9_init : GoodIn wsL_law (wsX9_init) := ggL_law_X9_init
set_option maxRecDepth 20000 in
theorem ggL_law_X10_init : GoodIn wsL_law wsX10_init := goodIn_r _ [121, 122, 10, 11, 64, 123, 124, 125, 126, 127, 128, 129, 130, 131, 132, 5, 133, 840, 841, 842, 843, 844, 845, 846, 847, 848, 849, 850, 851, 852, 853, 854, 855] (by decide +kernel) (by decide +kernel)
set_option maxRecDepth 20000 in
theorem gL_law_X10_init : GoodIn wsL_law (wsX10_init) := ggL_law_X10_init
set_option maxRecDepth 20000 in
theorem ggL_law_X9_drive : GoodIn wsL_law wsX9_drive := goodIn_r _ [137, 16, 15, 138, 139, 140, 14, 141, 40, 44, 48, 52, 56, 57, 58, 59, 142, 143, 144, 39, 145, 65, 146, 147, 148, 149, 66, 67, 68, 69, 150, 151, 152, 43, 153, 74, 154, 75, 155, 156, 157, 47, 158, 79, 159, 80, 81, 160, 161, 162, 51, 163, 85, 164, 86, 165, 166, 167, 55, 168, 90, 91, 92, 93, 94, 95, 96, 169, 170, 171, 172, 173, 174, 175, 176, 177, 178, 179, 2, 180, 181, 182, 183, 184, 185, 186, 187, 188, 21, 189, 190, 191, 20, 192, 102, 103, 104, 193, 194, 195, 196, 830, 831, 832, 833, 834, 835, 836, 837, 838, 839, 856, 857, 858, 859, 860, 861, 862, 863, 874, 875, 876, 877, 878, 879, 880, 881, 882, 883, 884, 885, 886, 887, 888, 889, 890, 891, 892, 864, 865, 866] (by decide +kernel) (by decide +kernel)
set_option maxRecDepth 20000 in
theorem gL_law_X9_drive : GoodIn wsL_law (wsV RL 13 RX9 yX9_drive wsX9_drive) := goodIn_app (goodIn_of _ (by decide +kernel)) ggL_law_X9_drive
set_option maxRecDepth 20000 in
theorem ggL_law_X10_drive : GoodIn wsL_law wsX10_drive := goodIn_r _ [200, 201, 123, 128, 202, 203, 5, 204, 205, 206, 207, 208, 209, 210, 211, 212, 125, 213, 214, 215, 216, 217, 218, 219, 840, 841, 842, 843, 844, 845, 846, 847, 848, 849, 850, 851, 852, 853, 854, 855] (by decide +kernel) (by decide +kernel)
set_option maxRecDepth 20000 in
theorem gL_law_X10_drive : GoodIn wsL_law (wsV RL 17 RX10 yX10_drive wsX10_drive) := goodIn_app (goodIn_of _ (by decide +kernel)) ggL_law_X10_drive
set_option maxRecDepth 20000 in
theorem ggL_law_X9_moveReel : GoodIn wsL_law wsX9_moveReel := goodIn_r _ [223, 16, 15, 138, 139, 140, 14, 141, 40, 44, 48, 52, 56, 57, 58, 59, 142, 143, 144, 39, 145, 65, 146, 147, 148, 149, 66, 67, 68, 69, 150, 151, 152, 43, 153, 74, 154, 75, 155, 156, 157, 47, 158, 79, 159, 80, 81, 160, 161, 162, 51, 163, 85, 164, 86, 165, 166, 167, 55, 168, 90, 91, 92, 93, 94, 95, 96, 224, 225, 226, 227, 173, 228, 229, 230, 231, 232, 233, 234, 235, 236, 237, 238, 239, 240, 174, 241, 242, 243, 244, 245, 246, 247, 248, 249, 250, 251, 252, 253, 254, 255, 256, 257, 185, 186, 187, 2, 188, 21, 189, 190, 191, 20, 192, 102, 103, 104, 193, 194, 177, 195, 196, 830, 831, 832, 833, 834, 835, 836, 837, 838, 839, 856, 857, 858, 859, 860, 861, 862, 863, 874, 875, 876, 877, 878, 879, 880, 881, 882, 883, 884, 885, 886, 887, 888, 889, 890, 891, 892, 864, 865, 866] (by decide +kernel) (by decide +kernel)
set_option maxRecDepth 20000 in
theorem gL_law_X9_moveReel : GoodIn wsL_law (wsV RL 18 RX9 yX9_moveReel wsX9_moveReel) := goodIn_app (goodIn_of _ (by decide +kernel)) ggL_law_X9_moveReel
set_option maxRecDepth 20000 in
theorem ggL_law_X10_moveReel : GoodIn wsL_law wsX10_moveReel := goodIn_r _ [261, 262, 263, 264, 5, 265, 123, 205, 206, 207, 131, 132, 133, 266, 267, 268, 269, 201, 270, 271, 272, 273, 128, 274, 275, 276, 277, 278, 279, 208, 209, 210, 211, 212, 125, 280, 281, 282, 283, 840, 841, 842, 843, 844, 845, 846, 847, 848, 849, 850, 851, 852, 853, 854, 855] (by decide +kernel) (by decide +kernel)
set_option maxRecDepth 20000 in
theorem gL_law_X10_moveReel : GoodIn wsL_law (wsV RL 22 RX10 yX10_moveReel wsX10_moveReel) := goodIn_app (goodIn_of _ (by decide +kernel)) ggL_law_X10_moveReel
set_option maxRecDepth 20000 in
theorem ggL_law_X9_moveGenerator : GoodIn wsL_law wsX9_moveGenerator := goodIn_r _ [287, 16, 15, 138, 139, 140, 14, 141, 40, 44, 48, 52, 56, 57, 58, 59, 142, 143, 144, 39, 145, 65, 146, 147, 148, 149, 66, 67, 68, 69, 150, 151, 152, 43, 153, 74, 154, 75, 155, 156, 157, 47, 158, 79, 159, 80, 81, 160, 161, 162, 51, 163, 85, 164, 86, 165, 166, 167, 55, 168, 90, 91, 92, 93, 94, 95, 96, 288, 289, 290, 291, 173, 292, 2, 293, 294, 295, 296, 297, 236, 237, 238, 239, 240, 174, 241, 242, 243, 244, 245, 246, 247, 248, 249, 250, 251, 252, 253, 298, 299, 300, 301, 185, 186, 187, 188, 21, 189, 190, 191, 20, 192, 102, 103, 104, 193, 194, 177, 195, 196, 830, 831, 832, 833, 834, 835, 836, 837, 838, 839, 856, 857, 858, 859, 860, 861, 862, 863, 874, 875, 876, 877, 878, 879, 880, 881, 882, 883, 884, 885, 886, 887, 888, 889, 890, 891, 892, 864, 865, 866] (by decide +kernel) (by decide +kernel)
set_option maxRecDepth 20000 in
theorem gL_law_X9_moveGenerator : GoodIn wsL_law (wsV RL 23 RX9 yX9_moveGenerator wsX9_moveGenerator) := goodIn_app (goodIn_of _ (by decide +kernel)) ggL_law_X9_moveGenerator
set_option maxRecDepth 20000 in
theorem ggL_law_X10_moveGenerator : GoodIn wsL_law wsX10_moveGenerator := goodIn_r _ [305, 306, 307, 5, 308, 205, 206, 207, 266, 267, 268, 269, 201, 270, 271, 272, 273, 123, 128, 274, 275, 276, 277, 278, 279, 131, 132, 133, 208, 209, 210, 211, 212, 125, 280, 281, 282, 283, 840, 841, 842, 843, 844, 845, 846, 847, 848, 849, 850, 851, 852, 853, 854, 855] (by decide +kernel) (by decide +kernel)
set_option maxRecDepth 20000 in
theorem gL_law_X10_moveGenerator : GoodIn wsL_law (wsV RL 26 RX10 yX10_moveGenerator wsX10_moveGenerator) := goodIn_app (goodIn_of _ (by decide +kernel)) ggL_law_X10_moveGenerator
set_option maxRecDepth 20000 in
theorem ggL_law_X9_fuel : GoodIn wsL_law wsX9_fuel := goodIn_r _ [312, 16, 15, 138, 139, 140, 14, 141, 40, 44, 48, 52, 56, 57, 58, 59, 142, 143, 144, 39, 145, 65, 146, 147, 148, 149, 66, 67, 68, 69, 150, 151, 152, 43, 153, 74, 154, 75, 155, 156, 157, 47, 158, 79, 159, 80, 81, 160, 161, 162, 51, 163, 85, 164, 86, 165, 166, 167, 55, 168, 90, 91, 92, 93, 94, 95, 96, 313, 314, 315, 316, 173, 317, 240, 241, 292, 2, 293, 318, 319, 294, 295, 296, 297, 320, 321, 322, 323, 324, 325, 326, 327, 328, 329, 330, 331, 185, 186, 187, 188, 21, 189, 190, 191, 20, 192, 102, 103, 104, 193, 194, 177, 195, 196, 830, 831, 832, 833, 834, 835, 836, 837, 838, 839, 856, 857, 858, 859, 860, 861, 862, 863, 874, 875, 876, 877, 878, 879, 880, 881, 882, 883, 884, 885, 886, 887, 888, 889, 890, 891, 892, 864, 865, 866] (by decide +kernel) (by decide +kernel)
set_option maxRecDepth 20000 in
theorem gL_law_X9_fuel : GoodIn wsL_law (wsV RL 27 RX9 yX9_fuel wsX9_fuel) := goodIn_app (goodIn_of _ (by decide +kernel)) ggL_law_X9_fuel
set_option maxRecDepth 20000 in
theorem ggL_law_X10_fuel : GoodIn wsL_law wsX10_fuel := goodIn_r _ [335, 336, 337, 338, 5, 339, 201, 340, 123, 128, 274, 275, 306, 307, 308, 205, 206, 207, 208, 209, 210, 211, 212, 125, 341, 342, 343, 344, 840, 841, 842, 843, 844, 845, 846, 847, 848, 849, 850, 851, 852, 853, 854, 855] (by decide +kernel) (by decide +kernel)
set_option maxRecDepth 20000 in
theorem gL_law_X10_fuel : GoodIn wsL_law (wsV RL 31 RX10 yX10_fuel wsX10_fuel) := goodIn_app (goodIn_of _ (by decide +kernel)) ggL_law_X10_fuel
set_option maxRecDepth 20000 in
theorem ggL_law_X9_renew : GoodIn wsL_law wsX9_renew := goodIn_r _ [348, 16, 15, 138, 139, 140, 14, 141, 40, 44, 48, 52, 56, 57, 58, 59, 142, 143, 144, 39, 145, 65, 146, 147, 148, 149, 66, 67, 68, 69, 150, 151, 152, 43, 153, 74, 154, 75, 155, 156, 157, 47, 158, 79, 159, 80, 81, 160, 161, 162, 51, 163, 85, 164, 86, 165, 166, 167, 55, 168, 90, 91, 92, 93, 94, 95, 96, 349, 350, 351, 352, 173, 240, 228, 229, 230, 231, 232, 233, 234, 235, 353, 354, 355, 356, 357, 358, 359, 360, 361, 362, 363, 364, 185, 186, 187, 2, 188, 21, 189, 190, 191, 20, 192, 102, 103, 104, 193, 194, 177, 195, 196, 830, 831, 832, 833, 834, 835, 836, 837, 838, 839, 856, 857, 858, 859, 860, 861, 862, 863, 874, 875, 876, 877, 878, 879, 880, 881, 882, 883, 884, 885, 886, 887, 888, 889, 890, 891, 892, 864, 865, 866] (by decide +kernel) (by decide +kernel)
set_option maxRecDepth 20000 in
theorem gL_law_X9_renew : GoodIn wsL_law (wsV RL 32 RX9 yX9_renew wsX9_renew) := goodIn_app (goodIn_of _ (by decide +kernel)) ggL_law_X9_renew
set_option maxRecDepth 20000 in
theorem ggL_law_X10_renew : GoodIn wsL_law wsX10_renew := goodIn_r _ [368, 201, 123, 128, 274, 262, 263, 264, 5, 265, 205, 206, 207, 131, 132, 133, 208, 209, 210, 211, 212, 125, 840, 841, 842, 843, 844, 845, 846, 847, 848, 849, 850, 851, 852, 853, 854, 855] (by decide +kernel) (by decide +kernel)
set_option maxRecDepth 20000 in
theorem gL_law_X10_renew : GoodIn wsL_law (wsV RL 35 RX10 yX10_renew wsX10_renew) := goodIn_app (goodIn_of _ (by decide +kernel)) ggL_law_X10_renew
set_option maxRecDepth 20000 in
theorem ggL_law_X9_setPrice : GoodIn wsL_law wsX9_setPrice := goodIn_r _ [372, 16, 15, 138, 139, 140, 14, 141, 40, 44, 48, 52, 56, 57, 58, 59, 142, 143, 144, 39, 145, 65, 146, 147, 148, 149, 66, 67, 68, 69, 150, 151, 152, 43, 153, 74, 154, 75, 155, 156, 157, 47, 158, 79, 159, 80, 81, 160, 161, 162, 51, 163, 85, 164, 86, 165, 166, 167, 55, 168, 90, 91, 92, 93, 94, 95, 96, 373, 374, 375, 376, 317, 174, 377, 2, 378, 185, 186, 187, 188, 21, 189, 190, 191, 20, 192, 102, 103, 104, 193, 194, 177, 195, 196, 830, 831, 832, 833, 834, 835, 836, 837, 838, 839, 856, 857, 858, 859, 860, 861, 862, 863, 874, 875, 876, 877, 878, 879, 880, 881, 882, 883, 884, 885, 886, 887, 888, 889, 890, 891, 892, 864, 865, 866] (by decide +kernel) (by decide +kernel)
set_option maxRecDepth 20000 in
theorem gL_law_X9_setPrice : GoodIn wsL_law (wsV RL 36 RX9 yX9_setPrice wsX9_setPrice) := goodIn_app (goodIn_of _ (by decide +kernel)) ggL_law_X9_setPrice
set_option maxRecDepth 20000 in
theorem ggL_law_X10_setPrice : GoodIn wsL_law wsX10_setPrice := goodIn_r _ [382, 340, 123, 128, 205, 206, 5, 207, 208, 209, 210, 211, 212, 125, 383, 384, 385, 386, 840, 841, 842, 843, 844, 845, 846, 847, 848, 849, 850, 851, 852, 853, 854, 855] (by decide +kernel) (by decide +kernel)
set_option maxRecDepth 20000 in
theorem gL_law_X10_setPrice : GoodIn wsL_law (wsV RL 39 RX10 yX10_setPrice wsX10_setPrice) := goodIn_app (goodIn_of _ (by decide +kernel)) ggL_law_X10_setPrice
set_option maxRecDepth 20000 in
theorem ggL_law_X9_show : GoodIn wsL_law wsX9_show := goodIn_r _ [390, 16, 15, 138, 139, 140, 14, 141, 40, 44, 48, 52, 56, 57, 58, 59, 142, 143, 144, 39, 145, 65, 146, 147, 148, 149, 66, 67, 68, 69, 150, 151, 152, 43, 153, 74, 154, 75, 155, 156, 157, 47, 158, 79, 159, 80, 81, 160, 161, 162, 51, 163, 85, 164, 86, 165, 166, 167, 55, 168, 90, 91, 92, 93, 94, 95, 96, 391, 392, 393, 394, 173, 395, 179, 2, 180, 396, 397, 398, 399, 400, 401, 402, 403, 246, 247, 248, 249, 250, 251, 252, 253, 404, 405, 406, 407, 408, 409, 410, 411, 412, 413, 414, 415, 416, 417, 177, 418, 419, 420, 421, 422, 423, 424, 425, 426, 427, 428, 429, 430, 431, 292, 293, 432, 433, 434, 435, 436, 437, 438, 439, 440, 441, 442, 443, 444, 445, 446, 447, 448, 194, 195, 449, 450, 451, 452, 185, 186, 187, 188, 21, 189, 190, 191, 20, 192, 102, 103, 104, 193, 196, 830, 831, 832, 833, 834, 835, 836, 837, 838, 839, 856, 857, 858, 859, 860, 861, 862, 863, 874, 875, 876, 877, 878, 879, 880, 881, 882, 883, 884, 885, 886, 887, 888, 889, 890, 891, 892, 864, 865, 866] (by decide +kernel) (by decide +kernel)
set_option maxRecDepth 20000 in
theorem gL_law_X9_show : GoodIn wsL_law (wsV RL 40 RX9 yX9_show wsX9_show) := goodIn_app (goodIn_of _ (by decide +kernel)) ggL_law_X9_show
set_option maxRecDepth 20000 in
theorem ggL_law_X10_show : GoodIn wsL_law wsX10_show := goodIn_r _ [456, 201, 457, 202, 203, 5, 204, 205, 206, 207, 458, 459, 460, 461, 123, 128, 462, 463, 464, 465, 131, 132, 133, 466, 467, 468, 469, 208, 209, 210, 211, 212, 125, 470, 471, 472, 473, 474, 475, 476, 477, 478, 479, 480, 481, 482, 483, 484, 485, 486, 487, 488, 840, 841, 842, 843, 844, 845, 846, 847, 848, 849, 850, 851, 852, 853, 854, 855] (by decide +kernel) (by decide +kernel)
set_option maxRecDepth 20000 in
theorem gL_law_X10_show : GoodIn wsL_law (wsV RL 43 RX10 yX10_show wsX10_show) := goodIn_app (goodIn_of _ (by decide +kernel)) ggL_law_X10_show
set_option maxRecDepth 20000 in
theorem ggL_law_X9_nextDay : GoodIn wsL_law wsX9_nextDay := goodIn_r _ [492, 16, 15, 138, 139, 140, 14, 141, 40, 44, 48, 52, 56, 57, 58, 59, 142, 143, 144, 39, 145, 65, 146, 147, 148, 149, 66, 67, 68, 69, 150, 151, 152, 43, 153, 74, 154, 75, 155, 156, 157, 47, 158, 79, 159, 80, 81, 160, 161, 162, 51, 163, 85, 164, 86, 165, 166, 167, 55, 168, 90, 91, 92, 93, 94, 95, 96, 493, 494, 495, 496, 241, 185, 186, 187, 2, 188, 21, 189, 190, 191, 20, 192, 102, 103, 104, 193, 194, 177, 195, 196, 830, 831, 832, 833, 834, 835, 836, 837, 838, 839, 856, 857, 858, 859, 860, 861, 862, 863, 874, 875, 876, 877, 878, 879, 880, 881, 882, 883, 884, 885, 886, 887, 888, 889, 890, 891, 892, 864, 865, 866] (by decide +kernel) (by decide +kernel)
set_option maxRecDepth 20000 in
theorem gL_law_X9_nextDay : GoodIn wsL_law (wsV RL 44 RX9 yX9_nextDay wsX9_nextDay) := goodIn_app (goodIn_of _ (by decide +kernel)) ggL_law_X9_nextDay
set_option maxRecDepth 20000 in
theorem ggL_law_X10_nextDay : GoodIn wsL_law wsX10_nextDay := goodIn_r _ [500, 123, 275, 208, 209, 210, 5, 211, 212, 125, 501, 502, 503, 504, 840, 841, 842, 843, 844, 845, 846, 847, 848, 849, 850, 851, 852, 853, 854, 855] (by decide +kernel) (by decide +kernel)
set_option maxRecDepth 20000 in
theorem gL_law_X10_nextDay : GoodIn wsL_law (wsV RL 48 RX10 yX10_nextDay wsX10_nextDay) := goodIn_app (goodIn_of _ (by decide +kernel)) ggL_law_X10_nextDay
set_option maxRecDepth 20000 in
theorem ggL_law_X9_type : GoodIn wsL_law wsX9_type := goodIn_r _ [508, 25, 509, 510, 511, 24, 512, 110, 513, 109, 830, 831, 832, 833, 834, 835, 836, 837, 838, 839, 867, 868] (by decide +kernel) (by decide +kernel)
set_option maxRecDepth 20000 in
theorem gL_law_X9_type : GoodIn wsL_law (wsV RL 49 RX9 yX9_type wsX9_type) := goodIn_app (goodIn_of _ (by decide +kernel)) ggL_law_X9_type
set_option maxRecDepth 20000 in
theorem ggL_law_X10_type : GoodIn wsL_law wsX10_type := goodIn_r _ [517, 518, 275, 127, 840, 841, 842, 843, 844, 845, 846, 847, 848, 849, 850, 851, 852, 853, 854, 855] (by decide +kernel) (by decide +kernel)
set_option maxRecDepth 20000 in
theorem gL_law_X10_type : GoodIn wsL_law (wsV RL 53 RX10 yX10_type wsX10_type) := goodIn_app (goodIn_of _ (by decide +kernel)) ggL_law_X10_type
set_option maxRecDepth 20000 in
theorem ggL_law_X9_clearText : GoodIn wsL_law wsX9_clearText := goodIn_r _ [522, 25, 523, 524, 525, 24, 526, 110, 830, 831, 832, 833, 834, 835, 836, 837, 838, 839, 867, 868] (by decide +kernel) (by decide +kernel)
set_option maxRecDepth 20000 in
theorem gL_law_X9_clearText : GoodIn wsL_law (wsV RL 54 RX9 yX9_clearText wsX9_clearText) := goodIn_app (goodIn_of _ (by decide +kernel)) ggL_law_X9_clearText
set_option maxRecDepth 20000 in
theorem ggL_law_X10_clearText : GoodIn wsL_law wsX10_clearText := goodIn_r _ [530, 518, 840, 841, 842, 843, 844, 845, 846, 847, 848, 849, 850, 851, 852, 853, 854, 855] (by decide +kernel) (by decide +kernel)
set_option maxRecDepth 20000 in
theorem gL_law_X10_clearText : GoodIn wsL_law (wsV RL 57 RX10 yX10_clearText wsX10_clearText) := goodIn_app (goodIn_of _ (by decide +kernel)) ggL_law_X10_clearText
set_option maxRecDepth 20000 in
theorem gpL_X9_0 : GoodIn wsL_law [Cond.code yX9_perform cX9_perform 4 (some .int)] := goodIn_r _ [534] (by decide +kernel) (by decide +kernel)
set_option maxRecDepth 20000 in
theorem gpL_X9_1 : GoodIn wsL_law wsX9_perform_r1 := goodIn_r _ [29, 25, 535, 16, 15, 536, 537, 538, 539, 540, 28, 541, 117, 118, 542, 543, 544, 545, 546, 547, 548, 24, 549, 110] (by decide +kernel) (by decide +kernel)
set_option maxRecDepth 20000 in
theorem gpL_X9_2 : GoodIn wsL_law wsX9_perform_r2 := goodIn_r _ [109, 550, 551, 552, 553, 554, 555, 556, 557, 558, 559, 560, 561, 114, 115, 116, 562, 563, 564, 565, 292, 2, 293, 566] (by decide +kernel) (by decide +kernel)
set_option maxRecDepth 20000 in
theorem gpL_X9_3 : GoodIn wsL_law wsX9_perform_r3 := goodIn_r _ [567, 568, 569, 570, 571, 572, 573, 318, 319, 574, 575, 576, 577, 138, 139, 140, 14, 141, 40, 44, 48, 52, 56, 57] (by decide +kernel) (by decide +kernel)
set_option maxRecDepth 20000 in
theorem gpL_X9_4 : GoodIn wsL_law wsX9_perform_r4 := goodIn_r _ [58, 59, 142, 143, 144, 39, 145, 65, 146, 147, 148, 149, 66, 67, 68, 69, 150, 151, 152, 43, 153, 74, 154, 75] (by decide +kernel) (by decide +kernel)
set_option maxRecDepth 20000 in
theorem gpL_X9_5 : GoodIn wsL_law wsX9_perform_r5 := goodIn_r _ [155, 156, 157, 47, 158, 79, 159, 80, 81, 160, 161, 162, 51, 163, 85, 164, 86, 165, 166, 167, 55, 168, 90, 91] (by decide +kernel) (by decide +kernel)
set_option maxRecDepth 20000 in
theorem gpL_X9_6 : GoodIn wsL_law wsX9_perform_r6 := goodIn_r _ [92, 93, 94, 95, 96, 578, 579, 580, 581, 582, 583, 584, 585, 586, 170, 171, 172, 173, 174, 175, 176, 177, 178, 179] (by decide +kernel) (by decide +kernel)
set_option maxRecDepth 20000 in
theorem gpL_X9_7 : GoodIn wsL_law wsX9_perform_r7 := goodIn_r _ [180, 181, 182, 183, 184, 587, 225, 226, 227, 228, 229, 230, 231, 232, 233, 234, 235, 236, 237, 238, 239, 240, 241, 242] (by decide +kernel) (by decide +kernel)
set_option maxRecDepth 20000 in
theorem gpL_X9_8 : GoodIn wsL_law wsX9_perform_r8 := goodIn_r _ [243, 244, 245, 246, 247, 248, 249, 250, 251, 252, 253, 254, 255, 256, 257, 588, 589, 590, 591, 294, 295, 296, 297, 592] (by decide +kernel) (by decide +kernel)
set_option maxRecDepth 20000 in
theorem gpL_X9_9 : GoodIn wsL_law wsX9_perform_r9 := goodIn_r _ [289, 290, 291, 298, 299, 300, 301, 593, 314, 315, 316, 317, 320, 321, 322, 323, 324, 325, 326, 327, 328, 329, 330, 331] (by decide +kernel) (by decide +kernel)
set_option maxRecDepth 20000 in
theorem gpL_X9_10 : GoodIn wsL_law wsX9_perform_r10 := goodIn_r _ [594, 595, 596, 597, 598, 392, 393, 394, 395, 396, 397, 398, 399, 400, 401, 402, 403, 404, 405, 406, 407, 408, 409, 410] (by decide +kernel) (by decide +kernel)
set_option maxRecDepth 20000 in
theorem gpL_X9_11 : GoodIn wsL_law wsX9_perform_r11 := goodIn_r _ [411, 412, 413, 414, 415, 416, 417, 418, 419, 420, 421, 422, 423, 424, 425, 426, 427, 428, 429, 430, 431, 432, 433, 434] (by decide +kernel) (by decide +kernel)
set_option maxRecDepth 20000 in
theorem gpL_X9_12 : GoodIn wsL_law wsX9_perform_r12 := goodIn_r _ [435, 436, 437, 438, 439, 440, 441, 442, 443, 444, 445, 446, 447, 448, 194, 195, 449, 450, 451, 452, 599, 494, 495, 496] (by decide +kernel) (by decide +kernel)
set_option maxRecDepth 20000 in
theorem gpL_X9_13 : GoodIn wsL_law wsX9_perform_r13 := goodIn_r _ [600, 601, 602, 603, 31, 32, 33, 185, 186, 187, 188, 21, 189, 190, 191, 20, 192, 102, 103, 104, 193, 196] (by decide +kernel) (by decide +kernel)
set_option maxRecDepth 20000 in
theorem gpL_X9_X9 : GoodIn wsL_law wsX90 := goodIn_r _ [830, 831, 832, 833, 834, 835, 836, 837, 838, 839] (by decide +kernel) (by decide +kernel)
set_option maxRecDepth 20000 in
theorem gpL_X9_X5 : GoodIn wsL_law wsX50 := goodIn_r _ [869, 870, 871, 872, 873] (by decide +kernel) (by decide +kernel)
set_option maxRecDepth 20000 in
theorem gpL_X9_X8 : GoodIn wsL_law wsX80 := goodIn_r _ [867, 868] (by decide +kernel) (by decide +kernel)
set_option maxRecDepth 20000 in
theorem gpL_X9_X7 : GoodIn wsL_law wsX70 := goodIn_r _ [856, 857, 858, 859, 860, 861, 862, 863] (by decide +kernel) (by decide +kernel)
set_option maxRecDepth 20000 in
theorem gpL_X9_X4 : GoodIn wsL_law wsX40 := goodIn_r _ [874, 875, 876, 877, 878] (by decide +kernel) (by decide +kernel)
set_option maxRecDepth 20000 in
theorem gpL_X9_X2 : GoodIn wsL_law wsX20 := goodIn_r _ [879, 880] (by decide +kernel) (by decide +kernel)
set_option maxRecDepth 20000 in
theorem gpL_X9_X1 : GoodIn wsL_law wsX10 := goodIn_r _ [881, 882, 883] (by decide +kernel) (by decide +kernel)
set_option maxRecDepth 20000 in
theorem gpL_X9_X6 : GoodIn wsL_law wsX60 := goodIn_r _ [884, 885] (by decide +kernel) (by decide +kernel)
set_option maxRecDepth 20000 in
theorem gpL_X9_X0 : GoodIn wsL_law wsX00 := goodIn_r _ [886, 887, 888, 889, 890, 891, 892] (by decide +kernel) (by decide +kernel)
set_option maxRecDepth 20000 in
theorem gpL_X9_X3 : GoodIn wsL_law wsX30 := goodIn_r _ [864, 865, 866] (by decide +kernel) (by decide +kernel)
theorem ggL_law_X9_perform : GoodIn wsL_law wsX9_perform := goodIn_app gpL_X9_0 (goodIn_app (goodIn_app (goodIn_app (goodIn_app (goodIn_app (goodIn_app (goodIn_app (goodIn_app (goodIn_app (goodIn_app (goodIn_app gpL_X9_1 (goodIn_app gpL_X9_2 (goodIn_app gpL_X9_3 (goodIn_app gpL_X9_4 (goodIn_app gpL_X9_5 (goodIn_app gpL_X9_6 (goodIn_app gpL_X9_7 (goodIn_app gpL_X9_8 (goodIn_app gpL_X9_9 (goodIn_app gpL_X9_10 (goodIn_app gpL_X9_11 (goodIn_app gpL_X9_12 gpL_X9_13)))))))))))) gpL_X9_X9) gpL_X9_X5) gpL_X9_X8) gpL_X9_X7) gpL_X9_X4) gpL_X9_X2) gpL_X9_X1) gpL_X9_X6) gpL_X9_X0) gpL_X9_X3)
set_option maxRecDepth 20000 in
theorem gL_law_X9_perform : GoodIn wsL_law (wsV RL 58 RX9 yX9_perform wsX9_perform) := goodIn_app (goodIn_of _ (by decide +kernel)) ggL_law_X9_perform
set_option maxRecDepth 20000 in
theorem gpL_X10_0 : GoodIn wsL_law [Cond.code yX10_perform cX10_perform 2 (some .int)] := goodIn_r _ [607] (by decide +kernel) (by decide +kernel)
set_option maxRecDepth 20000 in
theorem gpL_X10_1 : GoodIn wsL_law wsX10_perform_r1 := goodIn_r _ [608, 609, 610, 611, 129, 130, 274, 612, 613, 614, 5, 615, 518, 616, 617, 618, 619, 127, 620, 621, 622, 623, 624, 625] (by decide +kernel) (by decide +kernel)
set_option maxRecDepth 20000 in
theorem gpL_X10_2 : GoodIn wsL_law wsX10_perform_r2 := goodIn_r _ [626, 205, 206, 207, 627, 628, 629, 630, 631, 632, 633, 634, 128, 123, 635, 636, 637, 638, 201, 457, 275, 262, 263, 264] (by decide +kernel) (by decide +kernel)
set_option maxRecDepth 20000 in
theorem gpL_X10_3 : GoodIn wsL_law wsX10_perform_r3 := goodIn_r _ [265, 131, 132, 133, 270, 271, 272, 273, 276, 277, 278, 279, 336, 337, 338, 339, 340, 306, 307, 308, 458, 459, 460, 461] (by decide +kernel) (by decide +kernel)
set_option maxRecDepth 20000 in
theorem gpL_X10_4 : GoodIn wsL_law wsX10_perform_r4 := goodIn_r _ [462, 463, 464, 465, 466, 467, 468, 469, 213, 214, 215, 216, 217, 218, 219, 280, 281, 282, 283, 341, 342, 343, 344, 470] (by decide +kernel) (by decide +kernel)
set_option maxRecDepth 20000 in
theorem gpL_X10_5 : GoodIn wsL_law wsX10_perform_r5 := goodIn_r _ [471, 472, 473, 474, 475, 476, 477, 478, 479, 480, 481, 482, 483, 484, 485, 486, 487, 488, 501, 502, 503, 504, 639, 640] (by decide +kernel) (by decide +kernel)
set_option maxRecDepth 20000 in
theorem gpL_X10_6 : GoodIn wsL_law wsX10_perform_r6 := goodIn_r _ [641, 642, 124, 643, 644, 645, 646, 208, 209, 210, 211, 212, 125] (by decide +kernel) (by decide +kernel)
set_option maxRecDepth 20000 in
theorem gpL_X10_X10 : GoodIn wsL_law wsX100 := goodIn_r _ [840, 841, 842, 843, 844, 845, 846, 847, 848, 849, 850, 851, 852, 853, 854, 855] (by decide +kernel) (by decide +kernel)
theorem ggL_law_X10_perform : GoodIn wsL_law wsX10_perform := goodIn_app gpL_X10_0 (goodIn_app (goodIn_app gpL_X10_1 (goodIn_app gpL_X10_2 (goodIn_app gpL_X10_3 (goodIn_app gpL_X10_4 (goodIn_app gpL_X10_5 gpL_X10_6))))) gpL_X10_X10)
set_option maxRecDepth 20000 in
theorem gL_law_X10_perform : GoodIn wsL_law (wsV RL 61 RX10 yX10_perform wsX10_perform) := goodIn_app (goodIn_of _ (by decide +kernel)) ggL_law_X10_perform
set_option maxRecDepth 20000 in
theorem ggL_law_X9_stopped : GoodIn wsL_law wsX9_stopped := goodIn_r _ [650, 651, 31, 536, 32, 33, 830, 831, 832, 833, 834, 835, 836, 837, 838, 839] (by decide +kernel) (by decide +kernel)
set_option maxRecDepth 20000 in
theorem gL_law_X9_stopped : GoodIn wsL_law (wsV RL 62 RX9 yX9_stopped wsX9_stopped) := goodIn_app (goodIn_of _ (by decide +kernel)) ggL_law_X9_stopped
set_option maxRecDepth 20000 in
theorem ggL_law_X10_stopped : GoodIn wsL_law wsX10_stopped := goodIn_r _ [655, 340, 129, 130, 205, 206, 5, 207, 840, 841, 842, 843, 844, 845, 846, 847, 848, 849, 850, 851, 852, 853, 854, 855] (by decide +kernel) (by decide +kernel)
set_option maxRecDepth 20000 in
theorem gL_law_X10_stopped : GoodIn wsL_law (wsV RL 65 RX10 yX10_stopped wsX10_stopped) := goodIn_app (goodIn_of _ (by decide +kernel)) ggL_law_X10_stopped
set_option maxRecDepth 20000 in
theorem ggL_law_X9_undo : GoodIn wsL_law wsX9_undo := goodIn_r _ [659, 21, 15, 536, 660, 661, 662, 20, 663, 104, 103, 102, 196, 139, 140, 14, 141, 40, 44, 48, 52, 56, 57, 58, 59, 142, 143, 144, 39, 145, 65, 146, 147, 148, 149, 66, 67, 68, 69, 150, 151, 152, 43, 153, 74, 154, 75, 155, 156, 157, 47, 158, 79, 159, 80, 81, 160, 161, 162, 51, 163, 85, 164, 86, 165, 166, 167, 55, 168, 90, 91, 92, 93, 94, 95, 96, 664, 665, 666, 667, 830, 831, 832, 833, 834, 835, 836, 837, 838, 839, 864, 865, 866, 856, 857, 858, 859, 860, 861, 862, 863, 874, 875, 876, 877, 878, 879, 880, 881, 882, 883, 884, 885, 886, 887, 888, 889, 890, 891, 892] (by decide +kernel) (by decide +kernel)
set_option maxRecDepth 20000 in
theorem gL_law_X9_undo : GoodIn wsL_law (wsV RL 66 RX9 yX9_undo wsX9_undo) := goodIn_app (goodIn_of _ (by decide +kernel)) ggL_law_X9_undo
set_option maxRecDepth 20000 in
theorem ggL_law_X10_undo : GoodIn wsL_law wsX10_undo := goodIn_r _ [671, 212, 128, 123, 125, 840, 841, 842, 843, 844, 845, 846, 847, 848, 849, 850, 851, 852, 853, 854, 855] (by decide +kernel) (by decide +kernel)
set_option maxRecDepth 20000 in
theorem gL_law_X10_undo : GoodIn wsL_law (wsV RL 69 RX10 yX10_undo wsX10_undo) := goodIn_app (goodIn_of _ (by decide +kernel)) ggL_law_X10_undo
set_option maxRecDepth 20000 in
theorem ggL_law_X9_keep : GoodIn wsL_law wsX9_keep := goodIn_r _ [675, 17, 15, 30, 138, 139, 140, 14, 141, 40, 44, 48, 52, 56, 57, 58, 59, 142, 143, 144, 39, 145, 65, 146, 147, 148, 149, 66, 67, 68, 69, 150, 151, 152, 43, 153, 74, 154, 75, 155, 156, 157, 47, 158, 79, 159, 80, 81, 160, 161, 162, 51, 163, 85, 164, 86, 165, 166, 167, 55, 168, 90, 91, 92, 93, 94, 95, 96, 676, 677, 678, 679, 830, 831, 832, 833, 834, 835, 836, 837, 838, 839, 856, 857, 858, 859, 860, 861, 862, 863, 874, 875, 876, 877, 878, 879, 880, 881, 882, 883, 884, 885, 886, 887, 888, 889, 890, 891, 892] (by decide +kernel) (by decide +kernel)
set_option maxRecDepth 20000 in
theorem gL_law_X9_keep : GoodIn wsL_law (wsV RL 70 RX9 yX9_keep wsX9_keep) := goodIn_app (goodIn_of _ (by decide +kernel)) ggL_law_X9_keep
set_option maxRecDepth 20000 in
theorem ggL_law_X10_keep : GoodIn wsL_law wsX10_keep := goodIn_r _ [683, 126, 123, 684, 840, 841, 842, 843, 844, 845, 846, 847, 848, 849, 850, 851, 852, 853, 854, 855] (by decide +kernel) (by decide +kernel)
set_option maxRecDepth 20000 in
theorem gL_law_X10_keep : GoodIn wsL_law (wsV RL 73 RX10 yX10_keep wsX10_keep) := goodIn_app (goodIn_of _ (by decide +kernel)) ggL_law_X10_keep
set_option maxRecDepth 20000 in
theorem ggL_law_X9_restore : GoodIn wsL_law wsX9_restore := goodIn_r _ [688, 30, 536, 16, 15, 17, 138, 139, 140, 14, 141, 40, 44, 48, 52, 56, 57, 58, 59, 142, 143, 144, 39, 145, 65, 146, 147, 148, 149, 66, 67, 68, 69, 150, 151, 152, 43, 153, 74, 154, 75, 155, 156, 157, 47, 158, 79, 159, 80, 81, 160, 161, 162, 51, 163, 85, 164, 86, 165, 166, 167, 55, 168, 90, 91, 92, 93, 94, 95, 96, 676, 677, 678, 679, 185, 186, 187, 2, 188, 21, 189, 190, 191, 20, 192, 102, 103, 104, 193, 194, 177, 195, 196, 830, 831, 832, 833, 834, 835, 836, 837, 838, 839, 856, 857, 858, 859, 860, 861, 862, 863, 874, 875, 876, 877, 878, 879, 880, 881, 882, 883, 884, 885, 886, 887, 888, 889, 890, 891, 892, 864, 865, 866] (by decide +kernel) (by decide +kernel)
set_option maxRecDepth 20000 in
theorem gL_law_X9_restore : GoodIn wsL_law (wsV RL 74 RX9 yX9_restore wsX9_restore) := goodIn_app (goodIn_of _ (by decide +kernel)) ggL_law_X9_restore
set_option maxRecDepth 20000 in
theorem ggL_law_X10_restore : GoodIn wsL_law wsX10_restore := goodIn_r _ [692, 684, 128, 123, 126, 208, 209, 210, 5, 211, 212, 125, 840, 841, 842, 843, 844, 845, 846, 847, 848, 849, 850, 851, 852, 853, 854, 855] (by decide +kernel) (by decide +kernel)
set_option maxRecDepth 20000 in
theorem gL_law_X10_restore : GoodIn wsL_law (wsV RL 77 RX10 yX10_restore wsX10_restore) := goodIn_app (goodIn_of _ (by decide +kernel)) ggL_law_X10_restore
set_option maxRecDepth 20000 in
theorem ggL_law_X9_reel : GoodIn wsL_law wsX9_reel := goodIn_r _ [696, 15, 697, 698, 699, 14, 700, 40, 173, 317, 228, 229, 230, 39, 231, 65, 232, 233, 234, 235, 701, 702, 703, 174, 361, 362, 363, 364, 66, 704, 705, 706, 707, 67, 708, 709, 710, 711, 68, 712, 713, 714, 715, 69, 716, 717, 718, 719, 830, 831, 832, 833, 834, 835, 836, 837, 838, 839, 856, 857, 858, 859, 860, 861, 862, 863, 874, 875, 876, 877, 878] (by decide +kernel) (by decide +kernel)
set_option maxRecDepth 20000 in
theorem gL_law_X9_reel : GoodIn wsL_law (wsV RL 78 RX9 yX9_reel wsX9_reel) := goodIn_app (goodIn_of _ (by decide +kernel)) ggL_law_X9_reel
set_option maxRecDepth 20000 in
theorem ggL_law_X10_reel : GoodIn wsL_law wsX10_reel := goodIn_r _ [723, 201, 123, 340, 262, 263, 264, 5, 265, 205, 206, 207, 131, 132, 133, 724, 725, 726, 727, 840, 841, 842, 843, 844, 845, 846, 847, 848, 849, 850, 851, 852, 853, 854, 855] (by decide +kernel) (by decide +kernel)
set_option maxRecDepth 20000 in
theorem gL_law_X10_reel : GoodIn wsL_law (wsV RL 81 RX10 yX10_reel wsX10_reel) := goodIn_app (goodIn_of _ (by decide +kernel)) ggL_law_X10_reel
set_option maxRecDepth 20000 in
theorem ggL_law_X9_generator : GoodIn wsL_law wsX9_generator := goodIn_r _ [731, 15, 732, 733, 734, 14, 735, 173, 44, 317, 292, 2, 293, 294, 295, 296, 43, 297, 74, 701, 702, 703, 174, 320, 321, 322, 323, 75, 830, 831, 832, 833, 834, 835, 836, 837, 838, 839, 856, 857, 858, 859, 860, 861, 862, 863, 879, 880] (by decide +kernel) (by decide +kernel)
set_option maxRecDepth 20000 in
theorem gL_law_X9_generator : GoodIn wsL_law (wsV RL 82 RX9 yX9_generator wsX9_generator) := goodIn_app (goodIn_of _ (by decide +kernel)) ggL_law_X9_generator
set_option maxRecDepth 20000 in
theorem ggL_law_X10_generator : GoodIn wsL_law wsX10_generator := goodIn_r _ [739, 201, 123, 340, 306, 307, 5, 308, 205, 206, 207, 840, 841, 842, 843, 844, 845, 846, 847, 848, 849, 850, 851, 852, 853, 854, 855] (by decide +kernel) (by decide +kernel)
set_option maxRecDepth 20000 in
theorem gL_law_X10_generator : GoodIn wsL_law (wsV RL 85 RX10 yX10_generator wsX10_generator) := goodIn_app (goodIn_of _ (by decide +kernel)) ggL_law_X10_generator
set_option maxRecDepth 20000 in
theorem ggL_law_X9_barn : GoodIn wsL_law wsX9_barn := goodIn_r _ [743, 15, 744, 745, 746, 14, 747, 173, 40, 48, 317, 179, 2, 180, 246, 247, 248, 39, 249, 65, 404, 405, 406, 407, 66, 412, 413, 414, 415, 416, 417, 177, 418, 419, 420, 421, 422, 69, 423, 424, 425, 426, 67, 427, 396, 397, 398, 399, 58, 44, 400, 401, 402, 47, 403, 80, 79, 250, 251, 252, 43, 253, 74, 408, 409, 410, 411, 75, 748, 749, 750, 751, 752, 753, 754, 755, 81, 830, 831, 832, 833, 834, 835, 836, 837, 838, 839, 856, 857, 858, 859, 860, 861, 862, 863, 874, 875, 876, 877, 878, 881, 882, 883, 879, 880] (by decide +kernel) (by decide +kernel)
set_option maxRecDepth 20000 in
theorem gL_law_X9_barn : GoodIn wsL_law (wsV RL 86 RX9 yX9_barn wsX9_barn) := goodIn_app (goodIn_of _ (by decide +kernel)) ggL_law_X9_barn
set_option maxRecDepth 20000 in
theorem ggL_law_X10_barn : GoodIn wsL_law wsX10_barn := goodIn_r _ [759, 201, 123, 340, 202, 203, 5, 204, 205, 206, 207, 217, 218, 219, 478, 479, 480, 462, 463, 464, 465, 131, 132, 133, 474, 475, 476, 477, 458, 459, 460, 461, 128, 466, 467, 468, 469, 840, 841, 842, 843, 844, 845, 846, 847, 848, 849, 850, 851, 852, 853, 854, 855] (by decide +kernel) (by decide +kernel)
set_option maxRecDepth 20000 in
theorem gL_law_X10_barn : GoodIn wsL_law (wsV RL 89 RX10 yX10_barn wsX10_barn) := goodIn_app (goodIn_of _ (by decide +kernel)) ggL_law_X10_barn
set_option maxRecDepth 20000 in
theorem ggL_law_X9_bestBarn : GoodIn wsL_law wsX9_bestBarn := goodIn_r _ [763, 15, 764, 765, 766, 14, 767, 174, 396, 397, 398, 399, 48, 58, 40, 44, 400, 401, 402, 47, 403, 80, 79, 246, 247, 248, 39, 249, 65, 250, 251, 252, 43, 253, 74, 404, 405, 406, 407, 66, 408, 409, 410, 411, 75, 412, 413, 414, 415, 416, 417, 177, 418, 419, 420, 421, 422, 69, 423, 424, 425, 426, 67, 427, 830, 831, 832, 833, 834, 835, 836, 837, 838, 839, 856, 857, 858, 859, 860, 861, 862, 863, 881, 882, 883, 874, 875, 876, 877, 878, 879, 880] (by decide +kernel) (by decide +kernel)
set_option maxRecDepth 20000 in
theorem gL_law_X9_bestBarn : GoodIn wsL_law (wsV RL 90 RX9 yX9_bestBarn wsX9_bestBarn) := goodIn_app (goodIn_of _ (by decide +kernel)) ggL_law_X9_bestBarn
set_option maxRecDepth 20000 in
theorem ggL_law_X10_bestBarn : GoodIn wsL_law wsX10_bestBarn := goodIn_r _ [771, 128, 458, 459, 460, 5, 461, 123, 462, 463, 464, 465, 131, 132, 133, 466, 467, 468, 469, 474, 475, 476, 477, 478, 479, 480, 840, 841, 842, 843, 844, 845, 846, 847, 848, 849, 850, 851, 852, 853, 854, 855] (by decide +kernel) (by decide +kernel)
set_option maxRecDepth 20000 in
theorem gL_law_X10_bestBarn : GoodIn wsL_law (wsV RL 93 RX10 yX10_bestBarn wsX10_bestBarn) := goodIn_app (goodIn_of _ (by decide +kernel)) ggL_law_X10_bestBarn
set_option maxRecDepth 20000 in
theorem ggL_law_X9_ifPrice : GoodIn wsL_law wsX9_ifPrice := goodIn_r _ [775, 776, 15, 651, 777, 179, 2, 180, 778, 377, 378, 779, 413, 414, 14, 415, 40, 416, 417, 177, 418, 246, 247, 248, 39, 249, 65, 419, 420, 421, 422, 69, 423, 424, 425, 426, 67, 427, 830, 831, 832, 833, 834, 835, 836, 837, 838, 839, 856, 857, 858, 859, 860, 861, 862, 863, 874, 875, 876, 877, 878] (by decide +kernel) (by decide +kernel)
set_option maxRecDepth 20000 in
theorem gL_law_X9_ifPrice : GoodIn wsL_law (wsV RL 94 RX9 yX9_ifPrice wsX9_ifPrice) := goodIn_app (goodIn_of _ (by decide +kernel)) ggL_law_X9_ifPrice
set_option maxRecDepth 20000 in
theorem ggL_law_X10_ifPrice : GoodIn wsL_law wsX10_ifPrice := goodIn_r _ [783, 201, 340, 202, 203, 5, 204, 205, 206, 207, 474, 475, 476, 477, 462, 463, 464, 465, 123, 131, 132, 133, 478, 479, 480, 840, 841, 842, 843, 844, 845, 846, 847, 848, 849, 850, 851, 852, 853, 854, 855] (by decide +kernel) (by decide +kernel)
set_option maxRecDepth 20000 in
theorem gL_law_X10_ifPrice : GoodIn wsL_law (wsV RL 97 RX10 yX10_ifPrice wsX10_ifPrice) := goodIn_app (goodIn_of _ (by decide +kernel)) ggL_law_X10_ifPrice
set_option maxRecDepth 20000 in
theorem ggL_law_X9_showOf : GoodIn wsL_law wsX9_showOf := goodIn_r _ [787, 15, 788, 789, 790, 14, 791, 317, 52, 174, 792, 793, 794, 51, 795, 86, 796, 797, 798, 799, 85, 830, 831, 832, 833, 834, 835, 836, 837, 838, 839, 856, 857, 858, 859, 860, 861, 862, 863, 884, 885] (by decide +kernel) (by decide +kernel)
set_option maxRecDepth 20000 in
theorem gL_law_X9_showOf : GoodIn wsL_law (wsV RL 98 RX9 yX9_showOf wsX9_showOf) := goodIn_app (goodIn_of _ (by decide +kernel)) ggL_law_X9_showOf
set_option maxRecDepth 20000 in
theorem ggL_law_X10_showOf : GoodIn wsL_law wsX10_showOf := goodIn_r _ [803, 340, 123, 128, 205, 206, 5, 207, 840, 841, 842, 843, 844, 845, 846, 847, 848, 849, 850, 851, 852, 853, 854, 855] (by decide +kernel) (by decide +kernel)
set_option maxRecDepth 20000 in
theorem gL_law_X10_showOf : GoodIn wsL_law (wsV RL 101 RX10 yX10_showOf wsX10_showOf) := goodIn_app (goodIn_of _ (by decide +kernel)) ggL_law_X10_showOf
set_option maxRecDepth 20000 in
theorem ggL_law_X9_count : GoodIn wsL_law wsX9_count := goodIn_r _ [807, 21, 25, 15, 664, 665, 666, 20, 667, 104, 808, 575, 576, 24, 577, 110, 809, 810, 811, 14, 812, 58, 57, 40, 59, 56, 242, 243, 244, 245, 44, 246, 247, 248, 39, 249, 65, 250, 251, 252, 43, 253, 74, 813, 814, 815, 55, 816, 90, 91, 92, 93, 94, 95, 96, 817, 830, 831, 832, 833, 834, 835, 836, 837, 838, 839, 864, 865, 866, 867, 868, 856, 857, 858, 859, 860, 861, 862, 863, 874, 875, 876, 877, 878, 879, 880, 886, 887, 888, 889, 890, 891, 892] (by decide +kernel) (by decide +kernel)
set_option maxRecDepth 20000 in
theorem gL_law_X9_count : GoodIn wsL_law (wsV RL 102 RX9 yX9_count wsX9_count) := goodIn_app (goodIn_of _ (by decide +kernel)) ggL_law_X9_count
set_option maxRecDepth 20000 in
theorem ggL_law_X10_count : GoodIn wsL_law wsX10_count := goodIn_r _ [821, 123, 212, 518, 340, 276, 277, 278, 5, 279, 128, 131, 132, 133, 822, 823, 824, 825, 826, 827, 828, 829, 840, 841, 842, 843, 844, 845, 846, 847, 848, 849, 850, 851, 852, 853, 854, 855] (by decide +kernel) (by decide +kernel)
set_option maxRecDepth 20000 in
theorem gL_law_X10_count : GoodIn wsL_law (wsV RL 105 RX10 yX10_count wsX10_count) := goodIn_app (goodIn_of _ (by decide +kernel)) ggL_law_X10_count
theorem dL_law_0 : decode cL_law 0 = .ok (.new 7, 3) := by decide +kernel
theorem dL_law_3 : decode cL_law 3 = .ok (.dup, 1) := by decide +kernel
theorem dL_law_4 : decode cL_law 4 = .ok (.invokespecial 9, 3) := by decide +kernel
theorem dL_law_7 : decode cL_law 7 = .ok (.astore_n 1, 1) := by decide +kernel
theorem dL_law_8 : decode cL_law 8 = .ok (.new 10, 3) := by decide +kernel
theorem dL_law_11 : decode cL_law 11 = .ok (.dup, 1) := by decide +kernel
theorem dL_law_12 : decode cL_law 12 = .ok (.invokespecial 12, 3) := by decide +kernel
theorem dL_law_15 : decode cL_law 15 = .ok (.astore_n 2, 1) := by decide +kernel
theorem dL_law_16 : decode cL_law 16 = .ok (.iconst 0, 1) := by decide +kernel
theorem dL_law_17 : decode cL_law 17 = .ok (.istore_n 3, 1) := by decide +kernel
theorem dL_law_18 : decode cL_law 18 = .ok (.iload_n 3, 1) := by decide +kernel
theorem dL_law_19 : decode cL_law 19 = .ok (.aload_n 0, 1) := by decide +kernel
theorem dL_law_20 : decode cL_law 20 = .ok (.arraylength, 1) := by decide +kernel
theorem dL_law_21 : decode cL_law 21 = .ok (.iconst 3, 1) := by decide +kernel
theorem dL_law_22 : decode cL_law 22 = .ok (.isub, 1) := by decide +kernel
theorem dL_law_23 : decode cL_law 23 = .ok (.if_icmp .gt 669, 3) := by decide +kernel
theorem dL_law_26 : decode cL_law 26 = .ok (.aload_n 0, 1) := by decide +kernel
theorem dL_law_27 : decode cL_law 27 = .ok (.iload_n 3, 1) := by decide +kernel
theorem dL_law_28 : decode cL_law 28 = .ok (.iaload, 1) := by decide +kernel
theorem dL_law_29 : decode cL_law 29 = .ok (.bipush 31, 2) := by decide +kernel
theorem dL_law_31 : decode cL_law 31 = .ok (.iand, 1) := by decide +kernel
theorem dL_law_32 : decode cL_law 32 = .ok (.tableswitch 654 0 21 #[104, 127, 176, 225, 258, 281, 304, 327, 340, 365, 378, 391, 414, 427, 440, 453, 486, 519, 552, 565, 598, 631], 104) := by decide +kernel
theorem dL_law_136 : decode cL_law 136 = .ok (.aload_n 1, 1) := by decide +kernel
theorem dL_law_137 : decode cL_law 137 = .ok (.aload_n 0, 1) := by decide +kernel
theorem dL_law_138 : decode cL_law 138 = .ok (.iload_n 3, 1) := by decide +kernel
theorem dL_law_139 : decode cL_law 139 = .ok (.iconst 1, 1) := by decide +kernel
theorem dL_law_140 : decode cL_law 140 = .ok (.iadd, 1) := by decide +kernel
theorem dL_law_141 : decode cL_law 141 = .ok (.iaload, 1) := by decide +kernel
theorem dL_law_142 : decode cL_law 142 = .ok (.invokevirtual 13, 3) := by decide +kernel
theorem dL_law_145 : decode cL_law 145 = .ok (.aload_n 2, 1) := by decide +kernel
theorem dL_law_146 : decode cL_law 146 = .ok (.aload_n 0, 1) := by decide +kernel
theorem dL_law_147 : decode cL_law 147 = .ok (.iload_n 3, 1) := by decide +kernel
theorem dL_law_148 : decode cL_law 148 = .ok (.iconst 1, 1) := by decide +kernel
theorem dL_law_149 : decode cL_law 149 = .ok (.iadd, 1) := by decide +kernel
theorem dL_law_150 : decode cL_law 150 = .ok (.iaload, 1) := by decide +kernel
theorem dL_law_151 : decode cL_law 151 = .ok (.invokevirtual 17, 3) := by decide +kernel
theorem dL_law_154 : decode cL_law 154 = .ok (.if_icmp .eq 532, 3) := by decide +kernel
theorem dL_law_157 : decode cL_law 157 = .ok (.iconst 0, 1) := by decide +kernel
theorem dL_law_158 : decode cL_law 158 = .ok (.ireturn, 1) := by decide +kernel
theorem dL_law_159 : decode cL_law 159 = .ok (.aload_n 1, 1) := by decide +kernel
theorem dL_law_160 : decode cL_law 160 = .ok (.aload_n 0, 1) := by decide +kernel
theorem dL_law_161 : decode cL_law 161 = .ok (.iload_n 3, 1) := by decide +kernel
theorem dL_law_162 : decode cL_law 162 = .ok (.iconst 1, 1) := by decide +kernel
theorem dL_law_163 : decode cL_law 163 = .ok (.iadd, 1) := by decide +kernel
theorem dL_law_164 : decode cL_law 164 = .ok (.iaload, 1) := by decide +kernel
theorem dL_law_165 : decode cL_law 165 = .ok (.aload_n 0, 1) := by decide +kernel
theorem dL_law_166 : decode cL_law 166 = .ok (.iload_n 3, 1) := by decide +kernel
theorem dL_law_167 : decode cL_law 167 = .ok (.iconst 2, 1) := by decide +kernel
theorem dL_law_168 : decode cL_law 168 = .ok (.iadd, 1) := by decide +kernel
theorem dL_law_169 : decode cL_law 169 = .ok (.iaload, 1) := by decide +kernel
theorem dL_law_170 : decode cL_law 170 = .ok (.ifCond .eq 7, 3) := by decide +kernel
theorem dL_law_173 : decode cL_law 173 = .ok (.iconst 1, 1) := by decide +kernel
theorem dL_law_174 : decode cL_law 174 = .ok (.goto 4, 3) := by decide +kernel
theorem dL_law_177 : decode cL_law 177 = .ok (.iconst 0, 1) := by decide +kernel
theorem dL_law_178 : decode cL_law 178 = .ok (.invokevirtual 18, 3) := by decide +kernel
theorem dL_law_181 : decode cL_law 181 = .ok (.aload_n 2, 1) := by decide +kernel
theorem dL_law_182 : decode cL_law 182 = .ok (.aload_n 0, 1) := by decide +kernel
theorem dL_law_183 : decode cL_law 183 = .ok (.iload_n 3, 1) := by decide +kernel
theorem dL_law_184 : decode cL_law 184 = .ok (.iconst 1, 1) := by decide +kernel
theorem dL_law_185 : decode cL_law 185 = .ok (.iadd, 1) := by decide +kernel
theorem dL_law_186 : decode cL_law 186 = .ok (.iaload, 1) := by decide +kernel
theorem dL_law_187 : decode cL_law 187 = .ok (.aload_n 0, 1) := by decide +kernel
theorem dL_law_188 : decode cL_law 188 = .ok (.iload_n 3, 1) := by decide +kernel
theorem dL_law_189 : decode cL_law 189 = .ok (.iconst 2, 1) := by decide +kernel
theorem dL_law_190 : decode cL_law 190 = .ok (.iadd, 1) := by decide +kernel
theorem dL_law_191 : decode cL_law 191 = .ok (.iaload, 1) := by decide +kernel
theorem dL_law_192 : decode cL_law 192 = .ok (.ifCond .eq 7, 3) := by decide +kernel
theorem dL_law_195 : decode cL_law 195 = .ok (.iconst 1, 1) := by decide +kernel
theorem dL_law_196 : decode cL_law 196 = .ok (.goto 4, 3) := by decide +kernel
theorem dL_law_199 : decode cL_law 199 = .ok (.iconst 0, 1) := by decide +kernel
theorem dL_law_200 : decode cL_law 200 = .ok (.invokevirtual 22, 3) := by decide +kernel
theorem dL_law_203 : decode cL_law 203 = .ok (.if_icmp .eq 483, 3) := by decide +kernel
theorem dL_law_206 : decode cL_law 206 = .ok (.iconst 0, 1) := by decide +kernel
theorem dL_law_207 : decode cL_law 207 = .ok (.ireturn, 1) := by decide +kernel
theorem dL_law_208 : decode cL_law 208 = .ok (.aload_n 1, 1) := by decide +kernel
theorem dL_law_209 : decode cL_law 209 = .ok (.aload_n 0, 1) := by decide +kernel
theorem dL_law_210 : decode cL_law 210 = .ok (.iload_n 3, 1) := by decide +kernel
theorem dL_law_211 : decode cL_law 211 = .ok (.iconst 1, 1) := by decide +kernel
theorem dL_law_212 : decode cL_law 212 = .ok (.iadd, 1) := by decide +kernel
theorem dL_law_213 : decode cL_law 213 = .ok (.iaload, 1) := by decide +kernel
theorem dL_law_214 : decode cL_law 214 = .ok (.aload_n 0, 1) := by decide +kernel
theorem dL_law_215 : decode cL_law 215 = .ok (.iload_n 3, 1) := by decide +kernel
theorem dL_law_216 : decode cL_law 216 = .ok (.iconst 2, 1) := by decide +kernel
theorem dL_law_217 : decode cL_law 217 = .ok (.iadd, 1) := by decide +kernel
theorem dL_law_218 : decode cL_law 218 = .ok (.iaload, 1) := by decide +kernel
theorem dL_law_219 : decode cL_law 219 = .ok (.ifCond .eq 7, 3) := by decide +kernel
theorem dL_law_222 : decode cL_law 222 = .ok (.iconst 1, 1) := by decide +kernel
theorem dL_law_223 : decode cL_law 223 = .ok (.goto 4, 3) := by decide +kernel
theorem dL_law_226 : decode cL_law 226 = .ok (.iconst 0, 1) := by decide +kernel
theorem dL_law_227 : decode cL_law 227 = .ok (.invokevirtual 23, 3) := by decide +kernel
theorem dL_law_230 : decode cL_law 230 = .ok (.aload_n 2, 1) := by decide +kernel
theorem dL_law_231 : decode cL_law 231 = .ok (.aload_n 0, 1) := by decide +kernel
theorem dL_law_232 : decode cL_law 232 = .ok (.iload_n 3, 1) := by decide +kernel
theorem dL_law_233 : decode cL_law 233 = .ok (.iconst 1, 1) := by decide +kernel
theorem dL_law_234 : decode cL_law 234 = .ok (.iadd, 1) := by decide +kernel
theorem dL_law_235 : decode cL_law 235 = .ok (.iaload, 1) := by decide +kernel
theorem dL_law_236 : decode cL_law 236 = .ok (.aload_n 0, 1) := by decide +kernel
theorem dL_law_237 : decode cL_law 237 = .ok (.iload_n 3, 1) := by decide +kernel
theorem dL_law_238 : decode cL_law 238 = .ok (.iconst 2, 1) := by decide +kernel
theorem dL_law_239 : decode cL_law 239 = .ok (.iadd, 1) := by decide +kernel
theorem dL_law_240 : decode cL_law 240 = .ok (.iaload, 1) := by decide +kernel
theorem dL_law_241 : decode cL_law 241 = .ok (.ifCond .eq 7, 3) := by decide +kernel
theorem dL_law_244 : decode cL_law 244 = .ok (.iconst 1, 1) := by decide +kernel
theorem dL_law_245 : decode cL_law 245 = .ok (.goto 4, 3) := by decide +kernel
theorem dL_law_248 : decode cL_law 248 = .ok (.iconst 0, 1) := by decide +kernel
theorem dL_law_249 : decode cL_law 249 = .ok (.invokevirtual 26, 3) := by decide +kernel
theorem dL_law_252 : decode cL_law 252 = .ok (.if_icmp .eq 434, 3) := by decide +kernel
theorem dL_law_255 : decode cL_law 255 = .ok (.iconst 0, 1) := by decide +kernel
theorem dL_law_256 : decode cL_law 256 = .ok (.ireturn, 1) := by decide +kernel
theorem dL_law_257 : decode cL_law 257 = .ok (.aload_n 1, 1) := by decide +kernel
theorem dL_law_258 : decode cL_law 258 = .ok (.aload_n 0, 1) := by decide +kernel
theorem dL_law_259 : decode cL_law 259 = .ok (.iload_n 3, 1) := by decide +kernel
theorem dL_law_260 : decode cL_law 260 = .ok (.iconst 1, 1) := by decide +kernel
theorem dL_law_261 : decode cL_law 261 = .ok (.iadd, 1) := by decide +kernel
theorem dL_law_262 : decode cL_law 262 = .ok (.iaload, 1) := by decide +kernel
theorem dL_law_263 : decode cL_law 263 = .ok (.aload_n 0, 1) := by decide +kernel
theorem dL_law_264 : decode cL_law 264 = .ok (.iload_n 3, 1) := by decide +kernel
theorem dL_law_265 : decode cL_law 265 = .ok (.iconst 2, 1) := by decide +kernel
theorem dL_law_266 : decode cL_law 266 = .ok (.iadd, 1) := by decide +kernel
theorem dL_law_267 : decode cL_law 267 = .ok (.iaload, 1) := by decide +kernel
theorem dL_law_268 : decode cL_law 268 = .ok (.invokevirtual 27, 3) := by decide +kernel
theorem dL_law_271 : decode cL_law 271 = .ok (.aload_n 2, 1) := by decide +kernel
theorem dL_law_272 : decode cL_law 272 = .ok (.aload_n 0, 1) := by decide +kernel
theorem dL_law_273 : decode cL_law 273 = .ok (.iload_n 3, 1) := by decide +kernel
theorem dL_law_274 : decode cL_law 274 = .ok (.iconst 1, 1) := by decide +kernel
theorem dL_law_275 : decode cL_law 275 = .ok (.iadd, 1) := by decide +kernel
theorem dL_law_276 : decode cL_law 276 = .ok (.iaload, 1) := by decide +kernel
theorem dL_law_277 : decode cL_law 277 = .ok (.aload_n 0, 1) := by decide +kernel
theorem dL_law_278 : decode cL_law 278 = .ok (.iload_n 3, 1) := by decide +kernel
theorem dL_law_279 : decode cL_law 279 = .ok (.iconst 2, 1) := by decide +kernel
theorem dL_law_280 : decode cL_law 280 = .ok (.iadd, 1) := by decide +kernel
theorem dL_law_281 : decode cL_law 281 = .ok (.iaload, 1) := by decide +kernel
theorem dL_law_282 : decode cL_law 282 = .ok (.invokevirtual 31, 3) := by decide +kernel
theorem dL_law_285 : decode cL_law 285 = .ok (.if_icmp .eq 401, 3) := by decide +kernel
theorem dL_law_288 : decode cL_law 288 = .ok (.iconst 0, 1) := by decide +kernel
theorem dL_law_289 : decode cL_law 289 = .ok (.ireturn, 1) := by decide +kernel
theorem dL_law_290 : decode cL_law 290 = .ok (.aload_n 1, 1) := by decide +kernel
theorem dL_law_291 : decode cL_law 291 = .ok (.aload_n 0, 1) := by decide +kernel
theorem dL_law_292 : decode cL_law 292 = .ok (.iload_n 3, 1) := by decide +kernel
theorem dL_law_293 : decode cL_law 293 = .ok (.iconst 1, 1) := by decide +kernel
theorem dL_law_294 : decode cL_law 294 = .ok (.iadd, 1) := by decide +kernel
theorem dL_law_295 : decode cL_law 295 = .ok (.iaload, 1) := by decide +kernel
theorem dL_law_296 : decode cL_law 296 = .ok (.invokevirtual 32, 3) := by decide +kernel
theorem dL_law_299 : decode cL_law 299 = .ok (.aload_n 2, 1) := by decide +kernel
theorem dL_law_300 : decode cL_law 300 = .ok (.aload_n 0, 1) := by decide +kernel
theorem dL_law_301 : decode cL_law 301 = .ok (.iload_n 3, 1) := by decide +kernel
theorem dL_law_302 : decode cL_law 302 = .ok (.iconst 1, 1) := by decide +kernel
theorem dL_law_303 : decode cL_law 303 = .ok (.iadd, 1) := by decide +kernel
theorem dL_law_304 : decode cL_law 304 = .ok (.iaload, 1) := by decide +kernel
theorem dL_law_305 : decode cL_law 305 = .ok (.invokevirtual 35, 3) := by decide +kernel
theorem dL_law_308 : decode cL_law 308 = .ok (.if_icmp .eq 378, 3) := by decide +kernel
theorem dL_law_311 : decode cL_law 311 = .ok (.iconst 0, 1) := by decide +kernel
theorem dL_law_312 : decode cL_law 312 = .ok (.ireturn, 1) := by decide +kernel
theorem dL_law_313 : decode cL_law 313 = .ok (.aload_n 1, 1) := by decide +kernel
theorem dL_law_314 : decode cL_law 314 = .ok (.aload_n 0, 1) := by decide +kernel
theorem dL_law_315 : decode cL_law 315 = .ok (.iload_n 3, 1) := by decide +kernel
theorem dL_law_316 : decode cL_law 316 = .ok (.iconst 1, 1) := by decide +kernel
theorem dL_law_317 : decode cL_law 317 = .ok (.iadd, 1) := by decide +kernel
theorem dL_law_318 : decode cL_law 318 = .ok (.iaload, 1) := by decide +kernel
theorem dL_law_319 : decode cL_law 319 = .ok (.invokevirtual 36, 3) := by decide +kernel
theorem dL_law_322 : decode cL_law 322 = .ok (.aload_n 2, 1) := by decide +kernel
theorem dL_law_323 : decode cL_law 323 = .ok (.aload_n 0, 1) := by decide +kernel
theorem dL_law_324 : decode cL_law 324 = .ok (.iload_n 3, 1) := by decide +kernel
theorem dL_law_325 : decode cL_law 325 = .ok (.iconst 1, 1) := by decide +kernel
theorem dL_law_326 : decode cL_law 326 = .ok (.iadd, 1) := by decide +kernel
theorem dL_law_327 : decode cL_law 327 = .ok (.iaload, 1) := by decide +kernel
theorem dL_law_328 : decode cL_law 328 = .ok (.invokevirtual 39, 3) := by decide +kernel
theorem dL_law_331 : decode cL_law 331 = .ok (.if_icmp .eq 355, 3) := by decide +kernel
theorem dL_law_334 : decode cL_law 334 = .ok (.iconst 0, 1) := by decide +kernel
theorem dL_law_335 : decode cL_law 335 = .ok (.ireturn, 1) := by decide +kernel
theorem dL_law_336 : decode cL_law 336 = .ok (.aload_n 1, 1) := by decide +kernel
theorem dL_law_337 : decode cL_law 337 = .ok (.aload_n 0, 1) := by decide +kernel
theorem dL_law_338 : decode cL_law 338 = .ok (.iload_n 3, 1) := by decide +kernel
theorem dL_law_339 : decode cL_law 339 = .ok (.iconst 1, 1) := by decide +kernel
theorem dL_law_340 : decode cL_law 340 = .ok (.iadd, 1) := by decide +kernel
theorem dL_law_341 : decode cL_law 341 = .ok (.iaload, 1) := by decide +kernel
theorem dL_law_342 : decode cL_law 342 = .ok (.invokevirtual 40, 3) := by decide +kernel
theorem dL_law_345 : decode cL_law 345 = .ok (.aload_n 2, 1) := by decide +kernel
theorem dL_law_346 : decode cL_law 346 = .ok (.aload_n 0, 1) := by decide +kernel
theorem dL_law_347 : decode cL_law 347 = .ok (.iload_n 3, 1) := by decide +kernel
theorem dL_law_348 : decode cL_law 348 = .ok (.iconst 1, 1) := by decide +kernel
theorem dL_law_349 : decode cL_law 349 = .ok (.iadd, 1) := by decide +kernel
theorem dL_law_350 : decode cL_law 350 = .ok (.iaload, 1) := by decide +kernel
theorem dL_law_351 : decode cL_law 351 = .ok (.invokevirtual 43, 3) := by decide +kernel
theorem dL_law_354 : decode cL_law 354 = .ok (.if_icmp .eq 332, 3) := by decide +kernel
theorem dL_law_357 : decode cL_law 357 = .ok (.iconst 0, 1) := by decide +kernel
theorem dL_law_358 : decode cL_law 358 = .ok (.ireturn, 1) := by decide +kernel
theorem dL_law_359 : decode cL_law 359 = .ok (.aload_n 1, 1) := by decide +kernel
theorem dL_law_360 : decode cL_law 360 = .ok (.invokevirtual 44, 3) := by decide +kernel
theorem dL_law_363 : decode cL_law 363 = .ok (.aload_n 2, 1) := by decide +kernel
theorem dL_law_364 : decode cL_law 364 = .ok (.invokevirtual 48, 3) := by decide +kernel
theorem dL_law_367 : decode cL_law 367 = .ok (.if_icmp .eq 319, 3) := by decide +kernel
theorem dL_law_370 : decode cL_law 370 = .ok (.iconst 0, 1) := by decide +kernel
theorem dL_law_371 : decode cL_law 371 = .ok (.ireturn, 1) := by decide +kernel
theorem dL_law_372 : decode cL_law 372 = .ok (.aload_n 1, 1) := by decide +kernel
theorem dL_law_373 : decode cL_law 373 = .ok (.aload_n 0, 1) := by decide +kernel
theorem dL_law_374 : decode cL_law 374 = .ok (.iload_n 3, 1) := by decide +kernel
theorem dL_law_375 : decode cL_law 375 = .ok (.iconst 1, 1) := by decide +kernel
theorem dL_law_376 : decode cL_law 376 = .ok (.iadd, 1) := by decide +kernel
theorem dL_law_377 : decode cL_law 377 = .ok (.iaload, 1) := by decide +kernel
theorem dL_law_378 : decode cL_law 378 = .ok (.i2c, 1) := by decide +kernel
theorem dL_law_379 : decode cL_law 379 = .ok (.invokevirtual 49, 3) := by decide +kernel
theorem dL_law_382 : decode cL_law 382 = .ok (.aload_n 2, 1) := by decide +kernel
theorem dL_law_383 : decode cL_law 383 = .ok (.aload_n 0, 1) := by decide +kernel
theorem dL_law_384 : decode cL_law 384 = .ok (.iload_n 3, 1) := by decide +kernel
theorem dL_law_385 : decode cL_law 385 = .ok (.iconst 1, 1) := by decide +kernel
theorem dL_law_386 : decode cL_law 386 = .ok (.iadd, 1) := by decide +kernel
theorem dL_law_387 : decode cL_law 387 = .ok (.iaload, 1) := by decide +kernel
theorem dL_law_388 : decode cL_law 388 = .ok (.i2c, 1) := by decide +kernel
theorem dL_law_389 : decode cL_law 389 = .ok (.invokevirtual 53, 3) := by decide +kernel
theorem dL_law_392 : decode cL_law 392 = .ok (.if_icmp .eq 294, 3) := by decide +kernel
theorem dL_law_395 : decode cL_law 395 = .ok (.iconst 0, 1) := by decide +kernel
theorem dL_law_396 : decode cL_law 396 = .ok (.ireturn, 1) := by decide +kernel
theorem dL_law_397 : decode cL_law 397 = .ok (.aload_n 1, 1) := by decide +kernel
theorem dL_law_398 : decode cL_law 398 = .ok (.invokevirtual 54, 3) := by decide +kernel
theorem dL_law_401 : decode cL_law 401 = .ok (.aload_n 2, 1) := by decide +kernel
theorem dL_law_402 : decode cL_law 402 = .ok (.invokevirtual 57, 3) := by decide +kernel
theorem dL_law_405 : decode cL_law 405 = .ok (.if_icmp .eq 281, 3) := by decide +kernel
theorem dL_law_408 : decode cL_law 408 = .ok (.iconst 0, 1) := by decide +kernel
theorem dL_law_409 : decode cL_law 409 = .ok (.ireturn, 1) := by decide +kernel
theorem dL_law_410 : decode cL_law 410 = .ok (.aload_n 1, 1) := by decide +kernel
theorem dL_law_411 : decode cL_law 411 = .ok (.invokevirtual 58, 3) := by decide +kernel
theorem dL_law_414 : decode cL_law 414 = .ok (.aload_n 2, 1) := by decide +kernel
theorem dL_law_415 : decode cL_law 415 = .ok (.invokevirtual 61, 3) := by decide +kernel
theorem dL_law_418 : decode cL_law 418 = .ok (.if_icmp .eq 268, 3) := by decide +kernel
theorem dL_law_421 : decode cL_law 421 = .ok (.iconst 0, 1) := by decide +kernel
theorem dL_law_422 : decode cL_law 422 = .ok (.ireturn, 1) := by decide +kernel
theorem dL_law_423 : decode cL_law 423 = .ok (.aload_n 1, 1) := by decide +kernel
theorem dL_law_424 : decode cL_law 424 = .ok (.aload_n 0, 1) := by decide +kernel
theorem dL_law_425 : decode cL_law 425 = .ok (.iload_n 3, 1) := by decide +kernel
theorem dL_law_426 : decode cL_law 426 = .ok (.iconst 1, 1) := by decide +kernel
theorem dL_law_427 : decode cL_law 427 = .ok (.iadd, 1) := by decide +kernel
theorem dL_law_428 : decode cL_law 428 = .ok (.iaload, 1) := by decide +kernel
theorem dL_law_429 : decode cL_law 429 = .ok (.invokevirtual 62, 3) := by decide +kernel
theorem dL_law_432 : decode cL_law 432 = .ok (.aload_n 2, 1) := by decide +kernel
theorem dL_law_433 : decode cL_law 433 = .ok (.aload_n 0, 1) := by decide +kernel
theorem dL_law_434 : decode cL_law 434 = .ok (.iload_n 3, 1) := by decide +kernel
theorem dL_law_435 : decode cL_law 435 = .ok (.iconst 1, 1) := by decide +kernel
theorem dL_law_436 : decode cL_law 436 = .ok (.iadd, 1) := by decide +kernel
theorem dL_law_437 : decode cL_law 437 = .ok (.iaload, 1) := by decide +kernel
theorem dL_law_438 : decode cL_law 438 = .ok (.invokevirtual 65, 3) := by decide +kernel
theorem dL_law_441 : decode cL_law 441 = .ok (.if_icmp .eq 245, 3) := by decide +kernel
theorem dL_law_444 : decode cL_law 444 = .ok (.iconst 0, 1) := by decide +kernel
theorem dL_law_445 : decode cL_law 445 = .ok (.ireturn, 1) := by decide +kernel
theorem dL_law_446 : decode cL_law 446 = .ok (.aload_n 1, 1) := by decide +kernel
theorem dL_law_447 : decode cL_law 447 = .ok (.invokevirtual 66, 3) := by decide +kernel
theorem dL_law_450 : decode cL_law 450 = .ok (.aload_n 2, 1) := by decide +kernel
theorem dL_law_451 : decode cL_law 451 = .ok (.invokevirtual 69, 3) := by decide +kernel
theorem dL_law_454 : decode cL_law 454 = .ok (.if_icmp .eq 232, 3) := by decide +kernel
theorem dL_law_457 : decode cL_law 457 = .ok (.iconst 0, 1) := by decide +kernel
theorem dL_law_458 : decode cL_law 458 = .ok (.ireturn, 1) := by decide +kernel
theorem dL_law_459 : decode cL_law 459 = .ok (.aload_n 1, 1) := by decide +kernel
theorem dL_law_460 : decode cL_law 460 = .ok (.invokevirtual 70, 3) := by decide +kernel
theorem dL_law_463 : decode cL_law 463 = .ok (.aload_n 2, 1) := by decide +kernel
theorem dL_law_464 : decode cL_law 464 = .ok (.invokevirtual 73, 3) := by decide +kernel
theorem dL_law_467 : decode cL_law 467 = .ok (.if_icmp .eq 219, 3) := by decide +kernel
theorem dL_law_470 : decode cL_law 470 = .ok (.iconst 0, 1) := by decide +kernel
theorem dL_law_471 : decode cL_law 471 = .ok (.ireturn, 1) := by decide +kernel
theorem dL_law_472 : decode cL_law 472 = .ok (.aload_n 1, 1) := by decide +kernel
theorem dL_law_473 : decode cL_law 473 = .ok (.invokevirtual 74, 3) := by decide +kernel
theorem dL_law_476 : decode cL_law 476 = .ok (.aload_n 2, 1) := by decide +kernel
theorem dL_law_477 : decode cL_law 477 = .ok (.invokevirtual 77, 3) := by decide +kernel
theorem dL_law_480 : decode cL_law 480 = .ok (.if_icmp .eq 206, 3) := by decide +kernel
theorem dL_law_483 : decode cL_law 483 = .ok (.iconst 0, 1) := by decide +kernel
theorem dL_law_484 : decode cL_law 484 = .ok (.ireturn, 1) := by decide +kernel
theorem dL_law_485 : decode cL_law 485 = .ok (.aload_n 1, 1) := by decide +kernel
theorem dL_law_486 : decode cL_law 486 = .ok (.aload_n 0, 1) := by decide +kernel
theorem dL_law_487 : decode cL_law 487 = .ok (.iload_n 3, 1) := by decide +kernel
theorem dL_law_488 : decode cL_law 488 = .ok (.iconst 1, 1) := by decide +kernel
theorem dL_law_489 : decode cL_law 489 = .ok (.iadd, 1) := by decide +kernel
theorem dL_law_490 : decode cL_law 490 = .ok (.iaload, 1) := by decide +kernel
theorem dL_law_491 : decode cL_law 491 = .ok (.aload_n 0, 1) := by decide +kernel
theorem dL_law_492 : decode cL_law 492 = .ok (.iload_n 3, 1) := by decide +kernel
theorem dL_law_493 : decode cL_law 493 = .ok (.iconst 2, 1) := by decide +kernel
theorem dL_law_494 : decode cL_law 494 = .ok (.iadd, 1) := by decide +kernel
theorem dL_law_495 : decode cL_law 495 = .ok (.iaload, 1) := by decide +kernel
theorem dL_law_496 : decode cL_law 496 = .ok (.invokevirtual 78, 3) := by decide +kernel
theorem dL_law_499 : decode cL_law 499 = .ok (.aload_n 2, 1) := by decide +kernel
theorem dL_law_500 : decode cL_law 500 = .ok (.aload_n 0, 1) := by decide +kernel
theorem dL_law_501 : decode cL_law 501 = .ok (.iload_n 3, 1) := by decide +kernel
theorem dL_law_502 : decode cL_law 502 = .ok (.iconst 1, 1) := by decide +kernel
theorem dL_law_503 : decode cL_law 503 = .ok (.iadd, 1) := by decide +kernel
theorem dL_law_504 : decode cL_law 504 = .ok (.iaload, 1) := by decide +kernel
theorem dL_law_505 : decode cL_law 505 = .ok (.aload_n 0, 1) := by decide +kernel
theorem dL_law_506 : decode cL_law 506 = .ok (.iload_n 3, 1) := by decide +kernel
theorem dL_law_507 : decode cL_law 507 = .ok (.iconst 2, 1) := by decide +kernel
theorem dL_law_508 : decode cL_law 508 = .ok (.iadd, 1) := by decide +kernel
theorem dL_law_509 : decode cL_law 509 = .ok (.iaload, 1) := by decide +kernel
theorem dL_law_510 : decode cL_law 510 = .ok (.invokevirtual 81, 3) := by decide +kernel
theorem dL_law_513 : decode cL_law 513 = .ok (.if_icmp .eq 173, 3) := by decide +kernel
theorem dL_law_516 : decode cL_law 516 = .ok (.iconst 0, 1) := by decide +kernel
theorem dL_law_517 : decode cL_law 517 = .ok (.ireturn, 1) := by decide +kernel
theorem dL_law_518 : decode cL_law 518 = .ok (.aload_n 1, 1) := by decide +kernel
theorem dL_law_519 : decode cL_law 519 = .ok (.aload_n 0, 1) := by decide +kernel
theorem dL_law_520 : decode cL_law 520 = .ok (.iload_n 3, 1) := by decide +kernel
theorem dL_law_521 : decode cL_law 521 = .ok (.iconst 1, 1) := by decide +kernel
theorem dL_law_522 : decode cL_law 522 = .ok (.iadd, 1) := by decide +kernel
theorem dL_law_523 : decode cL_law 523 = .ok (.iaload, 1) := by decide +kernel
theorem dL_law_524 : decode cL_law 524 = .ok (.aload_n 0, 1) := by decide +kernel
theorem dL_law_525 : decode cL_law 525 = .ok (.iload_n 3, 1) := by decide +kernel
theorem dL_law_526 : decode cL_law 526 = .ok (.iconst 2, 1) := by decide +kernel
theorem dL_law_527 : decode cL_law 527 = .ok (.iadd, 1) := by decide +kernel
theorem dL_law_528 : decode cL_law 528 = .ok (.iaload, 1) := by decide +kernel
theorem dL_law_529 : decode cL_law 529 = .ok (.invokevirtual 82, 3) := by decide +kernel
theorem dL_law_532 : decode cL_law 532 = .ok (.aload_n 2, 1) := by decide +kernel
theorem dL_law_533 : decode cL_law 533 = .ok (.aload_n 0, 1) := by decide +kernel
theorem dL_law_534 : decode cL_law 534 = .ok (.iload_n 3, 1) := by decide +kernel
theorem dL_law_535 : decode cL_law 535 = .ok (.iconst 1, 1) := by decide +kernel
theorem dL_law_536 : decode cL_law 536 = .ok (.iadd, 1) := by decide +kernel
theorem dL_law_537 : decode cL_law 537 = .ok (.iaload, 1) := by decide +kernel
theorem dL_law_538 : decode cL_law 538 = .ok (.aload_n 0, 1) := by decide +kernel
theorem dL_law_539 : decode cL_law 539 = .ok (.iload_n 3, 1) := by decide +kernel
theorem dL_law_540 : decode cL_law 540 = .ok (.iconst 2, 1) := by decide +kernel
theorem dL_law_541 : decode cL_law 541 = .ok (.iadd, 1) := by decide +kernel
theorem dL_law_542 : decode cL_law 542 = .ok (.iaload, 1) := by decide +kernel
theorem dL_law_543 : decode cL_law 543 = .ok (.invokevirtual 85, 3) := by decide +kernel
theorem dL_law_546 : decode cL_law 546 = .ok (.if_icmp .eq 140, 3) := by decide +kernel
theorem dL_law_549 : decode cL_law 549 = .ok (.iconst 0, 1) := by decide +kernel
theorem dL_law_550 : decode cL_law 550 = .ok (.ireturn, 1) := by decide +kernel
theorem dL_law_551 : decode cL_law 551 = .ok (.aload_n 1, 1) := by decide +kernel
theorem dL_law_552 : decode cL_law 552 = .ok (.aload_n 0, 1) := by decide +kernel
theorem dL_law_553 : decode cL_law 553 = .ok (.iload_n 3, 1) := by decide +kernel
theorem dL_law_554 : decode cL_law 554 = .ok (.iconst 1, 1) := by decide +kernel
theorem dL_law_555 : decode cL_law 555 = .ok (.iadd, 1) := by decide +kernel
theorem dL_law_556 : decode cL_law 556 = .ok (.iaload, 1) := by decide +kernel
theorem dL_law_557 : decode cL_law 557 = .ok (.aload_n 0, 1) := by decide +kernel
theorem dL_law_558 : decode cL_law 558 = .ok (.iload_n 3, 1) := by decide +kernel
theorem dL_law_559 : decode cL_law 559 = .ok (.iconst 2, 1) := by decide +kernel
theorem dL_law_560 : decode cL_law 560 = .ok (.iadd, 1) := by decide +kernel
theorem dL_law_561 : decode cL_law 561 = .ok (.iaload, 1) := by decide +kernel
theorem dL_law_562 : decode cL_law 562 = .ok (.invokevirtual 86, 3) := by decide +kernel
theorem dL_law_565 : decode cL_law 565 = .ok (.aload_n 2, 1) := by decide +kernel
theorem dL_law_566 : decode cL_law 566 = .ok (.aload_n 0, 1) := by decide +kernel
theorem dL_law_567 : decode cL_law 567 = .ok (.iload_n 3, 1) := by decide +kernel
theorem dL_law_568 : decode cL_law 568 = .ok (.iconst 1, 1) := by decide +kernel
theorem dL_law_569 : decode cL_law 569 = .ok (.iadd, 1) := by decide +kernel
theorem dL_law_570 : decode cL_law 570 = .ok (.iaload, 1) := by decide +kernel
theorem dL_law_571 : decode cL_law 571 = .ok (.aload_n 0, 1) := by decide +kernel
theorem dL_law_572 : decode cL_law 572 = .ok (.iload_n 3, 1) := by decide +kernel
theorem dL_law_573 : decode cL_law 573 = .ok (.iconst 2, 1) := by decide +kernel
theorem dL_law_574 : decode cL_law 574 = .ok (.iadd, 1) := by decide +kernel
theorem dL_law_575 : decode cL_law 575 = .ok (.iaload, 1) := by decide +kernel
theorem dL_law_576 : decode cL_law 576 = .ok (.invokevirtual 89, 3) := by decide +kernel
theorem dL_law_579 : decode cL_law 579 = .ok (.if_icmp .eq 107, 3) := by decide +kernel
theorem dL_law_582 : decode cL_law 582 = .ok (.iconst 0, 1) := by decide +kernel
theorem dL_law_583 : decode cL_law 583 = .ok (.ireturn, 1) := by decide +kernel
theorem dL_law_584 : decode cL_law 584 = .ok (.aload_n 1, 1) := by decide +kernel
theorem dL_law_585 : decode cL_law 585 = .ok (.invokevirtual 90, 3) := by decide +kernel
theorem dL_law_588 : decode cL_law 588 = .ok (.aload_n 2, 1) := by decide +kernel
theorem dL_law_589 : decode cL_law 589 = .ok (.invokevirtual 93, 3) := by decide +kernel
theorem dL_law_592 : decode cL_law 592 = .ok (.if_icmp .eq 94, 3) := by decide +kernel
theorem dL_law_595 : decode cL_law 595 = .ok (.iconst 0, 1) := by decide +kernel
theorem dL_law_596 : decode cL_law 596 = .ok (.ireturn, 1) := by decide +kernel
theorem dL_law_597 : decode cL_law 597 = .ok (.aload_n 1, 1) := by decide +kernel
theorem dL_law_598 : decode cL_law 598 = .ok (.aload_n 0, 1) := by decide +kernel
theorem dL_law_599 : decode cL_law 599 = .ok (.iload_n 3, 1) := by decide +kernel
theorem dL_law_600 : decode cL_law 600 = .ok (.iconst 1, 1) := by decide +kernel
theorem dL_law_601 : decode cL_law 601 = .ok (.iadd, 1) := by decide +kernel
theorem dL_law_602 : decode cL_law 602 = .ok (.iaload, 1) := by decide +kernel
theorem dL_law_603 : decode cL_law 603 = .ok (.aload_n 0, 1) := by decide +kernel
theorem dL_law_604 : decode cL_law 604 = .ok (.iload_n 3, 1) := by decide +kernel
theorem dL_law_605 : decode cL_law 605 = .ok (.iconst 2, 1) := by decide +kernel
theorem dL_law_606 : decode cL_law 606 = .ok (.iadd, 1) := by decide +kernel
theorem dL_law_607 : decode cL_law 607 = .ok (.iaload, 1) := by decide +kernel
theorem dL_law_608 : decode cL_law 608 = .ok (.invokevirtual 94, 3) := by decide +kernel
theorem dL_law_611 : decode cL_law 611 = .ok (.aload_n 2, 1) := by decide +kernel
theorem dL_law_612 : decode cL_law 612 = .ok (.aload_n 0, 1) := by decide +kernel
theorem dL_law_613 : decode cL_law 613 = .ok (.iload_n 3, 1) := by decide +kernel
theorem dL_law_614 : decode cL_law 614 = .ok (.iconst 1, 1) := by decide +kernel
theorem dL_law_615 : decode cL_law 615 = .ok (.iadd, 1) := by decide +kernel
theorem dL_law_616 : decode cL_law 616 = .ok (.iaload, 1) := by decide +kernel
theorem dL_law_617 : decode cL_law 617 = .ok (.aload_n 0, 1) := by decide +kernel
theorem dL_law_618 : decode cL_law 618 = .ok (.iload_n 3, 1) := by decide +kernel
theorem dL_law_619 : decode cL_law 619 = .ok (.iconst 2, 1) := by decide +kernel
theorem dL_law_620 : decode cL_law 620 = .ok (.iadd, 1) := by decide +kernel
theorem dL_law_621 : decode cL_law 621 = .ok (.iaload, 1) := by decide +kernel
theorem dL_law_622 : decode cL_law 622 = .ok (.invokevirtual 97, 3) := by decide +kernel
theorem dL_law_625 : decode cL_law 625 = .ok (.if_icmp .eq 61, 3) := by decide +kernel
theorem dL_law_628 : decode cL_law 628 = .ok (.iconst 0, 1) := by decide +kernel
theorem dL_law_629 : decode cL_law 629 = .ok (.ireturn, 1) := by decide +kernel
theorem dL_law_630 : decode cL_law 630 = .ok (.aload_n 1, 1) := by decide +kernel
theorem dL_law_631 : decode cL_law 631 = .ok (.aload_n 0, 1) := by decide +kernel
theorem dL_law_632 : decode cL_law 632 = .ok (.iload_n 3, 1) := by decide +kernel
theorem dL_law_633 : decode cL_law 633 = .ok (.iconst 1, 1) := by decide +kernel
theorem dL_law_634 : decode cL_law 634 = .ok (.iadd, 1) := by decide +kernel
theorem dL_law_635 : decode cL_law 635 = .ok (.iaload, 1) := by decide +kernel
theorem dL_law_636 : decode cL_law 636 = .ok (.aload_n 0, 1) := by decide +kernel
theorem dL_law_637 : decode cL_law 637 = .ok (.iload_n 3, 1) := by decide +kernel
theorem dL_law_638 : decode cL_law 638 = .ok (.iconst 2, 1) := by decide +kernel
theorem dL_law_639 : decode cL_law 639 = .ok (.iadd, 1) := by decide +kernel
theorem dL_law_640 : decode cL_law 640 = .ok (.iaload, 1) := by decide +kernel
theorem dL_law_641 : decode cL_law 641 = .ok (.invokevirtual 98, 3) := by decide +kernel
theorem dL_law_644 : decode cL_law 644 = .ok (.aload_n 2, 1) := by decide +kernel
theorem dL_law_645 : decode cL_law 645 = .ok (.aload_n 0, 1) := by decide +kernel
theorem dL_law_646 : decode cL_law 646 = .ok (.iload_n 3, 1) := by decide +kernel
theorem dL_law_647 : decode cL_law 647 = .ok (.iconst 1, 1) := by decide +kernel
theorem dL_law_648 : decode cL_law 648 = .ok (.iadd, 1) := by decide +kernel
theorem dL_law_649 : decode cL_law 649 = .ok (.iaload, 1) := by decide +kernel
theorem dL_law_650 : decode cL_law 650 = .ok (.aload_n 0, 1) := by decide +kernel
theorem dL_law_651 : decode cL_law 651 = .ok (.iload_n 3, 1) := by decide +kernel
theorem dL_law_652 : decode cL_law 652 = .ok (.iconst 2, 1) := by decide +kernel
theorem dL_law_653 : decode cL_law 653 = .ok (.iadd, 1) := by decide +kernel
theorem dL_law_654 : decode cL_law 654 = .ok (.iaload, 1) := by decide +kernel
theorem dL_law_655 : decode cL_law 655 = .ok (.invokevirtual 101, 3) := by decide +kernel
theorem dL_law_658 : decode cL_law 658 = .ok (.if_icmp .eq 28, 3) := by decide +kernel
theorem dL_law_661 : decode cL_law 661 = .ok (.iconst 0, 1) := by decide +kernel
theorem dL_law_662 : decode cL_law 662 = .ok (.ireturn, 1) := by decide +kernel
theorem dL_law_663 : decode cL_law 663 = .ok (.aload_n 1, 1) := by decide +kernel
theorem dL_law_664 : decode cL_law 664 = .ok (.aload_n 0, 1) := by decide +kernel
theorem dL_law_665 : decode cL_law 665 = .ok (.iload_n 3, 1) := by decide +kernel
theorem dL_law_666 : decode cL_law 666 = .ok (.iconst 1, 1) := by decide +kernel
theorem dL_law_667 : decode cL_law 667 = .ok (.iadd, 1) := by decide +kernel
theorem dL_law_668 : decode cL_law 668 = .ok (.iaload, 1) := by decide +kernel
theorem dL_law_669 : decode cL_law 669 = .ok (.invokevirtual 102, 3) := by decide +kernel
theorem dL_law_672 : decode cL_law 672 = .ok (.aload_n 2, 1) := by decide +kernel
theorem dL_law_673 : decode cL_law 673 = .ok (.aload_n 0, 1) := by decide +kernel
theorem dL_law_674 : decode cL_law 674 = .ok (.iload_n 3, 1) := by decide +kernel
theorem dL_law_675 : decode cL_law 675 = .ok (.iconst 1, 1) := by decide +kernel
theorem dL_law_676 : decode cL_law 676 = .ok (.iadd, 1) := by decide +kernel
theorem dL_law_677 : decode cL_law 677 = .ok (.iaload, 1) := by decide +kernel
theorem dL_law_678 : decode cL_law 678 = .ok (.invokevirtual 105, 3) := by decide +kernel
theorem dL_law_681 : decode cL_law 681 = .ok (.if_icmp .eq 5, 3) := by decide +kernel
theorem dL_law_684 : decode cL_law 684 = .ok (.iconst 0, 1) := by decide +kernel
theorem dL_law_685 : decode cL_law 685 = .ok (.ireturn, 1) := by decide +kernel
theorem dL_law_686 : decode cL_law 686 = .ok (.iinc 3 3, 3) := by decide +kernel
theorem dL_law_689 : decode cL_law 689 = .ok (.goto (-671), 3) := by decide +kernel
theorem dL_law_692 : decode cL_law 692 = .ok (.iconst 1, 1) := by decide +kernel
theorem dL_law_693 : decode cL_law 693 = .ok (.ireturn, 1) := by decide +kernel
