theorem dL_cell_0 : decode cL_cell 0 = .ok (.iload_n 1, 1) := by decide +kernel
theorem dL_cell_1 : decode cL_cell 1 = .ok (.aload_n 0, 1) := by decide +kernel
theorem dL_cell_2 : decode cL_cell 2 = .ok (.arraylength, 1) := by decide +kernel
theorem dL_cell_3 : decode cL_cell 3 = .ok (.if_icmp .ge 9, 3) := by decide +kernel
theorem dL_cell_6 : decode cL_cell 6 = .ok (.aload_n 0, 1) := by decide +kernel
theorem dL_cell_7 : decode cL_cell 7 = .ok (.iload_n 1, 1) := by decide +kernel
theorem dL_cell_8 : decode cL_cell 8 = .ok (.iaload, 1) := by decide +kernel
theorem dL_cell_9 : decode cL_cell 9 = .ok (.goto 15, 3) := by decide +kernel
theorem dL_cell_12 : decode cL_cell 12 = .ok (.sipush 7919, 3) := by decide +kernel
theorem dL_cell_15 : decode cL_cell 15 = .ok (.iload_n 1, 1) := by decide +kernel
theorem dL_cell_16 : decode cL_cell 16 = .ok (.iconst 3, 1) := by decide +kernel
theorem dL_cell_17 : decode cL_cell 17 = .ok (.iadd, 1) := by decide +kernel
theorem dL_cell_18 : decode cL_cell 18 = .ok (.imul, 1) := by decide +kernel
theorem dL_cell_19 : decode cL_cell 19 = .ok (.iload_n 1, 1) := by decide +kernel
theorem dL_cell_20 : decode cL_cell 20 = .ok (.bipush 11, 2) := by decide +kernel
theorem dL_cell_22 : decode cL_cell 22 = .ok (.iadd, 1) := by decide +kernel
theorem dL_cell_23 : decode cL_cell 23 = .ok (.imul, 1) := by decide +kernel
theorem dL_cell_24 : decode cL_cell 24 = .ok (.ireturn, 1) := by decide +kernel
theorem dL_low_0 : decode cL_low 0 = .ok (.iload_n 0, 1) := by decide +kernel
theorem dL_low_1 : decode cL_low 1 = .ok (.ldc 7, 2) := by decide +kernel
theorem dL_low_3 : decode cL_low 3 = .ok (.iand, 1) := by decide +kernel
theorem dL_low_4 : decode cL_low 4 = .ok (.iload_n 1, 1) := by decide +kernel
theorem dL_low_5 : decode cL_low 5 = .ok (.irem, 1) := by decide +kernel
theorem dL_low_6 : decode cL_low 6 = .ok (.ireturn, 1) := by decide +kernel
set_option maxRecDepth 20000 in
theorem ggL_does_X9_count : GoodIn wsL_does wsX9_count := goodIn_r _ [5, 6, 7, 8, 9, 10, 11, 12, 13, 14, 15, 16, 17, 18, 19, 20, 21, 22, 23, 24, 25, 26, 27, 28, 29, 30, 31, 32, 33, 34, 35, 36, 37, 38, 39, 40, 41, 42, 43, 44, 45, 46, 47, 48, 49, 50, 51, 52, 53, 54, 55, 56, 57, 58, 59, 60, 317, 318, 319, 320, 321, 322, 323, 324, 325, 326, 327, 328, 329, 330, 331, 332, 333, 334, 335, 336, 337, 338, 339, 340, 341, 342, 343, 344, 345, 346, 347, 348, 349, 350, 351, 352, 353] (by decide +kernel) (by decide +kernel)
set_option maxRecDepth 20000 in
theorem gL_does_X9_count : GoodIn wsL_does (wsV RL 8 RX9 yX9_count wsX9_count) := goodIn_app (goodIn_of _ (by decide +kernel)) ggL_does_X9_count
set_option maxRecDepth 20000 in
theorem ggL_does_L_low : GoodIn wsL_does wsL_low := goodIn_r _ [64, 65] (by decide +kernel) (by decide +kernel)
set_option maxRecDepth 20000 in
theorem gL_does_L_low : GoodIn wsL_does (va_wsS RL 14 yL_low wsL_low) := goodIn_app (goodIn_of _ (by decide +kernel)) ggL_does_L_low
set_option maxRecDepth 20000 in
theorem ggL_does_X9_drive : GoodIn wsL_does wsX9_drive := goodIn_r _ [69, 70, 8, 71, 72, 73, 24, 74, 28, 35, 75, 76, 30, 27, 26, 29, 77, 78, 79, 39, 80, 41, 81, 82, 83, 84, 85, 86, 87, 88, 89, 90, 91, 45, 92, 47, 93, 94, 95, 96, 97, 98, 99, 100, 101, 102, 103, 104, 105, 106, 107, 108, 109, 110, 111, 112, 113, 114, 51, 115, 53, 54, 55, 56, 57, 58, 59, 116, 117, 118, 119, 120, 121, 122, 123, 124, 125, 126, 4, 127, 128, 129, 130, 131, 132, 133, 134, 135, 6, 136, 137, 138, 12, 139, 140, 141, 14, 142, 143, 144, 145, 317, 318, 319, 320, 321, 322, 323, 324, 325, 326, 332, 333, 334, 335, 336, 337, 338, 339, 340, 341, 342, 343, 344, 345, 346, 354, 355, 356, 357, 358, 347, 348, 349, 350, 351, 352, 353, 327, 328, 329] (by decide +kernel) (by decide +kernel)
set_option maxRecDepth 20000 in
theorem gL_does_X9_drive : GoodIn wsL_does (wsV RL 20 RX9 yX9_drive wsX9_drive) := goodIn_app (goodIn_of _ (by decide +kernel)) ggL_does_X9_drive
set_option maxRecDepth 20000 in
theorem ggL_does_X9_moveReel : GoodIn wsL_does wsX9_moveReel := goodIn_r _ [149, 70, 8, 71, 72, 73, 24, 74, 28, 35, 75, 76, 30, 27, 26, 29, 77, 78, 79, 39, 80, 41, 81, 82, 83, 84, 85, 86, 87, 88, 89, 90, 91, 45, 92, 47, 93, 94, 95, 96, 97, 98, 99, 100, 101, 102, 103, 104, 105, 106, 107, 108, 109, 110, 111, 112, 113, 114, 51, 115, 53, 54, 55, 56, 57, 58, 59, 150, 151, 152, 153, 120, 154, 155, 156, 157, 158, 159, 160, 161, 162, 163, 164, 165, 166, 121, 167, 31, 32, 33, 34, 36, 37, 38, 40, 42, 43, 44, 46, 168, 169, 170, 171, 132, 133, 134, 4, 135, 6, 136, 137, 138, 12, 139, 140, 141, 14, 142, 143, 124, 144, 145, 317, 318, 319, 320, 321, 322, 323, 324, 325, 326, 332, 333, 334, 335, 336, 337, 338, 339, 340, 341, 342, 343, 344, 345, 346, 354, 355, 356, 357, 358, 347, 348, 349, 350, 351, 352, 353, 327, 328, 329] (by decide +kernel) (by decide +kernel)
set_option maxRecDepth 20000 in
theorem gL_does_X9_moveReel : GoodIn wsL_does (wsV RL 23 RX9 yX9_moveReel wsX9_moveReel) := goodIn_app (goodIn_of _ (by decide +kernel)) ggL_does_X9_moveReel
set_option maxRecDepth 20000 in
theorem ggL_does_X9_moveGenerator : GoodIn wsL_does wsX9_moveGenerator := goodIn_r _ [175, 70, 8, 71, 72, 73, 24, 74, 28, 35, 75, 76, 30, 27, 26, 29, 77, 78, 79, 39, 80, 41, 81, 82, 83, 84, 85, 86, 87, 88, 89, 90, 91, 45, 92, 47, 93, 94, 95, 96, 97, 98, 99, 100, 101, 102, 103, 104, 105, 106, 107, 108, 109, 110, 111, 112, 113, 114, 51, 115, 53, 54, 55, 56, 57, 58, 59, 176, 177, 178, 179, 120, 180, 4, 181, 182, 183, 184, 185, 162, 163, 164, 165, 166, 121, 167, 31, 32, 33, 34, 36, 37, 38, 40, 42, 43, 44, 46, 186, 187, 188, 189, 132, 133, 134, 135, 6, 136, 137, 138, 12, 139, 140, 141, 14, 142, 143, 124, 144, 145, 317, 318, 319, 320, 321, 322, 323, 324, 325, 326, 332, 333, 334, 335, 336, 337, 338, 339, 340, 341, 342, 343, 344, 345, 346, 354, 355, 356, 357, 358, 347, 348, 349, 350, 351, 352, 353, 327, 328, 329] (by decide +kernel) (by decide +kernel)
set_option maxRecDepth 20000 in
theorem gL_does_X9_moveGenerator : GoodIn wsL_does (wsV RL 27 RX9 yX9_moveGenerator wsX9_moveGenerator) := goodIn_app (goodIn_of _ (by decide +kernel)) ggL_does_X9_moveGenerator
set_option maxRecDepth 20000 in
theorem ggL_does_X9_fuel : GoodIn wsL_does wsX9_fuel := goodIn_r _ [193, 70, 8, 71, 72, 73, 24, 74, 28, 35, 75, 76, 30, 27, 26, 29, 77, 78, 79, 39, 80, 41, 81, 82, 83, 84, 85, 86, 87, 88, 89, 90, 91, 45, 92, 47, 93, 94, 95, 96, 97, 98, 99, 100, 101, 102, 103, 104, 105, 106, 107, 108, 109, 110, 111, 112, 113, 114, 51, 115, 53, 54, 55, 56, 57, 58, 59, 194, 195, 196, 197, 120, 198, 166, 167, 180, 4, 181, 199, 200, 182, 183, 184, 185, 201, 202, 203, 204, 205, 206, 207, 208, 209, 210, 211, 212, 132, 133, 134, 135, 6, 136, 137, 138, 12, 139, 140, 141, 14, 142, 143, 124, 144, 145, 317, 318, 319, 320, 321, 322, 323, 324, 325, 326, 332, 333, 334, 335, 336, 337, 338, 339, 340, 341, 342, 343, 344, 345, 346, 354, 355, 356, 357, 358, 347, 348, 349, 350, 351, 352, 353, 327, 328, 329] (by decide +kernel) (by decide +kernel)
set_option maxRecDepth 20000 in
theorem gL_does_X9_fuel : GoodIn wsL_does (wsV RL 30 RX9 yX9_fuel wsX9_fuel) := goodIn_app (goodIn_of _ (by decide +kernel)) ggL_does_X9_fuel
set_option maxRecDepth 20000 in
theorem ggL_does_X9_renew : GoodIn wsL_does wsX9_renew := goodIn_r _ [216, 70, 8, 71, 72, 73, 24, 74, 28, 35, 75, 76, 30, 27, 26, 29, 77, 78, 79, 39, 80, 41, 81, 82, 83, 84, 85, 86, 87, 88, 89, 90, 91, 45, 92, 47, 93, 94, 95, 96, 97, 98, 99, 100, 101, 102, 103, 104, 105, 106, 107, 108, 109, 110, 111, 112, 113, 114, 51, 115, 53, 54, 55, 56, 57, 58, 59, 217, 218, 219, 220, 120, 166, 154, 155, 156, 157, 158, 159, 160, 161, 221, 222, 223, 224, 225, 226, 227, 228, 229, 230, 231, 232, 132, 133, 134, 4, 135, 6, 136, 137, 138, 12, 139, 140, 141, 14, 142, 143, 124, 144, 145, 317, 318, 319, 320, 321, 322, 323, 324, 325, 326, 332, 333, 334, 335, 336, 337, 338, 339, 340, 341, 342, 343, 344, 345, 346, 354, 355, 356, 357, 358, 347, 348, 349, 350, 351, 352, 353, 327, 328, 329] (by decide +kernel) (by decide +kernel)
set_option maxRecDepth 20000 in
theorem gL_does_X9_renew : GoodIn wsL_does (wsV RL 33 RX9 yX9_renew wsX9_renew) := goodIn_app (goodIn_of _ (by decide +kernel)) ggL_does_X9_renew
set_option maxRecDepth 20000 in
theorem ggL_does_X9_setPrice : GoodIn wsL_does wsX9_setPrice := goodIn_r _ [236, 70, 8, 71, 72, 73, 24, 74, 28, 35, 75, 76, 30, 27, 26, 29, 77, 78, 79, 39, 80, 41, 81, 82, 83, 84, 85, 86, 87, 88, 89, 90, 91, 45, 92, 47, 93, 94, 95, 96, 97, 98, 99, 100, 101, 102, 103, 104, 105, 106, 107, 108, 109, 110, 111, 112, 113, 114, 51, 115, 53, 54, 55, 56, 57, 58, 59, 237, 238, 239, 240, 198, 121, 241, 4, 242, 132, 133, 134, 135, 6, 136, 137, 138, 12, 139, 140, 141, 14, 142, 143, 124, 144, 145, 317, 318, 319, 320, 321, 322, 323, 324, 325, 326, 332, 333, 334, 335, 336, 337, 338, 339, 340, 341, 342, 343, 344, 345, 346, 354, 355, 356, 357, 358, 347, 348, 349, 350, 351, 352, 353, 327, 328, 329] (by decide +kernel) (by decide +kernel)
set_option maxRecDepth 20000 in
theorem gL_does_X9_setPrice : GoodIn wsL_does (wsV RL 36 RX9 yX9_setPrice wsX9_setPrice) := goodIn_app (goodIn_of _ (by decide +kernel)) ggL_does_X9_setPrice
set_option maxRecDepth 20000 in
theorem ggL_does_X9_show : GoodIn wsL_does wsX9_show := goodIn_r _ [246, 70, 8, 71, 72, 73, 24, 74, 28, 35, 75, 76, 30, 27, 26, 29, 77, 78, 79, 39, 80, 41, 81, 82, 83, 84, 85, 86, 87, 88, 89, 90, 91, 45, 92, 47, 93, 94, 95, 96, 97, 98, 99, 100, 101, 102, 103, 104, 105, 106, 107, 108, 109, 110, 111, 112, 113, 114, 51, 115, 53, 54, 55, 56, 57, 58, 59, 247, 248, 249, 250, 120, 251, 126, 4, 127, 252, 253, 254, 255, 256, 257, 258, 259, 36, 37, 38, 40, 42, 43, 44, 46, 260, 261, 262, 263, 264, 265, 266, 267, 268, 269, 270, 271, 272, 273, 124, 274, 275, 276, 277, 278, 279, 280, 281, 282, 283, 284, 285, 286, 287, 180, 181, 288, 289, 290, 291, 292, 293, 294, 295, 296, 297, 298, 299, 300, 301, 302, 303, 304, 143, 144, 305, 306, 307, 308, 132, 133, 134, 135, 6, 136, 137, 138, 12, 139, 140, 141, 14, 142, 145, 317, 318, 319, 320, 321, 322, 323, 324, 325, 326, 332, 333, 334, 335, 336, 337, 338, 339, 340, 341, 342, 343, 344, 345, 346, 354, 355, 356, 357, 358, 347, 348, 349, 350, 351, 352, 353, 327, 328, 329] (by decide +kernel) (by decide +kernel)
set_option maxRecDepth 20000 in
theorem gL_does_X9_show : GoodIn wsL_does (wsV RL 39 RX9 yX9_show wsX9_show) := goodIn_app (goodIn_of _ (by decide +kernel)) ggL_does_X9_show
set_option maxRecDepth 20000 in
theorem ggL_does_X9_nextDay : GoodIn wsL_does wsX9_nextDay := goodIn_r _ [312, 70, 8, 71, 72, 73, 24, 74, 28, 35, 75, 76, 30, 27, 26, 29, 77, 78, 79, 39, 80, 41, 81, 82, 83, 84, 85, 86, 87, 88, 89, 90, 91, 45, 92, 47, 93, 94, 95, 96, 97, 98, 99, 100, 101, 102, 103, 104, 105, 106, 107, 108, 109, 110, 111, 112, 113, 114, 51, 115, 53, 54, 55, 56, 57, 58, 59, 313, 314, 315, 316, 167, 132, 133, 134, 4, 135, 6, 136, 137, 138, 12, 139, 140, 141, 14, 142, 143, 124, 144, 145, 317, 318, 319, 320, 321, 322, 323, 324, 325, 326, 332, 333, 334, 335, 336, 337, 338, 339, 340, 341, 342, 343, 344, 345, 346, 354, 355, 356, 357, 358, 347, 348, 349, 350, 351, 352, 353, 327, 328, 329] (by decide +kernel) (by decide +kernel)
set_option maxRecDepth 20000 in
theorem gL_does_X9_nextDay : GoodIn wsL_does (wsV RL 42 RX9 yX9_nextDay wsX9_nextDay) := goodIn_app (goodIn_of _ (by decide +kernel)) ggL_does_X9_nextDay
theorem dL_does_0 : decode cL_does 0 = .ok (.aload_n 0, 1) := by decide +kernel
theorem dL_does_1 : decode cL_does 1 = .ok (.iconst 1, 1) := by decide +kernel
theorem dL_does_2 : decode cL_does 2 = .ok (.invokevirtual 8, 3) := by decide +kernel
theorem dL_does_5 : decode cL_does 5 = .ok (.istore_n 2, 1) := by decide +kernel
theorem dL_does_6 : decode cL_does 6 = .ok (.iload_n 1, 1) := by decide +kernel
theorem dL_does_7 : decode cL_does 7 = .ok (.bipush 15, 2) := by decide +kernel
theorem dL_does_9 : decode cL_does 9 = .ok (.iand, 1) := by decide +kernel
theorem dL_does_10 : decode cL_does 10 = .ok (.tableswitch 220 0 12 #[66, 66, 78, 78, 78, 78, 105, 128, 150, 163, 195, 195, 195], 66) := by decide +kernel
theorem dL_does_76 : decode cL_does 76 = .ok (.aload_n 0, 1) := by decide +kernel
theorem dL_does_77 : decode cL_does 77 = .ok (.iload_n 1, 1) := by decide +kernel
theorem dL_does_78 : decode cL_does 78 = .ok (.iconst 4, 1) := by decide +kernel
theorem dL_does_79 : decode cL_does 79 = .ok (.ishr, 1) := by decide +kernel
theorem dL_does_80 : decode cL_does 80 = .ok (.iconst 5, 1) := by decide +kernel
theorem dL_does_81 : decode cL_does 81 = .ok (.invokestatic 14, 3) := by decide +kernel
theorem dL_does_84 : decode cL_does 84 = .ok (.invokevirtual 20, 3) := by decide +kernel
theorem dL_does_87 : decode cL_does 87 = .ok (.ireturn, 1) := by decide +kernel
theorem dL_does_88 : decode cL_does 88 = .ok (.aload_n 0, 1) := by decide +kernel
theorem dL_does_89 : decode cL_does 89 = .ok (.iload_n 1, 1) := by decide +kernel
theorem dL_does_90 : decode cL_does 90 = .ok (.iconst 4, 1) := by decide +kernel
theorem dL_does_91 : decode cL_does 91 = .ok (.ishr, 1) := by decide +kernel
theorem dL_does_92 : decode cL_does 92 = .ok (.bipush 10, 2) := by decide +kernel
theorem dL_does_94 : decode cL_does 94 = .ok (.invokestatic 14, 3) := by decide +kernel
theorem dL_does_97 : decode cL_does 97 = .ok (.iload_n 1, 1) := by decide +kernel
theorem dL_does_98 : decode cL_does 98 = .ok (.bipush 8, 2) := by decide +kernel
theorem dL_does_100 : decode cL_does 100 = .ok (.ishr, 1) := by decide +kernel
theorem dL_does_101 : decode cL_does 101 = .ok (.iconst 3, 1) := by decide +kernel
theorem dL_does_102 : decode cL_does 102 = .ok (.iand, 1) := by decide +kernel
theorem dL_does_103 : decode cL_does 103 = .ok (.ifCond .ne 7, 3) := by decide +kernel
theorem dL_does_106 : decode cL_does 106 = .ok (.iconst 1, 1) := by decide +kernel
theorem dL_does_107 : decode cL_does 107 = .ok (.goto 4, 3) := by decide +kernel
theorem dL_does_110 : decode cL_does 110 = .ok (.iconst 0, 1) := by decide +kernel
theorem dL_does_111 : decode cL_does 111 = .ok (.invokevirtual 23, 3) := by decide +kernel
theorem dL_does_114 : decode cL_does 114 = .ok (.ireturn, 1) := by decide +kernel
theorem dL_does_115 : decode cL_does 115 = .ok (.aload_n 0, 1) := by decide +kernel
theorem dL_does_116 : decode cL_does 116 = .ok (.iload_n 1, 1) := by decide +kernel
theorem dL_does_117 : decode cL_does 117 = .ok (.iconst 4, 1) := by decide +kernel
theorem dL_does_118 : decode cL_does 118 = .ok (.ishr, 1) := by decide +kernel
theorem dL_does_119 : decode cL_does 119 = .ok (.iconst 1, 1) := by decide +kernel
theorem dL_does_120 : decode cL_does 120 = .ok (.iand, 1) := by decide +kernel
theorem dL_does_121 : decode cL_does 121 = .ok (.iload_n 1, 1) := by decide +kernel
theorem dL_does_122 : decode cL_does 122 = .ok (.iconst 5, 1) := by decide +kernel
theorem dL_does_123 : decode cL_does 123 = .ok (.ishr, 1) := by decide +kernel
theorem dL_does_124 : decode cL_does 124 = .ok (.iconst 3, 1) := by decide +kernel
theorem dL_does_125 : decode cL_does 125 = .ok (.iand, 1) := by decide +kernel
theorem dL_does_126 : decode cL_does 126 = .ok (.ifCond .ne 7, 3) := by decide +kernel
theorem dL_does_129 : decode cL_does 129 = .ok (.iconst 1, 1) := by decide +kernel
theorem dL_does_130 : decode cL_does 130 = .ok (.goto 4, 3) := by decide +kernel
theorem dL_does_133 : decode cL_does 133 = .ok (.iconst 0, 1) := by decide +kernel
theorem dL_does_134 : decode cL_does 134 = .ok (.invokevirtual 27, 3) := by decide +kernel
theorem dL_does_137 : decode cL_does 137 = .ok (.ireturn, 1) := by decide +kernel
theorem dL_does_138 : decode cL_does 138 = .ok (.aload_n 0, 1) := by decide +kernel
theorem dL_does_139 : decode cL_does 139 = .ok (.iload_n 1, 1) := by decide +kernel
theorem dL_does_140 : decode cL_does 140 = .ok (.iconst 4, 1) := by decide +kernel
theorem dL_does_141 : decode cL_does 141 = .ok (.ishr, 1) := by decide +kernel
theorem dL_does_142 : decode cL_does 142 = .ok (.iconst 1, 1) := by decide +kernel
theorem dL_does_143 : decode cL_does 143 = .ok (.iand, 1) := by decide +kernel
theorem dL_does_144 : decode cL_does 144 = .ok (.iconst 5, 1) := by decide +kernel
theorem dL_does_145 : decode cL_does 145 = .ok (.iconst 5, 1) := by decide +kernel
theorem dL_does_146 : decode cL_does 146 = .ok (.iload_n 1, 1) := by decide +kernel
theorem dL_does_147 : decode cL_does 147 = .ok (.iconst 5, 1) := by decide +kernel
theorem dL_does_148 : decode cL_does 148 = .ok (.ishr, 1) := by decide +kernel
theorem dL_does_149 : decode cL_does 149 = .ok (.bipush 40, 2) := by decide +kernel
theorem dL_does_151 : decode cL_does 151 = .ok (.invokestatic 14, 3) := by decide +kernel
theorem dL_does_154 : decode cL_does 154 = .ok (.imul, 1) := by decide +kernel
theorem dL_does_155 : decode cL_does 155 = .ok (.iadd, 1) := by decide +kernel
theorem dL_does_156 : decode cL_does 156 = .ok (.invokevirtual 30, 3) := by decide +kernel
theorem dL_does_159 : decode cL_does 159 = .ok (.ireturn, 1) := by decide +kernel
theorem dL_does_160 : decode cL_does 160 = .ok (.aload_n 0, 1) := by decide +kernel
theorem dL_does_161 : decode cL_does 161 = .ok (.iload_n 1, 1) := by decide +kernel
theorem dL_does_162 : decode cL_does 162 = .ok (.iconst 4, 1) := by decide +kernel
theorem dL_does_163 : decode cL_does 163 = .ok (.ishr, 1) := by decide +kernel
theorem dL_does_164 : decode cL_does 164 = .ok (.bipush 10, 2) := by decide +kernel
theorem dL_does_166 : decode cL_does 166 = .ok (.invokestatic 14, 3) := by decide +kernel
theorem dL_does_169 : decode cL_does 169 = .ok (.invokevirtual 33, 3) := by decide +kernel
theorem dL_does_172 : decode cL_does 172 = .ok (.ireturn, 1) := by decide +kernel
theorem dL_does_173 : decode cL_does 173 = .ok (.iload_n 1, 1) := by decide +kernel
theorem dL_does_174 : decode cL_does 174 = .ok (.iconst 4, 1) := by decide +kernel
theorem dL_does_175 : decode cL_does 175 = .ok (.ishr, 1) := by decide +kernel
theorem dL_does_176 : decode cL_does 176 = .ok (.iconst 3, 1) := by decide +kernel
theorem dL_does_177 : decode cL_does 177 = .ok (.iand, 1) := by decide +kernel
theorem dL_does_178 : decode cL_does 178 = .ok (.ifCond .ne 21, 3) := by decide +kernel
theorem dL_does_181 : decode cL_does 181 = .ok (.aload_n 0, 1) := by decide +kernel
theorem dL_does_182 : decode cL_does 182 = .ok (.iconst 1, 1) := by decide +kernel
theorem dL_does_183 : decode cL_does 183 = .ok (.iload_n 1, 1) := by decide +kernel
theorem dL_does_184 : decode cL_does 184 = .ok (.bipush 6, 2) := by decide +kernel
theorem dL_does_186 : decode cL_does 186 = .ok (.ishr, 1) := by decide +kernel
theorem dL_does_187 : decode cL_does 187 = .ok (.bipush 12, 2) := by decide +kernel
theorem dL_does_189 : decode cL_does 189 = .ok (.invokestatic 14, 3) := by decide +kernel
theorem dL_does_192 : decode cL_does 192 = .ok (.iadd, 1) := by decide +kernel
theorem dL_does_193 : decode cL_does 193 = .ok (.invokevirtual 36, 3) := by decide +kernel
theorem dL_does_196 : decode cL_does 196 = .ok (.goto 8, 3) := by decide +kernel
theorem dL_does_199 : decode cL_does 199 = .ok (.aload_n 0, 1) := by decide +kernel
theorem dL_does_200 : decode cL_does 200 = .ok (.iload_n 2, 1) := by decide +kernel
theorem dL_does_201 : decode cL_does 201 = .ok (.invokevirtual 39, 3) := by decide +kernel
theorem dL_does_204 : decode cL_does 204 = .ok (.ireturn, 1) := by decide +kernel
theorem dL_does_205 : decode cL_does 205 = .ok (.aload_n 0, 1) := by decide +kernel
theorem dL_does_206 : decode cL_does 206 = .ok (.iload_n 1, 1) := by decide +kernel
theorem dL_does_207 : decode cL_does 207 = .ok (.iconst 4, 1) := by decide +kernel
theorem dL_does_208 : decode cL_does 208 = .ok (.ishr, 1) := by decide +kernel
theorem dL_does_209 : decode cL_does 209 = .ok (.iconst 3, 1) := by decide +kernel
theorem dL_does_210 : decode cL_does 210 = .ok (.iand, 1) := by decide +kernel
theorem dL_does_211 : decode cL_does 211 = .ok (.ifCond .ne 14, 3) := by decide +kernel
theorem dL_does_214 : decode cL_does 214 = .ok (.iload_n 1, 1) := by decide +kernel
theorem dL_does_215 : decode cL_does 215 = .ok (.bipush 6, 2) := by decide +kernel
theorem dL_does_217 : decode cL_does 217 = .ok (.ishr, 1) := by decide +kernel
theorem dL_does_218 : decode cL_does 218 = .ok (.iconst 5, 1) := by decide +kernel
theorem dL_does_219 : decode cL_does 219 = .ok (.invokestatic 14, 3) := by decide +kernel
theorem dL_does_222 : decode cL_does 222 = .ok (.goto 4, 3) := by decide +kernel
theorem dL_does_225 : decode cL_does 225 = .ok (.iload_n 2, 1) := by decide +kernel
theorem dL_does_226 : decode cL_does 226 = .ok (.invokevirtual 39, 3) := by decide +kernel
theorem dL_does_229 : decode cL_does 229 = .ok (.ireturn, 1) := by decide +kernel
theorem dL_does_230 : decode cL_does 230 = .ok (.aload_n 0, 1) := by decide +kernel
theorem dL_does_231 : decode cL_does 231 = .ok (.invokevirtual 42, 3) := by decide +kernel
theorem dL_does_234 : decode cL_does 234 = .ok (.ireturn, 1) := by decide +kernel
set_option maxRecDepth 20000 in
theorem ggL_areThingsSo_X9_generator : GoodIn wsL_areThingsSo wsX9_generator := goodIn_r _ [7, 8, 9, 10, 11, 12, 13, 14, 15, 16, 17, 6, 18, 19, 20, 21, 22, 23, 24, 25, 26, 27, 28, 29, 30, 31, 32, 33, 128, 129, 130, 131, 132, 133, 134, 135, 136, 137, 138, 139, 140, 141, 142, 143, 144, 145, 146, 147] (by decide +kernel) (by decide +kernel)
set_option maxRecDepth 20000 in
theorem gL_areThingsSo_X9_generator : GoodIn wsL_areThingsSo (wsV RL 46 RX9 yX9_generator wsX9_generator) := goodIn_app (goodIn_of _ (by decide +kernel)) ggL_areThingsSo_X9_generator
set_option maxRecDepth 20000 in
theorem ggL_areThingsSo_X9_reel : GoodIn wsL_areThingsSo wsX9_reel := goodIn_r _ [37, 8, 38, 39, 40, 12, 41, 42, 14, 16, 43, 44, 45, 46, 47, 48, 49, 50, 51, 52, 25, 26, 27, 28, 53, 54, 55, 56, 57, 58, 59, 60, 61, 62, 63, 64, 65, 66, 67, 68, 69, 70, 71, 72, 73, 74, 75, 76, 128, 129, 130, 131, 132, 133, 134, 135, 136, 137, 138, 139, 140, 141, 142, 143, 144, 145, 148, 149, 150, 151, 152] (by decide +kernel) (by decide +kernel)
set_option maxRecDepth 20000 in
theorem gL_areThingsSo_X9_reel : GoodIn wsL_areThingsSo (wsV RL 50 RX9 yX9_reel wsX9_reel) := goodIn_app (goodIn_of _ (by decide +kernel)) ggL_areThingsSo_X9_reel
set_option maxRecDepth 20000 in
theorem ggL_areThingsSo_X9_count : GoodIn wsL_areThingsSo wsX9_count := goodIn_r _ [80, 81, 82, 8, 83, 84, 85, 86, 87, 88, 89, 90, 91, 92, 93, 94, 95, 96, 97, 12, 98, 99, 100, 42, 101, 102, 103, 104, 105, 106, 15, 107, 108, 109, 46, 110, 48, 111, 112, 113, 22, 114, 24, 115, 116, 117, 118, 119, 120, 121, 122, 123, 124, 125, 126, 127, 128, 129, 130, 131, 132, 133, 134, 135, 136, 137, 153, 154, 155, 156, 157, 138, 139, 140, 141, 142, 143, 144, 145, 148, 149, 150, 151, 152, 146, 147, 158, 159, 160, 161, 162, 163, 164] (by decide +kernel) (by decide +kernel)
set_option maxRecDepth 20000 in
theorem gL_areThingsSo_X9_count : GoodIn wsL_areThingsSo (wsV RL 8 RX9 yX9_count wsX9_count) := goodIn_app (goodIn_of _ (by decide +kernel)) ggL_areThingsSo_X9_count
theorem dL_areThingsSo_0 : decode cL_areThingsSo 0 = .ok (.iconst 0, 1) := by decide +kernel
theorem dL_areThingsSo_1 : decode cL_areThingsSo 1 = .ok (.istore_n 1, 1) := by decide +kernel
theorem dL_areThingsSo_2 : decode cL_areThingsSo 2 = .ok (.iconst 0, 1) := by decide +kernel
theorem dL_areThingsSo_3 : decode cL_areThingsSo 3 = .ok (.istore_n 2, 1) := by decide +kernel
theorem dL_areThingsSo_4 : decode cL_areThingsSo 4 = .ok (.iconst 1, 1) := by decide +kernel
theorem dL_areThingsSo_5 : decode cL_areThingsSo 5 = .ok (.istore_n 3, 1) := by decide +kernel
theorem dL_areThingsSo_6 : decode cL_areThingsSo 6 = .ok (.iconst 0, 1) := by decide +kernel
theorem dL_areThingsSo_7 : decode cL_areThingsSo 7 = .ok (.istore 4, 2) := by decide +kernel
theorem dL_areThingsSo_9 : decode cL_areThingsSo 9 = .ok (.iload 4, 2) := by decide +kernel
theorem dL_areThingsSo_11 : decode cL_areThingsSo 11 = .ok (.iconst 2, 1) := by decide +kernel
theorem dL_areThingsSo_12 : decode cL_areThingsSo 12 = .ok (.if_icmp .ge 62, 3) := by decide +kernel
theorem dL_areThingsSo_15 : decode cL_areThingsSo 15 = .ok (.iload_n 1, 1) := by decide +kernel
theorem dL_areThingsSo_16 : decode cL_areThingsSo 16 = .ok (.aload_n 0, 1) := by decide +kernel
theorem dL_areThingsSo_17 : decode cL_areThingsSo 17 = .ok (.iload 4, 2) := by decide +kernel
theorem dL_areThingsSo_19 : decode cL_areThingsSo 19 = .ok (.iconst 0, 1) := by decide +kernel
theorem dL_areThingsSo_20 : decode cL_areThingsSo 20 = .ok (.invokevirtual 46, 3) := by decide +kernel
theorem dL_areThingsSo_23 : decode cL_areThingsSo 23 = .ok (.ldc 49, 2) := by decide +kernel
theorem dL_areThingsSo_25 : decode cL_areThingsSo 25 = .ok (.if_icmp .ne 7, 3) := by decide +kernel
theorem dL_areThingsSo_28 : decode cL_areThingsSo 28 = .ok (.iconst 1, 1) := by decide +kernel
theorem dL_areThingsSo_29 : decode cL_areThingsSo 29 = .ok (.goto 4, 3) := by decide +kernel
theorem dL_areThingsSo_32 : decode cL_areThingsSo 32 = .ok (.iconst 0, 1) := by decide +kernel
theorem dL_areThingsSo_33 : decode cL_areThingsSo 33 = .ok (.iadd, 1) := by decide +kernel
theorem dL_areThingsSo_34 : decode cL_areThingsSo 34 = .ok (.istore_n 1, 1) := by decide +kernel
theorem dL_areThingsSo_35 : decode cL_areThingsSo 35 = .ok (.iload_n 3, 1) := by decide +kernel
theorem dL_areThingsSo_36 : decode cL_areThingsSo 36 = .ok (.ifCond .eq 30, 3) := by decide +kernel
theorem dL_areThingsSo_39 : decode cL_areThingsSo 39 = .ok (.aload_n 0, 1) := by decide +kernel
theorem dL_areThingsSo_40 : decode cL_areThingsSo 40 = .ok (.iload 4, 2) := by decide +kernel
theorem dL_areThingsSo_42 : decode cL_areThingsSo 42 = .ok (.iconst 1, 1) := by decide +kernel
theorem dL_areThingsSo_43 : decode cL_areThingsSo 43 = .ok (.invokevirtual 46, 3) := by decide +kernel
theorem dL_areThingsSo_46 : decode cL_areThingsSo 46 = .ok (.ifCond .lt 20, 3) := by decide +kernel
theorem dL_areThingsSo_49 : decode cL_areThingsSo 49 = .ok (.aload_n 0, 1) := by decide +kernel
theorem dL_areThingsSo_50 : decode cL_areThingsSo 50 = .ok (.iload 4, 2) := by decide +kernel
theorem dL_areThingsSo_52 : decode cL_areThingsSo 52 = .ok (.iconst 1, 1) := by decide +kernel
theorem dL_areThingsSo_53 : decode cL_areThingsSo 53 = .ok (.invokevirtual 46, 3) := by decide +kernel
theorem dL_areThingsSo_56 : decode cL_areThingsSo 56 = .ok (.sipush 500, 3) := by decide +kernel
theorem dL_areThingsSo_59 : decode cL_areThingsSo 59 = .ok (.if_icmp .gt 7, 3) := by decide +kernel
theorem dL_areThingsSo_62 : decode cL_areThingsSo 62 = .ok (.iconst 1, 1) := by decide +kernel
theorem dL_areThingsSo_63 : decode cL_areThingsSo 63 = .ok (.goto 4, 3) := by decide +kernel
theorem dL_areThingsSo_66 : decode cL_areThingsSo 66 = .ok (.iconst 0, 1) := by decide +kernel
theorem dL_areThingsSo_67 : decode cL_areThingsSo 67 = .ok (.istore_n 3, 1) := by decide +kernel
theorem dL_areThingsSo_68 : decode cL_areThingsSo 68 = .ok (.iinc 4 1, 3) := by decide +kernel
theorem dL_areThingsSo_71 : decode cL_areThingsSo 71 = .ok (.goto (-62), 3) := by decide +kernel
theorem dL_areThingsSo_74 : decode cL_areThingsSo 74 = .ok (.iconst 0, 1) := by decide +kernel
theorem dL_areThingsSo_75 : decode cL_areThingsSo 75 = .ok (.istore 4, 2) := by decide +kernel
theorem dL_areThingsSo_77 : decode cL_areThingsSo 77 = .ok (.iload 4, 2) := by decide +kernel
theorem dL_areThingsSo_79 : decode cL_areThingsSo 79 = .ok (.bipush 10, 2) := by decide +kernel
theorem dL_areThingsSo_81 : decode cL_areThingsSo 81 = .ok (.if_icmp .ge 222, 3) := by decide +kernel
theorem dL_areThingsSo_84 : decode cL_areThingsSo 84 = .ok (.aload_n 0, 1) := by decide +kernel
theorem dL_areThingsSo_85 : decode cL_areThingsSo 85 = .ok (.iload 4, 2) := by decide +kernel
theorem dL_areThingsSo_87 : decode cL_areThingsSo 87 = .ok (.iconst 0, 1) := by decide +kernel
theorem dL_areThingsSo_88 : decode cL_areThingsSo 88 = .ok (.invokevirtual 50, 3) := by decide +kernel
theorem dL_areThingsSo_91 : decode cL_areThingsSo 91 = .ok (.istore 5, 2) := by decide +kernel
theorem dL_areThingsSo_93 : decode cL_areThingsSo 93 = .ok (.iload_n 2, 1) := by decide +kernel
theorem dL_areThingsSo_94 : decode cL_areThingsSo 94 = .ok (.iload 5, 2) := by decide +kernel
theorem dL_areThingsSo_96 : decode cL_areThingsSo 96 = .ok (.ldc 53, 2) := by decide +kernel
theorem dL_areThingsSo_98 : decode cL_areThingsSo 98 = .ok (.if_icmp .ne 7, 3) := by decide +kernel
theorem dL_areThingsSo_101 : decode cL_areThingsSo 101 = .ok (.iconst 1, 1) := by decide +kernel
theorem dL_areThingsSo_102 : decode cL_areThingsSo 102 = .ok (.goto 4, 3) := by decide +kernel
theorem dL_areThingsSo_105 : decode cL_areThingsSo 105 = .ok (.iconst 0, 1) := by decide +kernel
theorem dL_areThingsSo_106 : decode cL_areThingsSo 106 = .ok (.iadd, 1) := by decide +kernel
theorem dL_areThingsSo_107 : decode cL_areThingsSo 107 = .ok (.istore_n 2, 1) := by decide +kernel
theorem dL_areThingsSo_108 : decode cL_areThingsSo 108 = .ok (.iload_n 1, 1) := by decide +kernel
theorem dL_areThingsSo_109 : decode cL_areThingsSo 109 = .ok (.iload 5, 2) := by decide +kernel
theorem dL_areThingsSo_111 : decode cL_areThingsSo 111 = .ok (.ldc 49, 2) := by decide +kernel
theorem dL_areThingsSo_113 : decode cL_areThingsSo 113 = .ok (.if_icmp .ne 7, 3) := by decide +kernel
theorem dL_areThingsSo_116 : decode cL_areThingsSo 116 = .ok (.iconst 1, 1) := by decide +kernel
theorem dL_areThingsSo_117 : decode cL_areThingsSo 117 = .ok (.goto 4, 3) := by decide +kernel
theorem dL_areThingsSo_120 : decode cL_areThingsSo 120 = .ok (.iconst 0, 1) := by decide +kernel
theorem dL_areThingsSo_121 : decode cL_areThingsSo 121 = .ok (.iadd, 1) := by decide +kernel
theorem dL_areThingsSo_122 : decode cL_areThingsSo 122 = .ok (.istore_n 1, 1) := by decide +kernel
theorem dL_areThingsSo_123 : decode cL_areThingsSo 123 = .ok (.iload 5, 2) := by decide +kernel
theorem dL_areThingsSo_125 : decode cL_areThingsSo 125 = .ok (.ldc 53, 2) := by decide +kernel
theorem dL_areThingsSo_127 : decode cL_areThingsSo 127 = .ok (.if_icmp .eq 170, 3) := by decide +kernel
theorem dL_areThingsSo_130 : decode cL_areThingsSo 130 = .ok (.aload_n 0, 1) := by decide +kernel
theorem dL_areThingsSo_131 : decode cL_areThingsSo 131 = .ok (.iload 4, 2) := by decide +kernel
theorem dL_areThingsSo_133 : decode cL_areThingsSo 133 = .ok (.iconst 2, 1) := by decide +kernel
theorem dL_areThingsSo_134 : decode cL_areThingsSo 134 = .ok (.invokevirtual 50, 3) := by decide +kernel
theorem dL_areThingsSo_137 : decode cL_areThingsSo 137 = .ok (.istore 6, 2) := by decide +kernel
theorem dL_areThingsSo_139 : decode cL_areThingsSo 139 = .ok (.aload_n 0, 1) := by decide +kernel
theorem dL_areThingsSo_140 : decode cL_areThingsSo 140 = .ok (.iload 4, 2) := by decide +kernel
theorem dL_areThingsSo_142 : decode cL_areThingsSo 142 = .ok (.iconst 1, 1) := by decide +kernel
theorem dL_areThingsSo_143 : decode cL_areThingsSo 143 = .ok (.invokevirtual 50, 3) := by decide +kernel
theorem dL_areThingsSo_146 : decode cL_areThingsSo 146 = .ok (.istore 7, 2) := by decide +kernel
theorem dL_areThingsSo_148 : decode cL_areThingsSo 148 = .ok (.iconst 0, 1) := by decide +kernel
theorem dL_areThingsSo_149 : decode cL_areThingsSo 149 = .ok (.istore 8, 2) := by decide +kernel
theorem dL_areThingsSo_151 : decode cL_areThingsSo 151 = .ok (.iload 7, 2) := by decide +kernel
theorem dL_areThingsSo_153 : decode cL_areThingsSo 153 = .ok (.iconst 2, 1) := by decide +kernel
theorem dL_areThingsSo_154 : decode cL_areThingsSo 154 = .ok (.if_icmp .le 47, 3) := by decide +kernel
theorem dL_areThingsSo_157 : decode cL_areThingsSo 157 = .ok (.iinc 8 1, 3) := by decide +kernel
theorem dL_areThingsSo_160 : decode cL_areThingsSo 160 = .ok (.iinc 6 5, 3) := by decide +kernel
theorem dL_areThingsSo_163 : decode cL_areThingsSo 163 = .ok (.iload 7, 2) := by decide +kernel
theorem dL_areThingsSo_165 : decode cL_areThingsSo 165 = .ok (.iload 6, 2) := by decide +kernel
theorem dL_areThingsSo_167 : decode cL_areThingsSo 167 = .ok (.bipush 40, 2) := by decide +kernel
theorem dL_areThingsSo_169 : decode cL_areThingsSo 169 = .ok (.if_icmp .lt 7, 3) := by decide +kernel
theorem dL_areThingsSo_172 : decode cL_areThingsSo 172 = .ok (.iconst 1, 1) := by decide +kernel
theorem dL_areThingsSo_173 : decode cL_areThingsSo 173 = .ok (.goto 4, 3) := by decide +kernel
theorem dL_areThingsSo_176 : decode cL_areThingsSo 176 = .ok (.iconst 0, 1) := by decide +kernel
theorem dL_areThingsSo_177 : decode cL_areThingsSo 177 = .ok (.isub, 1) := by decide +kernel
theorem dL_areThingsSo_178 : decode cL_areThingsSo 178 = .ok (.istore 7, 2) := by decide +kernel
theorem dL_areThingsSo_180 : decode cL_areThingsSo 180 = .ok (.iload 6, 2) := by decide +kernel
theorem dL_areThingsSo_182 : decode cL_areThingsSo 182 = .ok (.iload 6, 2) := by decide +kernel
theorem dL_areThingsSo_184 : decode cL_areThingsSo 184 = .ok (.bipush 40, 2) := by decide +kernel
theorem dL_areThingsSo_186 : decode cL_areThingsSo 186 = .ok (.if_icmp .lt 8, 3) := by decide +kernel
theorem dL_areThingsSo_189 : decode cL_areThingsSo 189 = .ok (.bipush 20, 2) := by decide +kernel
theorem dL_areThingsSo_191 : decode cL_areThingsSo 191 = .ok (.goto 4, 3) := by decide +kernel
theorem dL_areThingsSo_194 : decode cL_areThingsSo 194 = .ok (.iconst 0, 1) := by decide +kernel
theorem dL_areThingsSo_195 : decode cL_areThingsSo 195 = .ok (.isub, 1) := by decide +kernel
theorem dL_areThingsSo_196 : decode cL_areThingsSo 196 = .ok (.istore 6, 2) := by decide +kernel
theorem dL_areThingsSo_198 : decode cL_areThingsSo 198 = .ok (.goto (-47), 3) := by decide +kernel
theorem dL_areThingsSo_201 : decode cL_areThingsSo 201 = .ok (.iload_n 3, 1) := by decide +kernel
theorem dL_areThingsSo_202 : decode cL_areThingsSo 202 = .ok (.ifCond .eq 93, 3) := by decide +kernel
theorem dL_areThingsSo_205 : decode cL_areThingsSo 205 = .ok (.iload 5, 2) := by decide +kernel
theorem dL_areThingsSo_207 : decode cL_areThingsSo 207 = .ok (.iconst 5, 1) := by decide +kernel
theorem dL_areThingsSo_208 : decode cL_areThingsSo 208 = .ok (.if_icmp .ge 87, 3) := by decide +kernel
theorem dL_areThingsSo_211 : decode cL_areThingsSo 211 = .ok (.aload_n 0, 1) := by decide +kernel
theorem dL_areThingsSo_212 : decode cL_areThingsSo 212 = .ok (.iload 4, 2) := by decide +kernel
theorem dL_areThingsSo_214 : decode cL_areThingsSo 214 = .ok (.iconst 1, 1) := by decide +kernel
theorem dL_areThingsSo_215 : decode cL_areThingsSo 215 = .ok (.invokevirtual 50, 3) := by decide +kernel
theorem dL_areThingsSo_218 : decode cL_areThingsSo 218 = .ok (.iconst 3, 1) := by decide +kernel
theorem dL_areThingsSo_219 : decode cL_areThingsSo 219 = .ok (.if_icmp .lt 76, 3) := by decide +kernel
theorem dL_areThingsSo_222 : decode cL_areThingsSo 222 = .ok (.aload_n 0, 1) := by decide +kernel
theorem dL_areThingsSo_223 : decode cL_areThingsSo 223 = .ok (.iload 4, 2) := by decide +kernel
theorem dL_areThingsSo_225 : decode cL_areThingsSo 225 = .ok (.iconst 1, 1) := by decide +kernel
theorem dL_areThingsSo_226 : decode cL_areThingsSo 226 = .ok (.invokevirtual 50, 3) := by decide +kernel
theorem dL_areThingsSo_229 : decode cL_areThingsSo 229 = .ok (.aload_n 0, 1) := by decide +kernel
theorem dL_areThingsSo_230 : decode cL_areThingsSo 230 = .ok (.iload 4, 2) := by decide +kernel
theorem dL_areThingsSo_232 : decode cL_areThingsSo 232 = .ok (.iconst 3, 1) := by decide +kernel
theorem dL_areThingsSo_233 : decode cL_areThingsSo 233 = .ok (.invokevirtual 50, 3) := by decide +kernel
theorem dL_areThingsSo_236 : decode cL_areThingsSo 236 = .ok (.iadd, 1) := by decide +kernel
theorem dL_areThingsSo_237 : decode cL_areThingsSo 237 = .ok (.bipush 8, 2) := by decide +kernel
theorem dL_areThingsSo_239 : decode cL_areThingsSo 239 = .ok (.iload 4, 2) := by decide +kernel
theorem dL_areThingsSo_241 : decode cL_areThingsSo 241 = .ok (.iadd, 1) := by decide +kernel
theorem dL_areThingsSo_242 : decode cL_areThingsSo 242 = .ok (.if_icmp .ne 53, 3) := by decide +kernel
theorem dL_areThingsSo_245 : decode cL_areThingsSo 245 = .ok (.aload_n 0, 1) := by decide +kernel
theorem dL_areThingsSo_246 : decode cL_areThingsSo 246 = .ok (.iload 4, 2) := by decide +kernel
theorem dL_areThingsSo_248 : decode cL_areThingsSo 248 = .ok (.iconst 2, 1) := by decide +kernel
theorem dL_areThingsSo_249 : decode cL_areThingsSo 249 = .ok (.invokevirtual 50, 3) := by decide +kernel
theorem dL_areThingsSo_252 : decode cL_areThingsSo 252 = .ok (.ifCond .lt 43, 3) := by decide +kernel
theorem dL_areThingsSo_255 : decode cL_areThingsSo 255 = .ok (.aload_n 0, 1) := by decide +kernel
theorem dL_areThingsSo_256 : decode cL_areThingsSo 256 = .ok (.iload 4, 2) := by decide +kernel
theorem dL_areThingsSo_258 : decode cL_areThingsSo 258 = .ok (.iconst 2, 1) := by decide +kernel
theorem dL_areThingsSo_259 : decode cL_areThingsSo 259 = .ok (.invokevirtual 50, 3) := by decide +kernel
theorem dL_areThingsSo_262 : decode cL_areThingsSo 262 = .ok (.bipush 40, 2) := by decide +kernel
theorem dL_areThingsSo_264 : decode cL_areThingsSo 264 = .ok (.if_icmp .ge 31, 3) := by decide +kernel
theorem dL_areThingsSo_267 : decode cL_areThingsSo 267 = .ok (.aload_n 0, 1) := by decide +kernel
theorem dL_areThingsSo_268 : decode cL_areThingsSo 268 = .ok (.iload 4, 2) := by decide +kernel
theorem dL_areThingsSo_270 : decode cL_areThingsSo 270 = .ok (.iconst 4, 1) := by decide +kernel
theorem dL_areThingsSo_271 : decode cL_areThingsSo 271 = .ok (.invokevirtual 50, 3) := by decide +kernel
theorem dL_areThingsSo_274 : decode cL_areThingsSo 274 = .ok (.bipush 32, 2) := by decide +kernel
theorem dL_areThingsSo_276 : decode cL_areThingsSo 276 = .ok (.if_icmp .ge 19, 3) := by decide +kernel
theorem dL_areThingsSo_279 : decode cL_areThingsSo 279 = .ok (.aload_n 0, 1) := by decide +kernel
theorem dL_areThingsSo_280 : decode cL_areThingsSo 280 = .ok (.iload 4, 2) := by decide +kernel
theorem dL_areThingsSo_282 : decode cL_areThingsSo 282 = .ok (.iconst 5, 1) := by decide +kernel
theorem dL_areThingsSo_283 : decode cL_areThingsSo 283 = .ok (.invokevirtual 50, 3) := by decide +kernel
theorem dL_areThingsSo_286 : decode cL_areThingsSo 286 = .ok (.iload 8, 2) := by decide +kernel
theorem dL_areThingsSo_288 : decode cL_areThingsSo 288 = .ok (.if_icmp .ne 7, 3) := by decide +kernel
theorem dL_areThingsSo_291 : decode cL_areThingsSo 291 = .ok (.iconst 1, 1) := by decide +kernel
theorem dL_areThingsSo_292 : decode cL_areThingsSo 292 = .ok (.goto 4, 3) := by decide +kernel
theorem dL_areThingsSo_295 : decode cL_areThingsSo 295 = .ok (.iconst 0, 1) := by decide +kernel
theorem dL_areThingsSo_296 : decode cL_areThingsSo 296 = .ok (.istore_n 3, 1) := by decide +kernel
theorem dL_areThingsSo_297 : decode cL_areThingsSo 297 = .ok (.iinc 4 1, 3) := by decide +kernel
theorem dL_areThingsSo_300 : decode cL_areThingsSo 300 = .ok (.goto (-223), 3) := by decide +kernel
theorem dL_areThingsSo_303 : decode cL_areThingsSo 303 = .ok (.iload_n 3, 1) := by decide +kernel
theorem dL_areThingsSo_304 : decode cL_areThingsSo 304 = .ok (.ifCond .eq 25, 3) := by decide +kernel
theorem dL_areThingsSo_307 : decode cL_areThingsSo 307 = .ok (.iload_n 1, 1) := by decide +kernel
theorem dL_areThingsSo_308 : decode cL_areThingsSo 308 = .ok (.aload_n 0, 1) := by decide +kernel
theorem dL_areThingsSo_309 : decode cL_areThingsSo 309 = .ok (.iconst 2, 1) := by decide +kernel
theorem dL_areThingsSo_310 : decode cL_areThingsSo 310 = .ok (.invokevirtual 8, 3) := by decide +kernel
theorem dL_areThingsSo_313 : decode cL_areThingsSo 313 = .ok (.if_icmp .ne 16, 3) := by decide +kernel
theorem dL_areThingsSo_316 : decode cL_areThingsSo 316 = .ok (.iload_n 2, 1) := by decide +kernel
theorem dL_areThingsSo_317 : decode cL_areThingsSo 317 = .ok (.aload_n 0, 1) := by decide +kernel
theorem dL_areThingsSo_318 : decode cL_areThingsSo 318 = .ok (.iconst 3, 1) := by decide +kernel
theorem dL_areThingsSo_319 : decode cL_areThingsSo 319 = .ok (.invokevirtual 8, 3) := by decide +kernel
theorem dL_areThingsSo_322 : decode cL_areThingsSo 322 = .ok (.if_icmp .ne 7, 3) := by decide +kernel
theorem dL_areThingsSo_325 : decode cL_areThingsSo 325 = .ok (.iconst 1, 1) := by decide +kernel
theorem dL_areThingsSo_326 : decode cL_areThingsSo 326 = .ok (.goto 4, 3) := by decide +kernel
theorem dL_areThingsSo_329 : decode cL_areThingsSo 329 = .ok (.iconst 0, 1) := by decide +kernel
theorem dL_areThingsSo_330 : decode cL_areThingsSo 330 = .ok (.ireturn, 1) := by decide +kernel
set_option maxRecDepth 20000 in
theorem ggL_areBarnsSo_X9_reel : GoodIn wsL_areBarnsSo wsX9_reel := goodIn_r _ [5, 6, 7, 8, 9, 10, 11, 12, 13, 14, 15, 16, 17, 18, 19, 20, 21, 22, 23, 24, 25, 26, 27, 28, 29, 30, 31, 32, 33, 34, 35, 36, 37, 38, 39, 40, 41, 42, 43, 44, 45, 46, 47, 48, 49, 50, 51, 52, 193, 194, 195, 196, 197, 198, 199, 200, 201, 202, 203, 204, 205, 206, 207, 208, 209, 210, 211, 212, 213, 214, 215] (by decide +kernel) (by decide +kernel)
set_option maxRecDepth 20000 in
theorem gL_areBarnsSo_X9_reel : GoodIn wsL_areBarnsSo (wsV RL 50 RX9 yX9_reel wsX9_reel) := goodIn_app (goodIn_of _ (by decide +kernel)) ggL_areBarnsSo_X9_reel
set_option maxRecDepth 20000 in
theorem ggL_areBarnsSo_X9_generator : GoodIn wsL_areBarnsSo wsX9_generator := goodIn_r _ [56, 6, 57, 58, 59, 10, 60, 13, 61, 14, 62, 4, 63, 64, 65, 66, 67, 68, 69, 25, 26, 27, 28, 70, 71, 72, 73, 74, 193, 194, 195, 196, 197, 198, 199, 200, 201, 202, 203, 204, 205, 206, 207, 208, 209, 210, 216, 217] (by decide +kernel) (by decide +kernel)
set_option maxRecDepth 20000 in
theorem gL_areBarnsSo_X9_generator : GoodIn wsL_areBarnsSo (wsV RL 46 RX9 yX9_generator wsX9_generator) := goodIn_app (goodIn_of _ (by decide +kernel)) ggL_areBarnsSo_X9_generator
set_option maxRecDepth 20000 in
theorem ggL_areBarnsSo_X9_barn : GoodIn wsL_areBarnsSo wsX9_barn := goodIn_r _ [78, 6, 79, 80, 81, 10, 82, 13, 12, 83, 14, 84, 4, 85, 86, 87, 88, 18, 89, 20, 90, 91, 92, 93, 33, 94, 95, 96, 97, 98, 99, 100, 101, 102, 103, 104, 105, 48, 106, 107, 108, 109, 38, 110, 111, 112, 113, 114, 115, 61, 116, 117, 118, 119, 120, 121, 122, 123, 124, 125, 67, 126, 69, 127, 128, 129, 130, 74, 131, 132, 133, 134, 135, 136, 137, 138, 139, 193, 194, 195, 196, 197, 198, 199, 200, 201, 202, 203, 204, 205, 206, 207, 208, 209, 210, 211, 212, 213, 214, 215, 218, 219, 220, 216, 217] (by decide +kernel) (by decide +kernel)
set_option maxRecDepth 20000 in
theorem gL_areBarnsSo_X9_barn : GoodIn wsL_areBarnsSo (wsV RL 54 RX9 yX9_barn wsX9_barn) := goodIn_app (goodIn_of _ (by decide +kernel)) ggL_areBarnsSo_X9_barn
set_option maxRecDepth 20000 in
theorem ggL_areBarnsSo_X9_ifPrice : GoodIn wsL_areBarnsSo wsX9_ifPrice := goodIn_r _ [143, 144, 6, 145, 146, 84, 4, 85, 147, 148, 149, 150, 95, 96, 10, 97, 12, 98, 99, 100, 101, 86, 87, 88, 18, 89, 20, 102, 103, 104, 105, 48, 106, 107, 108, 109, 38, 110, 193, 194, 195, 196, 197, 198, 199, 200, 201, 202, 203, 204, 205, 206, 207, 208, 209, 210, 211, 212, 213, 214, 215] (by decide +kernel) (by decide +kernel)
set_option maxRecDepth 20000 in
theorem gL_areBarnsSo_X9_ifPrice : GoodIn wsL_areBarnsSo (wsV RL 57 RX9 yX9_ifPrice wsX9_ifPrice) := goodIn_app (goodIn_of _ (by decide +kernel)) ggL_areBarnsSo_X9_ifPrice
set_option maxRecDepth 20000 in
theorem ggL_areBarnsSo_X9_count : GoodIn wsL_areBarnsSo wsX9_count := goodIn_r _ [154, 155, 156, 6, 157, 158, 159, 160, 161, 162, 163, 164, 165, 166, 167, 168, 169, 170, 171, 10, 172, 115, 173, 12, 174, 175, 176, 177, 178, 179, 61, 86, 87, 88, 18, 89, 20, 123, 124, 125, 67, 126, 69, 180, 181, 182, 183, 184, 185, 186, 187, 188, 189, 190, 191, 192, 193, 194, 195, 196, 197, 198, 199, 200, 201, 202, 221, 222, 223, 224, 225, 203, 204, 205, 206, 207, 208, 209, 210, 211, 212, 213, 214, 215, 216, 217, 226, 227, 228, 229, 230, 231, 232] (by decide +kernel) (by decide +kernel)
set_option maxRecDepth 20000 in
theorem gL_areBarnsSo_X9_count : GoodIn wsL_areBarnsSo (wsV RL 8 RX9 yX9_count wsX9_count) := goodIn_app (goodIn_of _ (by decide +kernel)) ggL_areBarnsSo_X9_count
theorem dL_areBarnsSo_0 : decode cL_areBarnsSo 0 = .ok (.iconst 0, 1) := by decide +kernel
theorem dL_areBarnsSo_1 : decode cL_areBarnsSo 1 = .ok (.istore_n 1, 1) := by decide +kernel
theorem dL_areBarnsSo_2 : decode cL_areBarnsSo 2 = .ok (.iconst 0, 1) := by decide +kernel
theorem dL_areBarnsSo_3 : decode cL_areBarnsSo 3 = .ok (.istore_n 2, 1) := by decide +kernel
theorem dL_areBarnsSo_4 : decode cL_areBarnsSo 4 = .ok (.iconst 1, 1) := by decide +kernel
theorem dL_areBarnsSo_5 : decode cL_areBarnsSo 5 = .ok (.istore_n 3, 1) := by decide +kernel
theorem dL_areBarnsSo_6 : decode cL_areBarnsSo 6 = .ok (.iconst 0, 1) := by decide +kernel
theorem dL_areBarnsSo_7 : decode cL_areBarnsSo 7 = .ok (.istore 4, 2) := by decide +kernel
theorem dL_areBarnsSo_9 : decode cL_areBarnsSo 9 = .ok (.iload 4, 2) := by decide +kernel
theorem dL_areBarnsSo_11 : decode cL_areBarnsSo 11 = .ok (.iconst 5, 1) := by decide +kernel
theorem dL_areBarnsSo_12 : decode cL_areBarnsSo 12 = .ok (.if_icmp .ge 390, 3) := by decide +kernel
theorem dL_areBarnsSo_15 : decode cL_areBarnsSo 15 = .ok (.iconst 0, 1) := by decide +kernel
theorem dL_areBarnsSo_16 : decode cL_areBarnsSo 16 = .ok (.istore 5, 2) := by decide +kernel
theorem dL_areBarnsSo_18 : decode cL_areBarnsSo 18 = .ok (.iconst 0, 1) := by decide +kernel
theorem dL_areBarnsSo_19 : decode cL_areBarnsSo 19 = .ok (.istore 6, 2) := by decide +kernel
theorem dL_areBarnsSo_21 : decode cL_areBarnsSo 21 = .ok (.iconst 0, 1) := by decide +kernel
theorem dL_areBarnsSo_22 : decode cL_areBarnsSo 22 = .ok (.istore 7, 2) := by decide +kernel
theorem dL_areBarnsSo_24 : decode cL_areBarnsSo 24 = .ok (.iconst 0, 1) := by decide +kernel
theorem dL_areBarnsSo_25 : decode cL_areBarnsSo 25 = .ok (.istore 8, 2) := by decide +kernel
theorem dL_areBarnsSo_27 : decode cL_areBarnsSo 27 = .ok (.iconst 0, 1) := by decide +kernel
theorem dL_areBarnsSo_28 : decode cL_areBarnsSo 28 = .ok (.istore 9, 2) := by decide +kernel
theorem dL_areBarnsSo_30 : decode cL_areBarnsSo 30 = .ok (.iconst 0, 1) := by decide +kernel
theorem dL_areBarnsSo_31 : decode cL_areBarnsSo 31 = .ok (.istore 10, 2) := by decide +kernel
theorem dL_areBarnsSo_33 : decode cL_areBarnsSo 33 = .ok (.iconst 0, 1) := by decide +kernel
theorem dL_areBarnsSo_34 : decode cL_areBarnsSo 34 = .ok (.istore 11, 2) := by decide +kernel
theorem dL_areBarnsSo_36 : decode cL_areBarnsSo 36 = .ok (.iload 11, 2) := by decide +kernel
theorem dL_areBarnsSo_38 : decode cL_areBarnsSo 38 = .ok (.bipush 10, 2) := by decide +kernel
theorem dL_areBarnsSo_40 : decode cL_areBarnsSo 40 = .ok (.if_icmp .ge 87, 3) := by decide +kernel
theorem dL_areBarnsSo_43 : decode cL_areBarnsSo 43 = .ok (.aload_n 0, 1) := by decide +kernel
theorem dL_areBarnsSo_44 : decode cL_areBarnsSo 44 = .ok (.iload 11, 2) := by decide +kernel
theorem dL_areBarnsSo_46 : decode cL_areBarnsSo 46 = .ok (.iconst 0, 1) := by decide +kernel
theorem dL_areBarnsSo_47 : decode cL_areBarnsSo 47 = .ok (.invokevirtual 50, 3) := by decide +kernel
theorem dL_areBarnsSo_50 : decode cL_areBarnsSo 50 = .ok (.iload 4, 2) := by decide +kernel
theorem dL_areBarnsSo_52 : decode cL_areBarnsSo 52 = .ok (.if_icmp .ne 69, 3) := by decide +kernel
theorem dL_areBarnsSo_55 : decode cL_areBarnsSo 55 = .ok (.iinc 5 1, 3) := by decide +kernel
theorem dL_areBarnsSo_58 : decode cL_areBarnsSo 58 = .ok (.iload 6, 2) := by decide +kernel
theorem dL_areBarnsSo_60 : decode cL_areBarnsSo 60 = .ok (.aload_n 0, 1) := by decide +kernel
theorem dL_areBarnsSo_61 : decode cL_areBarnsSo 61 = .ok (.iload 11, 2) := by decide +kernel
theorem dL_areBarnsSo_63 : decode cL_areBarnsSo 63 = .ok (.iconst 1, 1) := by decide +kernel
theorem dL_areBarnsSo_64 : decode cL_areBarnsSo 64 = .ok (.invokevirtual 50, 3) := by decide +kernel
theorem dL_areBarnsSo_67 : decode cL_areBarnsSo 67 = .ok (.iadd, 1) := by decide +kernel
theorem dL_areBarnsSo_68 : decode cL_areBarnsSo 68 = .ok (.istore 6, 2) := by decide +kernel
theorem dL_areBarnsSo_70 : decode cL_areBarnsSo 70 = .ok (.iload 7, 2) := by decide +kernel
theorem dL_areBarnsSo_72 : decode cL_areBarnsSo 72 = .ok (.aload_n 0, 1) := by decide +kernel
theorem dL_areBarnsSo_73 : decode cL_areBarnsSo 73 = .ok (.iload 11, 2) := by decide +kernel
theorem dL_areBarnsSo_75 : decode cL_areBarnsSo 75 = .ok (.iconst 4, 1) := by decide +kernel
theorem dL_areBarnsSo_76 : decode cL_areBarnsSo 76 = .ok (.invokevirtual 50, 3) := by decide +kernel
theorem dL_areBarnsSo_79 : decode cL_areBarnsSo 79 = .ok (.iload 4, 2) := by decide +kernel
theorem dL_areBarnsSo_81 : decode cL_areBarnsSo 81 = .ok (.ishr, 1) := by decide +kernel
theorem dL_areBarnsSo_82 : decode cL_areBarnsSo 82 = .ok (.iconst 1, 1) := by decide +kernel
theorem dL_areBarnsSo_83 : decode cL_areBarnsSo 83 = .ok (.iand, 1) := by decide +kernel
theorem dL_areBarnsSo_84 : decode cL_areBarnsSo 84 = .ok (.ifCond .ne 7, 3) := by decide +kernel
theorem dL_areBarnsSo_87 : decode cL_areBarnsSo 87 = .ok (.iconst 1, 1) := by decide +kernel
theorem dL_areBarnsSo_88 : decode cL_areBarnsSo 88 = .ok (.goto 4, 3) := by decide +kernel
theorem dL_areBarnsSo_91 : decode cL_areBarnsSo 91 = .ok (.iconst 0, 1) := by decide +kernel
theorem dL_areBarnsSo_92 : decode cL_areBarnsSo 92 = .ok (.iadd, 1) := by decide +kernel
theorem dL_areBarnsSo_93 : decode cL_areBarnsSo 93 = .ok (.istore 7, 2) := by decide +kernel
theorem dL_areBarnsSo_95 : decode cL_areBarnsSo 95 = .ok (.aload_n 0, 1) := by decide +kernel
theorem dL_areBarnsSo_96 : decode cL_areBarnsSo 96 = .ok (.iload 11, 2) := by decide +kernel
theorem dL_areBarnsSo_98 : decode cL_areBarnsSo 98 = .ok (.iconst 2, 1) := by decide +kernel
theorem dL_areBarnsSo_99 : decode cL_areBarnsSo 99 = .ok (.invokevirtual 50, 3) := by decide +kernel
theorem dL_areBarnsSo_102 : decode cL_areBarnsSo 102 = .ok (.iload 8, 2) := by decide +kernel
theorem dL_areBarnsSo_104 : decode cL_areBarnsSo 104 = .ok (.if_icmp .le 13, 3) := by decide +kernel
theorem dL_areBarnsSo_107 : decode cL_areBarnsSo 107 = .ok (.aload_n 0, 1) := by decide +kernel
theorem dL_areBarnsSo_108 : decode cL_areBarnsSo 108 = .ok (.iload 11, 2) := by decide +kernel
theorem dL_areBarnsSo_110 : decode cL_areBarnsSo 110 = .ok (.iconst 2, 1) := by decide +kernel
theorem dL_areBarnsSo_111 : decode cL_areBarnsSo 111 = .ok (.invokevirtual 50, 3) := by decide +kernel
theorem dL_areBarnsSo_114 : decode cL_areBarnsSo 114 = .ok (.goto 5, 3) := by decide +kernel
theorem dL_areBarnsSo_117 : decode cL_areBarnsSo 117 = .ok (.iload 8, 2) := by decide +kernel
theorem dL_areBarnsSo_119 : decode cL_areBarnsSo 119 = .ok (.istore 8, 2) := by decide +kernel
theorem dL_areBarnsSo_121 : decode cL_areBarnsSo 121 = .ok (.iinc 11 1, 3) := by decide +kernel
theorem dL_areBarnsSo_124 : decode cL_areBarnsSo 124 = .ok (.goto (-88), 3) := by decide +kernel
theorem dL_areBarnsSo_127 : decode cL_areBarnsSo 127 = .ok (.iconst 0, 1) := by decide +kernel
theorem dL_areBarnsSo_128 : decode cL_areBarnsSo 128 = .ok (.istore 11, 2) := by decide +kernel
theorem dL_areBarnsSo_130 : decode cL_areBarnsSo 130 = .ok (.iload 11, 2) := by decide +kernel
theorem dL_areBarnsSo_132 : decode cL_areBarnsSo 132 = .ok (.iconst 2, 1) := by decide +kernel
theorem dL_areBarnsSo_133 : decode cL_areBarnsSo 133 = .ok (.if_icmp .ge 69, 3) := by decide +kernel
theorem dL_areBarnsSo_136 : decode cL_areBarnsSo 136 = .ok (.iload 9, 2) := by decide +kernel
theorem dL_areBarnsSo_138 : decode cL_areBarnsSo 138 = .ok (.ifCond .ne 15, 3) := by decide +kernel
theorem dL_areBarnsSo_141 : decode cL_areBarnsSo 141 = .ok (.aload_n 0, 1) := by decide +kernel
theorem dL_areBarnsSo_142 : decode cL_areBarnsSo 142 = .ok (.iload 11, 2) := by decide +kernel
theorem dL_areBarnsSo_144 : decode cL_areBarnsSo 144 = .ok (.iconst 0, 1) := by decide +kernel
theorem dL_areBarnsSo_145 : decode cL_areBarnsSo 145 = .ok (.invokevirtual 46, 3) := by decide +kernel
theorem dL_areBarnsSo_148 : decode cL_areBarnsSo 148 = .ok (.iload 4, 2) := by decide +kernel
theorem dL_areBarnsSo_150 : decode cL_areBarnsSo 150 = .ok (.if_icmp .ne 7, 3) := by decide +kernel
theorem dL_areBarnsSo_153 : decode cL_areBarnsSo 153 = .ok (.iconst 1, 1) := by decide +kernel
theorem dL_areBarnsSo_154 : decode cL_areBarnsSo 154 = .ok (.goto 4, 3) := by decide +kernel
theorem dL_areBarnsSo_157 : decode cL_areBarnsSo 157 = .ok (.iconst 0, 1) := by decide +kernel
theorem dL_areBarnsSo_158 : decode cL_areBarnsSo 158 = .ok (.istore 9, 2) := by decide +kernel
theorem dL_areBarnsSo_160 : decode cL_areBarnsSo 160 = .ok (.iload 10, 2) := by decide +kernel
theorem dL_areBarnsSo_162 : decode cL_areBarnsSo 162 = .ok (.ifCond .ne 27, 3) := by decide +kernel
theorem dL_areBarnsSo_165 : decode cL_areBarnsSo 165 = .ok (.aload_n 0, 1) := by decide +kernel
theorem dL_areBarnsSo_166 : decode cL_areBarnsSo 166 = .ok (.iload 11, 2) := by decide +kernel
theorem dL_areBarnsSo_168 : decode cL_areBarnsSo 168 = .ok (.iconst 0, 1) := by decide +kernel
theorem dL_areBarnsSo_169 : decode cL_areBarnsSo 169 = .ok (.invokevirtual 46, 3) := by decide +kernel
theorem dL_areBarnsSo_172 : decode cL_areBarnsSo 172 = .ok (.iload 4, 2) := by decide +kernel
theorem dL_areBarnsSo_174 : decode cL_areBarnsSo 174 = .ok (.if_icmp .ne 19, 3) := by decide +kernel
theorem dL_areBarnsSo_177 : decode cL_areBarnsSo 177 = .ok (.aload_n 0, 1) := by decide +kernel
theorem dL_areBarnsSo_178 : decode cL_areBarnsSo 178 = .ok (.iload 11, 2) := by decide +kernel
theorem dL_areBarnsSo_180 : decode cL_areBarnsSo 180 = .ok (.iconst 1, 1) := by decide +kernel
theorem dL_areBarnsSo_181 : decode cL_areBarnsSo 181 = .ok (.invokevirtual 46, 3) := by decide +kernel
theorem dL_areBarnsSo_184 : decode cL_areBarnsSo 184 = .ok (.iload 6, 2) := by decide +kernel
theorem dL_areBarnsSo_186 : decode cL_areBarnsSo 186 = .ok (.if_icmp .lt 7, 3) := by decide +kernel
theorem dL_areBarnsSo_189 : decode cL_areBarnsSo 189 = .ok (.iconst 1, 1) := by decide +kernel
theorem dL_areBarnsSo_190 : decode cL_areBarnsSo 190 = .ok (.goto 4, 3) := by decide +kernel
theorem dL_areBarnsSo_193 : decode cL_areBarnsSo 193 = .ok (.iconst 0, 1) := by decide +kernel
theorem dL_areBarnsSo_194 : decode cL_areBarnsSo 194 = .ok (.istore 10, 2) := by decide +kernel
theorem dL_areBarnsSo_196 : decode cL_areBarnsSo 196 = .ok (.iinc 11 1, 3) := by decide +kernel
theorem dL_areBarnsSo_199 : decode cL_areBarnsSo 199 = .ok (.goto (-69), 3) := by decide +kernel
theorem dL_areBarnsSo_202 : decode cL_areBarnsSo 202 = .ok (.iload 5, 2) := by decide +kernel
theorem dL_areBarnsSo_204 : decode cL_areBarnsSo 204 = .ok (.ifCond .ne 7, 3) := by decide +kernel
theorem dL_areBarnsSo_207 : decode cL_areBarnsSo 207 = .ok (.iconst 0, 1) := by decide +kernel
theorem dL_areBarnsSo_208 : decode cL_areBarnsSo 208 = .ok (.goto 22, 3) := by decide +kernel
theorem dL_areBarnsSo_211 : decode cL_areBarnsSo 211 = .ok (.aload_n 0, 1) := by decide +kernel
theorem dL_areBarnsSo_212 : decode cL_areBarnsSo 212 = .ok (.iload 4, 2) := by decide +kernel
theorem dL_areBarnsSo_214 : decode cL_areBarnsSo 214 = .ok (.iconst 1, 1) := by decide +kernel
theorem dL_areBarnsSo_215 : decode cL_areBarnsSo 215 = .ok (.invokevirtual 54, 3) := by decide +kernel
theorem dL_areBarnsSo_218 : decode cL_areBarnsSo 218 = .ok (.iload 7, 2) := by decide +kernel
theorem dL_areBarnsSo_220 : decode cL_areBarnsSo 220 = .ok (.imul, 1) := by decide +kernel
theorem dL_areBarnsSo_221 : decode cL_areBarnsSo 221 = .ok (.iload 5, 2) := by decide +kernel
theorem dL_areBarnsSo_223 : decode cL_areBarnsSo 223 = .ok (.idiv, 1) := by decide +kernel
theorem dL_areBarnsSo_224 : decode cL_areBarnsSo 224 = .ok (.iload 8, 2) := by decide +kernel
theorem dL_areBarnsSo_226 : decode cL_areBarnsSo 226 = .ok (.bipush 10, 2) := by decide +kernel
theorem dL_areBarnsSo_228 : decode cL_areBarnsSo 228 = .ok (.idiv, 1) := by decide +kernel
theorem dL_areBarnsSo_229 : decode cL_areBarnsSo 229 = .ok (.isub, 1) := by decide +kernel
theorem dL_areBarnsSo_230 : decode cL_areBarnsSo 230 = .ok (.istore 11, 2) := by decide +kernel
theorem dL_areBarnsSo_232 : decode cL_areBarnsSo 232 = .ok (.aload_n 0, 1) := by decide +kernel
theorem dL_areBarnsSo_233 : decode cL_areBarnsSo 233 = .ok (.iload 4, 2) := by decide +kernel
theorem dL_areBarnsSo_235 : decode cL_areBarnsSo 235 = .ok (.bipush 6, 2) := by decide +kernel
theorem dL_areBarnsSo_237 : decode cL_areBarnsSo 237 = .ok (.invokevirtual 54, 3) := by decide +kernel
theorem dL_areBarnsSo_240 : decode cL_areBarnsSo 240 = .ok (.istore 12, 2) := by decide +kernel
theorem dL_areBarnsSo_242 : decode cL_areBarnsSo 242 = .ok (.iload_n 1, 1) := by decide +kernel
theorem dL_areBarnsSo_243 : decode cL_areBarnsSo 243 = .ok (.aload_n 0, 1) := by decide +kernel
theorem dL_areBarnsSo_244 : decode cL_areBarnsSo 244 = .ok (.iload 4, 2) := by decide +kernel
theorem dL_areBarnsSo_246 : decode cL_areBarnsSo 246 = .ok (.bipush 8, 2) := by decide +kernel
theorem dL_areBarnsSo_248 : decode cL_areBarnsSo 248 = .ok (.invokevirtual 54, 3) := by decide +kernel
theorem dL_areBarnsSo_251 : decode cL_areBarnsSo 251 = .ok (.iadd, 1) := by decide +kernel
theorem dL_areBarnsSo_252 : decode cL_areBarnsSo 252 = .ok (.istore_n 1, 1) := by decide +kernel
theorem dL_areBarnsSo_253 : decode cL_areBarnsSo 253 = .ok (.iload_n 2, 1) := by decide +kernel
theorem dL_areBarnsSo_254 : decode cL_areBarnsSo 254 = .ok (.aload_n 0, 1) := by decide +kernel
theorem dL_areBarnsSo_255 : decode cL_areBarnsSo 255 = .ok (.iload 4, 2) := by decide +kernel
theorem dL_areBarnsSo_257 : decode cL_areBarnsSo 257 = .ok (.bipush 7, 2) := by decide +kernel
theorem dL_areBarnsSo_259 : decode cL_areBarnsSo 259 = .ok (.invokevirtual 54, 3) := by decide +kernel
theorem dL_areBarnsSo_262 : decode cL_areBarnsSo 262 = .ok (.iadd, 1) := by decide +kernel
theorem dL_areBarnsSo_263 : decode cL_areBarnsSo 263 = .ok (.istore_n 2, 1) := by decide +kernel
theorem dL_areBarnsSo_264 : decode cL_areBarnsSo 264 = .ok (.iload_n 3, 1) := by decide +kernel
theorem dL_areBarnsSo_265 : decode cL_areBarnsSo 265 = .ok (.ifCond .eq 129, 3) := by decide +kernel
theorem dL_areBarnsSo_268 : decode cL_areBarnsSo 268 = .ok (.aload_n 0, 1) := by decide +kernel
theorem dL_areBarnsSo_269 : decode cL_areBarnsSo 269 = .ok (.iload 4, 2) := by decide +kernel
theorem dL_areBarnsSo_271 : decode cL_areBarnsSo 271 = .ok (.iconst 3, 1) := by decide +kernel
theorem dL_areBarnsSo_272 : decode cL_areBarnsSo 272 = .ok (.invokevirtual 54, 3) := by decide +kernel
theorem dL_areBarnsSo_275 : decode cL_areBarnsSo 275 = .ok (.iload 5, 2) := by decide +kernel
theorem dL_areBarnsSo_277 : decode cL_areBarnsSo 277 = .ok (.if_icmp .ne 117, 3) := by decide +kernel
theorem dL_areBarnsSo_280 : decode cL_areBarnsSo 280 = .ok (.aload_n 0, 1) := by decide +kernel
theorem dL_areBarnsSo_281 : decode cL_areBarnsSo 281 = .ok (.iload 4, 2) := by decide +kernel
theorem dL_areBarnsSo_283 : decode cL_areBarnsSo 283 = .ok (.iconst 4, 1) := by decide +kernel
theorem dL_areBarnsSo_284 : decode cL_areBarnsSo 284 = .ok (.invokevirtual 54, 3) := by decide +kernel
theorem dL_areBarnsSo_287 : decode cL_areBarnsSo 287 = .ok (.iload 6, 2) := by decide +kernel
theorem dL_areBarnsSo_289 : decode cL_areBarnsSo 289 = .ok (.if_icmp .ne 105, 3) := by decide +kernel
theorem dL_areBarnsSo_292 : decode cL_areBarnsSo 292 = .ok (.aload_n 0, 1) := by decide +kernel
theorem dL_areBarnsSo_293 : decode cL_areBarnsSo 293 = .ok (.iload 4, 2) := by decide +kernel
theorem dL_areBarnsSo_295 : decode cL_areBarnsSo 295 = .ok (.iconst 5, 1) := by decide +kernel
theorem dL_areBarnsSo_296 : decode cL_areBarnsSo 296 = .ok (.invokevirtual 54, 3) := by decide +kernel
theorem dL_areBarnsSo_299 : decode cL_areBarnsSo 299 = .ok (.iload 11, 2) := by decide +kernel
theorem dL_areBarnsSo_301 : decode cL_areBarnsSo 301 = .ok (.ifCond .ge 7, 3) := by decide +kernel
theorem dL_areBarnsSo_304 : decode cL_areBarnsSo 304 = .ok (.iconst 0, 1) := by decide +kernel
theorem dL_areBarnsSo_305 : decode cL_areBarnsSo 305 = .ok (.goto 5, 3) := by decide +kernel
theorem dL_areBarnsSo_308 : decode cL_areBarnsSo 308 = .ok (.iload 11, 2) := by decide +kernel
theorem dL_areBarnsSo_310 : decode cL_areBarnsSo 310 = .ok (.if_icmp .ne 84, 3) := by decide +kernel
theorem dL_areBarnsSo_313 : decode cL_areBarnsSo 313 = .ok (.aload_n 0, 1) := by decide +kernel
theorem dL_areBarnsSo_314 : decode cL_areBarnsSo 314 = .ok (.iload 4, 2) := by decide +kernel
theorem dL_areBarnsSo_316 : decode cL_areBarnsSo 316 = .ok (.iconst 5, 1) := by decide +kernel
theorem dL_areBarnsSo_317 : decode cL_areBarnsSo 317 = .ok (.invokevirtual 54, 3) := by decide +kernel
theorem dL_areBarnsSo_320 : decode cL_areBarnsSo 320 = .ok (.aload_n 0, 1) := by decide +kernel
theorem dL_areBarnsSo_321 : decode cL_areBarnsSo 321 = .ok (.iload 4, 2) := by decide +kernel
theorem dL_areBarnsSo_323 : decode cL_areBarnsSo 323 = .ok (.iconst 1, 1) := by decide +kernel
theorem dL_areBarnsSo_324 : decode cL_areBarnsSo 324 = .ok (.invokevirtual 54, 3) := by decide +kernel
theorem dL_areBarnsSo_327 : decode cL_areBarnsSo 327 = .ok (.if_icmp .gt 67, 3) := by decide +kernel
theorem dL_areBarnsSo_330 : decode cL_areBarnsSo 330 = .ok (.aload_n 0, 1) := by decide +kernel
theorem dL_areBarnsSo_331 : decode cL_areBarnsSo 331 = .ok (.iload 4, 2) := by decide +kernel
theorem dL_areBarnsSo_333 : decode cL_areBarnsSo 333 = .ok (.bipush 7, 2) := by decide +kernel
theorem dL_areBarnsSo_335 : decode cL_areBarnsSo 335 = .ok (.invokevirtual 57, 3) := by decide +kernel
theorem dL_areBarnsSo_338 : decode cL_areBarnsSo 338 = .ok (.bipush 7, 2) := by decide +kernel
theorem dL_areBarnsSo_340 : decode cL_areBarnsSo 340 = .ok (.aload_n 0, 1) := by decide +kernel
theorem dL_areBarnsSo_341 : decode cL_areBarnsSo 341 = .ok (.iload 4, 2) := by decide +kernel
theorem dL_areBarnsSo_343 : decode cL_areBarnsSo 343 = .ok (.iconst 5, 1) := by decide +kernel
theorem dL_areBarnsSo_344 : decode cL_areBarnsSo 344 = .ok (.invokevirtual 54, 3) := by decide +kernel
theorem dL_areBarnsSo_347 : decode cL_areBarnsSo 347 = .ok (.imul, 1) := by decide +kernel
theorem dL_areBarnsSo_348 : decode cL_areBarnsSo 348 = .ok (.if_icmp .ne 46, 3) := by decide +kernel
theorem dL_areBarnsSo_351 : decode cL_areBarnsSo 351 = .ok (.iload 12, 2) := by decide +kernel
theorem dL_areBarnsSo_353 : decode cL_areBarnsSo 353 = .ok (.iconst 1, 1) := by decide +kernel
theorem dL_areBarnsSo_354 : decode cL_areBarnsSo 354 = .ok (.if_icmp .eq 36, 3) := by decide +kernel
theorem dL_areBarnsSo_357 : decode cL_areBarnsSo 357 = .ok (.iload 12, 2) := by decide +kernel
theorem dL_areBarnsSo_359 : decode cL_areBarnsSo 359 = .ok (.iload 5, 2) := by decide +kernel
theorem dL_areBarnsSo_361 : decode cL_areBarnsSo 361 = .ok (.ifCond .ne 7, 3) := by decide +kernel
theorem dL_areBarnsSo_364 : decode cL_areBarnsSo 364 = .ok (.iconst 2, 1) := by decide +kernel
theorem dL_areBarnsSo_365 : decode cL_areBarnsSo 365 = .ok (.goto 22, 3) := by decide +kernel
theorem dL_areBarnsSo_368 : decode cL_areBarnsSo 368 = .ok (.iload 9, 2) := by decide +kernel
theorem dL_areBarnsSo_370 : decode cL_areBarnsSo 370 = .ok (.ifCond .ne 7, 3) := by decide +kernel
theorem dL_areBarnsSo_373 : decode cL_areBarnsSo 373 = .ok (.iconst 3, 1) := by decide +kernel
theorem dL_areBarnsSo_374 : decode cL_areBarnsSo 374 = .ok (.goto 13, 3) := by decide +kernel
theorem dL_areBarnsSo_377 : decode cL_areBarnsSo 377 = .ok (.iload 10, 2) := by decide +kernel
theorem dL_areBarnsSo_379 : decode cL_areBarnsSo 379 = .ok (.ifCond .ne 7, 3) := by decide +kernel
theorem dL_areBarnsSo_382 : decode cL_areBarnsSo 382 = .ok (.iconst 4, 1) := by decide +kernel
theorem dL_areBarnsSo_383 : decode cL_areBarnsSo 383 = .ok (.goto 4, 3) := by decide +kernel
theorem dL_areBarnsSo_386 : decode cL_areBarnsSo 386 = .ok (.iconst 0, 1) := by decide +kernel
theorem dL_areBarnsSo_387 : decode cL_areBarnsSo 387 = .ok (.if_icmp .ne 7, 3) := by decide +kernel
theorem dL_areBarnsSo_390 : decode cL_areBarnsSo 390 = .ok (.iconst 1, 1) := by decide +kernel
theorem dL_areBarnsSo_391 : decode cL_areBarnsSo 391 = .ok (.goto 4, 3) := by decide +kernel
theorem dL_areBarnsSo_394 : decode cL_areBarnsSo 394 = .ok (.iconst 0, 1) := by decide +kernel
theorem dL_areBarnsSo_395 : decode cL_areBarnsSo 395 = .ok (.istore_n 3, 1) := by decide +kernel
theorem dL_areBarnsSo_396 : decode cL_areBarnsSo 396 = .ok (.iinc 4 1, 3) := by decide +kernel
theorem dL_areBarnsSo_399 : decode cL_areBarnsSo 399 = .ok (.goto (-390), 3) := by decide +kernel
theorem dL_areBarnsSo_402 : decode cL_areBarnsSo 402 = .ok (.iload_n 3, 1) := by decide +kernel
theorem dL_areBarnsSo_403 : decode cL_areBarnsSo 403 = .ok (.ifCond .eq 56, 3) := by decide +kernel
theorem dL_areBarnsSo_406 : decode cL_areBarnsSo 406 = .ok (.iload_n 1, 1) := by decide +kernel
theorem dL_areBarnsSo_407 : decode cL_areBarnsSo 407 = .ok (.aload_n 0, 1) := by decide +kernel
theorem dL_areBarnsSo_408 : decode cL_areBarnsSo 408 = .ok (.iconst 4, 1) := by decide +kernel
theorem dL_areBarnsSo_409 : decode cL_areBarnsSo 409 = .ok (.invokevirtual 8, 3) := by decide +kernel
theorem dL_areBarnsSo_412 : decode cL_areBarnsSo 412 = .ok (.if_icmp .ne 47, 3) := by decide +kernel
theorem dL_areBarnsSo_415 : decode cL_areBarnsSo 415 = .ok (.iload_n 2, 1) := by decide +kernel
theorem dL_areBarnsSo_416 : decode cL_areBarnsSo 416 = .ok (.aload_n 0, 1) := by decide +kernel
theorem dL_areBarnsSo_417 : decode cL_areBarnsSo 417 = .ok (.bipush 9, 2) := by decide +kernel
theorem dL_areBarnsSo_419 : decode cL_areBarnsSo 419 = .ok (.invokevirtual 8, 3) := by decide +kernel
theorem dL_areBarnsSo_422 : decode cL_areBarnsSo 422 = .ok (.if_icmp .ne 37, 3) := by decide +kernel
theorem dL_areBarnsSo_425 : decode cL_areBarnsSo 425 = .ok (.aload_n 0, 1) := by decide +kernel
theorem dL_areBarnsSo_426 : decode cL_areBarnsSo 426 = .ok (.bipush 8, 2) := by decide +kernel
theorem dL_areBarnsSo_428 : decode cL_areBarnsSo 428 = .ok (.invokevirtual 8, 3) := by decide +kernel
theorem dL_areBarnsSo_431 : decode cL_areBarnsSo 431 = .ok (.iload_n 1, 1) := by decide +kernel
theorem dL_areBarnsSo_432 : decode cL_areBarnsSo 432 = .ok (.aload_n 0, 1) := by decide +kernel
theorem dL_areBarnsSo_433 : decode cL_areBarnsSo 433 = .ok (.iconst 5, 1) := by decide +kernel
theorem dL_areBarnsSo_434 : decode cL_areBarnsSo 434 = .ok (.invokevirtual 8, 3) := by decide +kernel
theorem dL_areBarnsSo_437 : decode cL_areBarnsSo 437 = .ok (.isub, 1) := by decide +kernel
theorem dL_areBarnsSo_438 : decode cL_areBarnsSo 438 = .ok (.aload_n 0, 1) := by decide +kernel
theorem dL_areBarnsSo_439 : decode cL_areBarnsSo 439 = .ok (.bipush 6, 2) := by decide +kernel
theorem dL_areBarnsSo_441 : decode cL_areBarnsSo 441 = .ok (.invokevirtual 8, 3) := by decide +kernel
theorem dL_areBarnsSo_444 : decode cL_areBarnsSo 444 = .ok (.isub, 1) := by decide +kernel
theorem dL_areBarnsSo_445 : decode cL_areBarnsSo 445 = .ok (.aload_n 0, 1) := by decide +kernel
theorem dL_areBarnsSo_446 : decode cL_areBarnsSo 446 = .ok (.bipush 7, 2) := by decide +kernel
theorem dL_areBarnsSo_448 : decode cL_areBarnsSo 448 = .ok (.invokevirtual 8, 3) := by decide +kernel
theorem dL_areBarnsSo_451 : decode cL_areBarnsSo 451 = .ok (.isub, 1) := by decide +kernel
theorem dL_areBarnsSo_452 : decode cL_areBarnsSo 452 = .ok (.if_icmp .ne 7, 3) := by decide +kernel
theorem dL_areBarnsSo_455 : decode cL_areBarnsSo 455 = .ok (.iconst 1, 1) := by decide +kernel
theorem dL_areBarnsSo_456 : decode cL_areBarnsSo 456 = .ok (.goto 4, 3) := by decide +kernel
theorem dL_areBarnsSo_459 : decode cL_areBarnsSo 459 = .ok (.iconst 0, 1) := by decide +kernel
theorem dL_areBarnsSo_460 : decode cL_areBarnsSo 460 = .ok (.ireturn, 1) := by decide +kernel
set_option maxRecDepth 20000 in
theorem ggL_isBestSo_X9_bestBarn : GoodIn wsL_isBestSo wsX9_bestBarn := goodIn_r _ [6, 7, 8, 9, 10, 11, 12, 13, 14, 15, 16, 17, 18, 19, 20, 21, 22, 23, 24, 25, 26, 27, 28, 29, 30, 31, 32, 33, 34, 35, 36, 37, 38, 39, 40, 41, 42, 43, 44, 45, 46, 47, 48, 49, 50, 51, 52, 53, 54, 55, 56, 57, 58, 59, 60, 61, 62, 63, 64, 65, 66, 67, 68, 69, 164, 165, 166, 167, 168, 169, 170, 171, 172, 173, 174, 175, 176, 177, 178, 179, 180, 181, 182, 183, 184, 185, 186, 187, 188, 189, 190, 191] (by decide +kernel) (by decide +kernel)
set_option maxRecDepth 20000 in
theorem gL_isBestSo_X9_bestBarn : GoodIn wsL_isBestSo (wsV RL 60 RX9 yX9_bestBarn wsX9_bestBarn) := goodIn_app (goodIn_of _ (by decide +kernel)) ggL_isBestSo_X9_bestBarn
set_option maxRecDepth 20000 in
theorem ggL_isBestSo_X9_barn : GoodIn wsL_isBestSo wsX9_barn := goodIn_r _ [73, 7, 74, 75, 76, 11, 77, 78, 20, 18, 79, 80, 5, 81, 29, 30, 31, 32, 33, 34, 41, 42, 43, 44, 45, 51, 52, 53, 54, 55, 56, 57, 58, 59, 60, 61, 62, 63, 64, 65, 66, 67, 68, 69, 14, 15, 16, 17, 19, 21, 22, 23, 24, 25, 26, 27, 28, 35, 36, 37, 38, 39, 40, 46, 47, 48, 49, 50, 82, 83, 84, 85, 86, 87, 88, 89, 90, 164, 165, 166, 167, 168, 169, 170, 171, 172, 173, 174, 175, 176, 177, 178, 179, 180, 181, 185, 186, 187, 188, 189, 182, 183, 184, 190, 191] (by decide +kernel) (by decide +kernel)
set_option maxRecDepth 20000 in
theorem gL_isBestSo_X9_barn : GoodIn wsL_isBestSo (wsV RL 54 RX9 yX9_barn wsX9_barn) := goodIn_app (goodIn_of _ (by decide +kernel)) ggL_isBestSo_X9_barn
set_option maxRecDepth 20000 in
theorem ggL_isBestSo_X9_ifPrice : GoodIn wsL_isBestSo wsX9_ifPrice := goodIn_r _ [94, 95, 7, 96, 97, 80, 5, 81, 98, 99, 100, 101, 52, 53, 11, 54, 20, 55, 56, 57, 58, 29, 30, 31, 32, 33, 34, 59, 60, 61, 62, 63, 64, 65, 66, 67, 68, 69, 164, 165, 166, 167, 168, 169, 170, 171, 172, 173, 174, 175, 176, 177, 178, 179, 180, 181, 185, 186, 187, 188, 189] (by decide +kernel) (by decide +kernel)
set_option maxRecDepth 20000 in
theorem gL_isBestSo_X9_ifPrice : GoodIn wsL_isBestSo (wsV RL 57 RX9 yX9_ifPrice wsX9_ifPrice) := goodIn_app (goodIn_of _ (by decide +kernel)) ggL_isBestSo_X9_ifPrice
set_option maxRecDepth 20000 in
theorem ggL_isBestSo_X9_showOf : GoodIn wsL_isBestSo wsX9_showOf := goodIn_r _ [105, 7, 106, 107, 108, 11, 109, 79, 110, 13, 111, 112, 113, 114, 115, 116, 117, 118, 119, 120, 121, 164, 165, 166, 167, 168, 169, 170, 171, 172, 173, 174, 175, 176, 177, 178, 179, 180, 181, 192, 193] (by decide +kernel) (by decide +kernel)
set_option maxRecDepth 20000 in
theorem gL_isBestSo_X9_showOf : GoodIn wsL_isBestSo (wsV RL 63 RX9 yX9_showOf wsX9_showOf) := goodIn_app (goodIn_of _ (by decide +kernel)) ggL_isBestSo_X9_showOf
set_option maxRecDepth 20000 in
theorem ggL_isBestSo_X9_count : GoodIn wsL_isBestSo wsX9_count := goodIn_r _ [125, 126, 127, 7, 128, 129, 130, 131, 132, 133, 134, 135, 136, 137, 138, 139, 140, 141, 142, 11, 143, 19, 144, 20, 145, 146, 147, 148, 149, 150, 21, 29, 30, 31, 32, 33, 34, 35, 36, 37, 38, 39, 40, 151, 152, 153, 154, 155, 156, 157, 158, 159, 160, 161, 162, 163, 164, 165, 166, 167, 168, 169, 170, 171, 172, 173, 194, 195, 196, 197, 198, 174, 175, 176, 177, 178, 179, 180, 181, 185, 186, 187, 188, 189, 190, 191, 199, 200, 201, 202, 203, 204, 205] (by decide +kernel) (by decide +kernel)
set_option maxRecDepth 20000 in
theorem gL_isBestSo_X9_count : GoodIn wsL_isBestSo (wsV RL 8 RX9 yX9_count wsX9_count) := goodIn_app (goodIn_of _ (by decide +kernel)) ggL_isBestSo_X9_count
theorem dL_isBestSo_0 : decode cL_isBestSo 0 = .ok (.aload_n 0, 1) := by decide +kernel
theorem dL_isBestSo_1 : decode cL_isBestSo 1 = .ok (.invokevirtual 60, 3) := by decide +kernel
theorem dL_isBestSo_4 : decode cL_isBestSo 4 = .ok (.istore_n 1, 1) := by decide +kernel
theorem dL_isBestSo_5 : decode cL_isBestSo 5 = .ok (.iconst 1, 1) := by decide +kernel
theorem dL_isBestSo_6 : decode cL_isBestSo 6 = .ok (.istore_n 2, 1) := by decide +kernel
theorem dL_isBestSo_7 : decode cL_isBestSo 7 = .ok (.iconst 0, 1) := by decide +kernel
theorem dL_isBestSo_8 : decode cL_isBestSo 8 = .ok (.istore_n 3, 1) := by decide +kernel
theorem dL_isBestSo_9 : decode cL_isBestSo 9 = .ok (.iconst 0, 1) := by decide +kernel
theorem dL_isBestSo_10 : decode cL_isBestSo 10 = .ok (.istore 4, 2) := by decide +kernel
theorem dL_isBestSo_12 : decode cL_isBestSo 12 = .ok (.iload 4, 2) := by decide +kernel
theorem dL_isBestSo_14 : decode cL_isBestSo 14 = .ok (.iconst 5, 1) := by decide +kernel
theorem dL_isBestSo_15 : decode cL_isBestSo 15 = .ok (.if_icmp .ge 99, 3) := by decide +kernel
theorem dL_isBestSo_18 : decode cL_isBestSo 18 = .ok (.aload_n 0, 1) := by decide +kernel
theorem dL_isBestSo_19 : decode cL_isBestSo 19 = .ok (.iload 4, 2) := by decide +kernel
theorem dL_isBestSo_21 : decode cL_isBestSo 21 = .ok (.bipush 6, 2) := by decide +kernel
theorem dL_isBestSo_23 : decode cL_isBestSo 23 = .ok (.invokevirtual 54, 3) := by decide +kernel
theorem dL_isBestSo_26 : decode cL_isBestSo 26 = .ok (.ifCond .ne 7, 3) := by decide +kernel
theorem dL_isBestSo_29 : decode cL_isBestSo 29 = .ok (.iconst 1, 1) := by decide +kernel
theorem dL_isBestSo_30 : decode cL_isBestSo 30 = .ok (.goto 4, 3) := by decide +kernel
theorem dL_isBestSo_33 : decode cL_isBestSo 33 = .ok (.iconst 0, 1) := by decide +kernel
theorem dL_isBestSo_34 : decode cL_isBestSo 34 = .ok (.istore 5, 2) := by decide +kernel
theorem dL_isBestSo_36 : decode cL_isBestSo 36 = .ok (.iload_n 3, 1) := by decide +kernel
theorem dL_isBestSo_37 : decode cL_isBestSo 37 = .ok (.ifCond .ne 8, 3) := by decide +kernel
theorem dL_isBestSo_40 : decode cL_isBestSo 40 = .ok (.iload 5, 2) := by decide +kernel
theorem dL_isBestSo_42 : decode cL_isBestSo 42 = .ok (.ifCond .eq 7, 3) := by decide +kernel
theorem dL_isBestSo_45 : decode cL_isBestSo 45 = .ok (.iconst 1, 1) := by decide +kernel
theorem dL_isBestSo_46 : decode cL_isBestSo 46 = .ok (.goto 4, 3) := by decide +kernel
theorem dL_isBestSo_49 : decode cL_isBestSo 49 = .ok (.iconst 0, 1) := by decide +kernel
theorem dL_isBestSo_50 : decode cL_isBestSo 50 = .ok (.istore_n 3, 1) := by decide +kernel
theorem dL_isBestSo_51 : decode cL_isBestSo 51 = .ok (.iload_n 2, 1) := by decide +kernel
theorem dL_isBestSo_52 : decode cL_isBestSo 52 = .ok (.ifCond .eq 54, 3) := by decide +kernel
theorem dL_isBestSo_55 : decode cL_isBestSo 55 = .ok (.iload 5, 2) := by decide +kernel
theorem dL_isBestSo_57 : decode cL_isBestSo 57 = .ok (.ifCond .eq 45, 3) := by decide +kernel
theorem dL_isBestSo_60 : decode cL_isBestSo 60 = .ok (.iload_n 1, 1) := by decide +kernel
theorem dL_isBestSo_61 : decode cL_isBestSo 61 = .ok (.ifCond .lt 45, 3) := by decide +kernel
theorem dL_isBestSo_64 : decode cL_isBestSo 64 = .ok (.aload_n 0, 1) := by decide +kernel
theorem dL_isBestSo_65 : decode cL_isBestSo 65 = .ok (.iload_n 1, 1) := by decide +kernel
theorem dL_isBestSo_66 : decode cL_isBestSo 66 = .ok (.iconst 4, 1) := by decide +kernel
theorem dL_isBestSo_67 : decode cL_isBestSo 67 = .ok (.invokevirtual 57, 3) := by decide +kernel
theorem dL_isBestSo_70 : decode cL_isBestSo 70 = .ok (.aload_n 0, 1) := by decide +kernel
theorem dL_isBestSo_71 : decode cL_isBestSo 71 = .ok (.iload 4, 2) := by decide +kernel
theorem dL_isBestSo_73 : decode cL_isBestSo 73 = .ok (.iconst 4, 1) := by decide +kernel
theorem dL_isBestSo_74 : decode cL_isBestSo 74 = .ok (.invokevirtual 57, 3) := by decide +kernel
theorem dL_isBestSo_77 : decode cL_isBestSo 77 = .ok (.if_icmp .gt 25, 3) := by decide +kernel
theorem dL_isBestSo_80 : decode cL_isBestSo 80 = .ok (.aload_n 0, 1) := by decide +kernel
theorem dL_isBestSo_81 : decode cL_isBestSo 81 = .ok (.iload_n 1, 1) := by decide +kernel
theorem dL_isBestSo_82 : decode cL_isBestSo 82 = .ok (.iconst 4, 1) := by decide +kernel
theorem dL_isBestSo_83 : decode cL_isBestSo 83 = .ok (.invokevirtual 57, 3) := by decide +kernel
theorem dL_isBestSo_86 : decode cL_isBestSo 86 = .ok (.aload_n 0, 1) := by decide +kernel
theorem dL_isBestSo_87 : decode cL_isBestSo 87 = .ok (.iload 4, 2) := by decide +kernel
theorem dL_isBestSo_89 : decode cL_isBestSo 89 = .ok (.iconst 4, 1) := by decide +kernel
theorem dL_isBestSo_90 : decode cL_isBestSo 90 = .ok (.invokevirtual 57, 3) := by decide +kernel
theorem dL_isBestSo_93 : decode cL_isBestSo 93 = .ok (.if_icmp .ne 13, 3) := by decide +kernel
theorem dL_isBestSo_96 : decode cL_isBestSo 96 = .ok (.iload_n 1, 1) := by decide +kernel
theorem dL_isBestSo_97 : decode cL_isBestSo 97 = .ok (.iload 4, 2) := by decide +kernel
theorem dL_isBestSo_99 : decode cL_isBestSo 99 = .ok (.if_icmp .gt 7, 3) := by decide +kernel
theorem dL_isBestSo_102 : decode cL_isBestSo 102 = .ok (.iconst 1, 1) := by decide +kernel
theorem dL_isBestSo_103 : decode cL_isBestSo 103 = .ok (.goto 4, 3) := by decide +kernel
theorem dL_isBestSo_106 : decode cL_isBestSo 106 = .ok (.iconst 0, 1) := by decide +kernel
theorem dL_isBestSo_107 : decode cL_isBestSo 107 = .ok (.istore_n 2, 1) := by decide +kernel
theorem dL_isBestSo_108 : decode cL_isBestSo 108 = .ok (.iinc 4 1, 3) := by decide +kernel
theorem dL_isBestSo_111 : decode cL_isBestSo 111 = .ok (.goto (-99), 3) := by decide +kernel
theorem dL_isBestSo_114 : decode cL_isBestSo 114 = .ok (.iconst 0, 1) := by decide +kernel
theorem dL_isBestSo_115 : decode cL_isBestSo 115 = .ok (.istore 4, 2) := by decide +kernel
theorem dL_isBestSo_117 : decode cL_isBestSo 117 = .ok (.iload 4, 2) := by decide +kernel
theorem dL_isBestSo_119 : decode cL_isBestSo 119 = .ok (.bipush 6, 2) := by decide +kernel
theorem dL_isBestSo_121 : decode cL_isBestSo 121 = .ok (.if_icmp .ge 88, 3) := by decide +kernel
theorem dL_isBestSo_124 : decode cL_isBestSo 124 = .ok (.aload_n 0, 1) := by decide +kernel
theorem dL_isBestSo_125 : decode cL_isBestSo 125 = .ok (.iload 4, 2) := by decide +kernel
theorem dL_isBestSo_127 : decode cL_isBestSo 127 = .ok (.iconst 0, 1) := by decide +kernel
theorem dL_isBestSo_128 : decode cL_isBestSo 128 = .ok (.invokevirtual 63, 3) := by decide +kernel
theorem dL_isBestSo_131 : decode cL_isBestSo 131 = .ok (.istore 5, 2) := by decide +kernel
theorem dL_isBestSo_133 : decode cL_isBestSo 133 = .ok (.iload_n 2, 1) := by decide +kernel
theorem dL_isBestSo_134 : decode cL_isBestSo 134 = .ok (.ifCond .eq 67, 3) := by decide +kernel
theorem dL_isBestSo_137 : decode cL_isBestSo 137 = .ok (.iload 5, 2) := by decide +kernel
theorem dL_isBestSo_139 : decode cL_isBestSo 139 = .ok (.ldc 49, 2) := by decide +kernel
theorem dL_isBestSo_141 : decode cL_isBestSo 141 = .ok (.if_icmp .ne 7, 3) := by decide +kernel
theorem dL_isBestSo_144 : decode cL_isBestSo 144 = .ok (.iconst 1, 1) := by decide +kernel
theorem dL_isBestSo_145 : decode cL_isBestSo 145 = .ok (.goto 4, 3) := by decide +kernel
theorem dL_isBestSo_148 : decode cL_isBestSo 148 = .ok (.iconst 0, 1) := by decide +kernel
theorem dL_isBestSo_149 : decode cL_isBestSo 149 = .ok (.iload 4, 2) := by decide +kernel
theorem dL_isBestSo_151 : decode cL_isBestSo 151 = .ok (.aload_n 0, 1) := by decide +kernel
theorem dL_isBestSo_152 : decode cL_isBestSo 152 = .ok (.bipush 9, 2) := by decide +kernel
theorem dL_isBestSo_154 : decode cL_isBestSo 154 = .ok (.invokevirtual 8, 3) := by decide +kernel
theorem dL_isBestSo_157 : decode cL_isBestSo 157 = .ok (.if_icmp .lt 7, 3) := by decide +kernel
theorem dL_isBestSo_160 : decode cL_isBestSo 160 = .ok (.iconst 1, 1) := by decide +kernel
theorem dL_isBestSo_161 : decode cL_isBestSo 161 = .ok (.goto 4, 3) := by decide +kernel
theorem dL_isBestSo_164 : decode cL_isBestSo 164 = .ok (.iconst 0, 1) := by decide +kernel
theorem dL_isBestSo_165 : decode cL_isBestSo 165 = .ok (.if_icmp .ne 36, 3) := by decide +kernel
theorem dL_isBestSo_168 : decode cL_isBestSo 168 = .ok (.iload 4, 2) := by decide +kernel
theorem dL_isBestSo_170 : decode cL_isBestSo 170 = .ok (.ifCond .eq 17, 3) := by decide +kernel
theorem dL_isBestSo_173 : decode cL_isBestSo 173 = .ok (.iload 5, 2) := by decide +kernel
theorem dL_isBestSo_175 : decode cL_isBestSo 175 = .ok (.aload_n 0, 1) := by decide +kernel
theorem dL_isBestSo_176 : decode cL_isBestSo 176 = .ok (.iload 4, 2) := by decide +kernel
theorem dL_isBestSo_178 : decode cL_isBestSo 178 = .ok (.iconst 1, 1) := by decide +kernel
theorem dL_isBestSo_179 : decode cL_isBestSo 179 = .ok (.isub, 1) := by decide +kernel
theorem dL_isBestSo_180 : decode cL_isBestSo 180 = .ok (.iconst 0, 1) := by decide +kernel
theorem dL_isBestSo_181 : decode cL_isBestSo 181 = .ok (.invokevirtual 63, 3) := by decide +kernel
theorem dL_isBestSo_184 : decode cL_isBestSo 184 = .ok (.if_icmp .gt 17, 3) := by decide +kernel
theorem dL_isBestSo_187 : decode cL_isBestSo 187 = .ok (.iload 5, 2) := by decide +kernel
theorem dL_isBestSo_189 : decode cL_isBestSo 189 = .ok (.aload_n 0, 1) := by decide +kernel
theorem dL_isBestSo_190 : decode cL_isBestSo 190 = .ok (.iconst 0, 1) := by decide +kernel
theorem dL_isBestSo_191 : decode cL_isBestSo 191 = .ok (.invokevirtual 8, 3) := by decide +kernel
theorem dL_isBestSo_194 : decode cL_isBestSo 194 = .ok (.if_icmp .gt 7, 3) := by decide +kernel
theorem dL_isBestSo_197 : decode cL_isBestSo 197 = .ok (.iconst 1, 1) := by decide +kernel
theorem dL_isBestSo_198 : decode cL_isBestSo 198 = .ok (.goto 4, 3) := by decide +kernel
theorem dL_isBestSo_201 : decode cL_isBestSo 201 = .ok (.iconst 0, 1) := by decide +kernel
theorem dL_isBestSo_202 : decode cL_isBestSo 202 = .ok (.istore_n 2, 1) := by decide +kernel
theorem dL_isBestSo_203 : decode cL_isBestSo 203 = .ok (.iinc 4 1, 3) := by decide +kernel
theorem dL_isBestSo_206 : decode cL_isBestSo 206 = .ok (.goto (-89), 3) := by decide +kernel
theorem dL_isBestSo_209 : decode cL_isBestSo 209 = .ok (.iload_n 2, 1) := by decide +kernel
theorem dL_isBestSo_210 : decode cL_isBestSo 210 = .ok (.ifCond .eq 42, 3) := by decide +kernel
theorem dL_isBestSo_213 : decode cL_isBestSo 213 = .ok (.iload_n 1, 1) := by decide +kernel
theorem dL_isBestSo_214 : decode cL_isBestSo 214 = .ok (.ldc 49, 2) := by decide +kernel
theorem dL_isBestSo_216 : decode cL_isBestSo 216 = .ok (.if_icmp .ne 7, 3) := by decide +kernel
theorem dL_isBestSo_219 : decode cL_isBestSo 219 = .ok (.iconst 1, 1) := by decide +kernel
theorem dL_isBestSo_220 : decode cL_isBestSo 220 = .ok (.goto 4, 3) := by decide +kernel
theorem dL_isBestSo_223 : decode cL_isBestSo 223 = .ok (.iconst 0, 1) := by decide +kernel
theorem dL_isBestSo_224 : decode cL_isBestSo 224 = .ok (.iload_n 3, 1) := by decide +kernel
theorem dL_isBestSo_225 : decode cL_isBestSo 225 = .ok (.ifCond .ne 7, 3) := by decide +kernel
theorem dL_isBestSo_228 : decode cL_isBestSo 228 = .ok (.iconst 1, 1) := by decide +kernel
theorem dL_isBestSo_229 : decode cL_isBestSo 229 = .ok (.goto 4, 3) := by decide +kernel
theorem dL_isBestSo_232 : decode cL_isBestSo 232 = .ok (.iconst 0, 1) := by decide +kernel
theorem dL_isBestSo_233 : decode cL_isBestSo 233 = .ok (.if_icmp .ne 19, 3) := by decide +kernel
theorem dL_isBestSo_236 : decode cL_isBestSo 236 = .ok (.aload_n 0, 1) := by decide +kernel
theorem dL_isBestSo_237 : decode cL_isBestSo 237 = .ok (.bipush 6, 2) := by decide +kernel
theorem dL_isBestSo_239 : decode cL_isBestSo 239 = .ok (.iconst 0, 1) := by decide +kernel
theorem dL_isBestSo_240 : decode cL_isBestSo 240 = .ok (.invokevirtual 63, 3) := by decide +kernel
theorem dL_isBestSo_243 : decode cL_isBestSo 243 = .ok (.ldc 49, 2) := by decide +kernel
theorem dL_isBestSo_245 : decode cL_isBestSo 245 = .ok (.if_icmp .ne 7, 3) := by decide +kernel
theorem dL_isBestSo_248 : decode cL_isBestSo 248 = .ok (.iconst 1, 1) := by decide +kernel
theorem dL_isBestSo_249 : decode cL_isBestSo 249 = .ok (.goto 4, 3) := by decide +kernel
theorem dL_isBestSo_252 : decode cL_isBestSo 252 = .ok (.iconst 0, 1) := by decide +kernel
theorem dL_isBestSo_253 : decode cL_isBestSo 253 = .ok (.ireturn, 1) := by decide +kernel
set_option maxRecDepth 20000 in
theorem ggL_isShowSo_X9_barn : GoodIn wsL_isShowSo wsX9_barn := goodIn_r _ [7, 8, 9, 10, 11, 12, 13, 14, 15, 16, 17, 18, 6, 19, 20, 21, 22, 23, 24, 25, 26, 27, 28, 29, 30, 31, 32, 33, 34, 35, 36, 37, 38, 39, 40, 41, 42, 43, 44, 45, 46, 47, 48, 49, 50, 51, 52, 53, 54, 55, 56, 57, 58, 59, 60, 61, 62, 63, 64, 65, 66, 67, 68, 69, 70, 71, 72, 73, 74, 75, 76, 77, 78, 79, 80, 81, 82, 268, 269, 270, 271, 272, 273, 274, 275, 276, 277, 278, 279, 280, 281, 282, 283, 284, 285, 286, 287, 288, 289, 290, 291, 292, 293, 294, 295] (by decide +kernel) (by decide +kernel)
set_option maxRecDepth 20000 in
theorem gL_isShowSo_X9_barn : GoodIn wsL_isShowSo (wsV RL 54 RX9 yX9_barn wsX9_barn) := goodIn_app (goodIn_of _ (by decide +kernel)) ggL_isShowSo_X9_barn
set_option maxRecDepth 20000 in
theorem ggL_isShowSo_X9_count : GoodIn wsL_isShowSo wsX9_count := goodIn_r _ [86, 87, 88, 8, 89, 90, 91, 92, 93, 94, 95, 96, 97, 98, 99, 100, 101, 102, 103, 12, 104, 54, 105, 15, 106, 107, 108, 109, 110, 111, 55, 20, 21, 22, 23, 24, 25, 63, 64, 65, 66, 67, 68, 112, 113, 114, 115, 116, 117, 118, 119, 120, 121, 122, 123, 124, 268, 269, 270, 271, 272, 273, 274, 275, 276, 277, 296, 297, 298, 299, 300, 278, 279, 280, 281, 282, 283, 284, 285, 286, 287, 288, 289, 290, 294, 295, 301, 302, 303, 304, 305, 306, 307] (by decide +kernel) (by decide +kernel)
set_option maxRecDepth 20000 in
theorem gL_isShowSo_X9_count : GoodIn wsL_isShowSo (wsV RL 8 RX9 yX9_count wsX9_count) := goodIn_app (goodIn_of _ (by decide +kernel)) ggL_isShowSo_X9_count
set_option maxRecDepth 20000 in
theorem ggL_isShowSo_X9_ifPrice : GoodIn wsL_isShowSo wsX9_ifPrice := goodIn_r _ [128, 129, 8, 130, 131, 18, 6, 19, 132, 133, 134, 135, 32, 33, 12, 34, 15, 35, 36, 37, 38, 20, 21, 22, 23, 24, 25, 39, 40, 41, 42, 43, 44, 45, 46, 47, 48, 49, 268, 269, 270, 271, 272, 273, 274, 275, 276, 277, 278, 279, 280, 281, 282, 283, 284, 285, 286, 287, 288, 289, 290] (by decide +kernel) (by decide +kernel)
set_option maxRecDepth 20000 in
theorem gL_isShowSo_X9_ifPrice : GoodIn wsL_isShowSo (wsV RL 57 RX9 yX9_ifPrice wsX9_ifPrice) := goodIn_app (goodIn_of _ (by decide +kernel)) ggL_isShowSo_X9_ifPrice
set_option maxRecDepth 20000 in
theorem ggL_isShowSo_X9_generator : GoodIn wsL_isShowSo wsX9_generator := goodIn_r _ [139, 8, 140, 141, 142, 12, 143, 14, 55, 17, 144, 6, 145, 146, 147, 148, 66, 149, 68, 150, 151, 152, 153, 154, 155, 156, 157, 73, 268, 269, 270, 271, 272, 273, 274, 275, 276, 277, 278, 279, 280, 281, 282, 283, 284, 285, 294, 295] (by decide +kernel) (by decide +kernel)
set_option maxRecDepth 20000 in
theorem gL_isShowSo_X9_generator : GoodIn wsL_isShowSo (wsV RL 46 RX9 yX9_generator wsX9_generator) := goodIn_app (goodIn_of _ (by decide +kernel)) ggL_isShowSo_X9_generator
set_option maxRecDepth 20000 in
theorem ggL_isShowSo_X9_show : GoodIn wsL_isShowSo wsX9_show := goodIn_r _ [161, 162, 8, 163, 164, 165, 12, 166, 15, 55, 16, 167, 107, 105, 54, 106, 168, 169, 170, 23, 171, 25, 172, 173, 174, 175, 30, 48, 176, 43, 177, 178, 179, 66, 180, 68, 181, 73, 182, 183, 184, 59, 185, 62, 186, 61, 82, 187, 188, 189, 190, 191, 192, 193, 194, 195, 196, 197, 115, 198, 117, 118, 119, 120, 121, 122, 123, 199, 200, 201, 202, 14, 203, 18, 6, 19, 50, 51, 52, 53, 56, 57, 58, 60, 20, 21, 22, 24, 63, 64, 65, 67, 26, 27, 28, 29, 69, 70, 71, 72, 31, 32, 33, 34, 35, 36, 37, 38, 39, 40, 41, 42, 44, 45, 46, 47, 49, 204, 205, 206, 207, 144, 145, 208, 209, 210, 211, 212, 213, 214, 215, 216, 217, 218, 219, 220, 221, 222, 223, 224, 225, 226, 227, 228, 229, 230, 231, 232, 233, 234, 87, 235, 236, 237, 92, 238, 239, 240, 94, 241, 242, 268, 269, 270, 271, 272, 273, 274, 275, 276, 277, 278, 279, 280, 281, 282, 283, 284, 285, 286, 287, 288, 289, 290, 294, 295, 291, 292, 293, 308, 309, 301, 302, 303, 304, 305, 306, 307, 296, 297, 298] (by decide +kernel) (by decide +kernel)
set_option maxRecDepth 20000 in
theorem gL_isShowSo_X9_show : GoodIn wsL_isShowSo (wsV RL 39 RX9 yX9_show wsX9_show) := goodIn_app (goodIn_of _ (by decide +kernel)) ggL_isShowSo_X9_show
set_option maxRecDepth 20000 in
theorem ggL_isShowSo_X9_showOf : GoodIn wsL_isShowSo wsX9_showOf := goodIn_r _ [246, 8, 247, 248, 249, 12, 250, 17, 167, 153, 251, 252, 253, 190, 254, 194, 255, 256, 257, 258, 192, 268, 269, 270, 271, 272, 273, 274, 275, 276, 277, 278, 279, 280, 281, 282, 283, 284, 285, 308, 309] (by decide +kernel) (by decide +kernel)
set_option maxRecDepth 20000 in
theorem gL_isShowSo_X9_showOf : GoodIn wsL_isShowSo (wsV RL 63 RX9 yX9_showOf wsX9_showOf) := goodIn_app (goodIn_of _ (by decide +kernel)) ggL_isShowSo_X9_showOf
set_option maxRecDepth 20000 in
theorem ggL_isShowSo_X9_undo : GoodIn wsL_isShowSo wsX9_undo := goodIn_r _ [262, 87, 8, 263, 264, 265, 266, 92, 267, 94, 240, 239, 242, 164, 165, 12, 166, 15, 55, 16, 167, 107, 105, 54, 106, 168, 169, 170, 23, 171, 25, 172, 173, 174, 175, 30, 48, 176, 43, 177, 178, 179, 66, 180, 68, 181, 73, 182, 183, 184, 59, 185, 62, 186, 61, 82, 187, 188, 189, 190, 191, 192, 193, 194, 195, 196, 197, 115, 198, 117, 118, 119, 120, 121, 122, 123, 89, 90, 91, 93, 268, 269, 270, 271, 272, 273, 274, 275, 276, 277, 296, 297, 298, 278, 279, 280, 281, 282, 283, 284, 285, 286, 287, 288, 289, 290, 294, 295, 291, 292, 293, 308, 309, 301, 302, 303, 304, 305, 306, 307] (by decide +kernel) (by decide +kernel)
set_option maxRecDepth 20000 in
theorem gL_isShowSo_X9_undo : GoodIn wsL_isShowSo (wsV RL 68 RX9 yX9_undo wsX9_undo) := goodIn_app (goodIn_of _ (by decide +kernel)) ggL_isShowSo_X9_undo
theorem dL_isShowSo_0 : decode cL_isShowSo 0 = .ok (.aload_n 0, 1) := by decide +kernel
theorem dL_isShowSo_1 : decode cL_isShowSo 1 = .ok (.iload_n 1, 1) := by decide +kernel
theorem dL_isShowSo_2 : decode cL_isShowSo 2 = .ok (.bipush 6, 2) := by decide +kernel
theorem dL_isShowSo_4 : decode cL_isShowSo 4 = .ok (.invokevirtual 54, 3) := by decide +kernel
theorem dL_isShowSo_7 : decode cL_isShowSo 7 = .ok (.istore_n 2, 1) := by decide +kernel
theorem dL_isShowSo_8 : decode cL_isShowSo 8 = .ok (.aload_n 0, 1) := by decide +kernel
theorem dL_isShowSo_9 : decode cL_isShowSo 9 = .ok (.iload_n 1, 1) := by decide +kernel
theorem dL_isShowSo_10 : decode cL_isShowSo 10 = .ok (.aload_n 0, 1) := by decide +kernel
theorem dL_isShowSo_11 : decode cL_isShowSo 11 = .ok (.bipush 11, 2) := by decide +kernel
theorem dL_isShowSo_13 : decode cL_isShowSo 13 = .ok (.invokevirtual 8, 3) := by decide +kernel
theorem dL_isShowSo_16 : decode cL_isShowSo 16 = .ok (.invokevirtual 57, 3) := by decide +kernel
theorem dL_isShowSo_19 : decode cL_isShowSo 19 = .ok (.istore_n 3, 1) := by decide +kernel
theorem dL_isShowSo_20 : decode cL_isShowSo 20 = .ok (.aload_n 0, 1) := by decide +kernel
theorem dL_isShowSo_21 : decode cL_isShowSo 21 = .ok (.iload_n 1, 1) := by decide +kernel
theorem dL_isShowSo_22 : decode cL_isShowSo 22 = .ok (.iconst 4, 1) := by decide +kernel
theorem dL_isShowSo_23 : decode cL_isShowSo 23 = .ok (.invokevirtual 54, 3) := by decide +kernel
theorem dL_isShowSo_26 : decode cL_isShowSo 26 = .ok (.istore 4, 2) := by decide +kernel
theorem dL_isShowSo_28 : decode cL_isShowSo 28 = .ok (.aload_n 0, 1) := by decide +kernel
theorem dL_isShowSo_29 : decode cL_isShowSo 29 = .ok (.iconst 0, 1) := by decide +kernel
theorem dL_isShowSo_30 : decode cL_isShowSo 30 = .ok (.iconst 0, 1) := by decide +kernel
theorem dL_isShowSo_31 : decode cL_isShowSo 31 = .ok (.invokevirtual 46, 3) := by decide +kernel
theorem dL_isShowSo_34 : decode cL_isShowSo 34 = .ok (.iload_n 1, 1) := by decide +kernel
theorem dL_isShowSo_35 : decode cL_isShowSo 35 = .ok (.if_icmp .ne 18, 3) := by decide +kernel
theorem dL_isShowSo_38 : decode cL_isShowSo 38 = .ok (.aload_n 0, 1) := by decide +kernel
theorem dL_isShowSo_39 : decode cL_isShowSo 39 = .ok (.iconst 0, 1) := by decide +kernel
theorem dL_isShowSo_40 : decode cL_isShowSo 40 = .ok (.iconst 1, 1) := by decide +kernel
theorem dL_isShowSo_41 : decode cL_isShowSo 41 = .ok (.invokevirtual 46, 3) := by decide +kernel
theorem dL_isShowSo_44 : decode cL_isShowSo 44 = .ok (.iload 4, 2) := by decide +kernel
theorem dL_isShowSo_46 : decode cL_isShowSo 46 = .ok (.if_icmp .lt 7, 3) := by decide +kernel
theorem dL_isShowSo_49 : decode cL_isShowSo 49 = .ok (.iconst 0, 1) := by decide +kernel
theorem dL_isShowSo_50 : decode cL_isShowSo 50 = .ok (.goto 4, 3) := by decide +kernel
theorem dL_isShowSo_53 : decode cL_isShowSo 53 = .ok (.iconst 1, 1) := by decide +kernel
theorem dL_isShowSo_54 : decode cL_isShowSo 54 = .ok (.istore 5, 2) := by decide +kernel
theorem dL_isShowSo_56 : decode cL_isShowSo 56 = .ok (.aload_n 0, 1) := by decide +kernel
theorem dL_isShowSo_57 : decode cL_isShowSo 57 = .ok (.iload 5, 2) := by decide +kernel
theorem dL_isShowSo_59 : decode cL_isShowSo 59 = .ok (.iconst 1, 1) := by decide +kernel
theorem dL_isShowSo_60 : decode cL_isShowSo 60 = .ok (.invokevirtual 46, 3) := by decide +kernel
theorem dL_isShowSo_63 : decode cL_isShowSo 63 = .ok (.istore 6, 2) := by decide +kernel
theorem dL_isShowSo_65 : decode cL_isShowSo 65 = .ok (.aload_n 0, 1) := by decide +kernel
theorem dL_isShowSo_66 : decode cL_isShowSo 66 = .ok (.iconst 4, 1) := by decide +kernel
theorem dL_isShowSo_67 : decode cL_isShowSo 67 = .ok (.invokevirtual 8, 3) := by decide +kernel
theorem dL_isShowSo_70 : decode cL_isShowSo 70 = .ok (.istore 7, 2) := by decide +kernel
theorem dL_isShowSo_72 : decode cL_isShowSo 72 = .ok (.aload_n 0, 1) := by decide +kernel
theorem dL_isShowSo_73 : decode cL_isShowSo 73 = .ok (.iload_n 1, 1) := by decide +kernel
theorem dL_isShowSo_74 : decode cL_isShowSo 74 = .ok (.iconst 5, 1) := by decide +kernel
theorem dL_isShowSo_75 : decode cL_isShowSo 75 = .ok (.invokevirtual 54, 3) := by decide +kernel
theorem dL_isShowSo_78 : decode cL_isShowSo 78 = .ok (.istore 8, 2) := by decide +kernel
theorem dL_isShowSo_80 : decode cL_isShowSo 80 = .ok (.aload_n 0, 1) := by decide +kernel
theorem dL_isShowSo_81 : decode cL_isShowSo 81 = .ok (.bipush 10, 2) := by decide +kernel
theorem dL_isShowSo_83 : decode cL_isShowSo 83 = .ok (.invokevirtual 8, 3) := by decide +kernel
theorem dL_isShowSo_86 : decode cL_isShowSo 86 = .ok (.istore 9, 2) := by decide +kernel
theorem dL_isShowSo_88 : decode cL_isShowSo 88 = .ok (.aload_n 0, 1) := by decide +kernel
theorem dL_isShowSo_89 : decode cL_isShowSo 89 = .ok (.iload_n 1, 1) := by decide +kernel
theorem dL_isShowSo_90 : decode cL_isShowSo 90 = .ok (.invokevirtual 39, 3) := by decide +kernel
theorem dL_isShowSo_93 : decode cL_isShowSo 93 = .ok (.istore 10, 2) := by decide +kernel
theorem dL_isShowSo_95 : decode cL_isShowSo 95 = .ok (.iload_n 2, 1) := by decide +kernel
theorem dL_isShowSo_96 : decode cL_isShowSo 96 = .ok (.ifCond .le 28, 3) := by decide +kernel
theorem dL_isShowSo_99 : decode cL_isShowSo 99 = .ok (.iload 10, 2) := by decide +kernel
theorem dL_isShowSo_101 : decode cL_isShowSo 101 = .ok (.ldc 66, 2) := by decide +kernel
theorem dL_isShowSo_103 : decode cL_isShowSo 103 = .ok (.iload_n 2, 1) := by decide +kernel
theorem dL_isShowSo_104 : decode cL_isShowSo 104 = .ok (.isub, 1) := by decide +kernel
theorem dL_isShowSo_105 : decode cL_isShowSo 105 = .ok (.if_icmp .ne 17, 3) := by decide +kernel
theorem dL_isShowSo_108 : decode cL_isShowSo 108 = .ok (.aload_n 0, 1) := by decide +kernel
theorem dL_isShowSo_109 : decode cL_isShowSo 109 = .ok (.iconst 4, 1) := by decide +kernel
theorem dL_isShowSo_110 : decode cL_isShowSo 110 = .ok (.invokevirtual 8, 3) := by decide +kernel
theorem dL_isShowSo_113 : decode cL_isShowSo 113 = .ok (.iload 7, 2) := by decide +kernel
theorem dL_isShowSo_115 : decode cL_isShowSo 115 = .ok (.if_icmp .ne 7, 3) := by decide +kernel
theorem dL_isShowSo_118 : decode cL_isShowSo 118 = .ok (.iconst 1, 1) := by decide +kernel
theorem dL_isShowSo_119 : decode cL_isShowSo 119 = .ok (.goto 4, 3) := by decide +kernel
theorem dL_isShowSo_122 : decode cL_isShowSo 122 = .ok (.iconst 0, 1) := by decide +kernel
theorem dL_isShowSo_123 : decode cL_isShowSo 123 = .ok (.ireturn, 1) := by decide +kernel
theorem dL_isShowSo_124 : decode cL_isShowSo 124 = .ok (.iload 10, 2) := by decide +kernel
theorem dL_isShowSo_126 : decode cL_isShowSo 126 = .ok (.iload_n 3, 1) := by decide +kernel
theorem dL_isShowSo_127 : decode cL_isShowSo 127 = .ok (.if_icmp .ne 127, 3) := by decide +kernel
theorem dL_isShowSo_130 : decode cL_isShowSo 130 = .ok (.aload_n 0, 1) := by decide +kernel
theorem dL_isShowSo_131 : decode cL_isShowSo 131 = .ok (.iconst 4, 1) := by decide +kernel
theorem dL_isShowSo_132 : decode cL_isShowSo 132 = .ok (.invokevirtual 8, 3) := by decide +kernel
theorem dL_isShowSo_135 : decode cL_isShowSo 135 = .ok (.iload 7, 2) := by decide +kernel
theorem dL_isShowSo_137 : decode cL_isShowSo 137 = .ok (.iload 10, 2) := by decide +kernel
theorem dL_isShowSo_139 : decode cL_isShowSo 139 = .ok (.iadd, 1) := by decide +kernel
theorem dL_isShowSo_140 : decode cL_isShowSo 140 = .ok (.if_icmp .ne 114, 3) := by decide +kernel
theorem dL_isShowSo_143 : decode cL_isShowSo 143 = .ok (.aload_n 0, 1) := by decide +kernel
theorem dL_isShowSo_144 : decode cL_isShowSo 144 = .ok (.iload 5, 2) := by decide +kernel
theorem dL_isShowSo_146 : decode cL_isShowSo 146 = .ok (.iconst 1, 1) := by decide +kernel
theorem dL_isShowSo_147 : decode cL_isShowSo 147 = .ok (.invokevirtual 46, 3) := by decide +kernel
theorem dL_isShowSo_150 : decode cL_isShowSo 150 = .ok (.iload 6, 2) := by decide +kernel
theorem dL_isShowSo_152 : decode cL_isShowSo 152 = .ok (.iload 4, 2) := by decide +kernel
theorem dL_isShowSo_154 : decode cL_isShowSo 154 = .ok (.isub, 1) := by decide +kernel
theorem dL_isShowSo_155 : decode cL_isShowSo 155 = .ok (.if_icmp .ne 99, 3) := by decide +kernel
theorem dL_isShowSo_158 : decode cL_isShowSo 158 = .ok (.aload_n 0, 1) := by decide +kernel
theorem dL_isShowSo_159 : decode cL_isShowSo 159 = .ok (.bipush 10, 2) := by decide +kernel
theorem dL_isShowSo_161 : decode cL_isShowSo 161 = .ok (.invokevirtual 8, 3) := by decide +kernel
theorem dL_isShowSo_164 : decode cL_isShowSo 164 = .ok (.iload 9, 2) := by decide +kernel
theorem dL_isShowSo_166 : decode cL_isShowSo 166 = .ok (.iload 8, 2) := by decide +kernel
theorem dL_isShowSo_168 : decode cL_isShowSo 168 = .ok (.iadd, 1) := by decide +kernel
theorem dL_isShowSo_169 : decode cL_isShowSo 169 = .ok (.if_icmp .ne 85, 3) := by decide +kernel
theorem dL_isShowSo_172 : decode cL_isShowSo 172 = .ok (.aload_n 0, 1) := by decide +kernel
theorem dL_isShowSo_173 : decode cL_isShowSo 173 = .ok (.iload_n 1, 1) := by decide +kernel
theorem dL_isShowSo_174 : decode cL_isShowSo 174 = .ok (.bipush 6, 2) := by decide +kernel
theorem dL_isShowSo_176 : decode cL_isShowSo 176 = .ok (.invokevirtual 54, 3) := by decide +kernel
theorem dL_isShowSo_179 : decode cL_isShowSo 179 = .ok (.iconst 1, 1) := by decide +kernel
theorem dL_isShowSo_180 : decode cL_isShowSo 180 = .ok (.if_icmp .ne 74, 3) := by decide +kernel
theorem dL_isShowSo_183 : decode cL_isShowSo 183 = .ok (.aload_n 0, 1) := by decide +kernel
theorem dL_isShowSo_184 : decode cL_isShowSo 184 = .ok (.iload_n 1, 1) := by decide +kernel
theorem dL_isShowSo_185 : decode cL_isShowSo 185 = .ok (.invokevirtual 39, 3) := by decide +kernel
theorem dL_isShowSo_188 : decode cL_isShowSo 188 = .ok (.ldc 67, 2) := by decide +kernel
theorem dL_isShowSo_190 : decode cL_isShowSo 190 = .ok (.if_icmp .ne 64, 3) := by decide +kernel
theorem dL_isShowSo_193 : decode cL_isShowSo 193 = .ok (.aload_n 0, 1) := by decide +kernel
theorem dL_isShowSo_194 : decode cL_isShowSo 194 = .ok (.iconst 0, 1) := by decide +kernel
theorem dL_isShowSo_195 : decode cL_isShowSo 195 = .ok (.iconst 1, 1) := by decide +kernel
theorem dL_isShowSo_196 : decode cL_isShowSo 196 = .ok (.invokevirtual 63, 3) := by decide +kernel
theorem dL_isShowSo_199 : decode cL_isShowSo 199 = .ok (.iload_n 1, 1) := by decide +kernel
theorem dL_isShowSo_200 : decode cL_isShowSo 200 = .ok (.if_icmp .ne 54, 3) := by decide +kernel
theorem dL_isShowSo_203 : decode cL_isShowSo 203 = .ok (.aload_n 0, 1) := by decide +kernel
theorem dL_isShowSo_204 : decode cL_isShowSo 204 = .ok (.iconst 0, 1) := by decide +kernel
theorem dL_isShowSo_205 : decode cL_isShowSo 205 = .ok (.iconst 2, 1) := by decide +kernel
theorem dL_isShowSo_206 : decode cL_isShowSo 206 = .ok (.invokevirtual 63, 3) := by decide +kernel
theorem dL_isShowSo_209 : decode cL_isShowSo 209 = .ok (.iload 8, 2) := by decide +kernel
theorem dL_isShowSo_211 : decode cL_isShowSo 211 = .ok (.if_icmp .ne 43, 3) := by decide +kernel
theorem dL_isShowSo_214 : decode cL_isShowSo 214 = .ok (.aload_n 0, 1) := by decide +kernel
theorem dL_isShowSo_215 : decode cL_isShowSo 215 = .ok (.iconst 0, 1) := by decide +kernel
theorem dL_isShowSo_216 : decode cL_isShowSo 216 = .ok (.iconst 3, 1) := by decide +kernel
theorem dL_isShowSo_217 : decode cL_isShowSo 217 = .ok (.invokevirtual 63, 3) := by decide +kernel
theorem dL_isShowSo_220 : decode cL_isShowSo 220 = .ok (.iload 10, 2) := by decide +kernel
theorem dL_isShowSo_222 : decode cL_isShowSo 222 = .ok (.if_icmp .ne 32, 3) := by decide +kernel
theorem dL_isShowSo_225 : decode cL_isShowSo 225 = .ok (.aload_n 0, 1) := by decide +kernel
theorem dL_isShowSo_226 : decode cL_isShowSo 226 = .ok (.iconst 0, 1) := by decide +kernel
theorem dL_isShowSo_227 : decode cL_isShowSo 227 = .ok (.iconst 4, 1) := by decide +kernel
theorem dL_isShowSo_228 : decode cL_isShowSo 228 = .ok (.invokevirtual 63, 3) := by decide +kernel
theorem dL_isShowSo_231 : decode cL_isShowSo 231 = .ok (.iload 4, 2) := by decide +kernel
theorem dL_isShowSo_233 : decode cL_isShowSo 233 = .ok (.if_icmp .ne 21, 3) := by decide +kernel
theorem dL_isShowSo_236 : decode cL_isShowSo 236 = .ok (.aload_n 0, 1) := by decide +kernel
theorem dL_isShowSo_237 : decode cL_isShowSo 237 = .ok (.iconst 0, 1) := by decide +kernel
theorem dL_isShowSo_238 : decode cL_isShowSo 238 = .ok (.iconst 0, 1) := by decide +kernel
theorem dL_isShowSo_239 : decode cL_isShowSo 239 = .ok (.invokevirtual 63, 3) := by decide +kernel
theorem dL_isShowSo_242 : decode cL_isShowSo 242 = .ok (.aload_n 0, 1) := by decide +kernel
theorem dL_isShowSo_243 : decode cL_isShowSo 243 = .ok (.iconst 0, 1) := by decide +kernel
theorem dL_isShowSo_244 : decode cL_isShowSo 244 = .ok (.invokevirtual 8, 3) := by decide +kernel
theorem dL_isShowSo_247 : decode cL_isShowSo 247 = .ok (.if_icmp .ne 7, 3) := by decide +kernel
theorem dL_isShowSo_250 : decode cL_isShowSo 250 = .ok (.iconst 1, 1) := by decide +kernel
theorem dL_isShowSo_251 : decode cL_isShowSo 251 = .ok (.goto 4, 3) := by decide +kernel
theorem dL_isShowSo_254 : decode cL_isShowSo 254 = .ok (.iconst 0, 1) := by decide +kernel
theorem dL_isShowSo_255 : decode cL_isShowSo 255 = .ok (.istore 11, 2) := by decide +kernel
theorem dL_isShowSo_257 : decode cL_isShowSo 257 = .ok (.aload_n 0, 1) := by decide +kernel
theorem dL_isShowSo_258 : decode cL_isShowSo 258 = .ok (.invokevirtual 68, 3) := by decide +kernel
theorem dL_isShowSo_261 : decode cL_isShowSo 261 = .ok (.istore 12, 2) := by decide +kernel
theorem dL_isShowSo_263 : decode cL_isShowSo 263 = .ok (.iload 11, 2) := by decide +kernel
theorem dL_isShowSo_265 : decode cL_isShowSo 265 = .ok (.ifCond .eq 22, 3) := by decide +kernel
theorem dL_isShowSo_268 : decode cL_isShowSo 268 = .ok (.iload 12, 2) := by decide +kernel
theorem dL_isShowSo_270 : decode cL_isShowSo 270 = .ok (.ifCond .lt 17, 3) := by decide +kernel
theorem dL_isShowSo_273 : decode cL_isShowSo 273 = .ok (.aload_n 0, 1) := by decide +kernel
theorem dL_isShowSo_274 : decode cL_isShowSo 274 = .ok (.iconst 4, 1) := by decide +kernel
theorem dL_isShowSo_275 : decode cL_isShowSo 275 = .ok (.invokevirtual 8, 3) := by decide +kernel
theorem dL_isShowSo_278 : decode cL_isShowSo 278 = .ok (.iload 7, 2) := by decide +kernel
theorem dL_isShowSo_280 : decode cL_isShowSo 280 = .ok (.if_icmp .ne 7, 3) := by decide +kernel
theorem dL_isShowSo_283 : decode cL_isShowSo 283 = .ok (.iconst 1, 1) := by decide +kernel
theorem dL_isShowSo_284 : decode cL_isShowSo 284 = .ok (.goto 4, 3) := by decide +kernel
theorem dL_isShowSo_287 : decode cL_isShowSo 287 = .ok (.iconst 0, 1) := by decide +kernel
theorem dL_isShowSo_288 : decode cL_isShowSo 288 = .ok (.ireturn, 1) := by decide +kernel
