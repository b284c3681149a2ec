theorem mem_r {big : List Cond} (ws : List Cond) (ps : List Nat) (hp : ws = ps.filterMap (fun i => big[i]?)) : ∀ w ∈ ws, w ∈ big := by
  intro w hw
  rw [hp] at hw
  obtain ⟨i, -, hi⟩ := List.mem_filterMap.mp hw
  exact List.mem_of_getElem? hi
theorem mem_a {big a b : List Cond} (ha : ∀ w ∈ a, w ∈ big) (hb : ∀ w ∈ b, w ∈ big) : ∀ w ∈ a ++ b, w ∈ big := fun w h => (List.mem_append.mp h).elim (ha w) (hb w)
set_option maxRecDepth 20000 in
theorem wsL_in_1 : ∀ w ∈ wsL_law_r1, w ∈ lw_tbl := mem_r _ [18, 19, 6, 629, 20, 21, 22, 23, 24, 25, 26, 27, 7, 205, 206, 207, 150, 151, 13, 208, 169, 170, 14, 209] (by decide +kernel)
set_option maxRecDepth 20000 in
theorem wsL_in_2 : ∀ w ∈ wsL_law_r2, w ∈ lw_tbl := mem_r _ [183, 184, 15, 210, 211, 212, 213, 214, 29, 30, 31, 32, 33, 8, 125, 55, 56, 9, 126, 68, 69, 10, 127, 84] (by decide +kernel)
set_option maxRecDepth 20000 in
theorem wsL_in_3 : ∀ w ∈ wsL_law_r3, w ∈ lw_tbl := mem_r _ [85, 11, 128, 97, 98, 12, 129, 130, 131, 132, 34, 35, 36, 37, 54, 38, 39, 40, 41, 42, 57, 58, 59, 60] (by decide +kernel)
set_option maxRecDepth 20000 in
theorem wsL_in_4 : ∀ w ∈ wsL_law_r4, w ∈ lw_tbl := mem_r _ [61, 62, 71, 72, 73, 74, 75, 76, 87, 88, 89, 90, 91, 100, 101, 102, 103, 104, 105, 106, 107, 108, 109, 152] (by decide +kernel)
set_option maxRecDepth 20000 in
theorem wsL_in_5 : ∀ w ∈ wsL_law_r5, w ∈ lw_tbl := mem_r _ [153, 154, 155, 156, 159, 160, 161, 172, 173, 174, 182, 175, 176, 186, 187, 188, 189, 190, 191, 192, 193, 236, 237, 5] (by decide +kernel)
set_option maxRecDepth 20000 in
theorem wsL_in_6 : ∀ w ∈ wsL_law_r6, w ∈ lw_tbl := mem_r _ [238, 243, 244, 245, 246, 247, 248, 249, 250, 251, 252, 253, 254, 255, 256, 257, 258, 259, 260, 261, 262, 264, 0, 265] (by decide +kernel)
set_option maxRecDepth 20000 in
theorem wsL_in_7 : ∀ w ∈ wsL_law_r7, w ∈ lw_tbl := mem_r _ [266, 267, 268, 269, 270, 271, 272, 273, 274, 275, 276, 277, 278, 239, 240, 241, 242, 279, 280, 281, 282, 283, 284, 285] (by decide +kernel)
set_option maxRecDepth 20000 in
theorem wsL_in_8 : ∀ w ∈ wsL_law_r8, w ∈ lw_tbl := mem_r _ [286, 287, 288, 289, 290, 291, 293, 292, 16, 294, 295, 296, 297, 298, 299, 300, 301, 302, 303, 304, 305, 306, 307, 308] (by decide +kernel)
set_option maxRecDepth 20000 in
theorem wsL_in_9 : ∀ w ∈ wsL_law_r9, w ∈ lw_tbl := mem_r _ [309, 310, 311, 312, 313, 314, 315, 316, 320, 321, 324, 325, 17, 326, 318, 319, 327, 328, 329, 330, 331, 333, 1, 334] (by decide +kernel)
set_option maxRecDepth 20000 in
theorem wsL_in_10 : ∀ w ∈ wsL_law_r10, w ∈ lw_tbl := mem_r _ [335, 336, 337, 338, 340, 341, 342, 339, 343, 344, 345, 346, 347, 348, 349, 350, 351, 352, 353, 354, 355, 356, 357, 358] (by decide +kernel)
set_option maxRecDepth 20000 in
theorem wsL_in_11 : ∀ w ∈ wsL_law_r11, w ∈ lw_tbl := mem_r _ [359, 361, 2, 362, 363, 364, 365, 366, 367, 368, 369, 370, 371, 372, 373, 374, 375, 376, 378, 379, 380, 381, 382, 383] (by decide +kernel)
set_option maxRecDepth 20000 in
theorem wsL_in_12 : ∀ w ∈ wsL_law_r12, w ∈ lw_tbl := mem_r _ [384, 385, 386, 387, 388, 389, 390, 391, 392, 393, 394, 395, 399, 397, 398, 400, 401, 402, 403, 404, 405, 406, 407, 408] (by decide +kernel)
set_option maxRecDepth 20000 in
theorem wsL_in_13 : ∀ w ∈ wsL_law_r13, w ∈ lw_tbl := mem_r _ [409, 410, 411, 412, 413, 414, 415, 416, 417, 418, 419, 420, 421, 422, 423, 424, 425, 426, 427, 428, 429, 430, 431, 432] (by decide +kernel)
set_option maxRecDepth 20000 in
theorem wsL_in_14 : ∀ w ∈ wsL_law_r14, w ∈ lw_tbl := mem_r _ [433, 434, 435, 436, 437, 438, 439, 441, 442, 443, 444, 445, 446, 447, 448, 449, 450, 467, 451, 453, 3, 454, 455, 456] (by decide +kernel)
set_option maxRecDepth 20000 in
theorem wsL_in_15 : ∀ w ∈ wsL_law_r15, w ∈ lw_tbl := mem_r _ [457, 458, 459, 460, 461, 462, 463, 464, 465, 466, 468, 469, 470, 471, 485, 483, 484, 474, 475, 476, 477, 478, 479, 480] (by decide +kernel)
set_option maxRecDepth 20000 in
theorem wsL_in_16 : ∀ w ∈ wsL_law_r16, w ∈ lw_tbl := mem_r _ [481, 482, 486, 487, 488, 489, 491, 492, 493, 494, 495, 497, 4, 498, 499, 500, 501, 502, 503, 504, 505, 506, 507, 508] (by decide +kernel)
set_option maxRecDepth 20000 in
theorem wsL_in_17 : ∀ w ∈ wsL_law_r17, w ∈ lw_tbl := mem_r _ [509, 510, 511, 512, 513, 514, 515, 516, 517, 518, 519, 520, 521, 522, 534, 559, 523, 524, 525, 526, 527, 528, 529, 530] (by decide +kernel)
set_option maxRecDepth 20000 in
theorem wsL_in_18 : ∀ w ∈ wsL_law_r18, w ∈ lw_tbl := mem_r _ [531, 532, 533, 535, 536, 537, 538, 539, 540, 541, 542, 543, 544, 545, 546, 547, 548, 549, 550, 551, 552, 553, 554, 555] (by decide +kernel)
set_option maxRecDepth 20000 in
theorem wsL_in_19 : ∀ w ∈ wsL_law_r19, w ∈ lw_tbl := mem_r _ [556, 557, 558, 560, 561, 562, 563, 564, 565, 566, 567, 568, 569, 570, 571, 572, 573, 574, 575, 576, 577, 578, 579, 580] (by decide +kernel)
set_option maxRecDepth 20000 in
theorem wsL_in_20 : ∀ w ∈ wsL_law_r20, w ∈ lw_tbl := mem_r _ [581, 582, 584, 587, 583, 585, 586, 588, 589, 590, 591, 592, 593, 594, 595, 596, 597, 598, 599, 600, 601, 602, 603, 604] (by decide +kernel)
set_option maxRecDepth 20000 in
theorem wsL_in_21 : ∀ w ∈ wsL_law_r21, w ∈ lw_tbl := mem_r _ [605, 606, 607, 608, 609, 610, 611, 612, 613, 614, 615, 616, 617, 618, 619, 620, 621, 622, 623, 628, 624, 625, 626, 627] (by decide +kernel)
theorem inX9 : ∀ w ∈ wsX90, w ∈ lw_tbl := by decide +kernel
theorem inX7 : ∀ w ∈ wsX70, w ∈ lw_tbl := by decide +kernel
theorem inX3 : ∀ w ∈ wsX30, w ∈ lw_tbl := by decide +kernel
theorem inX8 : ∀ w ∈ wsX80, w ∈ lw_tbl := by decide +kernel
theorem inX5 : ∀ w ∈ wsX50, w ∈ lw_tbl := by decide +kernel
theorem inX4 : ∀ w ∈ wsX40, w ∈ lw_tbl := by decide +kernel
theorem inX2 : ∀ w ∈ wsX20, w ∈ lw_tbl := by decide +kernel
theorem inX1 : ∀ w ∈ wsX10, w ∈ lw_tbl := by decide +kernel
theorem inX6 : ∀ w ∈ wsX60, w ∈ lw_tbl := by decide +kernel
theorem inX0 : ∀ w ∈ wsX00, w ∈ lw_tbl := by decide +kernel
theorem wsL_law_in : ∀ w ∈ wsL_law, w ∈ lw_tbl := (mem_a (mem_a (mem_a (mem_a (mem_a (mem_a (mem_a (mem_a (mem_a (mem_a (mem_a (mem_a wsL_in_1 (mem_a wsL_in_2 (mem_a wsL_in_3 (mem_a wsL_in_4 (mem_a wsL_in_5 (mem_a wsL_in_6 (mem_a wsL_in_7 (mem_a wsL_in_8 (mem_a wsL_in_9 (mem_a wsL_in_10 (mem_a wsL_in_11 (mem_a wsL_in_12 (mem_a wsL_in_13 (mem_a wsL_in_14 (mem_a wsL_in_15 (mem_a wsL_in_16 (mem_a wsL_in_17 (mem_a wsL_in_18 (mem_a wsL_in_19 (mem_a wsL_in_20 wsL_in_21)))))))))))))))))))) inX9) inX7) inX3) inX8) inX5) inX4) inX2) inX1) inX6) inX0) (fun _ h => absurd h List.not_mem_nil))
theorem inlX0 : ∀ w ∈ wsX00, w ∈ wsL_law := fun _ h => List.mem_append_left _ (List.mem_append_right _ h)
theorem inlX1 : ∀ w ∈ wsX10, w ∈ wsL_law := fun _ h => List.mem_append_left _ (List.mem_append_left _ (List.mem_append_left _ (List.mem_append_right _ h)))
theorem inlX2 : ∀ w ∈ wsX20, w ∈ wsL_law := fun _ h => List.mem_append_left _ (List.mem_append_left _ (List.mem_append_left _ (List.mem_append_left _ (List.mem_append_right _ h))))
theorem inlX3 : ∀ w ∈ wsX30, w ∈ wsL_law := fun _ h => List.mem_append_left _ (List.mem_append_left _ (List.mem_append_left _ (List.mem_append_left _ (List.mem_append_left _ (List.mem_append_left _ (List.mem_append_left _ (List.mem_append_left _ (List.mem_append_right _ h))))))))
theorem inlX4 : ∀ w ∈ wsX40, w ∈ wsL_law := fun _ h => List.mem_append_left _ (List.mem_append_left _ (List.mem_append_left _ (List.mem_append_left _ (List.mem_append_left _ (List.mem_append_right _ h)))))
theorem inlX5 : ∀ w ∈ wsX50, w ∈ wsL_law := fun _ h => List.mem_append_left _ (List.mem_append_left _ (List.mem_append_left _ (List.mem_append_left _ (List.mem_append_left _ (List.mem_append_left _ (List.mem_append_right _ h))))))
theorem inlX6 : ∀ w ∈ wsX60, w ∈ wsL_law := fun _ h => List.mem_append_left _ (List.mem_append_left _ (List.mem_append_right _ h))
theorem inlX7 : ∀ w ∈ wsX70, w ∈ wsL_law := fun _ h => List.mem_append_left _ (List.mem_append_left _ (List.mem_append_left _ (List.mem_append_left _ (List.mem_append_left _ (List.mem_append_left _ (List.mem_append_left _ (List.mem_append_left _ (List.mem_append_left _ (List.mem_append_right _ h)))))))))
theorem inlX8 : ∀ w ∈ wsX80, w ∈ wsL_law := fun _ h => List.mem_append_left _ (List.mem_append_left _ (List.mem_append_left _ (List.mem_append_left _ (List.mem_append_left _ (List.mem_append_left _ (List.mem_append_left _ (List.mem_append_right _ h)))))))
theorem inlX9 : ∀ w ∈ wsX90, w ∈ wsL_law := fun _ h => List.mem_append_left _ (List.mem_append_left _ (List.mem_append_left _ (List.mem_append_left _ (List.mem_append_left _ (List.mem_append_left _ (List.mem_append_left _ (List.mem_append_left _ (List.mem_append_left _ (List.mem_append_left _ (List.mem_append_right _ h))))))))))
set_option maxRecDepth 20000 in
theorem ggL_law_X9_init : GoodIn wsL_law wsX9_init := goodIn_r _ [6, 7, 8, 9, 10, 11, 12, 13, 14, 15, 16, 17, 18, 19, 20, 21, 22, 23, 24, 25, 26, 27, 28, 29, 30, 31, 32, 33, 34, 35, 36, 37, 38, 39, 40, 41, 42, 43, 44, 45, 46, 47, 48, 49, 50, 51, 52, 53, 54, 55, 56, 57, 58, 59, 60, 61, 62, 63, 64, 65, 66, 67, 68, 69, 70, 71, 72, 73, 74, 75, 76, 77, 78, 79, 80, 81, 82, 83, 84, 85, 86, 87, 88, 89, 90, 91, 92, 93, 94, 95, 96, 97, 98, 99, 100, 101, 102, 103, 104, 105, 106, 107, 108, 109, 110, 111, 112, 113, 114, 115, 116, 514, 515, 516, 517, 518, 519, 520, 521, 504, 505, 506, 507, 508, 509, 510, 511, 512, 513, 522, 523, 524, 525, 526, 527, 528, 529, 530, 531, 532, 533, 534, 535, 536, 537, 538, 539, 540, 541, 542, 543, 544, 545, 546, 547, 548, 549, 550] (by decide +kernel) (by decide +kernel)
set_option maxRecDepth 20000 in
theorem gL_law_X9_init : GoodIn wsL_law (wsX9_init) := ggL_law_X9_init
set_option maxRecDepth 20000 in
theorem ggL_law_L_cell : GoodIn wsL_law wsL_cell := goodIn_r _ [120] (by decide +kernel) (by decide +kernel)
set_option maxRecDepth 20000 in
theorem gL_law_L_cell : GoodIn wsL_law (va_wsS RL 72 yL_cell wsL_cell) := goodIn_app (goodIn_of _ (by decide +kernel)) ggL_law_L_cell
set_option maxRecDepth 20000 in
theorem gpL_does_0 : GoodIn wsL_law [Cond.code yL_does cL_does 3 (some .int)] := goodIn_r _ [123] (by decide +kernel) (by decide +kernel)
set_option maxRecDepth 20000 in
theorem gpL_does_1 : GoodIn wsL_law wsL_does_r1 := goodIn_r _ [124, 125, 126, 2, 127, 19, 23, 13, 128, 129, 130, 18, 131, 102, 132, 133, 134, 22, 135, 108, 136, 137, 138, 12] (by decide +kernel) (by decide +kernel)
set_option maxRecDepth 20000 in
theorem gpL_does_2 : GoodIn wsL_law wsL_does_r2 := goodIn_r _ [139, 56, 55, 38, 57, 54, 140, 141, 142, 143, 42, 144, 145, 146, 37, 147, 63, 148, 149, 150, 41, 151, 72, 152] (by decide +kernel) (by decide +kernel)
set_option maxRecDepth 20000 in
theorem gpL_does_3 : GoodIn wsL_law wsL_does_r3 := goodIn_r _ [153, 154, 53, 155, 88, 89, 90, 91, 92, 93, 94, 156, 157, 158, 119, 159, 160, 161, 162, 163, 164, 14, 165, 166] (by decide +kernel) (by decide +kernel)
set_option maxRecDepth 20000 in
theorem gpL_does_4 : GoodIn wsL_law wsL_does_r4 := goodIn_r _ [167, 168, 46, 50, 169, 170, 171, 172, 173, 174, 175, 176, 64, 65, 66, 67, 177, 178, 179, 180, 181, 73, 182, 183] (by decide +kernel) (by decide +kernel)
set_option maxRecDepth 20000 in
theorem gpL_does_5 : GoodIn wsL_law wsL_does_r5 := goodIn_r _ [184, 45, 185, 77, 186, 78, 79, 187, 188, 189, 49, 190, 83, 191, 84, 192, 193, 194, 195, 196, 197, 198, 199, 200] (by decide +kernel) (by decide +kernel)
set_option maxRecDepth 20000 in
theorem gpL_does_6 : GoodIn wsL_law wsL_does_r6 := goodIn_r _ [201, 202, 203, 204, 205, 206, 207, 208, 209, 210, 211, 212, 213, 214, 215, 216, 217, 218, 219, 100, 101, 220, 221, 222] (by decide +kernel) (by decide +kernel)
set_option maxRecDepth 20000 in
theorem gpL_does_7 : GoodIn wsL_law wsL_does_r7 := goodIn_r _ [223, 224, 225, 226, 227, 228, 229, 230, 231, 232, 233, 234, 235, 236, 237, 238, 239, 240, 241, 242, 243, 244, 245, 246] (by decide +kernel) (by decide +kernel)
set_option maxRecDepth 20000 in
theorem gpL_does_8 : GoodIn wsL_law wsL_does_r8 := goodIn_r _ [247, 248, 249, 250, 251, 252, 253, 254, 255, 256, 257, 258, 259, 260, 261, 262, 263, 264, 265, 266, 267, 268, 269, 270] (by decide +kernel) (by decide +kernel)
set_option maxRecDepth 20000 in
theorem gpL_does_9 : GoodIn wsL_law wsL_does_r9 := goodIn_r _ [271, 272, 273, 274, 275, 276, 277, 278, 279, 280, 281, 282, 283, 284, 285, 286, 287, 288, 289, 290, 291, 292, 293, 294] (by decide +kernel) (by decide +kernel)
set_option maxRecDepth 20000 in
theorem gpL_does_10 : GoodIn wsL_law wsL_does_r10 := goodIn_r _ [295, 296, 297, 298, 299, 300, 301, 302, 303, 304, 305, 306, 307, 308, 309, 310, 311, 312, 313, 314, 315, 316, 317, 318] (by decide +kernel) (by decide +kernel)
set_option maxRecDepth 20000 in
theorem gpL_does_11 : GoodIn wsL_law wsL_does_r11 := goodIn_r _ [319, 320, 321, 322, 323, 324, 325, 326, 327, 328, 329, 330, 331, 332, 333, 334, 335, 336, 337, 338, 339, 340, 341, 342] (by decide +kernel) (by decide +kernel)
set_option maxRecDepth 20000 in
theorem gpL_does_12 : GoodIn wsL_law wsL_does_r12 := goodIn_r _ [343, 344, 345, 346, 347, 348, 349, 350, 351, 352, 353, 354, 355, 356, 357, 358, 359, 360, 361, 362, 363, 364, 365, 366] (by decide +kernel) (by decide +kernel)
set_option maxRecDepth 20000 in
theorem gpL_does_13 : GoodIn wsL_law wsL_does_r13 := goodIn_r _ [367, 368, 369, 370, 371, 372, 373, 374, 375, 376, 377, 378, 379, 380, 381, 382, 383, 384, 385, 386, 387, 388, 389, 390] (by decide +kernel) (by decide +kernel)
set_option maxRecDepth 20000 in
theorem gpL_does_14 : GoodIn wsL_law wsL_does_r14 := goodIn_r _ [391, 392, 393, 394] (by decide +kernel) (by decide +kernel)
set_option maxRecDepth 20000 in
theorem gpL_does_X9 : GoodIn wsL_law wsX90 := goodIn_r _ [504, 505, 506, 507, 508, 509, 510, 511, 512, 513] (by decide +kernel) (by decide +kernel)
set_option maxRecDepth 20000 in
theorem gpL_does_X3 : GoodIn wsL_law wsX30 := goodIn_r _ [522, 523, 524] (by decide +kernel) (by decide +kernel)
set_option maxRecDepth 20000 in
theorem gpL_does_X8 : GoodIn wsL_law wsX80 := goodIn_r _ [525, 526] (by decide +kernel) (by decide +kernel)
set_option maxRecDepth 20000 in
theorem gpL_does_X7 : GoodIn wsL_law wsX70 := goodIn_r _ [514, 515, 516, 517, 518, 519, 520, 521] (by decide +kernel) (by decide +kernel)
set_option maxRecDepth 20000 in
theorem gpL_does_X4 : GoodIn wsL_law wsX40 := goodIn_r _ [532, 533, 534, 535, 536] (by decide +kernel) (by decide +kernel)
set_option maxRecDepth 20000 in
theorem gpL_does_X2 : GoodIn wsL_law wsX20 := goodIn_r _ [537, 538] (by decide +kernel) (by decide +kernel)
set_option maxRecDepth 20000 in
theorem gpL_does_X0 : GoodIn wsL_law wsX00 := goodIn_r _ [544, 545, 546, 547, 548, 549, 550] (by decide +kernel) (by decide +kernel)
set_option maxRecDepth 20000 in
theorem gpL_does_X1 : GoodIn wsL_law wsX10 := goodIn_r _ [539, 540, 541] (by decide +kernel) (by decide +kernel)
set_option maxRecDepth 20000 in
theorem gpL_does_X6 : GoodIn wsL_law wsX60 := goodIn_r _ [542, 543] (by decide +kernel) (by decide +kernel)
theorem ggL_law_L_does : GoodIn wsL_law wsL_does := goodIn_app gpL_does_0 (goodIn_app (goodIn_app (goodIn_app (goodIn_app (goodIn_app (goodIn_app (goodIn_app (goodIn_app (goodIn_app (goodIn_app gpL_does_1 (goodIn_app gpL_does_2 (goodIn_app gpL_does_3 (goodIn_app gpL_does_4 (goodIn_app gpL_does_5 (goodIn_app gpL_does_6 (goodIn_app gpL_does_7 (goodIn_app gpL_does_8 (goodIn_app gpL_does_9 (goodIn_app gpL_does_10 (goodIn_app gpL_does_11 (goodIn_app gpL_does_12 (goodIn_app gpL_does_13 gpL_does_14))))))))))))) gpL_does_X9) gpL_does_X3) gpL_does_X8) gpL_does_X7) gpL_does_X4) gpL_does_X2) gpL_does_X0) gpL_does_X1) gpL_does_X6)
set_option maxRecDepth 20000 in
theorem gL_law_L_does : GoodIn wsL_law (va_wsS RL 76 yL_does wsL_does) := goodIn_app (goodIn_of _ (by decide +kernel)) ggL_law_L_does
set_option maxRecDepth 20000 in
theorem gpL_areThingsSo_0 : GoodIn wsL_law [Cond.code yL_areThingsSo cL_areThingsSo 9 (some .boolean)] := goodIn_r _ [397] (by decide +kernel) (by decide +kernel)
set_option maxRecDepth 20000 in
theorem gpL_areThingsSo_1 : GoodIn wsL_law wsL_areThingsSo_r1 := goodIn_r _ [398, 399, 400, 401, 402, 2, 403, 13, 404, 405, 406, 12, 407, 200, 42, 276, 258, 259, 260, 261, 262, 41, 263, 72] (by decide +kernel) (by decide +kernel)
set_option maxRecDepth 20000 in
theorem gpL_areThingsSo_2 : GoodIn wsL_law wsL_areThingsSo_r2 := goodIn_r _ [408, 409, 410, 201, 279, 280, 281, 282, 73, 411, 412, 413, 414, 415, 416, 417, 418, 38, 232, 233, 234, 37, 235, 63] (by decide +kernel) (by decide +kernel)
set_option maxRecDepth 20000 in
theorem gpL_areThingsSo_3 : GoodIn wsL_law wsL_areThingsSo_r3 := goodIn_r _ [236, 237, 238, 239, 307, 308, 309, 310, 64, 419, 420, 421, 422, 65, 423, 424, 425, 426, 66, 427, 428, 429, 430, 67] (by decide +kernel) (by decide +kernel)
set_option maxRecDepth 20000 in
theorem gpL_areThingsSo_4 : GoodIn wsL_law wsL_areThingsSo_r4 := goodIn_r _ [431, 432, 433, 434, 124, 125, 126, 127, 19, 23, 128, 129, 130, 18, 131, 102, 132, 133, 134, 22, 135, 108, 136, 137] (by decide +kernel) (by decide +kernel)
set_option maxRecDepth 20000 in
theorem gpL_areThingsSo_5 : GoodIn wsL_law wsL_areThingsSo_r5 := goodIn_r _ [138, 139, 56, 55, 57, 54, 140, 141, 142, 143, 144, 145, 146, 147, 148, 149, 150, 151, 152, 153, 154, 53, 155, 88] (by decide +kernel) (by decide +kernel)
set_option maxRecDepth 20000 in
theorem gpL_areThingsSo_6 : GoodIn wsL_law wsL_areThingsSo_r6 := goodIn_r _ [89, 90, 91, 92, 93, 94, 156] (by decide +kernel) (by decide +kernel)
set_option maxRecDepth 20000 in
theorem gpL_areThingsSo_X9 : GoodIn wsL_law wsX90 := goodIn_r _ [504, 505, 506, 507, 508, 509, 510, 511, 512, 513] (by decide +kernel) (by decide +kernel)
set_option maxRecDepth 20000 in
theorem gpL_areThingsSo_X7 : GoodIn wsL_law wsX70 := goodIn_r _ [514, 515, 516, 517, 518, 519, 520, 521] (by decide +kernel) (by decide +kernel)
set_option maxRecDepth 20000 in
theorem gpL_areThingsSo_X2 : GoodIn wsL_law wsX20 := goodIn_r _ [537, 538] (by decide +kernel) (by decide +kernel)
set_option maxRecDepth 20000 in
theorem gpL_areThingsSo_X4 : GoodIn wsL_law wsX40 := goodIn_r _ [532, 533, 534, 535, 536] (by decide +kernel) (by decide +kernel)
set_option maxRecDepth 20000 in
theorem gpL_areThingsSo_X3 : GoodIn wsL_law wsX30 := goodIn_r _ [522, 523, 524] (by decide +kernel) (by decide +kernel)
set_option maxRecDepth 20000 in
theorem gpL_areThingsSo_X8 : GoodIn wsL_law wsX80 := goodIn_r _ [525, 526] (by decide +kernel) (by decide +kernel)
set_option maxRecDepth 20000 in
theorem gpL_areThingsSo_X0 : GoodIn wsL_law wsX00 := goodIn_r _ [544, 545, 546, 547, 548, 549, 550] (by decide +kernel) (by decide +kernel)
theorem ggL_law_L_areThingsSo : GoodIn wsL_law wsL_areThingsSo := goodIn_app gpL_areThingsSo_0 (goodIn_app (goodIn_app (goodIn_app (goodIn_app (goodIn_app (goodIn_app (goodIn_app (goodIn_app gpL_areThingsSo_1 (goodIn_app gpL_areThingsSo_2 (goodIn_app gpL_areThingsSo_3 (goodIn_app gpL_areThingsSo_4 (goodIn_app gpL_areThingsSo_5 gpL_areThingsSo_6))))) gpL_areThingsSo_X9) gpL_areThingsSo_X7) gpL_areThingsSo_X2) gpL_areThingsSo_X4) gpL_areThingsSo_X3) gpL_areThingsSo_X8) gpL_areThingsSo_X0)
set_option maxRecDepth 20000 in
theorem gL_law_L_areThingsSo : GoodIn wsL_law (va_wsS RL 81 yL_areThingsSo wsL_areThingsSo) := goodIn_app (goodIn_of _ (by decide +kernel)) ggL_law_L_areThingsSo
set_option maxRecDepth 20000 in
theorem gpL_areBarnsSo_0 : GoodIn wsL_law [Cond.code yL_areBarnsSo cL_areBarnsSo 13 (some .boolean)] := goodIn_r _ [437] (by decide +kernel) (by decide +kernel)
set_option maxRecDepth 20000 in
theorem gpL_areBarnsSo_1 : GoodIn wsL_law wsL_areBarnsSo_r1 := goodIn_r _ [411, 412, 413, 2, 414, 13, 415, 416, 417, 12, 418, 38, 200, 276, 232, 233, 234, 37, 235, 63, 236, 237, 238, 239] (by decide +kernel) (by decide +kernel)
set_option maxRecDepth 20000 in
theorem gpL_areBarnsSo_2 : GoodIn wsL_law wsL_areBarnsSo_r2 := goodIn_r _ [408, 409, 410, 201, 307, 308, 309, 310, 64, 419, 420, 421, 422, 65, 423, 424, 425, 426, 66, 427, 428, 429, 430, 67] (by decide +kernel) (by decide +kernel)
set_option maxRecDepth 20000 in
theorem gpL_areBarnsSo_3 : GoodIn wsL_law wsL_areBarnsSo_r3 := goodIn_r _ [431, 432, 433, 434, 400, 401, 402, 403, 404, 405, 406, 407, 42, 258, 259, 260, 261, 262, 41, 263, 72, 279, 280, 281] (by decide +kernel) (by decide +kernel)
set_option maxRecDepth 20000 in
theorem gpL_areBarnsSo_4 : GoodIn wsL_law wsL_areBarnsSo_r4 := goodIn_r _ [282, 73, 438, 439, 440, 441, 442, 443, 444, 445, 46, 206, 207, 144, 145, 146, 147, 338, 339, 340, 341, 346, 347, 348] (by decide +kernel) (by decide +kernel)
set_option maxRecDepth 20000 in
theorem gpL_areBarnsSo_5 : GoodIn wsL_law wsL_areBarnsSo_r5 := goodIn_r _ [349, 350, 351, 204, 352, 353, 354, 355, 356, 357, 358, 359, 360, 361, 330, 331, 332, 333, 56, 334, 335, 336, 45, 337] (by decide +kernel) (by decide +kernel)
set_option maxRecDepth 20000 in
theorem gpL_areBarnsSo_6 : GoodIn wsL_law wsL_areBarnsSo_r6 := goodIn_r _ [78, 77, 148, 149, 150, 151, 342, 343, 344, 345, 446, 447, 448, 449, 450, 451, 452, 453, 79, 454, 455, 456, 457, 458] (by decide +kernel) (by decide +kernel)
set_option maxRecDepth 20000 in
theorem gpL_areBarnsSo_7 : GoodIn wsL_law wsL_areBarnsSo_r7 := goodIn_r _ [459, 460, 461, 319, 320, 462, 124, 125, 126, 127, 19, 23, 128, 129, 130, 18, 131, 102, 132, 133, 134, 22, 135, 108] (by decide +kernel) (by decide +kernel)
set_option maxRecDepth 20000 in
theorem gpL_areBarnsSo_8 : GoodIn wsL_law wsL_areBarnsSo_r8 := goodIn_r _ [136, 137, 138, 139, 55, 57, 54, 140, 141, 142, 143, 152, 153, 154, 53, 155, 88, 89, 90, 91, 92, 93, 94, 156] (by decide +kernel) (by decide +kernel)
set_option maxRecDepth 20000 in
theorem gpL_areBarnsSo_X9 : GoodIn wsL_law wsX90 := goodIn_r _ [504, 505, 506, 507, 508, 509, 510, 511, 512, 513] (by decide +kernel) (by decide +kernel)
set_option maxRecDepth 20000 in
theorem gpL_areBarnsSo_X7 : GoodIn wsL_law wsX70 := goodIn_r _ [514, 515, 516, 517, 518, 519, 520, 521] (by decide +kernel) (by decide +kernel)
set_option maxRecDepth 20000 in
theorem gpL_areBarnsSo_X4 : GoodIn wsL_law wsX40 := goodIn_r _ [532, 533, 534, 535, 536] (by decide +kernel) (by decide +kernel)
set_option maxRecDepth 20000 in
theorem gpL_areBarnsSo_X2 : GoodIn wsL_law wsX20 := goodIn_r _ [537, 538] (by decide +kernel) (by decide +kernel)
set_option maxRecDepth 20000 in
theorem gpL_areBarnsSo_X1 : GoodIn wsL_law wsX10 := goodIn_r _ [539, 540, 541] (by decide +kernel) (by decide +kernel)
set_option maxRecDepth 20000 in
theorem gpL_areBarnsSo_X3 : GoodIn wsL_law wsX30 := goodIn_r _ [522, 523, 524] (by decide +kernel) (by decide +kernel)
set_option maxRecDepth 20000 in
theorem gpL_areBarnsSo_X8 : GoodIn wsL_law wsX80 := goodIn_r _ [525, 526] (by decide +kernel) (by decide +kernel)
set_option maxRecDepth 20000 in
theorem gpL_areBarnsSo_X0 : GoodIn wsL_law wsX00 := goodIn_r _ [544, 545, 546, 547, 548, 549, 550] (by decide +kernel) (by decide +kernel)
theorem ggL_law_L_areBarnsSo : GoodIn wsL_law wsL_areBarnsSo := goodIn_app gpL_areBarnsSo_0 (goodIn_app (goodIn_app (goodIn_app (goodIn_app (goodIn_app (goodIn_app (goodIn_app (goodIn_app (goodIn_app gpL_areBarnsSo_1 (goodIn_app gpL_areBarnsSo_2 (goodIn_app gpL_areBarnsSo_3 (goodIn_app gpL_areBarnsSo_4 (goodIn_app gpL_areBarnsSo_5 (goodIn_app gpL_areBarnsSo_6 (goodIn_app gpL_areBarnsSo_7 gpL_areBarnsSo_8))))))) gpL_areBarnsSo_X9) gpL_areBarnsSo_X7) gpL_areBarnsSo_X4) gpL_areBarnsSo_X2) gpL_areBarnsSo_X1) gpL_areBarnsSo_X3) gpL_areBarnsSo_X8) gpL_areBarnsSo_X0)
set_option maxRecDepth 20000 in
theorem gL_law_L_areBarnsSo : GoodIn wsL_law (va_wsS RL 85 yL_areBarnsSo wsL_areBarnsSo) := goodIn_app (goodIn_of _ (by decide +kernel)) ggL_law_L_areBarnsSo
set_option maxRecDepth 20000 in
theorem gpL_isBestSo_0 : GoodIn wsL_law [Cond.code yL_isBestSo cL_isBestSo 6 (some .boolean)] := goodIn_r _ [465] (by decide +kernel) (by decide +kernel)
set_option maxRecDepth 20000 in
theorem gpL_isBestSo_1 : GoodIn wsL_law wsL_isBestSo_r1 := goodIn_r _ [398, 466, 467, 468, 2, 469, 13, 470, 471, 472, 12, 473, 201, 330, 331, 332, 333, 46, 56, 38, 42, 334, 335, 336] (by decide +kernel) (by decide +kernel)
set_option maxRecDepth 20000 in
theorem gpL_isBestSo_2 : GoodIn wsL_law wsL_isBestSo_r2 := goodIn_r _ [45, 337, 78, 77, 144, 145, 146, 37, 147, 63, 148, 149, 150, 41, 151, 72, 338, 339, 340, 341, 64, 342, 343, 344] (by decide +kernel) (by decide +kernel)
set_option maxRecDepth 20000 in
theorem gpL_isBestSo_3 : GoodIn wsL_law wsL_isBestSo_r3 := goodIn_r _ [345, 73, 346, 347, 348, 349, 350, 351, 204, 352, 353, 354, 355, 356, 67, 357, 358, 359, 360, 65, 361, 438, 439, 440] (by decide +kernel) (by decide +kernel)
set_option maxRecDepth 20000 in
theorem gpL_isBestSo_4 : GoodIn wsL_law wsL_isBestSo_r4 := goodIn_r _ [441, 442, 443, 444, 445, 200, 276, 206, 207, 446, 447, 448, 449, 450, 451, 452, 453, 79, 454, 455, 456, 457, 458, 459] (by decide +kernel) (by decide +kernel)
set_option maxRecDepth 20000 in
theorem gpL_isBestSo_5 : GoodIn wsL_law wsL_isBestSo_r5 := goodIn_r _ [460, 461, 319, 320, 462, 474, 475, 476, 477, 478, 479, 480, 481, 50, 482, 483, 484, 49, 485, 84, 486, 487, 488, 489] (by decide +kernel) (by decide +kernel)
set_option maxRecDepth 20000 in
theorem gpL_isBestSo_6 : GoodIn wsL_law wsL_isBestSo_r6 := goodIn_r _ [83, 124, 125, 126, 127, 19, 23, 128, 129, 130, 18, 131, 102, 132, 133, 134, 22, 135, 108, 136, 137, 138, 139, 55] (by decide +kernel) (by decide +kernel)
set_option maxRecDepth 20000 in
theorem gpL_isBestSo_7 : GoodIn wsL_law wsL_isBestSo_r7 := goodIn_r _ [57, 54, 140, 141, 142, 143, 152, 153, 154, 53, 155, 88, 89, 90, 91, 92, 93, 94, 156] (by decide +kernel) (by decide +kernel)
set_option maxRecDepth 20000 in
theorem gpL_isBestSo_X9 : GoodIn wsL_law wsX90 := goodIn_r _ [504, 505, 506, 507, 508, 509, 510, 511, 512, 513] (by decide +kernel) (by decide +kernel)
set_option maxRecDepth 20000 in
theorem gpL_isBestSo_X7 : GoodIn wsL_law wsX70 := goodIn_r _ [514, 515, 516, 517, 518, 519, 520, 521] (by decide +kernel) (by decide +kernel)
set_option maxRecDepth 20000 in
theorem gpL_isBestSo_X1 : GoodIn wsL_law wsX10 := goodIn_r _ [539, 540, 541] (by decide +kernel) (by decide +kernel)
set_option maxRecDepth 20000 in
theorem gpL_isBestSo_X4 : GoodIn wsL_law wsX40 := goodIn_r _ [532, 533, 534, 535, 536] (by decide +kernel) (by decide +kernel)
set_option maxRecDepth 20000 in
theorem gpL_isBestSo_X2 : GoodIn wsL_law wsX20 := goodIn_r _ [537, 538] (by decide +kernel) (by decide +kernel)
set_option maxRecDepth 20000 in
theorem gpL_isBestSo_X6 : GoodIn wsL_law wsX60 := goodIn_r _ [542, 543] (by decide +kernel) (by decide +kernel)
set_option maxRecDepth 20000 in
theorem gpL_isBestSo_X3 : GoodIn wsL_law wsX30 := goodIn_r _ [522, 523, 524] (by decide +kernel) (by decide +kernel)
set_option maxRecDepth 20000 in
theorem gpL_isBestSo_X8 : GoodIn wsL_law wsX80 := goodIn_r _ [525, 526] (by decide +kernel) (by decide +kernel)
set_option maxRecDepth 20000 in
theorem gpL_isBestSo_X0 : GoodIn wsL_law wsX00 := goodIn_r _ [544, 545, 546, 547, 548, 549, 550] (by decide +kernel) (by decide +kernel)
theorem ggL_law_L_isBestSo : GoodIn wsL_law wsL_isBestSo := goodIn_app gpL_isBestSo_0 (goodIn_app (goodIn_app (goodIn_app (goodIn_app (goodIn_app (goodIn_app (goodIn_app (goodIn_app (goodIn_app (goodIn_app gpL_isBestSo_1 (goodIn_app gpL_isBestSo_2 (goodIn_app gpL_isBestSo_3 (goodIn_app gpL_isBestSo_4 (goodIn_app gpL_isBestSo_5 (goodIn_app gpL_isBestSo_6 gpL_isBestSo_7)))))) gpL_isBestSo_X9) gpL_isBestSo_X7) gpL_isBestSo_X1) gpL_isBestSo_X4) gpL_isBestSo_X2) gpL_isBestSo_X6) gpL_isBestSo_X3) gpL_isBestSo_X8) gpL_isBestSo_X0)
set_option maxRecDepth 20000 in
theorem gL_law_L_isBestSo : GoodIn wsL_law (va_wsS RL 88 yL_isBestSo wsL_isBestSo) := goodIn_app (goodIn_of _ (by decide +kernel)) ggL_law_L_isBestSo
set_option maxRecDepth 20000 in
theorem ggL_law_L_low : GoodIn wsL_law wsL_low := goodIn_r _ [159, 160] (by decide +kernel) (by decide +kernel)
set_option maxRecDepth 20000 in
theorem gL_law_L_low : GoodIn wsL_law (va_wsS RL 14 yL_low wsL_low) := goodIn_app (goodIn_of _ (by decide +kernel)) ggL_law_L_low
set_option maxRecDepth 20000 in
theorem gpL_isShowSo_0 : GoodIn wsL_law [Cond.code yL_isShowSo cL_isShowSo 13 (some .boolean)] := goodIn_r _ [492] (by decide +kernel) (by decide +kernel)
set_option maxRecDepth 20000 in
theorem gpL_isShowSo_1 : GoodIn wsL_law wsL_isShowSo_r1 := goodIn_r _ [493, 494, 438, 439, 440, 2, 441, 13, 442, 443, 444, 12, 445, 200, 38, 46, 276, 206, 207, 144, 145, 146, 37, 147] (by decide +kernel) (by decide +kernel)
set_option maxRecDepth 20000 in
theorem gpL_isShowSo_2 : GoodIn wsL_law wsL_isShowSo_r2 := goodIn_r _ [63, 338, 339, 340, 341, 64, 346, 347, 348, 349, 350, 351, 204, 352, 353, 354, 355, 356, 67, 357, 358, 359, 360, 65] (by decide +kernel) (by decide +kernel)
set_option maxRecDepth 20000 in
theorem gpL_isShowSo_3 : GoodIn wsL_law wsL_isShowSo_r3 := goodIn_r _ [361, 330, 331, 332, 333, 56, 42, 334, 335, 336, 45, 337, 78, 77, 148, 149, 150, 41, 151, 72, 342, 343, 344, 345] (by decide +kernel) (by decide +kernel)
set_option maxRecDepth 20000 in
theorem gpL_isShowSo_4 : GoodIn wsL_law wsL_isShowSo_r4 := goodIn_r _ [73, 446, 447, 448, 449, 450, 451, 452, 453, 79, 124, 125, 126, 127, 19, 23, 128, 129, 130, 18, 131, 102, 132, 133] (by decide +kernel) (by decide +kernel)
set_option maxRecDepth 20000 in
theorem gpL_isShowSo_5 : GoodIn wsL_law wsL_isShowSo_r5 := goodIn_r _ [134, 22, 135, 108, 136, 137, 138, 139, 55, 57, 54, 140, 141, 142, 143, 152, 153, 154, 53, 155, 88, 89, 90, 91] (by decide +kernel) (by decide +kernel)
set_option maxRecDepth 20000 in
theorem gpL_isShowSo_6 : GoodIn wsL_law wsL_isShowSo_r6 := goodIn_r _ [92, 93, 94, 156, 454, 455, 456, 457, 458, 459, 460, 461, 319, 320, 462, 400, 401, 402, 403, 404, 405, 406, 407, 258] (by decide +kernel) (by decide +kernel)
set_option maxRecDepth 20000 in
theorem gpL_isShowSo_7 : GoodIn wsL_law wsL_isShowSo_r7 := goodIn_r _ [259, 260, 261, 262, 263, 408, 409, 410, 201, 279, 280, 281, 282, 321, 322, 323, 324, 14, 165, 166, 167, 168, 50, 169] (by decide +kernel) (by decide +kernel)
set_option maxRecDepth 20000 in
theorem gpL_isShowSo_8 : GoodIn wsL_law wsL_isShowSo_r8 := goodIn_r _ [170, 171, 172, 173, 174, 175, 176, 66, 177, 178, 179, 180, 181, 182, 183, 184, 185, 186, 187, 188, 189, 49, 190, 83] (by decide +kernel) (by decide +kernel)
set_option maxRecDepth 20000 in
theorem gpL_isShowSo_9 : GoodIn wsL_law wsL_isShowSo_r9 := goodIn_r _ [191, 84, 192, 193, 194, 195, 325, 326, 327, 328, 329, 362, 363, 364, 365, 366, 367, 368, 369, 370, 371, 372, 373, 374] (by decide +kernel) (by decide +kernel)
set_option maxRecDepth 20000 in
theorem gpL_isShowSo_10 : GoodIn wsL_law wsL_isShowSo_r10 := goodIn_r _ [375, 376, 377, 378, 379, 380, 381, 382, 221, 222, 383, 384, 385, 386, 212, 213, 214, 215, 216, 217, 218, 219, 100, 101] (by decide +kernel) (by decide +kernel)
set_option maxRecDepth 20000 in
theorem gpL_isShowSo_11 : GoodIn wsL_law wsL_isShowSo_r11 := goodIn_r _ [220, 223, 474, 475, 476, 477, 478, 479, 480, 481, 482, 483, 484, 485, 486, 487, 488, 489, 495, 496, 497, 498, 499, 500] (by decide +kernel) (by decide +kernel)
set_option maxRecDepth 20000 in
theorem gpL_isShowSo_12 : GoodIn wsL_law wsL_isShowSo_r12 := goodIn_r _ [501, 502, 503] (by decide +kernel) (by decide +kernel)
set_option maxRecDepth 20000 in
theorem gpL_isShowSo_X9 : GoodIn wsL_law wsX90 := goodIn_r _ [504, 505, 506, 507, 508, 509, 510, 511, 512, 513] (by decide +kernel) (by decide +kernel)
set_option maxRecDepth 20000 in
theorem gpL_isShowSo_X7 : GoodIn wsL_law wsX70 := goodIn_r _ [514, 515, 516, 517, 518, 519, 520, 521] (by decide +kernel) (by decide +kernel)
set_option maxRecDepth 20000 in
theorem gpL_isShowSo_X4 : GoodIn wsL_law wsX40 := goodIn_r _ [532, 533, 534, 535, 536] (by decide +kernel) (by decide +kernel)
set_option maxRecDepth 20000 in
theorem gpL_isShowSo_X1 : GoodIn wsL_law wsX10 := goodIn_r _ [539, 540, 541] (by decide +kernel) (by decide +kernel)
set_option maxRecDepth 20000 in
theorem gpL_isShowSo_X2 : GoodIn wsL_law wsX20 := goodIn_r _ [537, 538] (by decide +kernel) (by decide +kernel)
set_option maxRecDepth 20000 in
theorem gpL_isShowSo_X3 : GoodIn wsL_law wsX30 := goodIn_r _ [522, 523, 524] (by decide +kernel) (by decide +kernel)
set_option maxRecDepth 20000 in
theorem gpL_isShowSo_X8 : GoodIn wsL_law wsX80 := goodIn_r _ [525, 526] (by decide +kernel) (by decide +kernel)
set_option maxRecDepth 20000 in
theorem gpL_isShowSo_X0 : GoodIn wsL_law wsX00 := goodIn_r _ [544, 545, 546, 547, 548, 549, 550] (by decide +kernel) (by decide +kernel)
set_option maxRecDepth 20000 in
theorem gpL_isShowSo_X6 : GoodIn wsL_law wsX60 := goodIn_r _ [542, 543] (by decide +kernel) (by decide +kernel)
theorem ggL_law_L_isShowSo : GoodIn wsL_law wsL_isShowSo := goodIn_app gpL_isShowSo_0 (goodIn_app (goodIn_app (goodIn_app (goodIn_app (goodIn_app (goodIn_app (goodIn_app (goodIn_app (goodIn_app (goodIn_app gpL_isShowSo_1 (goodIn_app gpL_isShowSo_2 (goodIn_app gpL_isShowSo_3 (goodIn_app gpL_isShowSo_4 (goodIn_app gpL_isShowSo_5 (goodIn_app gpL_isShowSo_6 (goodIn_app gpL_isShowSo_7 (goodIn_app gpL_isShowSo_8 (goodIn_app gpL_isShowSo_9 (goodIn_app gpL_isShowSo_10 (goodIn_app gpL_isShowSo_11 gpL_isShowSo_12))))))))))) gpL_isShowSo_X9) gpL_isShowSo_X7) gpL_isShowSo_X4) gpL_isShowSo_X1) gpL_isShowSo_X2) gpL_isShowSo_X3) gpL_isShowSo_X8) gpL_isShowSo_X0) gpL_isShowSo_X6)
set_option maxRecDepth 20000 in
theorem gL_law_L_isShowSo : GoodIn wsL_law (va_wsS RL 91 yL_isShowSo wsL_isShowSo) := goodIn_app (goodIn_of _ (by decide +kernel)) ggL_law_L_isShowSo
theorem dL_law_0 : decode cL_law 0 = .ok (.new 9, 3) := by decide +kernel
theorem dL_law_3 : decode cL_law 3 = .ok (.dup, 1) := by decide +kernel
theorem dL_law_4 : decode cL_law 4 = .ok (.invokespecial 71, 3) := by decide +kernel
theorem dL_law_7 : decode cL_law 7 = .ok (.astore_n 1, 1) := by decide +kernel
theorem dL_law_8 : decode cL_law 8 = .ok (.iconst 0, 1) := by decide +kernel
theorem dL_law_9 : decode cL_law 9 = .ok (.istore_n 2, 1) := by decide +kernel
theorem dL_law_10 : decode cL_law 10 = .ok (.iload_n 2, 1) := by decide +kernel
theorem dL_law_11 : decode cL_law 11 = .ok (.bipush 60, 2) := by decide +kernel
theorem dL_law_13 : decode cL_law 13 = .ok (.if_icmp .ge 80, 3) := by decide +kernel
theorem dL_law_16 : decode cL_law 16 = .ok (.aload_n 0, 1) := by decide +kernel
theorem dL_law_17 : decode cL_law 17 = .ok (.iload_n 2, 1) := by decide +kernel
theorem dL_law_18 : decode cL_law 18 = .ok (.invokestatic 72, 3) := by decide +kernel
theorem dL_law_21 : decode cL_law 21 = .ok (.istore_n 3, 1) := by decide +kernel
theorem dL_law_22 : decode cL_law 22 = .ok (.aload_n 1, 1) := by decide +kernel
theorem dL_law_23 : decode cL_law 23 = .ok (.iload_n 3, 1) := by decide +kernel
theorem dL_law_24 : decode cL_law 24 = .ok (.invokestatic 76, 3) := by decide +kernel
theorem dL_law_27 : decode cL_law 27 = .ok (.istore 4, 2) := by decide +kernel
theorem dL_law_29 : decode cL_law 29 = .ok (.iload 4, 2) := by decide +kernel
theorem dL_law_31 : decode cL_law 31 = .ok (.ldc 80, 2) := by decide +kernel
theorem dL_law_33 : decode cL_law 33 = .ok (.if_icmp .lt 52, 3) := by decide +kernel
theorem dL_law_36 : decode cL_law 36 = .ok (.aload_n 1, 1) := by decide +kernel
theorem dL_law_37 : decode cL_law 37 = .ok (.invokestatic 81, 3) := by decide +kernel
theorem dL_law_40 : decode cL_law 40 = .ok (.ifCond .eq 45, 3) := by decide +kernel
theorem dL_law_43 : decode cL_law 43 = .ok (.aload_n 1, 1) := by decide +kernel
theorem dL_law_44 : decode cL_law 44 = .ok (.invokestatic 85, 3) := by decide +kernel
theorem dL_law_47 : decode cL_law 47 = .ok (.ifCond .eq 38, 3) := by decide +kernel
theorem dL_law_50 : decode cL_law 50 = .ok (.iload_n 2, 1) := by decide +kernel
theorem dL_law_51 : decode cL_law 51 = .ok (.iconst 2, 1) := by decide +kernel
theorem dL_law_52 : decode cL_law 52 = .ok (.irem, 1) := by decide +kernel
theorem dL_law_53 : decode cL_law 53 = .ok (.iconst 1, 1) := by decide +kernel
theorem dL_law_54 : decode cL_law 54 = .ok (.if_icmp .ne 10, 3) := by decide +kernel
theorem dL_law_57 : decode cL_law 57 = .ok (.aload_n 1, 1) := by decide +kernel
theorem dL_law_58 : decode cL_law 58 = .ok (.invokestatic 88, 3) := by decide +kernel
theorem dL_law_61 : decode cL_law 61 = .ok (.ifCond .eq 24, 3) := by decide +kernel
theorem dL_law_64 : decode cL_law 64 = .ok (.iload_n 2, 1) := by decide +kernel
theorem dL_law_65 : decode cL_law 65 = .ok (.iconst 3, 1) := by decide +kernel
theorem dL_law_66 : decode cL_law 66 = .ok (.irem, 1) := by decide +kernel
theorem dL_law_67 : decode cL_law 67 = .ok (.iconst 2, 1) := by decide +kernel
theorem dL_law_68 : decode cL_law 68 = .ok (.if_icmp .ne 19, 3) := by decide +kernel
theorem dL_law_71 : decode cL_law 71 = .ok (.aload_n 1, 1) := by decide +kernel
theorem dL_law_72 : decode cL_law 72 = .ok (.iload_n 3, 1) := by decide +kernel
theorem dL_law_73 : decode cL_law 73 = .ok (.iconst 5, 1) := by decide +kernel
theorem dL_law_74 : decode cL_law 74 = .ok (.ishr, 1) := by decide +kernel
theorem dL_law_75 : decode cL_law 75 = .ok (.iconst 5, 1) := by decide +kernel
theorem dL_law_76 : decode cL_law 76 = .ok (.invokestatic 14, 3) := by decide +kernel
theorem dL_law_79 : decode cL_law 79 = .ok (.invokestatic 91, 3) := by decide +kernel
theorem dL_law_82 : decode cL_law 82 = .ok (.ifCond .ne 5, 3) := by decide +kernel
theorem dL_law_85 : decode cL_law 85 = .ok (.iconst 0, 1) := by decide +kernel
theorem dL_law_86 : decode cL_law 86 = .ok (.ireturn, 1) := by decide +kernel
theorem dL_law_87 : decode cL_law 87 = .ok (.iinc 2 1, 3) := by decide +kernel
theorem dL_law_90 : decode cL_law 90 = .ok (.goto (-80), 3) := by decide +kernel
theorem dL_law_93 : decode cL_law 93 = .ok (.iconst 1, 1) := by decide +kernel
theorem dL_law_94 : decode cL_law 94 = .ok (.ireturn, 1) := by decide +kernel

