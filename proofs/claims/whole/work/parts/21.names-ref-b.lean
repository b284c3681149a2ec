theorem dX10_log_4 : decode cX10_log 4 = .ok (.iload 5, 2) := by decide +kernel
theorem dX10_log_6 : decode cX10_log 6 = .ok (.iconst 5, 1) := by decide +kernel
theorem dX10_log_7 : decode cX10_log 7 = .ok (.if_icmp .lt 31, 3) := by decide +kernel
theorem dX10_log_10 : decode cX10_log 10 = .ok (.aload_n 0, 1) := by decide +kernel
theorem dX10_log_11 : decode cX10_log 11 = .ok (.getfield 7, 3) := by decide +kernel
theorem dX10_log_14 : decode cX10_log 14 = .ok (.bipush 78, 2) := by decide +kernel
theorem dX10_log_16 : decode cX10_log 16 = .ok (.iload 5, 2) := by decide +kernel
theorem dX10_log_18 : decode cX10_log 18 = .ok (.iadd, 1) := by decide +kernel
theorem dX10_log_19 : decode cX10_log 19 = .ok (.aload_n 0, 1) := by decide +kernel
theorem dX10_log_20 : decode cX10_log 20 = .ok (.getfield 7, 3) := by decide +kernel
theorem dX10_log_23 : decode cX10_log 23 = .ok (.bipush 78, 2) := by decide +kernel
theorem dX10_log_25 : decode cX10_log 25 = .ok (.iload 5, 2) := by decide +kernel
theorem dX10_log_27 : decode cX10_log 27 = .ok (.iadd, 1) := by decide +kernel
theorem dX10_log_28 : decode cX10_log 28 = .ok (.iconst 5, 1) := by decide +kernel
theorem dX10_log_29 : decode cX10_log 29 = .ok (.isub, 1) := by decide +kernel
theorem dX10_log_30 : decode cX10_log 30 = .ok (.iaload, 1) := by decide +kernel
theorem dX10_log_31 : decode cX10_log 31 = .ok (.iastore, 1) := by decide +kernel
theorem dX10_log_32 : decode cX10_log 32 = .ok (.iinc 5 (-1), 3) := by decide +kernel
theorem dX10_log_35 : decode cX10_log 35 = .ok (.goto (-31), 3) := by decide +kernel
theorem dX10_log_38 : decode cX10_log 38 = .ok (.aload_n 0, 1) := by decide +kernel
theorem dX10_log_39 : decode cX10_log 39 = .ok (.getfield 7, 3) := by decide +kernel
theorem dX10_log_42 : decode cX10_log 42 = .ok (.bipush 78, 2) := by decide +kernel
theorem dX10_log_44 : decode cX10_log 44 = .ok (.aload_n 0, 1) := by decide +kernel
theorem dX10_log_45 : decode cX10_log 45 = .ok (.getfield 7, 3) := by decide +kernel
theorem dX10_log_48 : decode cX10_log 48 = .ok (.bipush 55, 2) := by decide +kernel
theorem dX10_log_50 : decode cX10_log 50 = .ok (.iaload, 1) := by decide +kernel
theorem dX10_log_51 : decode cX10_log 51 = .ok (.iastore, 1) := by decide +kernel
theorem dX10_log_52 : decode cX10_log 52 = .ok (.aload_n 0, 1) := by decide +kernel
theorem dX10_log_53 : decode cX10_log 53 = .ok (.getfield 7, 3) := by decide +kernel
theorem dX10_log_56 : decode cX10_log 56 = .ok (.bipush 79, 2) := by decide +kernel
theorem dX10_log_58 : decode cX10_log 58 = .ok (.iload_n 1, 1) := by decide +kernel
theorem dX10_log_59 : decode cX10_log 59 = .ok (.iastore, 1) := by decide +kernel
theorem dX10_log_60 : decode cX10_log 60 = .ok (.aload_n 0, 1) := by decide +kernel
theorem dX10_log_61 : decode cX10_log 61 = .ok (.getfield 7, 3) := by decide +kernel
theorem dX10_log_64 : decode cX10_log 64 = .ok (.bipush 80, 2) := by decide +kernel
theorem dX10_log_66 : decode cX10_log 66 = .ok (.iload_n 2, 1) := by decide +kernel
theorem dX10_log_67 : decode cX10_log 67 = .ok (.iastore, 1) := by decide +kernel
theorem dX10_log_68 : decode cX10_log 68 = .ok (.aload_n 0, 1) := by decide +kernel
theorem dX10_log_69 : decode cX10_log 69 = .ok (.getfield 7, 3) := by decide +kernel
theorem dX10_log_72 : decode cX10_log 72 = .ok (.bipush 81, 2) := by decide +kernel
theorem dX10_log_74 : decode cX10_log 74 = .ok (.iload_n 3, 1) := by decide +kernel
theorem dX10_log_75 : decode cX10_log 75 = .ok (.iastore, 1) := by decide +kernel
theorem dX10_log_76 : decode cX10_log 76 = .ok (.aload_n 0, 1) := by decide +kernel
theorem dX10_log_77 : decode cX10_log 77 = .ok (.getfield 7, 3) := by decide +kernel
theorem dX10_log_80 : decode cX10_log 80 = .ok (.bipush 82, 2) := by decide +kernel
theorem dX10_log_82 : decode cX10_log 82 = .ok (.iload 4, 2) := by decide +kernel
theorem dX10_log_84 : decode cX10_log 84 = .ok (.iastore, 1) := by decide +kernel
theorem dX10_log_85 : decode cX10_log 85 = .ok (.aload_n 0, 1) := by decide +kernel
theorem dX10_log_86 : decode cX10_log 86 = .ok (.getfield 7, 3) := by decide +kernel
theorem dX10_log_89 : decode cX10_log 89 = .ok (.bipush 77, 2) := by decide +kernel
theorem dX10_log_91 : decode cX10_log 91 = .ok (.dup2, 1) := by decide +kernel
theorem dX10_log_92 : decode cX10_log 92 = .ok (.iaload, 1) := by decide +kernel
theorem dX10_log_93 : decode cX10_log 93 = .ok (.aload_n 0, 1) := by decide +kernel
theorem dX10_log_94 : decode cX10_log 94 = .ok (.getfield 7, 3) := by decide +kernel
theorem dX10_log_97 : decode cX10_log 97 = .ok (.bipush 77, 2) := by decide +kernel
theorem dX10_log_99 : decode cX10_log 99 = .ok (.iaload, 1) := by decide +kernel
theorem dX10_log_100 : decode cX10_log 100 = .ok (.bipush 6, 2) := by decide +kernel
theorem dX10_log_102 : decode cX10_log 102 = .ok (.if_icmp .ge 7, 3) := by decide +kernel
theorem dX10_log_105 : decode cX10_log 105 = .ok (.iconst 1, 1) := by decide +kernel
theorem dX10_log_106 : decode cX10_log 106 = .ok (.goto 4, 3) := by decide +kernel
theorem dX10_log_109 : decode cX10_log 109 = .ok (.iconst 0, 1) := by decide +kernel
theorem dX10_log_110 : decode cX10_log 110 = .ok (.iadd, 1) := by decide +kernel
theorem dX10_log_111 : decode cX10_log 111 = .ok (.iastore, 1) := by decide +kernel
theorem dX10_log_112 : decode cX10_log 112 = .ok (.return_, 1) := by decide +kernel
set_option maxRecDepth 20000 in
theorem ggX10_shows_X10_peopleAt : GoodIn wsX10_shows wsX10_peopleAt := goodIn_r _ [6, 7, 8, 9, 5, 10, 1, 11, 12, 13, 14, 15, 16, 30, 31, 32, 33, 34, 35, 36, 37, 38, 39, 40, 41, 42, 43, 44, 45] (by decide +kernel) (by decide +kernel)
set_option maxRecDepth 20000 in
theorem gX10_shows_X10_peopleAt : GoodIn wsX10_shows (wsV RX10 69 RX10 yX10_peopleAt wsX10_peopleAt) := goodIn_app (goodIn_of _ (by decide +kernel)) ggX10_shows_X10_peopleAt
set_option maxRecDepth 20000 in
theorem ggX10_shows_X10_reels : GoodIn wsX10_shows wsX10_reels := goodIn_r _ [10, 1, 11, 12, 5, 13, 30, 31, 32, 33, 34, 35, 36, 37, 38, 39, 40, 41, 42, 43, 44, 45] (by decide +kernel) (by decide +kernel)
set_option maxRecDepth 20000 in
theorem gX10_shows_X10_reels : GoodIn wsX10_shows (wsV RX10 60 RX10 yX10_reels wsX10_reels) := goodIn_app (goodIn_of _ (by decide +kernel)) ggX10_shows_X10_reels
set_option maxRecDepth 20000 in
theorem ggX10_shows_X10_generatorFor : GoodIn wsX10_shows wsX10_generatorFor := goodIn_r _ [20, 1, 21, 30, 31, 32, 33, 34, 35, 36, 37, 38, 39, 40, 41, 42, 43, 44, 45] (by decide +kernel) (by decide +kernel)
set_option maxRecDepth 20000 in
theorem gX10_shows_X10_generatorFor : GoodIn wsX10_shows (wsV RX10 63 RX10 yX10_generatorFor wsX10_generatorFor) := goodIn_app (goodIn_of _ (by decide +kernel)) ggX10_shows_X10_generatorFor
set_option maxRecDepth 20000 in
theorem ggX10_shows_X10_of : GoodIn wsX10_shows wsX10_of := goodIn_r _ [13] (by decide +kernel) (by decide +kernel)
set_option maxRecDepth 20000 in
theorem gX10_shows_X10_of : GoodIn wsX10_shows (va_wsS RX10 33 yX10_of wsX10_of) := goodIn_app (goodIn_of _ (by decide +kernel)) ggX10_shows_X10_of
set_option maxRecDepth 20000 in
theorem ggX10_shows_X10_wear : GoodIn wsX10_shows wsX10_wear := goodIn_r _ [25, 1, 11, 12, 5, 13, 30, 31, 32, 33, 34, 35, 36, 37, 38, 39, 40, 41, 42, 43, 44, 45] (by decide +kernel) (by decide +kernel)
set_option maxRecDepth 20000 in
theorem gX10_shows_X10_wear : GoodIn wsX10_shows (wsV RX10 72 RX10 yX10_wear wsX10_wear) := goodIn_app (goodIn_of _ (by decide +kernel)) ggX10_shows_X10_wear
set_option maxRecDepth 20000 in
theorem ggX10_shows_X10_log : GoodIn wsX10_shows wsX10_log := goodIn_r _ [29, 1, 30, 31, 32, 33, 34, 35, 36, 37, 38, 39, 40, 41, 42, 43, 44, 45] (by decide +kernel) (by decide +kernel)
set_option maxRecDepth 20000 in
theorem gX10_shows_X10_log : GoodIn wsX10_shows (wsV RX10 76 RX10 yX10_log wsX10_log) := goodIn_app (goodIn_of _ (by decide +kernel)) ggX10_shows_X10_log
theorem dX10_shows_0 : decode cX10_shows 0 = .ok (.aload_n 0, 1) := by decide +kernel
theorem dX10_shows_1 : decode cX10_shows 1 = .ok (.iload_n 1, 1) := by decide +kernel
theorem dX10_shows_2 : decode cX10_shows 2 = .ok (.invokevirtual 69, 3) := by decide +kernel
theorem dX10_shows_5 : decode cX10_shows 5 = .ok (.istore_n 2, 1) := by decide +kernel
theorem dX10_shows_6 : decode cX10_shows 6 = .ok (.aload_n 0, 1) := by decide +kernel
theorem dX10_shows_7 : decode cX10_shows 7 = .ok (.iload_n 1, 1) := by decide +kernel
theorem dX10_shows_8 : decode cX10_shows 8 = .ok (.iconst 1, 1) := by decide +kernel
theorem dX10_shows_9 : decode cX10_shows 9 = .ok (.invokevirtual 60, 3) := by decide +kernel
theorem dX10_shows_12 : decode cX10_shows 12 = .ok (.istore_n 3, 1) := by decide +kernel
theorem dX10_shows_13 : decode cX10_shows 13 = .ok (.iload_n 2, 1) := by decide +kernel
theorem dX10_shows_14 : decode cX10_shows 14 = .ok (.aload_n 0, 1) := by decide +kernel
theorem dX10_shows_15 : decode cX10_shows 15 = .ok (.getfield 7, 3) := by decide +kernel
theorem dX10_shows_18 : decode cX10_shows 18 = .ok (.bipush 56, 2) := by decide +kernel
theorem dX10_shows_20 : decode cX10_shows 20 = .ok (.iaload, 1) := by decide +kernel
theorem dX10_shows_21 : decode cX10_shows 21 = .ok (.imul, 1) := by decide +kernel
theorem dX10_shows_22 : decode cX10_shows 22 = .ok (.istore 4, 2) := by decide +kernel
theorem dX10_shows_24 : decode cX10_shows 24 = .ok (.aload_n 0, 1) := by decide +kernel
theorem dX10_shows_25 : decode cX10_shows 25 = .ok (.getfield 7, 3) := by decide +kernel
theorem dX10_shows_28 : decode cX10_shows 28 = .ok (.bipush 50, 2) := by decide +kernel
theorem dX10_shows_30 : decode cX10_shows 30 = .ok (.iconst 2, 1) := by decide +kernel
theorem dX10_shows_31 : decode cX10_shows 31 = .ok (.aload_n 0, 1) := by decide +kernel
theorem dX10_shows_32 : decode cX10_shows 32 = .ok (.iload_n 1, 1) := by decide +kernel
theorem dX10_shows_33 : decode cX10_shows 33 = .ok (.iload_n 3, 1) := by decide +kernel
theorem dX10_shows_34 : decode cX10_shows 34 = .ok (.invokevirtual 63, 3) := by decide +kernel
theorem dX10_shows_37 : decode cX10_shows 37 = .ok (.imul, 1) := by decide +kernel
theorem dX10_shows_38 : decode cX10_shows 38 = .ok (.iadd, 1) := by decide +kernel
theorem dX10_shows_39 : decode cX10_shows 39 = .ok (.iconst 1, 1) := by decide +kernel
theorem dX10_shows_40 : decode cX10_shows 40 = .ok (.iadd, 1) := by decide +kernel
theorem dX10_shows_41 : decode cX10_shows 41 = .ok (.dup2, 1) := by decide +kernel
theorem dX10_shows_42 : decode cX10_shows 42 = .ok (.iaload, 1) := by decide +kernel
theorem dX10_shows_43 : decode cX10_shows 43 = .ok (.iload_n 3, 1) := by decide +kernel
theorem dX10_shows_44 : decode cX10_shows 44 = .ok (.isub, 1) := by decide +kernel
theorem dX10_shows_45 : decode cX10_shows 45 = .ok (.iastore, 1) := by decide +kernel
theorem dX10_shows_46 : decode cX10_shows 46 = .ok (.iconst 0, 1) := by decide +kernel
theorem dX10_shows_47 : decode cX10_shows 47 = .ok (.istore 5, 2) := by decide +kernel
theorem dX10_shows_49 : decode cX10_shows 49 = .ok (.iload 5, 2) := by decide +kernel
theorem dX10_shows_51 : decode cX10_shows 51 = .ok (.bipush 10, 2) := by decide +kernel
theorem dX10_shows_53 : decode cX10_shows 53 = .ok (.if_icmp .ge 52, 3) := by decide +kernel
theorem dX10_shows_56 : decode cX10_shows 56 = .ok (.aload_n 0, 1) := by decide +kernel
theorem dX10_shows_57 : decode cX10_shows 57 = .ok (.getfield 7, 3) := by decide +kernel
theorem dX10_shows_60 : decode cX10_shows 60 = .ok (.iload 5, 2) := by decide +kernel
theorem dX10_shows_62 : decode cX10_shows 62 = .ok (.iconst 0, 1) := by decide +kernel
theorem dX10_shows_63 : decode cX10_shows 63 = .ok (.invokestatic 33, 3) := by decide +kernel
theorem dX10_shows_66 : decode cX10_shows 66 = .ok (.iaload, 1) := by decide +kernel
theorem dX10_shows_67 : decode cX10_shows 67 = .ok (.iload_n 1, 1) := by decide +kernel
theorem dX10_shows_68 : decode cX10_shows 68 = .ok (.if_icmp .ne 31, 3) := by decide +kernel
theorem dX10_shows_71 : decode cX10_shows 71 = .ok (.aload_n 0, 1) := by decide +kernel
theorem dX10_shows_72 : decode cX10_shows 72 = .ok (.getfield 7, 3) := by decide +kernel
theorem dX10_shows_75 : decode cX10_shows 75 = .ok (.iload 5, 2) := by decide +kernel
theorem dX10_shows_77 : decode cX10_shows 77 = .ok (.iconst 4, 1) := by decide +kernel
theorem dX10_shows_78 : decode cX10_shows 78 = .ok (.invokestatic 33, 3) := by decide +kernel
theorem dX10_shows_81 : decode cX10_shows 81 = .ok (.dup2, 1) := by decide +kernel
theorem dX10_shows_82 : decode cX10_shows 82 = .ok (.iaload, 1) := by decide +kernel
theorem dX10_shows_83 : decode cX10_shows 83 = .ok (.iconst 1, 1) := by decide +kernel
theorem dX10_shows_84 : decode cX10_shows 84 = .ok (.iload_n 1, 1) := by decide +kernel
theorem dX10_shows_85 : decode cX10_shows 85 = .ok (.ishl, 1) := by decide +kernel
theorem dX10_shows_86 : decode cX10_shows 86 = .ok (.ior, 1) := by decide +kernel
theorem dX10_shows_87 : decode cX10_shows 87 = .ok (.iastore, 1) := by decide +kernel
theorem dX10_shows_88 : decode cX10_shows 88 = .ok (.aload_n 0, 1) := by decide +kernel
theorem dX10_shows_89 : decode cX10_shows 89 = .ok (.iload 5, 2) := by decide +kernel
theorem dX10_shows_91 : decode cX10_shows 91 = .ok (.iconst 5, 1) := by decide +kernel
theorem dX10_shows_92 : decode cX10_shows 92 = .ok (.iload_n 1, 1) := by decide +kernel
theorem dX10_shows_93 : decode cX10_shows 93 = .ok (.iconst 3, 1) := by decide +kernel
theorem dX10_shows_94 : decode cX10_shows 94 = .ok (.irem, 1) := by decide +kernel
theorem dX10_shows_95 : decode cX10_shows 95 = .ok (.iadd, 1) := by decide +kernel
theorem dX10_shows_96 : decode cX10_shows 96 = .ok (.invokevirtual 72, 3) := by decide +kernel
theorem dX10_shows_99 : decode cX10_shows 99 = .ok (.iinc 5 1, 3) := by decide +kernel
theorem dX10_shows_102 : decode cX10_shows 102 = .ok (.goto (-53), 3) := by decide +kernel
theorem dX10_shows_105 : decode cX10_shows 105 = .ok (.aload_n 0, 1) := by decide +kernel
theorem dX10_shows_106 : decode cX10_shows 106 = .ok (.getfield 7, 3) := by decide +kernel
theorem dX10_shows_109 : decode cX10_shows 109 = .ok (.bipush 57, 2) := by decide +kernel
theorem dX10_shows_111 : decode cX10_shows 111 = .ok (.iload_n 1, 1) := by decide +kernel
theorem dX10_shows_112 : decode cX10_shows 112 = .ok (.iadd, 1) := by decide +kernel
theorem dX10_shows_113 : decode cX10_shows 113 = .ok (.iconst 1, 1) := by decide +kernel
theorem dX10_shows_114 : decode cX10_shows 114 = .ok (.iastore, 1) := by decide +kernel
theorem dX10_shows_115 : decode cX10_shows 115 = .ok (.aload_n 0, 1) := by decide +kernel
theorem dX10_shows_116 : decode cX10_shows 116 = .ok (.getfield 7, 3) := by decide +kernel
theorem dX10_shows_119 : decode cX10_shows 119 = .ok (.bipush 62, 2) := by decide +kernel
theorem dX10_shows_121 : decode cX10_shows 121 = .ok (.iload_n 1, 1) := by decide +kernel
theorem dX10_shows_122 : decode cX10_shows 122 = .ok (.iadd, 1) := by decide +kernel
theorem dX10_shows_123 : decode cX10_shows 123 = .ok (.dup2, 1) := by decide +kernel
theorem dX10_shows_124 : decode cX10_shows 124 = .ok (.iaload, 1) := by decide +kernel
theorem dX10_shows_125 : decode cX10_shows 125 = .ok (.iconst 1, 1) := by decide +kernel
theorem dX10_shows_126 : decode cX10_shows 126 = .ok (.iadd, 1) := by decide +kernel
theorem dX10_shows_127 : decode cX10_shows 127 = .ok (.iastore, 1) := by decide +kernel
theorem dX10_shows_128 : decode cX10_shows 128 = .ok (.aload_n 0, 1) := by decide +kernel
theorem dX10_shows_129 : decode cX10_shows 129 = .ok (.getfield 7, 3) := by decide +kernel
theorem dX10_shows_132 : decode cX10_shows 132 = .ok (.bipush 67, 2) := by decide +kernel
theorem dX10_shows_134 : decode cX10_shows 134 = .ok (.iload_n 1, 1) := by decide +kernel
theorem dX10_shows_135 : decode cX10_shows 135 = .ok (.iadd, 1) := by decide +kernel
theorem dX10_shows_136 : decode cX10_shows 136 = .ok (.dup2, 1) := by decide +kernel
theorem dX10_shows_137 : decode cX10_shows 137 = .ok (.iaload, 1) := by decide +kernel
theorem dX10_shows_138 : decode cX10_shows 138 = .ok (.iload 4, 2) := by decide +kernel
theorem dX10_shows_140 : decode cX10_shows 140 = .ok (.iadd, 1) := by decide +kernel
theorem dX10_shows_141 : decode cX10_shows 141 = .ok (.iastore, 1) := by decide +kernel
theorem dX10_shows_142 : decode cX10_shows 142 = .ok (.aload_n 0, 1) := by decide +kernel
theorem dX10_shows_143 : decode cX10_shows 143 = .ok (.getfield 7, 3) := by decide +kernel
theorem dX10_shows_146 : decode cX10_shows 146 = .ok (.bipush 75, 2) := by decide +kernel
theorem dX10_shows_148 : decode cX10_shows 148 = .ok (.dup2, 1) := by decide +kernel
theorem dX10_shows_149 : decode cX10_shows 149 = .ok (.iaload, 1) := by decide +kernel
theorem dX10_shows_150 : decode cX10_shows 150 = .ok (.iload_n 2, 1) := by decide +kernel
theorem dX10_shows_151 : decode cX10_shows 151 = .ok (.iadd, 1) := by decide +kernel
theorem dX10_shows_152 : decode cX10_shows 152 = .ok (.iastore, 1) := by decide +kernel
theorem dX10_shows_153 : decode cX10_shows 153 = .ok (.aload_n 0, 1) := by decide +kernel
theorem dX10_shows_154 : decode cX10_shows 154 = .ok (.iload_n 1, 1) := by decide +kernel
theorem dX10_shows_155 : decode cX10_shows 155 = .ok (.iload_n 2, 1) := by decide +kernel
theorem dX10_shows_156 : decode cX10_shows 156 = .ok (.iload 4, 2) := by decide +kernel
theorem dX10_shows_158 : decode cX10_shows 158 = .ok (.iload_n 3, 1) := by decide +kernel
theorem dX10_shows_159 : decode cX10_shows 159 = .ok (.invokevirtual 76, 3) := by decide +kernel
theorem dX10_shows_162 : decode cX10_shows 162 = .ok (.iload 4, 2) := by decide +kernel
theorem dX10_shows_164 : decode cX10_shows 164 = .ok (.ireturn, 1) := by decide +kernel
theorem dX10_begins_0 : decode cX10_begins 0 = .ok (.aload_n 0, 1) := by decide +kernel
theorem dX10_begins_1 : decode cX10_begins 1 = .ok (.getfield 7, 3) := by decide +kernel
theorem dX10_begins_4 : decode cX10_begins 4 = .ok (.bipush 55, 2) := by decide +kernel
theorem dX10_begins_6 : decode cX10_begins 6 = .ok (.dup2, 1) := by decide +kernel
theorem dX10_begins_7 : decode cX10_begins 7 = .ok (.iaload, 1) := by decide +kernel
theorem dX10_begins_8 : decode cX10_begins 8 = .ok (.iconst 1, 1) := by decide +kernel
theorem dX10_begins_9 : decode cX10_begins 9 = .ok (.iadd, 1) := by decide +kernel
theorem dX10_begins_10 : decode cX10_begins 10 = .ok (.iastore, 1) := by decide +kernel
theorem dX10_begins_11 : decode cX10_begins 11 = .ok (.iconst 0, 1) := by decide +kernel
theorem dX10_begins_12 : decode cX10_begins 12 = .ok (.istore_n 1, 1) := by decide +kernel
theorem dX10_begins_13 : decode cX10_begins 13 = .ok (.iload_n 1, 1) := by decide +kernel
theorem dX10_begins_14 : decode cX10_begins 14 = .ok (.iconst 5, 1) := by decide +kernel
theorem dX10_begins_15 : decode cX10_begins 15 = .ok (.if_icmp .ge 19, 3) := by decide +kernel
theorem dX10_begins_18 : decode cX10_begins 18 = .ok (.aload_n 0, 1) := by decide +kernel
theorem dX10_begins_19 : decode cX10_begins 19 = .ok (.getfield 7, 3) := by decide +kernel
theorem dX10_begins_22 : decode cX10_begins 22 = .ok (.bipush 57, 2) := by decide +kernel
theorem dX10_begins_24 : decode cX10_begins 24 = .ok (.iload_n 1, 1) := by decide +kernel
theorem dX10_begins_25 : decode cX10_begins 25 = .ok (.iadd, 1) := by decide +kernel
theorem dX10_begins_26 : decode cX10_begins 26 = .ok (.iconst 0, 1) := by decide +kernel
theorem dX10_begins_27 : decode cX10_begins 27 = .ok (.iastore, 1) := by decide +kernel
theorem dX10_begins_28 : decode cX10_begins 28 = .ok (.iinc 1 1, 3) := by decide +kernel
theorem dX10_begins_31 : decode cX10_begins 31 = .ok (.goto (-18), 3) := by decide +kernel
theorem dX10_begins_34 : decode cX10_begins 34 = .ok (.aload_n 0, 1) := by decide +kernel
theorem dX10_begins_35 : decode cX10_begins 35 = .ok (.getfield 7, 3) := by decide +kernel
theorem dX10_begins_38 : decode cX10_begins 38 = .ok (.bipush 55, 2) := by decide +kernel
theorem dX10_begins_40 : decode cX10_begins 40 = .ok (.iaload, 1) := by decide +kernel
theorem dX10_begins_41 : decode cX10_begins 41 = .ok (.ireturn, 1) := by decide +kernel
set_option maxRecDepth 20000 in
theorem ggX10_drive_X10_isBarn : GoodIn wsX10_drive wsX10_isBarn := goodIn_r _ [7, 8, 9, 6, 10] (by decide +kernel) (by decide +kernel)
set_option maxRecDepth 20000 in
theorem gX10_drive_X10_isBarn : GoodIn wsX10_drive (va_wsS RX10 80 yX10_isBarn wsX10_isBarn) := goodIn_app (goodIn_of _ (by decide +kernel)) ggX10_drive_X10_isBarn
set_option maxRecDepth 20000 in
theorem ggX10_drive_X10_know : GoodIn wsX10_drive wsX10_know := goodIn_r _ [14, 15, 16, 2, 24, 25, 26, 27, 28, 29, 30, 31, 32, 33, 34, 35, 36, 37, 38, 39] (by decide +kernel) (by decide +kernel)
set_option maxRecDepth 20000 in
theorem gX10_drive_X10_know : GoodIn wsX10_drive (wsV RX10 83 RX10 yX10_know wsX10_know) := goodIn_app (goodIn_of _ (by decide +kernel)) ggX10_drive_X10_know
set_option maxRecDepth 20000 in
theorem ggX10_drive_X10_drives : GoodIn wsX10_drive wsX10_drives := goodIn_r _ [20, 2, 21, 22, 6, 23, 24, 25, 26, 27, 28, 29, 30, 31, 32, 33, 34, 35, 36, 37, 38, 39] (by decide +kernel) (by decide +kernel)
set_option maxRecDepth 20000 in
theorem gX10_drive_X10_drives : GoodIn wsX10_drive (wsV RX10 86 RX10 yX10_drives wsX10_drives) := goodIn_app (goodIn_of _ (by decide +kernel)) ggX10_drive_X10_drives
theorem dX10_drive_0 : decode cX10_drive 0 = .ok (.iload_n 1, 1) := by decide +kernel
theorem dX10_drive_1 : decode cX10_drive 1 = .ok (.invokestatic 80, 3) := by decide +kernel
theorem dX10_drive_4 : decode cX10_drive 4 = .ok (.ifCond .ne 6, 3) := by decide +kernel
theorem dX10_drive_7 : decode cX10_drive 7 = .ok (.ldc 58, 2) := by decide +kernel
theorem dX10_drive_9 : decode cX10_drive 9 = .ok (.ireturn, 1) := by decide +kernel
theorem dX10_drive_10 : decode cX10_drive 10 = .ok (.aload_n 0, 1) := by decide +kernel
theorem dX10_drive_11 : decode cX10_drive 11 = .ok (.getfield 7, 3) := by decide +kernel
theorem dX10_drive_14 : decode cX10_drive 14 = .ok (.bipush 54, 2) := by decide +kernel
theorem dX10_drive_16 : decode cX10_drive 16 = .ok (.iaload, 1) := by decide +kernel
theorem dX10_drive_17 : decode cX10_drive 17 = .ok (.iload_n 1, 1) := by decide +kernel
theorem dX10_drive_18 : decode cX10_drive 18 = .ok (.if_icmp .ne 6, 3) := by decide +kernel
theorem dX10_drive_21 : decode cX10_drive 21 = .ok (.ldc 25, 2) := by decide +kernel
theorem dX10_drive_23 : decode cX10_drive 23 = .ok (.ireturn, 1) := by decide +kernel
theorem dX10_drive_24 : decode cX10_drive 24 = .ok (.aload_n 0, 1) := by decide +kernel
theorem dX10_drive_25 : decode cX10_drive 25 = .ok (.invokevirtual 83, 3) := by decide +kernel
theorem dX10_drive_28 : decode cX10_drive 28 = .ok (.aload_n 0, 1) := by decide +kernel
theorem dX10_drive_29 : decode cX10_drive 29 = .ok (.iload_n 1, 1) := by decide +kernel
theorem dX10_drive_30 : decode cX10_drive 30 = .ok (.invokevirtual 86, 3) := by decide +kernel
theorem dX10_drive_33 : decode cX10_drive 33 = .ok (.ireturn, 1) := by decide +kernel
set_option maxRecDepth 20000 in
theorem ggX10_movesIf_X10_moveFault : GoodIn wsX10_movesIf wsX10_moveFault := goodIn_r _ [6, 7, 8, 9, 10, 11, 12, 13, 5, 14, 15, 16, 17, 28, 29, 30, 31, 32, 33, 34, 35, 36, 37, 38, 39, 40, 41, 42, 43] (by decide +kernel) (by decide +kernel)
set_option maxRecDepth 20000 in
theorem gX10_movesIf_X10_moveFault : GoodIn wsX10_movesIf (wsV RX10 89 RX10 yX10_moveFault wsX10_moveFault) := goodIn_app (goodIn_of _ (by decide +kernel)) ggX10_movesIf_X10_moveFault
set_option maxRecDepth 20000 in
theorem ggX10_movesIf_X10_know : GoodIn wsX10_movesIf wsX10_know := goodIn_r _ [21, 22, 23, 7, 28, 29, 30, 31, 32, 33, 34, 35, 36, 37, 38, 39, 40, 41, 42, 43] (by decide +kernel) (by decide +kernel)
set_option maxRecDepth 20000 in
theorem gX10_movesIf_X10_know : GoodIn wsX10_movesIf (wsV RX10 83 RX10 yX10_know wsX10_know) := goodIn_app (goodIn_of _ (by decide +kernel)) ggX10_movesIf_X10_know
set_option maxRecDepth 20000 in
theorem ggX10_movesIf_X10_moves : GoodIn wsX10_movesIf wsX10_moves := goodIn_r _ [27, 7, 8, 11, 12, 13, 5, 14, 15, 16, 17, 28, 29, 30, 31, 32, 33, 34, 35, 36, 37, 38, 39, 40, 41, 42, 43] (by decide +kernel) (by decide +kernel)
set_option maxRecDepth 20000 in
theorem gX10_movesIf_X10_moves : GoodIn wsX10_movesIf (wsV RX10 93 RX10 yX10_moves wsX10_moves) := goodIn_app (goodIn_of _ (by decide +kernel)) ggX10_movesIf_X10_moves
theorem dX10_movesIf_0 : decode cX10_movesIf 0 = .ok (.iload_n 1, 1) := by decide +kernel
theorem dX10_movesIf_1 : decode cX10_movesIf 1 = .ok (.ifCond .eq 12, 3) := by decide +kernel
theorem dX10_movesIf_4 : decode cX10_movesIf 4 = .ok (.aload_n 0, 1) := by decide +kernel
theorem dX10_movesIf_5 : decode cX10_movesIf 5 = .ok (.iload_n 2, 1) := by decide +kernel
theorem dX10_movesIf_6 : decode cX10_movesIf 6 = .ok (.iload_n 3, 1) := by decide +kernel
theorem dX10_movesIf_7 : decode cX10_movesIf 7 = .ok (.invokevirtual 89, 3) := by decide +kernel
theorem dX10_movesIf_10 : decode cX10_movesIf 10 = .ok (.goto 5, 3) := by decide +kernel
theorem dX10_movesIf_13 : decode cX10_movesIf 13 = .ok (.ldc 58, 2) := by decide +kernel
theorem dX10_movesIf_15 : decode cX10_movesIf 15 = .ok (.istore 4, 2) := by decide +kernel
theorem dX10_movesIf_17 : decode cX10_movesIf 17 = .ok (.iload 4, 2) := by decide +kernel
theorem dX10_movesIf_19 : decode cX10_movesIf 19 = .ok (.ifCond .ge 6, 3) := by decide +kernel
theorem dX10_movesIf_22 : decode cX10_movesIf 22 = .ok (.iload 4, 2) := by decide +kernel
theorem dX10_movesIf_24 : decode cX10_movesIf 24 = .ok (.ireturn, 1) := by decide +kernel
theorem dX10_movesIf_25 : decode cX10_movesIf 25 = .ok (.aload_n 0, 1) := by decide +kernel
theorem dX10_movesIf_26 : decode cX10_movesIf 26 = .ok (.invokevirtual 83, 3) := by decide +kernel
theorem dX10_movesIf_29 : decode cX10_movesIf 29 = .ok (.aload_n 0, 1) := by decide +kernel
theorem dX10_movesIf_30 : decode cX10_movesIf 30 = .ok (.iload_n 2, 1) := by decide +kernel
theorem dX10_movesIf_31 : decode cX10_movesIf 31 = .ok (.iload_n 3, 1) := by decide +kernel
theorem dX10_movesIf_32 : decode cX10_movesIf 32 = .ok (.invokevirtual 93, 3) := by decide +kernel
theorem dX10_movesIf_35 : decode cX10_movesIf 35 = .ok (.ireturn, 1) := by decide +kernel
set_option maxRecDepth 20000 in
theorem ggX10_moveReel_X10_isReel : GoodIn wsX10_moveReel wsX10_isReel := goodIn_r _ [5, 6, 7, 8, 4, 9, 10, 11, 12, 39, 40, 41, 42, 43, 44, 45, 46, 47, 48, 49, 50, 51, 52, 53, 54] (by decide +kernel) (by decide +kernel)
set_option maxRecDepth 20000 in
theorem gX10_moveReel_X10_isReel : GoodIn wsX10_moveReel (wsV RX10 96 RX10 yX10_isReel wsX10_isReel) := goodIn_app (goodIn_of _ (by decide +kernel)) ggX10_moveReel_X10_isReel
set_option maxRecDepth 20000 in
theorem ggX10_moveReel_X10_of : GoodIn wsX10_moveReel wsX10_of := goodIn_r _ [12] (by decide +kernel) (by decide +kernel)
set_option maxRecDepth 20000 in
theorem gX10_moveReel_X10_of : GoodIn wsX10_moveReel (va_wsS RX10 33 yX10_of wsX10_of) := goodIn_app (goodIn_of _ (by decide +kernel)) ggX10_moveReel_X10_of
set_option maxRecDepth 20000 in
theorem ggX10_moveReel_X10_movesIf : GoodIn wsX10_moveReel wsX10_movesIf := goodIn_r _ [16, 17, 18, 19, 20, 4, 21, 6, 22, 23, 24, 25, 26, 27, 28, 10, 11, 12, 29, 30, 31, 32, 33, 34, 35, 36, 37, 38, 39, 40, 41, 42, 43, 44, 45, 46, 47, 48, 49, 50, 51, 52, 53, 54] (by decide +kernel) (by decide +kernel)
set_option maxRecDepth 20000 in
theorem gX10_moveReel_X10_movesIf : GoodIn wsX10_moveReel (wsV RX10 99 RX10 yX10_movesIf wsX10_movesIf) := goodIn_app (goodIn_of _ (by decide +kernel)) ggX10_moveReel_X10_movesIf
theorem dX10_moveReel_0 : decode cX10_moveReel 0 = .ok (.aload_n 0, 1) := by decide +kernel
theorem dX10_moveReel_1 : decode cX10_moveReel 1 = .ok (.iload_n 1, 1) := by decide +kernel
theorem dX10_moveReel_2 : decode cX10_moveReel 2 = .ok (.invokevirtual 96, 3) := by decide +kernel
theorem dX10_moveReel_5 : decode cX10_moveReel 5 = .ok (.istore_n 3, 1) := by decide +kernel
theorem dX10_moveReel_6 : decode cX10_moveReel 6 = .ok (.aload_n 0, 1) := by decide +kernel
theorem dX10_moveReel_7 : decode cX10_moveReel 7 = .ok (.iload_n 3, 1) := by decide +kernel
theorem dX10_moveReel_8 : decode cX10_moveReel 8 = .ok (.iload_n 3, 1) := by decide +kernel
theorem dX10_moveReel_9 : decode cX10_moveReel 9 = .ok (.ifCond .eq 11, 3) := by decide +kernel
theorem dX10_moveReel_12 : decode cX10_moveReel 12 = .ok (.iload_n 1, 1) := by decide +kernel
theorem dX10_moveReel_13 : decode cX10_moveReel 13 = .ok (.iconst 0, 1) := by decide +kernel
theorem dX10_moveReel_14 : decode cX10_moveReel 14 = .ok (.invokestatic 33, 3) := by decide +kernel
theorem dX10_moveReel_17 : decode cX10_moveReel 17 = .ok (.goto 4, 3) := by decide +kernel
theorem dX10_moveReel_20 : decode cX10_moveReel 20 = .ok (.iconst 0, 1) := by decide +kernel
theorem dX10_moveReel_21 : decode cX10_moveReel 21 = .ok (.iload_n 2, 1) := by decide +kernel
theorem dX10_moveReel_22 : decode cX10_moveReel 22 = .ok (.invokevirtual 99, 3) := by decide +kernel
theorem dX10_moveReel_25 : decode cX10_moveReel 25 = .ok (.ireturn, 1) := by decide +kernel
set_option maxRecDepth 20000 in
theorem ggX10_moveGenerator_X10_isGenerator : GoodIn wsX10_moveGenerator wsX10_isGenerator := goodIn_r _ [4, 5, 6, 3, 7] (by decide +kernel) (by decide +kernel)
set_option maxRecDepth 20000 in
theorem gX10_moveGenerator_X10_isGenerator : GoodIn wsX10_moveGenerator (va_wsS RX10 54 yX10_isGenerator wsX10_isGenerator) := goodIn_app (goodIn_of _ (by decide +kernel)) ggX10_moveGenerator_X10_isGenerator
set_option maxRecDepth 20000 in
theorem ggX10_moveGenerator_X10_movesIf : GoodIn wsX10_moveGenerator wsX10_movesIf := goodIn_r _ [11, 12, 13, 14, 15, 3, 16, 17, 18, 19, 20, 21, 22, 23, 24, 25, 26, 27, 28, 29, 30, 31, 32, 33, 34, 35, 36, 37, 38, 39, 40, 41, 42, 43, 44, 45, 46, 47, 48, 49, 50, 51, 52, 53] (by decide +kernel) (by decide +kernel)
set_option maxRecDepth 20000 in
theorem gX10_moveGenerator_X10_movesIf : GoodIn wsX10_moveGenerator (wsV RX10 99 RX10 yX10_movesIf wsX10_movesIf) := goodIn_app (goodIn_of _ (by decide +kernel)) ggX10_moveGenerator_X10_movesIf
theorem dX10_moveGenerator_0 : decode cX10_moveGenerator 0 = .ok (.iload_n 1, 1) := by decide +kernel
theorem dX10_moveGenerator_1 : decode cX10_moveGenerator 1 = .ok (.invokestatic 54, 3) := by decide +kernel
theorem dX10_moveGenerator_4 : decode cX10_moveGenerator 4 = .ok (.istore_n 3, 1) := by decide +kernel
theorem dX10_moveGenerator_5 : decode cX10_moveGenerator 5 = .ok (.aload_n 0, 1) := by decide +kernel
theorem dX10_moveGenerator_6 : decode cX10_moveGenerator 6 = .ok (.iload_n 3, 1) := by decide +kernel
theorem dX10_moveGenerator_7 : decode cX10_moveGenerator 7 = .ok (.iload_n 3, 1) := by decide +kernel
theorem dX10_moveGenerator_8 : decode cX10_moveGenerator 8 = .ok (.ifCond .eq 12, 3) := by decide +kernel
theorem dX10_moveGenerator_11 : decode cX10_moveGenerator 11 = .ok (.bipush 50, 2) := by decide +kernel
theorem dX10_moveGenerator_13 : decode cX10_moveGenerator 13 = .ok (.iconst 2, 1) := by decide +kernel
theorem dX10_moveGenerator_14 : decode cX10_moveGenerator 14 = .ok (.iload_n 1, 1) := by decide +kernel
theorem dX10_moveGenerator_15 : decode cX10_moveGenerator 15 = .ok (.imul, 1) := by decide +kernel
theorem dX10_moveGenerator_16 : decode cX10_moveGenerator 16 = .ok (.iadd, 1) := by decide +kernel
theorem dX10_moveGenerator_17 : decode cX10_moveGenerator 17 = .ok (.goto 4, 3) := by decide +kernel
theorem dX10_moveGenerator_20 : decode cX10_moveGenerator 20 = .ok (.iconst 0, 1) := by decide +kernel
theorem dX10_moveGenerator_21 : decode cX10_moveGenerator 21 = .ok (.iload_n 2, 1) := by decide +kernel
theorem dX10_moveGenerator_22 : decode cX10_moveGenerator 22 = .ok (.invokevirtual 99, 3) := by decide +kernel
theorem dX10_moveGenerator_25 : decode cX10_moveGenerator 25 = .ok (.ireturn, 1) := by decide +kernel
set_option maxRecDepth 20000 in
theorem ggX10_fuel_X10_fuelFault : GoodIn wsX10_fuel wsX10_fuelFault := goodIn_r _ [5, 6, 7, 8, 9, 10, 11, 12, 13, 4, 14, 15, 16, 17, 28, 29, 30, 31, 32, 33, 34, 35, 36, 37, 38, 39, 40, 41, 42, 43] (by decide +kernel) (by decide +kernel)
set_option maxRecDepth 20000 in
theorem gX10_fuel_X10_fuelFault : GoodIn wsX10_fuel (wsV RX10 103 RX10 yX10_fuelFault wsX10_fuelFault) := goodIn_app (goodIn_of _ (by decide +kernel)) ggX10_fuel_X10_fuelFault
set_option maxRecDepth 20000 in
theorem ggX10_fuel_X10_know : GoodIn wsX10_fuel wsX10_know := goodIn_r _ [21, 22, 23, 8, 28, 29, 30, 31, 32, 33, 34, 35, 36, 37, 38, 39, 40, 41, 42, 43] (by decide +kernel) (by decide +kernel)
set_option maxRecDepth 20000 in
theorem gX10_fuel_X10_know : GoodIn wsX10_fuel (wsV RX10 83 RX10 yX10_know wsX10_know) := goodIn_app (goodIn_of _ (by decide +kernel)) ggX10_fuel_X10_know
set_option maxRecDepth 20000 in
theorem ggX10_fuel_X10_fuels : GoodIn wsX10_fuel wsX10_fuels := goodIn_r _ [27, 8, 28, 29, 30, 31, 32, 33, 34, 35, 36, 37, 38, 39, 40, 41, 42, 43] (by decide +kernel) (by decide +kernel)
set_option maxRecDepth 20000 in
theorem gX10_fuel_X10_fuels : GoodIn wsX10_fuel (wsV RX10 106 RX10 yX10_fuels wsX10_fuels) := goodIn_app (goodIn_of _ (by decide +kernel)) ggX10_fuel_X10_fuels
theorem dX10_fuel_0 : decode cX10_fuel 0 = .ok (.aload_n 0, 1) := by decide +kernel
theorem dX10_fuel_1 : decode cX10_fuel 1 = .ok (.iload_n 1, 1) := by decide +kernel
theorem dX10_fuel_2 : decode cX10_fuel 2 = .ok (.iload_n 2, 1) := by decide +kernel
theorem dX10_fuel_3 : decode cX10_fuel 3 = .ok (.invokevirtual 103, 3) := by decide +kernel
theorem dX10_fuel_6 : decode cX10_fuel 6 = .ok (.istore_n 3, 1) := by decide +kernel
theorem dX10_fuel_7 : decode cX10_fuel 7 = .ok (.iload_n 3, 1) := by decide +kernel
theorem dX10_fuel_8 : decode cX10_fuel 8 = .ok (.ifCond .ge 5, 3) := by decide +kernel
theorem dX10_fuel_11 : decode cX10_fuel 11 = .ok (.iload_n 3, 1) := by decide +kernel
theorem dX10_fuel_12 : decode cX10_fuel 12 = .ok (.ireturn, 1) := by decide +kernel
theorem dX10_fuel_13 : decode cX10_fuel 13 = .ok (.aload_n 0, 1) := by decide +kernel
theorem dX10_fuel_14 : decode cX10_fuel 14 = .ok (.invokevirtual 83, 3) := by decide +kernel
theorem dX10_fuel_17 : decode cX10_fuel 17 = .ok (.aload_n 0, 1) := by decide +kernel
theorem dX10_fuel_18 : decode cX10_fuel 18 = .ok (.iload_n 1, 1) := by decide +kernel
theorem dX10_fuel_19 : decode cX10_fuel 19 = .ok (.iload_n 2, 1) := by decide +kernel
theorem dX10_fuel_20 : decode cX10_fuel 20 = .ok (.invokevirtual 106, 3) := by decide +kernel
theorem dX10_fuel_23 : decode cX10_fuel 23 = .ok (.ireturn, 1) := by decide +kernel
set_option maxRecDepth 20000 in
theorem ggX10_renew_X10_isReel : GoodIn wsX10_renew wsX10_isReel := goodIn_r _ [9, 2, 10, 11, 8, 12, 13, 14, 15, 22, 23, 24, 25, 26, 27, 28, 29, 30, 31, 32, 33, 34, 35, 36, 37] (by decide +kernel) (by decide +kernel)
set_option maxRecDepth 20000 in
theorem gX10_renew_X10_isReel : GoodIn wsX10_renew (wsV RX10 96 RX10 yX10_isReel wsX10_isReel) := goodIn_app (goodIn_of _ (by decide +kernel)) ggX10_renew_X10_isReel
set_option maxRecDepth 20000 in
theorem ggX10_renew_X10_of : GoodIn wsX10_renew wsX10_of := goodIn_r _ [15] (by decide +kernel) (by decide +kernel)
set_option maxRecDepth 20000 in
theorem gX10_renew_X10_of : GoodIn wsX10_renew (va_wsS RX10 33 yX10_of wsX10_of) := goodIn_app (goodIn_of _ (by decide +kernel)) ggX10_renew_X10_of
set_option maxRecDepth 20000 in
theorem ggX10_renew_X10_know : GoodIn wsX10_renew wsX10_know := goodIn_r _ [19, 20, 21, 2, 22, 23, 24, 25, 26, 27, 28, 29, 30, 31, 32, 33, 34, 35, 36, 37] (by decide +kernel) (by decide +kernel)
set_option maxRecDepth 20000 in
theorem gX10_renew_X10_know : GoodIn wsX10_renew (wsV RX10 83 RX10 yX10_know wsX10_know) := goodIn_app (goodIn_of _ (by decide +kernel)) ggX10_renew_X10_know
theorem dX10_renew_0 : decode cX10_renew 0 = .ok (.aload_n 0, 1) := by decide +kernel
theorem dX10_renew_1 : decode cX10_renew 1 = .ok (.iload_n 1, 1) := by decide +kernel
theorem dX10_renew_2 : decode cX10_renew 2 = .ok (.invokevirtual 96, 3) := by decide +kernel
theorem dX10_renew_5 : decode cX10_renew 5 = .ok (.ifCond .ne 6, 3) := by decide +kernel
theorem dX10_renew_8 : decode cX10_renew 8 = .ok (.ldc 58, 2) := by decide +kernel
theorem dX10_renew_10 : decode cX10_renew 10 = .ok (.ireturn, 1) := by decide +kernel
theorem dX10_renew_11 : decode cX10_renew 11 = .ok (.aload_n 0, 1) := by decide +kernel
theorem dX10_renew_12 : decode cX10_renew 12 = .ok (.getfield 7, 3) := by decide +kernel
theorem dX10_renew_15 : decode cX10_renew 15 = .ok (.iload_n 1, 1) := by decide +kernel
theorem dX10_renew_16 : decode cX10_renew 16 = .ok (.iconst 0, 1) := by decide +kernel
theorem dX10_renew_17 : decode cX10_renew 17 = .ok (.invokestatic 33, 3) := by decide +kernel
theorem dX10_renew_20 : decode cX10_renew 20 = .ok (.iaload, 1) := by decide +kernel
theorem dX10_renew_21 : decode cX10_renew 21 = .ok (.ldc 25, 2) := by decide +kernel
theorem dX10_renew_23 : decode cX10_renew 23 = .ok (.if_icmp .eq 6, 3) := by decide +kernel
theorem dX10_renew_26 : decode cX10_renew 26 = .ok (.ldc 44, 2) := by decide +kernel
theorem dX10_renew_28 : decode cX10_renew 28 = .ok (.ireturn, 1) := by decide +kernel
theorem dX10_renew_29 : decode cX10_renew 29 = .ok (.aload_n 0, 1) := by decide +kernel
theorem dX10_renew_30 : decode cX10_renew 30 = .ok (.invokevirtual 83, 3) := by decide +kernel
theorem dX10_renew_33 : decode cX10_renew 33 = .ok (.aload_n 0, 1) := by decide +kernel
theorem dX10_renew_34 : decode cX10_renew 34 = .ok (.getfield 7, 3) := by decide +kernel
theorem dX10_renew_37 : decode cX10_renew 37 = .ok (.bipush 74, 2) := by decide +kernel
theorem dX10_renew_39 : decode cX10_renew 39 = .ok (.dup2, 1) := by decide +kernel
theorem dX10_renew_40 : decode cX10_renew 40 = .ok (.iaload, 1) := by decide +kernel
theorem dX10_renew_41 : decode cX10_renew 41 = .ok (.bipush 30, 2) := by decide +kernel
theorem dX10_renew_43 : decode cX10_renew 43 = .ok (.iadd, 1) := by decide +kernel
theorem dX10_renew_44 : decode cX10_renew 44 = .ok (.iastore, 1) := by decide +kernel
theorem dX10_renew_45 : decode cX10_renew 45 = .ok (.aload_n 0, 1) := by decide +kernel
theorem dX10_renew_46 : decode cX10_renew 46 = .ok (.getfield 7, 3) := by decide +kernel
theorem dX10_renew_49 : decode cX10_renew 49 = .ok (.iload_n 1, 1) := by decide +kernel
theorem dX10_renew_50 : decode cX10_renew 50 = .ok (.iconst 1, 1) := by decide +kernel
theorem dX10_renew_51 : decode cX10_renew 51 = .ok (.invokestatic 33, 3) := by decide +kernel
theorem dX10_renew_54 : decode cX10_renew 54 = .ok (.bipush 8, 2) := by decide +kernel
theorem dX10_renew_56 : decode cX10_renew 56 = .ok (.iload_n 1, 1) := by decide +kernel
theorem dX10_renew_57 : decode cX10_renew 57 = .ok (.iadd, 1) := by decide +kernel
theorem dX10_renew_58 : decode cX10_renew 58 = .ok (.iastore, 1) := by decide +kernel
theorem dX10_renew_59 : decode cX10_renew 59 = .ok (.aload_n 0, 1) := by decide +kernel
theorem dX10_renew_60 : decode cX10_renew 60 = .ok (.getfield 7, 3) := by decide +kernel
theorem dX10_renew_63 : decode cX10_renew 63 = .ok (.iload_n 1, 1) := by decide +kernel
theorem dX10_renew_64 : decode cX10_renew 64 = .ok (.iconst 2, 1) := by decide +kernel
theorem dX10_renew_65 : decode cX10_renew 65 = .ok (.invokestatic 33, 3) := by decide +kernel
theorem dX10_renew_68 : decode cX10_renew 68 = .ok (.iconst 0, 1) := by decide +kernel
theorem dX10_renew_69 : decode cX10_renew 69 = .ok (.iastore, 1) := by decide +kernel
theorem dX10_renew_70 : decode cX10_renew 70 = .ok (.aload_n 0, 1) := by decide +kernel
theorem dX10_renew_71 : decode cX10_renew 71 = .ok (.getfield 7, 3) := by decide +kernel
theorem dX10_renew_74 : decode cX10_renew 74 = .ok (.iload_n 1, 1) := by decide +kernel
theorem dX10_renew_75 : decode cX10_renew 75 = .ok (.iconst 3, 1) := by decide +kernel
theorem dX10_renew_76 : decode cX10_renew 76 = .ok (.invokestatic 33, 3) := by decide +kernel
theorem dX10_renew_79 : decode cX10_renew 79 = .ok (.iconst 0, 1) := by decide +kernel
theorem dX10_renew_80 : decode cX10_renew 80 = .ok (.iastore, 1) := by decide +kernel
theorem dX10_renew_81 : decode cX10_renew 81 = .ok (.aload_n 0, 1) := by decide +kernel
theorem dX10_renew_82 : decode cX10_renew 82 = .ok (.getfield 7, 3) := by decide +kernel
theorem dX10_renew_85 : decode cX10_renew 85 = .ok (.iload_n 1, 1) := by decide +kernel
theorem dX10_renew_86 : decode cX10_renew 86 = .ok (.iconst 4, 1) := by decide +kernel
theorem dX10_renew_87 : decode cX10_renew 87 = .ok (.invokestatic 33, 3) := by decide +kernel
theorem dX10_renew_90 : decode cX10_renew 90 = .ok (.iconst 0, 1) := by decide +kernel
theorem dX10_renew_91 : decode cX10_renew 91 = .ok (.iastore, 1) := by decide +kernel
theorem dX10_renew_92 : decode cX10_renew 92 = .ok (.bipush 8, 2) := by decide +kernel
theorem dX10_renew_94 : decode cX10_renew 94 = .ok (.iload_n 1, 1) := by decide +kernel
theorem dX10_renew_95 : decode cX10_renew 95 = .ok (.iadd, 1) := by decide +kernel
theorem dX10_renew_96 : decode cX10_renew 96 = .ok (.ireturn, 1) := by decide +kernel
set_option maxRecDepth 20000 in
theorem ggX10_setPrice_X10_in : GoodIn wsX10_setPrice wsX10_in := goodIn_r _ [7] (by decide +kernel) (by decide +kernel)
set_option maxRecDepth 20000 in
theorem gX10_setPrice_X10_in : GoodIn wsX10_setPrice (va_wsS RX10 37 yX10_in wsX10_in) := goodIn_app (goodIn_of _ (by decide +kernel)) ggX10_setPrice_X10_in
set_option maxRecDepth 20000 in
theorem ggX10_setPrice_X10_know : GoodIn wsX10_setPrice wsX10_know := goodIn_r _ [11, 12, 13, 2, 18, 19, 20, 21, 22, 23, 24, 25, 26, 27, 28, 29, 30, 31, 32, 33] (by decide +kernel) (by decide +kernel)
set_option maxRecDepth 20000 in
theorem gX10_setPrice_X10_know : GoodIn wsX10_setPrice (wsV RX10 83 RX10 yX10_know wsX10_know) := goodIn_app (goodIn_of _ (by decide +kernel)) ggX10_setPrice_X10_know
set_option maxRecDepth 20000 in
theorem ggX10_setPrice_X10_puts : GoodIn wsX10_setPrice wsX10_puts := goodIn_r _ [17, 2, 18, 19, 20, 21, 22, 23, 24, 25, 26, 27, 28, 29, 30, 31, 32, 33] (by decide +kernel) (by decide +kernel)
set_option maxRecDepth 20000 in
theorem gX10_setPrice_X10_puts : GoodIn wsX10_setPrice (wsV RX10 109 RX10 yX10_puts wsX10_puts) := goodIn_app (goodIn_of _ (by decide +kernel)) ggX10_setPrice_X10_puts
theorem dX10_setPrice_0 : decode cX10_setPrice 0 = .ok (.iload_n 1, 1) := by decide +kernel
theorem dX10_setPrice_1 : decode cX10_setPrice 1 = .ok (.iconst 1, 1) := by decide +kernel
theorem dX10_setPrice_2 : decode cX10_setPrice 2 = .ok (.bipush 99, 2) := by decide +kernel
theorem dX10_setPrice_4 : decode cX10_setPrice 4 = .ok (.invokestatic 37, 3) := by decide +kernel
theorem dX10_setPrice_7 : decode cX10_setPrice 7 = .ok (.ifCond .ne 6, 3) := by decide +kernel
theorem dX10_setPrice_10 : decode cX10_setPrice 10 = .ok (.ldc 59, 2) := by decide +kernel
theorem dX10_setPrice_12 : decode cX10_setPrice 12 = .ok (.ireturn, 1) := by decide +kernel
theorem dX10_setPrice_13 : decode cX10_setPrice 13 = .ok (.aload_n 0, 1) := by decide +kernel
theorem dX10_setPrice_14 : decode cX10_setPrice 14 = .ok (.getfield 7, 3) := by decide +kernel
theorem dX10_setPrice_17 : decode cX10_setPrice 17 = .ok (.bipush 56, 2) := by decide +kernel
theorem dX10_setPrice_19 : decode cX10_setPrice 19 = .ok (.iaload, 1) := by decide +kernel
theorem dX10_setPrice_20 : decode cX10_setPrice 20 = .ok (.iload_n 1, 1) := by decide +kernel
theorem dX10_setPrice_21 : decode cX10_setPrice 21 = .ok (.if_icmp .ne 6, 3) := by decide +kernel
theorem dX10_setPrice_24 : decode cX10_setPrice 24 = .ok (.ldc 25, 2) := by decide +kernel
theorem dX10_setPrice_26 : decode cX10_setPrice 26 = .ok (.ireturn, 1) := by decide +kernel
theorem dX10_setPrice_27 : decode cX10_setPrice 27 = .ok (.aload_n 0, 1) := by decide +kernel
theorem dX10_setPrice_28 : decode cX10_setPrice 28 = .ok (.invokevirtual 83, 3) := by decide +kernel
theorem dX10_setPrice_31 : decode cX10_setPrice 31 = .ok (.aload_n 0, 1) := by decide +kernel
theorem dX10_setPrice_32 : decode cX10_setPrice 32 = .ok (.bipush 56, 2) := by decide +kernel
theorem dX10_setPrice_34 : decode cX10_setPrice 34 = .ok (.iload_n 1, 1) := by decide +kernel
theorem dX10_setPrice_35 : decode cX10_setPrice 35 = .ok (.invokevirtual 109, 3) := by decide +kernel
theorem dX10_setPrice_38 : decode cX10_setPrice 38 = .ok (.ireturn, 1) := by decide +kernel
set_option maxRecDepth 20000 in
theorem ggX10_show_X10_isBarn : GoodIn wsX10_show wsX10_isBarn := goodIn_r _ [6, 7, 8, 5, 9] (by decide +kernel) (by decide +kernel)
set_option maxRecDepth 20000 in
theorem gX10_show_X10_isBarn : GoodIn wsX10_show (va_wsS RX10 80 yX10_isBarn wsX10_isBarn) := goodIn_app (goodIn_of _ (by decide +kernel)) ggX10_show_X10_isBarn
set_option maxRecDepth 20000 in
theorem ggX10_show_X10_why : GoodIn wsX10_show wsX10_why := goodIn_r _ [13, 14, 15, 16, 17, 18, 5, 19, 20, 21, 22, 23, 24, 25, 26, 52, 53, 54, 55, 56, 57, 58, 59, 60, 61, 62, 63, 64, 65, 66, 67] (by decide +kernel) (by decide +kernel)
set_option maxRecDepth 20000 in
theorem gX10_show_X10_why : GoodIn wsX10_show (wsV RX10 112 RX10 yX10_why wsX10_why) := goodIn_app (goodIn_of _ (by decide +kernel)) ggX10_show_X10_why
set_option maxRecDepth 20000 in
theorem ggX10_show_X10_know : GoodIn wsX10_show wsX10_know := goodIn_r _ [30, 31, 32, 14, 52, 53, 54, 55, 56, 57, 58, 59, 60, 61, 62, 63, 64, 65, 66, 67] (by decide +kernel) (by decide +kernel)
set_option maxRecDepth 20000 in
theorem gX10_show_X10_know : GoodIn wsX10_show (wsV RX10 83 RX10 yX10_know wsX10_know) := goodIn_app (goodIn_of _ (by decide +kernel)) ggX10_show_X10_know
set_option maxRecDepth 20000 in
theorem ggX10_show_X10_shows : GoodIn wsX10_show wsX10_shows := goodIn_r _ [36, 14, 37, 38, 39, 5, 40, 16, 17, 18, 19, 20, 21, 22, 41, 42, 43, 23, 24, 25, 26, 15, 44, 45, 46, 47, 48, 49, 50, 51, 52, 53, 54, 55, 56, 57, 58, 59, 60, 61, 62, 63, 64, 65, 66, 67] (by decide +kernel) (by decide +kernel)
set_option maxRecDepth 20000 in
theorem gX10_show_X10_shows : GoodIn wsX10_show (wsV RX10 116 RX10 yX10_shows wsX10_shows) := goodIn_app (goodIn_of _ (by decide +kernel)) ggX10_show_X10_shows
theorem dX10_show_0 : decode cX10_show 0 = .ok (.iload_n 1, 1) := by decide +kernel
theorem dX10_show_1 : decode cX10_show 1 = .ok (.invokestatic 80, 3) := by decide +kernel
theorem dX10_show_4 : decode cX10_show 4 = .ok (.ifCond .ne 6, 3) := by decide +kernel
theorem dX10_show_7 : decode cX10_show 7 = .ok (.ldc 58, 2) := by decide +kernel
theorem dX10_show_9 : decode cX10_show 9 = .ok (.ireturn, 1) := by decide +kernel
theorem dX10_show_10 : decode cX10_show 10 = .ok (.aload_n 0, 1) := by decide +kernel
theorem dX10_show_11 : decode cX10_show 11 = .ok (.iload_n 1, 1) := by decide +kernel
theorem dX10_show_12 : decode cX10_show 12 = .ok (.invokevirtual 112, 3) := by decide +kernel
theorem dX10_show_15 : decode cX10_show 15 = .ok (.istore_n 2, 1) := by decide +kernel
theorem dX10_show_16 : decode cX10_show 16 = .ok (.iload_n 2, 1) := by decide +kernel
theorem dX10_show_17 : decode cX10_show 17 = .ok (.ifCond .le 8, 3) := by decide +kernel
theorem dX10_show_20 : decode cX10_show 20 = .ok (.ldc 115, 2) := by decide +kernel
theorem dX10_show_22 : decode cX10_show 22 = .ok (.iload_n 2, 1) := by decide +kernel
theorem dX10_show_23 : decode cX10_show 23 = .ok (.isub, 1) := by decide +kernel
theorem dX10_show_24 : decode cX10_show 24 = .ok (.ireturn, 1) := by decide +kernel
theorem dX10_show_25 : decode cX10_show 25 = .ok (.aload_n 0, 1) := by decide +kernel
theorem dX10_show_26 : decode cX10_show 26 = .ok (.invokevirtual 83, 3) := by decide +kernel
theorem dX10_show_29 : decode cX10_show 29 = .ok (.aload_n 0, 1) := by decide +kernel
theorem dX10_show_30 : decode cX10_show 30 = .ok (.iload_n 1, 1) := by decide +kernel
theorem dX10_show_31 : decode cX10_show 31 = .ok (.invokevirtual 116, 3) := by decide +kernel
theorem dX10_show_34 : decode cX10_show 34 = .ok (.ireturn, 1) := by decide +kernel
set_option maxRecDepth 20000 in
theorem ggX10_nextDay_X10_know : GoodIn wsX10_nextDay wsX10_know := goodIn_r _ [7, 8, 9, 1, 14, 15, 16, 17, 18, 19, 20, 21, 22, 23, 24, 25, 26, 27, 28, 29] (by decide +kernel) (by decide +kernel)
set_option maxRecDepth 20000 in
theorem gX10_nextDay_X10_know : GoodIn wsX10_nextDay (wsV RX10 83 RX10 yX10_know wsX10_know) := goodIn_app (goodIn_of _ (by decide +kernel)) ggX10_nextDay_X10_know
set_option maxRecDepth 20000 in
theorem ggX10_nextDay_X10_begins : GoodIn wsX10_nextDay wsX10_begins := goodIn_r _ [13, 1, 14, 15, 16, 17, 18, 19, 20, 21, 22, 23, 24, 25, 26, 27, 28, 29] (by decide +kernel) (by decide +kernel)
set_option maxRecDepth 20000 in
theorem gX10_nextDay_X10_begins : GoodIn wsX10_nextDay (wsV RX10 119 RX10 yX10_begins wsX10_begins) := goodIn_app (goodIn_of _ (by decide +kernel)) ggX10_nextDay_X10_begins
theorem dX10_nextDay_0 : decode cX10_nextDay 0 = .ok (.aload_n 0, 1) := by decide +kernel
theorem dX10_nextDay_1 : decode cX10_nextDay 1 = .ok (.getfield 7, 3) := by decide +kernel
theorem dX10_nextDay_4 : decode cX10_nextDay 4 = .ok (.bipush 55, 2) := by decide +kernel
theorem dX10_nextDay_6 : decode cX10_nextDay 6 = .ok (.iaload, 1) := by decide +kernel
theorem dX10_nextDay_7 : decode cX10_nextDay 7 = .ok (.sipush 9999, 3) := by decide +kernel
theorem dX10_nextDay_10 : decode cX10_nextDay 10 = .ok (.if_icmp .ne 6, 3) := by decide +kernel
theorem dX10_nextDay_13 : decode cX10_nextDay 13 = .ok (.ldc 49, 2) := by decide +kernel
theorem dX10_nextDay_15 : decode cX10_nextDay 15 = .ok (.ireturn, 1) := by decide +kernel
theorem dX10_nextDay_16 : decode cX10_nextDay 16 = .ok (.aload_n 0, 1) := by decide +kernel
theorem dX10_nextDay_17 : decode cX10_nextDay 17 = .ok (.invokevirtual 83, 3) := by decide +kernel
theorem dX10_nextDay_20 : decode cX10_nextDay 20 = .ok (.aload_n 0, 1) := by decide +kernel
theorem dX10_nextDay_21 : decode cX10_nextDay 21 = .ok (.invokevirtual 119, 3) := by decide +kernel
theorem dX10_nextDay_24 : decode cX10_nextDay 24 = .ok (.ireturn, 1) := by decide +kernel
theorem dX10_type_0 : decode cX10_type 0 = .ok (.aload_n 0, 1) := by decide +kernel
theorem dX10_type_1 : decode cX10_type 1 = .ok (.getfield 122, 3) := by decide +kernel
theorem dX10_type_4 : decode cX10_type 4 = .ok (.bipush 80, 2) := by decide +kernel
theorem dX10_type_6 : decode cX10_type 6 = .ok (.if_icmp .ne 6, 3) := by decide +kernel
theorem dX10_type_9 : decode cX10_type 9 = .ok (.ldc 49, 2) := by decide +kernel
theorem dX10_type_11 : decode cX10_type 11 = .ok (.ireturn, 1) := by decide +kernel
theorem dX10_type_12 : decode cX10_type 12 = .ok (.aload_n 0, 1) := by decide +kernel
theorem dX10_type_13 : decode cX10_type 13 = .ok (.getfield 22, 3) := by decide +kernel
theorem dX10_type_16 : decode cX10_type 16 = .ok (.aload_n 0, 1) := by decide +kernel
theorem dX10_type_17 : decode cX10_type 17 = .ok (.getfield 122, 3) := by decide +kernel
theorem dX10_type_20 : decode cX10_type 20 = .ok (.iload_n 1, 1) := by decide +kernel
theorem dX10_type_21 : decode cX10_type 21 = .ok (.iastore, 1) := by decide +kernel
theorem dX10_type_22 : decode cX10_type 22 = .ok (.aload_n 0, 1) := by decide +kernel
theorem dX10_type_23 : decode cX10_type 23 = .ok (.dup, 1) := by decide +kernel
theorem dX10_type_24 : decode cX10_type 24 = .ok (.getfield 122, 3) := by decide +kernel
theorem dX10_type_27 : decode cX10_type 27 = .ok (.iconst 1, 1) := by decide +kernel
theorem dX10_type_28 : decode cX10_type 28 = .ok (.iadd, 1) := by decide +kernel
theorem dX10_type_29 : decode cX10_type 29 = .ok (.putfield 122, 3) := by decide +kernel
theorem dX10_type_32 : decode cX10_type 32 = .ok (.aload_n 0, 1) := by decide +kernel
theorem dX10_type_33 : decode cX10_type 33 = .ok (.getfield 122, 3) := by decide +kernel
theorem dX10_type_36 : decode cX10_type 36 = .ok (.ireturn, 1) := by decide +kernel
theorem dX10_clearText_0 : decode cX10_clearText 0 = .ok (.aload_n 0, 1) := by decide +kernel
theorem dX10_clearText_1 : decode cX10_clearText 1 = .ok (.getfield 122, 3) := by decide +kernel
theorem dX10_clearText_4 : decode cX10_clearText 4 = .ok (.istore_n 1, 1) := by decide +kernel
theorem dX10_clearText_5 : decode cX10_clearText 5 = .ok (.aload_n 0, 1) := by decide +kernel
theorem dX10_clearText_6 : decode cX10_clearText 6 = .ok (.iconst 0, 1) := by decide +kernel
theorem dX10_clearText_7 : decode cX10_clearText 7 = .ok (.putfield 122, 3) := by decide +kernel
theorem dX10_clearText_10 : decode cX10_clearText 10 = .ok (.iload_n 1, 1) := by decide +kernel
theorem dX10_clearText_11 : decode cX10_clearText 11 = .ok (.ireturn, 1) := by decide +kernel
set_option maxRecDepth 20000 in
theorem ggX10_sign_X10_in : GoodIn wsX10_sign wsX10_in := goodIn_r _ [8] (by decide +kernel) (by decide +kernel)
set_option maxRecDepth 20000 in
theorem gX10_sign_X10_in : GoodIn wsX10_sign (va_wsS RX10 37 yX10_in wsX10_in) := goodIn_app (goodIn_of _ (by decide +kernel)) ggX10_sign_X10_in
theorem dX10_sign_0 : decode cX10_sign 0 = .ok (.aload_n 0, 1) := by decide +kernel
theorem dX10_sign_1 : decode cX10_sign 1 = .ok (.getfield 125, 3) := by decide +kernel
theorem dX10_sign_4 : decode cX10_sign 4 = .ok (.aload_n 0, 1) := by decide +kernel
theorem dX10_sign_5 : decode cX10_sign 5 = .ok (.getfield 122, 3) := by decide +kernel
theorem dX10_sign_8 : decode cX10_sign 8 = .ok (.if_icmp .ge 15, 3) := by decide +kernel
theorem dX10_sign_11 : decode cX10_sign 11 = .ok (.aload_n 0, 1) := by decide +kernel
theorem dX10_sign_12 : decode cX10_sign 12 = .ok (.getfield 22, 3) := by decide +kernel
theorem dX10_sign_15 : decode cX10_sign 15 = .ok (.aload_n 0, 1) := by decide +kernel
theorem dX10_sign_16 : decode cX10_sign 16 = .ok (.getfield 125, 3) := by decide +kernel
theorem dX10_sign_19 : decode cX10_sign 19 = .ok (.iaload, 1) := by decide +kernel
theorem dX10_sign_20 : decode cX10_sign 20 = .ok (.goto 4, 3) := by decide +kernel
theorem dX10_sign_23 : decode cX10_sign 23 = .ok (.iconst 0, 1) := by decide +kernel
theorem dX10_sign_24 : decode cX10_sign 24 = .ok (.istore_n 3, 1) := by decide +kernel
theorem dX10_sign_25 : decode cX10_sign 25 = .ok (.aload_n 0, 1) := by decide +kernel
theorem dX10_sign_26 : decode cX10_sign 26 = .ok (.aload_n 0, 1) := by decide +kernel
theorem dX10_sign_27 : decode cX10_sign 27 = .ok (.getfield 128, 3) := by decide +kernel
theorem dX10_sign_30 : decode cX10_sign 30 = .ok (.ifCond .ne 12, 3) := by decide +kernel
theorem dX10_sign_33 : decode cX10_sign 33 = .ok (.iload_n 3, 1) := by decide +kernel
theorem dX10_sign_34 : decode cX10_sign 34 = .ok (.iload_n 1, 1) := by decide +kernel
theorem dX10_sign_35 : decode cX10_sign 35 = .ok (.iload_n 2, 1) := by decide +kernel
theorem dX10_sign_36 : decode cX10_sign 36 = .ok (.invokestatic 37, 3) := by decide +kernel
theorem dX10_sign_39 : decode cX10_sign 39 = .ok (.ifCond .ne 7, 3) := by decide +kernel
theorem dX10_sign_42 : decode cX10_sign 42 = .ok (.iconst 1, 1) := by decide +kernel
theorem dX10_sign_43 : decode cX10_sign 43 = .ok (.goto 4, 3) := by decide +kernel
theorem dX10_sign_46 : decode cX10_sign 46 = .ok (.iconst 0, 1) := by decide +kernel
theorem dX10_sign_47 : decode cX10_sign 47 = .ok (.putfield 128, 3) := by decide +kernel
theorem dX10_sign_50 : decode cX10_sign 50 = .ok (.aload_n 0, 1) := by decide +kernel
theorem dX10_sign_51 : decode cX10_sign 51 = .ok (.dup, 1) := by decide +kernel
theorem dX10_sign_52 : decode cX10_sign 52 = .ok (.getfield 125, 3) := by decide +kernel
theorem dX10_sign_55 : decode cX10_sign 55 = .ok (.aload_n 0, 1) := by decide +kernel
theorem dX10_sign_56 : decode cX10_sign 56 = .ok (.getfield 128, 3) := by decide +kernel
theorem dX10_sign_59 : decode cX10_sign 59 = .ok (.ifCond .eq 7, 3) := by decide +kernel
theorem dX10_sign_62 : decode cX10_sign 62 = .ok (.iconst 0, 1) := by decide +kernel
theorem dX10_sign_63 : decode cX10_sign 63 = .ok (.goto 4, 3) := by decide +kernel
theorem dX10_sign_66 : decode cX10_sign 66 = .ok (.iconst 1, 1) := by decide +kernel
theorem dX10_sign_67 : decode cX10_sign 67 = .ok (.iadd, 1) := by decide +kernel
theorem dX10_sign_68 : decode cX10_sign 68 = .ok (.putfield 125, 3) := by decide +kernel
theorem dX10_sign_71 : decode cX10_sign 71 = .ok (.iload_n 3, 1) := by decide +kernel
theorem dX10_sign_72 : decode cX10_sign 72 = .ok (.ireturn, 1) := by decide +kernel
set_option maxRecDepth 20000 in
theorem ggX10_minutes_X10_sign : GoodIn wsX10_minutes wsX10_sign := goodIn_r _ [9, 2, 3, 4, 1, 10, 11, 8, 12, 13, 14, 15, 16, 17, 18, 19, 20, 21, 22, 23, 24, 25, 26, 27, 28] (by decide +kernel) (by decide +kernel)
set_option maxRecDepth 20000 in
theorem gX10_minutes_X10_sign : GoodIn wsX10_minutes (wsV RX10 132 RX10 yX10_sign wsX10_sign) := goodIn_app (goodIn_of _ (by decide +kernel)) ggX10_minutes_X10_sign
set_option maxRecDepth 20000 in
theorem ggX10_minutes_X10_in : GoodIn wsX10_minutes wsX10_in := goodIn_r _ [12] (by decide +kernel) (by decide +kernel)
set_option maxRecDepth 20000 in
theorem gX10_minutes_X10_in : GoodIn wsX10_minutes (va_wsS RX10 37 yX10_in wsX10_in) := goodIn_app (goodIn_of _ (by decide +kernel)) ggX10_minutes_X10_in
theorem dX10_minutes_0 : decode cX10_minutes 0 = .ok (.aload_n 0, 1) := by decide +kernel
theorem dX10_minutes_1 : decode cX10_minutes 1 = .ok (.bipush 49, 2) := by decide +kernel
theorem dX10_minutes_3 : decode cX10_minutes 3 = .ok (.bipush 57, 2) := by decide +kernel
theorem dX10_minutes_5 : decode cX10_minutes 5 = .ok (.invokevirtual 132, 3) := by decide +kernel
theorem dX10_minutes_8 : decode cX10_minutes 8 = .ok (.bipush 48, 2) := by decide +kernel
theorem dX10_minutes_10 : decode cX10_minutes 10 = .ok (.isub, 1) := by decide +kernel
theorem dX10_minutes_11 : decode cX10_minutes 11 = .ok (.istore_n 1, 1) := by decide +kernel
theorem dX10_minutes_12 : decode cX10_minutes 12 = .ok (.aload_n 0, 1) := by decide +kernel
theorem dX10_minutes_13 : decode cX10_minutes 13 = .ok (.getfield 128, 3) := by decide +kernel
theorem dX10_minutes_16 : decode cX10_minutes 16 = .ok (.ifCond .ne 76, 3) := by decide +kernel
theorem dX10_minutes_19 : decode cX10_minutes 19 = .ok (.aload_n 0, 1) := by decide +kernel
theorem dX10_minutes_20 : decode cX10_minutes 20 = .ok (.getfield 125, 3) := by decide +kernel
theorem dX10_minutes_23 : decode cX10_minutes 23 = .ok (.aload_n 0, 1) := by decide +kernel
theorem dX10_minutes_24 : decode cX10_minutes 24 = .ok (.getfield 122, 3) := by decide +kernel
theorem dX10_minutes_27 : decode cX10_minutes 27 = .ok (.if_icmp .ge 65, 3) := by decide +kernel
theorem dX10_minutes_30 : decode cX10_minutes 30 = .ok (.aload_n 0, 1) := by decide +kernel
theorem dX10_minutes_31 : decode cX10_minutes 31 = .ok (.getfield 22, 3) := by decide +kernel
theorem dX10_minutes_34 : decode cX10_minutes 34 = .ok (.aload_n 0, 1) := by decide +kernel
theorem dX10_minutes_35 : decode cX10_minutes 35 = .ok (.getfield 125, 3) := by decide +kernel
theorem dX10_minutes_38 : decode cX10_minutes 38 = .ok (.iaload, 1) := by decide +kernel
theorem dX10_minutes_39 : decode cX10_minutes 39 = .ok (.bipush 48, 2) := by decide +kernel
theorem dX10_minutes_41 : decode cX10_minutes 41 = .ok (.bipush 57, 2) := by decide +kernel
theorem dX10_minutes_43 : decode cX10_minutes 43 = .ok (.invokestatic 37, 3) := by decide +kernel
theorem dX10_minutes_46 : decode cX10_minutes 46 = .ok (.ifCond .eq 46, 3) := by decide +kernel
theorem dX10_minutes_49 : decode cX10_minutes 49 = .ok (.bipush 10, 2) := by decide +kernel
theorem dX10_minutes_51 : decode cX10_minutes 51 = .ok (.iload_n 1, 1) := by decide +kernel
theorem dX10_minutes_52 : decode cX10_minutes 52 = .ok (.imul, 1) := by decide +kernel
theorem dX10_minutes_53 : decode cX10_minutes 53 = .ok (.aload_n 0, 1) := by decide +kernel
theorem dX10_minutes_54 : decode cX10_minutes 54 = .ok (.getfield 22, 3) := by decide +kernel
theorem dX10_minutes_57 : decode cX10_minutes 57 = .ok (.aload_n 0, 1) := by decide +kernel
theorem dX10_minutes_58 : decode cX10_minutes 58 = .ok (.getfield 125, 3) := by decide +kernel
theorem dX10_minutes_61 : decode cX10_minutes 61 = .ok (.iaload, 1) := by decide +kernel
theorem dX10_minutes_62 : decode cX10_minutes 62 = .ok (.iadd, 1) := by decide +kernel
theorem dX10_minutes_63 : decode cX10_minutes 63 = .ok (.bipush 48, 2) := by decide +kernel
theorem dX10_minutes_65 : decode cX10_minutes 65 = .ok (.isub, 1) := by decide +kernel
theorem dX10_minutes_66 : decode cX10_minutes 66 = .ok (.sipush 500, 3) := by decide +kernel
theorem dX10_minutes_69 : decode cX10_minutes 69 = .ok (.if_icmp .gt 23, 3) := by decide +kernel
theorem dX10_minutes_72 : decode cX10_minutes 72 = .ok (.bipush 10, 2) := by decide +kernel
theorem dX10_minutes_74 : decode cX10_minutes 74 = .ok (.iload_n 1, 1) := by decide +kernel
theorem dX10_minutes_75 : decode cX10_minutes 75 = .ok (.imul, 1) := by decide +kernel
theorem dX10_minutes_76 : decode cX10_minutes 76 = .ok (.aload_n 0, 1) := by decide +kernel
theorem dX10_minutes_77 : decode cX10_minutes 77 = .ok (.bipush 48, 2) := by decide +kernel
theorem dX10_minutes_79 : decode cX10_minutes 79 = .ok (.bipush 57, 2) := by decide +kernel
theorem dX10_minutes_81 : decode cX10_minutes 81 = .ok (.invokevirtual 132, 3) := by decide +kernel
theorem dX10_minutes_84 : decode cX10_minutes 84 = .ok (.iadd, 1) := by decide +kernel
theorem dX10_minutes_85 : decode cX10_minutes 85 = .ok (.bipush 48, 2) := by decide +kernel
theorem dX10_minutes_87 : decode cX10_minutes 87 = .ok (.isub, 1) := by decide +kernel
theorem dX10_minutes_88 : decode cX10_minutes 88 = .ok (.istore_n 1, 1) := by decide +kernel
theorem dX10_minutes_89 : decode cX10_minutes 89 = .ok (.goto (-77), 3) := by decide +kernel
theorem dX10_minutes_92 : decode cX10_minutes 92 = .ok (.aload_n 0, 1) := by decide +kernel
theorem dX10_minutes_93 : decode cX10_minutes 93 = .ok (.aload_n 0, 1) := by decide +kernel
theorem dX10_minutes_94 : decode cX10_minutes 94 = .ok (.getfield 128, 3) := by decide +kernel
theorem dX10_minutes_97 : decode cX10_minutes 97 = .ok (.ifCond .ne 9, 3) := by decide +kernel
theorem dX10_minutes_100 : decode cX10_minutes 100 = .ok (.iload_n 1, 1) := by decide +kernel
theorem dX10_minutes_101 : decode cX10_minutes 101 = .ok (.iconst 5, 1) := by decide +kernel
theorem dX10_minutes_102 : decode cX10_minutes 102 = .ok (.irem, 1) := by decide +kernel
theorem dX10_minutes_103 : decode cX10_minutes 103 = .ok (.ifCond .eq 7, 3) := by decide +kernel
theorem dX10_minutes_106 : decode cX10_minutes 106 = .ok (.iconst 1, 1) := by decide +kernel
theorem dX10_minutes_107 : decode cX10_minutes 107 = .ok (.goto 4, 3) := by decide +kernel
theorem dX10_minutes_110 : decode cX10_minutes 110 = .ok (.iconst 0, 1) := by decide +kernel
theorem dX10_minutes_111 : decode cX10_minutes 111 = .ok (.putfield 128, 3) := by decide +kernel
theorem dX10_minutes_114 : decode cX10_minutes 114 = .ok (.iload_n 1, 1) := by decide +kernel
theorem dX10_minutes_115 : decode cX10_minutes 115 = .ok (.ireturn, 1) := by decide +kernel
set_option maxRecDepth 20000 in
theorem ggX10_read_X10_sign : GoodIn wsX10_read wsX10_sign := goodIn_r _ [12, 1, 2, 3, 4, 13, 14, 11, 15, 20, 21, 22, 23, 24, 25, 26, 27, 28, 29, 30, 31, 32, 33, 34, 35] (by decide +kernel) (by decide +kernel)
set_option maxRecDepth 20000 in
theorem gX10_read_X10_sign : GoodIn wsX10_read (wsV RX10 132 RX10 yX10_sign wsX10_sign) := goodIn_app (goodIn_of _ (by decide +kernel)) ggX10_read_X10_sign
set_option maxRecDepth 20000 in
theorem ggX10_read_X10_minutes : GoodIn wsX10_read wsX10_minutes := goodIn_r _ [19, 4, 1, 2, 3, 8, 9, 10, 11, 12, 13, 14, 15, 20, 21, 22, 23, 24, 25, 26, 27, 28, 29, 30, 31, 32, 33, 34, 35] (by decide +kernel) (by decide +kernel)
set_option maxRecDepth 20000 in
theorem gX10_read_X10_minutes : GoodIn wsX10_read (wsV RX10 141 RX10 yX10_minutes wsX10_minutes) := goodIn_app (goodIn_of _ (by decide +kernel)) ggX10_read_X10_minutes
theorem dX10_read_0 : decode cX10_read 0 = .ok (.aload_n 0, 1) := by decide +kernel
theorem dX10_read_1 : decode cX10_read 1 = .ok (.getfield 125, 3) := by decide +kernel
theorem dX10_read_4 : decode cX10_read 4 = .ok (.aload_n 0, 1) := by decide +kernel
theorem dX10_read_5 : decode cX10_read 5 = .ok (.getfield 122, 3) := by decide +kernel
theorem dX10_read_8 : decode cX10_read 8 = .ok (.if_icmp .ge 15, 3) := by decide +kernel
theorem dX10_read_11 : decode cX10_read 11 = .ok (.aload_n 0, 1) := by decide +kernel
theorem dX10_read_12 : decode cX10_read 12 = .ok (.getfield 22, 3) := by decide +kernel
theorem dX10_read_15 : decode cX10_read 15 = .ok (.aload_n 0, 1) := by decide +kernel
theorem dX10_read_16 : decode cX10_read 16 = .ok (.getfield 125, 3) := by decide +kernel
theorem dX10_read_19 : decode cX10_read 19 = .ok (.iaload, 1) := by decide +kernel
theorem dX10_read_20 : decode cX10_read 20 = .ok (.goto 4, 3) := by decide +kernel
theorem dX10_read_23 : decode cX10_read 23 = .ok (.iconst 0, 1) := by decide +kernel
theorem dX10_read_24 : decode cX10_read 24 = .ok (.istore_n 1, 1) := by decide +kernel
theorem dX10_read_25 : decode cX10_read 25 = .ok (.aload_n 0, 1) := by decide +kernel
theorem dX10_read_26 : decode cX10_read 26 = .ok (.aload_n 0, 1) := by decide +kernel
theorem dX10_read_27 : decode cX10_read 27 = .ok (.getfield 128, 3) := by decide +kernel
theorem dX10_read_30 : decode cX10_read 30 = .ok (.ifCond .ne 45, 3) := by decide +kernel
theorem dX10_read_33 : decode cX10_read 33 = .ok (.iload_n 1, 1) := by decide +kernel
theorem dX10_read_34 : decode cX10_read 34 = .ok (.bipush 118, 2) := by decide +kernel
theorem dX10_read_36 : decode cX10_read 36 = .ok (.if_icmp .eq 43, 3) := by decide +kernel
theorem dX10_read_39 : decode cX10_read 39 = .ok (.iload_n 1, 1) := by decide +kernel
theorem dX10_read_40 : decode cX10_read 40 = .ok (.bipush 43, 2) := by decide +kernel
theorem dX10_read_42 : decode cX10_read 42 = .ok (.if_icmp .eq 37, 3) := by decide +kernel
theorem dX10_read_45 : decode cX10_read 45 = .ok (.iload_n 1, 1) := by decide +kernel
theorem dX10_read_46 : decode cX10_read 46 = .ok (.bipush 45, 2) := by decide +kernel
theorem dX10_read_48 : decode cX10_read 48 = .ok (.if_icmp .eq 31, 3) := by decide +kernel
theorem dX10_read_51 : decode cX10_read 51 = .ok (.iload_n 1, 1) := by decide +kernel
theorem dX10_read_52 : decode cX10_read 52 = .ok (.bipush 103, 2) := by decide +kernel
theorem dX10_read_54 : decode cX10_read 54 = .ok (.if_icmp .eq 25, 3) := by decide +kernel
theorem dX10_read_57 : decode cX10_read 57 = .ok (.iload_n 1, 1) := by decide +kernel
theorem dX10_read_58 : decode cX10_read 58 = .ok (.bipush 102, 2) := by decide +kernel
theorem dX10_read_60 : decode cX10_read 60 = .ok (.if_icmp .eq 19, 3) := by decide +kernel
theorem dX10_read_63 : decode cX10_read 63 = .ok (.iload_n 1, 1) := by decide +kernel
theorem dX10_read_64 : decode cX10_read 64 = .ok (.bipush 115, 2) := by decide +kernel
theorem dX10_read_66 : decode cX10_read 66 = .ok (.if_icmp .eq 13, 3) := by decide +kernel
theorem dX10_read_69 : decode cX10_read 69 = .ok (.iload_n 1, 1) := by decide +kernel
theorem dX10_read_70 : decode cX10_read 70 = .ok (.bipush 100, 2) := by decide +kernel
theorem dX10_read_72 : decode cX10_read 72 = .ok (.if_icmp .eq 7, 3) := by decide +kernel
theorem dX10_read_75 : decode cX10_read 75 = .ok (.iconst 1, 1) := by decide +kernel
theorem dX10_read_76 : decode cX10_read 76 = .ok (.goto 4, 3) := by decide +kernel
theorem dX10_read_79 : decode cX10_read 79 = .ok (.iconst 0, 1) := by decide +kernel
theorem dX10_read_80 : decode cX10_read 80 = .ok (.putfield 128, 3) := by decide +kernel
theorem dX10_read_83 : decode cX10_read 83 = .ok (.aload_n 0, 1) := by decide +kernel
theorem dX10_read_84 : decode cX10_read 84 = .ok (.dup, 1) := by decide +kernel
theorem dX10_read_85 : decode cX10_read 85 = .ok (.getfield 125, 3) := by decide +kernel
theorem dX10_read_88 : decode cX10_read 88 = .ok (.aload_n 0, 1) := by decide +kernel
theorem dX10_read_89 : decode cX10_read 89 = .ok (.getfield 128, 3) := by decide +kernel
theorem dX10_read_92 : decode cX10_read 92 = .ok (.ifCond .eq 7, 3) := by decide +kernel
theorem dX10_read_95 : decode cX10_read 95 = .ok (.iconst 0, 1) := by decide +kernel
theorem dX10_read_96 : decode cX10_read 96 = .ok (.goto 4, 3) := by decide +kernel
theorem dX10_read_99 : decode cX10_read 99 = .ok (.iconst 1, 1) := by decide +kernel
theorem dX10_read_100 : decode cX10_read 100 = .ok (.iadd, 1) := by decide +kernel
theorem dX10_read_101 : decode cX10_read 101 = .ok (.putfield 125, 3) := by decide +kernel
theorem dX10_read_104 : decode cX10_read 104 = .ok (.aload_n 0, 1) := by decide +kernel
theorem dX10_read_105 : decode cX10_read 105 = .ok (.iload_n 1, 1) := by decide +kernel
theorem dX10_read_106 : decode cX10_read 106 = .ok (.putfield 135, 3) := by decide +kernel
theorem dX10_read_109 : decode cX10_read 109 = .ok (.aload_n 0, 1) := by decide +kernel
theorem dX10_read_110 : decode cX10_read 110 = .ok (.iload_n 1, 1) := by decide +kernel
theorem dX10_read_111 : decode cX10_read 111 = .ok (.bipush 115, 2) := by decide +kernel
theorem dX10_read_113 : decode cX10_read 113 = .ok (.if_icmp .eq 9, 3) := by decide +kernel
theorem dX10_read_116 : decode cX10_read 116 = .ok (.iload_n 1, 1) := by decide +kernel
theorem dX10_read_117 : decode cX10_read 117 = .ok (.bipush 100, 2) := by decide +kernel
theorem dX10_read_119 : decode cX10_read 119 = .ok (.if_icmp .ne 7, 3) := by decide +kernel
theorem dX10_read_122 : decode cX10_read 122 = .ok (.iconst 0, 1) := by decide +kernel
theorem dX10_read_123 : decode cX10_read 123 = .ok (.goto 42, 3) := by decide +kernel
theorem dX10_read_126 : decode cX10_read 126 = .ok (.aload_n 0, 1) := by decide +kernel
theorem dX10_read_127 : decode cX10_read 127 = .ok (.bipush 48, 2) := by decide +kernel
theorem dX10_read_129 : decode cX10_read 129 = .ok (.iload_n 1, 1) := by decide +kernel
theorem dX10_read_130 : decode cX10_read 130 = .ok (.bipush 118, 2) := by decide +kernel
theorem dX10_read_132 : decode cX10_read 132 = .ok (.if_icmp .ne 8, 3) := by decide +kernel
theorem dX10_read_135 : decode cX10_read 135 = .ok (.bipush 52, 2) := by decide +kernel
theorem dX10_read_137 : decode cX10_read 137 = .ok (.goto 22, 3) := by decide +kernel
theorem dX10_read_140 : decode cX10_read 140 = .ok (.iload_n 1, 1) := by decide +kernel
theorem dX10_read_141 : decode cX10_read 141 = .ok (.bipush 43, 2) := by decide +kernel
theorem dX10_read_143 : decode cX10_read 143 = .ok (.if_icmp .eq 9, 3) := by decide +kernel
theorem dX10_read_146 : decode cX10_read 146 = .ok (.iload_n 1, 1) := by decide +kernel
theorem dX10_read_147 : decode cX10_read 147 = .ok (.bipush 45, 2) := by decide +kernel
theorem dX10_read_149 : decode cX10_read 149 = .ok (.if_icmp .ne 8, 3) := by decide +kernel
theorem dX10_read_152 : decode cX10_read 152 = .ok (.bipush 57, 2) := by decide +kernel
theorem dX10_read_154 : decode cX10_read 154 = .ok (.goto 5, 3) := by decide +kernel
theorem dX10_read_157 : decode cX10_read 157 = .ok (.bipush 49, 2) := by decide +kernel
theorem dX10_read_159 : decode cX10_read 159 = .ok (.invokevirtual 132, 3) := by decide +kernel
theorem dX10_read_162 : decode cX10_read 162 = .ok (.bipush 48, 2) := by decide +kernel
theorem dX10_read_164 : decode cX10_read 164 = .ok (.isub, 1) := by decide +kernel
theorem dX10_read_165 : decode cX10_read 165 = .ok (.putfield 138, 3) := by decide +kernel
theorem dX10_read_168 : decode cX10_read 168 = .ok (.iload_n 1, 1) := by decide +kernel
theorem dX10_read_169 : decode cX10_read 169 = .ok (.bipush 102, 2) := by decide +kernel
theorem dX10_read_171 : decode cX10_read 171 = .ok (.if_icmp .ne 14, 3) := by decide +kernel
theorem dX10_read_174 : decode cX10_read 174 = .ok (.aload_n 0, 1) := by decide +kernel
theorem dX10_read_175 : decode cX10_read 175 = .ok (.bipush 58, 2) := by decide +kernel
theorem dX10_read_177 : decode cX10_read 177 = .ok (.bipush 58, 2) := by decide +kernel
theorem dX10_read_179 : decode cX10_read 179 = .ok (.invokevirtual 132, 3) := by decide +kernel
theorem dX10_read_182 : decode cX10_read 182 = .ok (.goto 4, 3) := by decide +kernel
theorem dX10_read_185 : decode cX10_read 185 = .ok (.iconst 0, 1) := by decide +kernel
theorem dX10_read_186 : decode cX10_read 186 = .ok (.istore_n 2, 1) := by decide +kernel
theorem dX10_read_187 : decode cX10_read 187 = .ok (.aload_n 0, 1) := by decide +kernel
theorem dX10_read_188 : decode cX10_read 188 = .ok (.iload_n 1, 1) := by decide +kernel
theorem dX10_read_189 : decode cX10_read 189 = .ok (.bipush 102, 2) := by decide +kernel
theorem dX10_read_191 : decode cX10_read 191 = .ok (.if_icmp .ne 10, 3) := by decide +kernel
theorem dX10_read_194 : decode cX10_read 194 = .ok (.aload_n 0, 1) := by decide +kernel
theorem dX10_read_195 : decode cX10_read 195 = .ok (.invokevirtual 141, 3) := by decide +kernel
theorem dX10_read_198 : decode cX10_read 198 = .ok (.goto 4, 3) := by decide +kernel
theorem dX10_read_201 : decode cX10_read 201 = .ok (.iconst 0, 1) := by decide +kernel
theorem dX10_read_202 : decode cX10_read 202 = .ok (.putfield 144, 3) := by decide +kernel
theorem dX10_read_205 : decode cX10_read 205 = .ok (.return_, 1) := by decide +kernel
set_option maxRecDepth 20000 in
theorem ggX10_wrong_X10_isReel : GoodIn wsX10_wrong wsX10_isReel := goodIn_r _ [13, 2, 14, 15, 12, 16, 17, 18, 19, 49, 50, 51, 52, 53, 54, 55, 56, 57, 58, 59, 60, 61, 62, 63, 64] (by decide +kernel) (by decide +kernel)
set_option maxRecDepth 20000 in
theorem gX10_wrong_X10_isReel : GoodIn wsX10_wrong (wsV RX10 96 RX10 yX10_isReel wsX10_isReel) := goodIn_app (goodIn_of _ (by decide +kernel)) ggX10_wrong_X10_isReel
set_option maxRecDepth 20000 in
theorem ggX10_wrong_X10_of : GoodIn wsX10_wrong wsX10_of := goodIn_r _ [19] (by decide +kernel) (by decide +kernel)
set_option maxRecDepth 20000 in
theorem gX10_wrong_X10_of : GoodIn wsX10_wrong (va_wsS RX10 33 yX10_of wsX10_of) := goodIn_app (goodIn_of _ (by decide +kernel)) ggX10_wrong_X10_of
set_option maxRecDepth 20000 in
theorem ggX10_wrong_X10_moveFault : GoodIn wsX10_wrong wsX10_moveFault := goodIn_r _ [23, 2, 4, 24, 8, 25, 26, 27, 12, 28, 17, 18, 19, 49, 50, 51, 52, 53, 54, 55, 56, 57, 58, 59, 60, 61, 62, 63, 64] (by decide +kernel) (by decide +kernel)
set_option maxRecDepth 20000 in
theorem gX10_wrong_X10_moveFault : GoodIn wsX10_wrong (wsV RX10 89 RX10 yX10_moveFault wsX10_moveFault) := goodIn_app (goodIn_of _ (by decide +kernel)) ggX10_wrong_X10_moveFault
set_option maxRecDepth 20000 in
theorem ggX10_wrong_X10_fuelFault : GoodIn wsX10_wrong wsX10_fuelFault := goodIn_r _ [32, 5, 33, 2, 4, 24, 8, 34, 35, 12, 36, 14, 15, 16, 49, 50, 51, 52, 53, 54, 55, 56, 57, 58, 59, 60, 61, 62, 63, 64] (by decide +kernel) (by decide +kernel)
set_option maxRecDepth 20000 in
theorem gX10_wrong_X10_fuelFault : GoodIn wsX10_wrong (wsV RX10 103 RX10 yX10_fuelFault wsX10_fuelFault) := goodIn_app (goodIn_of _ (by decide +kernel)) ggX10_wrong_X10_fuelFault
set_option maxRecDepth 20000 in
theorem ggX10_wrong_X10_why : GoodIn wsX10_wrong wsX10_why := goodIn_r _ [40, 2, 4, 41, 42, 43, 12, 44, 17, 18, 19, 45, 46, 47, 48, 49, 50, 51, 52, 53, 54, 55, 56, 57, 58, 59, 60, 61, 62, 63, 64] (by decide +kernel) (by decide +kernel)
set_option maxRecDepth 20000 in
theorem gX10_wrong_X10_why : GoodIn wsX10_wrong (wsV RX10 112 RX10 yX10_why wsX10_why) := goodIn_app (goodIn_of _ (by decide +kernel)) ggX10_wrong_X10_why
theorem dX10_wrong_0 : decode cX10_wrong 0 = .ok (.aload_n 0, 1) := by decide +kernel
theorem dX10_wrong_1 : decode cX10_wrong 1 = .ok (.getfield 135, 3) := by decide +kernel
theorem dX10_wrong_4 : decode cX10_wrong 4 = .ok (.lookupswitch 208 #[(43, 81), (45, 81), (102, 162), (103, 124), (115, 175), (118, 60)], 60) := by decide +kernel
theorem dX10_wrong_64 : decode cX10_wrong 64 = .ok (.aload_n 0, 1) := by decide +kernel
theorem dX10_wrong_65 : decode cX10_wrong 65 = .ok (.getfield 7, 3) := by decide +kernel
theorem dX10_wrong_68 : decode cX10_wrong 68 = .ok (.bipush 54, 2) := by decide +kernel
theorem dX10_wrong_70 : decode cX10_wrong 70 = .ok (.iaload, 1) := by decide +kernel
theorem dX10_wrong_71 : decode cX10_wrong 71 = .ok (.aload_n 0, 1) := by decide +kernel
theorem dX10_wrong_72 : decode cX10_wrong 72 = .ok (.getfield 138, 3) := by decide +kernel
theorem dX10_wrong_75 : decode cX10_wrong 75 = .ok (.if_icmp .ne 8, 3) := by decide +kernel
theorem dX10_wrong_78 : decode cX10_wrong 78 = .ok (.ldc 25, 2) := by decide +kernel
theorem dX10_wrong_80 : decode cX10_wrong 80 = .ok (.goto 4, 3) := by decide +kernel
theorem dX10_wrong_83 : decode cX10_wrong 83 = .ok (.iconst 0, 1) := by decide +kernel
theorem dX10_wrong_84 : decode cX10_wrong 84 = .ok (.ireturn, 1) := by decide +kernel
theorem dX10_wrong_85 : decode cX10_wrong 85 = .ok (.aload_n 0, 1) := by decide +kernel
theorem dX10_wrong_86 : decode cX10_wrong 86 = .ok (.aload_n 0, 1) := by decide +kernel
theorem dX10_wrong_87 : decode cX10_wrong 87 = .ok (.getfield 138, 3) := by decide +kernel
theorem dX10_wrong_90 : decode cX10_wrong 90 = .ok (.invokevirtual 96, 3) := by decide +kernel
theorem dX10_wrong_93 : decode cX10_wrong 93 = .ok (.ifCond .eq 32, 3) := by decide +kernel
theorem dX10_wrong_96 : decode cX10_wrong 96 = .ok (.aload_n 0, 1) := by decide +kernel
theorem dX10_wrong_97 : decode cX10_wrong 97 = .ok (.aload_n 0, 1) := by decide +kernel
theorem dX10_wrong_98 : decode cX10_wrong 98 = .ok (.getfield 138, 3) := by decide +kernel
theorem dX10_wrong_101 : decode cX10_wrong 101 = .ok (.iconst 0, 1) := by decide +kernel
theorem dX10_wrong_102 : decode cX10_wrong 102 = .ok (.invokestatic 33, 3) := by decide +kernel
theorem dX10_wrong_105 : decode cX10_wrong 105 = .ok (.aload_n 0, 1) := by decide +kernel
theorem dX10_wrong_106 : decode cX10_wrong 106 = .ok (.getfield 135, 3) := by decide +kernel
theorem dX10_wrong_109 : decode cX10_wrong 109 = .ok (.bipush 43, 2) := by decide +kernel
theorem dX10_wrong_111 : decode cX10_wrong 111 = .ok (.if_icmp .ne 7, 3) := by decide +kernel
theorem dX10_wrong_114 : decode cX10_wrong 114 = .ok (.iconst 1, 1) := by decide +kernel
