theorem dX10_wrong_115 : decode cX10_wrong 115 = .ok (.goto 4, 3) := by decide +kernel
theorem dX10_wrong_118 : decode cX10_wrong 118 = .ok (.iconst 0, 1) := by decide +kernel
theorem dX10_wrong_119 : decode cX10_wrong 119 = .ok (.invokevirtual 89, 3) := by decide +kernel
theorem dX10_wrong_122 : decode cX10_wrong 122 = .ok (.goto 5, 3) := by decide +kernel
theorem dX10_wrong_125 : decode cX10_wrong 125 = .ok (.ldc 58, 2) := by decide +kernel
theorem dX10_wrong_127 : decode cX10_wrong 127 = .ok (.ireturn, 1) := by decide +kernel
theorem dX10_wrong_128 : decode cX10_wrong 128 = .ok (.aload_n 0, 1) := by decide +kernel
theorem dX10_wrong_129 : decode cX10_wrong 129 = .ok (.bipush 50, 2) := by decide +kernel
theorem dX10_wrong_131 : decode cX10_wrong 131 = .ok (.iconst 2, 1) := by decide +kernel
theorem dX10_wrong_132 : decode cX10_wrong 132 = .ok (.aload_n 0, 1) := by decide +kernel
theorem dX10_wrong_133 : decode cX10_wrong 133 = .ok (.getfield 138, 3) := by decide +kernel
theorem dX10_wrong_136 : decode cX10_wrong 136 = .ok (.imul, 1) := by decide +kernel
theorem dX10_wrong_137 : decode cX10_wrong 137 = .ok (.iadd, 1) := by decide +kernel
theorem dX10_wrong_138 : decode cX10_wrong 138 = .ok (.aload_n 0, 1) := by decide +kernel
theorem dX10_wrong_139 : decode cX10_wrong 139 = .ok (.getfield 7, 3) := by decide +kernel
theorem dX10_wrong_142 : decode cX10_wrong 142 = .ok (.bipush 50, 2) := by decide +kernel
theorem dX10_wrong_144 : decode cX10_wrong 144 = .ok (.iconst 2, 1) := by decide +kernel
theorem dX10_wrong_145 : decode cX10_wrong 145 = .ok (.aload_n 0, 1) := by decide +kernel
theorem dX10_wrong_146 : decode cX10_wrong 146 = .ok (.getfield 138, 3) := by decide +kernel
theorem dX10_wrong_149 : decode cX10_wrong 149 = .ok (.imul, 1) := by decide +kernel
theorem dX10_wrong_150 : decode cX10_wrong 150 = .ok (.iadd, 1) := by decide +kernel
theorem dX10_wrong_151 : decode cX10_wrong 151 = .ok (.iaload, 1) := by decide +kernel
theorem dX10_wrong_152 : decode cX10_wrong 152 = .ok (.ldc 25, 2) := by decide +kernel
theorem dX10_wrong_154 : decode cX10_wrong 154 = .ok (.if_icmp .eq 7, 3) := by decide +kernel
theorem dX10_wrong_157 : decode cX10_wrong 157 = .ok (.iconst 1, 1) := by decide +kernel
theorem dX10_wrong_158 : decode cX10_wrong 158 = .ok (.goto 4, 3) := by decide +kernel
theorem dX10_wrong_161 : decode cX10_wrong 161 = .ok (.iconst 0, 1) := by decide +kernel
theorem dX10_wrong_162 : decode cX10_wrong 162 = .ok (.invokevirtual 89, 3) := by decide +kernel
theorem dX10_wrong_165 : decode cX10_wrong 165 = .ok (.ireturn, 1) := by decide +kernel
theorem dX10_wrong_166 : decode cX10_wrong 166 = .ok (.aload_n 0, 1) := by decide +kernel
theorem dX10_wrong_167 : decode cX10_wrong 167 = .ok (.aload_n 0, 1) := by decide +kernel
theorem dX10_wrong_168 : decode cX10_wrong 168 = .ok (.getfield 138, 3) := by decide +kernel
theorem dX10_wrong_171 : decode cX10_wrong 171 = .ok (.aload_n 0, 1) := by decide +kernel
theorem dX10_wrong_172 : decode cX10_wrong 172 = .ok (.getfield 144, 3) := by decide +kernel
theorem dX10_wrong_175 : decode cX10_wrong 175 = .ok (.invokevirtual 103, 3) := by decide +kernel
theorem dX10_wrong_178 : decode cX10_wrong 178 = .ok (.ireturn, 1) := by decide +kernel
theorem dX10_wrong_179 : decode cX10_wrong 179 = .ok (.aload_n 0, 1) := by decide +kernel
theorem dX10_wrong_180 : decode cX10_wrong 180 = .ok (.aload_n 0, 1) := by decide +kernel
theorem dX10_wrong_181 : decode cX10_wrong 181 = .ok (.getfield 7, 3) := by decide +kernel
theorem dX10_wrong_184 : decode cX10_wrong 184 = .ok (.bipush 54, 2) := by decide +kernel
theorem dX10_wrong_186 : decode cX10_wrong 186 = .ok (.iaload, 1) := by decide +kernel
theorem dX10_wrong_187 : decode cX10_wrong 187 = .ok (.invokevirtual 112, 3) := by decide +kernel
theorem dX10_wrong_190 : decode cX10_wrong 190 = .ok (.ifCond .ne 7, 3) := by decide +kernel
theorem dX10_wrong_193 : decode cX10_wrong 193 = .ok (.iconst 0, 1) := by decide +kernel
theorem dX10_wrong_194 : decode cX10_wrong 194 = .ok (.goto 17, 3) := by decide +kernel
theorem dX10_wrong_197 : decode cX10_wrong 197 = .ok (.ldc 115, 2) := by decide +kernel
theorem dX10_wrong_199 : decode cX10_wrong 199 = .ok (.aload_n 0, 1) := by decide +kernel
theorem dX10_wrong_200 : decode cX10_wrong 200 = .ok (.aload_n 0, 1) := by decide +kernel
theorem dX10_wrong_201 : decode cX10_wrong 201 = .ok (.getfield 7, 3) := by decide +kernel
theorem dX10_wrong_204 : decode cX10_wrong 204 = .ok (.bipush 54, 2) := by decide +kernel
theorem dX10_wrong_206 : decode cX10_wrong 206 = .ok (.iaload, 1) := by decide +kernel
theorem dX10_wrong_207 : decode cX10_wrong 207 = .ok (.invokevirtual 112, 3) := by decide +kernel
theorem dX10_wrong_210 : decode cX10_wrong 210 = .ok (.isub, 1) := by decide +kernel
theorem dX10_wrong_211 : decode cX10_wrong 211 = .ok (.ireturn, 1) := by decide +kernel
theorem dX10_wrong_212 : decode cX10_wrong 212 = .ok (.aload_n 0, 1) := by decide +kernel
theorem dX10_wrong_213 : decode cX10_wrong 213 = .ok (.getfield 7, 3) := by decide +kernel
theorem dX10_wrong_216 : decode cX10_wrong 216 = .ok (.bipush 55, 2) := by decide +kernel
theorem dX10_wrong_218 : decode cX10_wrong 218 = .ok (.iaload, 1) := by decide +kernel
theorem dX10_wrong_219 : decode cX10_wrong 219 = .ok (.sipush 9999, 3) := by decide +kernel
theorem dX10_wrong_222 : decode cX10_wrong 222 = .ok (.if_icmp .ne 8, 3) := by decide +kernel
theorem dX10_wrong_225 : decode cX10_wrong 225 = .ok (.ldc 49, 2) := by decide +kernel
theorem dX10_wrong_227 : decode cX10_wrong 227 = .ok (.goto 4, 3) := by decide +kernel
theorem dX10_wrong_230 : decode cX10_wrong 230 = .ok (.iconst 0, 1) := by decide +kernel
theorem dX10_wrong_231 : decode cX10_wrong 231 = .ok (.ireturn, 1) := by decide +kernel
set_option maxRecDepth 20000 in
theorem ggX10_does_X10_wrong : GoodIn wsX10_does wsX10_wrong := goodIn_r _ [10, 1, 4, 3, 2, 11, 5, 12, 13, 14, 15, 16, 9, 17, 18, 19, 20, 21, 22, 23, 24, 25, 26, 27, 28, 29, 30, 31, 32, 33, 34, 35, 36, 37, 38, 39, 40, 41, 42, 43, 44, 45, 46, 47, 48, 49, 50, 51, 52, 91, 92, 93, 94, 95, 96, 97, 98, 99, 100, 101, 102, 103, 104, 105, 106] (by decide +kernel) (by decide +kernel)
set_option maxRecDepth 20000 in
theorem gX10_does_X10_wrong : GoodIn wsX10_does (wsV RX10 147 RX10 yX10_wrong wsX10_wrong) := goodIn_app (goodIn_of _ (by decide +kernel)) ggX10_does_X10_wrong
set_option maxRecDepth 20000 in
theorem ggX10_does_X10_drives : GoodIn wsX10_does wsX10_drives := goodIn_r _ [56, 4, 57, 58, 9, 59, 91, 92, 93, 94, 95, 96, 97, 98, 99, 100, 101, 102, 103, 104, 105, 106] (by decide +kernel) (by decide +kernel)
set_option maxRecDepth 20000 in
theorem gX10_does_X10_drives : GoodIn wsX10_does (wsV RX10 86 RX10 yX10_drives wsX10_drives) := goodIn_app (goodIn_of _ (by decide +kernel)) ggX10_does_X10_drives
set_option maxRecDepth 20000 in
theorem ggX10_does_X10_of : GoodIn wsX10_does wsX10_of := goodIn_r _ [23] (by decide +kernel) (by decide +kernel)
set_option maxRecDepth 20000 in
theorem gX10_does_X10_of : GoodIn wsX10_does (va_wsS RX10 33 yX10_of wsX10_of) := goodIn_app (goodIn_of _ (by decide +kernel)) ggX10_does_X10_of
set_option maxRecDepth 20000 in
theorem ggX10_does_X10_moves : GoodIn wsX10_does wsX10_moves := goodIn_r _ [63, 4, 2, 29, 30, 31, 9, 32, 21, 22, 23, 91, 92, 93, 94, 95, 96, 97, 98, 99, 100, 101, 102, 103, 104, 105, 106] (by decide +kernel) (by decide +kernel)
set_option maxRecDepth 20000 in
theorem gX10_does_X10_moves : GoodIn wsX10_does (wsV RX10 93 RX10 yX10_moves wsX10_moves) := goodIn_app (goodIn_of _ (by decide +kernel)) ggX10_does_X10_moves
set_option maxRecDepth 20000 in
theorem ggX10_does_X10_fuels : GoodIn wsX10_does wsX10_fuels := goodIn_r _ [67, 4, 91, 92, 93, 94, 95, 96, 97, 98, 99, 100, 101, 102, 103, 104, 105, 106] (by decide +kernel) (by decide +kernel)
set_option maxRecDepth 20000 in
theorem gX10_does_X10_fuels : GoodIn wsX10_does (wsV RX10 106 RX10 yX10_fuels wsX10_fuels) := goodIn_app (goodIn_of _ (by decide +kernel)) ggX10_does_X10_fuels
set_option maxRecDepth 20000 in
theorem ggX10_does_X10_shows : GoodIn wsX10_does wsX10_shows := goodIn_r _ [71, 4, 72, 73, 74, 9, 75, 45, 46, 47, 48, 21, 22, 23, 76, 77, 78, 49, 50, 51, 52, 2, 79, 80, 81, 82, 83, 84, 85, 86, 91, 92, 93, 94, 95, 96, 97, 98, 99, 100, 101, 102, 103, 104, 105, 106] (by decide +kernel) (by decide +kernel)
set_option maxRecDepth 20000 in
theorem gX10_does_X10_shows : GoodIn wsX10_does (wsV RX10 116 RX10 yX10_shows wsX10_shows) := goodIn_app (goodIn_of _ (by decide +kernel)) ggX10_does_X10_shows
set_option maxRecDepth 20000 in
theorem ggX10_does_X10_begins : GoodIn wsX10_does wsX10_begins := goodIn_r _ [90, 4, 91, 92, 93, 94, 95, 96, 97, 98, 99, 100, 101, 102, 103, 104, 105, 106] (by decide +kernel) (by decide +kernel)
set_option maxRecDepth 20000 in
theorem gX10_does_X10_begins : GoodIn wsX10_does (wsV RX10 119 RX10 yX10_begins wsX10_begins) := goodIn_app (goodIn_of _ (by decide +kernel)) ggX10_does_X10_begins
theorem dX10_does_0 : decode cX10_does 0 = .ok (.aload_n 0, 1) := by decide +kernel
theorem dX10_does_1 : decode cX10_does 1 = .ok (.getfield 135, 3) := by decide +kernel
theorem dX10_does_4 : decode cX10_does 4 = .ok (.istore_n 1, 1) := by decide +kernel
theorem dX10_does_5 : decode cX10_does 5 = .ok (.aload_n 0, 1) := by decide +kernel
theorem dX10_does_6 : decode cX10_does 6 = .ok (.invokevirtual 147, 3) := by decide +kernel
theorem dX10_does_9 : decode cX10_does 9 = .ok (.istore_n 2, 1) := by decide +kernel
theorem dX10_does_10 : decode cX10_does 10 = .ok (.iload_n 2, 1) := by decide +kernel
theorem dX10_does_11 : decode cX10_does 11 = .ok (.ifCond .ge 15, 3) := by decide +kernel
theorem dX10_does_14 : decode cX10_does 14 = .ok (.iload_n 2, 1) := by decide +kernel
theorem dX10_does_15 : decode cX10_does 15 = .ok (.ldc 25, 2) := by decide +kernel
theorem dX10_does_17 : decode cX10_does 17 = .ok (.if_icmp .ne 7, 3) := by decide +kernel
theorem dX10_does_20 : decode cX10_does 20 = .ok (.iconst 0, 1) := by decide +kernel
theorem dX10_does_21 : decode cX10_does 21 = .ok (.goto 4, 3) := by decide +kernel
theorem dX10_does_24 : decode cX10_does 24 = .ok (.iload_n 2, 1) := by decide +kernel
theorem dX10_does_25 : decode cX10_does 25 = .ok (.ireturn, 1) := by decide +kernel
theorem dX10_does_26 : decode cX10_does 26 = .ok (.iload_n 1, 1) := by decide +kernel
theorem dX10_does_27 : decode cX10_does 27 = .ok (.bipush 118, 2) := by decide +kernel
theorem dX10_does_29 : decode cX10_does 29 = .ok (.if_icmp .ne 14, 3) := by decide +kernel
theorem dX10_does_32 : decode cX10_does 32 = .ok (.aload_n 0, 1) := by decide +kernel
theorem dX10_does_33 : decode cX10_does 33 = .ok (.aload_n 0, 1) := by decide +kernel
theorem dX10_does_34 : decode cX10_does 34 = .ok (.getfield 138, 3) := by decide +kernel
theorem dX10_does_37 : decode cX10_does 37 = .ok (.invokevirtual 86, 3) := by decide +kernel
theorem dX10_does_40 : decode cX10_does 40 = .ok (.goto 132, 3) := by decide +kernel
theorem dX10_does_43 : decode cX10_does 43 = .ok (.iload_n 1, 1) := by decide +kernel
theorem dX10_does_44 : decode cX10_does 44 = .ok (.bipush 43, 2) := by decide +kernel
theorem dX10_does_46 : decode cX10_does 46 = .ok (.if_icmp .eq 9, 3) := by decide +kernel
theorem dX10_does_49 : decode cX10_does 49 = .ok (.iload_n 1, 1) := by decide +kernel
theorem dX10_does_50 : decode cX10_does 50 = .ok (.bipush 45, 2) := by decide +kernel
theorem dX10_does_52 : decode cX10_does 52 = .ok (.if_icmp .ne 29, 3) := by decide +kernel
theorem dX10_does_55 : decode cX10_does 55 = .ok (.aload_n 0, 1) := by decide +kernel
theorem dX10_does_56 : decode cX10_does 56 = .ok (.aload_n 0, 1) := by decide +kernel
theorem dX10_does_57 : decode cX10_does 57 = .ok (.getfield 138, 3) := by decide +kernel
theorem dX10_does_60 : decode cX10_does 60 = .ok (.iconst 0, 1) := by decide +kernel
theorem dX10_does_61 : decode cX10_does 61 = .ok (.invokestatic 33, 3) := by decide +kernel
theorem dX10_does_64 : decode cX10_does 64 = .ok (.iload_n 1, 1) := by decide +kernel
theorem dX10_does_65 : decode cX10_does 65 = .ok (.bipush 43, 2) := by decide +kernel
theorem dX10_does_67 : decode cX10_does 67 = .ok (.if_icmp .ne 7, 3) := by decide +kernel
theorem dX10_does_70 : decode cX10_does 70 = .ok (.iconst 1, 1) := by decide +kernel
theorem dX10_does_71 : decode cX10_does 71 = .ok (.goto 4, 3) := by decide +kernel
theorem dX10_does_74 : decode cX10_does 74 = .ok (.iconst 0, 1) := by decide +kernel
theorem dX10_does_75 : decode cX10_does 75 = .ok (.invokevirtual 93, 3) := by decide +kernel
theorem dX10_does_78 : decode cX10_does 78 = .ok (.goto 94, 3) := by decide +kernel
theorem dX10_does_81 : decode cX10_does 81 = .ok (.iload_n 1, 1) := by decide +kernel
theorem dX10_does_82 : decode cX10_does 82 = .ok (.bipush 103, 2) := by decide +kernel
theorem dX10_does_84 : decode cX10_does 84 = .ok (.if_icmp .ne 43, 3) := by decide +kernel
theorem dX10_does_87 : decode cX10_does 87 = .ok (.aload_n 0, 1) := by decide +kernel
theorem dX10_does_88 : decode cX10_does 88 = .ok (.bipush 50, 2) := by decide +kernel
theorem dX10_does_90 : decode cX10_does 90 = .ok (.iconst 2, 1) := by decide +kernel
theorem dX10_does_91 : decode cX10_does 91 = .ok (.aload_n 0, 1) := by decide +kernel
theorem dX10_does_92 : decode cX10_does 92 = .ok (.getfield 138, 3) := by decide +kernel
theorem dX10_does_95 : decode cX10_does 95 = .ok (.imul, 1) := by decide +kernel
theorem dX10_does_96 : decode cX10_does 96 = .ok (.iadd, 1) := by decide +kernel
theorem dX10_does_97 : decode cX10_does 97 = .ok (.aload_n 0, 1) := by decide +kernel
theorem dX10_does_98 : decode cX10_does 98 = .ok (.getfield 7, 3) := by decide +kernel
theorem dX10_does_101 : decode cX10_does 101 = .ok (.bipush 50, 2) := by decide +kernel
theorem dX10_does_103 : decode cX10_does 103 = .ok (.iconst 2, 1) := by decide +kernel
theorem dX10_does_104 : decode cX10_does 104 = .ok (.aload_n 0, 1) := by decide +kernel
theorem dX10_does_105 : decode cX10_does 105 = .ok (.getfield 138, 3) := by decide +kernel
theorem dX10_does_108 : decode cX10_does 108 = .ok (.imul, 1) := by decide +kernel
theorem dX10_does_109 : decode cX10_does 109 = .ok (.iadd, 1) := by decide +kernel
theorem dX10_does_110 : decode cX10_does 110 = .ok (.iaload, 1) := by decide +kernel
theorem dX10_does_111 : decode cX10_does 111 = .ok (.ldc 25, 2) := by decide +kernel
theorem dX10_does_113 : decode cX10_does 113 = .ok (.if_icmp .eq 7, 3) := by decide +kernel
theorem dX10_does_116 : decode cX10_does 116 = .ok (.iconst 1, 1) := by decide +kernel
theorem dX10_does_117 : decode cX10_does 117 = .ok (.goto 4, 3) := by decide +kernel
theorem dX10_does_120 : decode cX10_does 120 = .ok (.iconst 0, 1) := by decide +kernel
theorem dX10_does_121 : decode cX10_does 121 = .ok (.invokevirtual 93, 3) := by decide +kernel
theorem dX10_does_124 : decode cX10_does 124 = .ok (.goto 48, 3) := by decide +kernel
theorem dX10_does_127 : decode cX10_does 127 = .ok (.iload_n 1, 1) := by decide +kernel
theorem dX10_does_128 : decode cX10_does 128 = .ok (.bipush 102, 2) := by decide +kernel
theorem dX10_does_130 : decode cX10_does 130 = .ok (.if_icmp .ne 18, 3) := by decide +kernel
theorem dX10_does_133 : decode cX10_does 133 = .ok (.aload_n 0, 1) := by decide +kernel
theorem dX10_does_134 : decode cX10_does 134 = .ok (.aload_n 0, 1) := by decide +kernel
theorem dX10_does_135 : decode cX10_does 135 = .ok (.getfield 138, 3) := by decide +kernel
theorem dX10_does_138 : decode cX10_does 138 = .ok (.aload_n 0, 1) := by decide +kernel
theorem dX10_does_139 : decode cX10_does 139 = .ok (.getfield 144, 3) := by decide +kernel
theorem dX10_does_142 : decode cX10_does 142 = .ok (.invokevirtual 106, 3) := by decide +kernel
theorem dX10_does_145 : decode cX10_does 145 = .ok (.goto 27, 3) := by decide +kernel
theorem dX10_does_148 : decode cX10_does 148 = .ok (.iload_n 1, 1) := by decide +kernel
theorem dX10_does_149 : decode cX10_does 149 = .ok (.bipush 115, 2) := by decide +kernel
theorem dX10_does_151 : decode cX10_does 151 = .ok (.if_icmp .ne 17, 3) := by decide +kernel
theorem dX10_does_154 : decode cX10_does 154 = .ok (.aload_n 0, 1) := by decide +kernel
theorem dX10_does_155 : decode cX10_does 155 = .ok (.aload_n 0, 1) := by decide +kernel
theorem dX10_does_156 : decode cX10_does 156 = .ok (.getfield 7, 3) := by decide +kernel
theorem dX10_does_159 : decode cX10_does 159 = .ok (.bipush 54, 2) := by decide +kernel
theorem dX10_does_161 : decode cX10_does 161 = .ok (.iaload, 1) := by decide +kernel
theorem dX10_does_162 : decode cX10_does 162 = .ok (.invokevirtual 116, 3) := by decide +kernel
theorem dX10_does_165 : decode cX10_does 165 = .ok (.goto 7, 3) := by decide +kernel
theorem dX10_does_168 : decode cX10_does 168 = .ok (.aload_n 0, 1) := by decide +kernel
theorem dX10_does_169 : decode cX10_does 169 = .ok (.invokevirtual 119, 3) := by decide +kernel
theorem dX10_does_172 : decode cX10_does 172 = .ok (.istore_n 3, 1) := by decide +kernel
theorem dX10_does_173 : decode cX10_does 173 = .ok (.iconst 0, 1) := by decide +kernel
theorem dX10_does_174 : decode cX10_does 174 = .ok (.ireturn, 1) := by decide +kernel
set_option maxRecDepth 20000 in
theorem ggX10_go_X10_read : GoodIn wsX10_go wsX10_read := goodIn_r _ [9, 1, 4, 10, 2, 11, 12, 13, 14, 15, 16, 8, 17, 18, 19, 20, 21, 22, 23, 24, 112, 113, 114, 115, 116, 117, 118, 119, 120, 121, 122, 123, 124, 125, 126, 127] (by decide +kernel) (by decide +kernel)
set_option maxRecDepth 20000 in
theorem gX10_go_X10_read : GoodIn wsX10_go (wsV RX10 153 RX10 yX10_read wsX10_read) := goodIn_app (goodIn_of _ (by decide +kernel)) ggX10_go_X10_read
set_option maxRecDepth 20000 in
theorem ggX10_go_X10_does : GoodIn wsX10_go wsX10_does := goodIn_r _ [28, 11, 29, 12, 30, 13, 31, 32, 33, 8, 34, 35, 36, 37, 38, 39, 40, 41, 18, 19, 20, 42, 43, 44, 45, 46, 47, 48, 49, 50, 51, 52, 53, 54, 55, 56, 57, 58, 59, 60, 61, 62, 63, 64, 65, 66, 67, 68, 69, 70, 71, 72, 73, 74, 75, 76, 77, 78, 79, 80, 81, 82, 83, 84, 85, 86, 87, 88, 89, 90, 91, 92, 93, 94, 95, 96, 97, 98, 99, 100, 101, 102, 103, 104, 105, 106, 107, 108, 109, 110, 111, 112, 113, 114, 115, 116, 117, 118, 119, 120, 121, 122, 123, 124, 125, 126, 127] (by decide +kernel) (by decide +kernel)
set_option maxRecDepth 20000 in
theorem gX10_go_X10_does : GoodIn wsX10_go (wsV RX10 156 RX10 yX10_does wsX10_does) := goodIn_app (goodIn_of _ (by decide +kernel)) ggX10_go_X10_does
set_option maxRecDepth 20000 in
theorem ggX10_go_X10_sign : GoodIn wsX10_go wsX10_sign := goodIn_r _ [17, 1, 4, 10, 2, 18, 19, 8, 20, 112, 113, 114, 115, 116, 117, 118, 119, 120, 121, 122, 123, 124, 125, 126, 127] (by decide +kernel) (by decide +kernel)
set_option maxRecDepth 20000 in
theorem gX10_go_X10_sign : GoodIn wsX10_go (wsV RX10 132 RX10 yX10_sign wsX10_sign) := goodIn_app (goodIn_of _ (by decide +kernel)) ggX10_go_X10_sign
theorem dX10_go_0 : decode cX10_go 0 = .ok (.aload_n 0, 1) := by decide +kernel
theorem dX10_go_1 : decode cX10_go 1 = .ok (.iconst 0, 1) := by decide +kernel
theorem dX10_go_2 : decode cX10_go 2 = .ok (.putfield 125, 3) := by decide +kernel
theorem dX10_go_5 : decode cX10_go 5 = .ok (.aload_n 0, 1) := by decide +kernel
theorem dX10_go_6 : decode cX10_go 6 = .ok (.iconst 0, 1) := by decide +kernel
theorem dX10_go_7 : decode cX10_go 7 = .ok (.putfield 128, 3) := by decide +kernel
theorem dX10_go_10 : decode cX10_go 10 = .ok (.aload_n 0, 1) := by decide +kernel
theorem dX10_go_11 : decode cX10_go 11 = .ok (.iconst 0, 1) := by decide +kernel
theorem dX10_go_12 : decode cX10_go 12 = .ok (.putfield 150, 3) := by decide +kernel
theorem dX10_go_15 : decode cX10_go 15 = .ok (.iconst 0, 1) := by decide +kernel
theorem dX10_go_16 : decode cX10_go 16 = .ok (.istore_n 2, 1) := by decide +kernel
theorem dX10_go_17 : decode cX10_go 17 = .ok (.iconst 1, 1) := by decide +kernel
theorem dX10_go_18 : decode cX10_go 18 = .ok (.istore_n 3, 1) := by decide +kernel
theorem dX10_go_19 : decode cX10_go 19 = .ok (.iload_n 3, 1) := by decide +kernel
theorem dX10_go_20 : decode cX10_go 20 = .ok (.ifCond .eq 99, 3) := by decide +kernel
theorem dX10_go_23 : decode cX10_go 23 = .ok (.aload_n 0, 1) := by decide +kernel
theorem dX10_go_24 : decode cX10_go 24 = .ok (.invokevirtual 153, 3) := by decide +kernel
theorem dX10_go_27 : decode cX10_go 27 = .ok (.aload_n 0, 1) := by decide +kernel
theorem dX10_go_28 : decode cX10_go 28 = .ok (.iload_n 1, 1) := by decide +kernel
theorem dX10_go_29 : decode cX10_go 29 = .ok (.ifCond .eq 10, 3) := by decide +kernel
theorem dX10_go_32 : decode cX10_go 32 = .ok (.aload_n 0, 1) := by decide +kernel
theorem dX10_go_33 : decode cX10_go 33 = .ok (.invokevirtual 156, 3) := by decide +kernel
theorem dX10_go_36 : decode cX10_go 36 = .ok (.goto 4, 3) := by decide +kernel
theorem dX10_go_39 : decode cX10_go 39 = .ok (.iconst 0, 1) := by decide +kernel
theorem dX10_go_40 : decode cX10_go 40 = .ok (.putfield 150, 3) := by decide +kernel
theorem dX10_go_43 : decode cX10_go 43 = .ok (.iload_n 2, 1) := by decide +kernel
theorem dX10_go_44 : decode cX10_go 44 = .ok (.aload_n 0, 1) := by decide +kernel
theorem dX10_go_45 : decode cX10_go 45 = .ok (.getfield 150, 3) := by decide +kernel
theorem dX10_go_48 : decode cX10_go 48 = .ok (.ifCond .ne 7, 3) := by decide +kernel
theorem dX10_go_51 : decode cX10_go 51 = .ok (.iconst 1, 1) := by decide +kernel
theorem dX10_go_52 : decode cX10_go 52 = .ok (.goto 4, 3) := by decide +kernel
theorem dX10_go_55 : decode cX10_go 55 = .ok (.iconst 0, 1) := by decide +kernel
theorem dX10_go_56 : decode cX10_go 56 = .ok (.iadd, 1) := by decide +kernel
theorem dX10_go_57 : decode cX10_go 57 = .ok (.istore_n 2, 1) := by decide +kernel
theorem dX10_go_58 : decode cX10_go 58 = .ok (.aload_n 0, 1) := by decide +kernel
theorem dX10_go_59 : decode cX10_go 59 = .ok (.getfield 128, 3) := by decide +kernel
theorem dX10_go_62 : decode cX10_go 62 = .ok (.ifCond .ne 25, 3) := by decide +kernel
theorem dX10_go_65 : decode cX10_go 65 = .ok (.aload_n 0, 1) := by decide +kernel
theorem dX10_go_66 : decode cX10_go 66 = .ok (.getfield 150, 3) := by decide +kernel
theorem dX10_go_69 : decode cX10_go 69 = .ok (.ifCond .ne 18, 3) := by decide +kernel
theorem dX10_go_72 : decode cX10_go 72 = .ok (.aload_n 0, 1) := by decide +kernel
theorem dX10_go_73 : decode cX10_go 73 = .ok (.getfield 125, 3) := by decide +kernel
theorem dX10_go_76 : decode cX10_go 76 = .ok (.aload_n 0, 1) := by decide +kernel
theorem dX10_go_77 : decode cX10_go 77 = .ok (.getfield 122, 3) := by decide +kernel
theorem dX10_go_80 : decode cX10_go 80 = .ok (.if_icmp .ge 7, 3) := by decide +kernel
theorem dX10_go_83 : decode cX10_go 83 = .ok (.iconst 1, 1) := by decide +kernel
theorem dX10_go_84 : decode cX10_go 84 = .ok (.goto 4, 3) := by decide +kernel
theorem dX10_go_87 : decode cX10_go 87 = .ok (.iconst 0, 1) := by decide +kernel
theorem dX10_go_88 : decode cX10_go 88 = .ok (.istore_n 3, 1) := by decide +kernel
theorem dX10_go_89 : decode cX10_go 89 = .ok (.iload_n 3, 1) := by decide +kernel
theorem dX10_go_90 : decode cX10_go 90 = .ok (.ifCond .eq (-71), 3) := by decide +kernel
theorem dX10_go_93 : decode cX10_go 93 = .ok (.aload_n 0, 1) := by decide +kernel
theorem dX10_go_94 : decode cX10_go 94 = .ok (.bipush 44, 2) := by decide +kernel
theorem dX10_go_96 : decode cX10_go 96 = .ok (.bipush 44, 2) := by decide +kernel
theorem dX10_go_98 : decode cX10_go 98 = .ok (.invokevirtual 132, 3) := by decide +kernel
theorem dX10_go_101 : decode cX10_go 101 = .ok (.istore 4, 2) := by decide +kernel
theorem dX10_go_103 : decode cX10_go 103 = .ok (.aload_n 0, 1) := by decide +kernel
theorem dX10_go_104 : decode cX10_go 104 = .ok (.getfield 128, 3) := by decide +kernel
theorem dX10_go_107 : decode cX10_go 107 = .ok (.ifCond .ne 7, 3) := by decide +kernel
theorem dX10_go_110 : decode cX10_go 110 = .ok (.iconst 1, 1) := by decide +kernel
theorem dX10_go_111 : decode cX10_go 111 = .ok (.goto 4, 3) := by decide +kernel
theorem dX10_go_114 : decode cX10_go 114 = .ok (.iconst 0, 1) := by decide +kernel
theorem dX10_go_115 : decode cX10_go 115 = .ok (.istore_n 3, 1) := by decide +kernel
theorem dX10_go_116 : decode cX10_go 116 = .ok (.goto (-97), 3) := by decide +kernel
theorem dX10_go_119 : decode cX10_go 119 = .ok (.iload_n 2, 1) := by decide +kernel
theorem dX10_go_120 : decode cX10_go 120 = .ok (.ireturn, 1) := by decide +kernel
set_option maxRecDepth 20000 in
theorem ggX10_perform_X10_go : GoodIn wsX10_perform wsX10_go := goodIn_r _ [12, 3, 1, 4, 13, 14, 15, 16, 11, 17, 18, 19, 20, 21, 22, 23, 24, 25, 26, 27, 28, 29, 30, 31, 32, 33, 34, 35, 36, 37, 38, 39, 40, 41, 42, 43, 44, 45, 46, 47, 48, 49, 50, 51, 52, 53, 54, 55, 56, 7, 57, 58, 59, 60, 61, 62, 63, 64, 65, 66, 67, 68, 69, 70, 71, 72, 73, 74, 75, 76, 77, 78, 79, 80, 81, 82, 83, 84, 85, 86, 87, 88, 89, 90, 91, 92, 93, 94, 95, 96, 97, 98, 99, 100, 101, 102, 103, 104, 105, 106, 107, 108, 109, 110, 111, 112, 113, 114, 115, 116, 117, 118, 134, 135, 136, 137, 138, 139, 140, 141, 142, 143, 144, 145, 146, 147, 148, 149] (by decide +kernel) (by decide +kernel)
set_option maxRecDepth 20000 in
theorem gX10_perform_X10_go : GoodIn wsX10_perform (wsV RX10 159 RX10 yX10_go wsX10_go) := goodIn_app (goodIn_of _ (by decide +kernel)) ggX10_perform_X10_go
set_option maxRecDepth 20000 in
theorem ggX10_perform_X10_putAside : GoodIn wsX10_perform wsX10_putAside := goodIn_r _ [122, 123, 38, 134, 135, 136, 137, 138, 139, 140, 141, 142, 143, 144, 145, 146, 147, 148, 149] (by decide +kernel) (by decide +kernel)
set_option maxRecDepth 20000 in
theorem gX10_perform_X10_putAside : GoodIn wsX10_perform (wsV RX10 164 RX10 yX10_putAside wsX10_putAside) := goodIn_app (goodIn_of _ (by decide +kernel)) ggX10_perform_X10_putAside
set_option maxRecDepth 20000 in
theorem ggX10_perform_X10_putBack : GoodIn wsX10_perform wsX10_putBack := goodIn_r _ [127, 38, 123, 134, 135, 136, 137, 138, 139, 140, 141, 142, 143, 144, 145, 146, 147, 148, 149] (by decide +kernel) (by decide +kernel)
set_option maxRecDepth 20000 in
theorem gX10_perform_X10_putBack : GoodIn wsX10_perform (wsV RX10 167 RX10 yX10_putBack wsX10_putBack) := goodIn_app (goodIn_of _ (by decide +kernel)) ggX10_perform_X10_putBack
set_option maxRecDepth 20000 in
theorem ggX10_perform_X10_know : GoodIn wsX10_perform wsX10_know := goodIn_r _ [131, 132, 133, 38, 134, 135, 136, 137, 138, 139, 140, 141, 142, 143, 144, 145, 146, 147, 148, 149] (by decide +kernel) (by decide +kernel)
set_option maxRecDepth 20000 in
theorem gX10_perform_X10_know : GoodIn wsX10_perform (wsV RX10 83 RX10 yX10_know wsX10_know) := goodIn_app (goodIn_of _ (by decide +kernel)) ggX10_perform_X10_know
theorem dX10_perform_0 : decode cX10_perform 0 = .ok (.aload_n 0, 1) := by decide +kernel
theorem dX10_perform_1 : decode cX10_perform 1 = .ok (.iconst 0, 1) := by decide +kernel
theorem dX10_perform_2 : decode cX10_perform 2 = .ok (.invokevirtual 159, 3) := by decide +kernel
theorem dX10_perform_5 : decode cX10_perform 5 = .ok (.istore_n 1, 1) := by decide +kernel
theorem dX10_perform_6 : decode cX10_perform 6 = .ok (.aload_n 0, 1) := by decide +kernel
theorem dX10_perform_7 : decode cX10_perform 7 = .ok (.getfield 128, 3) := by decide +kernel
theorem dX10_perform_10 : decode cX10_perform 10 = .ok (.ifCond .eq 11, 3) := by decide +kernel
theorem dX10_perform_13 : decode cX10_perform 13 = .ok (.ldc 163, 2) := by decide +kernel
theorem dX10_perform_15 : decode cX10_perform 15 = .ok (.aload_n 0, 1) := by decide +kernel
theorem dX10_perform_16 : decode cX10_perform 16 = .ok (.getfield 125, 3) := by decide +kernel
theorem dX10_perform_19 : decode cX10_perform 19 = .ok (.isub, 1) := by decide +kernel
theorem dX10_perform_20 : decode cX10_perform 20 = .ok (.ireturn, 1) := by decide +kernel
theorem dX10_perform_21 : decode cX10_perform 21 = .ok (.aload_n 0, 1) := by decide +kernel
theorem dX10_perform_22 : decode cX10_perform 22 = .ok (.invokevirtual 164, 3) := by decide +kernel
theorem dX10_perform_25 : decode cX10_perform 25 = .ok (.aload_n 0, 1) := by decide +kernel
theorem dX10_perform_26 : decode cX10_perform 26 = .ok (.iconst 1, 1) := by decide +kernel
theorem dX10_perform_27 : decode cX10_perform 27 = .ok (.invokevirtual 159, 3) := by decide +kernel
theorem dX10_perform_30 : decode cX10_perform 30 = .ok (.istore_n 1, 1) := by decide +kernel
theorem dX10_perform_31 : decode cX10_perform 31 = .ok (.aload_n 0, 1) := by decide +kernel
theorem dX10_perform_32 : decode cX10_perform 32 = .ok (.invokevirtual 167, 3) := by decide +kernel
theorem dX10_perform_35 : decode cX10_perform 35 = .ok (.aload_n 0, 1) := by decide +kernel
theorem dX10_perform_36 : decode cX10_perform 36 = .ok (.getfield 150, 3) := by decide +kernel
theorem dX10_perform_39 : decode cX10_perform 39 = .ok (.ifCond .ge 19, 3) := by decide +kernel
theorem dX10_perform_42 : decode cX10_perform 42 = .ok (.aload_n 0, 1) := by decide +kernel
theorem dX10_perform_43 : decode cX10_perform 43 = .ok (.iload_n 1, 1) := by decide +kernel
theorem dX10_perform_44 : decode cX10_perform 44 = .ok (.putfield 26, 3) := by decide +kernel
theorem dX10_perform_47 : decode cX10_perform 47 = .ok (.aload_n 0, 1) := by decide +kernel
theorem dX10_perform_48 : decode cX10_perform 48 = .ok (.aload_n 0, 1) := by decide +kernel
theorem dX10_perform_49 : decode cX10_perform 49 = .ok (.getfield 150, 3) := by decide +kernel
theorem dX10_perform_52 : decode cX10_perform 52 = .ok (.putfield 30, 3) := by decide +kernel
theorem dX10_perform_55 : decode cX10_perform 55 = .ok (.ldc 44, 2) := by decide +kernel
theorem dX10_perform_57 : decode cX10_perform 57 = .ok (.ireturn, 1) := by decide +kernel
theorem dX10_perform_58 : decode cX10_perform 58 = .ok (.aload_n 0, 1) := by decide +kernel
theorem dX10_perform_59 : decode cX10_perform 59 = .ok (.invokevirtual 83, 3) := by decide +kernel
theorem dX10_perform_62 : decode cX10_perform 62 = .ok (.aload_n 0, 1) := by decide +kernel
theorem dX10_perform_63 : decode cX10_perform 63 = .ok (.iconst 1, 1) := by decide +kernel
theorem dX10_perform_64 : decode cX10_perform 64 = .ok (.invokevirtual 159, 3) := by decide +kernel
theorem dX10_perform_67 : decode cX10_perform 67 = .ok (.ireturn, 1) := by decide +kernel
set_option maxRecDepth 20000 in
theorem ggX10_stopped_X10_in : GoodIn wsX10_stopped wsX10_in := goodIn_r _ [7] (by decide +kernel) (by decide +kernel)
set_option maxRecDepth 20000 in
theorem gX10_stopped_X10_in : GoodIn wsX10_stopped (va_wsS RX10 37 yX10_in wsX10_in) := goodIn_app (goodIn_of _ (by decide +kernel)) ggX10_stopped_X10_in
theorem dX10_stopped_0 : decode cX10_stopped 0 = .ok (.iload_n 1, 1) := by decide +kernel
theorem dX10_stopped_1 : decode cX10_stopped 1 = .ok (.iconst 0, 1) := by decide +kernel
theorem dX10_stopped_2 : decode cX10_stopped 2 = .ok (.iconst 1, 1) := by decide +kernel
theorem dX10_stopped_3 : decode cX10_stopped 3 = .ok (.invokestatic 37, 3) := by decide +kernel
theorem dX10_stopped_6 : decode cX10_stopped 6 = .ok (.ifCond .ne 8, 3) := by decide +kernel
theorem dX10_stopped_9 : decode cX10_stopped 9 = .ok (.ldc 59, 2) := by decide +kernel
theorem dX10_stopped_11 : decode cX10_stopped 11 = .ok (.goto 18, 3) := by decide +kernel
theorem dX10_stopped_14 : decode cX10_stopped 14 = .ok (.iload_n 1, 1) := by decide +kernel
theorem dX10_stopped_15 : decode cX10_stopped 15 = .ok (.ifCond .ne 10, 3) := by decide +kernel
theorem dX10_stopped_18 : decode cX10_stopped 18 = .ok (.aload_n 0, 1) := by decide +kernel
theorem dX10_stopped_19 : decode cX10_stopped 19 = .ok (.getfield 26, 3) := by decide +kernel
theorem dX10_stopped_22 : decode cX10_stopped 22 = .ok (.goto 7, 3) := by decide +kernel
theorem dX10_stopped_25 : decode cX10_stopped 25 = .ok (.aload_n 0, 1) := by decide +kernel
theorem dX10_stopped_26 : decode cX10_stopped 26 = .ok (.getfield 30, 3) := by decide +kernel
theorem dX10_stopped_29 : decode cX10_stopped 29 = .ok (.ireturn, 1) := by decide +kernel
theorem dX10_undo_0 : decode cX10_undo 0 = .ok (.aload_n 0, 1) := by decide +kernel
theorem dX10_undo_1 : decode cX10_undo 1 = .ok (.getfield 41, 3) := by decide +kernel
theorem dX10_undo_4 : decode cX10_undo 4 = .ok (.ifCond .ne 6, 3) := by decide +kernel
theorem dX10_undo_7 : decode cX10_undo 7 = .ok (.ldc 25, 2) := by decide +kernel
theorem dX10_undo_9 : decode cX10_undo 9 = .ok (.ireturn, 1) := by decide +kernel
theorem dX10_undo_10 : decode cX10_undo 10 = .ok (.aload_n 0, 1) := by decide +kernel
theorem dX10_undo_11 : decode cX10_undo 11 = .ok (.dup, 1) := by decide +kernel
theorem dX10_undo_12 : decode cX10_undo 12 = .ok (.getfield 41, 3) := by decide +kernel
theorem dX10_undo_15 : decode cX10_undo 15 = .ok (.iconst 1, 1) := by decide +kernel
theorem dX10_undo_16 : decode cX10_undo 16 = .ok (.isub, 1) := by decide +kernel
theorem dX10_undo_17 : decode cX10_undo 17 = .ok (.putfield 41, 3) := by decide +kernel
theorem dX10_undo_20 : decode cX10_undo 20 = .ok (.iconst 0, 1) := by decide +kernel
theorem dX10_undo_21 : decode cX10_undo 21 = .ok (.istore_n 1, 1) := by decide +kernel
theorem dX10_undo_22 : decode cX10_undo 22 = .ok (.iload_n 1, 1) := by decide +kernel
theorem dX10_undo_23 : decode cX10_undo 23 = .ok (.bipush 108, 2) := by decide +kernel
theorem dX10_undo_25 : decode cX10_undo 25 = .ok (.if_icmp .ge 29, 3) := by decide +kernel
theorem dX10_undo_28 : decode cX10_undo 28 = .ok (.aload_n 0, 1) := by decide +kernel
theorem dX10_undo_29 : decode cX10_undo 29 = .ok (.getfield 7, 3) := by decide +kernel
theorem dX10_undo_32 : decode cX10_undo 32 = .ok (.iload_n 1, 1) := by decide +kernel
theorem dX10_undo_33 : decode cX10_undo 33 = .ok (.aload_n 0, 1) := by decide +kernel
theorem dX10_undo_34 : decode cX10_undo 34 = .ok (.getfield 16, 3) := by decide +kernel
theorem dX10_undo_37 : decode cX10_undo 37 = .ok (.bipush 108, 2) := by decide +kernel
theorem dX10_undo_39 : decode cX10_undo 39 = .ok (.aload_n 0, 1) := by decide +kernel
theorem dX10_undo_40 : decode cX10_undo 40 = .ok (.getfield 41, 3) := by decide +kernel
theorem dX10_undo_43 : decode cX10_undo 43 = .ok (.imul, 1) := by decide +kernel
theorem dX10_undo_44 : decode cX10_undo 44 = .ok (.iload_n 1, 1) := by decide +kernel
theorem dX10_undo_45 : decode cX10_undo 45 = .ok (.iadd, 1) := by decide +kernel
theorem dX10_undo_46 : decode cX10_undo 46 = .ok (.iaload, 1) := by decide +kernel
theorem dX10_undo_47 : decode cX10_undo 47 = .ok (.iastore, 1) := by decide +kernel
theorem dX10_undo_48 : decode cX10_undo 48 = .ok (.iinc 1 1, 3) := by decide +kernel
theorem dX10_undo_51 : decode cX10_undo 51 = .ok (.goto (-29), 3) := by decide +kernel
theorem dX10_undo_54 : decode cX10_undo 54 = .ok (.aload_n 0, 1) := by decide +kernel
theorem dX10_undo_55 : decode cX10_undo 55 = .ok (.getfield 41, 3) := by decide +kernel
theorem dX10_undo_58 : decode cX10_undo 58 = .ok (.ireturn, 1) := by decide +kernel
theorem dX10_keep_0 : decode cX10_keep 0 = .ok (.iconst 0, 1) := by decide +kernel
theorem dX10_keep_1 : decode cX10_keep 1 = .ok (.istore_n 1, 1) := by decide +kernel
theorem dX10_keep_2 : decode cX10_keep 2 = .ok (.iload_n 1, 1) := by decide +kernel
theorem dX10_keep_3 : decode cX10_keep 3 = .ok (.bipush 108, 2) := by decide +kernel
theorem dX10_keep_5 : decode cX10_keep 5 = .ok (.if_icmp .ge 21, 3) := by decide +kernel
theorem dX10_keep_8 : decode cX10_keep 8 = .ok (.aload_n 0, 1) := by decide +kernel
theorem dX10_keep_9 : decode cX10_keep 9 = .ok (.getfield 19, 3) := by decide +kernel
theorem dX10_keep_12 : decode cX10_keep 12 = .ok (.iload_n 1, 1) := by decide +kernel
theorem dX10_keep_13 : decode cX10_keep 13 = .ok (.aload_n 0, 1) := by decide +kernel
theorem dX10_keep_14 : decode cX10_keep 14 = .ok (.getfield 7, 3) := by decide +kernel
theorem dX10_keep_17 : decode cX10_keep 17 = .ok (.iload_n 1, 1) := by decide +kernel
theorem dX10_keep_18 : decode cX10_keep 18 = .ok (.iaload, 1) := by decide +kernel
theorem dX10_keep_19 : decode cX10_keep 19 = .ok (.iastore, 1) := by decide +kernel
theorem dX10_keep_20 : decode cX10_keep 20 = .ok (.iinc 1 1, 3) := by decide +kernel
theorem dX10_keep_23 : decode cX10_keep 23 = .ok (.goto (-21), 3) := by decide +kernel
theorem dX10_keep_26 : decode cX10_keep 26 = .ok (.aload_n 0, 1) := by decide +kernel
theorem dX10_keep_27 : decode cX10_keep 27 = .ok (.iconst 1, 1) := by decide +kernel
theorem dX10_keep_28 : decode cX10_keep 28 = .ok (.putfield 170, 3) := by decide +kernel
theorem dX10_keep_31 : decode cX10_keep 31 = .ok (.aload_n 0, 1) := by decide +kernel
theorem dX10_keep_32 : decode cX10_keep 32 = .ok (.getfield 7, 3) := by decide +kernel
theorem dX10_keep_35 : decode cX10_keep 35 = .ok (.bipush 55, 2) := by decide +kernel
theorem dX10_keep_37 : decode cX10_keep 37 = .ok (.iaload, 1) := by decide +kernel
theorem dX10_keep_38 : decode cX10_keep 38 = .ok (.ireturn, 1) := by decide +kernel
set_option maxRecDepth 20000 in
theorem ggX10_restore_X10_know : GoodIn wsX10_restore wsX10_know := goodIn_r _ [9, 10, 11, 3, 12, 13, 14, 15, 16, 17, 18, 19, 20, 21, 22, 23, 24, 25, 26, 27] (by decide +kernel) (by decide +kernel)
set_option maxRecDepth 20000 in
theorem gX10_restore_X10_know : GoodIn wsX10_restore (wsV RX10 83 RX10 yX10_know wsX10_know) := goodIn_app (goodIn_of _ (by decide +kernel)) ggX10_restore_X10_know
theorem dX10_restore_0 : decode cX10_restore 0 = .ok (.aload_n 0, 1) := by decide +kernel
theorem dX10_restore_1 : decode cX10_restore 1 = .ok (.getfield 170, 3) := by decide +kernel
theorem dX10_restore_4 : decode cX10_restore 4 = .ok (.ifCond .ne 6, 3) := by decide +kernel
theorem dX10_restore_7 : decode cX10_restore 7 = .ok (.ldc 25, 2) := by decide +kernel
theorem dX10_restore_9 : decode cX10_restore 9 = .ok (.ireturn, 1) := by decide +kernel
theorem dX10_restore_10 : decode cX10_restore 10 = .ok (.aload_n 0, 1) := by decide +kernel
theorem dX10_restore_11 : decode cX10_restore 11 = .ok (.invokevirtual 83, 3) := by decide +kernel
theorem dX10_restore_14 : decode cX10_restore 14 = .ok (.iconst 0, 1) := by decide +kernel
theorem dX10_restore_15 : decode cX10_restore 15 = .ok (.istore_n 1, 1) := by decide +kernel
theorem dX10_restore_16 : decode cX10_restore 16 = .ok (.iload_n 1, 1) := by decide +kernel
theorem dX10_restore_17 : decode cX10_restore 17 = .ok (.bipush 108, 2) := by decide +kernel
theorem dX10_restore_19 : decode cX10_restore 19 = .ok (.if_icmp .ge 21, 3) := by decide +kernel
theorem dX10_restore_22 : decode cX10_restore 22 = .ok (.aload_n 0, 1) := by decide +kernel
theorem dX10_restore_23 : decode cX10_restore 23 = .ok (.getfield 7, 3) := by decide +kernel
theorem dX10_restore_26 : decode cX10_restore 26 = .ok (.iload_n 1, 1) := by decide +kernel
theorem dX10_restore_27 : decode cX10_restore 27 = .ok (.aload_n 0, 1) := by decide +kernel
theorem dX10_restore_28 : decode cX10_restore 28 = .ok (.getfield 19, 3) := by decide +kernel
theorem dX10_restore_31 : decode cX10_restore 31 = .ok (.iload_n 1, 1) := by decide +kernel
theorem dX10_restore_32 : decode cX10_restore 32 = .ok (.iaload, 1) := by decide +kernel
theorem dX10_restore_33 : decode cX10_restore 33 = .ok (.iastore, 1) := by decide +kernel
theorem dX10_restore_34 : decode cX10_restore 34 = .ok (.iinc 1 1, 3) := by decide +kernel
theorem dX10_restore_37 : decode cX10_restore 37 = .ok (.goto (-21), 3) := by decide +kernel
theorem dX10_restore_40 : decode cX10_restore 40 = .ok (.aload_n 0, 1) := by decide +kernel
theorem dX10_restore_41 : decode cX10_restore 41 = .ok (.getfield 7, 3) := by decide +kernel
theorem dX10_restore_44 : decode cX10_restore 44 = .ok (.bipush 55, 2) := by decide +kernel
theorem dX10_restore_46 : decode cX10_restore 46 = .ok (.iaload, 1) := by decide +kernel
theorem dX10_restore_47 : decode cX10_restore 47 = .ok (.ireturn, 1) := by decide +kernel
set_option maxRecDepth 20000 in
theorem ggX10_bears_X10_of : GoodIn wsX10_bears wsX10_of := goodIn_r _ [5] (by decide +kernel) (by decide +kernel)
set_option maxRecDepth 20000 in
theorem gX10_bears_X10_of : GoodIn wsX10_bears (va_wsS RX10 33 yX10_of wsX10_of) := goodIn_app (goodIn_of _ (by decide +kernel)) ggX10_bears_X10_of
theorem dX10_bears_0 : decode cX10_bears 0 = .ok (.aload_n 0, 1) := by decide +kernel
theorem dX10_bears_1 : decode cX10_bears 1 = .ok (.getfield 7, 3) := by decide +kernel
theorem dX10_bears_4 : decode cX10_bears 4 = .ok (.iload_n 1, 1) := by decide +kernel
theorem dX10_bears_5 : decode cX10_bears 5 = .ok (.iconst 2, 1) := by decide +kernel
theorem dX10_bears_6 : decode cX10_bears 6 = .ok (.invokestatic 33, 3) := by decide +kernel
theorem dX10_bears_9 : decode cX10_bears 9 = .ok (.iaload, 1) := by decide +kernel
theorem dX10_bears_10 : decode cX10_bears 10 = .ok (.istore_n 2, 1) := by decide +kernel
theorem dX10_bears_11 : decode cX10_bears 11 = .ok (.aload_n 0, 1) := by decide +kernel
theorem dX10_bears_12 : decode cX10_bears 12 = .ok (.getfield 7, 3) := by decide +kernel
theorem dX10_bears_15 : decode cX10_bears 15 = .ok (.iload_n 1, 1) := by decide +kernel
theorem dX10_bears_16 : decode cX10_bears 16 = .ok (.iconst 1, 1) := by decide +kernel
theorem dX10_bears_17 : decode cX10_bears 17 = .ok (.invokestatic 33, 3) := by decide +kernel
theorem dX10_bears_20 : decode cX10_bears 20 = .ok (.iaload, 1) := by decide +kernel
theorem dX10_bears_21 : decode cX10_bears 21 = .ok (.istore_n 3, 1) := by decide +kernel
theorem dX10_bears_22 : decode cX10_bears 22 = .ok (.iconst 0, 1) := by decide +kernel
theorem dX10_bears_23 : decode cX10_bears 23 = .ok (.istore 4, 2) := by decide +kernel
theorem dX10_bears_25 : decode cX10_bears 25 = .ok (.iload_n 3, 1) := by decide +kernel
theorem dX10_bears_26 : decode cX10_bears 26 = .ok (.iconst 3, 1) := by decide +kernel
theorem dX10_bears_27 : decode cX10_bears 27 = .ok (.if_icmp .lt 24, 3) := by decide +kernel
theorem dX10_bears_30 : decode cX10_bears 30 = .ok (.iinc 4 1, 3) := by decide +kernel
theorem dX10_bears_33 : decode cX10_bears 33 = .ok (.iinc 2 5, 3) := by decide +kernel
theorem dX10_bears_36 : decode cX10_bears 36 = .ok (.iload_n 2, 1) := by decide +kernel
theorem dX10_bears_37 : decode cX10_bears 37 = .ok (.bipush 40, 2) := by decide +kernel
theorem dX10_bears_39 : decode cX10_bears 39 = .ok (.if_icmp .lt (-14), 3) := by decide +kernel
theorem dX10_bears_42 : decode cX10_bears 42 = .ok (.iinc 2 (-20), 3) := by decide +kernel
theorem dX10_bears_45 : decode cX10_bears 45 = .ok (.iinc 3 (-1), 3) := by decide +kernel
theorem dX10_bears_48 : decode cX10_bears 48 = .ok (.goto (-12), 3) := by decide +kernel
theorem dX10_bears_51 : decode cX10_bears 51 = .ok (.iload 4, 2) := by decide +kernel
theorem dX10_bears_53 : decode cX10_bears 53 = .ok (.ireturn, 1) := by decide +kernel
set_option maxRecDepth 20000 in
theorem ggX10_reel_X10_isReel : GoodIn wsX10_reel wsX10_isReel := goodIn_r _ [8, 2, 9, 10, 7, 11, 12, 13, 14, 19, 20, 21, 22, 23, 24, 25, 26, 27, 28, 29, 30, 31, 32, 33, 34] (by decide +kernel) (by decide +kernel)
set_option maxRecDepth 20000 in
theorem gX10_reel_X10_isReel : GoodIn wsX10_reel (wsV RX10 96 RX10 yX10_isReel wsX10_isReel) := goodIn_app (goodIn_of _ (by decide +kernel)) ggX10_reel_X10_isReel
set_option maxRecDepth 20000 in
theorem ggX10_reel_X10_in : GoodIn wsX10_reel wsX10_in := goodIn_r _ [11] (by decide +kernel) (by decide +kernel)
set_option maxRecDepth 20000 in
theorem gX10_reel_X10_in : GoodIn wsX10_reel (va_wsS RX10 37 yX10_in wsX10_in) := goodIn_app (goodIn_of _ (by decide +kernel)) ggX10_reel_X10_in
set_option maxRecDepth 20000 in
theorem ggX10_reel_X10_of : GoodIn wsX10_reel wsX10_of := goodIn_r _ [14] (by decide +kernel) (by decide +kernel)
set_option maxRecDepth 20000 in
theorem gX10_reel_X10_of : GoodIn wsX10_reel (va_wsS RX10 33 yX10_of wsX10_of) := goodIn_app (goodIn_of _ (by decide +kernel)) ggX10_reel_X10_of
set_option maxRecDepth 20000 in
theorem ggX10_reel_X10_bears : GoodIn wsX10_reel wsX10_bears := goodIn_r _ [18, 2, 12, 13, 7, 14, 19, 20, 21, 22, 23, 24, 25, 26, 27, 28, 29, 30, 31, 32, 33, 34] (by decide +kernel) (by decide +kernel)
set_option maxRecDepth 20000 in
theorem gX10_reel_X10_bears : GoodIn wsX10_reel (wsV RX10 173 RX10 yX10_bears wsX10_bears) := goodIn_app (goodIn_of _ (by decide +kernel)) ggX10_reel_X10_bears
theorem dX10_reel_0 : decode cX10_reel 0 = .ok (.aload_n 0, 1) := by decide +kernel
theorem dX10_reel_1 : decode cX10_reel 1 = .ok (.iload_n 1, 1) := by decide +kernel
theorem dX10_reel_2 : decode cX10_reel 2 = .ok (.invokevirtual 96, 3) := by decide +kernel
theorem dX10_reel_5 : decode cX10_reel 5 = .ok (.ifCond .ne 6, 3) := by decide +kernel
theorem dX10_reel_8 : decode cX10_reel 8 = .ok (.ldc 58, 2) := by decide +kernel
theorem dX10_reel_10 : decode cX10_reel 10 = .ok (.ireturn, 1) := by decide +kernel
theorem dX10_reel_11 : decode cX10_reel 11 = .ok (.iload_n 2, 1) := by decide +kernel
theorem dX10_reel_12 : decode cX10_reel 12 = .ok (.iconst 0, 1) := by decide +kernel
theorem dX10_reel_13 : decode cX10_reel 13 = .ok (.iconst 4, 1) := by decide +kernel
theorem dX10_reel_14 : decode cX10_reel 14 = .ok (.invokestatic 37, 3) := by decide +kernel
theorem dX10_reel_17 : decode cX10_reel 17 = .ok (.ifCond .eq 16, 3) := by decide +kernel
theorem dX10_reel_20 : decode cX10_reel 20 = .ok (.aload_n 0, 1) := by decide +kernel
theorem dX10_reel_21 : decode cX10_reel 21 = .ok (.getfield 7, 3) := by decide +kernel
theorem dX10_reel_24 : decode cX10_reel 24 = .ok (.iload_n 1, 1) := by decide +kernel
theorem dX10_reel_25 : decode cX10_reel 25 = .ok (.iload_n 2, 1) := by decide +kernel
theorem dX10_reel_26 : decode cX10_reel 26 = .ok (.invokestatic 33, 3) := by decide +kernel
theorem dX10_reel_29 : decode cX10_reel 29 = .ok (.iaload, 1) := by decide +kernel
theorem dX10_reel_30 : decode cX10_reel 30 = .ok (.goto 18, 3) := by decide +kernel
theorem dX10_reel_33 : decode cX10_reel 33 = .ok (.iload_n 2, 1) := by decide +kernel
theorem dX10_reel_34 : decode cX10_reel 34 = .ok (.iconst 5, 1) := by decide +kernel
theorem dX10_reel_35 : decode cX10_reel 35 = .ok (.if_icmp .ne 11, 3) := by decide +kernel
theorem dX10_reel_38 : decode cX10_reel 38 = .ok (.aload_n 0, 1) := by decide +kernel
theorem dX10_reel_39 : decode cX10_reel 39 = .ok (.iload_n 1, 1) := by decide +kernel
theorem dX10_reel_40 : decode cX10_reel 40 = .ok (.invokevirtual 173, 3) := by decide +kernel
theorem dX10_reel_43 : decode cX10_reel 43 = .ok (.goto 5, 3) := by decide +kernel
theorem dX10_reel_46 : decode cX10_reel 46 = .ok (.ldc 59, 2) := by decide +kernel
theorem dX10_reel_48 : decode cX10_reel 48 = .ok (.ireturn, 1) := by decide +kernel
set_option maxRecDepth 20000 in
theorem ggX10_generator_X10_isGenerator : GoodIn wsX10_generator wsX10_isGenerator := goodIn_r _ [7, 8, 9, 6, 10] (by decide +kernel) (by decide +kernel)
set_option maxRecDepth 20000 in
theorem gX10_generator_X10_isGenerator : GoodIn wsX10_generator (va_wsS RX10 54 yX10_isGenerator wsX10_isGenerator) := goodIn_app (goodIn_of _ (by decide +kernel)) ggX10_generator_X10_isGenerator
set_option maxRecDepth 20000 in
theorem ggX10_generator_X10_in : GoodIn wsX10_generator wsX10_in := goodIn_r _ [10] (by decide +kernel) (by decide +kernel)
set_option maxRecDepth 20000 in
theorem gX10_generator_X10_in : GoodIn wsX10_generator (va_wsS RX10 37 yX10_in wsX10_in) := goodIn_app (goodIn_of _ (by decide +kernel)) ggX10_generator_X10_in
theorem dX10_generator_0 : decode cX10_generator 0 = .ok (.iload_n 1, 1) := by decide +kernel
theorem dX10_generator_1 : decode cX10_generator 1 = .ok (.invokestatic 54, 3) := by decide +kernel
theorem dX10_generator_4 : decode cX10_generator 4 = .ok (.ifCond .ne 8, 3) := by decide +kernel
theorem dX10_generator_7 : decode cX10_generator 7 = .ok (.ldc 58, 2) := by decide +kernel
theorem dX10_generator_9 : decode cX10_generator 9 = .ok (.goto 30, 3) := by decide +kernel
theorem dX10_generator_12 : decode cX10_generator 12 = .ok (.iload_n 2, 1) := by decide +kernel
theorem dX10_generator_13 : decode cX10_generator 13 = .ok (.iconst 0, 1) := by decide +kernel
theorem dX10_generator_14 : decode cX10_generator 14 = .ok (.iconst 1, 1) := by decide +kernel
theorem dX10_generator_15 : decode cX10_generator 15 = .ok (.invokestatic 37, 3) := by decide +kernel
theorem dX10_generator_18 : decode cX10_generator 18 = .ok (.ifCond .eq 19, 3) := by decide +kernel
theorem dX10_generator_21 : decode cX10_generator 21 = .ok (.aload_n 0, 1) := by decide +kernel
theorem dX10_generator_22 : decode cX10_generator 22 = .ok (.getfield 7, 3) := by decide +kernel
theorem dX10_generator_25 : decode cX10_generator 25 = .ok (.bipush 50, 2) := by decide +kernel
theorem dX10_generator_27 : decode cX10_generator 27 = .ok (.iconst 2, 1) := by decide +kernel
theorem dX10_generator_28 : decode cX10_generator 28 = .ok (.iload_n 1, 1) := by decide +kernel
theorem dX10_generator_29 : decode cX10_generator 29 = .ok (.imul, 1) := by decide +kernel
theorem dX10_generator_30 : decode cX10_generator 30 = .ok (.iadd, 1) := by decide +kernel
theorem dX10_generator_31 : decode cX10_generator 31 = .ok (.iload_n 2, 1) := by decide +kernel
theorem dX10_generator_32 : decode cX10_generator 32 = .ok (.iadd, 1) := by decide +kernel
theorem dX10_generator_33 : decode cX10_generator 33 = .ok (.iaload, 1) := by decide +kernel
theorem dX10_generator_34 : decode cX10_generator 34 = .ok (.goto 5, 3) := by decide +kernel
theorem dX10_generator_37 : decode cX10_generator 37 = .ok (.ldc 59, 2) := by decide +kernel
theorem dX10_generator_39 : decode cX10_generator 39 = .ok (.ireturn, 1) := by decide +kernel
set_option maxRecDepth 20000 in
theorem ggX10_barn_X10_isBarn : GoodIn wsX10_barn wsX10_isBarn := goodIn_r _ [7, 8, 9, 6, 10] (by decide +kernel) (by decide +kernel)
set_option maxRecDepth 20000 in
theorem gX10_barn_X10_isBarn : GoodIn wsX10_barn (va_wsS RX10 80 yX10_isBarn wsX10_isBarn) := goodIn_app (goodIn_of _ (by decide +kernel)) ggX10_barn_X10_isBarn
set_option maxRecDepth 20000 in
theorem ggX10_barn_X10_mile : GoodIn wsX10_barn wsX10_mile := goodIn_r _ [13] (by decide +kernel) (by decide +kernel)
set_option maxRecDepth 20000 in
theorem gX10_barn_X10_mile : GoodIn wsX10_barn (va_wsS RX10 50 yX10_mile wsX10_mile) := goodIn_app (goodIn_of _ (by decide +kernel)) ggX10_barn_X10_mile
set_option maxRecDepth 20000 in
theorem ggX10_barn_X10_seats : GoodIn wsX10_barn wsX10_seats := goodIn_r _ [16] (by decide +kernel) (by decide +kernel)
set_option maxRecDepth 20000 in
theorem gX10_barn_X10_seats : GoodIn wsX10_barn (va_wsS RX10 66 yX10_seats wsX10_seats) := goodIn_app (goodIn_of _ (by decide +kernel)) ggX10_barn_X10_seats
set_option maxRecDepth 20000 in
theorem ggX10_barn_X10_reels : GoodIn wsX10_barn wsX10_reels := goodIn_r _ [20, 2, 21, 22, 6, 23, 37, 38, 39, 40, 41, 42, 43, 44, 45, 46, 47, 48, 49, 50, 51, 52] (by decide +kernel) (by decide +kernel)
set_option maxRecDepth 20000 in
theorem gX10_barn_X10_reels : GoodIn wsX10_barn (wsV RX10 60 RX10 yX10_reels wsX10_reels) := goodIn_app (goodIn_of _ (by decide +kernel)) ggX10_barn_X10_reels
set_option maxRecDepth 20000 in
theorem ggX10_barn_X10_peopleAt : GoodIn wsX10_barn wsX10_peopleAt := goodIn_r _ [27, 17, 18, 19, 6, 20, 2, 21, 22, 23, 14, 15, 16, 37, 38, 39, 40, 41, 42, 43, 44, 45, 46, 47, 48, 49, 50, 51, 52] (by decide +kernel) (by decide +kernel)
set_option maxRecDepth 20000 in
theorem gX10_barn_X10_peopleAt : GoodIn wsX10_barn (wsV RX10 69 RX10 yX10_peopleAt wsX10_peopleAt) := goodIn_app (goodIn_of _ (by decide +kernel)) ggX10_barn_X10_peopleAt
set_option maxRecDepth 20000 in
theorem ggX10_barn_X10_why : GoodIn wsX10_barn wsX10_why := goodIn_r _ [31, 2, 32, 17, 18, 19, 6, 20, 21, 22, 23, 33, 34, 35, 36, 37, 38, 39, 40, 41, 42, 43, 44, 45, 46, 47, 48, 49, 50, 51, 52] (by decide +kernel) (by decide +kernel)
set_option maxRecDepth 20000 in
theorem gX10_barn_X10_why : GoodIn wsX10_barn (wsV RX10 112 RX10 yX10_why wsX10_why) := goodIn_app (goodIn_of _ (by decide +kernel)) ggX10_barn_X10_why
theorem dX10_barn_0 : decode cX10_barn 0 = .ok (.iload_n 1, 1) := by decide +kernel
theorem dX10_barn_1 : decode cX10_barn 1 = .ok (.invokestatic 80, 3) := by decide +kernel
theorem dX10_barn_4 : decode cX10_barn 4 = .ok (.ifCond .ne 6, 3) := by decide +kernel
theorem dX10_barn_7 : decode cX10_barn 7 = .ok (.ldc 58, 2) := by decide +kernel
theorem dX10_barn_9 : decode cX10_barn 9 = .ok (.ireturn, 1) := by decide +kernel
theorem dX10_barn_10 : decode cX10_barn 10 = .ok (.iload_n 2, 1) := by decide +kernel
theorem dX10_barn_11 : decode cX10_barn 11 = .ok (.tableswitch 104 0 8 #[49, 54, 59, 63, 63, 72, 78, 84, 94], 49) := by decide +kernel
theorem dX10_barn_60 : decode cX10_barn 60 = .ok (.iload_n 1, 1) := by decide +kernel
theorem dX10_barn_61 : decode cX10_barn 61 = .ok (.invokestatic 50, 3) := by decide +kernel
theorem dX10_barn_64 : decode cX10_barn 64 = .ok (.ireturn, 1) := by decide +kernel
theorem dX10_barn_65 : decode cX10_barn 65 = .ok (.iload_n 1, 1) := by decide +kernel
theorem dX10_barn_66 : decode cX10_barn 66 = .ok (.invokestatic 66, 3) := by decide +kernel
theorem dX10_barn_69 : decode cX10_barn 69 = .ok (.ireturn, 1) := by decide +kernel
theorem dX10_barn_70 : decode cX10_barn 70 = .ok (.iload_n 1, 1) := by decide +kernel
theorem dX10_barn_71 : decode cX10_barn 71 = .ok (.iconst 3, 1) := by decide +kernel
theorem dX10_barn_72 : decode cX10_barn 72 = .ok (.irem, 1) := by decide +kernel
theorem dX10_barn_73 : decode cX10_barn 73 = .ok (.ireturn, 1) := by decide +kernel
theorem dX10_barn_74 : decode cX10_barn 74 = .ok (.aload_n 0, 1) := by decide +kernel
theorem dX10_barn_75 : decode cX10_barn 75 = .ok (.iload_n 1, 1) := by decide +kernel
theorem dX10_barn_76 : decode cX10_barn 76 = .ok (.iload_n 2, 1) := by decide +kernel
theorem dX10_barn_77 : decode cX10_barn 77 = .ok (.iconst 3, 1) := by decide +kernel
theorem dX10_barn_78 : decode cX10_barn 78 = .ok (.isub, 1) := by decide +kernel
theorem dX10_barn_79 : decode cX10_barn 79 = .ok (.invokevirtual 60, 3) := by decide +kernel
theorem dX10_barn_82 : decode cX10_barn 82 = .ok (.ireturn, 1) := by decide +kernel
theorem dX10_barn_83 : decode cX10_barn 83 = .ok (.aload_n 0, 1) := by decide +kernel
theorem dX10_barn_84 : decode cX10_barn 84 = .ok (.iload_n 1, 1) := by decide +kernel
theorem dX10_barn_85 : decode cX10_barn 85 = .ok (.invokevirtual 69, 3) := by decide +kernel
theorem dX10_barn_88 : decode cX10_barn 88 = .ok (.ireturn, 1) := by decide +kernel
theorem dX10_barn_89 : decode cX10_barn 89 = .ok (.aload_n 0, 1) := by decide +kernel
theorem dX10_barn_90 : decode cX10_barn 90 = .ok (.iload_n 1, 1) := by decide +kernel
theorem dX10_barn_91 : decode cX10_barn 91 = .ok (.invokevirtual 112, 3) := by decide +kernel
theorem dX10_barn_94 : decode cX10_barn 94 = .ok (.ireturn, 1) := by decide +kernel
theorem dX10_barn_95 : decode cX10_barn 95 = .ok (.aload_n 0, 1) := by decide +kernel
theorem dX10_barn_96 : decode cX10_barn 96 = .ok (.getfield 7, 3) := by decide +kernel
theorem dX10_barn_99 : decode cX10_barn 99 = .ok (.bipush 62, 2) := by decide +kernel
theorem dX10_barn_101 : decode cX10_barn 101 = .ok (.iload_n 1, 1) := by decide +kernel
theorem dX10_barn_102 : decode cX10_barn 102 = .ok (.iadd, 1) := by decide +kernel
theorem dX10_barn_103 : decode cX10_barn 103 = .ok (.iaload, 1) := by decide +kernel
theorem dX10_barn_104 : decode cX10_barn 104 = .ok (.ireturn, 1) := by decide +kernel
theorem dX10_barn_105 : decode cX10_barn 105 = .ok (.aload_n 0, 1) := by decide +kernel
theorem dX10_barn_106 : decode cX10_barn 106 = .ok (.getfield 7, 3) := by decide +kernel
theorem dX10_barn_109 : decode cX10_barn 109 = .ok (.bipush 67, 2) := by decide +kernel
theorem dX10_barn_111 : decode cX10_barn 111 = .ok (.iload_n 1, 1) := by decide +kernel
theorem dX10_barn_112 : decode cX10_barn 112 = .ok (.iadd, 1) := by decide +kernel
theorem dX10_barn_113 : decode cX10_barn 113 = .ok (.iaload, 1) := by decide +kernel
theorem dX10_barn_114 : decode cX10_barn 114 = .ok (.ireturn, 1) := by decide +kernel
theorem dX10_barn_115 : decode cX10_barn 115 = .ok (.ldc 59, 2) := by decide +kernel
theorem dX10_barn_117 : decode cX10_barn 117 = .ok (.ireturn, 1) := by decide +kernel
set_option maxRecDepth 20000 in
theorem ggX10_bestBarn_X10_why : GoodIn wsX10_bestBarn wsX10_why := goodIn_r _ [6, 7, 1, 8, 9, 10, 5, 11, 12, 13, 14, 15, 16, 17, 18, 26, 27, 28, 29, 30, 31, 32, 33, 34, 35, 36, 37, 38, 39, 40, 41] (by decide +kernel) (by decide +kernel)
set_option maxRecDepth 20000 in
theorem gX10_bestBarn_X10_why : GoodIn wsX10_bestBarn (wsV RX10 112 RX10 yX10_why wsX10_why) := goodIn_app (goodIn_of _ (by decide +kernel)) ggX10_bestBarn_X10_why
set_option maxRecDepth 20000 in
theorem ggX10_bestBarn_X10_peopleAt : GoodIn wsX10_bestBarn wsX10_peopleAt := goodIn_r _ [22, 8, 9, 10, 5, 11, 7, 12, 13, 14, 23, 24, 25, 26, 27, 28, 29, 30, 31, 32, 33, 34, 35, 36, 37, 38, 39, 40, 41] (by decide +kernel) (by decide +kernel)
set_option maxRecDepth 20000 in
theorem gX10_bestBarn_X10_peopleAt : GoodIn wsX10_bestBarn (wsV RX10 69 RX10 yX10_peopleAt wsX10_peopleAt) := goodIn_app (goodIn_of _ (by decide +kernel)) ggX10_bestBarn_X10_peopleAt
theorem dX10_bestBarn_0 : decode cX10_bestBarn 0 = .ok (.ldc 25, 2) := by decide +kernel
theorem dX10_bestBarn_2 : decode cX10_bestBarn 2 = .ok (.istore_n 1, 1) := by decide +kernel
theorem dX10_bestBarn_3 : decode cX10_bestBarn 3 = .ok (.iconst 0, 1) := by decide +kernel
theorem dX10_bestBarn_4 : decode cX10_bestBarn 4 = .ok (.istore_n 2, 1) := by decide +kernel
theorem dX10_bestBarn_5 : decode cX10_bestBarn 5 = .ok (.iload_n 2, 1) := by decide +kernel
theorem dX10_bestBarn_6 : decode cX10_bestBarn 6 = .ok (.iconst 5, 1) := by decide +kernel
theorem dX10_bestBarn_7 : decode cX10_bestBarn 7 = .ok (.if_icmp .ge 52, 3) := by decide +kernel
theorem dX10_bestBarn_10 : decode cX10_bestBarn 10 = .ok (.aload_n 0, 1) := by decide +kernel
theorem dX10_bestBarn_11 : decode cX10_bestBarn 11 = .ok (.iload_n 2, 1) := by decide +kernel
theorem dX10_bestBarn_12 : decode cX10_bestBarn 12 = .ok (.invokevirtual 112, 3) := by decide +kernel
theorem dX10_bestBarn_15 : decode cX10_bestBarn 15 = .ok (.ifCond .ne 26, 3) := by decide +kernel
theorem dX10_bestBarn_18 : decode cX10_bestBarn 18 = .ok (.iload_n 1, 1) := by decide +kernel
theorem dX10_bestBarn_19 : decode cX10_bestBarn 19 = .ok (.ldc 25, 2) := by decide +kernel
theorem dX10_bestBarn_21 : decode cX10_bestBarn 21 = .ok (.if_icmp .eq 16, 3) := by decide +kernel
theorem dX10_bestBarn_24 : decode cX10_bestBarn 24 = .ok (.aload_n 0, 1) := by decide +kernel
theorem dX10_bestBarn_25 : decode cX10_bestBarn 25 = .ok (.iload_n 2, 1) := by decide +kernel
theorem dX10_bestBarn_26 : decode cX10_bestBarn 26 = .ok (.invokevirtual 69, 3) := by decide +kernel
theorem dX10_bestBarn_29 : decode cX10_bestBarn 29 = .ok (.aload_n 0, 1) := by decide +kernel
theorem dX10_bestBarn_30 : decode cX10_bestBarn 30 = .ok (.iload_n 1, 1) := by decide +kernel
theorem dX10_bestBarn_31 : decode cX10_bestBarn 31 = .ok (.invokevirtual 69, 3) := by decide +kernel
theorem dX10_bestBarn_34 : decode cX10_bestBarn 34 = .ok (.if_icmp .le 7, 3) := by decide +kernel
theorem dX10_bestBarn_37 : decode cX10_bestBarn 37 = .ok (.iconst 1, 1) := by decide +kernel
theorem dX10_bestBarn_38 : decode cX10_bestBarn 38 = .ok (.goto 4, 3) := by decide +kernel
theorem dX10_bestBarn_41 : decode cX10_bestBarn 41 = .ok (.iconst 0, 1) := by decide +kernel
theorem dX10_bestBarn_42 : decode cX10_bestBarn 42 = .ok (.istore_n 3, 1) := by decide +kernel
theorem dX10_bestBarn_43 : decode cX10_bestBarn 43 = .ok (.iload_n 3, 1) := by decide +kernel
theorem dX10_bestBarn_44 : decode cX10_bestBarn 44 = .ok (.ifCond .eq 7, 3) := by decide +kernel
theorem dX10_bestBarn_47 : decode cX10_bestBarn 47 = .ok (.iload_n 2, 1) := by decide +kernel
theorem dX10_bestBarn_48 : decode cX10_bestBarn 48 = .ok (.goto 4, 3) := by decide +kernel
theorem dX10_bestBarn_51 : decode cX10_bestBarn 51 = .ok (.iload_n 1, 1) := by decide +kernel
theorem dX10_bestBarn_52 : decode cX10_bestBarn 52 = .ok (.istore_n 1, 1) := by decide +kernel
theorem dX10_bestBarn_53 : decode cX10_bestBarn 53 = .ok (.iinc 2 1, 3) := by decide +kernel
theorem dX10_bestBarn_56 : decode cX10_bestBarn 56 = .ok (.goto (-51), 3) := by decide +kernel
theorem dX10_bestBarn_59 : decode cX10_bestBarn 59 = .ok (.iload_n 1, 1) := by decide +kernel
theorem dX10_bestBarn_60 : decode cX10_bestBarn 60 = .ok (.ireturn, 1) := by decide +kernel
set_option maxRecDepth 20000 in
theorem ggX10_ifPrice_X10_isBarn : GoodIn wsX10_ifPrice wsX10_isBarn := goodIn_r _ [6, 7, 8, 5, 9] (by decide +kernel) (by decide +kernel)
set_option maxRecDepth 20000 in
theorem gX10_ifPrice_X10_isBarn : GoodIn wsX10_ifPrice (va_wsS RX10 80 yX10_isBarn wsX10_isBarn) := goodIn_app (goodIn_of _ (by decide +kernel)) ggX10_ifPrice_X10_isBarn
set_option maxRecDepth 20000 in
theorem ggX10_ifPrice_X10_in : GoodIn wsX10_ifPrice wsX10_in := goodIn_r _ [9] (by decide +kernel) (by decide +kernel)
set_option maxRecDepth 20000 in
theorem gX10_ifPrice_X10_in : GoodIn wsX10_ifPrice (va_wsS RX10 37 yX10_in wsX10_in) := goodIn_app (goodIn_of _ (by decide +kernel)) ggX10_ifPrice_X10_in
set_option maxRecDepth 20000 in
theorem ggX10_ifPrice_X10_peopleAt : GoodIn wsX10_ifPrice wsX10_peopleAt := goodIn_r _ [13, 14, 15, 16, 5, 17, 18, 19, 20, 21, 22, 23, 24, 25, 26, 27, 28, 29, 30, 31, 32, 33, 34, 35, 36, 37, 38, 39, 40] (by decide +kernel) (by decide +kernel)
set_option maxRecDepth 20000 in
theorem gX10_ifPrice_X10_peopleAt : GoodIn wsX10_ifPrice (wsV RX10 69 RX10 yX10_peopleAt wsX10_peopleAt) := goodIn_app (goodIn_of _ (by decide +kernel)) ggX10_ifPrice_X10_peopleAt
theorem dX10_ifPrice_0 : decode cX10_ifPrice 0 = .ok (.iload_n 1, 1) := by decide +kernel
theorem dX10_ifPrice_1 : decode cX10_ifPrice 1 = .ok (.invokestatic 80, 3) := by decide +kernel
theorem dX10_ifPrice_4 : decode cX10_ifPrice 4 = .ok (.ifCond .ne 8, 3) := by decide +kernel
theorem dX10_ifPrice_7 : decode cX10_ifPrice 7 = .ok (.ldc 58, 2) := by decide +kernel
theorem dX10_ifPrice_9 : decode cX10_ifPrice 9 = .ok (.goto 25, 3) := by decide +kernel
theorem dX10_ifPrice_12 : decode cX10_ifPrice 12 = .ok (.iload_n 2, 1) := by decide +kernel
theorem dX10_ifPrice_13 : decode cX10_ifPrice 13 = .ok (.iconst 1, 1) := by decide +kernel
theorem dX10_ifPrice_14 : decode cX10_ifPrice 14 = .ok (.bipush 99, 2) := by decide +kernel
theorem dX10_ifPrice_16 : decode cX10_ifPrice 16 = .ok (.invokestatic 37, 3) := by decide +kernel
theorem dX10_ifPrice_19 : decode cX10_ifPrice 19 = .ok (.ifCond .eq 13, 3) := by decide +kernel
theorem dX10_ifPrice_22 : decode cX10_ifPrice 22 = .ok (.aload_n 0, 1) := by decide +kernel
theorem dX10_ifPrice_23 : decode cX10_ifPrice 23 = .ok (.iload_n 1, 1) := by decide +kernel
theorem dX10_ifPrice_24 : decode cX10_ifPrice 24 = .ok (.invokevirtual 69, 3) := by decide +kernel
theorem dX10_ifPrice_27 : decode cX10_ifPrice 27 = .ok (.iload_n 2, 1) := by decide +kernel
theorem dX10_ifPrice_28 : decode cX10_ifPrice 28 = .ok (.imul, 1) := by decide +kernel
theorem dX10_ifPrice_29 : decode cX10_ifPrice 29 = .ok (.goto 5, 3) := by decide +kernel
theorem dX10_ifPrice_32 : decode cX10_ifPrice 32 = .ok (.ldc 59, 2) := by decide +kernel
theorem dX10_ifPrice_34 : decode cX10_ifPrice 34 = .ok (.ireturn, 1) := by decide +kernel
set_option maxRecDepth 20000 in
theorem ggX10_showOf_X10_in : GoodIn wsX10_showOf wsX10_in := goodIn_r _ [7] (by decide +kernel) (by decide +kernel)
set_option maxRecDepth 20000 in
theorem gX10_showOf_X10_in : GoodIn wsX10_showOf (va_wsS RX10 37 yX10_in wsX10_in) := goodIn_app (goodIn_of _ (by decide +kernel)) ggX10_showOf_X10_in
theorem dX10_showOf_0 : decode cX10_showOf 0 = .ok (.iload_n 1, 1) := by decide +kernel
theorem dX10_showOf_1 : decode cX10_showOf 1 = .ok (.ifCond .lt 12, 3) := by decide +kernel
theorem dX10_showOf_4 : decode cX10_showOf 4 = .ok (.iload_n 2, 1) := by decide +kernel
theorem dX10_showOf_5 : decode cX10_showOf 5 = .ok (.iconst 0, 1) := by decide +kernel
theorem dX10_showOf_6 : decode cX10_showOf 6 = .ok (.iconst 4, 1) := by decide +kernel
theorem dX10_showOf_7 : decode cX10_showOf 7 = .ok (.invokestatic 37, 3) := by decide +kernel
theorem dX10_showOf_10 : decode cX10_showOf 10 = .ok (.ifCond .ne 8, 3) := by decide +kernel
theorem dX10_showOf_13 : decode cX10_showOf 13 = .ok (.ldc 59, 2) := by decide +kernel
theorem dX10_showOf_15 : decode cX10_showOf 15 = .ok (.goto 32, 3) := by decide +kernel
theorem dX10_showOf_18 : decode cX10_showOf 18 = .ok (.iload_n 1, 1) := by decide +kernel
theorem dX10_showOf_19 : decode cX10_showOf 19 = .ok (.aload_n 0, 1) := by decide +kernel
theorem dX10_showOf_20 : decode cX10_showOf 20 = .ok (.getfield 7, 3) := by decide +kernel
theorem dX10_showOf_23 : decode cX10_showOf 23 = .ok (.bipush 77, 2) := by decide +kernel
theorem dX10_showOf_25 : decode cX10_showOf 25 = .ok (.iaload, 1) := by decide +kernel
theorem dX10_showOf_26 : decode cX10_showOf 26 = .ok (.if_icmp .ge 19, 3) := by decide +kernel
theorem dX10_showOf_29 : decode cX10_showOf 29 = .ok (.aload_n 0, 1) := by decide +kernel
theorem dX10_showOf_30 : decode cX10_showOf 30 = .ok (.getfield 7, 3) := by decide +kernel
theorem dX10_showOf_33 : decode cX10_showOf 33 = .ok (.bipush 78, 2) := by decide +kernel
theorem dX10_showOf_35 : decode cX10_showOf 35 = .ok (.iconst 5, 1) := by decide +kernel
theorem dX10_showOf_36 : decode cX10_showOf 36 = .ok (.iload_n 1, 1) := by decide +kernel
theorem dX10_showOf_37 : decode cX10_showOf 37 = .ok (.imul, 1) := by decide +kernel
theorem dX10_showOf_38 : decode cX10_showOf 38 = .ok (.iadd, 1) := by decide +kernel
theorem dX10_showOf_39 : decode cX10_showOf 39 = .ok (.iload_n 2, 1) := by decide +kernel
theorem dX10_showOf_40 : decode cX10_showOf 40 = .ok (.iadd, 1) := by decide +kernel
theorem dX10_showOf_41 : decode cX10_showOf 41 = .ok (.iaload, 1) := by decide +kernel
theorem dX10_showOf_42 : decode cX10_showOf 42 = .ok (.goto 5, 3) := by decide +kernel
theorem dX10_showOf_45 : decode cX10_showOf 45 = .ok (.ldc 25, 2) := by decide +kernel
theorem dX10_showOf_47 : decode cX10_showOf 47 = .ok (.ireturn, 1) := by decide +kernel
set_option maxRecDepth 20000 in
theorem ggX10_gone_X10_of : GoodIn wsX10_gone wsX10_of := goodIn_r _ [5] (by decide +kernel) (by decide +kernel)
set_option maxRecDepth 20000 in
theorem gX10_gone_X10_of : GoodIn wsX10_gone (va_wsS RX10 33 yX10_of wsX10_of) := goodIn_app (goodIn_of _ (by decide +kernel)) ggX10_gone_X10_of
theorem dX10_gone_0 : decode cX10_gone 0 = .ok (.iconst 0, 1) := by decide +kernel
theorem dX10_gone_1 : decode cX10_gone 1 = .ok (.istore_n 1, 1) := by decide +kernel
theorem dX10_gone_2 : decode cX10_gone 2 = .ok (.iconst 0, 1) := by decide +kernel
theorem dX10_gone_3 : decode cX10_gone 3 = .ok (.istore_n 2, 1) := by decide +kernel
theorem dX10_gone_4 : decode cX10_gone 4 = .ok (.iload_n 2, 1) := by decide +kernel
theorem dX10_gone_5 : decode cX10_gone 5 = .ok (.bipush 10, 2) := by decide +kernel
theorem dX10_gone_7 : decode cX10_gone 7 = .ok (.if_icmp .ge 32, 3) := by decide +kernel
theorem dX10_gone_10 : decode cX10_gone 10 = .ok (.iload_n 1, 1) := by decide +kernel
theorem dX10_gone_11 : decode cX10_gone 11 = .ok (.aload_n 0, 1) := by decide +kernel
theorem dX10_gone_12 : decode cX10_gone 12 = .ok (.getfield 7, 3) := by decide +kernel
theorem dX10_gone_15 : decode cX10_gone 15 = .ok (.iload_n 2, 1) := by decide +kernel
theorem dX10_gone_16 : decode cX10_gone 16 = .ok (.iconst 0, 1) := by decide +kernel
theorem dX10_gone_17 : decode cX10_gone 17 = .ok (.invokestatic 33, 3) := by decide +kernel
theorem dX10_gone_20 : decode cX10_gone 20 = .ok (.iaload, 1) := by decide +kernel
theorem dX10_gone_21 : decode cX10_gone 21 = .ok (.bipush (-2), 2) := by decide +kernel
theorem dX10_gone_23 : decode cX10_gone 23 = .ok (.if_icmp .ne 7, 3) := by decide +kernel
theorem dX10_gone_26 : decode cX10_gone 26 = .ok (.iconst 1, 1) := by decide +kernel
theorem dX10_gone_27 : decode cX10_gone 27 = .ok (.goto 4, 3) := by decide +kernel
theorem dX10_gone_30 : decode cX10_gone 30 = .ok (.iconst 0, 1) := by decide +kernel
theorem dX10_gone_31 : decode cX10_gone 31 = .ok (.iadd, 1) := by decide +kernel
theorem dX10_gone_32 : decode cX10_gone 32 = .ok (.istore_n 1, 1) := by decide +kernel
theorem dX10_gone_33 : decode cX10_gone 33 = .ok (.iinc 2 1, 3) := by decide +kernel
theorem dX10_gone_36 : decode cX10_gone 36 = .ok (.goto (-32), 3) := by decide +kernel
theorem dX10_gone_39 : decode cX10_gone 39 = .ok (.iload_n 1, 1) := by decide +kernel
theorem dX10_gone_40 : decode cX10_gone 40 = .ok (.ireturn, 1) := by decide +kernel
set_option maxRecDepth 20000 in
theorem ggX10_count_X10_inVan : GoodIn wsX10_count wsX10_inVan := goodIn_r _ [9, 1, 10, 11, 12, 8, 13, 22, 23, 24, 25, 26, 27, 28, 29, 30, 31, 32, 33, 34, 35, 36, 37] (by decide +kernel) (by decide +kernel)
set_option maxRecDepth 20000 in
theorem gX10_count_X10_inVan : GoodIn wsX10_count (wsV RX10 45 RX10 yX10_inVan wsX10_inVan) := goodIn_app (goodIn_of _ (by decide +kernel)) ggX10_count_X10_inVan
set_option maxRecDepth 20000 in
theorem ggX10_count_X10_gone : GoodIn wsX10_count wsX10_gone := goodIn_r _ [17, 1, 11, 12, 8, 13, 22, 23, 24, 25, 26, 27, 28, 29, 30, 31, 32, 33, 34, 35, 36, 37] (by decide +kernel) (by decide +kernel)
set_option maxRecDepth 20000 in
theorem gX10_count_X10_gone : GoodIn wsX10_count (wsV RX10 176 RX10 yX10_gone wsX10_gone) := goodIn_app (goodIn_of _ (by decide +kernel)) ggX10_count_X10_gone
set_option maxRecDepth 20000 in
theorem ggX10_count_X10_sum : GoodIn wsX10_count wsX10_sum := goodIn_r _ [21, 1, 22, 23, 24, 25, 26, 27, 28, 29, 30, 31, 32, 33, 34, 35, 36, 37] (by decide +kernel) (by decide +kernel)
set_option maxRecDepth 20000 in
theorem gX10_count_X10_sum : GoodIn wsX10_count (wsV RX10 179 RX10 yX10_sum wsX10_sum) := goodIn_app (goodIn_of _ (by decide +kernel)) ggX10_count_X10_sum
theorem dX10_count_0 : decode cX10_count 0 = .ok (.iload_n 1, 1) := by decide +kernel
theorem dX10_count_1 : decode cX10_count 1 = .ok (.tableswitch 179 0 14 #[75, 83, 91, 96, 101, 109, 109, 109, 121, 137, 145, 153, 161, 169, 174], 75) := by decide +kernel
theorem dX10_count_76 : decode cX10_count 76 = .ok (.aload_n 0, 1) := by decide +kernel
theorem dX10_count_77 : decode cX10_count 77 = .ok (.getfield 7, 3) := by decide +kernel
theorem dX10_count_80 : decode cX10_count 80 = .ok (.bipush 55, 2) := by decide +kernel
theorem dX10_count_82 : decode cX10_count 82 = .ok (.iaload, 1) := by decide +kernel
theorem dX10_count_83 : decode cX10_count 83 = .ok (.ireturn, 1) := by decide +kernel
theorem dX10_count_84 : decode cX10_count 84 = .ok (.aload_n 0, 1) := by decide +kernel
theorem dX10_count_85 : decode cX10_count 85 = .ok (.getfield 7, 3) := by decide +kernel
theorem dX10_count_88 : decode cX10_count 88 = .ok (.bipush 54, 2) := by decide +kernel
theorem dX10_count_90 : decode cX10_count 90 = .ok (.iaload, 1) := by decide +kernel
theorem dX10_count_91 : decode cX10_count 91 = .ok (.ireturn, 1) := by decide +kernel
theorem dX10_count_92 : decode cX10_count 92 = .ok (.aload_n 0, 1) := by decide +kernel
theorem dX10_count_93 : decode cX10_count 93 = .ok (.invokevirtual 45, 3) := by decide +kernel
theorem dX10_count_96 : decode cX10_count 96 = .ok (.ireturn, 1) := by decide +kernel
theorem dX10_count_97 : decode cX10_count 97 = .ok (.aload_n 0, 1) := by decide +kernel
theorem dX10_count_98 : decode cX10_count 98 = .ok (.invokevirtual 176, 3) := by decide +kernel
theorem dX10_count_101 : decode cX10_count 101 = .ok (.ireturn, 1) := by decide +kernel
theorem dX10_count_102 : decode cX10_count 102 = .ok (.aload_n 0, 1) := by decide +kernel
theorem dX10_count_103 : decode cX10_count 103 = .ok (.bipush 67, 2) := by decide +kernel
theorem dX10_count_105 : decode cX10_count 105 = .ok (.iconst 5, 1) := by decide +kernel
theorem dX10_count_106 : decode cX10_count 106 = .ok (.invokevirtual 179, 3) := by decide +kernel
theorem dX10_count_109 : decode cX10_count 109 = .ok (.ireturn, 1) := by decide +kernel
theorem dX10_count_110 : decode cX10_count 110 = .ok (.aload_n 0, 1) := by decide +kernel
theorem dX10_count_111 : decode cX10_count 111 = .ok (.getfield 7, 3) := by decide +kernel
theorem dX10_count_114 : decode cX10_count 114 = .ok (.bipush 72, 2) := by decide +kernel
theorem dX10_count_116 : decode cX10_count 116 = .ok (.iload_n 1, 1) := by decide +kernel
theorem dX10_count_117 : decode cX10_count 117 = .ok (.iadd, 1) := by decide +kernel
theorem dX10_count_118 : decode cX10_count 118 = .ok (.iconst 5, 1) := by decide +kernel
theorem dX10_count_119 : decode cX10_count 119 = .ok (.isub, 1) := by decide +kernel
theorem dX10_count_120 : decode cX10_count 120 = .ok (.iaload, 1) := by decide +kernel
theorem dX10_count_121 : decode cX10_count 121 = .ok (.ireturn, 1) := by decide +kernel
theorem dX10_count_122 : decode cX10_count 122 = .ok (.aload_n 0, 1) := by decide +kernel
theorem dX10_count_123 : decode cX10_count 123 = .ok (.bipush 67, 2) := by decide +kernel
theorem dX10_count_125 : decode cX10_count 125 = .ok (.iconst 5, 1) := by decide +kernel
theorem dX10_count_126 : decode cX10_count 126 = .ok (.invokevirtual 179, 3) := by decide +kernel
theorem dX10_count_129 : decode cX10_count 129 = .ok (.aload_n 0, 1) := by decide +kernel
theorem dX10_count_130 : decode cX10_count 130 = .ok (.bipush 72, 2) := by decide +kernel
theorem dX10_count_132 : decode cX10_count 132 = .ok (.iconst 3, 1) := by decide +kernel
theorem dX10_count_133 : decode cX10_count 133 = .ok (.invokevirtual 179, 3) := by decide +kernel
theorem dX10_count_136 : decode cX10_count 136 = .ok (.isub, 1) := by decide +kernel
theorem dX10_count_137 : decode cX10_count 137 = .ok (.ireturn, 1) := by decide +kernel
theorem dX10_count_138 : decode cX10_count 138 = .ok (.aload_n 0, 1) := by decide +kernel
theorem dX10_count_139 : decode cX10_count 139 = .ok (.bipush 62, 2) := by decide +kernel
theorem dX10_count_141 : decode cX10_count 141 = .ok (.iconst 5, 1) := by decide +kernel
theorem dX10_count_142 : decode cX10_count 142 = .ok (.invokevirtual 179, 3) := by decide +kernel
theorem dX10_count_145 : decode cX10_count 145 = .ok (.ireturn, 1) := by decide +kernel
theorem dX10_count_146 : decode cX10_count 146 = .ok (.aload_n 0, 1) := by decide +kernel
theorem dX10_count_147 : decode cX10_count 147 = .ok (.getfield 7, 3) := by decide +kernel
theorem dX10_count_150 : decode cX10_count 150 = .ok (.bipush 75, 2) := by decide +kernel
theorem dX10_count_152 : decode cX10_count 152 = .ok (.iaload, 1) := by decide +kernel
theorem dX10_count_153 : decode cX10_count 153 = .ok (.ireturn, 1) := by decide +kernel
theorem dX10_count_154 : decode cX10_count 154 = .ok (.aload_n 0, 1) := by decide +kernel
theorem dX10_count_155 : decode cX10_count 155 = .ok (.getfield 7, 3) := by decide +kernel
theorem dX10_count_158 : decode cX10_count 158 = .ok (.bipush 56, 2) := by decide +kernel
theorem dX10_count_160 : decode cX10_count 160 = .ok (.iaload, 1) := by decide +kernel
theorem dX10_count_161 : decode cX10_count 161 = .ok (.ireturn, 1) := by decide +kernel
theorem dX10_count_162 : decode cX10_count 162 = .ok (.aload_n 0, 1) := by decide +kernel
theorem dX10_count_163 : decode cX10_count 163 = .ok (.getfield 7, 3) := by decide +kernel
theorem dX10_count_166 : decode cX10_count 166 = .ok (.bipush 76, 2) := by decide +kernel
theorem dX10_count_168 : decode cX10_count 168 = .ok (.iaload, 1) := by decide +kernel
theorem dX10_count_169 : decode cX10_count 169 = .ok (.ireturn, 1) := by decide +kernel
theorem dX10_count_170 : decode cX10_count 170 = .ok (.aload_n 0, 1) := by decide +kernel
theorem dX10_count_171 : decode cX10_count 171 = .ok (.getfield 41, 3) := by decide +kernel
theorem dX10_count_174 : decode cX10_count 174 = .ok (.ireturn, 1) := by decide +kernel
theorem dX10_count_175 : decode cX10_count 175 = .ok (.aload_n 0, 1) := by decide +kernel
theorem dX10_count_176 : decode cX10_count 176 = .ok (.getfield 122, 3) := by decide +kernel
theorem dX10_count_179 : decode cX10_count 179 = .ok (.ireturn, 1) := by decide +kernel
theorem dX10_count_180 : decode cX10_count 180 = .ok (.ldc 59, 2) := by decide +kernel
theorem dX10_count_182 : decode cX10_count 182 = .ok (.ireturn, 1) := by decide +kernel
theorem dJ9_abs_0f7a4_0 : decode cJ9_abs_0f7a4 0 = .ok (.iload_n 0, 1) := by decide +kernel
theorem dJ9_abs_0f7a4_1 : decode cJ9_abs_0f7a4 1 = .ok (.ifCond .ge 8, 3) := by decide +kernel
theorem dJ9_abs_0f7a4_4 : decode cJ9_abs_0f7a4 4 = .ok (.iload_n 0, 1) := by decide +kernel
theorem dJ9_abs_0f7a4_5 : decode cJ9_abs_0f7a4 5 = .ok (.ineg, 1) := by decide +kernel
theorem dJ9_abs_0f7a4_6 : decode cJ9_abs_0f7a4 6 = .ok (.goto 4, 3) := by decide +kernel
theorem dJ9_abs_0f7a4_9 : decode cJ9_abs_0f7a4 9 = .ok (.iload_n 0, 1) := by decide +kernel
theorem dJ9_abs_0f7a4_10 : decode cJ9_abs_0f7a4 10 = .ok (.ireturn, 1) := by decide +kernel
theorem dJ9_max_7cf53_0 : decode cJ9_max_7cf53 0 = .ok (.iload_n 0, 1) := by decide +kernel
theorem dJ9_max_7cf53_1 : decode cJ9_max_7cf53 1 = .ok (.iload_n 1, 1) := by decide +kernel
theorem dJ9_max_7cf53_2 : decode cJ9_max_7cf53 2 = .ok (.if_icmp .lt 7, 3) := by decide +kernel
theorem dJ9_max_7cf53_5 : decode cJ9_max_7cf53 5 = .ok (.iload_n 0, 1) := by decide +kernel
theorem dJ9_max_7cf53_6 : decode cJ9_max_7cf53 6 = .ok (.goto 4, 3) := by decide +kernel
theorem dJ9_max_7cf53_9 : decode cJ9_max_7cf53 9 = .ok (.iload_n 1, 1) := by decide +kernel
theorem dJ9_max_7cf53_10 : decode cJ9_max_7cf53 10 = .ok (.ireturn, 1) := by decide +kernel
theorem dJ9_min_7cf53_0 : decode cJ9_min_7cf53 0 = .ok (.iload_n 0, 1) := by decide +kernel
theorem dJ9_min_7cf53_1 : decode cJ9_min_7cf53 1 = .ok (.iload_n 1, 1) := by decide +kernel
theorem dJ9_min_7cf53_2 : decode cJ9_min_7cf53 2 = .ok (.if_icmp .gt 7, 3) := by decide +kernel
theorem dJ9_min_7cf53_5 : decode cJ9_min_7cf53 5 = .ok (.iload_n 0, 1) := by decide +kernel
theorem dJ9_min_7cf53_6 : decode cJ9_min_7cf53 6 = .ok (.goto 4, 3) := by decide +kernel
theorem dJ9_min_7cf53_9 : decode cJ9_min_7cf53 9 = .ok (.iload_n 1, 1) := by decide +kernel
theorem dJ9_min_7cf53_10 : decode cJ9_min_7cf53 10 = .ok (.ireturn, 1) := by decide +kernel
