set_option maxRecDepth 20000 in
theorem ggX10_init_X10_of : GoodIn wsX10_init wsX10_of := goodIn_r _ [16] (by decide +kernel) (by decide +kernel)
set_option maxRecDepth 20000 in
theorem gX10_init_X10_of : GoodIn wsX10_init (va_wsS RX10 33 yX10_of wsX10_of) := goodIn_app (goodIn_of _ (by decide +kernel)) ggX10_init_X10_of
theorem dX10_init_0 : decode cX10_init 0 = .ok (.aload_n 0, 1) := by decide +kernel
theorem dX10_init_1 : decode cX10_init 1 = .ok (.invokespecial 1, 3) := by decide +kernel
theorem dX10_init_4 : decode cX10_init 4 = .ok (.aload_n 0, 1) := by decide +kernel
theorem dX10_init_5 : decode cX10_init 5 = .ok (.bipush 108, 2) := by decide +kernel
theorem dX10_init_7 : decode cX10_init 7 = .ok (.newarray .int, 2) := by decide +kernel
theorem dX10_init_9 : decode cX10_init 9 = .ok (.putfield 7, 3) := by decide +kernel
theorem dX10_init_12 : decode cX10_init 12 = .ok (.aload_n 0, 1) := by decide +kernel
theorem dX10_init_13 : decode cX10_init 13 = .ok (.bipush 108, 2) := by decide +kernel
theorem dX10_init_15 : decode cX10_init 15 = .ok (.newarray .int, 2) := by decide +kernel
theorem dX10_init_17 : decode cX10_init 17 = .ok (.putfield 13, 3) := by decide +kernel
theorem dX10_init_20 : decode cX10_init 20 = .ok (.aload_n 0, 1) := by decide +kernel
theorem dX10_init_21 : decode cX10_init 21 = .ok (.sipush 432, 3) := by decide +kernel
theorem dX10_init_24 : decode cX10_init 24 = .ok (.newarray .int, 2) := by decide +kernel
theorem dX10_init_26 : decode cX10_init 26 = .ok (.putfield 16, 3) := by decide +kernel
theorem dX10_init_29 : decode cX10_init 29 = .ok (.aload_n 0, 1) := by decide +kernel
theorem dX10_init_30 : decode cX10_init 30 = .ok (.bipush 108, 2) := by decide +kernel
theorem dX10_init_32 : decode cX10_init 32 = .ok (.newarray .int, 2) := by decide +kernel
theorem dX10_init_34 : decode cX10_init 34 = .ok (.putfield 19, 3) := by decide +kernel
theorem dX10_init_37 : decode cX10_init 37 = .ok (.aload_n 0, 1) := by decide +kernel
theorem dX10_init_38 : decode cX10_init 38 = .ok (.bipush 80, 2) := by decide +kernel
theorem dX10_init_40 : decode cX10_init 40 = .ok (.newarray .int, 2) := by decide +kernel
theorem dX10_init_42 : decode cX10_init 42 = .ok (.putfield 22, 3) := by decide +kernel
theorem dX10_init_45 : decode cX10_init 45 = .ok (.aload_n 0, 1) := by decide +kernel
theorem dX10_init_46 : decode cX10_init 46 = .ok (.ldc 25, 2) := by decide +kernel
theorem dX10_init_48 : decode cX10_init 48 = .ok (.putfield 26, 3) := by decide +kernel
theorem dX10_init_51 : decode cX10_init 51 = .ok (.aload_n 0, 1) := by decide +kernel
theorem dX10_init_52 : decode cX10_init 52 = .ok (.ldc 25, 2) := by decide +kernel
theorem dX10_init_54 : decode cX10_init 54 = .ok (.putfield 30, 3) := by decide +kernel
theorem dX10_init_57 : decode cX10_init 57 = .ok (.iconst 0, 1) := by decide +kernel
theorem dX10_init_58 : decode cX10_init 58 = .ok (.istore_n 1, 1) := by decide +kernel
theorem dX10_init_59 : decode cX10_init 59 = .ok (.iload_n 1, 1) := by decide +kernel
theorem dX10_init_60 : decode cX10_init 60 = .ok (.bipush 10, 2) := by decide +kernel
theorem dX10_init_62 : decode cX10_init 62 = .ok (.if_icmp .ge 35, 3) := by decide +kernel
theorem dX10_init_65 : decode cX10_init 65 = .ok (.aload_n 0, 1) := by decide +kernel
theorem dX10_init_66 : decode cX10_init 66 = .ok (.getfield 7, 3) := by decide +kernel
theorem dX10_init_69 : decode cX10_init 69 = .ok (.iload_n 1, 1) := by decide +kernel
theorem dX10_init_70 : decode cX10_init 70 = .ok (.iconst 0, 1) := by decide +kernel
theorem dX10_init_71 : decode cX10_init 71 = .ok (.invokestatic 33, 3) := by decide +kernel
theorem dX10_init_74 : decode cX10_init 74 = .ok (.ldc 25, 2) := by decide +kernel
theorem dX10_init_76 : decode cX10_init 76 = .ok (.iastore, 1) := by decide +kernel
theorem dX10_init_77 : decode cX10_init 77 = .ok (.aload_n 0, 1) := by decide +kernel
theorem dX10_init_78 : decode cX10_init 78 = .ok (.getfield 7, 3) := by decide +kernel
theorem dX10_init_81 : decode cX10_init 81 = .ok (.iload_n 1, 1) := by decide +kernel
theorem dX10_init_82 : decode cX10_init 82 = .ok (.iconst 1, 1) := by decide +kernel
theorem dX10_init_83 : decode cX10_init 83 = .ok (.invokestatic 33, 3) := by decide +kernel
theorem dX10_init_86 : decode cX10_init 86 = .ok (.bipush 8, 2) := by decide +kernel
theorem dX10_init_88 : decode cX10_init 88 = .ok (.iload_n 1, 1) := by decide +kernel
theorem dX10_init_89 : decode cX10_init 89 = .ok (.iadd, 1) := by decide +kernel
theorem dX10_init_90 : decode cX10_init 90 = .ok (.iastore, 1) := by decide +kernel
theorem dX10_init_91 : decode cX10_init 91 = .ok (.iinc 1 1, 3) := by decide +kernel
theorem dX10_init_94 : decode cX10_init 94 = .ok (.goto (-35), 3) := by decide +kernel
theorem dX10_init_97 : decode cX10_init 97 = .ok (.iconst 0, 1) := by decide +kernel
theorem dX10_init_98 : decode cX10_init 98 = .ok (.istore_n 1, 1) := by decide +kernel
theorem dX10_init_99 : decode cX10_init 99 = .ok (.iload_n 1, 1) := by decide +kernel
theorem dX10_init_100 : decode cX10_init 100 = .ok (.iconst 2, 1) := by decide +kernel
theorem dX10_init_101 : decode cX10_init 101 = .ok (.if_icmp .ge 37, 3) := by decide +kernel
theorem dX10_init_104 : decode cX10_init 104 = .ok (.aload_n 0, 1) := by decide +kernel
theorem dX10_init_105 : decode cX10_init 105 = .ok (.getfield 7, 3) := by decide +kernel
theorem dX10_init_108 : decode cX10_init 108 = .ok (.bipush 50, 2) := by decide +kernel
theorem dX10_init_110 : decode cX10_init 110 = .ok (.iconst 2, 1) := by decide +kernel
theorem dX10_init_111 : decode cX10_init 111 = .ok (.iload_n 1, 1) := by decide +kernel
theorem dX10_init_112 : decode cX10_init 112 = .ok (.imul, 1) := by decide +kernel
theorem dX10_init_113 : decode cX10_init 113 = .ok (.iadd, 1) := by decide +kernel
theorem dX10_init_114 : decode cX10_init 114 = .ok (.ldc 25, 2) := by decide +kernel
theorem dX10_init_116 : decode cX10_init 116 = .ok (.iastore, 1) := by decide +kernel
theorem dX10_init_117 : decode cX10_init 117 = .ok (.aload_n 0, 1) := by decide +kernel
theorem dX10_init_118 : decode cX10_init 118 = .ok (.getfield 7, 3) := by decide +kernel
theorem dX10_init_121 : decode cX10_init 121 = .ok (.bipush 50, 2) := by decide +kernel
theorem dX10_init_123 : decode cX10_init 123 = .ok (.iconst 2, 1) := by decide +kernel
theorem dX10_init_124 : decode cX10_init 124 = .ok (.iload_n 1, 1) := by decide +kernel
theorem dX10_init_125 : decode cX10_init 125 = .ok (.imul, 1) := by decide +kernel
theorem dX10_init_126 : decode cX10_init 126 = .ok (.iadd, 1) := by decide +kernel
theorem dX10_init_127 : decode cX10_init 127 = .ok (.iconst 1, 1) := by decide +kernel
theorem dX10_init_128 : decode cX10_init 128 = .ok (.iadd, 1) := by decide +kernel
theorem dX10_init_129 : decode cX10_init 129 = .ok (.bipush 60, 2) := by decide +kernel
theorem dX10_init_131 : decode cX10_init 131 = .ok (.iastore, 1) := by decide +kernel
theorem dX10_init_132 : decode cX10_init 132 = .ok (.iinc 1 1, 3) := by decide +kernel
theorem dX10_init_135 : decode cX10_init 135 = .ok (.goto (-36), 3) := by decide +kernel
theorem dX10_init_138 : decode cX10_init 138 = .ok (.aload_n 0, 1) := by decide +kernel
theorem dX10_init_139 : decode cX10_init 139 = .ok (.getfield 7, 3) := by decide +kernel
theorem dX10_init_142 : decode cX10_init 142 = .ok (.bipush 56, 2) := by decide +kernel
theorem dX10_init_144 : decode cX10_init 144 = .ok (.iconst 4, 1) := by decide +kernel
theorem dX10_init_145 : decode cX10_init 145 = .ok (.iastore, 1) := by decide +kernel
theorem dX10_init_146 : decode cX10_init 146 = .ok (.return_, 1) := by decide +kernel
theorem dX10_in_0 : decode cX10_in 0 = .ok (.iload_n 0, 1) := by decide +kernel
theorem dX10_in_1 : decode cX10_in 1 = .ok (.iload_n 1, 1) := by decide +kernel
theorem dX10_in_2 : decode cX10_in 2 = .ok (.if_icmp .lt 12, 3) := by decide +kernel
theorem dX10_in_5 : decode cX10_in 5 = .ok (.iload_n 0, 1) := by decide +kernel
theorem dX10_in_6 : decode cX10_in 6 = .ok (.iload_n 2, 1) := by decide +kernel
theorem dX10_in_7 : decode cX10_in 7 = .ok (.if_icmp .gt 7, 3) := by decide +kernel
theorem dX10_in_10 : decode cX10_in 10 = .ok (.iconst 1, 1) := by decide +kernel
theorem dX10_in_11 : decode cX10_in 11 = .ok (.goto 4, 3) := by decide +kernel
theorem dX10_in_14 : decode cX10_in 14 = .ok (.iconst 0, 1) := by decide +kernel
theorem dX10_in_15 : decode cX10_in 15 = .ok (.ireturn, 1) := by decide +kernel
theorem dX10_of_0 : decode cX10_of 0 = .ok (.iconst 0, 1) := by decide +kernel
theorem dX10_of_1 : decode cX10_of 1 = .ok (.iconst 5, 1) := by decide +kernel
theorem dX10_of_2 : decode cX10_of 2 = .ok (.iload_n 0, 1) := by decide +kernel
theorem dX10_of_3 : decode cX10_of 3 = .ok (.imul, 1) := by decide +kernel
theorem dX10_of_4 : decode cX10_of 4 = .ok (.iadd, 1) := by decide +kernel
theorem dX10_of_5 : decode cX10_of 5 = .ok (.iload_n 1, 1) := by decide +kernel
theorem dX10_of_6 : decode cX10_of 6 = .ok (.iadd, 1) := by decide +kernel
theorem dX10_of_7 : decode cX10_of 7 = .ok (.ireturn, 1) := by decide +kernel
set_option maxRecDepth 20000 in
theorem ggX10_isBarn_X10_in : GoodIn wsX10_isBarn wsX10_in := goodIn_r _ [4] (by decide +kernel) (by decide +kernel)
set_option maxRecDepth 20000 in
theorem gX10_isBarn_X10_in : GoodIn wsX10_isBarn (va_wsS RX10 37 yX10_in wsX10_in) := goodIn_app (goodIn_of _ (by decide +kernel)) ggX10_isBarn_X10_in
theorem dX10_isBarn_0 : decode cX10_isBarn 0 = .ok (.iload_n 0, 1) := by decide +kernel
theorem dX10_isBarn_1 : decode cX10_isBarn 1 = .ok (.iconst 0, 1) := by decide +kernel
theorem dX10_isBarn_2 : decode cX10_isBarn 2 = .ok (.iconst 4, 1) := by decide +kernel
theorem dX10_isBarn_3 : decode cX10_isBarn 3 = .ok (.invokestatic 37, 3) := by decide +kernel
theorem dX10_isBarn_6 : decode cX10_isBarn 6 = .ok (.ireturn, 1) := by decide +kernel
set_option maxRecDepth 20000 in
theorem ggX10_isReel_X10_in : GoodIn wsX10_isReel wsX10_in := goodIn_r _ [5] (by decide +kernel) (by decide +kernel)
set_option maxRecDepth 20000 in
theorem gX10_isReel_X10_in : GoodIn wsX10_isReel (va_wsS RX10 37 yX10_in wsX10_in) := goodIn_app (goodIn_of _ (by decide +kernel)) ggX10_isReel_X10_in
set_option maxRecDepth 20000 in
theorem ggX10_isReel_X10_of : GoodIn wsX10_isReel wsX10_of := goodIn_r _ [8] (by decide +kernel) (by decide +kernel)
set_option maxRecDepth 20000 in
theorem gX10_isReel_X10_of : GoodIn wsX10_isReel (va_wsS RX10 33 yX10_of wsX10_of) := goodIn_app (goodIn_of _ (by decide +kernel)) ggX10_isReel_X10_of
theorem dX10_isReel_0 : decode cX10_isReel 0 = .ok (.iload_n 1, 1) := by decide +kernel
theorem dX10_isReel_1 : decode cX10_isReel 1 = .ok (.iconst 0, 1) := by decide +kernel
theorem dX10_isReel_2 : decode cX10_isReel 2 = .ok (.bipush 9, 2) := by decide +kernel
theorem dX10_isReel_4 : decode cX10_isReel 4 = .ok (.invokestatic 37, 3) := by decide +kernel
theorem dX10_isReel_7 : decode cX10_isReel 7 = .ok (.ifCond .eq 22, 3) := by decide +kernel
theorem dX10_isReel_10 : decode cX10_isReel 10 = .ok (.aload_n 0, 1) := by decide +kernel
theorem dX10_isReel_11 : decode cX10_isReel 11 = .ok (.getfield 7, 3) := by decide +kernel
theorem dX10_isReel_14 : decode cX10_isReel 14 = .ok (.iload_n 1, 1) := by decide +kernel
theorem dX10_isReel_15 : decode cX10_isReel 15 = .ok (.iconst 0, 1) := by decide +kernel
theorem dX10_isReel_16 : decode cX10_isReel 16 = .ok (.invokestatic 33, 3) := by decide +kernel
theorem dX10_isReel_19 : decode cX10_isReel 19 = .ok (.iaload, 1) := by decide +kernel
theorem dX10_isReel_20 : decode cX10_isReel 20 = .ok (.bipush (-2), 2) := by decide +kernel
theorem dX10_isReel_22 : decode cX10_isReel 22 = .ok (.if_icmp .eq 7, 3) := by decide +kernel
theorem dX10_isReel_25 : decode cX10_isReel 25 = .ok (.iconst 1, 1) := by decide +kernel
theorem dX10_isReel_26 : decode cX10_isReel 26 = .ok (.goto 4, 3) := by decide +kernel
theorem dX10_isReel_29 : decode cX10_isReel 29 = .ok (.iconst 0, 1) := by decide +kernel
theorem dX10_isReel_30 : decode cX10_isReel 30 = .ok (.ireturn, 1) := by decide +kernel
set_option maxRecDepth 20000 in
theorem ggX10_isGenerator_X10_in : GoodIn wsX10_isGenerator wsX10_in := goodIn_r _ [4] (by decide +kernel) (by decide +kernel)
set_option maxRecDepth 20000 in
theorem gX10_isGenerator_X10_in : GoodIn wsX10_isGenerator (va_wsS RX10 37 yX10_in wsX10_in) := goodIn_app (goodIn_of _ (by decide +kernel)) ggX10_isGenerator_X10_in
theorem dX10_isGenerator_0 : decode cX10_isGenerator 0 = .ok (.iload_n 0, 1) := by decide +kernel
theorem dX10_isGenerator_1 : decode cX10_isGenerator 1 = .ok (.iconst 0, 1) := by decide +kernel
theorem dX10_isGenerator_2 : decode cX10_isGenerator 2 = .ok (.iconst 1, 1) := by decide +kernel
theorem dX10_isGenerator_3 : decode cX10_isGenerator 3 = .ok (.invokestatic 37, 3) := by decide +kernel
theorem dX10_isGenerator_6 : decode cX10_isGenerator 6 = .ok (.ireturn, 1) := by decide +kernel
theorem dX10_mile_0 : decode cX10_mile 0 = .ok (.iload_n 0, 1) := by decide +kernel
theorem dX10_mile_1 : decode cX10_mile 1 = .ok (.ifCond .ne 7, 3) := by decide +kernel
theorem dX10_mile_4 : decode cX10_mile 4 = .ok (.iconst 0, 1) := by decide +kernel
theorem dX10_mile_5 : decode cX10_mile 5 = .ok (.goto 35, 3) := by decide +kernel
theorem dX10_mile_8 : decode cX10_mile 8 = .ok (.iload_n 0, 1) := by decide +kernel
theorem dX10_mile_9 : decode cX10_mile 9 = .ok (.iconst 1, 1) := by decide +kernel
theorem dX10_mile_10 : decode cX10_mile 10 = .ok (.if_icmp .ne 8, 3) := by decide +kernel
theorem dX10_mile_13 : decode cX10_mile 13 = .ok (.bipush 8, 2) := by decide +kernel
theorem dX10_mile_15 : decode cX10_mile 15 = .ok (.goto 25, 3) := by decide +kernel
theorem dX10_mile_18 : decode cX10_mile 18 = .ok (.iload_n 0, 1) := by decide +kernel
theorem dX10_mile_19 : decode cX10_mile 19 = .ok (.iconst 2, 1) := by decide +kernel
theorem dX10_mile_20 : decode cX10_mile 20 = .ok (.if_icmp .ne 8, 3) := by decide +kernel
theorem dX10_mile_23 : decode cX10_mile 23 = .ok (.bipush 20, 2) := by decide +kernel
theorem dX10_mile_25 : decode cX10_mile 25 = .ok (.goto 15, 3) := by decide +kernel
theorem dX10_mile_28 : decode cX10_mile 28 = .ok (.iload_n 0, 1) := by decide +kernel
theorem dX10_mile_29 : decode cX10_mile 29 = .ok (.iconst 3, 1) := by decide +kernel
theorem dX10_mile_30 : decode cX10_mile 30 = .ok (.if_icmp .ne 8, 3) := by decide +kernel
theorem dX10_mile_33 : decode cX10_mile 33 = .ok (.bipush 26, 2) := by decide +kernel
theorem dX10_mile_35 : decode cX10_mile 35 = .ok (.goto 5, 3) := by decide +kernel
theorem dX10_mile_38 : decode cX10_mile 38 = .ok (.bipush 45, 2) := by decide +kernel
theorem dX10_mile_40 : decode cX10_mile 40 = .ok (.ireturn, 1) := by decide +kernel
theorem dX10_seats_0 : decode cX10_seats 0 = .ok (.iload_n 0, 1) := by decide +kernel
theorem dX10_seats_1 : decode cX10_seats 1 = .ok (.ifCond .ne 8, 3) := by decide +kernel
theorem dX10_seats_4 : decode cX10_seats 4 = .ok (.bipush 40, 2) := by decide +kernel
theorem dX10_seats_6 : decode cX10_seats 6 = .ok (.goto 35, 3) := by decide +kernel
theorem dX10_seats_9 : decode cX10_seats 9 = .ok (.iload_n 0, 1) := by decide +kernel
theorem dX10_seats_10 : decode cX10_seats 10 = .ok (.iconst 1, 1) := by decide +kernel
theorem dX10_seats_11 : decode cX10_seats 11 = .ok (.if_icmp .ne 8, 3) := by decide +kernel
theorem dX10_seats_14 : decode cX10_seats 14 = .ok (.bipush 60, 2) := by decide +kernel
theorem dX10_seats_16 : decode cX10_seats 16 = .ok (.goto 25, 3) := by decide +kernel
theorem dX10_seats_19 : decode cX10_seats 19 = .ok (.iload_n 0, 1) := by decide +kernel
theorem dX10_seats_20 : decode cX10_seats 20 = .ok (.iconst 2, 1) := by decide +kernel
theorem dX10_seats_21 : decode cX10_seats 21 = .ok (.if_icmp .ne 8, 3) := by decide +kernel
theorem dX10_seats_24 : decode cX10_seats 24 = .ok (.bipush 80, 2) := by decide +kernel
theorem dX10_seats_26 : decode cX10_seats 26 = .ok (.goto 15, 3) := by decide +kernel
theorem dX10_seats_29 : decode cX10_seats 29 = .ok (.iload_n 0, 1) := by decide +kernel
theorem dX10_seats_30 : decode cX10_seats 30 = .ok (.iconst 3, 1) := by decide +kernel
theorem dX10_seats_31 : decode cX10_seats 31 = .ok (.if_icmp .ne 8, 3) := by decide +kernel
theorem dX10_seats_34 : decode cX10_seats 34 = .ok (.bipush 50, 2) := by decide +kernel
theorem dX10_seats_36 : decode cX10_seats 36 = .ok (.goto 5, 3) := by decide +kernel
theorem dX10_seats_39 : decode cX10_seats 39 = .ok (.bipush 30, 2) := by decide +kernel
theorem dX10_seats_41 : decode cX10_seats 41 = .ok (.ireturn, 1) := by decide +kernel
theorem dX10_know_0 : decode cX10_know 0 = .ok (.aload_n 0, 1) := by decide +kernel
theorem dX10_know_1 : decode cX10_know 1 = .ok (.getfield 41, 3) := by decide +kernel
theorem dX10_know_4 : decode cX10_know 4 = .ok (.iconst 4, 1) := by decide +kernel
theorem dX10_know_5 : decode cX10_know 5 = .ok (.if_icmp .ne 43, 3) := by decide +kernel
theorem dX10_know_8 : decode cX10_know 8 = .ok (.iconst 0, 1) := by decide +kernel
theorem dX10_know_9 : decode cX10_know 9 = .ok (.istore_n 1, 1) := by decide +kernel
theorem dX10_know_10 : decode cX10_know 10 = .ok (.iload_n 1, 1) := by decide +kernel
theorem dX10_know_11 : decode cX10_know 11 = .ok (.sipush 324, 3) := by decide +kernel
theorem dX10_know_14 : decode cX10_know 14 = .ok (.if_icmp .ge 24, 3) := by decide +kernel
theorem dX10_know_17 : decode cX10_know 17 = .ok (.aload_n 0, 1) := by decide +kernel
theorem dX10_know_18 : decode cX10_know 18 = .ok (.getfield 16, 3) := by decide +kernel
theorem dX10_know_21 : decode cX10_know 21 = .ok (.iload_n 1, 1) := by decide +kernel
theorem dX10_know_22 : decode cX10_know 22 = .ok (.aload_n 0, 1) := by decide +kernel
theorem dX10_know_23 : decode cX10_know 23 = .ok (.getfield 16, 3) := by decide +kernel
theorem dX10_know_26 : decode cX10_know 26 = .ok (.bipush 108, 2) := by decide +kernel
theorem dX10_know_28 : decode cX10_know 28 = .ok (.iload_n 1, 1) := by decide +kernel
theorem dX10_know_29 : decode cX10_know 29 = .ok (.iadd, 1) := by decide +kernel
theorem dX10_know_30 : decode cX10_know 30 = .ok (.iaload, 1) := by decide +kernel
theorem dX10_know_31 : decode cX10_know 31 = .ok (.iastore, 1) := by decide +kernel
theorem dX10_know_32 : decode cX10_know 32 = .ok (.iinc 1 1, 3) := by decide +kernel
theorem dX10_know_35 : decode cX10_know 35 = .ok (.goto (-25), 3) := by decide +kernel
theorem dX10_know_38 : decode cX10_know 38 = .ok (.aload_n 0, 1) := by decide +kernel
theorem dX10_know_39 : decode cX10_know 39 = .ok (.dup, 1) := by decide +kernel
theorem dX10_know_40 : decode cX10_know 40 = .ok (.getfield 41, 3) := by decide +kernel
theorem dX10_know_43 : decode cX10_know 43 = .ok (.iconst 1, 1) := by decide +kernel
theorem dX10_know_44 : decode cX10_know 44 = .ok (.isub, 1) := by decide +kernel
theorem dX10_know_45 : decode cX10_know 45 = .ok (.putfield 41, 3) := by decide +kernel
theorem dX10_know_48 : decode cX10_know 48 = .ok (.iconst 0, 1) := by decide +kernel
theorem dX10_know_49 : decode cX10_know 49 = .ok (.istore_n 1, 1) := by decide +kernel
theorem dX10_know_50 : decode cX10_know 50 = .ok (.iload_n 1, 1) := by decide +kernel
theorem dX10_know_51 : decode cX10_know 51 = .ok (.bipush 108, 2) := by decide +kernel
theorem dX10_know_53 : decode cX10_know 53 = .ok (.if_icmp .ge 29, 3) := by decide +kernel
theorem dX10_know_56 : decode cX10_know 56 = .ok (.aload_n 0, 1) := by decide +kernel
theorem dX10_know_57 : decode cX10_know 57 = .ok (.getfield 16, 3) := by decide +kernel
theorem dX10_know_60 : decode cX10_know 60 = .ok (.bipush 108, 2) := by decide +kernel
theorem dX10_know_62 : decode cX10_know 62 = .ok (.aload_n 0, 1) := by decide +kernel
theorem dX10_know_63 : decode cX10_know 63 = .ok (.getfield 41, 3) := by decide +kernel
theorem dX10_know_66 : decode cX10_know 66 = .ok (.imul, 1) := by decide +kernel
theorem dX10_know_67 : decode cX10_know 67 = .ok (.iload_n 1, 1) := by decide +kernel
theorem dX10_know_68 : decode cX10_know 68 = .ok (.iadd, 1) := by decide +kernel
theorem dX10_know_69 : decode cX10_know 69 = .ok (.aload_n 0, 1) := by decide +kernel
theorem dX10_know_70 : decode cX10_know 70 = .ok (.getfield 7, 3) := by decide +kernel
theorem dX10_know_73 : decode cX10_know 73 = .ok (.iload_n 1, 1) := by decide +kernel
theorem dX10_know_74 : decode cX10_know 74 = .ok (.iaload, 1) := by decide +kernel
theorem dX10_know_75 : decode cX10_know 75 = .ok (.iastore, 1) := by decide +kernel
theorem dX10_know_76 : decode cX10_know 76 = .ok (.iinc 1 1, 3) := by decide +kernel
theorem dX10_know_79 : decode cX10_know 79 = .ok (.goto (-29), 3) := by decide +kernel
theorem dX10_know_82 : decode cX10_know 82 = .ok (.aload_n 0, 1) := by decide +kernel
theorem dX10_know_83 : decode cX10_know 83 = .ok (.dup, 1) := by decide +kernel
theorem dX10_know_84 : decode cX10_know 84 = .ok (.getfield 41, 3) := by decide +kernel
theorem dX10_know_87 : decode cX10_know 87 = .ok (.iconst 1, 1) := by decide +kernel
theorem dX10_know_88 : decode cX10_know 88 = .ok (.iadd, 1) := by decide +kernel
theorem dX10_know_89 : decode cX10_know 89 = .ok (.putfield 41, 3) := by decide +kernel
theorem dX10_know_92 : decode cX10_know 92 = .ok (.return_, 1) := by decide +kernel
theorem dX10_putAside_0 : decode cX10_putAside 0 = .ok (.iconst 0, 1) := by decide +kernel
theorem dX10_putAside_1 : decode cX10_putAside 1 = .ok (.istore_n 1, 1) := by decide +kernel
theorem dX10_putAside_2 : decode cX10_putAside 2 = .ok (.iload_n 1, 1) := by decide +kernel
theorem dX10_putAside_3 : decode cX10_putAside 3 = .ok (.bipush 108, 2) := by decide +kernel
theorem dX10_putAside_5 : decode cX10_putAside 5 = .ok (.if_icmp .ge 21, 3) := by decide +kernel
theorem dX10_putAside_8 : decode cX10_putAside 8 = .ok (.aload_n 0, 1) := by decide +kernel
theorem dX10_putAside_9 : decode cX10_putAside 9 = .ok (.getfield 13, 3) := by decide +kernel
theorem dX10_putAside_12 : decode cX10_putAside 12 = .ok (.iload_n 1, 1) := by decide +kernel
theorem dX10_putAside_13 : decode cX10_putAside 13 = .ok (.aload_n 0, 1) := by decide +kernel
theorem dX10_putAside_14 : decode cX10_putAside 14 = .ok (.getfield 7, 3) := by decide +kernel
theorem dX10_putAside_17 : decode cX10_putAside 17 = .ok (.iload_n 1, 1) := by decide +kernel
theorem dX10_putAside_18 : decode cX10_putAside 18 = .ok (.iaload, 1) := by decide +kernel
theorem dX10_putAside_19 : decode cX10_putAside 19 = .ok (.iastore, 1) := by decide +kernel
theorem dX10_putAside_20 : decode cX10_putAside 20 = .ok (.iinc 1 1, 3) := by decide +kernel
theorem dX10_putAside_23 : decode cX10_putAside 23 = .ok (.goto (-21), 3) := by decide +kernel
theorem dX10_putAside_26 : decode cX10_putAside 26 = .ok (.return_, 1) := by decide +kernel
theorem dX10_putBack_0 : decode cX10_putBack 0 = .ok (.iconst 0, 1) := by decide +kernel
theorem dX10_putBack_1 : decode cX10_putBack 1 = .ok (.istore_n 1, 1) := by decide +kernel
theorem dX10_putBack_2 : decode cX10_putBack 2 = .ok (.iload_n 1, 1) := by decide +kernel
theorem dX10_putBack_3 : decode cX10_putBack 3 = .ok (.bipush 108, 2) := by decide +kernel
theorem dX10_putBack_5 : decode cX10_putBack 5 = .ok (.if_icmp .ge 21, 3) := by decide +kernel
theorem dX10_putBack_8 : decode cX10_putBack 8 = .ok (.aload_n 0, 1) := by decide +kernel
theorem dX10_putBack_9 : decode cX10_putBack 9 = .ok (.getfield 7, 3) := by decide +kernel
theorem dX10_putBack_12 : decode cX10_putBack 12 = .ok (.iload_n 1, 1) := by decide +kernel
theorem dX10_putBack_13 : decode cX10_putBack 13 = .ok (.aload_n 0, 1) := by decide +kernel
theorem dX10_putBack_14 : decode cX10_putBack 14 = .ok (.getfield 13, 3) := by decide +kernel
theorem dX10_putBack_17 : decode cX10_putBack 17 = .ok (.iload_n 1, 1) := by decide +kernel
theorem dX10_putBack_18 : decode cX10_putBack 18 = .ok (.iaload, 1) := by decide +kernel
theorem dX10_putBack_19 : decode cX10_putBack 19 = .ok (.iastore, 1) := by decide +kernel
theorem dX10_putBack_20 : decode cX10_putBack 20 = .ok (.iinc 1 1, 3) := by decide +kernel
theorem dX10_putBack_23 : decode cX10_putBack 23 = .ok (.goto (-21), 3) := by decide +kernel
theorem dX10_putBack_26 : decode cX10_putBack 26 = .ok (.return_, 1) := by decide +kernel
theorem dX10_puts_0 : decode cX10_puts 0 = .ok (.aload_n 0, 1) := by decide +kernel
theorem dX10_puts_1 : decode cX10_puts 1 = .ok (.getfield 7, 3) := by decide +kernel
theorem dX10_puts_4 : decode cX10_puts 4 = .ok (.iload_n 1, 1) := by decide +kernel
theorem dX10_puts_5 : decode cX10_puts 5 = .ok (.iaload, 1) := by decide +kernel
theorem dX10_puts_6 : decode cX10_puts 6 = .ok (.istore_n 3, 1) := by decide +kernel
theorem dX10_puts_7 : decode cX10_puts 7 = .ok (.aload_n 0, 1) := by decide +kernel
theorem dX10_puts_8 : decode cX10_puts 8 = .ok (.getfield 7, 3) := by decide +kernel
theorem dX10_puts_11 : decode cX10_puts 11 = .ok (.iload_n 1, 1) := by decide +kernel
theorem dX10_puts_12 : decode cX10_puts 12 = .ok (.iload_n 2, 1) := by decide +kernel
theorem dX10_puts_13 : decode cX10_puts 13 = .ok (.iastore, 1) := by decide +kernel
theorem dX10_puts_14 : decode cX10_puts 14 = .ok (.iload_n 3, 1) := by decide +kernel
theorem dX10_puts_15 : decode cX10_puts 15 = .ok (.ireturn, 1) := by decide +kernel
theorem dX10_sum_0 : decode cX10_sum 0 = .ok (.iconst 0, 1) := by decide +kernel
theorem dX10_sum_1 : decode cX10_sum 1 = .ok (.istore_n 3, 1) := by decide +kernel
theorem dX10_sum_2 : decode cX10_sum 2 = .ok (.iconst 0, 1) := by decide +kernel
theorem dX10_sum_3 : decode cX10_sum 3 = .ok (.istore 4, 2) := by decide +kernel
theorem dX10_sum_5 : decode cX10_sum 5 = .ok (.iload 4, 2) := by decide +kernel
theorem dX10_sum_7 : decode cX10_sum 7 = .ok (.iload_n 2, 1) := by decide +kernel
theorem dX10_sum_8 : decode cX10_sum 8 = .ok (.if_icmp .ge 21, 3) := by decide +kernel
theorem dX10_sum_11 : decode cX10_sum 11 = .ok (.iload_n 3, 1) := by decide +kernel
theorem dX10_sum_12 : decode cX10_sum 12 = .ok (.aload_n 0, 1) := by decide +kernel
theorem dX10_sum_13 : decode cX10_sum 13 = .ok (.getfield 7, 3) := by decide +kernel
theorem dX10_sum_16 : decode cX10_sum 16 = .ok (.iload_n 1, 1) := by decide +kernel
theorem dX10_sum_17 : decode cX10_sum 17 = .ok (.iload 4, 2) := by decide +kernel
theorem dX10_sum_19 : decode cX10_sum 19 = .ok (.iadd, 1) := by decide +kernel
theorem dX10_sum_20 : decode cX10_sum 20 = .ok (.iaload, 1) := by decide +kernel
theorem dX10_sum_21 : decode cX10_sum 21 = .ok (.iadd, 1) := by decide +kernel
theorem dX10_sum_22 : decode cX10_sum 22 = .ok (.istore_n 3, 1) := by decide +kernel
theorem dX10_sum_23 : decode cX10_sum 23 = .ok (.iinc 4 1, 3) := by decide +kernel
theorem dX10_sum_26 : decode cX10_sum 26 = .ok (.goto (-21), 3) := by decide +kernel
theorem dX10_sum_29 : decode cX10_sum 29 = .ok (.iload_n 3, 1) := by decide +kernel
theorem dX10_sum_30 : decode cX10_sum 30 = .ok (.ireturn, 1) := by decide +kernel
set_option maxRecDepth 20000 in
theorem ggX10_inVan_X10_of : GoodIn wsX10_inVan wsX10_of := goodIn_r _ [6] (by decide +kernel) (by decide +kernel)
set_option maxRecDepth 20000 in
theorem gX10_inVan_X10_of : GoodIn wsX10_inVan (va_wsS RX10 33 yX10_of wsX10_of) := goodIn_app (goodIn_of _ (by decide +kernel)) ggX10_inVan_X10_of
theorem dX10_inVan_0 : decode cX10_inVan 0 = .ok (.iconst 0, 1) := by decide +kernel
theorem dX10_inVan_1 : decode cX10_inVan 1 = .ok (.istore_n 1, 1) := by decide +kernel
theorem dX10_inVan_2 : decode cX10_inVan 2 = .ok (.iconst 0, 1) := by decide +kernel
theorem dX10_inVan_3 : decode cX10_inVan 3 = .ok (.istore_n 2, 1) := by decide +kernel
theorem dX10_inVan_4 : decode cX10_inVan 4 = .ok (.iload_n 2, 1) := by decide +kernel
theorem dX10_inVan_5 : decode cX10_inVan 5 = .ok (.bipush 10, 2) := by decide +kernel
theorem dX10_inVan_7 : decode cX10_inVan 7 = .ok (.if_icmp .ge 32, 3) := by decide +kernel
theorem dX10_inVan_10 : decode cX10_inVan 10 = .ok (.iload_n 1, 1) := by decide +kernel
theorem dX10_inVan_11 : decode cX10_inVan 11 = .ok (.aload_n 0, 1) := by decide +kernel
theorem dX10_inVan_12 : decode cX10_inVan 12 = .ok (.getfield 7, 3) := by decide +kernel
theorem dX10_inVan_15 : decode cX10_inVan 15 = .ok (.iload_n 2, 1) := by decide +kernel
theorem dX10_inVan_16 : decode cX10_inVan 16 = .ok (.iconst 0, 1) := by decide +kernel
theorem dX10_inVan_17 : decode cX10_inVan 17 = .ok (.invokestatic 33, 3) := by decide +kernel
theorem dX10_inVan_20 : decode cX10_inVan 20 = .ok (.iaload, 1) := by decide +kernel
theorem dX10_inVan_21 : decode cX10_inVan 21 = .ok (.ldc 25, 2) := by decide +kernel
theorem dX10_inVan_23 : decode cX10_inVan 23 = .ok (.if_icmp .ne 7, 3) := by decide +kernel
theorem dX10_inVan_26 : decode cX10_inVan 26 = .ok (.iconst 1, 1) := by decide +kernel
theorem dX10_inVan_27 : decode cX10_inVan 27 = .ok (.goto 4, 3) := by decide +kernel
theorem dX10_inVan_30 : decode cX10_inVan 30 = .ok (.iconst 0, 1) := by decide +kernel
theorem dX10_inVan_31 : decode cX10_inVan 31 = .ok (.iadd, 1) := by decide +kernel
theorem dX10_inVan_32 : decode cX10_inVan 32 = .ok (.istore_n 1, 1) := by decide +kernel
theorem dX10_inVan_33 : decode cX10_inVan 33 = .ok (.iinc 2 1, 3) := by decide +kernel
theorem dX10_inVan_36 : decode cX10_inVan 36 = .ok (.goto (-32), 3) := by decide +kernel
theorem dX10_inVan_39 : decode cX10_inVan 39 = .ok (.iload_n 1, 1) := by decide +kernel
theorem dX10_inVan_40 : decode cX10_inVan 40 = .ok (.aload_n 0, 1) := by decide +kernel
theorem dX10_inVan_41 : decode cX10_inVan 41 = .ok (.getfield 7, 3) := by decide +kernel
theorem dX10_inVan_44 : decode cX10_inVan 44 = .ok (.bipush 50, 2) := by decide +kernel
theorem dX10_inVan_46 : decode cX10_inVan 46 = .ok (.iaload, 1) := by decide +kernel
theorem dX10_inVan_47 : decode cX10_inVan 47 = .ok (.ldc 25, 2) := by decide +kernel
theorem dX10_inVan_49 : decode cX10_inVan 49 = .ok (.if_icmp .ne 7, 3) := by decide +kernel
theorem dX10_inVan_52 : decode cX10_inVan 52 = .ok (.iconst 1, 1) := by decide +kernel
theorem dX10_inVan_53 : decode cX10_inVan 53 = .ok (.goto 4, 3) := by decide +kernel
theorem dX10_inVan_56 : decode cX10_inVan 56 = .ok (.iconst 0, 1) := by decide +kernel
theorem dX10_inVan_57 : decode cX10_inVan 57 = .ok (.iadd, 1) := by decide +kernel
theorem dX10_inVan_58 : decode cX10_inVan 58 = .ok (.aload_n 0, 1) := by decide +kernel
theorem dX10_inVan_59 : decode cX10_inVan 59 = .ok (.getfield 7, 3) := by decide +kernel
theorem dX10_inVan_62 : decode cX10_inVan 62 = .ok (.bipush 52, 2) := by decide +kernel
theorem dX10_inVan_64 : decode cX10_inVan 64 = .ok (.iaload, 1) := by decide +kernel
theorem dX10_inVan_65 : decode cX10_inVan 65 = .ok (.ldc 25, 2) := by decide +kernel
theorem dX10_inVan_67 : decode cX10_inVan 67 = .ok (.if_icmp .ne 7, 3) := by decide +kernel
theorem dX10_inVan_70 : decode cX10_inVan 70 = .ok (.iconst 1, 1) := by decide +kernel
theorem dX10_inVan_71 : decode cX10_inVan 71 = .ok (.goto 4, 3) := by decide +kernel
theorem dX10_inVan_74 : decode cX10_inVan 74 = .ok (.iconst 0, 1) := by decide +kernel
theorem dX10_inVan_75 : decode cX10_inVan 75 = .ok (.iadd, 1) := by decide +kernel
theorem dX10_inVan_76 : decode cX10_inVan 76 = .ok (.ireturn, 1) := by decide +kernel
set_option maxRecDepth 20000 in
theorem ggX10_moveFault_X10_inVan : GoodIn wsX10_moveFault wsX10_inVan := goodIn_r _ [9, 1, 2, 10, 11, 8, 12, 13, 14, 15, 16, 17, 18, 19, 20, 21, 22, 23, 24, 25, 26, 27, 28] (by decide +kernel) (by decide +kernel)
set_option maxRecDepth 20000 in
theorem gX10_moveFault_X10_inVan : GoodIn wsX10_moveFault (wsV RX10 45 RX10 yX10_inVan wsX10_inVan) := goodIn_app (goodIn_of _ (by decide +kernel)) ggX10_moveFault_X10_inVan
theorem dX10_moveFault_0 : decode cX10_moveFault 0 = .ok (.aload_n 0, 1) := by decide +kernel
theorem dX10_moveFault_1 : decode cX10_moveFault 1 = .ok (.getfield 7, 3) := by decide +kernel
theorem dX10_moveFault_4 : decode cX10_moveFault 4 = .ok (.iload_n 1, 1) := by decide +kernel
theorem dX10_moveFault_5 : decode cX10_moveFault 5 = .ok (.iaload, 1) := by decide +kernel
theorem dX10_moveFault_6 : decode cX10_moveFault 6 = .ok (.ldc 25, 2) := by decide +kernel
theorem dX10_moveFault_8 : decode cX10_moveFault 8 = .ok (.if_icmp .eq 22, 3) := by decide +kernel
theorem dX10_moveFault_11 : decode cX10_moveFault 11 = .ok (.aload_n 0, 1) := by decide +kernel
theorem dX10_moveFault_12 : decode cX10_moveFault 12 = .ok (.getfield 7, 3) := by decide +kernel
theorem dX10_moveFault_15 : decode cX10_moveFault 15 = .ok (.iload_n 1, 1) := by decide +kernel
theorem dX10_moveFault_16 : decode cX10_moveFault 16 = .ok (.iaload, 1) := by decide +kernel
theorem dX10_moveFault_17 : decode cX10_moveFault 17 = .ok (.aload_n 0, 1) := by decide +kernel
theorem dX10_moveFault_18 : decode cX10_moveFault 18 = .ok (.getfield 7, 3) := by decide +kernel
theorem dX10_moveFault_21 : decode cX10_moveFault 21 = .ok (.bipush 54, 2) := by decide +kernel
theorem dX10_moveFault_23 : decode cX10_moveFault 23 = .ok (.iaload, 1) := by decide +kernel
theorem dX10_moveFault_24 : decode cX10_moveFault 24 = .ok (.if_icmp .eq 6, 3) := by decide +kernel
theorem dX10_moveFault_27 : decode cX10_moveFault 27 = .ok (.ldc 44, 2) := by decide +kernel
theorem dX10_moveFault_29 : decode cX10_moveFault 29 = .ok (.ireturn, 1) := by decide +kernel
theorem dX10_moveFault_30 : decode cX10_moveFault 30 = .ok (.aload_n 0, 1) := by decide +kernel
theorem dX10_moveFault_31 : decode cX10_moveFault 31 = .ok (.getfield 7, 3) := by decide +kernel
theorem dX10_moveFault_34 : decode cX10_moveFault 34 = .ok (.iload_n 1, 1) := by decide +kernel
theorem dX10_moveFault_35 : decode cX10_moveFault 35 = .ok (.iaload, 1) := by decide +kernel
theorem dX10_moveFault_36 : decode cX10_moveFault 36 = .ok (.ldc 25, 2) := by decide +kernel
theorem dX10_moveFault_38 : decode cX10_moveFault 38 = .ok (.if_icmp .ne 7, 3) := by decide +kernel
theorem dX10_moveFault_41 : decode cX10_moveFault 41 = .ok (.iconst 1, 1) := by decide +kernel
theorem dX10_moveFault_42 : decode cX10_moveFault 42 = .ok (.goto 4, 3) := by decide +kernel
theorem dX10_moveFault_45 : decode cX10_moveFault 45 = .ok (.iconst 0, 1) := by decide +kernel
theorem dX10_moveFault_46 : decode cX10_moveFault 46 = .ok (.iload_n 2, 1) := by decide +kernel
theorem dX10_moveFault_47 : decode cX10_moveFault 47 = .ok (.if_icmp .ne 8, 3) := by decide +kernel
theorem dX10_moveFault_50 : decode cX10_moveFault 50 = .ok (.ldc 25, 2) := by decide +kernel
theorem dX10_moveFault_52 : decode cX10_moveFault 52 = .ok (.goto 22, 3) := by decide +kernel
theorem dX10_moveFault_55 : decode cX10_moveFault 55 = .ok (.iload_n 2, 1) := by decide +kernel
theorem dX10_moveFault_56 : decode cX10_moveFault 56 = .ok (.ifCond .eq 17, 3) := by decide +kernel
theorem dX10_moveFault_59 : decode cX10_moveFault 59 = .ok (.aload_n 0, 1) := by decide +kernel
theorem dX10_moveFault_60 : decode cX10_moveFault 60 = .ok (.invokevirtual 45, 3) := by decide +kernel
theorem dX10_moveFault_63 : decode cX10_moveFault 63 = .ok (.bipush 8, 2) := by decide +kernel
theorem dX10_moveFault_65 : decode cX10_moveFault 65 = .ok (.if_icmp .lt 8, 3) := by decide +kernel
theorem dX10_moveFault_68 : decode cX10_moveFault 68 = .ok (.ldc 49, 2) := by decide +kernel
theorem dX10_moveFault_70 : decode cX10_moveFault 70 = .ok (.goto 4, 3) := by decide +kernel
theorem dX10_moveFault_73 : decode cX10_moveFault 73 = .ok (.iconst 0, 1) := by decide +kernel
theorem dX10_moveFault_74 : decode cX10_moveFault 74 = .ok (.ireturn, 1) := by decide +kernel
set_option maxRecDepth 20000 in
theorem ggX10_moves_X10_inVan : GoodIn wsX10_moves wsX10_inVan := goodIn_r _ [7, 1, 2, 8, 9, 6, 10, 11, 12, 13, 14, 15, 16, 17, 18, 19, 20, 21, 22, 23, 24, 25, 26] (by decide +kernel) (by decide +kernel)
set_option maxRecDepth 20000 in
theorem gX10_moves_X10_inVan : GoodIn wsX10_moves (wsV RX10 45 RX10 yX10_inVan wsX10_inVan) := goodIn_app (goodIn_of _ (by decide +kernel)) ggX10_moves_X10_inVan
theorem dX10_moves_0 : decode cX10_moves 0 = .ok (.aload_n 0, 1) := by decide +kernel
theorem dX10_moves_1 : decode cX10_moves 1 = .ok (.getfield 7, 3) := by decide +kernel
theorem dX10_moves_4 : decode cX10_moves 4 = .ok (.iload_n 1, 1) := by decide +kernel
theorem dX10_moves_5 : decode cX10_moves 5 = .ok (.iload_n 2, 1) := by decide +kernel
theorem dX10_moves_6 : decode cX10_moves 6 = .ok (.ifCond .eq 8, 3) := by decide +kernel
theorem dX10_moves_9 : decode cX10_moves 9 = .ok (.ldc 25, 2) := by decide +kernel
theorem dX10_moves_11 : decode cX10_moves 11 = .ok (.goto 10, 3) := by decide +kernel
theorem dX10_moves_14 : decode cX10_moves 14 = .ok (.aload_n 0, 1) := by decide +kernel
theorem dX10_moves_15 : decode cX10_moves 15 = .ok (.getfield 7, 3) := by decide +kernel
theorem dX10_moves_18 : decode cX10_moves 18 = .ok (.bipush 54, 2) := by decide +kernel
theorem dX10_moves_20 : decode cX10_moves 20 = .ok (.iaload, 1) := by decide +kernel
theorem dX10_moves_21 : decode cX10_moves 21 = .ok (.iastore, 1) := by decide +kernel
theorem dX10_moves_22 : decode cX10_moves 22 = .ok (.aload_n 0, 1) := by decide +kernel
theorem dX10_moves_23 : decode cX10_moves 23 = .ok (.invokevirtual 45, 3) := by decide +kernel
theorem dX10_moves_26 : decode cX10_moves 26 = .ok (.ireturn, 1) := by decide +kernel
set_option maxRecDepth 20000 in
theorem ggX10_drives_X10_mile : GoodIn wsX10_drives wsX10_mile := goodIn_r _ [5] (by decide +kernel) (by decide +kernel)
set_option maxRecDepth 20000 in
theorem gX10_drives_X10_mile : GoodIn wsX10_drives (va_wsS RX10 50 yX10_mile wsX10_mile) := goodIn_app (goodIn_of _ (by decide +kernel)) ggX10_drives_X10_mile
theorem dX10_drives_0 : decode cX10_drives 0 = .ok (.iload_n 1, 1) := by decide +kernel
theorem dX10_drives_1 : decode cX10_drives 1 = .ok (.invokestatic 50, 3) := by decide +kernel
theorem dX10_drives_4 : decode cX10_drives 4 = .ok (.aload_n 0, 1) := by decide +kernel
theorem dX10_drives_5 : decode cX10_drives 5 = .ok (.getfield 7, 3) := by decide +kernel
theorem dX10_drives_8 : decode cX10_drives 8 = .ok (.bipush 54, 2) := by decide +kernel
theorem dX10_drives_10 : decode cX10_drives 10 = .ok (.iaload, 1) := by decide +kernel
theorem dX10_drives_11 : decode cX10_drives 11 = .ok (.invokestatic 50, 3) := by decide +kernel
theorem dX10_drives_14 : decode cX10_drives 14 = .ok (.isub, 1) := by decide +kernel
theorem dX10_drives_15 : decode cX10_drives 15 = .ok (.istore_n 2, 1) := by decide +kernel
theorem dX10_drives_16 : decode cX10_drives 16 = .ok (.iload_n 2, 1) := by decide +kernel
theorem dX10_drives_17 : decode cX10_drives 17 = .ok (.ifCond .ge 8, 3) := by decide +kernel
theorem dX10_drives_20 : decode cX10_drives 20 = .ok (.iload_n 2, 1) := by decide +kernel
theorem dX10_drives_21 : decode cX10_drives 21 = .ok (.ineg, 1) := by decide +kernel
theorem dX10_drives_22 : decode cX10_drives 22 = .ok (.goto 4, 3) := by decide +kernel
theorem dX10_drives_25 : decode cX10_drives 25 = .ok (.iload_n 2, 1) := by decide +kernel
theorem dX10_drives_26 : decode cX10_drives 26 = .ok (.istore_n 2, 1) := by decide +kernel
theorem dX10_drives_27 : decode cX10_drives 27 = .ok (.aload_n 0, 1) := by decide +kernel
theorem dX10_drives_28 : decode cX10_drives 28 = .ok (.getfield 7, 3) := by decide +kernel
theorem dX10_drives_31 : decode cX10_drives 31 = .ok (.bipush 72, 2) := by decide +kernel
theorem dX10_drives_33 : decode cX10_drives 33 = .ok (.dup2, 1) := by decide +kernel
theorem dX10_drives_34 : decode cX10_drives 34 = .ok (.iaload, 1) := by decide +kernel
theorem dX10_drives_35 : decode cX10_drives 35 = .ok (.iload_n 2, 1) := by decide +kernel
theorem dX10_drives_36 : decode cX10_drives 36 = .ok (.iadd, 1) := by decide +kernel
theorem dX10_drives_37 : decode cX10_drives 37 = .ok (.iastore, 1) := by decide +kernel
theorem dX10_drives_38 : decode cX10_drives 38 = .ok (.aload_n 0, 1) := by decide +kernel
theorem dX10_drives_39 : decode cX10_drives 39 = .ok (.getfield 7, 3) := by decide +kernel
theorem dX10_drives_42 : decode cX10_drives 42 = .ok (.bipush 54, 2) := by decide +kernel
theorem dX10_drives_44 : decode cX10_drives 44 = .ok (.iload_n 1, 1) := by decide +kernel
theorem dX10_drives_45 : decode cX10_drives 45 = .ok (.iastore, 1) := by decide +kernel
theorem dX10_drives_46 : decode cX10_drives 46 = .ok (.iload_n 2, 1) := by decide +kernel
theorem dX10_drives_47 : decode cX10_drives 47 = .ok (.ireturn, 1) := by decide +kernel
set_option maxRecDepth 20000 in
theorem ggX10_fuelFault_X10_isGenerator : GoodIn wsX10_fuelFault wsX10_isGenerator := goodIn_r _ [10, 11, 12, 9, 13] (by decide +kernel) (by decide +kernel)
set_option maxRecDepth 20000 in
theorem gX10_fuelFault_X10_isGenerator : GoodIn wsX10_fuelFault (va_wsS RX10 54 yX10_isGenerator wsX10_isGenerator) := goodIn_app (goodIn_of _ (by decide +kernel)) ggX10_fuelFault_X10_isGenerator
set_option maxRecDepth 20000 in
theorem ggX10_fuelFault_X10_in : GoodIn wsX10_fuelFault wsX10_in := goodIn_r _ [13] (by decide +kernel) (by decide +kernel)
set_option maxRecDepth 20000 in
theorem gX10_fuelFault_X10_in : GoodIn wsX10_fuelFault (va_wsS RX10 37 yX10_in wsX10_in) := goodIn_app (goodIn_of _ (by decide +kernel)) ggX10_fuelFault_X10_in
theorem dX10_fuelFault_0 : decode cX10_fuelFault 0 = .ok (.iload_n 1, 1) := by decide +kernel
theorem dX10_fuelFault_1 : decode cX10_fuelFault 1 = .ok (.invokestatic 54, 3) := by decide +kernel
theorem dX10_fuelFault_4 : decode cX10_fuelFault 4 = .ok (.ifCond .ne 6, 3) := by decide +kernel
theorem dX10_fuelFault_7 : decode cX10_fuelFault 7 = .ok (.ldc 58, 2) := by decide +kernel
theorem dX10_fuelFault_9 : decode cX10_fuelFault 9 = .ok (.ireturn, 1) := by decide +kernel
theorem dX10_fuelFault_10 : decode cX10_fuelFault 10 = .ok (.iload_n 2, 1) := by decide +kernel
theorem dX10_fuelFault_11 : decode cX10_fuelFault 11 = .ok (.iconst 5, 1) := by decide +kernel
theorem dX10_fuelFault_12 : decode cX10_fuelFault 12 = .ok (.sipush 500, 3) := by decide +kernel
theorem dX10_fuelFault_15 : decode cX10_fuelFault 15 = .ok (.invokestatic 37, 3) := by decide +kernel
theorem dX10_fuelFault_18 : decode cX10_fuelFault 18 = .ok (.ifCond .eq 9, 3) := by decide +kernel
theorem dX10_fuelFault_21 : decode cX10_fuelFault 21 = .ok (.iload_n 2, 1) := by decide +kernel
theorem dX10_fuelFault_22 : decode cX10_fuelFault 22 = .ok (.iconst 5, 1) := by decide +kernel
theorem dX10_fuelFault_23 : decode cX10_fuelFault 23 = .ok (.irem, 1) := by decide +kernel
theorem dX10_fuelFault_24 : decode cX10_fuelFault 24 = .ok (.ifCond .eq 6, 3) := by decide +kernel
theorem dX10_fuelFault_27 : decode cX10_fuelFault 27 = .ok (.ldc 59, 2) := by decide +kernel
theorem dX10_fuelFault_29 : decode cX10_fuelFault 29 = .ok (.ireturn, 1) := by decide +kernel
theorem dX10_fuelFault_30 : decode cX10_fuelFault 30 = .ok (.aload_n 0, 1) := by decide +kernel
theorem dX10_fuelFault_31 : decode cX10_fuelFault 31 = .ok (.getfield 7, 3) := by decide +kernel
theorem dX10_fuelFault_34 : decode cX10_fuelFault 34 = .ok (.bipush 50, 2) := by decide +kernel
theorem dX10_fuelFault_36 : decode cX10_fuelFault 36 = .ok (.iconst 2, 1) := by decide +kernel
theorem dX10_fuelFault_37 : decode cX10_fuelFault 37 = .ok (.iload_n 1, 1) := by decide +kernel
theorem dX10_fuelFault_38 : decode cX10_fuelFault 38 = .ok (.imul, 1) := by decide +kernel
theorem dX10_fuelFault_39 : decode cX10_fuelFault 39 = .ok (.iadd, 1) := by decide +kernel
theorem dX10_fuelFault_40 : decode cX10_fuelFault 40 = .ok (.iaload, 1) := by decide +kernel
theorem dX10_fuelFault_41 : decode cX10_fuelFault 41 = .ok (.ldc 25, 2) := by decide +kernel
theorem dX10_fuelFault_43 : decode cX10_fuelFault 43 = .ok (.if_icmp .eq 8, 3) := by decide +kernel
theorem dX10_fuelFault_46 : decode cX10_fuelFault 46 = .ok (.ldc 44, 2) := by decide +kernel
theorem dX10_fuelFault_48 : decode cX10_fuelFault 48 = .ok (.goto 30, 3) := by decide +kernel
theorem dX10_fuelFault_51 : decode cX10_fuelFault 51 = .ok (.aload_n 0, 1) := by decide +kernel
theorem dX10_fuelFault_52 : decode cX10_fuelFault 52 = .ok (.getfield 7, 3) := by decide +kernel
theorem dX10_fuelFault_55 : decode cX10_fuelFault 55 = .ok (.bipush 50, 2) := by decide +kernel
theorem dX10_fuelFault_57 : decode cX10_fuelFault 57 = .ok (.iconst 2, 1) := by decide +kernel
theorem dX10_fuelFault_58 : decode cX10_fuelFault 58 = .ok (.iload_n 1, 1) := by decide +kernel
theorem dX10_fuelFault_59 : decode cX10_fuelFault 59 = .ok (.imul, 1) := by decide +kernel
theorem dX10_fuelFault_60 : decode cX10_fuelFault 60 = .ok (.iadd, 1) := by decide +kernel
theorem dX10_fuelFault_61 : decode cX10_fuelFault 61 = .ok (.iconst 1, 1) := by decide +kernel
theorem dX10_fuelFault_62 : decode cX10_fuelFault 62 = .ok (.iadd, 1) := by decide +kernel
theorem dX10_fuelFault_63 : decode cX10_fuelFault 63 = .ok (.iaload, 1) := by decide +kernel
theorem dX10_fuelFault_64 : decode cX10_fuelFault 64 = .ok (.iload_n 2, 1) := by decide +kernel
theorem dX10_fuelFault_65 : decode cX10_fuelFault 65 = .ok (.iadd, 1) := by decide +kernel
theorem dX10_fuelFault_66 : decode cX10_fuelFault 66 = .ok (.sipush 500, 3) := by decide +kernel
theorem dX10_fuelFault_69 : decode cX10_fuelFault 69 = .ok (.if_icmp .le 8, 3) := by decide +kernel
theorem dX10_fuelFault_72 : decode cX10_fuelFault 72 = .ok (.ldc 49, 2) := by decide +kernel
theorem dX10_fuelFault_74 : decode cX10_fuelFault 74 = .ok (.goto 4, 3) := by decide +kernel
theorem dX10_fuelFault_77 : decode cX10_fuelFault 77 = .ok (.iconst 0, 1) := by decide +kernel
theorem dX10_fuelFault_78 : decode cX10_fuelFault 78 = .ok (.ireturn, 1) := by decide +kernel
theorem dX10_fuels_0 : decode cX10_fuels 0 = .ok (.aload_n 0, 1) := by decide +kernel
theorem dX10_fuels_1 : decode cX10_fuels 1 = .ok (.getfield 7, 3) := by decide +kernel
theorem dX10_fuels_4 : decode cX10_fuels 4 = .ok (.bipush 73, 2) := by decide +kernel
theorem dX10_fuels_6 : decode cX10_fuels 6 = .ok (.dup2, 1) := by decide +kernel
theorem dX10_fuels_7 : decode cX10_fuels 7 = .ok (.iaload, 1) := by decide +kernel
theorem dX10_fuels_8 : decode cX10_fuels 8 = .ok (.iload_n 2, 1) := by decide +kernel
theorem dX10_fuels_9 : decode cX10_fuels 9 = .ok (.iconst 5, 1) := by decide +kernel
theorem dX10_fuels_10 : decode cX10_fuels 10 = .ok (.idiv, 1) := by decide +kernel
theorem dX10_fuels_11 : decode cX10_fuels 11 = .ok (.iadd, 1) := by decide +kernel
theorem dX10_fuels_12 : decode cX10_fuels 12 = .ok (.iastore, 1) := by decide +kernel
theorem dX10_fuels_13 : decode cX10_fuels 13 = .ok (.aload_n 0, 1) := by decide +kernel
theorem dX10_fuels_14 : decode cX10_fuels 14 = .ok (.getfield 7, 3) := by decide +kernel
theorem dX10_fuels_17 : decode cX10_fuels 17 = .ok (.bipush 50, 2) := by decide +kernel
theorem dX10_fuels_19 : decode cX10_fuels 19 = .ok (.iconst 2, 1) := by decide +kernel
theorem dX10_fuels_20 : decode cX10_fuels 20 = .ok (.iload_n 1, 1) := by decide +kernel
theorem dX10_fuels_21 : decode cX10_fuels 21 = .ok (.imul, 1) := by decide +kernel
theorem dX10_fuels_22 : decode cX10_fuels 22 = .ok (.iadd, 1) := by decide +kernel
theorem dX10_fuels_23 : decode cX10_fuels 23 = .ok (.iconst 1, 1) := by decide +kernel
theorem dX10_fuels_24 : decode cX10_fuels 24 = .ok (.iadd, 1) := by decide +kernel
theorem dX10_fuels_25 : decode cX10_fuels 25 = .ok (.dup2, 1) := by decide +kernel
theorem dX10_fuels_26 : decode cX10_fuels 26 = .ok (.iaload, 1) := by decide +kernel
theorem dX10_fuels_27 : decode cX10_fuels 27 = .ok (.iload_n 2, 1) := by decide +kernel
theorem dX10_fuels_28 : decode cX10_fuels 28 = .ok (.iadd, 1) := by decide +kernel
theorem dX10_fuels_29 : decode cX10_fuels 29 = .ok (.iastore, 1) := by decide +kernel
theorem dX10_fuels_30 : decode cX10_fuels 30 = .ok (.aload_n 0, 1) := by decide +kernel
theorem dX10_fuels_31 : decode cX10_fuels 31 = .ok (.getfield 7, 3) := by decide +kernel
theorem dX10_fuels_34 : decode cX10_fuels 34 = .ok (.bipush 50, 2) := by decide +kernel
theorem dX10_fuels_36 : decode cX10_fuels 36 = .ok (.iconst 2, 1) := by decide +kernel
theorem dX10_fuels_37 : decode cX10_fuels 37 = .ok (.iload_n 1, 1) := by decide +kernel
theorem dX10_fuels_38 : decode cX10_fuels 38 = .ok (.imul, 1) := by decide +kernel
theorem dX10_fuels_39 : decode cX10_fuels 39 = .ok (.iadd, 1) := by decide +kernel
theorem dX10_fuels_40 : decode cX10_fuels 40 = .ok (.iconst 1, 1) := by decide +kernel
theorem dX10_fuels_41 : decode cX10_fuels 41 = .ok (.iadd, 1) := by decide +kernel
theorem dX10_fuels_42 : decode cX10_fuels 42 = .ok (.iaload, 1) := by decide +kernel
theorem dX10_fuels_43 : decode cX10_fuels 43 = .ok (.ireturn, 1) := by decide +kernel
set_option maxRecDepth 20000 in
theorem ggX10_reels_X10_of : GoodIn wsX10_reels wsX10_of := goodIn_r _ [5] (by decide +kernel) (by decide +kernel)
set_option maxRecDepth 20000 in
theorem gX10_reels_X10_of : GoodIn wsX10_reels (va_wsS RX10 33 yX10_of wsX10_of) := goodIn_app (goodIn_of _ (by decide +kernel)) ggX10_reels_X10_of
theorem dX10_reels_0 : decode cX10_reels 0 = .ok (.iconst 0, 1) := by decide +kernel
theorem dX10_reels_1 : decode cX10_reels 1 = .ok (.istore_n 3, 1) := by decide +kernel
theorem dX10_reels_2 : decode cX10_reels 2 = .ok (.iconst 0, 1) := by decide +kernel
theorem dX10_reels_3 : decode cX10_reels 3 = .ok (.istore 4, 2) := by decide +kernel
theorem dX10_reels_5 : decode cX10_reels 5 = .ok (.iload 4, 2) := by decide +kernel
theorem dX10_reels_7 : decode cX10_reels 7 = .ok (.bipush 10, 2) := by decide +kernel
theorem dX10_reels_9 : decode cX10_reels 9 = .ok (.if_icmp .ge 142, 3) := by decide +kernel
theorem dX10_reels_12 : decode cX10_reels 12 = .ok (.aload_n 0, 1) := by decide +kernel
theorem dX10_reels_13 : decode cX10_reels 13 = .ok (.getfield 7, 3) := by decide +kernel
theorem dX10_reels_16 : decode cX10_reels 16 = .ok (.iload 4, 2) := by decide +kernel
theorem dX10_reels_18 : decode cX10_reels 18 = .ok (.iconst 0, 1) := by decide +kernel
theorem dX10_reels_19 : decode cX10_reels 19 = .ok (.invokestatic 33, 3) := by decide +kernel
theorem dX10_reels_22 : decode cX10_reels 22 = .ok (.iaload, 1) := by decide +kernel
theorem dX10_reels_23 : decode cX10_reels 23 = .ok (.iload_n 1, 1) := by decide +kernel
theorem dX10_reels_24 : decode cX10_reels 24 = .ok (.if_icmp .ne 7, 3) := by decide +kernel
theorem dX10_reels_27 : decode cX10_reels 27 = .ok (.iconst 1, 1) := by decide +kernel
theorem dX10_reels_28 : decode cX10_reels 28 = .ok (.goto 4, 3) := by decide +kernel
theorem dX10_reels_31 : decode cX10_reels 31 = .ok (.iconst 0, 1) := by decide +kernel
theorem dX10_reels_32 : decode cX10_reels 32 = .ok (.istore 5, 2) := by decide +kernel
theorem dX10_reels_34 : decode cX10_reels 34 = .ok (.aload_n 0, 1) := by decide +kernel
theorem dX10_reels_35 : decode cX10_reels 35 = .ok (.getfield 7, 3) := by decide +kernel
theorem dX10_reels_38 : decode cX10_reels 38 = .ok (.iload 4, 2) := by decide +kernel
theorem dX10_reels_40 : decode cX10_reels 40 = .ok (.iconst 2, 1) := by decide +kernel
theorem dX10_reels_41 : decode cX10_reels 41 = .ok (.invokestatic 33, 3) := by decide +kernel
theorem dX10_reels_44 : decode cX10_reels 44 = .ok (.iaload, 1) := by decide +kernel
theorem dX10_reels_45 : decode cX10_reels 45 = .ok (.istore 6, 2) := by decide +kernel
theorem dX10_reels_47 : decode cX10_reels 47 = .ok (.aload_n 0, 1) := by decide +kernel
theorem dX10_reels_48 : decode cX10_reels 48 = .ok (.getfield 7, 3) := by decide +kernel
theorem dX10_reels_51 : decode cX10_reels 51 = .ok (.iload 4, 2) := by decide +kernel
theorem dX10_reels_53 : decode cX10_reels 53 = .ok (.iconst 4, 1) := by decide +kernel
theorem dX10_reels_54 : decode cX10_reels 54 = .ok (.invokestatic 33, 3) := by decide +kernel
theorem dX10_reels_57 : decode cX10_reels 57 = .ok (.iaload, 1) := by decide +kernel
theorem dX10_reels_58 : decode cX10_reels 58 = .ok (.iload_n 1, 1) := by decide +kernel
theorem dX10_reels_59 : decode cX10_reels 59 = .ok (.ishr, 1) := by decide +kernel
theorem dX10_reels_60 : decode cX10_reels 60 = .ok (.iconst 1, 1) := by decide +kernel
theorem dX10_reels_61 : decode cX10_reels 61 = .ok (.iand, 1) := by decide +kernel
theorem dX10_reels_62 : decode cX10_reels 62 = .ok (.ifCond .ne 7, 3) := by decide +kernel
theorem dX10_reels_65 : decode cX10_reels 65 = .ok (.iconst 1, 1) := by decide +kernel
theorem dX10_reels_66 : decode cX10_reels 66 = .ok (.goto 4, 3) := by decide +kernel
theorem dX10_reels_69 : decode cX10_reels 69 = .ok (.iconst 0, 1) := by decide +kernel
theorem dX10_reels_70 : decode cX10_reels 70 = .ok (.istore 7, 2) := by decide +kernel
theorem dX10_reels_72 : decode cX10_reels 72 = .ok (.iload 5, 2) := by decide +kernel
theorem dX10_reels_74 : decode cX10_reels 74 = .ok (.ifCond .ne 7, 3) := by decide +kernel
theorem dX10_reels_77 : decode cX10_reels 77 = .ok (.iload_n 3, 1) := by decide +kernel
theorem dX10_reels_78 : decode cX10_reels 78 = .ok (.goto 66, 3) := by decide +kernel
theorem dX10_reels_81 : decode cX10_reels 81 = .ok (.iload_n 2, 1) := by decide +kernel
theorem dX10_reels_82 : decode cX10_reels 82 = .ok (.ifCond .ne 9, 3) := by decide +kernel
theorem dX10_reels_85 : decode cX10_reels 85 = .ok (.iload_n 3, 1) := by decide +kernel
theorem dX10_reels_86 : decode cX10_reels 86 = .ok (.iconst 1, 1) := by decide +kernel
theorem dX10_reels_87 : decode cX10_reels 87 = .ok (.iadd, 1) := by decide +kernel
theorem dX10_reels_88 : decode cX10_reels 88 = .ok (.goto 56, 3) := by decide +kernel
theorem dX10_reels_91 : decode cX10_reels 91 = .ok (.iload_n 2, 1) := by decide +kernel
theorem dX10_reels_92 : decode cX10_reels 92 = .ok (.iconst 1, 1) := by decide +kernel
theorem dX10_reels_93 : decode cX10_reels 93 = .ok (.if_icmp .ne 19, 3) := by decide +kernel
theorem dX10_reels_96 : decode cX10_reels 96 = .ok (.iload_n 3, 1) := by decide +kernel
theorem dX10_reels_97 : decode cX10_reels 97 = .ok (.aload_n 0, 1) := by decide +kernel
theorem dX10_reels_98 : decode cX10_reels 98 = .ok (.getfield 7, 3) := by decide +kernel
theorem dX10_reels_101 : decode cX10_reels 101 = .ok (.iload 4, 2) := by decide +kernel
theorem dX10_reels_103 : decode cX10_reels 103 = .ok (.iconst 1, 1) := by decide +kernel
theorem dX10_reels_104 : decode cX10_reels 104 = .ok (.invokestatic 33, 3) := by decide +kernel
theorem dX10_reels_107 : decode cX10_reels 107 = .ok (.iaload, 1) := by decide +kernel
theorem dX10_reels_108 : decode cX10_reels 108 = .ok (.iadd, 1) := by decide +kernel
theorem dX10_reels_109 : decode cX10_reels 109 = .ok (.goto 35, 3) := by decide +kernel
theorem dX10_reels_112 : decode cX10_reels 112 = .ok (.iload_n 2, 1) := by decide +kernel
theorem dX10_reels_113 : decode cX10_reels 113 = .ok (.iconst 2, 1) := by decide +kernel
theorem dX10_reels_114 : decode cX10_reels 114 = .ok (.if_icmp .ne 18, 3) := by decide +kernel
theorem dX10_reels_117 : decode cX10_reels 117 = .ok (.iload 6, 2) := by decide +kernel
theorem dX10_reels_119 : decode cX10_reels 119 = .ok (.iload_n 3, 1) := by decide +kernel
theorem dX10_reels_120 : decode cX10_reels 120 = .ok (.if_icmp .le 8, 3) := by decide +kernel
theorem dX10_reels_123 : decode cX10_reels 123 = .ok (.iload 6, 2) := by decide +kernel
theorem dX10_reels_125 : decode cX10_reels 125 = .ok (.goto 19, 3) := by decide +kernel
theorem dX10_reels_128 : decode cX10_reels 128 = .ok (.iload_n 3, 1) := by decide +kernel
theorem dX10_reels_129 : decode cX10_reels 129 = .ok (.goto 15, 3) := by decide +kernel
theorem dX10_reels_132 : decode cX10_reels 132 = .ok (.iload 7, 2) := by decide +kernel
theorem dX10_reels_134 : decode cX10_reels 134 = .ok (.ifCond .eq 9, 3) := by decide +kernel
theorem dX10_reels_137 : decode cX10_reels 137 = .ok (.iload_n 3, 1) := by decide +kernel
theorem dX10_reels_138 : decode cX10_reels 138 = .ok (.iconst 1, 1) := by decide +kernel
theorem dX10_reels_139 : decode cX10_reels 139 = .ok (.iadd, 1) := by decide +kernel
theorem dX10_reels_140 : decode cX10_reels 140 = .ok (.goto 4, 3) := by decide +kernel
theorem dX10_reels_143 : decode cX10_reels 143 = .ok (.iload_n 3, 1) := by decide +kernel
theorem dX10_reels_144 : decode cX10_reels 144 = .ok (.istore_n 3, 1) := by decide +kernel
theorem dX10_reels_145 : decode cX10_reels 145 = .ok (.iinc 4 1, 3) := by decide +kernel
theorem dX10_reels_148 : decode cX10_reels 148 = .ok (.goto (-143), 3) := by decide +kernel
theorem dX10_reels_151 : decode cX10_reels 151 = .ok (.iload_n 3, 1) := by decide +kernel
theorem dX10_reels_152 : decode cX10_reels 152 = .ok (.ireturn, 1) := by decide +kernel
theorem dX10_generatorFor_0 : decode cX10_generatorFor 0 = .ok (.iconst 0, 1) := by decide +kernel
theorem dX10_generatorFor_1 : decode cX10_generatorFor 1 = .ok (.istore_n 3, 1) := by decide +kernel
theorem dX10_generatorFor_2 : decode cX10_generatorFor 2 = .ok (.iload_n 3, 1) := by decide +kernel
theorem dX10_generatorFor_3 : decode cX10_generatorFor 3 = .ok (.iconst 2, 1) := by decide +kernel
theorem dX10_generatorFor_4 : decode cX10_generatorFor 4 = .ok (.if_icmp .ge 43, 3) := by decide +kernel
theorem dX10_generatorFor_7 : decode cX10_generatorFor 7 = .ok (.aload_n 0, 1) := by decide +kernel
theorem dX10_generatorFor_8 : decode cX10_generatorFor 8 = .ok (.getfield 7, 3) := by decide +kernel
theorem dX10_generatorFor_11 : decode cX10_generatorFor 11 = .ok (.bipush 50, 2) := by decide +kernel
theorem dX10_generatorFor_13 : decode cX10_generatorFor 13 = .ok (.iconst 2, 1) := by decide +kernel
theorem dX10_generatorFor_14 : decode cX10_generatorFor 14 = .ok (.iload_n 3, 1) := by decide +kernel
theorem dX10_generatorFor_15 : decode cX10_generatorFor 15 = .ok (.imul, 1) := by decide +kernel
theorem dX10_generatorFor_16 : decode cX10_generatorFor 16 = .ok (.iadd, 1) := by decide +kernel
theorem dX10_generatorFor_17 : decode cX10_generatorFor 17 = .ok (.iaload, 1) := by decide +kernel
theorem dX10_generatorFor_18 : decode cX10_generatorFor 18 = .ok (.iload_n 1, 1) := by decide +kernel
theorem dX10_generatorFor_19 : decode cX10_generatorFor 19 = .ok (.if_icmp .ne 22, 3) := by decide +kernel
theorem dX10_generatorFor_22 : decode cX10_generatorFor 22 = .ok (.aload_n 0, 1) := by decide +kernel
theorem dX10_generatorFor_23 : decode cX10_generatorFor 23 = .ok (.getfield 7, 3) := by decide +kernel
theorem dX10_generatorFor_26 : decode cX10_generatorFor 26 = .ok (.bipush 50, 2) := by decide +kernel
theorem dX10_generatorFor_28 : decode cX10_generatorFor 28 = .ok (.iconst 2, 1) := by decide +kernel
theorem dX10_generatorFor_29 : decode cX10_generatorFor 29 = .ok (.iload_n 3, 1) := by decide +kernel
theorem dX10_generatorFor_30 : decode cX10_generatorFor 30 = .ok (.imul, 1) := by decide +kernel
theorem dX10_generatorFor_31 : decode cX10_generatorFor 31 = .ok (.iadd, 1) := by decide +kernel
theorem dX10_generatorFor_32 : decode cX10_generatorFor 32 = .ok (.iconst 1, 1) := by decide +kernel
theorem dX10_generatorFor_33 : decode cX10_generatorFor 33 = .ok (.iadd, 1) := by decide +kernel
theorem dX10_generatorFor_34 : decode cX10_generatorFor 34 = .ok (.iaload, 1) := by decide +kernel
theorem dX10_generatorFor_35 : decode cX10_generatorFor 35 = .ok (.iload_n 2, 1) := by decide +kernel
theorem dX10_generatorFor_36 : decode cX10_generatorFor 36 = .ok (.if_icmp .lt 5, 3) := by decide +kernel
theorem dX10_generatorFor_39 : decode cX10_generatorFor 39 = .ok (.iload_n 3, 1) := by decide +kernel
theorem dX10_generatorFor_40 : decode cX10_generatorFor 40 = .ok (.ireturn, 1) := by decide +kernel
theorem dX10_generatorFor_41 : decode cX10_generatorFor 41 = .ok (.iinc 3 1, 3) := by decide +kernel
theorem dX10_generatorFor_44 : decode cX10_generatorFor 44 = .ok (.goto (-42), 3) := by decide +kernel
theorem dX10_generatorFor_47 : decode cX10_generatorFor 47 = .ok (.ldc 25, 2) := by decide +kernel
theorem dX10_generatorFor_49 : decode cX10_generatorFor 49 = .ok (.ireturn, 1) := by decide +kernel
set_option maxRecDepth 20000 in
theorem ggX10_why_X10_reels : GoodIn wsX10_why wsX10_reels := goodIn_r _ [7, 1, 8, 9, 6, 10, 15, 16, 17, 18, 19, 20, 21, 22, 23, 24, 25, 26, 27, 28, 29, 30] (by decide +kernel) (by decide +kernel)
set_option maxRecDepth 20000 in
theorem gX10_why_X10_reels : GoodIn wsX10_why (wsV RX10 60 RX10 yX10_reels wsX10_reels) := goodIn_app (goodIn_of _ (by decide +kernel)) ggX10_why_X10_reels
set_option maxRecDepth 20000 in
theorem ggX10_why_X10_generatorFor : GoodIn wsX10_why wsX10_generatorFor := goodIn_r _ [14, 1, 2, 15, 16, 17, 18, 19, 20, 21, 22, 23, 24, 25, 26, 27, 28, 29, 30] (by decide +kernel) (by decide +kernel)
set_option maxRecDepth 20000 in
theorem gX10_why_X10_generatorFor : GoodIn wsX10_why (wsV RX10 63 RX10 yX10_generatorFor wsX10_generatorFor) := goodIn_app (goodIn_of _ (by decide +kernel)) ggX10_why_X10_generatorFor
theorem dX10_why_0 : decode cX10_why 0 = .ok (.aload_n 0, 1) := by decide +kernel
theorem dX10_why_1 : decode cX10_why 1 = .ok (.getfield 7, 3) := by decide +kernel
theorem dX10_why_4 : decode cX10_why 4 = .ok (.bipush 57, 2) := by decide +kernel
theorem dX10_why_6 : decode cX10_why 6 = .ok (.iload_n 1, 1) := by decide +kernel
theorem dX10_why_7 : decode cX10_why 7 = .ok (.iadd, 1) := by decide +kernel
theorem dX10_why_8 : decode cX10_why 8 = .ok (.iaload, 1) := by decide +kernel
theorem dX10_why_9 : decode cX10_why 9 = .ok (.iconst 1, 1) := by decide +kernel
theorem dX10_why_10 : decode cX10_why 10 = .ok (.if_icmp .ne 5, 3) := by decide +kernel
theorem dX10_why_13 : decode cX10_why 13 = .ok (.iconst 1, 1) := by decide +kernel
theorem dX10_why_14 : decode cX10_why 14 = .ok (.ireturn, 1) := by decide +kernel
theorem dX10_why_15 : decode cX10_why 15 = .ok (.aload_n 0, 1) := by decide +kernel
theorem dX10_why_16 : decode cX10_why 16 = .ok (.iload_n 1, 1) := by decide +kernel
theorem dX10_why_17 : decode cX10_why 17 = .ok (.iconst 0, 1) := by decide +kernel
theorem dX10_why_18 : decode cX10_why 18 = .ok (.invokevirtual 60, 3) := by decide +kernel
theorem dX10_why_21 : decode cX10_why 21 = .ok (.ifCond .ne 5, 3) := by decide +kernel
theorem dX10_why_24 : decode cX10_why 24 = .ok (.iconst 2, 1) := by decide +kernel
theorem dX10_why_25 : decode cX10_why 25 = .ok (.ireturn, 1) := by decide +kernel
theorem dX10_why_26 : decode cX10_why 26 = .ok (.aload_n 0, 1) := by decide +kernel
theorem dX10_why_27 : decode cX10_why 27 = .ok (.iload_n 1, 1) := by decide +kernel
theorem dX10_why_28 : decode cX10_why 28 = .ok (.iconst 0, 1) := by decide +kernel
theorem dX10_why_29 : decode cX10_why 29 = .ok (.invokevirtual 63, 3) := by decide +kernel
theorem dX10_why_32 : decode cX10_why 32 = .ok (.ldc 25, 2) := by decide +kernel
theorem dX10_why_34 : decode cX10_why 34 = .ok (.if_icmp .ne 7, 3) := by decide +kernel
theorem dX10_why_37 : decode cX10_why 37 = .ok (.iconst 3, 1) := by decide +kernel
theorem dX10_why_38 : decode cX10_why 38 = .ok (.goto 24, 3) := by decide +kernel
theorem dX10_why_41 : decode cX10_why 41 = .ok (.aload_n 0, 1) := by decide +kernel
theorem dX10_why_42 : decode cX10_why 42 = .ok (.iload_n 1, 1) := by decide +kernel
theorem dX10_why_43 : decode cX10_why 43 = .ok (.aload_n 0, 1) := by decide +kernel
theorem dX10_why_44 : decode cX10_why 44 = .ok (.iload_n 1, 1) := by decide +kernel
theorem dX10_why_45 : decode cX10_why 45 = .ok (.iconst 1, 1) := by decide +kernel
theorem dX10_why_46 : decode cX10_why 46 = .ok (.invokevirtual 60, 3) := by decide +kernel
theorem dX10_why_49 : decode cX10_why 49 = .ok (.invokevirtual 63, 3) := by decide +kernel
theorem dX10_why_52 : decode cX10_why 52 = .ok (.ldc 25, 2) := by decide +kernel
theorem dX10_why_54 : decode cX10_why 54 = .ok (.if_icmp .ne 7, 3) := by decide +kernel
theorem dX10_why_57 : decode cX10_why 57 = .ok (.iconst 4, 1) := by decide +kernel
theorem dX10_why_58 : decode cX10_why 58 = .ok (.goto 4, 3) := by decide +kernel
theorem dX10_why_61 : decode cX10_why 61 = .ok (.iconst 0, 1) := by decide +kernel
theorem dX10_why_62 : decode cX10_why 62 = .ok (.ireturn, 1) := by decide +kernel
set_option maxRecDepth 20000 in
theorem ggX10_peopleAt_X10_reels : GoodIn wsX10_peopleAt wsX10_reels := goodIn_r _ [5, 6, 7, 8, 4, 9, 13, 14, 15, 16, 17, 18, 19, 20, 21, 22, 23, 24, 25, 26, 27, 28] (by decide +kernel) (by decide +kernel)
set_option maxRecDepth 20000 in
theorem gX10_peopleAt_X10_reels : GoodIn wsX10_peopleAt (wsV RX10 60 RX10 yX10_reels wsX10_reels) := goodIn_app (goodIn_of _ (by decide +kernel)) ggX10_peopleAt_X10_reels
set_option maxRecDepth 20000 in
theorem ggX10_peopleAt_X10_seats : GoodIn wsX10_peopleAt wsX10_seats := goodIn_r _ [12] (by decide +kernel) (by decide +kernel)
set_option maxRecDepth 20000 in
theorem gX10_peopleAt_X10_seats : GoodIn wsX10_peopleAt (va_wsS RX10 66 yX10_seats wsX10_seats) := goodIn_app (goodIn_of _ (by decide +kernel)) ggX10_peopleAt_X10_seats
theorem dX10_peopleAt_0 : decode cX10_peopleAt 0 = .ok (.aload_n 0, 1) := by decide +kernel
theorem dX10_peopleAt_1 : decode cX10_peopleAt 1 = .ok (.iload_n 1, 1) := by decide +kernel
theorem dX10_peopleAt_2 : decode cX10_peopleAt 2 = .ok (.iconst 0, 1) := by decide +kernel
theorem dX10_peopleAt_3 : decode cX10_peopleAt 3 = .ok (.invokevirtual 60, 3) := by decide +kernel
theorem dX10_peopleAt_6 : decode cX10_peopleAt 6 = .ok (.istore_n 2, 1) := by decide +kernel
theorem dX10_peopleAt_7 : decode cX10_peopleAt 7 = .ok (.iload_n 2, 1) := by decide +kernel
theorem dX10_peopleAt_8 : decode cX10_peopleAt 8 = .ok (.ifCond .ne 7, 3) := by decide +kernel
theorem dX10_peopleAt_11 : decode cX10_peopleAt 11 = .ok (.iconst 0, 1) := by decide +kernel
theorem dX10_peopleAt_12 : decode cX10_peopleAt 12 = .ok (.goto 26, 3) := by decide +kernel
theorem dX10_peopleAt_15 : decode cX10_peopleAt 15 = .ok (.iload_n 1, 1) := by decide +kernel
theorem dX10_peopleAt_16 : decode cX10_peopleAt 16 = .ok (.invokestatic 66, 3) := by decide +kernel
theorem dX10_peopleAt_19 : decode cX10_peopleAt 19 = .ok (.aload_n 0, 1) := by decide +kernel
theorem dX10_peopleAt_20 : decode cX10_peopleAt 20 = .ok (.iload_n 1, 1) := by decide +kernel
theorem dX10_peopleAt_21 : decode cX10_peopleAt 21 = .ok (.iconst 3, 1) := by decide +kernel
theorem dX10_peopleAt_22 : decode cX10_peopleAt 22 = .ok (.invokevirtual 60, 3) := by decide +kernel
theorem dX10_peopleAt_25 : decode cX10_peopleAt 25 = .ok (.imul, 1) := by decide +kernel
theorem dX10_peopleAt_26 : decode cX10_peopleAt 26 = .ok (.iload_n 2, 1) := by decide +kernel
theorem dX10_peopleAt_27 : decode cX10_peopleAt 27 = .ok (.idiv, 1) := by decide +kernel
theorem dX10_peopleAt_28 : decode cX10_peopleAt 28 = .ok (.aload_n 0, 1) := by decide +kernel
theorem dX10_peopleAt_29 : decode cX10_peopleAt 29 = .ok (.iload_n 1, 1) := by decide +kernel
theorem dX10_peopleAt_30 : decode cX10_peopleAt 30 = .ok (.iconst 2, 1) := by decide +kernel
theorem dX10_peopleAt_31 : decode cX10_peopleAt 31 = .ok (.invokevirtual 60, 3) := by decide +kernel
theorem dX10_peopleAt_34 : decode cX10_peopleAt 34 = .ok (.bipush 10, 2) := by decide +kernel
theorem dX10_peopleAt_36 : decode cX10_peopleAt 36 = .ok (.idiv, 1) := by decide +kernel
theorem dX10_peopleAt_37 : decode cX10_peopleAt 37 = .ok (.isub, 1) := by decide +kernel
theorem dX10_peopleAt_38 : decode cX10_peopleAt 38 = .ok (.istore_n 3, 1) := by decide +kernel
theorem dX10_peopleAt_39 : decode cX10_peopleAt 39 = .ok (.iload_n 3, 1) := by decide +kernel
theorem dX10_peopleAt_40 : decode cX10_peopleAt 40 = .ok (.ifCond .ge 7, 3) := by decide +kernel
theorem dX10_peopleAt_43 : decode cX10_peopleAt 43 = .ok (.iconst 0, 1) := by decide +kernel
theorem dX10_peopleAt_44 : decode cX10_peopleAt 44 = .ok (.goto 4, 3) := by decide +kernel
theorem dX10_peopleAt_47 : decode cX10_peopleAt 47 = .ok (.iload_n 3, 1) := by decide +kernel
theorem dX10_peopleAt_48 : decode cX10_peopleAt 48 = .ok (.ireturn, 1) := by decide +kernel
set_option maxRecDepth 20000 in
theorem ggX10_wear_X10_of : GoodIn wsX10_wear wsX10_of := goodIn_r _ [5] (by decide +kernel) (by decide +kernel)
set_option maxRecDepth 20000 in
theorem gX10_wear_X10_of : GoodIn wsX10_wear (va_wsS RX10 33 yX10_of wsX10_of) := goodIn_app (goodIn_of _ (by decide +kernel)) ggX10_wear_X10_of
theorem dX10_wear_0 : decode cX10_wear 0 = .ok (.aload_n 0, 1) := by decide +kernel
theorem dX10_wear_1 : decode cX10_wear 1 = .ok (.getfield 7, 3) := by decide +kernel
theorem dX10_wear_4 : decode cX10_wear 4 = .ok (.iload_n 1, 1) := by decide +kernel
theorem dX10_wear_5 : decode cX10_wear 5 = .ok (.iconst 2, 1) := by decide +kernel
theorem dX10_wear_6 : decode cX10_wear 6 = .ok (.invokestatic 33, 3) := by decide +kernel
theorem dX10_wear_9 : decode cX10_wear 9 = .ok (.dup2, 1) := by decide +kernel
theorem dX10_wear_10 : decode cX10_wear 10 = .ok (.iaload, 1) := by decide +kernel
theorem dX10_wear_11 : decode cX10_wear 11 = .ok (.iload_n 2, 1) := by decide +kernel
theorem dX10_wear_12 : decode cX10_wear 12 = .ok (.iadd, 1) := by decide +kernel
theorem dX10_wear_13 : decode cX10_wear 13 = .ok (.iastore, 1) := by decide +kernel
theorem dX10_wear_14 : decode cX10_wear 14 = .ok (.aload_n 0, 1) := by decide +kernel
theorem dX10_wear_15 : decode cX10_wear 15 = .ok (.getfield 7, 3) := by decide +kernel
theorem dX10_wear_18 : decode cX10_wear 18 = .ok (.iload_n 1, 1) := by decide +kernel
theorem dX10_wear_19 : decode cX10_wear 19 = .ok (.iconst 2, 1) := by decide +kernel
theorem dX10_wear_20 : decode cX10_wear 20 = .ok (.invokestatic 33, 3) := by decide +kernel
theorem dX10_wear_23 : decode cX10_wear 23 = .ok (.iaload, 1) := by decide +kernel
theorem dX10_wear_24 : decode cX10_wear 24 = .ok (.bipush 40, 2) := by decide +kernel
theorem dX10_wear_26 : decode cX10_wear 26 = .ok (.if_icmp .lt 60, 3) := by decide +kernel
theorem dX10_wear_29 : decode cX10_wear 29 = .ok (.aload_n 0, 1) := by decide +kernel
theorem dX10_wear_30 : decode cX10_wear 30 = .ok (.getfield 7, 3) := by decide +kernel
theorem dX10_wear_33 : decode cX10_wear 33 = .ok (.iload_n 1, 1) := by decide +kernel
theorem dX10_wear_34 : decode cX10_wear 34 = .ok (.iconst 2, 1) := by decide +kernel
theorem dX10_wear_35 : decode cX10_wear 35 = .ok (.invokestatic 33, 3) := by decide +kernel
theorem dX10_wear_38 : decode cX10_wear 38 = .ok (.dup2, 1) := by decide +kernel
theorem dX10_wear_39 : decode cX10_wear 39 = .ok (.iaload, 1) := by decide +kernel
theorem dX10_wear_40 : decode cX10_wear 40 = .ok (.bipush 20, 2) := by decide +kernel
theorem dX10_wear_42 : decode cX10_wear 42 = .ok (.isub, 1) := by decide +kernel
theorem dX10_wear_43 : decode cX10_wear 43 = .ok (.iastore, 1) := by decide +kernel
theorem dX10_wear_44 : decode cX10_wear 44 = .ok (.aload_n 0, 1) := by decide +kernel
theorem dX10_wear_45 : decode cX10_wear 45 = .ok (.getfield 7, 3) := by decide +kernel
theorem dX10_wear_48 : decode cX10_wear 48 = .ok (.iload_n 1, 1) := by decide +kernel
theorem dX10_wear_49 : decode cX10_wear 49 = .ok (.iconst 1, 1) := by decide +kernel
theorem dX10_wear_50 : decode cX10_wear 50 = .ok (.invokestatic 33, 3) := by decide +kernel
theorem dX10_wear_53 : decode cX10_wear 53 = .ok (.dup2, 1) := by decide +kernel
theorem dX10_wear_54 : decode cX10_wear 54 = .ok (.iaload, 1) := by decide +kernel
theorem dX10_wear_55 : decode cX10_wear 55 = .ok (.iconst 1, 1) := by decide +kernel
theorem dX10_wear_56 : decode cX10_wear 56 = .ok (.isub, 1) := by decide +kernel
theorem dX10_wear_57 : decode cX10_wear 57 = .ok (.iastore, 1) := by decide +kernel
theorem dX10_wear_58 : decode cX10_wear 58 = .ok (.aload_n 0, 1) := by decide +kernel
theorem dX10_wear_59 : decode cX10_wear 59 = .ok (.getfield 7, 3) := by decide +kernel
theorem dX10_wear_62 : decode cX10_wear 62 = .ok (.iload_n 1, 1) := by decide +kernel
theorem dX10_wear_63 : decode cX10_wear 63 = .ok (.iconst 3, 1) := by decide +kernel
theorem dX10_wear_64 : decode cX10_wear 64 = .ok (.invokestatic 33, 3) := by decide +kernel
theorem dX10_wear_67 : decode cX10_wear 67 = .ok (.dup2, 1) := by decide +kernel
theorem dX10_wear_68 : decode cX10_wear 68 = .ok (.iaload, 1) := by decide +kernel
theorem dX10_wear_69 : decode cX10_wear 69 = .ok (.iconst 1, 1) := by decide +kernel
theorem dX10_wear_70 : decode cX10_wear 70 = .ok (.iadd, 1) := by decide +kernel
theorem dX10_wear_71 : decode cX10_wear 71 = .ok (.iastore, 1) := by decide +kernel
theorem dX10_wear_72 : decode cX10_wear 72 = .ok (.aload_n 0, 1) := by decide +kernel
theorem dX10_wear_73 : decode cX10_wear 73 = .ok (.getfield 7, 3) := by decide +kernel
theorem dX10_wear_76 : decode cX10_wear 76 = .ok (.bipush 76, 2) := by decide +kernel
theorem dX10_wear_78 : decode cX10_wear 78 = .ok (.dup2, 1) := by decide +kernel
theorem dX10_wear_79 : decode cX10_wear 79 = .ok (.iaload, 1) := by decide +kernel
theorem dX10_wear_80 : decode cX10_wear 80 = .ok (.iconst 1, 1) := by decide +kernel
theorem dX10_wear_81 : decode cX10_wear 81 = .ok (.iadd, 1) := by decide +kernel
theorem dX10_wear_82 : decode cX10_wear 82 = .ok (.iastore, 1) := by decide +kernel
theorem dX10_wear_83 : decode cX10_wear 83 = .ok (.goto (-69), 3) := by decide +kernel
theorem dX10_wear_86 : decode cX10_wear 86 = .ok (.aload_n 0, 1) := by decide +kernel
theorem dX10_wear_87 : decode cX10_wear 87 = .ok (.getfield 7, 3) := by decide +kernel
theorem dX10_wear_90 : decode cX10_wear 90 = .ok (.iload_n 1, 1) := by decide +kernel
theorem dX10_wear_91 : decode cX10_wear 91 = .ok (.iconst 0, 1) := by decide +kernel
theorem dX10_wear_92 : decode cX10_wear 92 = .ok (.invokestatic 33, 3) := by decide +kernel
theorem dX10_wear_95 : decode cX10_wear 95 = .ok (.aload_n 0, 1) := by decide +kernel
theorem dX10_wear_96 : decode cX10_wear 96 = .ok (.getfield 7, 3) := by decide +kernel
theorem dX10_wear_99 : decode cX10_wear 99 = .ok (.iload_n 1, 1) := by decide +kernel
theorem dX10_wear_100 : decode cX10_wear 100 = .ok (.iconst 1, 1) := by decide +kernel
theorem dX10_wear_101 : decode cX10_wear 101 = .ok (.invokestatic 33, 3) := by decide +kernel
theorem dX10_wear_104 : decode cX10_wear 104 = .ok (.iaload, 1) := by decide +kernel
theorem dX10_wear_105 : decode cX10_wear 105 = .ok (.iconst 3, 1) := by decide +kernel
theorem dX10_wear_106 : decode cX10_wear 106 = .ok (.if_icmp .ge 8, 3) := by decide +kernel
theorem dX10_wear_109 : decode cX10_wear 109 = .ok (.bipush (-2), 2) := by decide +kernel
theorem dX10_wear_111 : decode cX10_wear 111 = .ok (.goto 13, 3) := by decide +kernel
theorem dX10_wear_114 : decode cX10_wear 114 = .ok (.aload_n 0, 1) := by decide +kernel
theorem dX10_wear_115 : decode cX10_wear 115 = .ok (.getfield 7, 3) := by decide +kernel
theorem dX10_wear_118 : decode cX10_wear 118 = .ok (.iload_n 1, 1) := by decide +kernel
theorem dX10_wear_119 : decode cX10_wear 119 = .ok (.iconst 0, 1) := by decide +kernel
theorem dX10_wear_120 : decode cX10_wear 120 = .ok (.invokestatic 33, 3) := by decide +kernel
theorem dX10_wear_123 : decode cX10_wear 123 = .ok (.iaload, 1) := by decide +kernel
theorem dX10_wear_124 : decode cX10_wear 124 = .ok (.iastore, 1) := by decide +kernel
theorem dX10_wear_125 : decode cX10_wear 125 = .ok (.return_, 1) := by decide +kernel
theorem dX10_log_0 : decode cX10_log 0 = .ok (.bipush 29, 2) := by decide +kernel
theorem dX10_log_2 : decode cX10_log 2 = .ok (.istore 5, 2) := by decide +kernel
