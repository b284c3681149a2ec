theorem dX5_init_0 : decode cX5_init 0 = .ok (.aload_n 0, 1) := by decide +kernel
theorem dX5_init_1 : decode cX5_init 1 = .ok (.invokespecial 3, 3) := by decide +kernel
theorem dX5_init_4 : decode cX5_init 4 = .ok (.aload_n 0, 1) := by decide +kernel
theorem dX5_init_5 : decode cX5_init 5 = .ok (.bipush 40, 2) := by decide +kernel
theorem dX5_init_7 : decode cX5_init 7 = .ok (.newarray .int, 2) := by decide +kernel
theorem dX5_init_9 : decode cX5_init 9 = .ok (.putfield 9, 3) := by decide +kernel
theorem dX5_init_12 : decode cX5_init 12 = .ok (.aload_n 0, 1) := by decide +kernel
theorem dX5_init_13 : decode cX5_init 13 = .ok (.bipush 40, 2) := by decide +kernel
theorem dX5_init_15 : decode cX5_init 15 = .ok (.newarray .int, 2) := by decide +kernel
theorem dX5_init_17 : decode cX5_init 17 = .ok (.putfield 15, 3) := by decide +kernel
theorem dX5_init_20 : decode cX5_init 20 = .ok (.aload_n 0, 1) := by decide +kernel
theorem dX5_init_21 : decode cX5_init 21 = .ok (.bipush 40, 2) := by decide +kernel
theorem dX5_init_23 : decode cX5_init 23 = .ok (.newarray .int, 2) := by decide +kernel
theorem dX5_init_25 : decode cX5_init 25 = .ok (.putfield 18, 3) := by decide +kernel
theorem dX5_init_28 : decode cX5_init 28 = .ok (.aload_n 0, 1) := by decide +kernel
theorem dX5_init_29 : decode cX5_init 29 = .ok (.iconst 0, 1) := by decide +kernel
theorem dX5_init_30 : decode cX5_init 30 = .ok (.putfield 21, 3) := by decide +kernel
theorem dX5_init_33 : decode cX5_init 33 = .ok (.aload_n 0, 1) := by decide +kernel
theorem dX5_init_34 : decode cX5_init 34 = .ok (.iconst 0, 1) := by decide +kernel
theorem dX5_init_35 : decode cX5_init 35 = .ok (.putfield 25, 3) := by decide +kernel
theorem dX5_init_38 : decode cX5_init 38 = .ok (.return_, 1) := by decide +kernel
theorem dX5_size_0 : decode cX5_size 0 = .ok (.aload_n 0, 1) := by decide +kernel
theorem dX5_size_1 : decode cX5_size 1 = .ok (.getfield 21, 3) := by decide +kernel
theorem dX5_size_4 : decode cX5_size 4 = .ok (.ireturn, 1) := by decide +kernel
set_option maxRecDepth 20000 in
theorem ggX5_faultOf_X5_readsCommand : GoodIn wsX5_faultOf wsX5_readsCommand := goodIn_r _ [7, 2, 8, 9, 10, 11, 12, 13, 14, 15, 16, 17, 6, 18, 19, 20, 21, 22, 23, 24, 25, 26, 1, 27, 28, 29, 30, 31, 32, 33, 34, 35, 36, 37, 38, 39, 40, 41, 42, 43, 44, 45, 46, 51, 52, 53, 54, 55, 56, 57] (by decide +kernel) (by decide +kernel)
set_option maxRecDepth 20000 in
theorem gX5_faultOf_X5_readsCommand : GoodIn wsX5_faultOf (wsV RX5 28 RX5 yX5_readsCommand wsX5_readsCommand) := goodIn_app (goodIn_of _ (by decide +kernel)) ggX5_faultOf_X5_readsCommand
set_option maxRecDepth 20000 in
theorem ggX5_faultOf_X8_length : GoodIn wsX5_faultOf wsX8_length := goodIn_r _ [50, 13, 56, 57] (by decide +kernel) (by decide +kernel)
set_option maxRecDepth 20000 in
theorem gX5_faultOf_X8_length : GoodIn wsX5_faultOf (wsV RX5 32 RX8 yX8_length wsX8_length) := goodIn_app (goodIn_of _ (by decide +kernel)) ggX5_faultOf_X8_length
set_option maxRecDepth 20000 in
theorem ggX5_faultOf_X5_readsSign : GoodIn wsX5_faultOf wsX5_readsSign := goodIn_r _ [40, 2, 8, 9, 10, 11, 12, 13, 14, 51, 52, 53, 54, 55, 56, 57] (by decide +kernel) (by decide +kernel)
set_option maxRecDepth 20000 in
theorem gX5_faultOf_X5_readsSign : GoodIn wsX5_faultOf (wsV RX5 38 RX5 yX5_readsSign wsX5_readsSign) := goodIn_app (goodIn_of _ (by decide +kernel)) ggX5_faultOf_X5_readsSign
theorem dX5_faultOf_0 : decode cX5_faultOf 0 = .ok (.aload_n 0, 1) := by decide +kernel
theorem dX5_faultOf_1 : decode cX5_faultOf 1 = .ok (.iconst 0, 1) := by decide +kernel
theorem dX5_faultOf_2 : decode cX5_faultOf 2 = .ok (.putfield 21, 3) := by decide +kernel
theorem dX5_faultOf_5 : decode cX5_faultOf 5 = .ok (.aload_n 0, 1) := by decide +kernel
theorem dX5_faultOf_6 : decode cX5_faultOf 6 = .ok (.iconst 0, 1) := by decide +kernel
theorem dX5_faultOf_7 : decode cX5_faultOf 7 = .ok (.putfield 25, 3) := by decide +kernel
theorem dX5_faultOf_10 : decode cX5_faultOf 10 = .ok (.iconst 0, 1) := by decide +kernel
theorem dX5_faultOf_11 : decode cX5_faultOf 11 = .ok (.istore_n 2, 1) := by decide +kernel
theorem dX5_faultOf_12 : decode cX5_faultOf 12 = .ok (.iload_n 2, 1) := by decide +kernel
theorem dX5_faultOf_13 : decode cX5_faultOf 13 = .ok (.bipush 40, 2) := by decide +kernel
theorem dX5_faultOf_15 : decode cX5_faultOf 15 = .ok (.if_icmp .ge 50, 3) := by decide +kernel
theorem dX5_faultOf_18 : decode cX5_faultOf 18 = .ok (.aload_n 0, 1) := by decide +kernel
theorem dX5_faultOf_19 : decode cX5_faultOf 19 = .ok (.aload_n 1, 1) := by decide +kernel
theorem dX5_faultOf_20 : decode cX5_faultOf 20 = .ok (.invokevirtual 28, 3) := by decide +kernel
theorem dX5_faultOf_23 : decode cX5_faultOf 23 = .ok (.ifCond .ne 8, 3) := by decide +kernel
theorem dX5_faultOf_26 : decode cX5_faultOf 26 = .ok (.aload_n 0, 1) := by decide +kernel
theorem dX5_faultOf_27 : decode cX5_faultOf 27 = .ok (.getfield 25, 3) := by decide +kernel
theorem dX5_faultOf_30 : decode cX5_faultOf 30 = .ok (.ireturn, 1) := by decide +kernel
theorem dX5_faultOf_31 : decode cX5_faultOf 31 = .ok (.aload_n 0, 1) := by decide +kernel
theorem dX5_faultOf_32 : decode cX5_faultOf 32 = .ok (.getfield 25, 3) := by decide +kernel
theorem dX5_faultOf_35 : decode cX5_faultOf 35 = .ok (.aload_n 1, 1) := by decide +kernel
theorem dX5_faultOf_36 : decode cX5_faultOf 36 = .ok (.invokevirtual 32, 3) := by decide +kernel
theorem dX5_faultOf_39 : decode cX5_faultOf 39 = .ok (.if_icmp .ne 5, 3) := by decide +kernel
theorem dX5_faultOf_42 : decode cX5_faultOf 42 = .ok (.iconst (-1), 1) := by decide +kernel
theorem dX5_faultOf_43 : decode cX5_faultOf 43 = .ok (.ireturn, 1) := by decide +kernel
theorem dX5_faultOf_44 : decode cX5_faultOf 44 = .ok (.aload_n 0, 1) := by decide +kernel
theorem dX5_faultOf_45 : decode cX5_faultOf 45 = .ok (.aload_n 1, 1) := by decide +kernel
theorem dX5_faultOf_46 : decode cX5_faultOf 46 = .ok (.bipush 44, 2) := by decide +kernel
theorem dX5_faultOf_48 : decode cX5_faultOf 48 = .ok (.invokevirtual 38, 3) := by decide +kernel
theorem dX5_faultOf_51 : decode cX5_faultOf 51 = .ok (.ifCond .ne 8, 3) := by decide +kernel
theorem dX5_faultOf_54 : decode cX5_faultOf 54 = .ok (.aload_n 0, 1) := by decide +kernel
theorem dX5_faultOf_55 : decode cX5_faultOf 55 = .ok (.getfield 25, 3) := by decide +kernel
theorem dX5_faultOf_58 : decode cX5_faultOf 58 = .ok (.ireturn, 1) := by decide +kernel
theorem dX5_faultOf_59 : decode cX5_faultOf 59 = .ok (.iinc 2 1, 3) := by decide +kernel
theorem dX5_faultOf_62 : decode cX5_faultOf 62 = .ok (.goto (-50), 3) := by decide +kernel
theorem dX5_faultOf_65 : decode cX5_faultOf 65 = .ok (.aload_n 0, 1) := by decide +kernel
theorem dX5_faultOf_66 : decode cX5_faultOf 66 = .ok (.getfield 25, 3) := by decide +kernel
theorem dX5_faultOf_69 : decode cX5_faultOf 69 = .ok (.ireturn, 1) := by decide +kernel
set_option maxRecDepth 20000 in
theorem ggX5_readsCommand_X8_signAt : GoodIn wsX5_readsCommand wsX8_signAt := goodIn_r _ [6, 7, 8, 48, 49] (by decide +kernel) (by decide +kernel)
set_option maxRecDepth 20000 in
theorem gX5_readsCommand_X8_signAt : GoodIn wsX5_readsCommand (wsV RX5 42 RX8 yX8_signAt wsX8_signAt) := goodIn_app (goodIn_of _ (by decide +kernel)) ggX5_readsCommand_X8_signAt
set_option maxRecDepth 20000 in
theorem ggX5_readsCommand_X5_readsWithThing : GoodIn wsX5_readsCommand wsX5_readsWithThing := goodIn_r _ [13, 1, 14, 15, 16, 12, 17, 2, 3, 4, 5, 6, 7, 8, 18, 19, 20, 21, 22, 23, 24, 25, 43, 44, 45, 46, 47, 48, 49] (by decide +kernel) (by decide +kernel)
set_option maxRecDepth 20000 in
theorem gX5_readsCommand_X5_readsWithThing : GoodIn wsX5_readsCommand (wsV RX5 46 RX5 yX5_readsWithThing wsX5_readsWithThing) := goodIn_app (goodIn_of _ (by decide +kernel)) ggX5_readsCommand_X5_readsWithThing
set_option maxRecDepth 20000 in
theorem ggX5_readsCommand_X5_readsFuel : GoodIn wsX5_readsCommand wsX5_readsFuel := goodIn_r _ [29, 1, 14, 15, 16, 12, 17, 2, 3, 4, 5, 6, 7, 8, 30, 31, 32, 33, 34, 35, 36, 37, 38, 39, 40, 41, 42, 18, 19, 20, 21, 22, 23, 24, 25, 43, 44, 45, 46, 47, 48, 49] (by decide +kernel) (by decide +kernel)
set_option maxRecDepth 20000 in
theorem gX5_readsCommand_X5_readsFuel : GoodIn wsX5_readsCommand (wsV RX5 50 RX5 yX5_readsFuel wsX5_readsFuel) := goodIn_app (goodIn_of _ (by decide +kernel)) ggX5_readsCommand_X5_readsFuel
set_option maxRecDepth 20000 in
theorem ggX5_readsCommand_X5_adds : GoodIn wsX5_readsCommand wsX5_adds := goodIn_r _ [21, 22, 23, 24, 25, 43, 44, 45, 46, 47] (by decide +kernel) (by decide +kernel)
set_option maxRecDepth 20000 in
theorem gX5_readsCommand_X5_adds : GoodIn wsX5_readsCommand (wsV RX5 53 RX5 yX5_adds wsX5_adds) := goodIn_app (goodIn_of _ (by decide +kernel)) ggX5_readsCommand_X5_adds
theorem dX5_readsCommand_0 : decode cX5_readsCommand 0 = .ok (.aload_n 1, 1) := by decide +kernel
theorem dX5_readsCommand_1 : decode cX5_readsCommand 1 = .ok (.aload_n 0, 1) := by decide +kernel
theorem dX5_readsCommand_2 : decode cX5_readsCommand 2 = .ok (.getfield 25, 3) := by decide +kernel
theorem dX5_readsCommand_5 : decode cX5_readsCommand 5 = .ok (.invokevirtual 42, 3) := by decide +kernel
theorem dX5_readsCommand_8 : decode cX5_readsCommand 8 = .ok (.istore_n 2, 1) := by decide +kernel
theorem dX5_readsCommand_9 : decode cX5_readsCommand 9 = .ok (.iload_n 2, 1) := by decide +kernel
theorem dX5_readsCommand_10 : decode cX5_readsCommand 10 = .ok (.lookupswitch 115 #[(43, 74), (45, 74), (100, 97), (102, 91), (103, 83), (115, 97), (118, 66)], 66) := by decide +kernel
theorem dX5_readsCommand_76 : decode cX5_readsCommand 76 = .ok (.aload_n 0, 1) := by decide +kernel
theorem dX5_readsCommand_77 : decode cX5_readsCommand 77 = .ok (.aload_n 1, 1) := by decide +kernel
theorem dX5_readsCommand_78 : decode cX5_readsCommand 78 = .ok (.iload_n 2, 1) := by decide +kernel
theorem dX5_readsCommand_79 : decode cX5_readsCommand 79 = .ok (.iconst 5, 1) := by decide +kernel
theorem dX5_readsCommand_80 : decode cX5_readsCommand 80 = .ok (.invokevirtual 46, 3) := by decide +kernel
theorem dX5_readsCommand_83 : decode cX5_readsCommand 83 = .ok (.ireturn, 1) := by decide +kernel
theorem dX5_readsCommand_84 : decode cX5_readsCommand 84 = .ok (.aload_n 0, 1) := by decide +kernel
theorem dX5_readsCommand_85 : decode cX5_readsCommand 85 = .ok (.aload_n 1, 1) := by decide +kernel
theorem dX5_readsCommand_86 : decode cX5_readsCommand 86 = .ok (.iload_n 2, 1) := by decide +kernel
theorem dX5_readsCommand_87 : decode cX5_readsCommand 87 = .ok (.bipush 10, 2) := by decide +kernel
theorem dX5_readsCommand_89 : decode cX5_readsCommand 89 = .ok (.invokevirtual 46, 3) := by decide +kernel
theorem dX5_readsCommand_92 : decode cX5_readsCommand 92 = .ok (.ireturn, 1) := by decide +kernel
theorem dX5_readsCommand_93 : decode cX5_readsCommand 93 = .ok (.aload_n 0, 1) := by decide +kernel
theorem dX5_readsCommand_94 : decode cX5_readsCommand 94 = .ok (.aload_n 1, 1) := by decide +kernel
theorem dX5_readsCommand_95 : decode cX5_readsCommand 95 = .ok (.iload_n 2, 1) := by decide +kernel
theorem dX5_readsCommand_96 : decode cX5_readsCommand 96 = .ok (.iconst 2, 1) := by decide +kernel
theorem dX5_readsCommand_97 : decode cX5_readsCommand 97 = .ok (.invokevirtual 46, 3) := by decide +kernel
theorem dX5_readsCommand_100 : decode cX5_readsCommand 100 = .ok (.ireturn, 1) := by decide +kernel
theorem dX5_readsCommand_101 : decode cX5_readsCommand 101 = .ok (.aload_n 0, 1) := by decide +kernel
theorem dX5_readsCommand_102 : decode cX5_readsCommand 102 = .ok (.aload_n 1, 1) := by decide +kernel
theorem dX5_readsCommand_103 : decode cX5_readsCommand 103 = .ok (.invokevirtual 50, 3) := by decide +kernel
theorem dX5_readsCommand_106 : decode cX5_readsCommand 106 = .ok (.ireturn, 1) := by decide +kernel
theorem dX5_readsCommand_107 : decode cX5_readsCommand 107 = .ok (.aload_n 0, 1) := by decide +kernel
theorem dX5_readsCommand_108 : decode cX5_readsCommand 108 = .ok (.dup, 1) := by decide +kernel
theorem dX5_readsCommand_109 : decode cX5_readsCommand 109 = .ok (.getfield 25, 3) := by decide +kernel
theorem dX5_readsCommand_112 : decode cX5_readsCommand 112 = .ok (.iconst 1, 1) := by decide +kernel
theorem dX5_readsCommand_113 : decode cX5_readsCommand 113 = .ok (.iadd, 1) := by decide +kernel
theorem dX5_readsCommand_114 : decode cX5_readsCommand 114 = .ok (.putfield 25, 3) := by decide +kernel
theorem dX5_readsCommand_117 : decode cX5_readsCommand 117 = .ok (.aload_n 0, 1) := by decide +kernel
theorem dX5_readsCommand_118 : decode cX5_readsCommand 118 = .ok (.iload_n 2, 1) := by decide +kernel
theorem dX5_readsCommand_119 : decode cX5_readsCommand 119 = .ok (.iconst 0, 1) := by decide +kernel
theorem dX5_readsCommand_120 : decode cX5_readsCommand 120 = .ok (.iconst 0, 1) := by decide +kernel
theorem dX5_readsCommand_121 : decode cX5_readsCommand 121 = .ok (.invokevirtual 53, 3) := by decide +kernel
theorem dX5_readsCommand_124 : decode cX5_readsCommand 124 = .ok (.ireturn, 1) := by decide +kernel
theorem dX5_readsCommand_125 : decode cX5_readsCommand 125 = .ok (.iconst 0, 1) := by decide +kernel
theorem dX5_readsCommand_126 : decode cX5_readsCommand 126 = .ok (.ireturn, 1) := by decide +kernel
set_option maxRecDepth 20000 in
theorem ggX5_readsWithThing_X5_digitAt : GoodIn wsX5_readsWithThing wsX5_digitAt := goodIn_r _ [6, 1, 7, 8, 9, 10, 11, 12, 13, 22, 23, 24, 25, 26, 27, 28] (by decide +kernel) (by decide +kernel)
set_option maxRecDepth 20000 in
theorem gX5_readsWithThing_X5_digitAt : GoodIn wsX5_readsWithThing (wsV RX5 57 RX5 yX5_digitAt wsX5_digitAt) := goodIn_app (goodIn_of _ (by decide +kernel)) ggX5_readsWithThing_X5_digitAt
set_option maxRecDepth 20000 in
theorem ggX5_readsWithThing_X5_adds : GoodIn wsX5_readsWithThing wsX5_adds := goodIn_r _ [17, 18, 19, 20, 21, 22, 23, 24, 25, 26] (by decide +kernel) (by decide +kernel)
set_option maxRecDepth 20000 in
theorem gX5_readsWithThing_X5_adds : GoodIn wsX5_readsWithThing (wsV RX5 53 RX5 yX5_adds wsX5_adds) := goodIn_app (goodIn_of _ (by decide +kernel)) ggX5_readsWithThing_X5_adds
theorem dX5_readsWithThing_0 : decode cX5_readsWithThing 0 = .ok (.aload_n 0, 1) := by decide +kernel
theorem dX5_readsWithThing_1 : decode cX5_readsWithThing 1 = .ok (.dup, 1) := by decide +kernel
theorem dX5_readsWithThing_2 : decode cX5_readsWithThing 2 = .ok (.getfield 25, 3) := by decide +kernel
theorem dX5_readsWithThing_5 : decode cX5_readsWithThing 5 = .ok (.iconst 1, 1) := by decide +kernel
theorem dX5_readsWithThing_6 : decode cX5_readsWithThing 6 = .ok (.iadd, 1) := by decide +kernel
theorem dX5_readsWithThing_7 : decode cX5_readsWithThing 7 = .ok (.putfield 25, 3) := by decide +kernel
theorem dX5_readsWithThing_10 : decode cX5_readsWithThing 10 = .ok (.aload_n 0, 1) := by decide +kernel
theorem dX5_readsWithThing_11 : decode cX5_readsWithThing 11 = .ok (.aload_n 1, 1) := by decide +kernel
theorem dX5_readsWithThing_12 : decode cX5_readsWithThing 12 = .ok (.invokevirtual 57, 3) := by decide +kernel
theorem dX5_readsWithThing_15 : decode cX5_readsWithThing 15 = .ok (.istore 4, 2) := by decide +kernel
theorem dX5_readsWithThing_17 : decode cX5_readsWithThing 17 = .ok (.iload 4, 2) := by decide +kernel
theorem dX5_readsWithThing_19 : decode cX5_readsWithThing 19 = .ok (.iconst (-1), 1) := by decide +kernel
theorem dX5_readsWithThing_20 : decode cX5_readsWithThing 20 = .ok (.if_icmp .eq 9, 3) := by decide +kernel
theorem dX5_readsWithThing_23 : decode cX5_readsWithThing 23 = .ok (.iload 4, 2) := by decide +kernel
theorem dX5_readsWithThing_25 : decode cX5_readsWithThing 25 = .ok (.iload_n 3, 1) := by decide +kernel
theorem dX5_readsWithThing_26 : decode cX5_readsWithThing 26 = .ok (.if_icmp .lt 5, 3) := by decide +kernel
theorem dX5_readsWithThing_29 : decode cX5_readsWithThing 29 = .ok (.iconst 0, 1) := by decide +kernel
theorem dX5_readsWithThing_30 : decode cX5_readsWithThing 30 = .ok (.ireturn, 1) := by decide +kernel
theorem dX5_readsWithThing_31 : decode cX5_readsWithThing 31 = .ok (.aload_n 0, 1) := by decide +kernel
theorem dX5_readsWithThing_32 : decode cX5_readsWithThing 32 = .ok (.dup, 1) := by decide +kernel
theorem dX5_readsWithThing_33 : decode cX5_readsWithThing 33 = .ok (.getfield 25, 3) := by decide +kernel
theorem dX5_readsWithThing_36 : decode cX5_readsWithThing 36 = .ok (.iconst 1, 1) := by decide +kernel
theorem dX5_readsWithThing_37 : decode cX5_readsWithThing 37 = .ok (.iadd, 1) := by decide +kernel
theorem dX5_readsWithThing_38 : decode cX5_readsWithThing 38 = .ok (.putfield 25, 3) := by decide +kernel
theorem dX5_readsWithThing_41 : decode cX5_readsWithThing 41 = .ok (.aload_n 0, 1) := by decide +kernel
theorem dX5_readsWithThing_42 : decode cX5_readsWithThing 42 = .ok (.iload_n 2, 1) := by decide +kernel
theorem dX5_readsWithThing_43 : decode cX5_readsWithThing 43 = .ok (.iload 4, 2) := by decide +kernel
theorem dX5_readsWithThing_45 : decode cX5_readsWithThing 45 = .ok (.iconst 0, 1) := by decide +kernel
theorem dX5_readsWithThing_46 : decode cX5_readsWithThing 46 = .ok (.invokevirtual 53, 3) := by decide +kernel
theorem dX5_readsWithThing_49 : decode cX5_readsWithThing 49 = .ok (.ireturn, 1) := by decide +kernel
set_option maxRecDepth 20000 in
theorem ggX5_readsFuel_X5_digitAt : GoodIn wsX5_readsFuel wsX5_digitAt := goodIn_r _ [6, 1, 7, 8, 9, 10, 11, 12, 13, 35, 36, 37, 38, 39, 40, 41] (by decide +kernel) (by decide +kernel)
set_option maxRecDepth 20000 in
theorem gX5_readsFuel_X5_digitAt : GoodIn wsX5_readsFuel (wsV RX5 57 RX5 yX5_digitAt wsX5_digitAt) := goodIn_app (goodIn_of _ (by decide +kernel)) ggX5_readsFuel_X5_digitAt
set_option maxRecDepth 20000 in
theorem ggX5_readsFuel_X9_isGenerator : GoodIn wsX5_readsFuel wsX9_isGenerator := goodIn_r _ [16] (by decide +kernel) (by decide +kernel)
set_option maxRecDepth 20000 in
theorem gX5_readsFuel_X9_isGenerator_n61 : GoodIn wsX5_readsFuel (wsX9_isGenerator) := ggX5_readsFuel_X9_isGenerator
set_option maxRecDepth 20000 in
theorem ggX5_readsFuel_X5_readsSign : GoodIn wsX5_readsFuel wsX5_readsSign := goodIn_r _ [20, 1, 7, 8, 9, 10, 11, 12, 13, 35, 36, 37, 38, 39, 40, 41] (by decide +kernel) (by decide +kernel)
set_option maxRecDepth 20000 in
theorem gX5_readsFuel_X5_readsSign : GoodIn wsX5_readsFuel (wsV RX5 38 RX5 yX5_readsSign wsX5_readsSign) := goodIn_app (goodIn_of _ (by decide +kernel)) ggX5_readsFuel_X5_readsSign
set_option maxRecDepth 20000 in
theorem ggX5_readsFuel_X5_readMinutes : GoodIn wsX5_readsFuel wsX5_readMinutes := goodIn_r _ [24, 1, 2, 3, 4, 5, 6, 7, 8, 9, 10, 11, 12, 13, 25, 15, 26, 35, 36, 37, 38, 39, 40, 41] (by decide +kernel) (by decide +kernel)
set_option maxRecDepth 20000 in
theorem gX5_readsFuel_X5_readMinutes : GoodIn wsX5_readsFuel (wsV RX5 65 RX5 yX5_readMinutes wsX5_readMinutes) := goodIn_app (goodIn_of _ (by decide +kernel)) ggX5_readsFuel_X5_readMinutes
set_option maxRecDepth 20000 in
theorem ggX5_readsFuel_X5_adds : GoodIn wsX5_readsFuel wsX5_adds := goodIn_r _ [30, 31, 32, 33, 34, 35, 36, 37, 38, 39] (by decide +kernel) (by decide +kernel)
set_option maxRecDepth 20000 in
theorem gX5_readsFuel_X5_adds : GoodIn wsX5_readsFuel (wsV RX5 53 RX5 yX5_adds wsX5_adds) := goodIn_app (goodIn_of _ (by decide +kernel)) ggX5_readsFuel_X5_adds
theorem dX5_readsFuel_0 : decode cX5_readsFuel 0 = .ok (.aload_n 0, 1) := by decide +kernel
theorem dX5_readsFuel_1 : decode cX5_readsFuel 1 = .ok (.dup, 1) := by decide +kernel
theorem dX5_readsFuel_2 : decode cX5_readsFuel 2 = .ok (.getfield 25, 3) := by decide +kernel
theorem dX5_readsFuel_5 : decode cX5_readsFuel 5 = .ok (.iconst 1, 1) := by decide +kernel
theorem dX5_readsFuel_6 : decode cX5_readsFuel 6 = .ok (.iadd, 1) := by decide +kernel
theorem dX5_readsFuel_7 : decode cX5_readsFuel 7 = .ok (.putfield 25, 3) := by decide +kernel
theorem dX5_readsFuel_10 : decode cX5_readsFuel 10 = .ok (.aload_n 0, 1) := by decide +kernel
theorem dX5_readsFuel_11 : decode cX5_readsFuel 11 = .ok (.aload_n 1, 1) := by decide +kernel
theorem dX5_readsFuel_12 : decode cX5_readsFuel 12 = .ok (.invokevirtual 57, 3) := by decide +kernel
theorem dX5_readsFuel_15 : decode cX5_readsFuel 15 = .ok (.istore_n 2, 1) := by decide +kernel
theorem dX5_readsFuel_16 : decode cX5_readsFuel 16 = .ok (.iload_n 2, 1) := by decide +kernel
theorem dX5_readsFuel_17 : decode cX5_readsFuel 17 = .ok (.invokestatic 61, 3) := by decide +kernel
theorem dX5_readsFuel_20 : decode cX5_readsFuel 20 = .ok (.ifCond .ne 5, 3) := by decide +kernel
theorem dX5_readsFuel_23 : decode cX5_readsFuel 23 = .ok (.iconst 0, 1) := by decide +kernel
theorem dX5_readsFuel_24 : decode cX5_readsFuel 24 = .ok (.ireturn, 1) := by decide +kernel
theorem dX5_readsFuel_25 : decode cX5_readsFuel 25 = .ok (.aload_n 0, 1) := by decide +kernel
theorem dX5_readsFuel_26 : decode cX5_readsFuel 26 = .ok (.dup, 1) := by decide +kernel
theorem dX5_readsFuel_27 : decode cX5_readsFuel 27 = .ok (.getfield 25, 3) := by decide +kernel
theorem dX5_readsFuel_30 : decode cX5_readsFuel 30 = .ok (.iconst 1, 1) := by decide +kernel
theorem dX5_readsFuel_31 : decode cX5_readsFuel 31 = .ok (.iadd, 1) := by decide +kernel
theorem dX5_readsFuel_32 : decode cX5_readsFuel 32 = .ok (.putfield 25, 3) := by decide +kernel
theorem dX5_readsFuel_35 : decode cX5_readsFuel 35 = .ok (.aload_n 0, 1) := by decide +kernel
theorem dX5_readsFuel_36 : decode cX5_readsFuel 36 = .ok (.aload_n 1, 1) := by decide +kernel
theorem dX5_readsFuel_37 : decode cX5_readsFuel 37 = .ok (.bipush 58, 2) := by decide +kernel
theorem dX5_readsFuel_39 : decode cX5_readsFuel 39 = .ok (.invokevirtual 38, 3) := by decide +kernel
theorem dX5_readsFuel_42 : decode cX5_readsFuel 42 = .ok (.ifCond .ne 5, 3) := by decide +kernel
theorem dX5_readsFuel_45 : decode cX5_readsFuel 45 = .ok (.iconst 0, 1) := by decide +kernel
theorem dX5_readsFuel_46 : decode cX5_readsFuel 46 = .ok (.ireturn, 1) := by decide +kernel
theorem dX5_readsFuel_47 : decode cX5_readsFuel 47 = .ok (.aload_n 0, 1) := by decide +kernel
theorem dX5_readsFuel_48 : decode cX5_readsFuel 48 = .ok (.aload_n 1, 1) := by decide +kernel
theorem dX5_readsFuel_49 : decode cX5_readsFuel 49 = .ok (.invokevirtual 65, 3) := by decide +kernel
theorem dX5_readsFuel_52 : decode cX5_readsFuel 52 = .ok (.istore_n 3, 1) := by decide +kernel
theorem dX5_readsFuel_53 : decode cX5_readsFuel 53 = .ok (.iload_n 3, 1) := by decide +kernel
theorem dX5_readsFuel_54 : decode cX5_readsFuel 54 = .ok (.iconst (-1), 1) := by decide +kernel
theorem dX5_readsFuel_55 : decode cX5_readsFuel 55 = .ok (.if_icmp .eq 18, 3) := by decide +kernel
theorem dX5_readsFuel_58 : decode cX5_readsFuel 58 = .ok (.aload_n 0, 1) := by decide +kernel
theorem dX5_readsFuel_59 : decode cX5_readsFuel 59 = .ok (.bipush 102, 2) := by decide +kernel
theorem dX5_readsFuel_61 : decode cX5_readsFuel 61 = .ok (.iload_n 2, 1) := by decide +kernel
theorem dX5_readsFuel_62 : decode cX5_readsFuel 62 = .ok (.iload_n 3, 1) := by decide +kernel
theorem dX5_readsFuel_63 : decode cX5_readsFuel 63 = .ok (.invokevirtual 53, 3) := by decide +kernel
theorem dX5_readsFuel_66 : decode cX5_readsFuel 66 = .ok (.ifCond .eq 7, 3) := by decide +kernel
theorem dX5_readsFuel_69 : decode cX5_readsFuel 69 = .ok (.iconst 1, 1) := by decide +kernel
theorem dX5_readsFuel_70 : decode cX5_readsFuel 70 = .ok (.goto 4, 3) := by decide +kernel
theorem dX5_readsFuel_73 : decode cX5_readsFuel 73 = .ok (.iconst 0, 1) := by decide +kernel
theorem dX5_readsFuel_74 : decode cX5_readsFuel 74 = .ok (.ireturn, 1) := by decide +kernel
set_option maxRecDepth 20000 in
theorem ggX5_readsSign_X8_signAt : GoodIn wsX5_readsSign wsX8_signAt := goodIn_r _ [6, 7, 8, 14, 15] (by decide +kernel) (by decide +kernel)
set_option maxRecDepth 20000 in
theorem gX5_readsSign_X8_signAt : GoodIn wsX5_readsSign (wsV RX5 42 RX8 yX8_signAt wsX8_signAt) := goodIn_app (goodIn_of _ (by decide +kernel)) ggX5_readsSign_X8_signAt
theorem dX5_readsSign_0 : decode cX5_readsSign 0 = .ok (.aload_n 1, 1) := by decide +kernel
theorem dX5_readsSign_1 : decode cX5_readsSign 1 = .ok (.aload_n 0, 1) := by decide +kernel
theorem dX5_readsSign_2 : decode cX5_readsSign 2 = .ok (.getfield 25, 3) := by decide +kernel
theorem dX5_readsSign_5 : decode cX5_readsSign 5 = .ok (.invokevirtual 42, 3) := by decide +kernel
theorem dX5_readsSign_8 : decode cX5_readsSign 8 = .ok (.iload_n 2, 1) := by decide +kernel
theorem dX5_readsSign_9 : decode cX5_readsSign 9 = .ok (.if_icmp .eq 5, 3) := by decide +kernel
theorem dX5_readsSign_12 : decode cX5_readsSign 12 = .ok (.iconst 0, 1) := by decide +kernel
theorem dX5_readsSign_13 : decode cX5_readsSign 13 = .ok (.ireturn, 1) := by decide +kernel
theorem dX5_readsSign_14 : decode cX5_readsSign 14 = .ok (.aload_n 0, 1) := by decide +kernel
theorem dX5_readsSign_15 : decode cX5_readsSign 15 = .ok (.dup, 1) := by decide +kernel
theorem dX5_readsSign_16 : decode cX5_readsSign 16 = .ok (.getfield 25, 3) := by decide +kernel
theorem dX5_readsSign_19 : decode cX5_readsSign 19 = .ok (.iconst 1, 1) := by decide +kernel
theorem dX5_readsSign_20 : decode cX5_readsSign 20 = .ok (.iadd, 1) := by decide +kernel
theorem dX5_readsSign_21 : decode cX5_readsSign 21 = .ok (.putfield 25, 3) := by decide +kernel
theorem dX5_readsSign_24 : decode cX5_readsSign 24 = .ok (.iconst 1, 1) := by decide +kernel
theorem dX5_readsSign_25 : decode cX5_readsSign 25 = .ok (.ireturn, 1) := by decide +kernel
set_option maxRecDepth 20000 in
theorem ggX5_readMinutes_X5_digitAt : GoodIn wsX5_readMinutes wsX5_digitAt := goodIn_r _ [6, 1, 7, 8, 9, 10, 11, 12, 13, 17, 18, 19, 20, 21, 22, 23] (by decide +kernel) (by decide +kernel)
set_option maxRecDepth 20000 in
theorem gX5_readMinutes_X5_digitAt : GoodIn wsX5_readMinutes (wsV RX5 57 RX5 yX5_digitAt wsX5_digitAt) := goodIn_app (goodIn_of _ (by decide +kernel)) ggX5_readMinutes_X5_digitAt
set_option maxRecDepth 20000 in
theorem ggX5_readMinutes_X9_isFuelOnSale : GoodIn wsX5_readMinutes wsX9_isFuelOnSale := goodIn_r _ [16] (by decide +kernel) (by decide +kernel)
set_option maxRecDepth 20000 in
theorem gX5_readMinutes_X9_isFuelOnSale_n68 : GoodIn wsX5_readMinutes (wsX9_isFuelOnSale) := ggX5_readMinutes_X9_isFuelOnSale
theorem dX5_readMinutes_0 : decode cX5_readMinutes 0 = .ok (.iconst 0, 1) := by decide +kernel
theorem dX5_readMinutes_1 : decode cX5_readMinutes 1 = .ok (.istore_n 2, 1) := by decide +kernel
theorem dX5_readMinutes_2 : decode cX5_readMinutes 2 = .ok (.iconst 0, 1) := by decide +kernel
theorem dX5_readMinutes_3 : decode cX5_readMinutes 3 = .ok (.istore_n 3, 1) := by decide +kernel
theorem dX5_readMinutes_4 : decode cX5_readMinutes 4 = .ok (.iload_n 3, 1) := by decide +kernel
theorem dX5_readMinutes_5 : decode cX5_readMinutes 5 = .ok (.bipush 80, 2) := by decide +kernel
theorem dX5_readMinutes_7 : decode cX5_readMinutes 7 = .ok (.if_icmp .ge 60, 3) := by decide +kernel
theorem dX5_readMinutes_10 : decode cX5_readMinutes 10 = .ok (.aload_n 0, 1) := by decide +kernel
theorem dX5_readMinutes_11 : decode cX5_readMinutes 11 = .ok (.aload_n 1, 1) := by decide +kernel
theorem dX5_readMinutes_12 : decode cX5_readMinutes 12 = .ok (.invokevirtual 57, 3) := by decide +kernel
theorem dX5_readMinutes_15 : decode cX5_readMinutes 15 = .ok (.istore 4, 2) := by decide +kernel
theorem dX5_readMinutes_17 : decode cX5_readMinutes 17 = .ok (.iload_n 2, 1) := by decide +kernel
theorem dX5_readMinutes_18 : decode cX5_readMinutes 18 = .ok (.bipush 10, 2) := by decide +kernel
theorem dX5_readMinutes_20 : decode cX5_readMinutes 20 = .ok (.imul, 1) := by decide +kernel
theorem dX5_readMinutes_21 : decode cX5_readMinutes 21 = .ok (.iload 4, 2) := by decide +kernel
theorem dX5_readMinutes_23 : decode cX5_readMinutes 23 = .ok (.iadd, 1) := by decide +kernel
theorem dX5_readMinutes_24 : decode cX5_readMinutes 24 = .ok (.istore 5, 2) := by decide +kernel
theorem dX5_readMinutes_26 : decode cX5_readMinutes 26 = .ok (.iload 4, 2) := by decide +kernel
theorem dX5_readMinutes_28 : decode cX5_readMinutes 28 = .ok (.iconst (-1), 1) := by decide +kernel
theorem dX5_readMinutes_29 : decode cX5_readMinutes 29 = .ok (.if_icmp .eq 38, 3) := by decide +kernel
theorem dX5_readMinutes_32 : decode cX5_readMinutes 32 = .ok (.iload 5, 2) := by decide +kernel
theorem dX5_readMinutes_34 : decode cX5_readMinutes 34 = .ok (.ifCond .eq 33, 3) := by decide +kernel
theorem dX5_readMinutes_37 : decode cX5_readMinutes 37 = .ok (.iload 5, 2) := by decide +kernel
theorem dX5_readMinutes_39 : decode cX5_readMinutes 39 = .ok (.sipush 500, 3) := by decide +kernel
theorem dX5_readMinutes_42 : decode cX5_readMinutes 42 = .ok (.if_icmp .le 6, 3) := by decide +kernel
theorem dX5_readMinutes_45 : decode cX5_readMinutes 45 = .ok (.goto 22, 3) := by decide +kernel
theorem dX5_readMinutes_48 : decode cX5_readMinutes 48 = .ok (.iload 5, 2) := by decide +kernel
theorem dX5_readMinutes_50 : decode cX5_readMinutes 50 = .ok (.istore_n 2, 1) := by decide +kernel
theorem dX5_readMinutes_51 : decode cX5_readMinutes 51 = .ok (.aload_n 0, 1) := by decide +kernel
theorem dX5_readMinutes_52 : decode cX5_readMinutes 52 = .ok (.dup, 1) := by decide +kernel
theorem dX5_readMinutes_53 : decode cX5_readMinutes 53 = .ok (.getfield 25, 3) := by decide +kernel
theorem dX5_readMinutes_56 : decode cX5_readMinutes 56 = .ok (.iconst 1, 1) := by decide +kernel
theorem dX5_readMinutes_57 : decode cX5_readMinutes 57 = .ok (.iadd, 1) := by decide +kernel
theorem dX5_readMinutes_58 : decode cX5_readMinutes 58 = .ok (.putfield 25, 3) := by decide +kernel
theorem dX5_readMinutes_61 : decode cX5_readMinutes 61 = .ok (.iinc 3 1, 3) := by decide +kernel
theorem dX5_readMinutes_64 : decode cX5_readMinutes 64 = .ok (.goto (-60), 3) := by decide +kernel
theorem dX5_readMinutes_67 : decode cX5_readMinutes 67 = .ok (.iload_n 2, 1) := by decide +kernel
theorem dX5_readMinutes_68 : decode cX5_readMinutes 68 = .ok (.invokestatic 68, 3) := by decide +kernel
theorem dX5_readMinutes_71 : decode cX5_readMinutes 71 = .ok (.ifCond .eq 7, 3) := by decide +kernel
theorem dX5_readMinutes_74 : decode cX5_readMinutes 74 = .ok (.iload_n 2, 1) := by decide +kernel
theorem dX5_readMinutes_75 : decode cX5_readMinutes 75 = .ok (.goto 4, 3) := by decide +kernel
theorem dX5_readMinutes_78 : decode cX5_readMinutes 78 = .ok (.iconst (-1), 1) := by decide +kernel
theorem dX5_readMinutes_79 : decode cX5_readMinutes 79 = .ok (.ireturn, 1) := by decide +kernel
set_option maxRecDepth 20000 in
theorem ggX5_digitAt_X8_signAt : GoodIn wsX5_digitAt wsX8_signAt := goodIn_r _ [6, 7, 8, 14, 15] (by decide +kernel) (by decide +kernel)
set_option maxRecDepth 20000 in
theorem gX5_digitAt_X8_signAt : GoodIn wsX5_digitAt (wsV RX5 42 RX8 yX8_signAt wsX8_signAt) := goodIn_app (goodIn_of _ (by decide +kernel)) ggX5_digitAt_X8_signAt
theorem dX5_digitAt_0 : decode cX5_digitAt 0 = .ok (.aload_n 1, 1) := by decide +kernel
theorem dX5_digitAt_1 : decode cX5_digitAt 1 = .ok (.aload_n 0, 1) := by decide +kernel
theorem dX5_digitAt_2 : decode cX5_digitAt 2 = .ok (.getfield 25, 3) := by decide +kernel
theorem dX5_digitAt_5 : decode cX5_digitAt 5 = .ok (.invokevirtual 42, 3) := by decide +kernel
theorem dX5_digitAt_8 : decode cX5_digitAt 8 = .ok (.istore_n 2, 1) := by decide +kernel
theorem dX5_digitAt_9 : decode cX5_digitAt 9 = .ok (.iload_n 2, 1) := by decide +kernel
theorem dX5_digitAt_10 : decode cX5_digitAt 10 = .ok (.bipush 48, 2) := by decide +kernel
theorem dX5_digitAt_12 : decode cX5_digitAt 12 = .ok (.if_icmp .lt 16, 3) := by decide +kernel
theorem dX5_digitAt_15 : decode cX5_digitAt 15 = .ok (.iload_n 2, 1) := by decide +kernel
theorem dX5_digitAt_16 : decode cX5_digitAt 16 = .ok (.bipush 57, 2) := by decide +kernel
theorem dX5_digitAt_18 : decode cX5_digitAt 18 = .ok (.if_icmp .gt 10, 3) := by decide +kernel
theorem dX5_digitAt_21 : decode cX5_digitAt 21 = .ok (.iload_n 2, 1) := by decide +kernel
theorem dX5_digitAt_22 : decode cX5_digitAt 22 = .ok (.bipush 48, 2) := by decide +kernel
theorem dX5_digitAt_24 : decode cX5_digitAt 24 = .ok (.isub, 1) := by decide +kernel
theorem dX5_digitAt_25 : decode cX5_digitAt 25 = .ok (.goto 4, 3) := by decide +kernel
theorem dX5_digitAt_28 : decode cX5_digitAt 28 = .ok (.iconst (-1), 1) := by decide +kernel
theorem dX5_digitAt_29 : decode cX5_digitAt 29 = .ok (.ireturn, 1) := by decide +kernel
theorem dX5_adds_0 : decode cX5_adds 0 = .ok (.aload_n 0, 1) := by decide +kernel
theorem dX5_adds_1 : decode cX5_adds 1 = .ok (.getfield 21, 3) := by decide +kernel
theorem dX5_adds_4 : decode cX5_adds 4 = .ok (.bipush 40, 2) := by decide +kernel
theorem dX5_adds_6 : decode cX5_adds 6 = .ok (.if_icmp .lt 5, 3) := by decide +kernel
theorem dX5_adds_9 : decode cX5_adds 9 = .ok (.iconst 0, 1) := by decide +kernel
theorem dX5_adds_10 : decode cX5_adds 10 = .ok (.ireturn, 1) := by decide +kernel
theorem dX5_adds_11 : decode cX5_adds 11 = .ok (.aload_n 0, 1) := by decide +kernel
theorem dX5_adds_12 : decode cX5_adds 12 = .ok (.getfield 9, 3) := by decide +kernel
theorem dX5_adds_15 : decode cX5_adds 15 = .ok (.aload_n 0, 1) := by decide +kernel
theorem dX5_adds_16 : decode cX5_adds 16 = .ok (.getfield 21, 3) := by decide +kernel
theorem dX5_adds_19 : decode cX5_adds 19 = .ok (.iload_n 1, 1) := by decide +kernel
theorem dX5_adds_20 : decode cX5_adds 20 = .ok (.iastore, 1) := by decide +kernel
theorem dX5_adds_21 : decode cX5_adds 21 = .ok (.aload_n 0, 1) := by decide +kernel
theorem dX5_adds_22 : decode cX5_adds 22 = .ok (.getfield 15, 3) := by decide +kernel
theorem dX5_adds_25 : decode cX5_adds 25 = .ok (.aload_n 0, 1) := by decide +kernel
theorem dX5_adds_26 : decode cX5_adds 26 = .ok (.getfield 21, 3) := by decide +kernel
theorem dX5_adds_29 : decode cX5_adds 29 = .ok (.iload_n 2, 1) := by decide +kernel
theorem dX5_adds_30 : decode cX5_adds 30 = .ok (.iastore, 1) := by decide +kernel
theorem dX5_adds_31 : decode cX5_adds 31 = .ok (.aload_n 0, 1) := by decide +kernel
theorem dX5_adds_32 : decode cX5_adds 32 = .ok (.getfield 18, 3) := by decide +kernel
theorem dX5_adds_35 : decode cX5_adds 35 = .ok (.aload_n 0, 1) := by decide +kernel
theorem dX5_adds_36 : decode cX5_adds 36 = .ok (.getfield 21, 3) := by decide +kernel
theorem dX5_adds_39 : decode cX5_adds 39 = .ok (.iload_n 3, 1) := by decide +kernel
theorem dX5_adds_40 : decode cX5_adds 40 = .ok (.iastore, 1) := by decide +kernel
theorem dX5_adds_41 : decode cX5_adds 41 = .ok (.aload_n 0, 1) := by decide +kernel
theorem dX5_adds_42 : decode cX5_adds 42 = .ok (.dup, 1) := by decide +kernel
theorem dX5_adds_43 : decode cX5_adds 43 = .ok (.getfield 21, 3) := by decide +kernel
theorem dX5_adds_46 : decode cX5_adds 46 = .ok (.iconst 1, 1) := by decide +kernel
theorem dX5_adds_47 : decode cX5_adds 47 = .ok (.iadd, 1) := by decide +kernel
theorem dX5_adds_48 : decode cX5_adds 48 = .ok (.putfield 21, 3) := by decide +kernel
theorem dX5_adds_51 : decode cX5_adds 51 = .ok (.iconst 1, 1) := by decide +kernel
theorem dX5_adds_52 : decode cX5_adds 52 = .ok (.ireturn, 1) := by decide +kernel
set_option maxRecDepth 20000 in
theorem ggX5_obeyedBy_X7_driveTo : GoodIn wsX5_obeyedBy wsX7_driveTo := goodIn_r _ [8, 9, 10, 11, 12, 13, 14, 15, 16, 17, 18, 19, 20, 21, 22, 23, 24, 25, 201, 202, 203, 204, 205, 206, 207, 208, 209, 210, 211, 212, 213, 214, 215] (by decide +kernel) (by decide +kernel)
set_option maxRecDepth 20000 in
theorem gX5_obeyedBy_X7_driveTo : GoodIn wsX5_obeyedBy (wsV RX5 71 RX7 yX7_driveTo wsX7_driveTo) := goodIn_app (goodIn_of _ (by decide +kernel)) ggX5_obeyedBy_X7_driveTo
set_option maxRecDepth 20000 in
theorem ggX5_obeyedBy_X7_carryReel : GoodIn wsX5_obeyedBy wsX7_carryReel := goodIn_r _ [29, 30, 9, 10, 31, 32, 33, 34, 35, 36, 37, 38, 39, 40, 41, 42, 43, 7, 44, 45, 11, 46, 47, 48, 49, 50, 51, 52, 53, 54, 55, 56, 57, 58, 59, 60, 61, 62, 63, 64, 65, 201, 202, 203, 204, 205, 206, 207, 208, 216, 217, 218, 219, 220, 221, 222] (by decide +kernel) (by decide +kernel)
set_option maxRecDepth 20000 in
theorem gX5_obeyedBy_X7_carryReel : GoodIn wsX5_obeyedBy (wsV RX5 76 RX7 yX7_carryReel wsX7_carryReel) := goodIn_app (goodIn_of _ (by decide +kernel)) ggX5_obeyedBy_X7_carryReel
set_option maxRecDepth 20000 in
theorem ggX5_obeyedBy_X7_carryGeneratorOver : GoodIn wsX5_obeyedBy wsX7_carryGeneratorOver := goodIn_r _ [69, 9, 51, 70, 18, 71, 72, 73, 74, 59, 75, 61, 76, 77, 78, 7, 79, 10, 41, 42, 43, 44, 45, 11, 46, 47, 48, 49, 50, 30, 52, 53, 54, 34, 55, 36, 56, 57, 58, 60, 80, 81, 82, 83, 201, 202, 203, 204, 205, 206, 207, 208, 221, 222, 216, 217, 218, 219, 220] (by decide +kernel) (by decide +kernel)
set_option maxRecDepth 20000 in
theorem gX5_obeyedBy_X7_carryGeneratorOver : GoodIn wsX5_obeyedBy (wsV RX5 80 RX7 yX7_carryGeneratorOver wsX7_carryGeneratorOver) := goodIn_app (goodIn_of _ (by decide +kernel)) ggX5_obeyedBy_X7_carryGeneratorOver
set_option maxRecDepth 20000 in
theorem ggX5_obeyedBy_X7_buyFuel : GoodIn wsX5_obeyedBy wsX7_buyFuel := goodIn_r _ [87, 9, 88, 51, 45, 46, 16, 70, 18, 71, 89, 90, 72, 73, 74, 59, 75, 61, 91, 92, 93, 94, 95, 96, 97, 98, 99, 100, 101, 102, 23, 103, 104, 201, 202, 203, 204, 205, 206, 207, 208, 221, 222, 209, 210, 211, 212, 213, 214, 215] (by decide +kernel) (by decide +kernel)
set_option maxRecDepth 20000 in
theorem gX5_obeyedBy_X7_buyFuel : GoodIn wsX5_obeyedBy (wsV RX5 83 RX7 yX7_buyFuel wsX7_buyFuel) := goodIn_app (goodIn_of _ (by decide +kernel)) ggX5_obeyedBy_X7_buyFuel
set_option maxRecDepth 20000 in
theorem ggX5_obeyedBy_X7_whereVanIs : GoodIn wsX5_obeyedBy wsX7_whereVanIs := goodIn_r _ [108, 10, 201, 202, 203, 204, 205, 206, 207, 208] (by decide +kernel) (by decide +kernel)
set_option maxRecDepth 20000 in
theorem gX5_obeyedBy_X7_whereVanIs : GoodIn wsX5_obeyedBy (wsV RX5 87 RX7 yX7_whereVanIs wsX7_whereVanIs) := goodIn_app (goodIn_of _ (by decide +kernel)) ggX5_obeyedBy_X7_whereVanIs
set_option maxRecDepth 20000 in
theorem ggX5_obeyedBy_X7_showIn : GoodIn wsX5_obeyedBy wsX7_showIn := goodIn_r _ [112, 9, 113, 114, 30, 51, 115, 116, 117, 16, 17, 18, 19, 118, 119, 120, 7, 121, 122, 123, 124, 125, 126, 127, 128, 52, 53, 54, 34, 55, 36, 56, 57, 58, 59, 60, 61, 129, 130, 131, 132, 133, 134, 135, 136, 137, 95, 138, 139, 140, 141, 142, 143, 14, 144, 145, 146, 147, 148, 149, 150, 151, 152, 153, 154, 155, 156, 157, 158, 159, 70, 71, 160, 161, 162, 163, 164, 165, 166, 167, 168, 169, 170, 171, 172, 173, 174, 175, 176, 177, 178, 179, 180, 181, 182, 183, 184, 185, 186, 23, 187, 188, 189, 190, 191, 201, 202, 203, 204, 205, 206, 207, 208, 223, 224, 225, 216, 217, 218, 219, 220, 221, 222, 226, 227, 209, 210, 211, 212, 213, 214, 215] (by decide +kernel) (by decide +kernel)
set_option maxRecDepth 20000 in
theorem gX5_obeyedBy_X7_showIn : GoodIn wsX5_obeyedBy (wsV RX5 90 RX7 yX7_showIn wsX7_showIn) := goodIn_app (goodIn_of _ (by decide +kernel)) ggX5_obeyedBy_X7_showIn
set_option maxRecDepth 20000 in
theorem ggX5_obeyedBy_X7_beginNextDay : GoodIn wsX5_obeyedBy wsX7_beginNextDay := goodIn_r _ [195, 116, 46, 201, 202, 203, 204, 205, 206, 207, 208] (by decide +kernel) (by decide +kernel)
set_option maxRecDepth 20000 in
theorem gX5_obeyedBy_X7_beginNextDay : GoodIn wsX5_obeyedBy (wsV RX5 93 RX7 yX7_beginNextDay wsX7_beginNextDay) := goodIn_app (goodIn_of _ (by decide +kernel)) ggX5_obeyedBy_X7_beginNextDay
theorem dX5_obeyedBy_0 : decode cX5_obeyedBy 0 = .ok (.aload_n 0, 1) := by decide +kernel
theorem dX5_obeyedBy_1 : decode cX5_obeyedBy 1 = .ok (.getfield 15, 3) := by decide +kernel
theorem dX5_obeyedBy_4 : decode cX5_obeyedBy 4 = .ok (.iload_n 2, 1) := by decide +kernel
theorem dX5_obeyedBy_5 : decode cX5_obeyedBy 5 = .ok (.iaload, 1) := by decide +kernel
theorem dX5_obeyedBy_6 : decode cX5_obeyedBy 6 = .ok (.istore_n 3, 1) := by decide +kernel
theorem dX5_obeyedBy_7 : decode cX5_obeyedBy 7 = .ok (.aload_n 0, 1) := by decide +kernel
theorem dX5_obeyedBy_8 : decode cX5_obeyedBy 8 = .ok (.getfield 9, 3) := by decide +kernel
theorem dX5_obeyedBy_11 : decode cX5_obeyedBy 11 = .ok (.iload_n 2, 1) := by decide +kernel
theorem dX5_obeyedBy_12 : decode cX5_obeyedBy 12 = .ok (.iaload, 1) := by decide +kernel
theorem dX5_obeyedBy_13 : decode cX5_obeyedBy 13 = .ok (.lookupswitch 106 #[(43, 65), (45, 72), (102, 85), (103, 79), (115, 97), (118, 59)], 59) := by decide +kernel
theorem dX5_obeyedBy_72 : decode cX5_obeyedBy 72 = .ok (.aload_n 1, 1) := by decide +kernel
theorem dX5_obeyedBy_73 : decode cX5_obeyedBy 73 = .ok (.iload_n 3, 1) := by decide +kernel
theorem dX5_obeyedBy_74 : decode cX5_obeyedBy 74 = .ok (.invokevirtual 71, 3) := by decide +kernel
theorem dX5_obeyedBy_77 : decode cX5_obeyedBy 77 = .ok (.ireturn, 1) := by decide +kernel
theorem dX5_obeyedBy_78 : decode cX5_obeyedBy 78 = .ok (.aload_n 1, 1) := by decide +kernel
theorem dX5_obeyedBy_79 : decode cX5_obeyedBy 79 = .ok (.iload_n 3, 1) := by decide +kernel
theorem dX5_obeyedBy_80 : decode cX5_obeyedBy 80 = .ok (.iconst 1, 1) := by decide +kernel
theorem dX5_obeyedBy_81 : decode cX5_obeyedBy 81 = .ok (.invokevirtual 76, 3) := by decide +kernel
theorem dX5_obeyedBy_84 : decode cX5_obeyedBy 84 = .ok (.ireturn, 1) := by decide +kernel
theorem dX5_obeyedBy_85 : decode cX5_obeyedBy 85 = .ok (.aload_n 1, 1) := by decide +kernel
theorem dX5_obeyedBy_86 : decode cX5_obeyedBy 86 = .ok (.iload_n 3, 1) := by decide +kernel
theorem dX5_obeyedBy_87 : decode cX5_obeyedBy 87 = .ok (.iconst 0, 1) := by decide +kernel
theorem dX5_obeyedBy_88 : decode cX5_obeyedBy 88 = .ok (.invokevirtual 76, 3) := by decide +kernel
theorem dX5_obeyedBy_91 : decode cX5_obeyedBy 91 = .ok (.ireturn, 1) := by decide +kernel
theorem dX5_obeyedBy_92 : decode cX5_obeyedBy 92 = .ok (.aload_n 1, 1) := by decide +kernel
theorem dX5_obeyedBy_93 : decode cX5_obeyedBy 93 = .ok (.iload_n 3, 1) := by decide +kernel
theorem dX5_obeyedBy_94 : decode cX5_obeyedBy 94 = .ok (.invokevirtual 80, 3) := by decide +kernel
theorem dX5_obeyedBy_97 : decode cX5_obeyedBy 97 = .ok (.ireturn, 1) := by decide +kernel
theorem dX5_obeyedBy_98 : decode cX5_obeyedBy 98 = .ok (.aload_n 1, 1) := by decide +kernel
theorem dX5_obeyedBy_99 : decode cX5_obeyedBy 99 = .ok (.iload_n 3, 1) := by decide +kernel
theorem dX5_obeyedBy_100 : decode cX5_obeyedBy 100 = .ok (.aload_n 0, 1) := by decide +kernel
theorem dX5_obeyedBy_101 : decode cX5_obeyedBy 101 = .ok (.getfield 18, 3) := by decide +kernel
theorem dX5_obeyedBy_104 : decode cX5_obeyedBy 104 = .ok (.iload_n 2, 1) := by decide +kernel
theorem dX5_obeyedBy_105 : decode cX5_obeyedBy 105 = .ok (.iaload, 1) := by decide +kernel
theorem dX5_obeyedBy_106 : decode cX5_obeyedBy 106 = .ok (.invokevirtual 83, 3) := by decide +kernel
theorem dX5_obeyedBy_109 : decode cX5_obeyedBy 109 = .ok (.ireturn, 1) := by decide +kernel
theorem dX5_obeyedBy_110 : decode cX5_obeyedBy 110 = .ok (.aload_n 1, 1) := by decide +kernel
theorem dX5_obeyedBy_111 : decode cX5_obeyedBy 111 = .ok (.aload_n 1, 1) := by decide +kernel
theorem dX5_obeyedBy_112 : decode cX5_obeyedBy 112 = .ok (.invokevirtual 87, 3) := by decide +kernel
theorem dX5_obeyedBy_115 : decode cX5_obeyedBy 115 = .ok (.invokevirtual 90, 3) := by decide +kernel
theorem dX5_obeyedBy_118 : decode cX5_obeyedBy 118 = .ok (.ireturn, 1) := by decide +kernel
theorem dX5_obeyedBy_119 : decode cX5_obeyedBy 119 = .ok (.aload_n 1, 1) := by decide +kernel
theorem dX5_obeyedBy_120 : decode cX5_obeyedBy 120 = .ok (.invokevirtual 93, 3) := by decide +kernel
theorem dX5_obeyedBy_123 : decode cX5_obeyedBy 123 = .ok (.ireturn, 1) := by decide +kernel
