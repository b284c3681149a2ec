set_option maxRecDepth 20000 in
theorem ggX3_init_X7_init : GoodIn wsX3_init wsX7_init := goodIn_r _ [11, 12, 2, 3, 13, 14, 15, 16, 17, 18, 19, 20, 21, 22, 23, 24, 25, 26, 27, 28, 29, 30, 31, 32, 33, 34, 35, 36, 37, 38, 39, 40, 41, 42, 43, 44, 45, 46, 47, 48, 49, 50, 51, 52, 53, 54, 55, 56, 57, 58, 59, 60, 61, 62, 63, 64, 65, 66, 67, 68, 69, 70, 71, 72, 84, 85, 86, 87, 88, 76, 77, 78, 79, 80, 81, 82, 83, 89, 90, 91, 92, 93, 94, 95, 96, 97, 98, 99, 100, 101, 102] (by decide +kernel) (by decide +kernel)
set_option maxRecDepth 20000 in
theorem gX3_init_X7_init_n24 : GoodIn wsX3_init (wsX7_init) := ggX3_init_X7_init
theorem dX3_init_0 : decode cX3_init 0 = .ok (.aload_n 0, 1) := by decide +kernel
theorem dX3_init_1 : decode cX3_init 1 = .ok (.invokespecial 3, 3) := by decide +kernel
theorem dX3_init_4 : decode cX3_init 4 = .ok (.aload_n 0, 1) := by decide +kernel
theorem dX3_init_5 : decode cX3_init 5 = .ok (.iconst 4, 1) := by decide +kernel
theorem dX3_init_6 : decode cX3_init 6 = .ok (.anewarray 9, 3) := by decide +kernel
theorem dX3_init_9 : decode cX3_init 9 = .ok (.putfield 11, 3) := by decide +kernel
theorem dX3_init_12 : decode cX3_init 12 = .ok (.aload_n 0, 1) := by decide +kernel
theorem dX3_init_13 : decode cX3_init 13 = .ok (.iconst 0, 1) := by decide +kernel
theorem dX3_init_14 : decode cX3_init 14 = .ok (.putfield 17, 3) := by decide +kernel
theorem dX3_init_17 : decode cX3_init 17 = .ok (.aload_n 0, 1) := by decide +kernel
theorem dX3_init_18 : decode cX3_init 18 = .ok (.iconst 0, 1) := by decide +kernel
theorem dX3_init_19 : decode cX3_init 19 = .ok (.putfield 21, 3) := by decide +kernel
theorem dX3_init_22 : decode cX3_init 22 = .ok (.iconst 0, 1) := by decide +kernel
theorem dX3_init_23 : decode cX3_init 23 = .ok (.istore_n 1, 1) := by decide +kernel
theorem dX3_init_24 : decode cX3_init 24 = .ok (.iload_n 1, 1) := by decide +kernel
theorem dX3_init_25 : decode cX3_init 25 = .ok (.iconst 4, 1) := by decide +kernel
theorem dX3_init_26 : decode cX3_init 26 = .ok (.if_icmp .ge 22, 3) := by decide +kernel
theorem dX3_init_29 : decode cX3_init 29 = .ok (.aload_n 0, 1) := by decide +kernel
theorem dX3_init_30 : decode cX3_init 30 = .ok (.getfield 11, 3) := by decide +kernel
theorem dX3_init_33 : decode cX3_init 33 = .ok (.iload_n 1, 1) := by decide +kernel
theorem dX3_init_34 : decode cX3_init 34 = .ok (.new 9, 3) := by decide +kernel
theorem dX3_init_37 : decode cX3_init 37 = .ok (.dup, 1) := by decide +kernel
theorem dX3_init_38 : decode cX3_init 38 = .ok (.invokespecial 24, 3) := by decide +kernel
theorem dX3_init_41 : decode cX3_init 41 = .ok (.aastore, 1) := by decide +kernel
theorem dX3_init_42 : decode cX3_init 42 = .ok (.iinc 1 1, 3) := by decide +kernel
theorem dX3_init_45 : decode cX3_init 45 = .ok (.goto (-21), 3) := by decide +kernel
theorem dX3_init_48 : decode cX3_init 48 = .ok (.return_, 1) := by decide +kernel
theorem dX3_size_0 : decode cX3_size 0 = .ok (.aload_n 0, 1) := by decide +kernel
theorem dX3_size_1 : decode cX3_size 1 = .ok (.getfield 21, 3) := by decide +kernel
theorem dX3_size_4 : decode cX3_size 4 = .ok (.ireturn, 1) := by decide +kernel
set_option maxRecDepth 20000 in
theorem ggX3_add_X7_copyFrom : GoodIn wsX3_add wsX7_copyFrom := goodIn_r _ [12, 13, 14, 15, 16, 17, 18, 19, 20, 21, 22, 23, 24, 25, 26, 27, 28, 29, 30, 31, 32, 33, 34, 35, 36, 37, 38, 39, 40, 41, 42, 43, 44, 45, 46, 47, 48, 49, 50, 51, 52, 53, 54, 55, 56, 57, 58, 59, 60, 61, 62, 63, 64, 65, 66, 67, 68, 69, 70, 71, 75, 76, 77, 78, 79, 80, 81, 82, 83, 84, 85, 86, 87, 88, 89, 90, 91, 92, 93, 94, 95, 96, 97, 98, 99, 100, 101] (by decide +kernel) (by decide +kernel)
set_option maxRecDepth 20000 in
theorem gX3_add_X7_copyFrom : GoodIn wsX3_add (wsV RX3 25 RX7 yX7_copyFrom wsX7_copyFrom) := goodIn_app (goodIn_of _ (by decide +kernel)) ggX3_add_X7_copyFrom
theorem dX3_add_0 : decode cX3_add 0 = .ok (.aload_n 0, 1) := by decide +kernel
theorem dX3_add_1 : decode cX3_add 1 = .ok (.getfield 11, 3) := by decide +kernel
theorem dX3_add_4 : decode cX3_add 4 = .ok (.aload_n 0, 1) := by decide +kernel
theorem dX3_add_5 : decode cX3_add 5 = .ok (.getfield 17, 3) := by decide +kernel
theorem dX3_add_8 : decode cX3_add 8 = .ok (.aaload, 1) := by decide +kernel
theorem dX3_add_9 : decode cX3_add 9 = .ok (.aload_n 1, 1) := by decide +kernel
theorem dX3_add_10 : decode cX3_add 10 = .ok (.invokevirtual 25, 3) := by decide +kernel
theorem dX3_add_13 : decode cX3_add 13 = .ok (.aload_n 0, 1) := by decide +kernel
theorem dX3_add_14 : decode cX3_add 14 = .ok (.aload_n 0, 1) := by decide +kernel
theorem dX3_add_15 : decode cX3_add 15 = .ok (.getfield 17, 3) := by decide +kernel
theorem dX3_add_18 : decode cX3_add 18 = .ok (.iconst 1, 1) := by decide +kernel
theorem dX3_add_19 : decode cX3_add 19 = .ok (.iadd, 1) := by decide +kernel
theorem dX3_add_20 : decode cX3_add 20 = .ok (.iconst 4, 1) := by decide +kernel
theorem dX3_add_21 : decode cX3_add 21 = .ok (.irem, 1) := by decide +kernel
theorem dX3_add_22 : decode cX3_add 22 = .ok (.putfield 17, 3) := by decide +kernel
theorem dX3_add_25 : decode cX3_add 25 = .ok (.aload_n 0, 1) := by decide +kernel
theorem dX3_add_26 : decode cX3_add 26 = .ok (.aload_n 0, 1) := by decide +kernel
theorem dX3_add_27 : decode cX3_add 27 = .ok (.getfield 21, 3) := by decide +kernel
theorem dX3_add_30 : decode cX3_add 30 = .ok (.iconst 1, 1) := by decide +kernel
theorem dX3_add_31 : decode cX3_add 31 = .ok (.iadd, 1) := by decide +kernel
theorem dX3_add_32 : decode cX3_add 32 = .ok (.iconst 4, 1) := by decide +kernel
theorem dX3_add_33 : decode cX3_add 33 = .ok (.invokestatic 29, 3) := by decide +kernel
theorem dX3_add_36 : decode cX3_add 36 = .ok (.putfield 21, 3) := by decide +kernel
theorem dX3_add_39 : decode cX3_add 39 = .ok (.return_, 1) := by decide +kernel
set_option maxRecDepth 20000 in
theorem ggX3_takeLatestInto_X7_copyFrom : GoodIn wsX3_takeLatestInto wsX7_copyFrom := goodIn_r _ [8, 9, 10, 11, 12, 13, 14, 15, 16, 17, 18, 19, 20, 21, 22, 23, 24, 25, 26, 27, 28, 29, 30, 31, 32, 33, 34, 35, 36, 37, 38, 39, 40, 41, 42, 43, 44, 45, 46, 47, 48, 49, 50, 51, 52, 53, 54, 55, 56, 57, 58, 59, 60, 61, 62, 63, 64, 65, 66, 67, 71, 72, 73, 74, 75, 76, 77, 78, 79, 80, 81, 82, 83, 84, 85, 86, 87, 88, 89, 90, 91, 92, 93, 94, 95, 96, 97] (by decide +kernel) (by decide +kernel)
set_option maxRecDepth 20000 in
theorem gX3_takeLatestInto_X7_copyFrom : GoodIn wsX3_takeLatestInto (wsV RX3 25 RX7 yX7_copyFrom wsX7_copyFrom) := goodIn_app (goodIn_of _ (by decide +kernel)) ggX3_takeLatestInto_X7_copyFrom
theorem dX3_takeLatestInto_0 : decode cX3_takeLatestInto 0 = .ok (.aload_n 0, 1) := by decide +kernel
theorem dX3_takeLatestInto_1 : decode cX3_takeLatestInto 1 = .ok (.getfield 21, 3) := by decide +kernel
theorem dX3_takeLatestInto_4 : decode cX3_takeLatestInto 4 = .ok (.ifCond .ne 5, 3) := by decide +kernel
theorem dX3_takeLatestInto_7 : decode cX3_takeLatestInto 7 = .ok (.iconst 0, 1) := by decide +kernel
theorem dX3_takeLatestInto_8 : decode cX3_takeLatestInto 8 = .ok (.ireturn, 1) := by decide +kernel
theorem dX3_takeLatestInto_9 : decode cX3_takeLatestInto 9 = .ok (.aload_n 0, 1) := by decide +kernel
theorem dX3_takeLatestInto_10 : decode cX3_takeLatestInto 10 = .ok (.aload_n 0, 1) := by decide +kernel
theorem dX3_takeLatestInto_11 : decode cX3_takeLatestInto 11 = .ok (.getfield 17, 3) := by decide +kernel
theorem dX3_takeLatestInto_14 : decode cX3_takeLatestInto 14 = .ok (.iconst 4, 1) := by decide +kernel
theorem dX3_takeLatestInto_15 : decode cX3_takeLatestInto 15 = .ok (.iadd, 1) := by decide +kernel
theorem dX3_takeLatestInto_16 : decode cX3_takeLatestInto 16 = .ok (.iconst 1, 1) := by decide +kernel
theorem dX3_takeLatestInto_17 : decode cX3_takeLatestInto 17 = .ok (.isub, 1) := by decide +kernel
theorem dX3_takeLatestInto_18 : decode cX3_takeLatestInto 18 = .ok (.iconst 4, 1) := by decide +kernel
theorem dX3_takeLatestInto_19 : decode cX3_takeLatestInto 19 = .ok (.irem, 1) := by decide +kernel
theorem dX3_takeLatestInto_20 : decode cX3_takeLatestInto 20 = .ok (.putfield 17, 3) := by decide +kernel
theorem dX3_takeLatestInto_23 : decode cX3_takeLatestInto 23 = .ok (.aload_n 0, 1) := by decide +kernel
theorem dX3_takeLatestInto_24 : decode cX3_takeLatestInto 24 = .ok (.dup, 1) := by decide +kernel
theorem dX3_takeLatestInto_25 : decode cX3_takeLatestInto 25 = .ok (.getfield 21, 3) := by decide +kernel
theorem dX3_takeLatestInto_28 : decode cX3_takeLatestInto 28 = .ok (.iconst 1, 1) := by decide +kernel
theorem dX3_takeLatestInto_29 : decode cX3_takeLatestInto 29 = .ok (.isub, 1) := by decide +kernel
theorem dX3_takeLatestInto_30 : decode cX3_takeLatestInto 30 = .ok (.putfield 21, 3) := by decide +kernel
theorem dX3_takeLatestInto_33 : decode cX3_takeLatestInto 33 = .ok (.aload_n 1, 1) := by decide +kernel
theorem dX3_takeLatestInto_34 : decode cX3_takeLatestInto 34 = .ok (.aload_n 0, 1) := by decide +kernel
theorem dX3_takeLatestInto_35 : decode cX3_takeLatestInto 35 = .ok (.getfield 11, 3) := by decide +kernel
theorem dX3_takeLatestInto_38 : decode cX3_takeLatestInto 38 = .ok (.aload_n 0, 1) := by decide +kernel
theorem dX3_takeLatestInto_39 : decode cX3_takeLatestInto 39 = .ok (.getfield 17, 3) := by decide +kernel
theorem dX3_takeLatestInto_42 : decode cX3_takeLatestInto 42 = .ok (.aaload, 1) := by decide +kernel
theorem dX3_takeLatestInto_43 : decode cX3_takeLatestInto 43 = .ok (.invokevirtual 25, 3) := by decide +kernel
theorem dX3_takeLatestInto_46 : decode cX3_takeLatestInto 46 = .ok (.iconst 1, 1) := by decide +kernel
theorem dX3_takeLatestInto_47 : decode cX3_takeLatestInto 47 = .ok (.ireturn, 1) := by decide +kernel
theorem dX5_init_0 : decode cX5_init 0 = .ok (.aload_n 0, 1) := by decide +kernel
theorem dX5_init_1 : decode cX5_init 1 = .ok (.invokespecial 3, 3) := by decide +kernel
theorem dX5_init_4 : decode cX5_init 4 = .ok (.aload_n 0, 1) := by decide +kernel
theorem dX5_init_5 : decode cX5_init 5 = .ok (.bipush 40, 2) := by decide +kernel
theorem dX5_init_7 : decode cX5_init 7 = .ok (.newarray .int, 2) := by decide +kernel
theorem dX5_init_9 : decode cX5_init 9 = .ok (.putfield 9, 3) := by decide +kernel
theorem dX5_init_12 : decode cX5_init 12 = .ok (.aload_n 0, 1) := by decide +kernel
theorem dX5_init_13 : decode cX5_init 13 = .ok (.bipush 40, 2) := by decide +kernel
theorem dX5_init_15 : decode cX5_init 15 = .ok (.newarray .int, 2) := by decide +kernel
theorem dX5_init_17 : decode cX5_init 17 = .ok (.putfield 15, 3) := by decide +kernel
theorem dX5_init_20 : decode cX5_init 20 = .ok (.aload_n 0, 1) := by decide +kernel
theorem dX5_init_21 : decode cX5_init 21 = .ok (.bipush 40, 2) := by decide +kernel
theorem dX5_init_23 : decode cX5_init 23 = .ok (.newarray .int, 2) := by decide +kernel
theorem dX5_init_25 : decode cX5_init 25 = .ok (.putfield 18, 3) := by decide +kernel
theorem dX5_init_28 : decode cX5_init 28 = .ok (.aload_n 0, 1) := by decide +kernel
theorem dX5_init_29 : decode cX5_init 29 = .ok (.iconst 0, 1) := by decide +kernel
theorem dX5_init_30 : decode cX5_init 30 = .ok (.putfield 21, 3) := by decide +kernel
theorem dX5_init_33 : decode cX5_init 33 = .ok (.aload_n 0, 1) := by decide +kernel
theorem dX5_init_34 : decode cX5_init 34 = .ok (.iconst 0, 1) := by decide +kernel
theorem dX5_init_35 : decode cX5_init 35 = .ok (.putfield 25, 3) := by decide +kernel
theorem dX5_init_38 : decode cX5_init 38 = .ok (.return_, 1) := by decide +kernel
set_option maxRecDepth 20000 in
theorem ggX9_init_X7_init : GoodIn wsX9_init wsX7_init := goodIn_r _ [27, 28, 2, 3, 29, 30, 31, 32, 33, 34, 35, 36, 37, 38, 39, 40, 41, 42, 43, 44, 45, 46, 47, 48, 49, 50, 51, 52, 53, 54, 55, 56, 57, 58, 59, 60, 61, 62, 63, 64, 65, 66, 67, 68, 69, 70, 71, 72, 73, 74, 75, 76, 77, 78, 79, 80, 81, 82, 83, 84, 85, 86, 87, 88, 139, 140, 141, 142, 143, 111, 112, 113, 114, 115, 116, 117, 118, 144, 145, 146, 147, 148, 149, 150, 151, 152, 153, 154, 155, 156, 157] (by decide +kernel) (by decide +kernel)
set_option maxRecDepth 20000 in
theorem gX9_init_X7_init_n9 : GoodIn wsX9_init (wsX7_init) := ggX9_init_X7_init
set_option maxRecDepth 20000 in
theorem ggX9_init_X3_init : GoodIn wsX9_init wsX3_init := goodIn_r _ [91, 92, 2, 3, 93, 94, 95, 96, 5, 6, 26, 27, 28, 29, 30, 31, 32, 33, 34, 35, 36, 37, 38, 39, 40, 41, 42, 43, 44, 45, 46, 47, 48, 49, 50, 51, 52, 53, 54, 55, 56, 57, 58, 59, 60, 61, 62, 63, 64, 65, 66, 67, 68, 69, 70, 71, 72, 73, 74, 75, 76, 77, 78, 79, 80, 81, 82, 83, 84, 85, 86, 87, 88, 129, 130, 131, 111, 112, 113, 114, 115, 116, 117, 118, 139, 140, 141, 142, 143, 144, 145, 146, 147, 148, 149, 150, 151, 152, 153, 154, 155, 156, 157] (by decide +kernel) (by decide +kernel)
set_option maxRecDepth 20000 in
theorem gX9_init_X3_init : GoodIn wsX9_init (wsX3_init) := ggX9_init_X3_init
set_option maxRecDepth 20000 in
theorem ggX9_init_X8_init : GoodIn wsX9_init wsX8_init := goodIn_r _ [98, 99, 2, 3, 100, 101, 102, 132, 133] (by decide +kernel) (by decide +kernel)
set_option maxRecDepth 20000 in
theorem gX9_init_X8_init_n31 : GoodIn wsX9_init (wsX8_init) := ggX9_init_X8_init
set_option maxRecDepth 20000 in
theorem ggX9_init_X5_init : GoodIn wsX9_init wsX5_init := goodIn_r _ [104, 105, 2, 3, 56, 106, 107, 108, 109, 110, 134, 135, 136, 137, 138] (by decide +kernel) (by decide +kernel)
set_option maxRecDepth 20000 in
theorem gX9_init_X5_init_n38 : GoodIn wsX9_init (wsX5_init) := ggX9_init_X5_init
theorem dX9_init_0 : decode cX9_init 0 = .ok (.aload_n 0, 1) := by decide +kernel
theorem dX9_init_1 : decode cX9_init 1 = .ok (.invokespecial 1, 3) := by decide +kernel
theorem dX9_init_4 : decode cX9_init 4 = .ok (.aload_n 0, 1) := by decide +kernel
theorem dX9_init_5 : decode cX9_init 5 = .ok (.new 7, 3) := by decide +kernel
theorem dX9_init_8 : decode cX9_init 8 = .ok (.dup, 1) := by decide +kernel
theorem dX9_init_9 : decode cX9_init 9 = .ok (.invokespecial 9, 3) := by decide +kernel
theorem dX9_init_12 : decode cX9_init 12 = .ok (.putfield 10, 3) := by decide +kernel
theorem dX9_init_15 : decode cX9_init 15 = .ok (.aload_n 0, 1) := by decide +kernel
theorem dX9_init_16 : decode cX9_init 16 = .ok (.new 7, 3) := by decide +kernel
theorem dX9_init_19 : decode cX9_init 19 = .ok (.dup, 1) := by decide +kernel
theorem dX9_init_20 : decode cX9_init 20 = .ok (.invokespecial 9, 3) := by decide +kernel
theorem dX9_init_23 : decode cX9_init 23 = .ok (.putfield 16, 3) := by decide +kernel
theorem dX9_init_26 : decode cX9_init 26 = .ok (.aload_n 0, 1) := by decide +kernel
theorem dX9_init_27 : decode cX9_init 27 = .ok (.new 7, 3) := by decide +kernel
theorem dX9_init_30 : decode cX9_init 30 = .ok (.dup, 1) := by decide +kernel
theorem dX9_init_31 : decode cX9_init 31 = .ok (.invokespecial 9, 3) := by decide +kernel
theorem dX9_init_34 : decode cX9_init 34 = .ok (.putfield 19, 3) := by decide +kernel
theorem dX9_init_37 : decode cX9_init 37 = .ok (.aload_n 0, 1) := by decide +kernel
theorem dX9_init_38 : decode cX9_init 38 = .ok (.new 22, 3) := by decide +kernel
theorem dX9_init_41 : decode cX9_init 41 = .ok (.dup, 1) := by decide +kernel
theorem dX9_init_42 : decode cX9_init 42 = .ok (.invokespecial 24, 3) := by decide +kernel
theorem dX9_init_45 : decode cX9_init 45 = .ok (.putfield 25, 3) := by decide +kernel
theorem dX9_init_48 : decode cX9_init 48 = .ok (.aload_n 0, 1) := by decide +kernel
theorem dX9_init_49 : decode cX9_init 49 = .ok (.new 29, 3) := by decide +kernel
theorem dX9_init_52 : decode cX9_init 52 = .ok (.dup, 1) := by decide +kernel
theorem dX9_init_53 : decode cX9_init 53 = .ok (.invokespecial 31, 3) := by decide +kernel
theorem dX9_init_56 : decode cX9_init 56 = .ok (.putfield 32, 3) := by decide +kernel
theorem dX9_init_59 : decode cX9_init 59 = .ok (.aload_n 0, 1) := by decide +kernel
theorem dX9_init_60 : decode cX9_init 60 = .ok (.new 36, 3) := by decide +kernel
theorem dX9_init_63 : decode cX9_init 63 = .ok (.dup, 1) := by decide +kernel
theorem dX9_init_64 : decode cX9_init 64 = .ok (.invokespecial 38, 3) := by decide +kernel
theorem dX9_init_67 : decode cX9_init 67 = .ok (.putfield 39, 3) := by decide +kernel
theorem dX9_init_70 : decode cX9_init 70 = .ok (.aload_n 0, 1) := by decide +kernel
theorem dX9_init_71 : decode cX9_init 71 = .ok (.iconst 0, 1) := by decide +kernel
theorem dX9_init_72 : decode cX9_init 72 = .ok (.putfield 43, 3) := by decide +kernel
theorem dX9_init_75 : decode cX9_init 75 = .ok (.aload_n 0, 1) := by decide +kernel
theorem dX9_init_76 : decode cX9_init 76 = .ok (.iconst 0, 1) := by decide +kernel
theorem dX9_init_77 : decode cX9_init 77 = .ok (.putfield 47, 3) := by decide +kernel
theorem dX9_init_80 : decode cX9_init 80 = .ok (.aload_n 0, 1) := by decide +kernel
theorem dX9_init_81 : decode cX9_init 81 = .ok (.iconst 0, 1) := by decide +kernel
theorem dX9_init_82 : decode cX9_init 82 = .ok (.putfield 50, 3) := by decide +kernel
theorem dX9_init_85 : decode cX9_init 85 = .ok (.aload_n 0, 1) := by decide +kernel
theorem dX9_init_86 : decode cX9_init 86 = .ok (.iconst 0, 1) := by decide +kernel
theorem dX9_init_87 : decode cX9_init 87 = .ok (.putfield 54, 3) := by decide +kernel
theorem dX9_init_90 : decode cX9_init 90 = .ok (.return_, 1) := by decide +kernel
set_option maxRecDepth 20000 in
theorem ggX9_drive_X7_copyFrom : GoodIn wsX9_drive wsX7_copyFrom := goodIn_r _ [7, 8, 9, 10, 11, 12, 13, 14, 15, 16, 17, 18, 19, 20, 21, 22, 23, 24, 25, 26, 27, 28, 29, 30, 31, 32, 33, 34, 35, 36, 37, 38, 39, 40, 41, 42, 43, 44, 45, 46, 47, 48, 49, 50, 51, 52, 53, 54, 55, 56, 57, 58, 59, 60, 61, 62, 63, 64, 65, 66, 111, 112, 113, 114, 115, 116, 117, 118, 119, 120, 121, 122, 123, 124, 125, 126, 127, 128, 129, 130, 131, 132, 133, 134, 135, 136, 137] (by decide +kernel) (by decide +kernel)
set_option maxRecDepth 20000 in
theorem gX9_drive_X7_copyFrom : GoodIn wsX9_drive (wsV RX9 57 RX7 yX7_copyFrom wsX7_copyFrom) := goodIn_app (goodIn_of _ (by decide +kernel)) ggX9_drive_X7_copyFrom
set_option maxRecDepth 20000 in
theorem ggX9_drive_X7_driveTo : GoodIn wsX9_drive wsX7_driveTo := goodIn_r _ [70, 71, 13, 72, 73, 74, 75, 76, 12, 77, 78, 79, 80, 81, 82, 58, 83, 61, 111, 112, 113, 114, 115, 116, 117, 118, 131, 132, 133, 134, 135, 136, 137] (by decide +kernel) (by decide +kernel)
set_option maxRecDepth 20000 in
theorem gX9_drive_X7_driveTo : GoodIn wsX9_drive (wsV RX9 61 RX7 yX7_driveTo wsX7_driveTo) := goodIn_app (goodIn_of _ (by decide +kernel)) ggX9_drive_X7_driveTo
set_option maxRecDepth 20000 in
theorem ggX9_drive_X9_recorded : GoodIn wsX9_drive wsX9_recorded := goodIn_r _ [87, 88, 1, 89, 90, 91, 92, 93, 94, 95, 96, 97, 98, 75, 99, 100, 4, 5, 6, 7, 8, 9, 10, 11, 12, 13, 14, 15, 16, 17, 18, 19, 20, 21, 22, 23, 24, 25, 26, 27, 28, 29, 30, 31, 32, 33, 34, 35, 36, 37, 38, 39, 40, 41, 42, 43, 44, 45, 46, 47, 48, 49, 50, 51, 52, 53, 54, 55, 56, 57, 58, 59, 60, 61, 62, 63, 64, 65, 66, 101, 102, 103, 104, 105, 106, 107, 108, 109, 110, 138, 139, 140, 111, 112, 113, 114, 115, 116, 117, 118, 119, 120, 121, 122, 123, 124, 125, 126, 127, 128, 129, 130, 131, 132, 133, 134, 135, 136, 137] (by decide +kernel) (by decide +kernel)
set_option maxRecDepth 20000 in
theorem gX9_drive_X9_recorded : GoodIn wsX9_drive (wsV RX9 65 RX9 yX9_recorded wsX9_recorded) := goodIn_app (goodIn_of _ (by decide +kernel)) ggX9_drive_X9_recorded
theorem dX9_drive_0 : decode cX9_drive 0 = .ok (.aload_n 0, 1) := by decide +kernel
theorem dX9_drive_1 : decode cX9_drive 1 = .ok (.getfield 16, 3) := by decide +kernel
theorem dX9_drive_4 : decode cX9_drive 4 = .ok (.aload_n 0, 1) := by decide +kernel
theorem dX9_drive_5 : decode cX9_drive 5 = .ok (.getfield 10, 3) := by decide +kernel
theorem dX9_drive_8 : decode cX9_drive 8 = .ok (.invokevirtual 57, 3) := by decide +kernel
theorem dX9_drive_11 : decode cX9_drive 11 = .ok (.aload_n 0, 1) := by decide +kernel
theorem dX9_drive_12 : decode cX9_drive 12 = .ok (.aload_n 0, 1) := by decide +kernel
theorem dX9_drive_13 : decode cX9_drive 13 = .ok (.getfield 10, 3) := by decide +kernel
theorem dX9_drive_16 : decode cX9_drive 16 = .ok (.iload_n 1, 1) := by decide +kernel
theorem dX9_drive_17 : decode cX9_drive 17 = .ok (.invokevirtual 61, 3) := by decide +kernel
theorem dX9_drive_20 : decode cX9_drive 20 = .ok (.invokevirtual 65, 3) := by decide +kernel
theorem dX9_drive_23 : decode cX9_drive 23 = .ok (.ireturn, 1) := by decide +kernel
set_option maxRecDepth 20000 in
theorem ggX9_moveReel_X7_copyFrom : GoodIn wsX9_moveReel wsX7_copyFrom := goodIn_r _ [7, 8, 9, 10, 11, 12, 13, 14, 15, 16, 17, 18, 19, 20, 21, 22, 23, 24, 25, 26, 27, 28, 29, 30, 31, 32, 33, 34, 35, 36, 37, 38, 39, 40, 41, 42, 43, 44, 45, 46, 47, 48, 49, 50, 51, 52, 53, 54, 55, 56, 57, 58, 59, 60, 61, 62, 63, 64, 65, 66, 132, 133, 134, 135, 136, 137, 138, 139, 140, 141, 142, 143, 144, 145, 146, 147, 148, 149, 150, 151, 152, 153, 154, 155, 156, 157, 158] (by decide +kernel) (by decide +kernel)
set_option maxRecDepth 20000 in
theorem gX9_moveReel_X7_copyFrom : GoodIn wsX9_moveReel (wsV RX9 57 RX7 yX7_copyFrom wsX7_copyFrom) := goodIn_app (goodIn_of _ (by decide +kernel)) ggX9_moveReel_X7_copyFrom
set_option maxRecDepth 20000 in
theorem ggX9_moveReel_X7_carryReel : GoodIn wsX9_moveReel wsX7_carryReel := goodIn_r _ [70, 8, 71, 13, 72, 73, 74, 19, 75, 21, 76, 77, 78, 79, 80, 81, 82, 6, 83, 84, 85, 86, 87, 88, 89, 90, 9, 91, 92, 93, 94, 95, 96, 97, 33, 98, 35, 99, 100, 101, 102, 132, 133, 134, 135, 136, 137, 138, 139, 140, 141, 142, 143, 144, 145, 146] (by decide +kernel) (by decide +kernel)
set_option maxRecDepth 20000 in
theorem gX9_moveReel_X7_carryReel : GoodIn wsX9_moveReel (wsV RX9 68 RX7 yX7_carryReel wsX7_carryReel) := goodIn_app (goodIn_of _ (by decide +kernel)) ggX9_moveReel_X7_carryReel
set_option maxRecDepth 20000 in
theorem ggX9_moveReel_X9_recorded : GoodIn wsX9_moveReel wsX9_recorded := goodIn_r _ [107, 108, 1, 109, 110, 111, 112, 113, 114, 115, 116, 117, 118, 119, 120, 121, 4, 5, 6, 7, 8, 9, 10, 11, 12, 13, 14, 15, 16, 17, 18, 19, 20, 21, 22, 23, 24, 25, 26, 27, 28, 29, 30, 31, 32, 33, 34, 35, 36, 37, 38, 39, 40, 41, 42, 43, 44, 45, 46, 47, 48, 49, 50, 51, 52, 53, 54, 55, 56, 57, 58, 59, 60, 61, 62, 63, 64, 65, 66, 122, 123, 124, 125, 126, 127, 128, 129, 130, 131, 159, 160, 161, 132, 133, 134, 135, 136, 137, 138, 139, 140, 141, 142, 143, 144, 145, 146, 147, 148, 149, 150, 151, 152, 153, 154, 155, 156, 157, 158] (by decide +kernel) (by decide +kernel)
set_option maxRecDepth 20000 in
theorem gX9_moveReel_X9_recorded : GoodIn wsX9_moveReel (wsV RX9 65 RX9 yX9_recorded wsX9_recorded) := goodIn_app (goodIn_of _ (by decide +kernel)) ggX9_moveReel_X9_recorded
theorem dX9_moveReel_0 : decode cX9_moveReel 0 = .ok (.aload_n 0, 1) := by decide +kernel
theorem dX9_moveReel_1 : decode cX9_moveReel 1 = .ok (.getfield 16, 3) := by decide +kernel
theorem dX9_moveReel_4 : decode cX9_moveReel 4 = .ok (.aload_n 0, 1) := by decide +kernel
theorem dX9_moveReel_5 : decode cX9_moveReel 5 = .ok (.getfield 10, 3) := by decide +kernel
theorem dX9_moveReel_8 : decode cX9_moveReel 8 = .ok (.invokevirtual 57, 3) := by decide +kernel
theorem dX9_moveReel_11 : decode cX9_moveReel 11 = .ok (.aload_n 0, 1) := by decide +kernel
theorem dX9_moveReel_12 : decode cX9_moveReel 12 = .ok (.aload_n 0, 1) := by decide +kernel
theorem dX9_moveReel_13 : decode cX9_moveReel 13 = .ok (.getfield 10, 3) := by decide +kernel
theorem dX9_moveReel_16 : decode cX9_moveReel 16 = .ok (.iload_n 1, 1) := by decide +kernel
theorem dX9_moveReel_17 : decode cX9_moveReel 17 = .ok (.iload_n 2, 1) := by decide +kernel
theorem dX9_moveReel_18 : decode cX9_moveReel 18 = .ok (.invokevirtual 68, 3) := by decide +kernel
theorem dX9_moveReel_21 : decode cX9_moveReel 21 = .ok (.invokevirtual 65, 3) := by decide +kernel
theorem dX9_moveReel_24 : decode cX9_moveReel 24 = .ok (.ireturn, 1) := by decide +kernel
set_option maxRecDepth 20000 in
theorem ggX9_moveGenerator_X7_copyFrom : GoodIn wsX9_moveGenerator wsX7_copyFrom := goodIn_r _ [7, 8, 9, 10, 11, 12, 13, 14, 15, 16, 17, 18, 19, 20, 21, 22, 23, 24, 25, 26, 27, 28, 29, 30, 31, 32, 33, 34, 35, 36, 37, 38, 39, 40, 41, 42, 43, 44, 45, 46, 47, 48, 49, 50, 51, 52, 53, 54, 55, 56, 57, 58, 59, 60, 61, 62, 63, 64, 65, 66, 130, 131, 132, 133, 134, 135, 136, 137, 138, 139, 140, 141, 142, 143, 144, 145, 146, 147, 148, 149, 150, 151, 152, 153, 154, 155, 156] (by decide +kernel) (by decide +kernel)
set_option maxRecDepth 20000 in
theorem gX9_moveGenerator_X7_copyFrom : GoodIn wsX9_moveGenerator (wsV RX9 57 RX7 yX7_copyFrom wsX7_copyFrom) := goodIn_app (goodIn_of _ (by decide +kernel)) ggX9_moveGenerator_X7_copyFrom
set_option maxRecDepth 20000 in
theorem ggX9_moveGenerator_X7_carryGenerator : GoodIn wsX9_moveGenerator wsX7_carryGenerator := goodIn_r _ [70, 71, 9, 13, 72, 73, 74, 75, 76, 77, 33, 78, 35, 79, 80, 81, 6, 82, 83, 84, 85, 86, 87, 88, 89, 8, 90, 91, 92, 19, 93, 21, 94, 95, 96, 97, 98, 99, 100, 101, 130, 131, 132, 133, 134, 135, 136, 137, 143, 144, 138, 139, 140, 141, 142] (by decide +kernel) (by decide +kernel)
set_option maxRecDepth 20000 in
theorem gX9_moveGenerator_X7_carryGenerator : GoodIn wsX9_moveGenerator (wsV RX9 72 RX7 yX7_carryGenerator wsX7_carryGenerator) := goodIn_app (goodIn_of _ (by decide +kernel)) ggX9_moveGenerator_X7_carryGenerator
set_option maxRecDepth 20000 in
theorem ggX9_moveGenerator_X9_recorded : GoodIn wsX9_moveGenerator wsX9_recorded := goodIn_r _ [105, 106, 1, 107, 108, 109, 110, 111, 112, 113, 114, 115, 116, 117, 118, 119, 4, 5, 6, 7, 8, 9, 10, 11, 12, 13, 14, 15, 16, 17, 18, 19, 20, 21, 22, 23, 24, 25, 26, 27, 28, 29, 30, 31, 32, 33, 34, 35, 36, 37, 38, 39, 40, 41, 42, 43, 44, 45, 46, 47, 48, 49, 50, 51, 52, 53, 54, 55, 56, 57, 58, 59, 60, 61, 62, 63, 64, 65, 66, 120, 121, 122, 123, 124, 125, 126, 127, 128, 129, 157, 158, 159, 130, 131, 132, 133, 134, 135, 136, 137, 138, 139, 140, 141, 142, 143, 144, 145, 146, 147, 148, 149, 150, 151, 152, 153, 154, 155, 156] (by decide +kernel) (by decide +kernel)
set_option maxRecDepth 20000 in
theorem gX9_moveGenerator_X9_recorded : GoodIn wsX9_moveGenerator (wsV RX9 65 RX9 yX9_recorded wsX9_recorded) := goodIn_app (goodIn_of _ (by decide +kernel)) ggX9_moveGenerator_X9_recorded
theorem dX9_moveGenerator_0 : decode cX9_moveGenerator 0 = .ok (.aload_n 0, 1) := by decide +kernel
theorem dX9_moveGenerator_1 : decode cX9_moveGenerator 1 = .ok (.getfield 16, 3) := by decide +kernel
theorem dX9_moveGenerator_4 : decode cX9_moveGenerator 4 = .ok (.aload_n 0, 1) := by decide +kernel
theorem dX9_moveGenerator_5 : decode cX9_moveGenerator 5 = .ok (.getfield 10, 3) := by decide +kernel
theorem dX9_moveGenerator_8 : decode cX9_moveGenerator 8 = .ok (.invokevirtual 57, 3) := by decide +kernel
theorem dX9_moveGenerator_11 : decode cX9_moveGenerator 11 = .ok (.aload_n 0, 1) := by decide +kernel
theorem dX9_moveGenerator_12 : decode cX9_moveGenerator 12 = .ok (.aload_n 0, 1) := by decide +kernel
theorem dX9_moveGenerator_13 : decode cX9_moveGenerator 13 = .ok (.getfield 10, 3) := by decide +kernel
theorem dX9_moveGenerator_16 : decode cX9_moveGenerator 16 = .ok (.iload_n 1, 1) := by decide +kernel
theorem dX9_moveGenerator_17 : decode cX9_moveGenerator 17 = .ok (.iload_n 2, 1) := by decide +kernel
theorem dX9_moveGenerator_18 : decode cX9_moveGenerator 18 = .ok (.invokevirtual 72, 3) := by decide +kernel
theorem dX9_moveGenerator_21 : decode cX9_moveGenerator 21 = .ok (.invokevirtual 65, 3) := by decide +kernel
theorem dX9_moveGenerator_24 : decode cX9_moveGenerator 24 = .ok (.ireturn, 1) := by decide +kernel
set_option maxRecDepth 20000 in
theorem ggX9_fuel_X7_copyFrom : GoodIn wsX9_fuel wsX7_copyFrom := goodIn_r _ [7, 8, 9, 10, 11, 12, 13, 14, 15, 16, 17, 18, 19, 20, 21, 22, 23, 24, 25, 26, 27, 28, 29, 30, 31, 32, 33, 34, 35, 36, 37, 38, 39, 40, 41, 42, 43, 44, 45, 46, 47, 48, 49, 50, 51, 52, 53, 54, 55, 56, 57, 58, 59, 60, 61, 62, 63, 64, 65, 66, 124, 125, 126, 127, 128, 129, 130, 131, 132, 133, 134, 135, 136, 137, 138, 139, 140, 141, 142, 143, 144, 145, 146, 147, 148, 149, 150] (by decide +kernel) (by decide +kernel)
set_option maxRecDepth 20000 in
theorem gX9_fuel_X7_copyFrom : GoodIn wsX9_fuel (wsV RX9 57 RX7 yX7_copyFrom wsX7_copyFrom) := goodIn_app (goodIn_of _ (by decide +kernel)) ggX9_fuel_X7_copyFrom
set_option maxRecDepth 20000 in
theorem ggX9_fuel_X7_buyFuel : GoodIn wsX9_fuel wsX7_buyFuel := goodIn_r _ [70, 71, 72, 9, 73, 74, 12, 75, 76, 77, 78, 79, 80, 81, 82, 33, 83, 35, 84, 85, 86, 87, 37, 88, 89, 90, 91, 92, 93, 94, 58, 95, 62, 124, 125, 126, 127, 128, 129, 130, 131, 137, 138, 144, 145, 146, 147, 148, 149, 150] (by decide +kernel) (by decide +kernel)
set_option maxRecDepth 20000 in
theorem gX9_fuel_X7_buyFuel : GoodIn wsX9_fuel (wsV RX9 75 RX7 yX7_buyFuel wsX7_buyFuel) := goodIn_app (goodIn_of _ (by decide +kernel)) ggX9_fuel_X7_buyFuel
set_option maxRecDepth 20000 in
theorem ggX9_fuel_X9_recorded : GoodIn wsX9_fuel wsX9_recorded := goodIn_r _ [99, 100, 1, 101, 102, 103, 104, 105, 106, 107, 108, 109, 110, 111, 112, 113, 4, 5, 6, 7, 8, 9, 10, 11, 12, 13, 14, 15, 16, 17, 18, 19, 20, 21, 22, 23, 24, 25, 26, 27, 28, 29, 30, 31, 32, 33, 34, 35, 36, 37, 38, 39, 40, 41, 42, 43, 44, 45, 46, 47, 48, 49, 50, 51, 52, 53, 54, 55, 56, 57, 58, 59, 60, 61, 62, 63, 64, 65, 66, 114, 115, 116, 117, 118, 119, 120, 121, 122, 123, 151, 152, 153, 124, 125, 126, 127, 128, 129, 130, 131, 132, 133, 134, 135, 136, 137, 138, 139, 140, 141, 142, 143, 144, 145, 146, 147, 148, 149, 150] (by decide +kernel) (by decide +kernel)
set_option maxRecDepth 20000 in
theorem gX9_fuel_X9_recorded : GoodIn wsX9_fuel (wsV RX9 65 RX9 yX9_recorded wsX9_recorded) := goodIn_app (goodIn_of _ (by decide +kernel)) ggX9_fuel_X9_recorded
theorem dX9_fuel_0 : decode cX9_fuel 0 = .ok (.aload_n 0, 1) := by decide +kernel
theorem dX9_fuel_1 : decode cX9_fuel 1 = .ok (.getfield 16, 3) := by decide +kernel
theorem dX9_fuel_4 : decode cX9_fuel 4 = .ok (.aload_n 0, 1) := by decide +kernel
theorem dX9_fuel_5 : decode cX9_fuel 5 = .ok (.getfield 10, 3) := by decide +kernel
theorem dX9_fuel_8 : decode cX9_fuel 8 = .ok (.invokevirtual 57, 3) := by decide +kernel
theorem dX9_fuel_11 : decode cX9_fuel 11 = .ok (.aload_n 0, 1) := by decide +kernel
theorem dX9_fuel_12 : decode cX9_fuel 12 = .ok (.aload_n 0, 1) := by decide +kernel
theorem dX9_fuel_13 : decode cX9_fuel 13 = .ok (.getfield 10, 3) := by decide +kernel
theorem dX9_fuel_16 : decode cX9_fuel 16 = .ok (.iload_n 1, 1) := by decide +kernel
theorem dX9_fuel_17 : decode cX9_fuel 17 = .ok (.iload_n 2, 1) := by decide +kernel
theorem dX9_fuel_18 : decode cX9_fuel 18 = .ok (.invokevirtual 75, 3) := by decide +kernel
theorem dX9_fuel_21 : decode cX9_fuel 21 = .ok (.invokevirtual 65, 3) := by decide +kernel
theorem dX9_fuel_24 : decode cX9_fuel 24 = .ok (.ireturn, 1) := by decide +kernel
set_option maxRecDepth 20000 in
theorem ggX9_renew_X7_copyFrom : GoodIn wsX9_renew wsX7_copyFrom := goodIn_r _ [7, 8, 9, 10, 11, 12, 13, 14, 15, 16, 17, 18, 19, 20, 21, 22, 23, 24, 25, 26, 27, 28, 29, 30, 31, 32, 33, 34, 35, 36, 37, 38, 39, 40, 41, 42, 43, 44, 45, 46, 47, 48, 49, 50, 51, 52, 53, 54, 55, 56, 57, 58, 59, 60, 61, 62, 63, 64, 65, 66, 122, 123, 124, 125, 126, 127, 128, 129, 130, 131, 132, 133, 134, 135, 136, 137, 138, 139, 140, 141, 142, 143, 144, 145, 146, 147, 148] (by decide +kernel) (by decide +kernel)
set_option maxRecDepth 20000 in
theorem gX9_renew_X7_copyFrom : GoodIn wsX9_renew (wsV RX9 57 RX7 yX7_copyFrom wsX7_copyFrom) := goodIn_app (goodIn_of _ (by decide +kernel)) ggX9_renew_X7_copyFrom
set_option maxRecDepth 20000 in
theorem ggX9_renew_X7_renewReel : GoodIn wsX9_renew wsX7_renewReel := goodIn_r _ [70, 8, 71, 72, 12, 73, 74, 75, 19, 76, 21, 77, 78, 79, 80, 81, 82, 83, 84, 26, 27, 28, 29, 85, 86, 87, 58, 88, 63, 89, 90, 91, 92, 122, 123, 124, 125, 126, 127, 128, 129, 130, 131, 132, 133, 134, 142, 143, 144, 145, 146, 147, 148] (by decide +kernel) (by decide +kernel)
set_option maxRecDepth 20000 in
theorem gX9_renew_X7_renewReel : GoodIn wsX9_renew (wsV RX9 79 RX7 yX7_renewReel wsX7_renewReel) := goodIn_app (goodIn_of _ (by decide +kernel)) ggX9_renew_X7_renewReel
set_option maxRecDepth 20000 in
theorem ggX9_renew_X9_recorded : GoodIn wsX9_renew wsX9_recorded := goodIn_r _ [97, 98, 1, 99, 100, 101, 102, 103, 104, 105, 106, 107, 108, 109, 110, 111, 4, 5, 6, 7, 8, 9, 10, 11, 12, 13, 14, 15, 16, 17, 18, 19, 20, 21, 22, 23, 24, 25, 26, 27, 28, 29, 30, 31, 32, 33, 34, 35, 36, 37, 38, 39, 40, 41, 42, 43, 44, 45, 46, 47, 48, 49, 50, 51, 52, 53, 54, 55, 56, 57, 58, 59, 60, 61, 62, 63, 64, 65, 66, 112, 113, 114, 115, 116, 117, 118, 119, 120, 121, 149, 150, 151, 122, 123, 124, 125, 126, 127, 128, 129, 130, 131, 132, 133, 134, 135, 136, 137, 138, 139, 140, 141, 142, 143, 144, 145, 146, 147, 148] (by decide +kernel) (by decide +kernel)
set_option maxRecDepth 20000 in
theorem gX9_renew_X9_recorded : GoodIn wsX9_renew (wsV RX9 65 RX9 yX9_recorded wsX9_recorded) := goodIn_app (goodIn_of _ (by decide +kernel)) ggX9_renew_X9_recorded
theorem dX9_renew_0 : decode cX9_renew 0 = .ok (.aload_n 0, 1) := by decide +kernel
theorem dX9_renew_1 : decode cX9_renew 1 = .ok (.getfield 16, 3) := by decide +kernel
theorem dX9_renew_4 : decode cX9_renew 4 = .ok (.aload_n 0, 1) := by decide +kernel
theorem dX9_renew_5 : decode cX9_renew 5 = .ok (.getfield 10, 3) := by decide +kernel
theorem dX9_renew_8 : decode cX9_renew 8 = .ok (.invokevirtual 57, 3) := by decide +kernel
theorem dX9_renew_11 : decode cX9_renew 11 = .ok (.aload_n 0, 1) := by decide +kernel
theorem dX9_renew_12 : decode cX9_renew 12 = .ok (.aload_n 0, 1) := by decide +kernel
theorem dX9_renew_13 : decode cX9_renew 13 = .ok (.getfield 10, 3) := by decide +kernel
theorem dX9_renew_16 : decode cX9_renew 16 = .ok (.iload_n 1, 1) := by decide +kernel
theorem dX9_renew_17 : decode cX9_renew 17 = .ok (.invokevirtual 79, 3) := by decide +kernel
theorem dX9_renew_20 : decode cX9_renew 20 = .ok (.invokevirtual 65, 3) := by decide +kernel
theorem dX9_renew_23 : decode cX9_renew 23 = .ok (.ireturn, 1) := by decide +kernel
set_option maxRecDepth 20000 in
theorem ggX9_setPrice_X7_copyFrom : GoodIn wsX9_setPrice wsX7_copyFrom := goodIn_r _ [7, 8, 9, 10, 11, 12, 13, 14, 15, 16, 17, 18, 19, 20, 21, 22, 23, 24, 25, 26, 27, 28, 29, 30, 31, 32, 33, 34, 35, 36, 37, 38, 39, 40, 41, 42, 43, 44, 45, 46, 47, 48, 49, 50, 51, 52, 53, 54, 55, 56, 57, 58, 59, 60, 61, 62, 63, 64, 65, 66, 104, 105, 106, 107, 108, 109, 110, 111, 112, 113, 114, 115, 116, 117, 118, 119, 120, 121, 122, 123, 124, 125, 126, 127, 128, 129, 130] (by decide +kernel) (by decide +kernel)
set_option maxRecDepth 20000 in
theorem gX9_setPrice_X7_copyFrom : GoodIn wsX9_setPrice (wsV RX9 57 RX7 yX7_copyFrom wsX7_copyFrom) := goodIn_app (goodIn_of _ (by decide +kernel)) ggX9_setPrice_X7_copyFrom
set_option maxRecDepth 20000 in
theorem ggX9_setPrice_X7_changePrice : GoodIn wsX9_setPrice wsX7_changePrice := goodIn_r _ [70, 71, 15, 72, 73, 74, 75, 104, 105, 106, 107, 108, 109, 110, 111] (by decide +kernel) (by decide +kernel)
set_option maxRecDepth 20000 in
theorem gX9_setPrice_X7_changePrice : GoodIn wsX9_setPrice (wsV RX9 82 RX7 yX7_changePrice wsX7_changePrice) := goodIn_app (goodIn_of _ (by decide +kernel)) ggX9_setPrice_X7_changePrice
set_option maxRecDepth 20000 in
theorem ggX9_setPrice_X9_recorded : GoodIn wsX9_setPrice wsX9_recorded := goodIn_r _ [79, 80, 1, 81, 82, 83, 84, 85, 86, 87, 88, 89, 90, 91, 92, 93, 4, 5, 6, 7, 8, 9, 10, 11, 12, 13, 14, 15, 16, 17, 18, 19, 20, 21, 22, 23, 24, 25, 26, 27, 28, 29, 30, 31, 32, 33, 34, 35, 36, 37, 38, 39, 40, 41, 42, 43, 44, 45, 46, 47, 48, 49, 50, 51, 52, 53, 54, 55, 56, 57, 58, 59, 60, 61, 62, 63, 64, 65, 66, 94, 95, 96, 97, 98, 99, 100, 101, 102, 103, 131, 132, 133, 104, 105, 106, 107, 108, 109, 110, 111, 112, 113, 114, 115, 116, 117, 118, 119, 120, 121, 122, 123, 124, 125, 126, 127, 128, 129, 130] (by decide +kernel) (by decide +kernel)
set_option maxRecDepth 20000 in
theorem gX9_setPrice_X9_recorded : GoodIn wsX9_setPrice (wsV RX9 65 RX9 yX9_recorded wsX9_recorded) := goodIn_app (goodIn_of _ (by decide +kernel)) ggX9_setPrice_X9_recorded
theorem dX9_setPrice_0 : decode cX9_setPrice 0 = .ok (.aload_n 0, 1) := by decide +kernel
theorem dX9_setPrice_1 : decode cX9_setPrice 1 = .ok (.getfield 16, 3) := by decide +kernel
theorem dX9_setPrice_4 : decode cX9_setPrice 4 = .ok (.aload_n 0, 1) := by decide +kernel
theorem dX9_setPrice_5 : decode cX9_setPrice 5 = .ok (.getfield 10, 3) := by decide +kernel
theorem dX9_setPrice_8 : decode cX9_setPrice 8 = .ok (.invokevirtual 57, 3) := by decide +kernel
theorem dX9_setPrice_11 : decode cX9_setPrice 11 = .ok (.aload_n 0, 1) := by decide +kernel
theorem dX9_setPrice_12 : decode cX9_setPrice 12 = .ok (.aload_n 0, 1) := by decide +kernel
theorem dX9_setPrice_13 : decode cX9_setPrice 13 = .ok (.getfield 10, 3) := by decide +kernel
theorem dX9_setPrice_16 : decode cX9_setPrice 16 = .ok (.iload_n 1, 1) := by decide +kernel
theorem dX9_setPrice_17 : decode cX9_setPrice 17 = .ok (.invokevirtual 82, 3) := by decide +kernel
theorem dX9_setPrice_20 : decode cX9_setPrice 20 = .ok (.invokevirtual 65, 3) := by decide +kernel
theorem dX9_setPrice_23 : decode cX9_setPrice 23 = .ok (.ireturn, 1) := by decide +kernel
set_option maxRecDepth 20000 in
theorem ggX9_show_X7_copyFrom : GoodIn wsX9_show wsX7_copyFrom := goodIn_r _ [7, 8, 9, 10, 11, 12, 13, 14, 15, 16, 17, 18, 19, 20, 21, 22, 23, 24, 25, 26, 27, 28, 29, 30, 31, 32, 33, 34, 35, 36, 37, 38, 39, 40, 41, 42, 43, 44, 45, 46, 47, 48, 49, 50, 51, 52, 53, 54, 55, 56, 57, 58, 59, 60, 61, 62, 63, 64, 65, 66, 171, 172, 173, 174, 175, 176, 177, 178, 179, 180, 181, 182, 183, 184, 185, 186, 187, 188, 189, 190, 191, 192, 193, 194, 195, 196, 197] (by decide +kernel) (by decide +kernel)
set_option maxRecDepth 20000 in
theorem gX9_show_X7_copyFrom : GoodIn wsX9_show (wsV RX9 57 RX7 yX7_copyFrom wsX7_copyFrom) := goodIn_app (goodIn_of _ (by decide +kernel)) ggX9_show_X7_copyFrom
set_option maxRecDepth 20000 in
theorem ggX9_show_X7_showIn : GoodIn wsX9_show wsX7_showIn := goodIn_r _ [70, 71, 72, 15, 8, 9, 10, 14, 11, 12, 73, 74, 75, 76, 77, 78, 6, 79, 80, 81, 82, 41, 83, 45, 43, 84, 85, 86, 19, 87, 21, 88, 89, 90, 33, 91, 35, 92, 93, 94, 95, 26, 96, 97, 98, 99, 37, 100, 101, 102, 103, 104, 105, 106, 107, 108, 109, 110, 111, 29, 112, 113, 114, 115, 27, 116, 117, 118, 119, 120, 121, 122, 123, 124, 125, 126, 127, 128, 129, 130, 28, 131, 132, 133, 134, 46, 135, 136, 137, 50, 138, 52, 54, 139, 140, 141, 142, 143, 144, 58, 145, 64, 65, 60, 66, 171, 172, 173, 174, 175, 176, 177, 178, 186, 187, 188, 179, 180, 181, 182, 183, 184, 185, 189, 190, 191, 192, 193, 194, 195, 196, 197] (by decide +kernel) (by decide +kernel)
set_option maxRecDepth 20000 in
theorem gX9_show_X7_showIn : GoodIn wsX9_show (wsV RX9 85 RX7 yX7_showIn wsX7_showIn) := goodIn_app (goodIn_of _ (by decide +kernel)) ggX9_show_X7_showIn
set_option maxRecDepth 20000 in
theorem ggX9_show_X9_recorded : GoodIn wsX9_show wsX9_recorded := goodIn_r _ [149, 150, 1, 151, 152, 153, 154, 155, 156, 157, 158, 159, 140, 106, 141, 160, 4, 5, 6, 7, 8, 9, 10, 11, 12, 13, 14, 15, 16, 17, 18, 19, 20, 21, 22, 23, 24, 25, 26, 27, 28, 29, 30, 31, 32, 33, 34, 35, 36, 37, 38, 39, 40, 41, 42, 43, 44, 45, 46, 47, 48, 49, 50, 51, 52, 53, 54, 55, 56, 57, 58, 59, 60, 61, 62, 63, 64, 65, 66, 161, 162, 163, 164, 165, 166, 167, 168, 169, 170, 198, 199, 200, 171, 172, 173, 174, 175, 176, 177, 178, 179, 180, 181, 182, 183, 184, 185, 186, 187, 188, 189, 190, 191, 192, 193, 194, 195, 196, 197] (by decide +kernel) (by decide +kernel)
set_option maxRecDepth 20000 in
theorem gX9_show_X9_recorded : GoodIn wsX9_show (wsV RX9 65 RX9 yX9_recorded wsX9_recorded) := goodIn_app (goodIn_of _ (by decide +kernel)) ggX9_show_X9_recorded
theorem dX9_show_0 : decode cX9_show 0 = .ok (.aload_n 0, 1) := by decide +kernel
theorem dX9_show_1 : decode cX9_show 1 = .ok (.getfield 16, 3) := by decide +kernel
theorem dX9_show_4 : decode cX9_show 4 = .ok (.aload_n 0, 1) := by decide +kernel
theorem dX9_show_5 : decode cX9_show 5 = .ok (.getfield 10, 3) := by decide +kernel
theorem dX9_show_8 : decode cX9_show 8 = .ok (.invokevirtual 57, 3) := by decide +kernel
theorem dX9_show_11 : decode cX9_show 11 = .ok (.aload_n 0, 1) := by decide +kernel
theorem dX9_show_12 : decode cX9_show 12 = .ok (.aload_n 0, 1) := by decide +kernel
theorem dX9_show_13 : decode cX9_show 13 = .ok (.getfield 10, 3) := by decide +kernel
theorem dX9_show_16 : decode cX9_show 16 = .ok (.iload_n 1, 1) := by decide +kernel
theorem dX9_show_17 : decode cX9_show 17 = .ok (.invokevirtual 85, 3) := by decide +kernel
theorem dX9_show_20 : decode cX9_show 20 = .ok (.invokevirtual 65, 3) := by decide +kernel
theorem dX9_show_23 : decode cX9_show 23 = .ok (.ireturn, 1) := by decide +kernel
set_option maxRecDepth 20000 in
theorem ggX9_nextDay_X7_copyFrom : GoodIn wsX9_nextDay wsX7_copyFrom := goodIn_r _ [7, 8, 9, 10, 11, 12, 13, 14, 15, 16, 17, 18, 19, 20, 21, 22, 23, 24, 25, 26, 27, 28, 29, 30, 31, 32, 33, 34, 35, 36, 37, 38, 39, 40, 41, 42, 43, 44, 45, 46, 47, 48, 49, 50, 51, 52, 53, 54, 55, 56, 57, 58, 59, 60, 61, 62, 63, 64, 65, 66, 101, 102, 103, 104, 105, 106, 107, 108, 109, 110, 111, 112, 113, 114, 115, 116, 117, 118, 119, 120, 121, 122, 123, 124, 125, 126, 127] (by decide +kernel) (by decide +kernel)
set_option maxRecDepth 20000 in
theorem gX9_nextDay_X7_copyFrom : GoodIn wsX9_nextDay (wsV RX9 57 RX7 yX7_copyFrom wsX7_copyFrom) := goodIn_app (goodIn_of _ (by decide +kernel)) ggX9_nextDay_X7_copyFrom
set_option maxRecDepth 20000 in
theorem ggX9_nextDay_X7_beginNextDay : GoodIn wsX9_nextDay wsX7_beginNextDay := goodIn_r _ [70, 14, 71, 101, 102, 103, 104, 105, 106, 107, 108] (by decide +kernel) (by decide +kernel)
set_option maxRecDepth 20000 in
theorem gX9_nextDay_X7_beginNextDay : GoodIn wsX9_nextDay (wsV RX9 88 RX7 yX7_beginNextDay wsX7_beginNextDay) := goodIn_app (goodIn_of _ (by decide +kernel)) ggX9_nextDay_X7_beginNextDay
set_option maxRecDepth 20000 in
theorem ggX9_nextDay_X9_recorded : GoodIn wsX9_nextDay wsX9_recorded := goodIn_r _ [76, 77, 1, 78, 79, 80, 81, 82, 83, 84, 85, 86, 87, 88, 89, 90, 4, 5, 6, 7, 8, 9, 10, 11, 12, 13, 14, 15, 16, 17, 18, 19, 20, 21, 22, 23, 24, 25, 26, 27, 28, 29, 30, 31, 32, 33, 34, 35, 36, 37, 38, 39, 40, 41, 42, 43, 44, 45, 46, 47, 48, 49, 50, 51, 52, 53, 54, 55, 56, 57, 58, 59, 60, 61, 62, 63, 64, 65, 66, 91, 92, 93, 94, 95, 96, 97, 98, 99, 100, 128, 129, 130, 101, 102, 103, 104, 105, 106, 107, 108, 109, 110, 111, 112, 113, 114, 115, 116, 117, 118, 119, 120, 121, 122, 123, 124, 125, 126, 127] (by decide +kernel) (by decide +kernel)
set_option maxRecDepth 20000 in
theorem gX9_nextDay_X9_recorded : GoodIn wsX9_nextDay (wsV RX9 65 RX9 yX9_recorded wsX9_recorded) := goodIn_app (goodIn_of _ (by decide +kernel)) ggX9_nextDay_X9_recorded
theorem dX9_nextDay_0 : decode cX9_nextDay 0 = .ok (.aload_n 0, 1) := by decide +kernel
theorem dX9_nextDay_1 : decode cX9_nextDay 1 = .ok (.getfield 16, 3) := by decide +kernel
theorem dX9_nextDay_4 : decode cX9_nextDay 4 = .ok (.aload_n 0, 1) := by decide +kernel
theorem dX9_nextDay_5 : decode cX9_nextDay 5 = .ok (.getfield 10, 3) := by decide +kernel
theorem dX9_nextDay_8 : decode cX9_nextDay 8 = .ok (.invokevirtual 57, 3) := by decide +kernel
theorem dX9_nextDay_11 : decode cX9_nextDay 11 = .ok (.aload_n 0, 1) := by decide +kernel
theorem dX9_nextDay_12 : decode cX9_nextDay 12 = .ok (.aload_n 0, 1) := by decide +kernel
theorem dX9_nextDay_13 : decode cX9_nextDay 13 = .ok (.getfield 10, 3) := by decide +kernel
theorem dX9_nextDay_16 : decode cX9_nextDay 16 = .ok (.invokevirtual 88, 3) := by decide +kernel
theorem dX9_nextDay_19 : decode cX9_nextDay 19 = .ok (.invokevirtual 65, 3) := by decide +kernel
theorem dX9_nextDay_22 : decode cX9_nextDay 22 = .ok (.ireturn, 1) := by decide +kernel
set_option maxRecDepth 20000 in
theorem ggX9_undo_X3_takeLatestInto : GoodIn wsX9_undo wsX3_takeLatestInto := goodIn_r _ [8, 9, 10, 11, 12, 13, 14, 15, 16, 17, 18, 19, 20, 21, 22, 23, 24, 25, 26, 27, 28, 29, 30, 31, 32, 33, 34, 35, 36, 37, 38, 39, 40, 41, 42, 43, 44, 45, 46, 47, 48, 49, 50, 51, 52, 53, 54, 55, 56, 57, 58, 59, 60, 61, 62, 63, 64, 65, 66, 67, 68, 69, 70, 71, 72, 73, 74, 75, 90, 91, 92, 93, 94, 95, 96, 97, 98, 99, 100, 101, 102, 103, 104, 105, 106, 107, 108, 109, 110, 111, 112, 113, 114, 115, 116, 117, 118, 119] (by decide +kernel) (by decide +kernel)
set_option maxRecDepth 20000 in
theorem gX9_undo_X3_takeLatestInto : GoodIn wsX9_undo (wsV RX9 118 RX3 yX3_takeLatestInto wsX3_takeLatestInto) := goodIn_app (goodIn_of _ (by decide +kernel)) ggX9_undo_X3_takeLatestInto
set_option maxRecDepth 20000 in
theorem ggX9_undo_X3_size : GoodIn wsX9_undo wsX3_size := goodIn_r _ [79, 9, 90, 91, 92] (by decide +kernel) (by decide +kernel)
set_option maxRecDepth 20000 in
theorem gX9_undo_X3_size : GoodIn wsX9_undo (wsV RX9 122 RX3 yX3_size wsX3_size) := goodIn_app (goodIn_of _ (by decide +kernel)) ggX9_undo_X3_size
theorem dX9_undo_0 : decode cX9_undo 0 = .ok (.aload_n 0, 1) := by decide +kernel
theorem dX9_undo_1 : decode cX9_undo 1 = .ok (.getfield 25, 3) := by decide +kernel
theorem dX9_undo_4 : decode cX9_undo 4 = .ok (.aload_n 0, 1) := by decide +kernel
theorem dX9_undo_5 : decode cX9_undo 5 = .ok (.getfield 10, 3) := by decide +kernel
theorem dX9_undo_8 : decode cX9_undo 8 = .ok (.invokevirtual 118, 3) := by decide +kernel
theorem dX9_undo_11 : decode cX9_undo 11 = .ok (.ifCond .eq 13, 3) := by decide +kernel
theorem dX9_undo_14 : decode cX9_undo 14 = .ok (.aload_n 0, 1) := by decide +kernel
theorem dX9_undo_15 : decode cX9_undo 15 = .ok (.getfield 25, 3) := by decide +kernel
theorem dX9_undo_18 : decode cX9_undo 18 = .ok (.invokevirtual 122, 3) := by decide +kernel
theorem dX9_undo_21 : decode cX9_undo 21 = .ok (.goto 5, 3) := by decide +kernel
theorem dX9_undo_24 : decode cX9_undo 24 = .ok (.ldc 111, 2) := by decide +kernel
theorem dX9_undo_26 : decode cX9_undo 26 = .ok (.ireturn, 1) := by decide +kernel
set_option maxRecDepth 20000 in
theorem ggX9_reel_X7_toldOfReel : GoodIn wsX9_reel wsX7_toldOfReel := goodIn_r _ [6, 7, 8, 9, 10, 11, 12, 13, 14, 15, 16, 17, 18, 19, 20, 21, 5, 22, 23, 24, 25, 26, 27, 28, 29, 30, 31, 32, 33, 34, 35, 36, 37, 38, 39, 40, 41, 42, 43, 44, 45, 46, 47, 58, 59, 60, 61, 62, 63, 64, 65, 66, 67, 68, 69, 70] (by decide +kernel) (by decide +kernel)
set_option maxRecDepth 20000 in
theorem gX9_reel_X7_toldOfReel : GoodIn wsX9_reel (wsV RX9 126 RX7 yX7_toldOfReel wsX7_toldOfReel) := goodIn_app (goodIn_of _ (by decide +kernel)) ggX9_reel_X7_toldOfReel
theorem dX9_reel_0 : decode cX9_reel 0 = .ok (.aload_n 0, 1) := by decide +kernel
theorem dX9_reel_1 : decode cX9_reel 1 = .ok (.getfield 10, 3) := by decide +kernel
theorem dX9_reel_4 : decode cX9_reel 4 = .ok (.iload_n 1, 1) := by decide +kernel
theorem dX9_reel_5 : decode cX9_reel 5 = .ok (.iload_n 2, 1) := by decide +kernel
theorem dX9_reel_6 : decode cX9_reel 6 = .ok (.invokevirtual 126, 3) := by decide +kernel
theorem dX9_reel_9 : decode cX9_reel 9 = .ok (.ireturn, 1) := by decide +kernel
set_option maxRecDepth 20000 in
theorem ggX9_generator_X7_toldOfGenerator : GoodIn wsX9_generator wsX7_toldOfGenerator := goodIn_r _ [6, 7, 8, 9, 10, 11, 12, 13, 14, 15, 16, 17, 18, 19, 20, 5, 21, 22, 23, 24, 25, 26, 27, 38, 39, 40, 41, 42, 43, 44, 45, 46, 47] (by decide +kernel) (by decide +kernel)
set_option maxRecDepth 20000 in
theorem gX9_generator_X7_toldOfGenerator : GoodIn wsX9_generator (wsV RX9 129 RX7 yX7_toldOfGenerator wsX7_toldOfGenerator) := goodIn_app (goodIn_of _ (by decide +kernel)) ggX9_generator_X7_toldOfGenerator
theorem dX9_generator_0 : decode cX9_generator 0 = .ok (.aload_n 0, 1) := by decide +kernel
theorem dX9_generator_1 : decode cX9_generator 1 = .ok (.getfield 10, 3) := by decide +kernel
theorem dX9_generator_4 : decode cX9_generator 4 = .ok (.iload_n 1, 1) := by decide +kernel
theorem dX9_generator_5 : decode cX9_generator 5 = .ok (.iload_n 2, 1) := by decide +kernel
theorem dX9_generator_6 : decode cX9_generator 6 = .ok (.invokevirtual 129, 3) := by decide +kernel
theorem dX9_generator_9 : decode cX9_generator 9 = .ok (.ireturn, 1) := by decide +kernel
set_option maxRecDepth 20000 in
theorem ggX9_barn_X7_toldOfBarn : GoodIn wsX9_barn wsX7_toldOfBarn := goodIn_r _ [6, 7, 8, 9, 10, 11, 12, 13, 14, 15, 16, 17, 18, 19, 20, 21, 22, 23, 24, 25, 26, 27, 5, 28, 29, 30, 31, 32, 33, 34, 35, 36, 37, 38, 39, 40, 41, 42, 43, 44, 45, 46, 47, 48, 49, 50, 51, 52, 53, 54, 55, 56, 57, 58, 59, 60, 61, 62, 63, 64, 65, 66, 67, 68, 69, 70, 71, 72, 73, 74, 75, 76, 87, 88, 89, 90, 91, 92, 93, 94, 95, 96, 97, 98, 99, 100, 101, 102, 103, 104] (by decide +kernel) (by decide +kernel)
set_option maxRecDepth 20000 in
theorem gX9_barn_X7_toldOfBarn : GoodIn wsX9_barn (wsV RX9 132 RX7 yX7_toldOfBarn wsX7_toldOfBarn) := goodIn_app (goodIn_of _ (by decide +kernel)) ggX9_barn_X7_toldOfBarn
theorem dX9_barn_0 : decode cX9_barn 0 = .ok (.aload_n 0, 1) := by decide +kernel
theorem dX9_barn_1 : decode cX9_barn 1 = .ok (.getfield 10, 3) := by decide +kernel
theorem dX9_barn_4 : decode cX9_barn 4 = .ok (.iload_n 1, 1) := by decide +kernel
theorem dX9_barn_5 : decode cX9_barn 5 = .ok (.iload_n 2, 1) := by decide +kernel
theorem dX9_barn_6 : decode cX9_barn 6 = .ok (.invokevirtual 132, 3) := by decide +kernel
theorem dX9_barn_9 : decode cX9_barn 9 = .ok (.ireturn, 1) := by decide +kernel
set_option maxRecDepth 20000 in
theorem ggX9_bestBarn_X7_barnThatBringsMost : GoodIn wsX9_bestBarn wsX7_barnThatBringsMost := goodIn_r _ [6, 7, 8, 9, 10, 5, 11, 12, 13, 14, 15, 16, 17, 18, 19, 20, 21, 22, 23, 24, 25, 26, 27, 28, 29, 30, 31, 32, 33, 34, 35, 36, 37, 38, 39, 40, 41, 42, 43, 44, 45, 46, 47, 48, 49, 50, 51, 52, 53, 54, 55, 56, 57, 58, 59, 60, 61, 62, 63, 74, 75, 76, 77, 78, 79, 80, 81, 82, 83, 84, 85, 86, 87, 88, 89, 90, 91] (by decide +kernel) (by decide +kernel)
set_option maxRecDepth 20000 in
theorem gX9_bestBarn_X7_barnThatBringsMost : GoodIn wsX9_bestBarn (wsV RX9 135 RX7 yX7_barnThatBringsMost wsX7_barnThatBringsMost) := goodIn_app (goodIn_of _ (by decide +kernel)) ggX9_bestBarn_X7_barnThatBringsMost
theorem dX9_bestBarn_0 : decode cX9_bestBarn 0 = .ok (.aload_n 0, 1) := by decide +kernel
theorem dX9_bestBarn_1 : decode cX9_bestBarn 1 = .ok (.getfield 10, 3) := by decide +kernel
theorem dX9_bestBarn_4 : decode cX9_bestBarn 4 = .ok (.invokevirtual 135, 3) := by decide +kernel
theorem dX9_bestBarn_7 : decode cX9_bestBarn 7 = .ok (.ireturn, 1) := by decide +kernel
set_option maxRecDepth 20000 in
theorem ggX9_ifPrice_X9_isBarn : GoodIn wsX9_ifPrice wsX9_isBarn := goodIn_r _ [7] (by decide +kernel) (by decide +kernel)
set_option maxRecDepth 20000 in
theorem gX9_ifPrice_X9_isBarn : GoodIn wsX9_ifPrice (va_wsS RX9 138 yX9_isBarn wsX9_isBarn) := goodIn_app (goodIn_of _ (by decide +kernel)) ggX9_ifPrice_X9_isBarn
set_option maxRecDepth 20000 in
theorem ggX9_ifPrice_X9_isPrice : GoodIn wsX9_ifPrice wsX9_isPrice := goodIn_r _ [10] (by decide +kernel) (by decide +kernel)
set_option maxRecDepth 20000 in
theorem gX9_ifPrice_X9_isPrice : GoodIn wsX9_ifPrice (va_wsS RX9 143 yX9_isPrice wsX9_isPrice) := goodIn_app (goodIn_of _ (by decide +kernel)) ggX9_ifPrice_X9_isPrice
set_option maxRecDepth 20000 in
theorem ggX9_ifPrice_X7_peopleIn : GoodIn wsX9_ifPrice wsX7_peopleIn := goodIn_r _ [15, 16, 17, 18, 19, 20, 21, 22, 23, 24, 25, 26, 27, 28, 29, 30, 31, 32, 33, 34, 35, 36, 37, 48, 49, 50, 51, 52, 53, 54, 55, 56, 57, 58, 59, 60] (by decide +kernel) (by decide +kernel)
set_option maxRecDepth 20000 in
theorem gX9_ifPrice_X7_peopleIn : GoodIn wsX9_ifPrice (wsV RX9 146 RX7 yX7_peopleIn wsX7_peopleIn) := goodIn_app (goodIn_of _ (by decide +kernel)) ggX9_ifPrice_X7_peopleIn
theorem dX9_ifPrice_0 : decode cX9_ifPrice 0 = .ok (.iload_n 1, 1) := by decide +kernel
theorem dX9_ifPrice_1 : decode cX9_ifPrice 1 = .ok (.invokestatic 138, 3) := by decide +kernel
theorem dX9_ifPrice_4 : decode cX9_ifPrice 4 = .ok (.ifCond .ne 6, 3) := by decide +kernel
theorem dX9_ifPrice_7 : decode cX9_ifPrice 7 = .ok (.ldc 142, 2) := by decide +kernel
theorem dX9_ifPrice_9 : decode cX9_ifPrice 9 = .ok (.ireturn, 1) := by decide +kernel
theorem dX9_ifPrice_10 : decode cX9_ifPrice 10 = .ok (.iload_n 2, 1) := by decide +kernel
theorem dX9_ifPrice_11 : decode cX9_ifPrice 11 = .ok (.invokestatic 143, 3) := by decide +kernel
theorem dX9_ifPrice_14 : decode cX9_ifPrice 14 = .ok (.ifCond .eq 16, 3) := by decide +kernel
theorem dX9_ifPrice_17 : decode cX9_ifPrice 17 = .ok (.aload_n 0, 1) := by decide +kernel
theorem dX9_ifPrice_18 : decode cX9_ifPrice 18 = .ok (.getfield 10, 3) := by decide +kernel
theorem dX9_ifPrice_21 : decode cX9_ifPrice 21 = .ok (.iload_n 1, 1) := by decide +kernel
theorem dX9_ifPrice_22 : decode cX9_ifPrice 22 = .ok (.invokevirtual 146, 3) := by decide +kernel
theorem dX9_ifPrice_25 : decode cX9_ifPrice 25 = .ok (.iload_n 2, 1) := by decide +kernel
theorem dX9_ifPrice_26 : decode cX9_ifPrice 26 = .ok (.imul, 1) := by decide +kernel
theorem dX9_ifPrice_27 : decode cX9_ifPrice 27 = .ok (.goto 5, 3) := by decide +kernel
theorem dX9_ifPrice_30 : decode cX9_ifPrice 30 = .ok (.ldc 117, 2) := by decide +kernel
theorem dX9_ifPrice_32 : decode cX9_ifPrice 32 = .ok (.ireturn, 1) := by decide +kernel
set_option maxRecDepth 20000 in
theorem ggX9_showOf_X7_toldOfPastShow : GoodIn wsX9_showOf wsX7_toldOfPastShow := goodIn_r _ [6, 7, 8, 9, 10, 11, 12, 13, 14, 15, 16, 17, 18, 19, 20, 31, 32, 33, 34, 35, 36, 37, 38, 39, 40] (by decide +kernel) (by decide +kernel)
set_option maxRecDepth 20000 in
theorem gX9_showOf_X7_toldOfPastShow : GoodIn wsX9_showOf (wsV RX9 149 RX7 yX7_toldOfPastShow wsX7_toldOfPastShow) := goodIn_app (goodIn_of _ (by decide +kernel)) ggX9_showOf_X7_toldOfPastShow
theorem dX9_showOf_0 : decode cX9_showOf 0 = .ok (.aload_n 0, 1) := by decide +kernel
theorem dX9_showOf_1 : decode cX9_showOf 1 = .ok (.getfield 10, 3) := by decide +kernel
theorem dX9_showOf_4 : decode cX9_showOf 4 = .ok (.iload_n 1, 1) := by decide +kernel
theorem dX9_showOf_5 : decode cX9_showOf 5 = .ok (.iload_n 2, 1) := by decide +kernel
theorem dX9_showOf_6 : decode cX9_showOf 6 = .ok (.invokevirtual 149, 3) := by decide +kernel
theorem dX9_showOf_9 : decode cX9_showOf 9 = .ok (.ireturn, 1) := by decide +kernel
set_option maxRecDepth 20000 in
theorem ggX9_count_X3_size : GoodIn wsX9_count wsX3_size := goodIn_r _ [8, 9, 66, 67, 68] (by decide +kernel) (by decide +kernel)
set_option maxRecDepth 20000 in
theorem gX9_count_X3_size : GoodIn wsX9_count (wsV RX9 122 RX3 yX3_size wsX3_size) := goodIn_app (goodIn_of _ (by decide +kernel)) ggX9_count_X3_size
set_option maxRecDepth 20000 in
theorem ggX9_count_X8_length : GoodIn wsX9_count wsX8_length := goodIn_r _ [14, 15, 69, 70] (by decide +kernel) (by decide +kernel)
set_option maxRecDepth 20000 in
theorem gX9_count_X8_length : GoodIn wsX9_count (wsV RX9 152 RX8 yX8_length wsX8_length) := goodIn_app (goodIn_of _ (by decide +kernel)) ggX9_count_X8_length
set_option maxRecDepth 20000 in
theorem ggX9_count_X7_toldOfAll : GoodIn wsX9_count wsX7_toldOfAll := goodIn_r _ [20, 21, 22, 23, 24, 25, 26, 27, 28, 19, 29, 30, 31, 32, 33, 34, 35, 36, 37, 38, 39, 40, 41, 42, 43, 44, 45, 46, 47, 48, 49, 50, 51, 52, 53, 54, 55, 71, 72, 73, 74, 75, 76, 77, 78, 79, 80, 81, 82, 83, 84, 85, 86, 87, 88, 89, 90, 91, 92] (by decide +kernel) (by decide +kernel)
set_option maxRecDepth 20000 in
theorem gX9_count_X7_toldOfAll : GoodIn wsX9_count (wsV RX9 155 RX7 yX7_toldOfAll wsX7_toldOfAll) := goodIn_app (goodIn_of _ (by decide +kernel)) ggX9_count_X7_toldOfAll
theorem dX9_count_0 : decode cX9_count 0 = .ok (.iload_n 1, 1) := by decide +kernel
theorem dX9_count_1 : decode cX9_count 1 = .ok (.lookupswitch 43 #[(13, 27), (14, 35)], 27) := by decide +kernel
theorem dX9_count_28 : decode cX9_count 28 = .ok (.aload_n 0, 1) := by decide +kernel
theorem dX9_count_29 : decode cX9_count 29 = .ok (.getfield 25, 3) := by decide +kernel
theorem dX9_count_32 : decode cX9_count 32 = .ok (.invokevirtual 122, 3) := by decide +kernel
theorem dX9_count_35 : decode cX9_count 35 = .ok (.ireturn, 1) := by decide +kernel
theorem dX9_count_36 : decode cX9_count 36 = .ok (.aload_n 0, 1) := by decide +kernel
theorem dX9_count_37 : decode cX9_count 37 = .ok (.getfield 32, 3) := by decide +kernel
theorem dX9_count_40 : decode cX9_count 40 = .ok (.invokevirtual 152, 3) := by decide +kernel
theorem dX9_count_43 : decode cX9_count 43 = .ok (.ireturn, 1) := by decide +kernel
theorem dX9_count_44 : decode cX9_count 44 = .ok (.aload_n 0, 1) := by decide +kernel
theorem dX9_count_45 : decode cX9_count 45 = .ok (.getfield 10, 3) := by decide +kernel
theorem dX9_count_48 : decode cX9_count 48 = .ok (.iload_n 1, 1) := by decide +kernel
theorem dX9_count_49 : decode cX9_count 49 = .ok (.invokevirtual 155, 3) := by decide +kernel
theorem dX9_count_52 : decode cX9_count 52 = .ok (.ireturn, 1) := by decide +kernel
set_option maxRecDepth 20000 in
theorem ggX9_recorded_X3_add : GoodIn wsX9_recorded wsX3_add := goodIn_r _ [7, 8, 9, 10, 11, 12, 13, 14, 15, 16, 17, 18, 19, 20, 21, 22, 23, 24, 25, 26, 27, 28, 29, 30, 31, 32, 33, 34, 35, 36, 37, 38, 39, 40, 41, 42, 43, 44, 45, 46, 47, 48, 49, 50, 51, 52, 53, 54, 55, 56, 57, 58, 59, 60, 61, 62, 63, 64, 65, 66, 67, 68, 69, 70, 71, 72, 73, 74, 75, 76, 77, 78, 89, 90, 91, 92, 93, 94, 95, 96, 97, 98, 99, 100, 101, 102, 103, 104, 105, 106, 107, 108, 109, 110, 111, 112, 113, 114, 115, 116, 117, 118] (by decide +kernel) (by decide +kernel)
set_option maxRecDepth 20000 in
theorem gX9_recorded_X3_add : GoodIn wsX9_recorded (wsV RX9 158 RX3 yX3_add wsX3_add) := goodIn_app (goodIn_of _ (by decide +kernel)) ggX9_recorded_X3_add
theorem dX9_recorded_0 : decode cX9_recorded 0 = .ok (.iload_n 1, 1) := by decide +kernel
theorem dX9_recorded_1 : decode cX9_recorded 1 = .ok (.ifCond .lt 14, 3) := by decide +kernel
theorem dX9_recorded_4 : decode cX9_recorded 4 = .ok (.aload_n 0, 1) := by decide +kernel
theorem dX9_recorded_5 : decode cX9_recorded 5 = .ok (.getfield 25, 3) := by decide +kernel
theorem dX9_recorded_8 : decode cX9_recorded 8 = .ok (.aload_n 0, 1) := by decide +kernel
theorem dX9_recorded_9 : decode cX9_recorded 9 = .ok (.getfield 16, 3) := by decide +kernel
theorem dX9_recorded_12 : decode cX9_recorded 12 = .ok (.invokevirtual 158, 3) := by decide +kernel
theorem dX9_recorded_15 : decode cX9_recorded 15 = .ok (.iload_n 1, 1) := by decide +kernel
theorem dX9_recorded_16 : decode cX9_recorded 16 = .ok (.ireturn, 1) := by decide +kernel
