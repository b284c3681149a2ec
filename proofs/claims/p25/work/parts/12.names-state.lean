set_option maxRecDepth 20000 in
theorem ggX7_init_X4_init : GoodIn wsX7_init wsX4_init := goodIn_r _ [29, 30, 2, 3, 31, 32, 33, 34, 35, 36, 64, 65, 66, 67, 68] (by decide +kernel) (by decide +kernel)
set_option maxRecDepth 20000 in
theorem gX7_init_X4_init : GoodIn wsX7_init (wsX4_init) := ggX7_init_X4_init
set_option maxRecDepth 20000 in
theorem ggX7_init_X2_init : GoodIn wsX7_init wsX2_init := goodIn_r _ [39, 40, 2, 3, 31, 41, 42, 77, 78] (by decide +kernel) (by decide +kernel)
set_option maxRecDepth 20000 in
theorem gX7_init_X2_init : GoodIn wsX7_init (wsX2_init) := ggX7_init_X2_init
set_option maxRecDepth 20000 in
theorem ggX7_init_X1_init : GoodIn wsX7_init wsX1_init := goodIn_r _ [44, 45, 2, 3, 31, 46, 47, 48, 79, 80, 81] (by decide +kernel) (by decide +kernel)
set_option maxRecDepth 20000 in
theorem gX7_init_X1_init_n27 : GoodIn wsX7_init (wsX1_init) := ggX7_init_X1_init
set_option maxRecDepth 20000 in
theorem ggX7_init_X6_init : GoodIn wsX7_init wsX6_init := goodIn_r _ [50, 51, 2, 3, 31, 52, 53, 82, 83] (by decide +kernel) (by decide +kernel)
set_option maxRecDepth 20000 in
theorem gX7_init_X6_init_n34 : GoodIn wsX7_init (wsX6_init) := ggX7_init_X6_init
set_option maxRecDepth 20000 in
theorem ggX7_init_X0_init : GoodIn wsX7_init wsX0_init := goodIn_r _ [55, 56, 2, 3, 57, 58, 59, 60, 61, 62, 63, 84, 85, 86, 87, 88, 89, 90] (by decide +kernel) (by decide +kernel)
set_option maxRecDepth 20000 in
theorem gX7_init_X0_init_n41 : GoodIn wsX7_init (wsX0_init) := ggX7_init_X0_init
theorem dX7_init_0 : decode cX7_init 0 = .ok (.aload_n 0, 1) := by decide +kernel
theorem dX7_init_1 : decode cX7_init 1 = .ok (.invokespecial 3, 3) := by decide +kernel
theorem dX7_init_4 : decode cX7_init 4 = .ok (.aload_n 0, 1) := by decide +kernel
theorem dX7_init_5 : decode cX7_init 5 = .ok (.new 9, 3) := by decide +kernel
theorem dX7_init_8 : decode cX7_init 8 = .ok (.dup, 1) := by decide +kernel
theorem dX7_init_9 : decode cX7_init 9 = .ok (.invokespecial 11, 3) := by decide +kernel
theorem dX7_init_12 : decode cX7_init 12 = .ok (.putfield 12, 3) := by decide +kernel
theorem dX7_init_15 : decode cX7_init 15 = .ok (.aload_n 0, 1) := by decide +kernel
theorem dX7_init_16 : decode cX7_init 16 = .ok (.new 18, 3) := by decide +kernel
theorem dX7_init_19 : decode cX7_init 19 = .ok (.dup, 1) := by decide +kernel
theorem dX7_init_20 : decode cX7_init 20 = .ok (.invokespecial 20, 3) := by decide +kernel
theorem dX7_init_23 : decode cX7_init 23 = .ok (.putfield 21, 3) := by decide +kernel
theorem dX7_init_26 : decode cX7_init 26 = .ok (.aload_n 0, 1) := by decide +kernel
theorem dX7_init_27 : decode cX7_init 27 = .ok (.new 25, 3) := by decide +kernel
theorem dX7_init_30 : decode cX7_init 30 = .ok (.dup, 1) := by decide +kernel
theorem dX7_init_31 : decode cX7_init 31 = .ok (.invokespecial 27, 3) := by decide +kernel
theorem dX7_init_34 : decode cX7_init 34 = .ok (.putfield 28, 3) := by decide +kernel
theorem dX7_init_37 : decode cX7_init 37 = .ok (.aload_n 0, 1) := by decide +kernel
theorem dX7_init_38 : decode cX7_init 38 = .ok (.new 32, 3) := by decide +kernel
theorem dX7_init_41 : decode cX7_init 41 = .ok (.dup, 1) := by decide +kernel
theorem dX7_init_42 : decode cX7_init 42 = .ok (.invokespecial 34, 3) := by decide +kernel
theorem dX7_init_45 : decode cX7_init 45 = .ok (.putfield 35, 3) := by decide +kernel
theorem dX7_init_48 : decode cX7_init 48 = .ok (.aload_n 0, 1) := by decide +kernel
theorem dX7_init_49 : decode cX7_init 49 = .ok (.new 39, 3) := by decide +kernel
theorem dX7_init_52 : decode cX7_init 52 = .ok (.dup, 1) := by decide +kernel
theorem dX7_init_53 : decode cX7_init 53 = .ok (.invokespecial 41, 3) := by decide +kernel
theorem dX7_init_56 : decode cX7_init 56 = .ok (.putfield 42, 3) := by decide +kernel
theorem dX7_init_59 : decode cX7_init 59 = .ok (.aload_n 0, 1) := by decide +kernel
theorem dX7_init_60 : decode cX7_init 60 = .ok (.iconst 0, 1) := by decide +kernel
theorem dX7_init_61 : decode cX7_init 61 = .ok (.putfield 46, 3) := by decide +kernel
theorem dX7_init_64 : decode cX7_init 64 = .ok (.aload_n 0, 1) := by decide +kernel
theorem dX7_init_65 : decode cX7_init 65 = .ok (.iconst 0, 1) := by decide +kernel
theorem dX7_init_66 : decode cX7_init 66 = .ok (.putfield 50, 3) := by decide +kernel
theorem dX7_init_69 : decode cX7_init 69 = .ok (.aload_n 0, 1) := by decide +kernel
theorem dX7_init_70 : decode cX7_init 70 = .ok (.iconst 4, 1) := by decide +kernel
theorem dX7_init_71 : decode cX7_init 71 = .ok (.putfield 53, 3) := by decide +kernel
theorem dX7_init_74 : decode cX7_init 74 = .ok (.return_, 1) := by decide +kernel
set_option maxRecDepth 20000 in
theorem ggX7_copyFrom_X4_copyFrom : GoodIn wsX7_copyFrom wsX4_copyFrom := goodIn_r _ [13, 14, 15, 16, 17, 18, 19, 20, 21, 22, 68, 69, 70, 71, 72] (by decide +kernel) (by decide +kernel)
set_option maxRecDepth 20000 in
theorem gX7_copyFrom_X4_copyFrom : GoodIn wsX7_copyFrom (wsV RX7 56 RX4 yX4_copyFrom wsX4_copyFrom) := goodIn_app (goodIn_of _ (by decide +kernel)) ggX7_copyFrom_X4_copyFrom
set_option maxRecDepth 20000 in
theorem ggX7_copyFrom_X2_copyFrom : GoodIn wsX7_copyFrom wsX2_copyFrom := goodIn_r _ [27, 28, 29, 16, 17, 18, 30, 73, 74] (by decide +kernel) (by decide +kernel)
set_option maxRecDepth 20000 in
theorem gX7_copyFrom_X2_copyFrom : GoodIn wsX7_copyFrom (wsV RX7 60 RX2 yX2_copyFrom wsX2_copyFrom) := goodIn_app (goodIn_of _ (by decide +kernel)) ggX7_copyFrom_X2_copyFrom
set_option maxRecDepth 20000 in
theorem ggX7_copyFrom_X1_copyFrom : GoodIn wsX7_copyFrom wsX1_copyFrom := goodIn_r _ [35, 36, 37, 16, 17, 18, 38, 39, 75, 76, 77] (by decide +kernel) (by decide +kernel)
set_option maxRecDepth 20000 in
theorem gX7_copyFrom_X1_copyFrom : GoodIn wsX7_copyFrom (wsV RX7 63 RX1 yX1_copyFrom wsX1_copyFrom) := goodIn_app (goodIn_of _ (by decide +kernel)) ggX7_copyFrom_X1_copyFrom
set_option maxRecDepth 20000 in
theorem ggX7_copyFrom_X6_copyFrom : GoodIn wsX7_copyFrom wsX6_copyFrom := goodIn_r _ [44, 45, 46, 16, 17, 18, 47, 78, 79] (by decide +kernel) (by decide +kernel)
set_option maxRecDepth 20000 in
theorem gX7_copyFrom_X6_copyFrom : GoodIn wsX7_copyFrom (wsV RX7 66 RX6 yX6_copyFrom wsX6_copyFrom) := goodIn_app (goodIn_of _ (by decide +kernel)) ggX7_copyFrom_X6_copyFrom
set_option maxRecDepth 20000 in
theorem ggX7_copyFrom_X0_copyFrom : GoodIn wsX7_copyFrom wsX0_copyFrom := goodIn_r _ [52, 53, 54, 55, 56, 57, 58, 59, 80, 81, 82, 83, 84, 85, 86] (by decide +kernel) (by decide +kernel)
set_option maxRecDepth 20000 in
theorem gX7_copyFrom_X0_copyFrom : GoodIn wsX7_copyFrom (wsV RX7 69 RX0 yX0_copyFrom wsX0_copyFrom) := goodIn_app (goodIn_of _ (by decide +kernel)) ggX7_copyFrom_X0_copyFrom
theorem dX7_copyFrom_0 : decode cX7_copyFrom 0 = .ok (.aload_n 0, 1) := by decide +kernel
theorem dX7_copyFrom_1 : decode cX7_copyFrom 1 = .ok (.getfield 12, 3) := by decide +kernel
theorem dX7_copyFrom_4 : decode cX7_copyFrom 4 = .ok (.aload_n 1, 1) := by decide +kernel
theorem dX7_copyFrom_5 : decode cX7_copyFrom 5 = .ok (.getfield 12, 3) := by decide +kernel
theorem dX7_copyFrom_8 : decode cX7_copyFrom 8 = .ok (.invokevirtual 56, 3) := by decide +kernel
theorem dX7_copyFrom_11 : decode cX7_copyFrom 11 = .ok (.aload_n 0, 1) := by decide +kernel
theorem dX7_copyFrom_12 : decode cX7_copyFrom 12 = .ok (.getfield 21, 3) := by decide +kernel
theorem dX7_copyFrom_15 : decode cX7_copyFrom 15 = .ok (.aload_n 1, 1) := by decide +kernel
theorem dX7_copyFrom_16 : decode cX7_copyFrom 16 = .ok (.getfield 21, 3) := by decide +kernel
theorem dX7_copyFrom_19 : decode cX7_copyFrom 19 = .ok (.invokevirtual 60, 3) := by decide +kernel
theorem dX7_copyFrom_22 : decode cX7_copyFrom 22 = .ok (.aload_n 0, 1) := by decide +kernel
theorem dX7_copyFrom_23 : decode cX7_copyFrom 23 = .ok (.getfield 28, 3) := by decide +kernel
theorem dX7_copyFrom_26 : decode cX7_copyFrom 26 = .ok (.aload_n 1, 1) := by decide +kernel
theorem dX7_copyFrom_27 : decode cX7_copyFrom 27 = .ok (.getfield 28, 3) := by decide +kernel
theorem dX7_copyFrom_30 : decode cX7_copyFrom 30 = .ok (.invokevirtual 63, 3) := by decide +kernel
theorem dX7_copyFrom_33 : decode cX7_copyFrom 33 = .ok (.aload_n 0, 1) := by decide +kernel
theorem dX7_copyFrom_34 : decode cX7_copyFrom 34 = .ok (.getfield 35, 3) := by decide +kernel
theorem dX7_copyFrom_37 : decode cX7_copyFrom 37 = .ok (.aload_n 1, 1) := by decide +kernel
theorem dX7_copyFrom_38 : decode cX7_copyFrom 38 = .ok (.getfield 35, 3) := by decide +kernel
theorem dX7_copyFrom_41 : decode cX7_copyFrom 41 = .ok (.invokevirtual 66, 3) := by decide +kernel
theorem dX7_copyFrom_44 : decode cX7_copyFrom 44 = .ok (.aload_n 0, 1) := by decide +kernel
theorem dX7_copyFrom_45 : decode cX7_copyFrom 45 = .ok (.getfield 42, 3) := by decide +kernel
theorem dX7_copyFrom_48 : decode cX7_copyFrom 48 = .ok (.aload_n 1, 1) := by decide +kernel
theorem dX7_copyFrom_49 : decode cX7_copyFrom 49 = .ok (.getfield 42, 3) := by decide +kernel
theorem dX7_copyFrom_52 : decode cX7_copyFrom 52 = .ok (.invokevirtual 69, 3) := by decide +kernel
theorem dX7_copyFrom_55 : decode cX7_copyFrom 55 = .ok (.aload_n 0, 1) := by decide +kernel
theorem dX7_copyFrom_56 : decode cX7_copyFrom 56 = .ok (.aload_n 1, 1) := by decide +kernel
theorem dX7_copyFrom_57 : decode cX7_copyFrom 57 = .ok (.getfield 46, 3) := by decide +kernel
theorem dX7_copyFrom_60 : decode cX7_copyFrom 60 = .ok (.putfield 46, 3) := by decide +kernel
theorem dX7_copyFrom_63 : decode cX7_copyFrom 63 = .ok (.aload_n 0, 1) := by decide +kernel
theorem dX7_copyFrom_64 : decode cX7_copyFrom 64 = .ok (.aload_n 1, 1) := by decide +kernel
theorem dX7_copyFrom_65 : decode cX7_copyFrom 65 = .ok (.getfield 50, 3) := by decide +kernel
theorem dX7_copyFrom_68 : decode cX7_copyFrom 68 = .ok (.putfield 50, 3) := by decide +kernel
theorem dX7_copyFrom_71 : decode cX7_copyFrom 71 = .ok (.aload_n 0, 1) := by decide +kernel
theorem dX7_copyFrom_72 : decode cX7_copyFrom 72 = .ok (.aload_n 1, 1) := by decide +kernel
theorem dX7_copyFrom_73 : decode cX7_copyFrom 73 = .ok (.getfield 53, 3) := by decide +kernel
theorem dX7_copyFrom_76 : decode cX7_copyFrom 76 = .ok (.putfield 53, 3) := by decide +kernel
theorem dX7_copyFrom_79 : decode cX7_copyFrom 79 = .ok (.return_, 1) := by decide +kernel
set_option maxRecDepth 20000 in
theorem ggX7_driveTo_X9_isBarn : GoodIn wsX7_driveTo wsX9_isBarn := goodIn_r _ [11] (by decide +kernel) (by decide +kernel)
set_option maxRecDepth 20000 in
theorem gX7_driveTo_X9_isBarn_n72 : GoodIn wsX7_driveTo (wsX9_isBarn) := ggX7_driveTo_X9_isBarn
set_option maxRecDepth 20000 in
theorem ggX7_driveTo_X0_payDriving : GoodIn wsX7_driveTo wsX0_payDriving := goodIn_r _ [16, 17, 26, 27, 28, 29, 30, 31, 32] (by decide +kernel) (by decide +kernel)
set_option maxRecDepth 20000 in
theorem gX7_driveTo_X0_payDriving : GoodIn wsX7_driveTo (wsV RX7 88 RX0 yX0_payDriving wsX0_payDriving) := goodIn_app (goodIn_of _ (by decide +kernel)) ggX7_driveTo_X0_payDriving
theorem dX7_driveTo_0 : decode cX7_driveTo 0 = .ok (.iload_n 1, 1) := by decide +kernel
theorem dX7_driveTo_1 : decode cX7_driveTo 1 = .ok (.invokestatic 72, 3) := by decide +kernel
theorem dX7_driveTo_4 : decode cX7_driveTo 4 = .ok (.ifCond .ne 6, 3) := by decide +kernel
theorem dX7_driveTo_7 : decode cX7_driveTo 7 = .ok (.ldc 76, 2) := by decide +kernel
theorem dX7_driveTo_9 : decode cX7_driveTo 9 = .ok (.ireturn, 1) := by decide +kernel
theorem dX7_driveTo_10 : decode cX7_driveTo 10 = .ok (.iload_n 1, 1) := by decide +kernel
theorem dX7_driveTo_11 : decode cX7_driveTo 11 = .ok (.aload_n 0, 1) := by decide +kernel
theorem dX7_driveTo_12 : decode cX7_driveTo 12 = .ok (.getfield 46, 3) := by decide +kernel
theorem dX7_driveTo_15 : decode cX7_driveTo 15 = .ok (.if_icmp .ne 6, 3) := by decide +kernel
theorem dX7_driveTo_18 : decode cX7_driveTo 18 = .ok (.ldc 77, 2) := by decide +kernel
theorem dX7_driveTo_20 : decode cX7_driveTo 20 = .ok (.ireturn, 1) := by decide +kernel
theorem dX7_driveTo_21 : decode cX7_driveTo 21 = .ok (.getstatic 78, 3) := by decide +kernel
theorem dX7_driveTo_24 : decode cX7_driveTo 24 = .ok (.iload_n 1, 1) := by decide +kernel
theorem dX7_driveTo_25 : decode cX7_driveTo 25 = .ok (.iaload, 1) := by decide +kernel
theorem dX7_driveTo_26 : decode cX7_driveTo 26 = .ok (.getstatic 78, 3) := by decide +kernel
theorem dX7_driveTo_29 : decode cX7_driveTo 29 = .ok (.aload_n 0, 1) := by decide +kernel
theorem dX7_driveTo_30 : decode cX7_driveTo 30 = .ok (.getfield 46, 3) := by decide +kernel
theorem dX7_driveTo_33 : decode cX7_driveTo 33 = .ok (.iaload, 1) := by decide +kernel
theorem dX7_driveTo_34 : decode cX7_driveTo 34 = .ok (.isub, 1) := by decide +kernel
theorem dX7_driveTo_35 : decode cX7_driveTo 35 = .ok (.invokestatic 82, 3) := by decide +kernel
theorem dX7_driveTo_38 : decode cX7_driveTo 38 = .ok (.istore_n 2, 1) := by decide +kernel
theorem dX7_driveTo_39 : decode cX7_driveTo 39 = .ok (.aload_n 0, 1) := by decide +kernel
theorem dX7_driveTo_40 : decode cX7_driveTo 40 = .ok (.iload_n 1, 1) := by decide +kernel
theorem dX7_driveTo_41 : decode cX7_driveTo 41 = .ok (.putfield 46, 3) := by decide +kernel
theorem dX7_driveTo_44 : decode cX7_driveTo 44 = .ok (.aload_n 0, 1) := by decide +kernel
theorem dX7_driveTo_45 : decode cX7_driveTo 45 = .ok (.getfield 42, 3) := by decide +kernel
theorem dX7_driveTo_48 : decode cX7_driveTo 48 = .ok (.iload_n 2, 1) := by decide +kernel
theorem dX7_driveTo_49 : decode cX7_driveTo 49 = .ok (.invokevirtual 88, 3) := by decide +kernel
theorem dX7_driveTo_52 : decode cX7_driveTo 52 = .ok (.iload_n 2, 1) := by decide +kernel
theorem dX7_driveTo_53 : decode cX7_driveTo 53 = .ok (.ireturn, 1) := by decide +kernel
set_option maxRecDepth 20000 in
theorem ggX7_carryReel_X4_isThere : GoodIn wsX7_carryReel wsX4_isThere := goodIn_r _ [8, 9, 49, 50, 51, 52, 53] (by decide +kernel) (by decide +kernel)
set_option maxRecDepth 20000 in
theorem gX7_carryReel_X4_isThere : GoodIn wsX7_carryReel (wsV RX7 92 RX4 yX4_isThere wsX4_isThere) := goodIn_app (goodIn_of _ (by decide +kernel)) ggX7_carryReel_X4_isThere
set_option maxRecDepth 20000 in
theorem ggX7_carryReel_X4_placeOf : GoodIn wsX7_carryReel wsX4_placeOf := goodIn_r _ [13, 9, 49, 50, 51, 52, 53] (by decide +kernel) (by decide +kernel)
set_option maxRecDepth 20000 in
theorem gX7_carryReel_X4_placeOf : GoodIn wsX7_carryReel (wsV RX7 95 RX4 yX4_placeOf wsX4_placeOf) := goodIn_app (goodIn_of _ (by decide +kernel)) ggX7_carryReel_X4_placeOf
set_option maxRecDepth 20000 in
theorem ggX7_carryReel_X7_refusalToCarry : GoodIn wsX7_carryReel wsX7_refusalToCarry := goodIn_r _ [18, 3, 19, 20, 21, 22, 23, 24, 17, 25, 1, 26, 27, 28, 29, 7, 30, 9, 31, 32, 33, 34, 35, 36, 41, 42, 43, 44, 45, 46, 47, 48, 49, 50, 51, 52, 53, 54, 55] (by decide +kernel) (by decide +kernel)
set_option maxRecDepth 20000 in
theorem gX7_carryReel_X7_refusalToCarry : GoodIn wsX7_carryReel (wsV RX7 98 RX7 yX7_refusalToCarry wsX7_refusalToCarry) := goodIn_app (goodIn_of _ (by decide +kernel)) ggX7_carryReel_X7_refusalToCarry
set_option maxRecDepth 20000 in
theorem ggX7_carryReel_X4_put : GoodIn wsX7_carryReel wsX4_put := goodIn_r _ [40, 9, 49, 50, 51, 52, 53] (by decide +kernel) (by decide +kernel)
set_option maxRecDepth 20000 in
theorem gX7_carryReel_X4_put : GoodIn wsX7_carryReel (wsV RX7 102 RX4 yX4_put wsX4_put) := goodIn_app (goodIn_of _ (by decide +kernel)) ggX7_carryReel_X4_put
set_option maxRecDepth 20000 in
theorem ggX7_carryReel_X7_thingsInVan : GoodIn wsX7_carryReel wsX7_thingsInVan := goodIn_r _ [25, 1, 26, 27, 28, 29, 7, 30, 9, 31, 32, 33, 34, 35, 36, 41, 42, 43, 44, 45, 46, 47, 48, 49, 50, 51, 52, 53, 54, 55] (by decide +kernel) (by decide +kernel)
set_option maxRecDepth 20000 in
theorem gX7_carryReel_X7_thingsInVan : GoodIn wsX7_carryReel (wsV RX7 106 RX7 yX7_thingsInVan wsX7_thingsInVan) := goodIn_app (goodIn_of _ (by decide +kernel)) ggX7_carryReel_X7_thingsInVan
theorem dX7_carryReel_0 : decode cX7_carryReel 0 = .ok (.aload_n 0, 1) := by decide +kernel
theorem dX7_carryReel_1 : decode cX7_carryReel 1 = .ok (.getfield 12, 3) := by decide +kernel
theorem dX7_carryReel_4 : decode cX7_carryReel 4 = .ok (.iload_n 1, 1) := by decide +kernel
theorem dX7_carryReel_5 : decode cX7_carryReel 5 = .ok (.invokevirtual 92, 3) := by decide +kernel
theorem dX7_carryReel_8 : decode cX7_carryReel 8 = .ok (.ifCond .ne 6, 3) := by decide +kernel
theorem dX7_carryReel_11 : decode cX7_carryReel 11 = .ok (.ldc 76, 2) := by decide +kernel
theorem dX7_carryReel_13 : decode cX7_carryReel 13 = .ok (.ireturn, 1) := by decide +kernel
theorem dX7_carryReel_14 : decode cX7_carryReel 14 = .ok (.aload_n 0, 1) := by decide +kernel
theorem dX7_carryReel_15 : decode cX7_carryReel 15 = .ok (.aload_n 0, 1) := by decide +kernel
theorem dX7_carryReel_16 : decode cX7_carryReel 16 = .ok (.getfield 12, 3) := by decide +kernel
theorem dX7_carryReel_19 : decode cX7_carryReel 19 = .ok (.iload_n 1, 1) := by decide +kernel
theorem dX7_carryReel_20 : decode cX7_carryReel 20 = .ok (.invokevirtual 95, 3) := by decide +kernel
theorem dX7_carryReel_23 : decode cX7_carryReel 23 = .ok (.iload_n 2, 1) := by decide +kernel
theorem dX7_carryReel_24 : decode cX7_carryReel 24 = .ok (.invokevirtual 98, 3) := by decide +kernel
theorem dX7_carryReel_27 : decode cX7_carryReel 27 = .ok (.istore_n 3, 1) := by decide +kernel
theorem dX7_carryReel_28 : decode cX7_carryReel 28 = .ok (.iload_n 3, 1) := by decide +kernel
theorem dX7_carryReel_29 : decode cX7_carryReel 29 = .ok (.ifCond .eq 5, 3) := by decide +kernel
theorem dX7_carryReel_32 : decode cX7_carryReel 32 = .ok (.iload_n 3, 1) := by decide +kernel
theorem dX7_carryReel_33 : decode cX7_carryReel 33 = .ok (.ireturn, 1) := by decide +kernel
theorem dX7_carryReel_34 : decode cX7_carryReel 34 = .ok (.aload_n 0, 1) := by decide +kernel
theorem dX7_carryReel_35 : decode cX7_carryReel 35 = .ok (.getfield 12, 3) := by decide +kernel
theorem dX7_carryReel_38 : decode cX7_carryReel 38 = .ok (.iload_n 1, 1) := by decide +kernel
theorem dX7_carryReel_39 : decode cX7_carryReel 39 = .ok (.iload_n 2, 1) := by decide +kernel
theorem dX7_carryReel_40 : decode cX7_carryReel 40 = .ok (.ifCond .eq 7, 3) := by decide +kernel
theorem dX7_carryReel_43 : decode cX7_carryReel 43 = .ok (.iconst (-1), 1) := by decide +kernel
theorem dX7_carryReel_44 : decode cX7_carryReel 44 = .ok (.goto 7, 3) := by decide +kernel
theorem dX7_carryReel_47 : decode cX7_carryReel 47 = .ok (.aload_n 0, 1) := by decide +kernel
theorem dX7_carryReel_48 : decode cX7_carryReel 48 = .ok (.getfield 46, 3) := by decide +kernel
theorem dX7_carryReel_51 : decode cX7_carryReel 51 = .ok (.invokevirtual 102, 3) := by decide +kernel
theorem dX7_carryReel_54 : decode cX7_carryReel 54 = .ok (.aload_n 0, 1) := by decide +kernel
theorem dX7_carryReel_55 : decode cX7_carryReel 55 = .ok (.invokevirtual 106, 3) := by decide +kernel
theorem dX7_carryReel_58 : decode cX7_carryReel 58 = .ok (.ireturn, 1) := by decide +kernel
set_option maxRecDepth 20000 in
theorem ggX7_carryGenerator_X9_isGenerator : GoodIn wsX7_carryGenerator wsX9_isGenerator := goodIn_r _ [6] (by decide +kernel) (by decide +kernel)
set_option maxRecDepth 20000 in
theorem gX7_carryGenerator_X9_isGenerator_n110 : GoodIn wsX7_carryGenerator (wsX9_isGenerator) := ggX7_carryGenerator_X9_isGenerator
set_option maxRecDepth 20000 in
theorem ggX7_carryGenerator_X2_placeOf : GoodIn wsX7_carryGenerator wsX2_placeOf := goodIn_r _ [11, 12, 48, 49] (by decide +kernel) (by decide +kernel)
set_option maxRecDepth 20000 in
theorem gX7_carryGenerator_X2_placeOf : GoodIn wsX7_carryGenerator (wsV RX7 113 RX2 yX2_placeOf wsX2_placeOf) := goodIn_app (goodIn_of _ (by decide +kernel)) ggX7_carryGenerator_X2_placeOf
set_option maxRecDepth 20000 in
theorem ggX7_carryGenerator_X7_refusalToCarry : GoodIn wsX7_carryGenerator wsX7_refusalToCarry := goodIn_r _ [17, 3, 18, 19, 20, 21, 22, 23, 16, 24, 25, 2, 26, 27, 28, 29, 30, 31, 32, 33, 34, 10, 35, 12, 40, 41, 42, 43, 44, 45, 46, 47, 50, 51, 52, 53, 54, 48, 49] (by decide +kernel) (by decide +kernel)
set_option maxRecDepth 20000 in
theorem gX7_carryGenerator_X7_refusalToCarry : GoodIn wsX7_carryGenerator (wsV RX7 98 RX7 yX7_refusalToCarry wsX7_refusalToCarry) := goodIn_app (goodIn_of _ (by decide +kernel)) ggX7_carryGenerator_X7_refusalToCarry
set_option maxRecDepth 20000 in
theorem ggX7_carryGenerator_X2_put : GoodIn wsX7_carryGenerator wsX2_put := goodIn_r _ [39, 12, 48, 49] (by decide +kernel) (by decide +kernel)
set_option maxRecDepth 20000 in
theorem gX7_carryGenerator_X2_put : GoodIn wsX7_carryGenerator (wsV RX7 114 RX2 yX2_put wsX2_put) := goodIn_app (goodIn_of _ (by decide +kernel)) ggX7_carryGenerator_X2_put
set_option maxRecDepth 20000 in
theorem ggX7_carryGenerator_X7_thingsInVan : GoodIn wsX7_carryGenerator wsX7_thingsInVan := goodIn_r _ [24, 25, 2, 26, 27, 28, 29, 30, 31, 32, 33, 34, 10, 35, 12, 40, 41, 42, 43, 44, 45, 46, 47, 50, 51, 52, 53, 54, 48, 49] (by decide +kernel) (by decide +kernel)
set_option maxRecDepth 20000 in
theorem gX7_carryGenerator_X7_thingsInVan : GoodIn wsX7_carryGenerator (wsV RX7 106 RX7 yX7_thingsInVan wsX7_thingsInVan) := goodIn_app (goodIn_of _ (by decide +kernel)) ggX7_carryGenerator_X7_thingsInVan
theorem dX7_carryGenerator_0 : decode cX7_carryGenerator 0 = .ok (.iload_n 1, 1) := by decide +kernel
theorem dX7_carryGenerator_1 : decode cX7_carryGenerator 1 = .ok (.invokestatic 110, 3) := by decide +kernel
theorem dX7_carryGenerator_4 : decode cX7_carryGenerator 4 = .ok (.ifCond .ne 6, 3) := by decide +kernel
theorem dX7_carryGenerator_7 : decode cX7_carryGenerator 7 = .ok (.ldc 76, 2) := by decide +kernel
theorem dX7_carryGenerator_9 : decode cX7_carryGenerator 9 = .ok (.ireturn, 1) := by decide +kernel
theorem dX7_carryGenerator_10 : decode cX7_carryGenerator 10 = .ok (.aload_n 0, 1) := by decide +kernel
theorem dX7_carryGenerator_11 : decode cX7_carryGenerator 11 = .ok (.aload_n 0, 1) := by decide +kernel
theorem dX7_carryGenerator_12 : decode cX7_carryGenerator 12 = .ok (.getfield 21, 3) := by decide +kernel
theorem dX7_carryGenerator_15 : decode cX7_carryGenerator 15 = .ok (.iload_n 1, 1) := by decide +kernel
theorem dX7_carryGenerator_16 : decode cX7_carryGenerator 16 = .ok (.invokevirtual 113, 3) := by decide +kernel
theorem dX7_carryGenerator_19 : decode cX7_carryGenerator 19 = .ok (.iload_n 2, 1) := by decide +kernel
theorem dX7_carryGenerator_20 : decode cX7_carryGenerator 20 = .ok (.invokevirtual 98, 3) := by decide +kernel
theorem dX7_carryGenerator_23 : decode cX7_carryGenerator 23 = .ok (.istore_n 3, 1) := by decide +kernel
theorem dX7_carryGenerator_24 : decode cX7_carryGenerator 24 = .ok (.iload_n 3, 1) := by decide +kernel
theorem dX7_carryGenerator_25 : decode cX7_carryGenerator 25 = .ok (.ifCond .eq 5, 3) := by decide +kernel
theorem dX7_carryGenerator_28 : decode cX7_carryGenerator 28 = .ok (.iload_n 3, 1) := by decide +kernel
theorem dX7_carryGenerator_29 : decode cX7_carryGenerator 29 = .ok (.ireturn, 1) := by decide +kernel
theorem dX7_carryGenerator_30 : decode cX7_carryGenerator 30 = .ok (.aload_n 0, 1) := by decide +kernel
theorem dX7_carryGenerator_31 : decode cX7_carryGenerator 31 = .ok (.getfield 21, 3) := by decide +kernel
theorem dX7_carryGenerator_34 : decode cX7_carryGenerator 34 = .ok (.iload_n 1, 1) := by decide +kernel
theorem dX7_carryGenerator_35 : decode cX7_carryGenerator 35 = .ok (.iload_n 2, 1) := by decide +kernel
theorem dX7_carryGenerator_36 : decode cX7_carryGenerator 36 = .ok (.ifCond .eq 7, 3) := by decide +kernel
theorem dX7_carryGenerator_39 : decode cX7_carryGenerator 39 = .ok (.iconst (-1), 1) := by decide +kernel
theorem dX7_carryGenerator_40 : decode cX7_carryGenerator 40 = .ok (.goto 7, 3) := by decide +kernel
theorem dX7_carryGenerator_43 : decode cX7_carryGenerator 43 = .ok (.aload_n 0, 1) := by decide +kernel
theorem dX7_carryGenerator_44 : decode cX7_carryGenerator 44 = .ok (.getfield 46, 3) := by decide +kernel
theorem dX7_carryGenerator_47 : decode cX7_carryGenerator 47 = .ok (.invokevirtual 114, 3) := by decide +kernel
theorem dX7_carryGenerator_50 : decode cX7_carryGenerator 50 = .ok (.aload_n 0, 1) := by decide +kernel
theorem dX7_carryGenerator_51 : decode cX7_carryGenerator 51 = .ok (.invokevirtual 106, 3) := by decide +kernel
theorem dX7_carryGenerator_54 : decode cX7_carryGenerator 54 = .ok (.ireturn, 1) := by decide +kernel
set_option maxRecDepth 20000 in
theorem ggX7_refusalToCarry_X7_thingsInVan : GoodIn wsX7_refusalToCarry wsX7_thingsInVan := goodIn_r _ [9, 10, 11, 12, 13, 14, 15, 16, 17, 18, 19, 20, 21, 22, 23, 24, 25, 26, 27, 28, 29, 30, 31, 32, 33, 34, 35, 36, 37, 38] (by decide +kernel) (by decide +kernel)
set_option maxRecDepth 20000 in
theorem gX7_refusalToCarry_X7_thingsInVan : GoodIn wsX7_refusalToCarry (wsV RX7 106 RX7 yX7_thingsInVan wsX7_thingsInVan) := goodIn_app (goodIn_of _ (by decide +kernel)) ggX7_refusalToCarry_X7_thingsInVan
theorem dX7_refusalToCarry_0 : decode cX7_refusalToCarry 0 = .ok (.iload_n 1, 1) := by decide +kernel
theorem dX7_refusalToCarry_1 : decode cX7_refusalToCarry 1 = .ok (.iconst (-1), 1) := by decide +kernel
theorem dX7_refusalToCarry_2 : decode cX7_refusalToCarry 2 = .ok (.if_icmp .eq 14, 3) := by decide +kernel
theorem dX7_refusalToCarry_5 : decode cX7_refusalToCarry 5 = .ok (.iload_n 1, 1) := by decide +kernel
theorem dX7_refusalToCarry_6 : decode cX7_refusalToCarry 6 = .ok (.aload_n 0, 1) := by decide +kernel
theorem dX7_refusalToCarry_7 : decode cX7_refusalToCarry 7 = .ok (.getfield 46, 3) := by decide +kernel
theorem dX7_refusalToCarry_10 : decode cX7_refusalToCarry 10 = .ok (.if_icmp .eq 6, 3) := by decide +kernel
theorem dX7_refusalToCarry_13 : decode cX7_refusalToCarry 13 = .ok (.ldc 118, 2) := by decide +kernel
theorem dX7_refusalToCarry_15 : decode cX7_refusalToCarry 15 = .ok (.ireturn, 1) := by decide +kernel
theorem dX7_refusalToCarry_16 : decode cX7_refusalToCarry 16 = .ok (.iload_n 2, 1) := by decide +kernel
theorem dX7_refusalToCarry_17 : decode cX7_refusalToCarry 17 = .ok (.iload_n 1, 1) := by decide +kernel
theorem dX7_refusalToCarry_18 : decode cX7_refusalToCarry 18 = .ok (.iconst (-1), 1) := by decide +kernel
theorem dX7_refusalToCarry_19 : decode cX7_refusalToCarry 19 = .ok (.if_icmp .ne 7, 3) := by decide +kernel
theorem dX7_refusalToCarry_22 : decode cX7_refusalToCarry 22 = .ok (.iconst 1, 1) := by decide +kernel
theorem dX7_refusalToCarry_23 : decode cX7_refusalToCarry 23 = .ok (.goto 4, 3) := by decide +kernel
theorem dX7_refusalToCarry_26 : decode cX7_refusalToCarry 26 = .ok (.iconst 0, 1) := by decide +kernel
theorem dX7_refusalToCarry_27 : decode cX7_refusalToCarry 27 = .ok (.if_icmp .ne 6, 3) := by decide +kernel
theorem dX7_refusalToCarry_30 : decode cX7_refusalToCarry 30 = .ok (.ldc 77, 2) := by decide +kernel
theorem dX7_refusalToCarry_32 : decode cX7_refusalToCarry 32 = .ok (.ireturn, 1) := by decide +kernel
theorem dX7_refusalToCarry_33 : decode cX7_refusalToCarry 33 = .ok (.iload_n 2, 1) := by decide +kernel
theorem dX7_refusalToCarry_34 : decode cX7_refusalToCarry 34 = .ok (.ifCond .eq 17, 3) := by decide +kernel
theorem dX7_refusalToCarry_37 : decode cX7_refusalToCarry 37 = .ok (.aload_n 0, 1) := by decide +kernel
theorem dX7_refusalToCarry_38 : decode cX7_refusalToCarry 38 = .ok (.invokevirtual 106, 3) := by decide +kernel
theorem dX7_refusalToCarry_41 : decode cX7_refusalToCarry 41 = .ok (.bipush 8, 2) := by decide +kernel
theorem dX7_refusalToCarry_43 : decode cX7_refusalToCarry 43 = .ok (.if_icmp .lt 8, 3) := by decide +kernel
theorem dX7_refusalToCarry_46 : decode cX7_refusalToCarry 46 = .ok (.ldc 119, 2) := by decide +kernel
theorem dX7_refusalToCarry_48 : decode cX7_refusalToCarry 48 = .ok (.goto 4, 3) := by decide +kernel
theorem dX7_refusalToCarry_51 : decode cX7_refusalToCarry 51 = .ok (.iconst 0, 1) := by decide +kernel
theorem dX7_refusalToCarry_52 : decode cX7_refusalToCarry 52 = .ok (.ireturn, 1) := by decide +kernel
set_option maxRecDepth 20000 in
theorem ggX7_thingsInVan_X4_numberAt : GoodIn wsX7_thingsInVan wsX4_numberAt := goodIn_r _ [7, 8, 23, 24, 25, 26, 27] (by decide +kernel) (by decide +kernel)
set_option maxRecDepth 20000 in
theorem gX7_thingsInVan_X4_numberAt : GoodIn wsX7_thingsInVan (wsV RX7 120 RX4 yX4_numberAt wsX4_numberAt) := goodIn_app (goodIn_of _ (by decide +kernel)) ggX7_thingsInVan_X4_numberAt
set_option maxRecDepth 20000 in
theorem ggX7_thingsInVan_X2_numberAt : GoodIn wsX7_thingsInVan wsX2_numberAt := goodIn_r _ [13, 14, 28, 29] (by decide +kernel) (by decide +kernel)
set_option maxRecDepth 20000 in
theorem gX7_thingsInVan_X2_numberAt : GoodIn wsX7_thingsInVan (wsV RX7 123 RX2 yX2_numberAt wsX2_numberAt) := goodIn_app (goodIn_of _ (by decide +kernel)) ggX7_thingsInVan_X2_numberAt
theorem dX7_thingsInVan_0 : decode cX7_thingsInVan 0 = .ok (.aload_n 0, 1) := by decide +kernel
theorem dX7_thingsInVan_1 : decode cX7_thingsInVan 1 = .ok (.getfield 12, 3) := by decide +kernel
theorem dX7_thingsInVan_4 : decode cX7_thingsInVan 4 = .ok (.iconst (-1), 1) := by decide +kernel
theorem dX7_thingsInVan_5 : decode cX7_thingsInVan 5 = .ok (.invokevirtual 120, 3) := by decide +kernel
theorem dX7_thingsInVan_8 : decode cX7_thingsInVan 8 = .ok (.aload_n 0, 1) := by decide +kernel
theorem dX7_thingsInVan_9 : decode cX7_thingsInVan 9 = .ok (.getfield 21, 3) := by decide +kernel
theorem dX7_thingsInVan_12 : decode cX7_thingsInVan 12 = .ok (.iconst (-1), 1) := by decide +kernel
theorem dX7_thingsInVan_13 : decode cX7_thingsInVan 13 = .ok (.invokevirtual 123, 3) := by decide +kernel
theorem dX7_thingsInVan_16 : decode cX7_thingsInVan 16 = .ok (.iadd, 1) := by decide +kernel
theorem dX7_thingsInVan_17 : decode cX7_thingsInVan 17 = .ok (.ireturn, 1) := by decide +kernel
set_option maxRecDepth 20000 in
theorem ggX7_buyFuel_X9_isGenerator : GoodIn wsX7_buyFuel wsX9_isGenerator := goodIn_r _ [9] (by decide +kernel) (by decide +kernel)
set_option maxRecDepth 20000 in
theorem gX7_buyFuel_X9_isGenerator_n110 : GoodIn wsX7_buyFuel (wsX9_isGenerator) := ggX7_buyFuel_X9_isGenerator
set_option maxRecDepth 20000 in
theorem ggX7_buyFuel_X9_isFuelOnSale : GoodIn wsX7_buyFuel wsX9_isFuelOnSale := goodIn_r _ [11] (by decide +kernel) (by decide +kernel)
set_option maxRecDepth 20000 in
theorem gX7_buyFuel_X9_isFuelOnSale_n124 : GoodIn wsX7_buyFuel (wsX9_isFuelOnSale) := ggX7_buyFuel_X9_isFuelOnSale
set_option maxRecDepth 20000 in
theorem ggX7_buyFuel_X2_placeOf : GoodIn wsX7_buyFuel wsX2_placeOf := goodIn_r _ [16, 17, 41, 42] (by decide +kernel) (by decide +kernel)
set_option maxRecDepth 20000 in
theorem gX7_buyFuel_X2_placeOf : GoodIn wsX7_buyFuel (wsV RX7 113 RX2 yX2_placeOf wsX2_placeOf) := goodIn_app (goodIn_of _ (by decide +kernel)) ggX7_buyFuel_X2_placeOf
set_option maxRecDepth 20000 in
theorem ggX7_buyFuel_X2_minutesOf : GoodIn wsX7_buyFuel wsX2_minutesOf := goodIn_r _ [21, 22, 41, 42] (by decide +kernel) (by decide +kernel)
set_option maxRecDepth 20000 in
theorem gX7_buyFuel_X2_minutesOf : GoodIn wsX7_buyFuel (wsV RX7 128 RX2 yX2_minutesOf wsX2_minutesOf) := goodIn_app (goodIn_of _ (by decide +kernel)) ggX7_buyFuel_X2_minutesOf
set_option maxRecDepth 20000 in
theorem ggX7_buyFuel_X2_addMinutes : GoodIn wsX7_buyFuel wsX2_addMinutes := goodIn_r _ [26, 22, 41, 42] (by decide +kernel) (by decide +kernel)
set_option maxRecDepth 20000 in
theorem gX7_buyFuel_X2_addMinutes : GoodIn wsX7_buyFuel (wsV RX7 131 RX2 yX2_addMinutes wsX2_addMinutes) := goodIn_app (goodIn_of _ (by decide +kernel)) ggX7_buyFuel_X2_addMinutes
set_option maxRecDepth 20000 in
theorem ggX7_buyFuel_X0_payFuel : GoodIn wsX7_buyFuel wsX0_payFuel := goodIn_r _ [31, 32, 43, 44, 45, 46, 47, 48, 49] (by decide +kernel) (by decide +kernel)
set_option maxRecDepth 20000 in
theorem gX7_buyFuel_X0_payFuel : GoodIn wsX7_buyFuel (wsV RX7 134 RX0 yX0_payFuel wsX0_payFuel) := goodIn_app (goodIn_of _ (by decide +kernel)) ggX7_buyFuel_X0_payFuel
theorem dX7_buyFuel_0 : decode cX7_buyFuel 0 = .ok (.iload_n 1, 1) := by decide +kernel
theorem dX7_buyFuel_1 : decode cX7_buyFuel 1 = .ok (.invokestatic 110, 3) := by decide +kernel
theorem dX7_buyFuel_4 : decode cX7_buyFuel 4 = .ok (.ifCond .ne 6, 3) := by decide +kernel
theorem dX7_buyFuel_7 : decode cX7_buyFuel 7 = .ok (.ldc 76, 2) := by decide +kernel
theorem dX7_buyFuel_9 : decode cX7_buyFuel 9 = .ok (.ireturn, 1) := by decide +kernel
theorem dX7_buyFuel_10 : decode cX7_buyFuel 10 = .ok (.iload_n 2, 1) := by decide +kernel
theorem dX7_buyFuel_11 : decode cX7_buyFuel 11 = .ok (.invokestatic 124, 3) := by decide +kernel
theorem dX7_buyFuel_14 : decode cX7_buyFuel 14 = .ok (.ifCond .ne 6, 3) := by decide +kernel
theorem dX7_buyFuel_17 : decode cX7_buyFuel 17 = .ok (.ldc 127, 2) := by decide +kernel
theorem dX7_buyFuel_19 : decode cX7_buyFuel 19 = .ok (.ireturn, 1) := by decide +kernel
theorem dX7_buyFuel_20 : decode cX7_buyFuel 20 = .ok (.aload_n 0, 1) := by decide +kernel
theorem dX7_buyFuel_21 : decode cX7_buyFuel 21 = .ok (.getfield 21, 3) := by decide +kernel
theorem dX7_buyFuel_24 : decode cX7_buyFuel 24 = .ok (.iload_n 1, 1) := by decide +kernel
theorem dX7_buyFuel_25 : decode cX7_buyFuel 25 = .ok (.invokevirtual 113, 3) := by decide +kernel
theorem dX7_buyFuel_28 : decode cX7_buyFuel 28 = .ok (.iconst (-1), 1) := by decide +kernel
theorem dX7_buyFuel_29 : decode cX7_buyFuel 29 = .ok (.if_icmp .eq 6, 3) := by decide +kernel
theorem dX7_buyFuel_32 : decode cX7_buyFuel 32 = .ok (.ldc 118, 2) := by decide +kernel
theorem dX7_buyFuel_34 : decode cX7_buyFuel 34 = .ok (.ireturn, 1) := by decide +kernel
theorem dX7_buyFuel_35 : decode cX7_buyFuel 35 = .ok (.aload_n 0, 1) := by decide +kernel
theorem dX7_buyFuel_36 : decode cX7_buyFuel 36 = .ok (.getfield 21, 3) := by decide +kernel
theorem dX7_buyFuel_39 : decode cX7_buyFuel 39 = .ok (.iload_n 1, 1) := by decide +kernel
theorem dX7_buyFuel_40 : decode cX7_buyFuel 40 = .ok (.invokevirtual 128, 3) := by decide +kernel
theorem dX7_buyFuel_43 : decode cX7_buyFuel 43 = .ok (.iload_n 2, 1) := by decide +kernel
theorem dX7_buyFuel_44 : decode cX7_buyFuel 44 = .ok (.iadd, 1) := by decide +kernel
theorem dX7_buyFuel_45 : decode cX7_buyFuel 45 = .ok (.sipush 500, 3) := by decide +kernel
theorem dX7_buyFuel_48 : decode cX7_buyFuel 48 = .ok (.if_icmp .le 6, 3) := by decide +kernel
theorem dX7_buyFuel_51 : decode cX7_buyFuel 51 = .ok (.ldc 119, 2) := by decide +kernel
theorem dX7_buyFuel_53 : decode cX7_buyFuel 53 = .ok (.ireturn, 1) := by decide +kernel
theorem dX7_buyFuel_54 : decode cX7_buyFuel 54 = .ok (.aload_n 0, 1) := by decide +kernel
theorem dX7_buyFuel_55 : decode cX7_buyFuel 55 = .ok (.getfield 21, 3) := by decide +kernel
theorem dX7_buyFuel_58 : decode cX7_buyFuel 58 = .ok (.iload_n 1, 1) := by decide +kernel
theorem dX7_buyFuel_59 : decode cX7_buyFuel 59 = .ok (.iload_n 2, 1) := by decide +kernel
theorem dX7_buyFuel_60 : decode cX7_buyFuel 60 = .ok (.invokevirtual 131, 3) := by decide +kernel
theorem dX7_buyFuel_63 : decode cX7_buyFuel 63 = .ok (.aload_n 0, 1) := by decide +kernel
theorem dX7_buyFuel_64 : decode cX7_buyFuel 64 = .ok (.getfield 42, 3) := by decide +kernel
theorem dX7_buyFuel_67 : decode cX7_buyFuel 67 = .ok (.iload_n 2, 1) := by decide +kernel
theorem dX7_buyFuel_68 : decode cX7_buyFuel 68 = .ok (.iconst 5, 1) := by decide +kernel
theorem dX7_buyFuel_69 : decode cX7_buyFuel 69 = .ok (.idiv, 1) := by decide +kernel
theorem dX7_buyFuel_70 : decode cX7_buyFuel 70 = .ok (.invokevirtual 134, 3) := by decide +kernel
theorem dX7_buyFuel_73 : decode cX7_buyFuel 73 = .ok (.aload_n 0, 1) := by decide +kernel
theorem dX7_buyFuel_74 : decode cX7_buyFuel 74 = .ok (.getfield 21, 3) := by decide +kernel
theorem dX7_buyFuel_77 : decode cX7_buyFuel 77 = .ok (.iload_n 1, 1) := by decide +kernel
theorem dX7_buyFuel_78 : decode cX7_buyFuel 78 = .ok (.invokevirtual 128, 3) := by decide +kernel
theorem dX7_buyFuel_81 : decode cX7_buyFuel 81 = .ok (.ireturn, 1) := by decide +kernel
set_option maxRecDepth 20000 in
theorem ggX7_renewReel_X4_isThere : GoodIn wsX7_renewReel wsX4_isThere := goodIn_r _ [9, 10, 41, 42, 43, 44, 45] (by decide +kernel) (by decide +kernel)
set_option maxRecDepth 20000 in
theorem gX7_renewReel_X4_isThere : GoodIn wsX7_renewReel (wsV RX7 92 RX4 yX4_isThere wsX4_isThere) := goodIn_app (goodIn_of _ (by decide +kernel)) ggX7_renewReel_X4_isThere
set_option maxRecDepth 20000 in
theorem ggX7_renewReel_X4_placeOf : GoodIn wsX7_renewReel wsX4_placeOf := goodIn_r _ [14, 10, 41, 42, 43, 44, 45] (by decide +kernel) (by decide +kernel)
set_option maxRecDepth 20000 in
theorem gX7_renewReel_X4_placeOf : GoodIn wsX7_renewReel (wsV RX7 95 RX4 yX4_placeOf wsX4_placeOf) := goodIn_app (goodIn_of _ (by decide +kernel)) ggX7_renewReel_X4_placeOf
set_option maxRecDepth 20000 in
theorem ggX7_renewReel_X4_makeNew : GoodIn wsX7_renewReel wsX4_makeNew := goodIn_r _ [18, 19, 20, 21, 22, 41, 42, 43, 44, 45] (by decide +kernel) (by decide +kernel)
set_option maxRecDepth 20000 in
theorem gX7_renewReel_X4_makeNew : GoodIn wsX7_renewReel (wsV RX7 137 RX4 yX4_makeNew wsX4_makeNew) := goodIn_app (goodIn_of _ (by decide +kernel)) ggX7_renewReel_X4_makeNew
set_option maxRecDepth 20000 in
theorem ggX7_renewReel_X0_payRenewal : GoodIn wsX7_renewReel wsX0_payRenewal := goodIn_r _ [27, 28, 46, 47, 48, 49, 50, 51, 52] (by decide +kernel) (by decide +kernel)
set_option maxRecDepth 20000 in
theorem gX7_renewReel_X0_payRenewal : GoodIn wsX7_renewReel (wsV RX7 140 RX0 yX0_payRenewal wsX0_payRenewal) := goodIn_app (goodIn_of _ (by decide +kernel)) ggX7_renewReel_X0_payRenewal
set_option maxRecDepth 20000 in
theorem ggX7_renewReel_X4_minutesOf : GoodIn wsX7_renewReel wsX4_minutesOf := goodIn_r _ [32, 19, 41, 42, 43, 44, 45] (by decide +kernel) (by decide +kernel)
set_option maxRecDepth 20000 in
theorem gX7_renewReel_X4_minutesOf : GoodIn wsX7_renewReel (wsV RX7 143 RX4 yX4_minutesOf wsX4_minutesOf) := goodIn_app (goodIn_of _ (by decide +kernel)) ggX7_renewReel_X4_minutesOf
theorem dX7_renewReel_0 : decode cX7_renewReel 0 = .ok (.aload_n 0, 1) := by decide +kernel
theorem dX7_renewReel_1 : decode cX7_renewReel 1 = .ok (.getfield 12, 3) := by decide +kernel
theorem dX7_renewReel_4 : decode cX7_renewReel 4 = .ok (.iload_n 1, 1) := by decide +kernel
theorem dX7_renewReel_5 : decode cX7_renewReel 5 = .ok (.invokevirtual 92, 3) := by decide +kernel
theorem dX7_renewReel_8 : decode cX7_renewReel 8 = .ok (.ifCond .ne 6, 3) := by decide +kernel
theorem dX7_renewReel_11 : decode cX7_renewReel 11 = .ok (.ldc 76, 2) := by decide +kernel
theorem dX7_renewReel_13 : decode cX7_renewReel 13 = .ok (.ireturn, 1) := by decide +kernel
theorem dX7_renewReel_14 : decode cX7_renewReel 14 = .ok (.aload_n 0, 1) := by decide +kernel
theorem dX7_renewReel_15 : decode cX7_renewReel 15 = .ok (.getfield 12, 3) := by decide +kernel
theorem dX7_renewReel_18 : decode cX7_renewReel 18 = .ok (.iload_n 1, 1) := by decide +kernel
theorem dX7_renewReel_19 : decode cX7_renewReel 19 = .ok (.invokevirtual 95, 3) := by decide +kernel
theorem dX7_renewReel_22 : decode cX7_renewReel 22 = .ok (.iconst (-1), 1) := by decide +kernel
theorem dX7_renewReel_23 : decode cX7_renewReel 23 = .ok (.if_icmp .eq 6, 3) := by decide +kernel
theorem dX7_renewReel_26 : decode cX7_renewReel 26 = .ok (.ldc 118, 2) := by decide +kernel
theorem dX7_renewReel_28 : decode cX7_renewReel 28 = .ok (.ireturn, 1) := by decide +kernel
theorem dX7_renewReel_29 : decode cX7_renewReel 29 = .ok (.aload_n 0, 1) := by decide +kernel
theorem dX7_renewReel_30 : decode cX7_renewReel 30 = .ok (.getfield 12, 3) := by decide +kernel
theorem dX7_renewReel_33 : decode cX7_renewReel 33 = .ok (.iload_n 1, 1) := by decide +kernel
theorem dX7_renewReel_34 : decode cX7_renewReel 34 = .ok (.invokevirtual 137, 3) := by decide +kernel
theorem dX7_renewReel_37 : decode cX7_renewReel 37 = .ok (.aload_n 0, 1) := by decide +kernel
theorem dX7_renewReel_38 : decode cX7_renewReel 38 = .ok (.getfield 42, 3) := by decide +kernel
theorem dX7_renewReel_41 : decode cX7_renewReel 41 = .ok (.invokevirtual 140, 3) := by decide +kernel
theorem dX7_renewReel_44 : decode cX7_renewReel 44 = .ok (.aload_n 0, 1) := by decide +kernel
theorem dX7_renewReel_45 : decode cX7_renewReel 45 = .ok (.getfield 12, 3) := by decide +kernel
theorem dX7_renewReel_48 : decode cX7_renewReel 48 = .ok (.iload_n 1, 1) := by decide +kernel
theorem dX7_renewReel_49 : decode cX7_renewReel 49 = .ok (.invokevirtual 143, 3) := by decide +kernel
theorem dX7_renewReel_52 : decode cX7_renewReel 52 = .ok (.ireturn, 1) := by decide +kernel
set_option maxRecDepth 20000 in
theorem ggX7_changePrice_X9_isPrice : GoodIn wsX7_changePrice wsX9_isPrice := goodIn_r _ [6] (by decide +kernel) (by decide +kernel)
set_option maxRecDepth 20000 in
theorem gX7_changePrice_X9_isPrice_n144 : GoodIn wsX7_changePrice (wsX9_isPrice) := ggX7_changePrice_X9_isPrice
theorem dX7_changePrice_0 : decode cX7_changePrice 0 = .ok (.iload_n 1, 1) := by decide +kernel
theorem dX7_changePrice_1 : decode cX7_changePrice 1 = .ok (.invokestatic 144, 3) := by decide +kernel
theorem dX7_changePrice_4 : decode cX7_changePrice 4 = .ok (.ifCond .ne 6, 3) := by decide +kernel
theorem dX7_changePrice_7 : decode cX7_changePrice 7 = .ok (.ldc 127, 2) := by decide +kernel
theorem dX7_changePrice_9 : decode cX7_changePrice 9 = .ok (.ireturn, 1) := by decide +kernel
theorem dX7_changePrice_10 : decode cX7_changePrice 10 = .ok (.iload_n 1, 1) := by decide +kernel
theorem dX7_changePrice_11 : decode cX7_changePrice 11 = .ok (.aload_n 0, 1) := by decide +kernel
theorem dX7_changePrice_12 : decode cX7_changePrice 12 = .ok (.getfield 53, 3) := by decide +kernel
theorem dX7_changePrice_15 : decode cX7_changePrice 15 = .ok (.if_icmp .ne 6, 3) := by decide +kernel
theorem dX7_changePrice_18 : decode cX7_changePrice 18 = .ok (.ldc 77, 2) := by decide +kernel
theorem dX7_changePrice_20 : decode cX7_changePrice 20 = .ok (.ireturn, 1) := by decide +kernel
theorem dX7_changePrice_21 : decode cX7_changePrice 21 = .ok (.aload_n 0, 1) := by decide +kernel
theorem dX7_changePrice_22 : decode cX7_changePrice 22 = .ok (.getfield 53, 3) := by decide +kernel
theorem dX7_changePrice_25 : decode cX7_changePrice 25 = .ok (.istore_n 2, 1) := by decide +kernel
theorem dX7_changePrice_26 : decode cX7_changePrice 26 = .ok (.aload_n 0, 1) := by decide +kernel
theorem dX7_changePrice_27 : decode cX7_changePrice 27 = .ok (.iload_n 1, 1) := by decide +kernel
theorem dX7_changePrice_28 : decode cX7_changePrice 28 = .ok (.putfield 53, 3) := by decide +kernel
theorem dX7_changePrice_31 : decode cX7_changePrice 31 = .ok (.iload_n 2, 1) := by decide +kernel
theorem dX7_changePrice_32 : decode cX7_changePrice 32 = .ok (.ireturn, 1) := by decide +kernel
set_option maxRecDepth 20000 in
theorem ggX7_showIn_X9_isBarn : GoodIn wsX7_showIn wsX9_isBarn := goodIn_r _ [12] (by decide +kernel) (by decide +kernel)
set_option maxRecDepth 20000 in
theorem gX7_showIn_X9_isBarn_n72 : GoodIn wsX7_showIn (wsX9_isBarn) := ggX7_showIn_X9_isBarn
set_option maxRecDepth 20000 in
theorem ggX7_showIn_X7_reasonAgainst : GoodIn wsX7_showIn wsX7_reasonAgainst := goodIn_r _ [17, 6, 7, 4, 5, 18, 19, 20, 21, 22, 23, 24, 25, 26, 27, 28, 29, 30, 31, 32, 33, 34, 35, 36, 37, 38, 39, 40, 41, 42, 43, 44, 45, 46, 105, 106, 107, 108, 109, 110, 111, 112, 113, 114, 115, 116, 117, 118, 119, 120, 121, 122] (by decide +kernel) (by decide +kernel)
set_option maxRecDepth 20000 in
theorem gX7_showIn_X7_reasonAgainst : GoodIn wsX7_showIn (wsV RX7 147 RX7 yX7_reasonAgainst wsX7_reasonAgainst) := goodIn_app (goodIn_of _ (by decide +kernel)) ggX7_showIn_X7_reasonAgainst
set_option maxRecDepth 20000 in
theorem ggX7_showIn_X7_peopleIn : GoodIn wsX7_showIn wsX7_peopleIn := goodIn_r _ [50, 4, 51, 52, 53, 54, 25, 26, 27, 28, 29, 30, 55, 56, 57, 58, 59, 60, 61, 62, 63, 64, 65, 105, 106, 107, 108, 109, 110, 111, 112, 116, 117, 118, 119, 120] (by decide +kernel) (by decide +kernel)
set_option maxRecDepth 20000 in
theorem gX7_showIn_X7_peopleIn : GoodIn wsX7_showIn (wsV RX7 151 RX7 yX7_peopleIn wsX7_peopleIn) := goodIn_app (goodIn_of _ (by decide +kernel)) ggX7_showIn_X7_peopleIn
set_option maxRecDepth 20000 in
theorem ggX7_showIn_X4_minutesIn : GoodIn wsX7_showIn wsX4_minutesIn := goodIn_r _ [40, 30, 41, 116, 117, 118, 119, 120] (by decide +kernel) (by decide +kernel)
set_option maxRecDepth 20000 in
theorem gX7_showIn_X4_minutesIn : GoodIn wsX7_showIn (wsV RX7 154 RX4 yX4_minutesIn wsX4_minutesIn) := goodIn_app (goodIn_of _ (by decide +kernel)) ggX7_showIn_X4_minutesIn
set_option maxRecDepth 20000 in
theorem ggX7_showIn_X2_lowestWith : GoodIn wsX7_showIn wsX2_lowestWith := goodIn_r _ [45, 36, 46, 121, 122] (by decide +kernel) (by decide +kernel)
set_option maxRecDepth 20000 in
theorem gX7_showIn_X2_lowestWith : GoodIn wsX7_showIn (wsV RX7 157 RX2 yX2_lowestWith wsX2_lowestWith) := goodIn_app (goodIn_of _ (by decide +kernel)) ggX7_showIn_X2_lowestWith
set_option maxRecDepth 20000 in
theorem ggX7_showIn_X2_burn : GoodIn wsX7_showIn wsX2_burn := goodIn_r _ [69, 46, 70, 11, 71, 121, 122] (by decide +kernel) (by decide +kernel)
set_option maxRecDepth 20000 in
theorem gX7_showIn_X2_burn : GoodIn wsX7_showIn (wsV RX7 161 RX2 yX2_burn wsX2_burn) := goodIn_app (goodIn_of _ (by decide +kernel)) ggX7_showIn_X2_burn
set_option maxRecDepth 20000 in
theorem ggX7_showIn_X4_playAllIn : GoodIn wsX7_showIn wsX4_playAllIn := goodIn_r _ [75, 30, 76, 77, 78, 28, 79, 59, 64, 80, 41, 116, 117, 118, 119, 120] (by decide +kernel) (by decide +kernel)
set_option maxRecDepth 20000 in
theorem gX7_showIn_X4_playAllIn : GoodIn wsX7_showIn (wsV RX7 164 RX4 yX4_playAllIn wsX4_playAllIn) := goodIn_app (goodIn_of _ (by decide +kernel)) ggX7_showIn_X4_playAllIn
set_option maxRecDepth 20000 in
theorem ggX7_showIn_X1_addShow : GoodIn wsX7_showIn wsX1_addShow := goodIn_r _ [84, 24, 23, 85, 113, 114, 115] (by decide +kernel) (by decide +kernel)
set_option maxRecDepth 20000 in
theorem gX7_showIn_X1_addShow : GoodIn wsX7_showIn (wsV RX7 167 RX1 yX1_addShow wsX1_addShow) := goodIn_app (goodIn_of _ (by decide +kernel)) ggX7_showIn_X1_addShow
set_option maxRecDepth 20000 in
theorem ggX7_showIn_X6_add : GoodIn wsX7_showIn wsX6_add := goodIn_r _ [90, 91, 92, 93, 94, 53, 95, 123, 124] (by decide +kernel) (by decide +kernel)
set_option maxRecDepth 20000 in
theorem gX7_showIn_X6_add : GoodIn wsX7_showIn (wsV RX7 171 RX6 yX6_add wsX6_add) := goodIn_app (goodIn_of _ (by decide +kernel)) ggX7_showIn_X6_add
set_option maxRecDepth 20000 in
theorem ggX7_showIn_X0_addShow : GoodIn wsX7_showIn wsX0_addShow := goodIn_r _ [100, 101, 102, 103, 104, 125, 126, 127, 128, 129, 130, 131] (by decide +kernel) (by decide +kernel)
set_option maxRecDepth 20000 in
theorem gX7_showIn_X0_addShow : GoodIn wsX7_showIn (wsV RX7 175 RX0 yX0_addShow wsX0_addShow) := goodIn_app (goodIn_of _ (by decide +kernel)) ggX7_showIn_X0_addShow
theorem dX7_showIn_0 : decode cX7_showIn 0 = .ok (.iload_n 1, 1) := by decide +kernel
theorem dX7_showIn_1 : decode cX7_showIn 1 = .ok (.invokestatic 72, 3) := by decide +kernel
theorem dX7_showIn_4 : decode cX7_showIn 4 = .ok (.ifCond .ne 6, 3) := by decide +kernel
theorem dX7_showIn_7 : decode cX7_showIn 7 = .ok (.ldc 76, 2) := by decide +kernel
theorem dX7_showIn_9 : decode cX7_showIn 9 = .ok (.ireturn, 1) := by decide +kernel
theorem dX7_showIn_10 : decode cX7_showIn 10 = .ok (.aload_n 0, 1) := by decide +kernel
theorem dX7_showIn_11 : decode cX7_showIn 11 = .ok (.iload_n 1, 1) := by decide +kernel
theorem dX7_showIn_12 : decode cX7_showIn 12 = .ok (.invokevirtual 147, 3) := by decide +kernel
theorem dX7_showIn_15 : decode cX7_showIn 15 = .ok (.istore_n 2, 1) := by decide +kernel
theorem dX7_showIn_16 : decode cX7_showIn 16 = .ok (.iload_n 2, 1) := by decide +kernel
theorem dX7_showIn_17 : decode cX7_showIn 17 = .ok (.ifCond .eq 8, 3) := by decide +kernel
theorem dX7_showIn_20 : decode cX7_showIn 20 = .ok (.ldc 150, 2) := by decide +kernel
theorem dX7_showIn_22 : decode cX7_showIn 22 = .ok (.iload_n 2, 1) := by decide +kernel
theorem dX7_showIn_23 : decode cX7_showIn 23 = .ok (.isub, 1) := by decide +kernel
theorem dX7_showIn_24 : decode cX7_showIn 24 = .ok (.ireturn, 1) := by decide +kernel
theorem dX7_showIn_25 : decode cX7_showIn 25 = .ok (.aload_n 0, 1) := by decide +kernel
theorem dX7_showIn_26 : decode cX7_showIn 26 = .ok (.iload_n 1, 1) := by decide +kernel
theorem dX7_showIn_27 : decode cX7_showIn 27 = .ok (.invokevirtual 151, 3) := by decide +kernel
theorem dX7_showIn_30 : decode cX7_showIn 30 = .ok (.istore_n 3, 1) := by decide +kernel
theorem dX7_showIn_31 : decode cX7_showIn 31 = .ok (.iload_n 3, 1) := by decide +kernel
theorem dX7_showIn_32 : decode cX7_showIn 32 = .ok (.aload_n 0, 1) := by decide +kernel
theorem dX7_showIn_33 : decode cX7_showIn 33 = .ok (.getfield 53, 3) := by decide +kernel
theorem dX7_showIn_36 : decode cX7_showIn 36 = .ok (.imul, 1) := by decide +kernel
theorem dX7_showIn_37 : decode cX7_showIn 37 = .ok (.istore 4, 2) := by decide +kernel
theorem dX7_showIn_39 : decode cX7_showIn 39 = .ok (.aload_n 0, 1) := by decide +kernel
theorem dX7_showIn_40 : decode cX7_showIn 40 = .ok (.getfield 12, 3) := by decide +kernel
theorem dX7_showIn_43 : decode cX7_showIn 43 = .ok (.iload_n 1, 1) := by decide +kernel
theorem dX7_showIn_44 : decode cX7_showIn 44 = .ok (.invokevirtual 154, 3) := by decide +kernel
theorem dX7_showIn_47 : decode cX7_showIn 47 = .ok (.istore 5, 2) := by decide +kernel
theorem dX7_showIn_49 : decode cX7_showIn 49 = .ok (.aload_n 0, 1) := by decide +kernel
theorem dX7_showIn_50 : decode cX7_showIn 50 = .ok (.getfield 21, 3) := by decide +kernel
theorem dX7_showIn_53 : decode cX7_showIn 53 = .ok (.aload_n 0, 1) := by decide +kernel
theorem dX7_showIn_54 : decode cX7_showIn 54 = .ok (.getfield 21, 3) := by decide +kernel
theorem dX7_showIn_57 : decode cX7_showIn 57 = .ok (.iload_n 1, 1) := by decide +kernel
theorem dX7_showIn_58 : decode cX7_showIn 58 = .ok (.iload 5, 2) := by decide +kernel
theorem dX7_showIn_60 : decode cX7_showIn 60 = .ok (.invokevirtual 157, 3) := by decide +kernel
theorem dX7_showIn_63 : decode cX7_showIn 63 = .ok (.iload 5, 2) := by decide +kernel
theorem dX7_showIn_65 : decode cX7_showIn 65 = .ok (.invokevirtual 161, 3) := by decide +kernel
theorem dX7_showIn_68 : decode cX7_showIn 68 = .ok (.aload_n 0, 1) := by decide +kernel
theorem dX7_showIn_69 : decode cX7_showIn 69 = .ok (.getfield 12, 3) := by decide +kernel
theorem dX7_showIn_72 : decode cX7_showIn 72 = .ok (.iload_n 1, 1) := by decide +kernel
theorem dX7_showIn_73 : decode cX7_showIn 73 = .ok (.invokevirtual 164, 3) := by decide +kernel
theorem dX7_showIn_76 : decode cX7_showIn 76 = .ok (.istore 6, 2) := by decide +kernel
theorem dX7_showIn_78 : decode cX7_showIn 78 = .ok (.aload_n 0, 1) := by decide +kernel
theorem dX7_showIn_79 : decode cX7_showIn 79 = .ok (.getfield 28, 3) := by decide +kernel
theorem dX7_showIn_82 : decode cX7_showIn 82 = .ok (.iload_n 1, 1) := by decide +kernel
theorem dX7_showIn_83 : decode cX7_showIn 83 = .ok (.aload_n 0, 1) := by decide +kernel
theorem dX7_showIn_84 : decode cX7_showIn 84 = .ok (.getfield 50, 3) := by decide +kernel
theorem dX7_showIn_87 : decode cX7_showIn 87 = .ok (.iload 4, 2) := by decide +kernel
theorem dX7_showIn_89 : decode cX7_showIn 89 = .ok (.invokevirtual 167, 3) := by decide +kernel
theorem dX7_showIn_92 : decode cX7_showIn 92 = .ok (.aload_n 0, 1) := by decide +kernel
theorem dX7_showIn_93 : decode cX7_showIn 93 = .ok (.getfield 35, 3) := by decide +kernel
theorem dX7_showIn_96 : decode cX7_showIn 96 = .ok (.aload_n 0, 1) := by decide +kernel
theorem dX7_showIn_97 : decode cX7_showIn 97 = .ok (.getfield 50, 3) := by decide +kernel
theorem dX7_showIn_100 : decode cX7_showIn 100 = .ok (.iload_n 1, 1) := by decide +kernel
theorem dX7_showIn_101 : decode cX7_showIn 101 = .ok (.iload_n 3, 1) := by decide +kernel
theorem dX7_showIn_102 : decode cX7_showIn 102 = .ok (.iload 4, 2) := by decide +kernel
theorem dX7_showIn_104 : decode cX7_showIn 104 = .ok (.iload 5, 2) := by decide +kernel
theorem dX7_showIn_106 : decode cX7_showIn 106 = .ok (.invokevirtual 171, 3) := by decide +kernel
theorem dX7_showIn_109 : decode cX7_showIn 109 = .ok (.aload_n 0, 1) := by decide +kernel
theorem dX7_showIn_110 : decode cX7_showIn 110 = .ok (.getfield 42, 3) := by decide +kernel
theorem dX7_showIn_113 : decode cX7_showIn 113 = .ok (.iload_n 3, 1) := by decide +kernel
theorem dX7_showIn_114 : decode cX7_showIn 114 = .ok (.iload 4, 2) := by decide +kernel
theorem dX7_showIn_116 : decode cX7_showIn 116 = .ok (.iload 6, 2) := by decide +kernel
theorem dX7_showIn_118 : decode cX7_showIn 118 = .ok (.invokevirtual 175, 3) := by decide +kernel
theorem dX7_showIn_121 : decode cX7_showIn 121 = .ok (.iload 4, 2) := by decide +kernel
theorem dX7_showIn_123 : decode cX7_showIn 123 = .ok (.ireturn, 1) := by decide +kernel
set_option maxRecDepth 20000 in
theorem ggX7_reasonAgainst_X1_hadShowOn : GoodIn wsX7_reasonAgainst wsX1_hadShowOn := goodIn_r _ [9, 10, 11, 42, 43, 44] (by decide +kernel) (by decide +kernel)
set_option maxRecDepth 20000 in
theorem gX7_reasonAgainst_X1_hadShowOn : GoodIn wsX7_reasonAgainst (wsV RX7 176 RX1 yX1_hadShowOn wsX1_hadShowOn) := goodIn_app (goodIn_of _ (by decide +kernel)) ggX7_reasonAgainst_X1_hadShowOn
set_option maxRecDepth 20000 in
theorem ggX7_reasonAgainst_X4_numberAt : GoodIn wsX7_reasonAgainst wsX4_numberAt := goodIn_r _ [16, 17, 45, 46, 47, 48, 49] (by decide +kernel) (by decide +kernel)
set_option maxRecDepth 20000 in
theorem gX7_reasonAgainst_X4_numberAt : GoodIn wsX7_reasonAgainst (wsV RX7 120 RX4 yX4_numberAt wsX4_numberAt) := goodIn_app (goodIn_of _ (by decide +kernel)) ggX7_reasonAgainst_X4_numberAt
set_option maxRecDepth 20000 in
theorem ggX7_reasonAgainst_X2_numberAt : GoodIn wsX7_reasonAgainst wsX2_numberAt := goodIn_r _ [22, 23, 50, 51] (by decide +kernel) (by decide +kernel)
set_option maxRecDepth 20000 in
theorem gX7_reasonAgainst_X2_numberAt : GoodIn wsX7_reasonAgainst (wsV RX7 123 RX2 yX2_numberAt wsX2_numberAt) := goodIn_app (goodIn_of _ (by decide +kernel)) ggX7_reasonAgainst_X2_numberAt
set_option maxRecDepth 20000 in
theorem ggX7_reasonAgainst_X4_minutesIn : GoodIn wsX7_reasonAgainst wsX4_minutesIn := goodIn_r _ [27, 17, 28, 45, 46, 47, 48, 49] (by decide +kernel) (by decide +kernel)
set_option maxRecDepth 20000 in
theorem gX7_reasonAgainst_X4_minutesIn : GoodIn wsX7_reasonAgainst (wsV RX7 154 RX4 yX4_minutesIn wsX4_minutesIn) := goodIn_app (goodIn_of _ (by decide +kernel)) ggX7_reasonAgainst_X4_minutesIn
set_option maxRecDepth 20000 in
theorem ggX7_reasonAgainst_X2_lowestWith : GoodIn wsX7_reasonAgainst wsX2_lowestWith := goodIn_r _ [32, 23, 33, 50, 51] (by decide +kernel) (by decide +kernel)
set_option maxRecDepth 20000 in
theorem gX7_reasonAgainst_X2_lowestWith : GoodIn wsX7_reasonAgainst (wsV RX7 157 RX2 yX2_lowestWith wsX2_lowestWith) := goodIn_app (goodIn_of _ (by decide +kernel)) ggX7_reasonAgainst_X2_lowestWith
theorem dX7_reasonAgainst_0 : decode cX7_reasonAgainst 0 = .ok (.aload_n 0, 1) := by decide +kernel
theorem dX7_reasonAgainst_1 : decode cX7_reasonAgainst 1 = .ok (.getfield 28, 3) := by decide +kernel
theorem dX7_reasonAgainst_4 : decode cX7_reasonAgainst 4 = .ok (.iload_n 1, 1) := by decide +kernel
theorem dX7_reasonAgainst_5 : decode cX7_reasonAgainst 5 = .ok (.aload_n 0, 1) := by decide +kernel
theorem dX7_reasonAgainst_6 : decode cX7_reasonAgainst 6 = .ok (.getfield 50, 3) := by decide +kernel
theorem dX7_reasonAgainst_9 : decode cX7_reasonAgainst 9 = .ok (.invokevirtual 176, 3) := by decide +kernel
theorem dX7_reasonAgainst_12 : decode cX7_reasonAgainst 12 = .ok (.ifCond .eq 5, 3) := by decide +kernel
theorem dX7_reasonAgainst_15 : decode cX7_reasonAgainst 15 = .ok (.iconst 1, 1) := by decide +kernel
theorem dX7_reasonAgainst_16 : decode cX7_reasonAgainst 16 = .ok (.ireturn, 1) := by decide +kernel
theorem dX7_reasonAgainst_17 : decode cX7_reasonAgainst 17 = .ok (.aload_n 0, 1) := by decide +kernel
theorem dX7_reasonAgainst_18 : decode cX7_reasonAgainst 18 = .ok (.getfield 12, 3) := by decide +kernel
theorem dX7_reasonAgainst_21 : decode cX7_reasonAgainst 21 = .ok (.iload_n 1, 1) := by decide +kernel
theorem dX7_reasonAgainst_22 : decode cX7_reasonAgainst 22 = .ok (.invokevirtual 120, 3) := by decide +kernel
theorem dX7_reasonAgainst_25 : decode cX7_reasonAgainst 25 = .ok (.ifCond .ne 5, 3) := by decide +kernel
theorem dX7_reasonAgainst_28 : decode cX7_reasonAgainst 28 = .ok (.iconst 2, 1) := by decide +kernel
theorem dX7_reasonAgainst_29 : decode cX7_reasonAgainst 29 = .ok (.ireturn, 1) := by decide +kernel
theorem dX7_reasonAgainst_30 : decode cX7_reasonAgainst 30 = .ok (.aload_n 0, 1) := by decide +kernel
theorem dX7_reasonAgainst_31 : decode cX7_reasonAgainst 31 = .ok (.getfield 21, 3) := by decide +kernel
theorem dX7_reasonAgainst_34 : decode cX7_reasonAgainst 34 = .ok (.iload_n 1, 1) := by decide +kernel
theorem dX7_reasonAgainst_35 : decode cX7_reasonAgainst 35 = .ok (.invokevirtual 123, 3) := by decide +kernel
theorem dX7_reasonAgainst_38 : decode cX7_reasonAgainst 38 = .ok (.ifCond .ne 5, 3) := by decide +kernel
theorem dX7_reasonAgainst_41 : decode cX7_reasonAgainst 41 = .ok (.iconst 3, 1) := by decide +kernel
theorem dX7_reasonAgainst_42 : decode cX7_reasonAgainst 42 = .ok (.ireturn, 1) := by decide +kernel
theorem dX7_reasonAgainst_43 : decode cX7_reasonAgainst 43 = .ok (.aload_n 0, 1) := by decide +kernel
theorem dX7_reasonAgainst_44 : decode cX7_reasonAgainst 44 = .ok (.getfield 21, 3) := by decide +kernel
theorem dX7_reasonAgainst_47 : decode cX7_reasonAgainst 47 = .ok (.iload_n 1, 1) := by decide +kernel
theorem dX7_reasonAgainst_48 : decode cX7_reasonAgainst 48 = .ok (.aload_n 0, 1) := by decide +kernel
theorem dX7_reasonAgainst_49 : decode cX7_reasonAgainst 49 = .ok (.getfield 12, 3) := by decide +kernel
theorem dX7_reasonAgainst_52 : decode cX7_reasonAgainst 52 = .ok (.iload_n 1, 1) := by decide +kernel
theorem dX7_reasonAgainst_53 : decode cX7_reasonAgainst 53 = .ok (.invokevirtual 154, 3) := by decide +kernel
theorem dX7_reasonAgainst_56 : decode cX7_reasonAgainst 56 = .ok (.invokevirtual 157, 3) := by decide +kernel
theorem dX7_reasonAgainst_59 : decode cX7_reasonAgainst 59 = .ok (.iconst (-1), 1) := by decide +kernel
theorem dX7_reasonAgainst_60 : decode cX7_reasonAgainst 60 = .ok (.if_icmp .ne 5, 3) := by decide +kernel
theorem dX7_reasonAgainst_63 : decode cX7_reasonAgainst 63 = .ok (.iconst 4, 1) := by decide +kernel
theorem dX7_reasonAgainst_64 : decode cX7_reasonAgainst 64 = .ok (.ireturn, 1) := by decide +kernel
theorem dX7_reasonAgainst_65 : decode cX7_reasonAgainst 65 = .ok (.iconst 0, 1) := by decide +kernel
theorem dX7_reasonAgainst_66 : decode cX7_reasonAgainst 66 = .ok (.ireturn, 1) := by decide +kernel
set_option maxRecDepth 20000 in
theorem ggX7_peopleIn_X4_numberAt : GoodIn wsX7_peopleIn wsX4_numberAt := goodIn_r _ [10, 11, 31, 32, 33, 34, 35] (by decide +kernel) (by decide +kernel)
set_option maxRecDepth 20000 in
theorem gX7_peopleIn_X4_numberAt : GoodIn wsX7_peopleIn (wsV RX7 120 RX4 yX4_numberAt wsX4_numberAt) := goodIn_app (goodIn_of _ (by decide +kernel)) ggX7_peopleIn_X4_numberAt
set_option maxRecDepth 20000 in
theorem ggX7_peopleIn_X4_freshIn : GoodIn wsX7_peopleIn wsX4_freshIn := goodIn_r _ [15, 11, 16, 31, 32, 33, 34, 35] (by decide +kernel) (by decide +kernel)
set_option maxRecDepth 20000 in
theorem gX7_peopleIn_X4_freshIn : GoodIn wsX7_peopleIn (wsV RX7 183 RX4 yX4_freshIn wsX4_freshIn) := goodIn_app (goodIn_of _ (by decide +kernel)) ggX7_peopleIn_X4_freshIn
set_option maxRecDepth 20000 in
theorem ggX7_peopleIn_X4_mostWearIn : GoodIn wsX7_peopleIn wsX4_mostWearIn := goodIn_r _ [20, 11, 21, 22, 3, 4, 5, 31, 32, 33, 34, 35] (by decide +kernel) (by decide +kernel)
set_option maxRecDepth 20000 in
theorem gX7_peopleIn_X4_mostWearIn : GoodIn wsX7_peopleIn (wsV RX7 186 RX4 yX4_mostWearIn wsX4_mostWearIn) := goodIn_app (goodIn_of _ (by decide +kernel)) ggX7_peopleIn_X4_mostWearIn
theorem dX7_peopleIn_0 : decode cX7_peopleIn 0 = .ok (.aload_n 0, 1) := by decide +kernel
theorem dX7_peopleIn_1 : decode cX7_peopleIn 1 = .ok (.getfield 12, 3) := by decide +kernel
theorem dX7_peopleIn_4 : decode cX7_peopleIn 4 = .ok (.iload_n 1, 1) := by decide +kernel
theorem dX7_peopleIn_5 : decode cX7_peopleIn 5 = .ok (.invokevirtual 120, 3) := by decide +kernel
theorem dX7_peopleIn_8 : decode cX7_peopleIn 8 = .ok (.istore_n 2, 1) := by decide +kernel
theorem dX7_peopleIn_9 : decode cX7_peopleIn 9 = .ok (.iload_n 2, 1) := by decide +kernel
theorem dX7_peopleIn_10 : decode cX7_peopleIn 10 = .ok (.ifCond .ne 5, 3) := by decide +kernel
theorem dX7_peopleIn_13 : decode cX7_peopleIn 13 = .ok (.iconst 0, 1) := by decide +kernel
theorem dX7_peopleIn_14 : decode cX7_peopleIn 14 = .ok (.ireturn, 1) := by decide +kernel
theorem dX7_peopleIn_15 : decode cX7_peopleIn 15 = .ok (.getstatic 180, 3) := by decide +kernel
theorem dX7_peopleIn_18 : decode cX7_peopleIn 18 = .ok (.iload_n 1, 1) := by decide +kernel
theorem dX7_peopleIn_19 : decode cX7_peopleIn 19 = .ok (.iaload, 1) := by decide +kernel
theorem dX7_peopleIn_20 : decode cX7_peopleIn 20 = .ok (.aload_n 0, 1) := by decide +kernel
theorem dX7_peopleIn_21 : decode cX7_peopleIn 21 = .ok (.getfield 12, 3) := by decide +kernel
theorem dX7_peopleIn_24 : decode cX7_peopleIn 24 = .ok (.iload_n 1, 1) := by decide +kernel
theorem dX7_peopleIn_25 : decode cX7_peopleIn 25 = .ok (.invokevirtual 183, 3) := by decide +kernel
theorem dX7_peopleIn_28 : decode cX7_peopleIn 28 = .ok (.imul, 1) := by decide +kernel
theorem dX7_peopleIn_29 : decode cX7_peopleIn 29 = .ok (.iload_n 2, 1) := by decide +kernel
theorem dX7_peopleIn_30 : decode cX7_peopleIn 30 = .ok (.idiv, 1) := by decide +kernel
theorem dX7_peopleIn_31 : decode cX7_peopleIn 31 = .ok (.istore_n 3, 1) := by decide +kernel
theorem dX7_peopleIn_32 : decode cX7_peopleIn 32 = .ok (.aload_n 0, 1) := by decide +kernel
theorem dX7_peopleIn_33 : decode cX7_peopleIn 33 = .ok (.getfield 12, 3) := by decide +kernel
theorem dX7_peopleIn_36 : decode cX7_peopleIn 36 = .ok (.iload_n 1, 1) := by decide +kernel
theorem dX7_peopleIn_37 : decode cX7_peopleIn 37 = .ok (.invokevirtual 186, 3) := by decide +kernel
theorem dX7_peopleIn_40 : decode cX7_peopleIn 40 = .ok (.bipush 10, 2) := by decide +kernel
theorem dX7_peopleIn_42 : decode cX7_peopleIn 42 = .ok (.idiv, 1) := by decide +kernel
theorem dX7_peopleIn_43 : decode cX7_peopleIn 43 = .ok (.istore 4, 2) := by decide +kernel
theorem dX7_peopleIn_45 : decode cX7_peopleIn 45 = .ok (.iload_n 3, 1) := by decide +kernel
theorem dX7_peopleIn_46 : decode cX7_peopleIn 46 = .ok (.iload 4, 2) := by decide +kernel
theorem dX7_peopleIn_48 : decode cX7_peopleIn 48 = .ok (.isub, 1) := by decide +kernel
theorem dX7_peopleIn_49 : decode cX7_peopleIn 49 = .ok (.iconst 0, 1) := by decide +kernel
theorem dX7_peopleIn_50 : decode cX7_peopleIn 50 = .ok (.invokestatic 189, 3) := by decide +kernel
theorem dX7_peopleIn_53 : decode cX7_peopleIn 53 = .ok (.ireturn, 1) := by decide +kernel
set_option maxRecDepth 20000 in
theorem ggX7_barnThatBringsMost_X7_reasonAgainst : GoodIn wsX7_barnThatBringsMost wsX7_reasonAgainst := goodIn_r _ [6, 7, 8, 9, 10, 11, 12, 13, 14, 15, 16, 17, 18, 19, 20, 21, 22, 23, 24, 25, 26, 27, 28, 29, 30, 31, 32, 33, 34, 35, 36, 37, 38, 39, 59, 60, 61, 62, 63, 64, 65, 66, 67, 68, 69, 70, 71, 72, 73, 74, 75, 76] (by decide +kernel) (by decide +kernel)
set_option maxRecDepth 20000 in
theorem gX7_barnThatBringsMost_X7_reasonAgainst : GoodIn wsX7_barnThatBringsMost (wsV RX7 147 RX7 yX7_reasonAgainst wsX7_reasonAgainst) := goodIn_app (goodIn_of _ (by decide +kernel)) ggX7_barnThatBringsMost_X7_reasonAgainst
set_option maxRecDepth 20000 in
theorem ggX7_barnThatBringsMost_X7_peopleIn : GoodIn wsX7_barnThatBringsMost wsX7_peopleIn := goodIn_r _ [43, 9, 44, 45, 46, 47, 18, 19, 20, 21, 22, 23, 48, 49, 50, 51, 52, 53, 54, 55, 56, 57, 58, 59, 60, 61, 62, 63, 64, 65, 66, 70, 71, 72, 73, 74] (by decide +kernel) (by decide +kernel)
set_option maxRecDepth 20000 in
theorem gX7_barnThatBringsMost_X7_peopleIn : GoodIn wsX7_barnThatBringsMost (wsV RX7 151 RX7 yX7_peopleIn wsX7_peopleIn) := goodIn_app (goodIn_of _ (by decide +kernel)) ggX7_barnThatBringsMost_X7_peopleIn
theorem dX7_barnThatBringsMost_0 : decode cX7_barnThatBringsMost 0 = .ok (.ldc 77, 2) := by decide +kernel
theorem dX7_barnThatBringsMost_2 : decode cX7_barnThatBringsMost 2 = .ok (.istore_n 1, 1) := by decide +kernel
theorem dX7_barnThatBringsMost_3 : decode cX7_barnThatBringsMost 3 = .ok (.iconst (-1), 1) := by decide +kernel
theorem dX7_barnThatBringsMost_4 : decode cX7_barnThatBringsMost 4 = .ok (.istore_n 2, 1) := by decide +kernel
theorem dX7_barnThatBringsMost_5 : decode cX7_barnThatBringsMost 5 = .ok (.iconst 0, 1) := by decide +kernel
theorem dX7_barnThatBringsMost_6 : decode cX7_barnThatBringsMost 6 = .ok (.istore_n 3, 1) := by decide +kernel
theorem dX7_barnThatBringsMost_7 : decode cX7_barnThatBringsMost 7 = .ok (.iload_n 3, 1) := by decide +kernel
theorem dX7_barnThatBringsMost_8 : decode cX7_barnThatBringsMost 8 = .ok (.iconst 5, 1) := by decide +kernel
theorem dX7_barnThatBringsMost_9 : decode cX7_barnThatBringsMost 9 = .ok (.if_icmp .ge 34, 3) := by decide +kernel
theorem dX7_barnThatBringsMost_12 : decode cX7_barnThatBringsMost 12 = .ok (.aload_n 0, 1) := by decide +kernel
theorem dX7_barnThatBringsMost_13 : decode cX7_barnThatBringsMost 13 = .ok (.iload_n 3, 1) := by decide +kernel
theorem dX7_barnThatBringsMost_14 : decode cX7_barnThatBringsMost 14 = .ok (.invokevirtual 147, 3) := by decide +kernel
theorem dX7_barnThatBringsMost_17 : decode cX7_barnThatBringsMost 17 = .ok (.ifCond .ne 20, 3) := by decide +kernel
theorem dX7_barnThatBringsMost_20 : decode cX7_barnThatBringsMost 20 = .ok (.aload_n 0, 1) := by decide +kernel
theorem dX7_barnThatBringsMost_21 : decode cX7_barnThatBringsMost 21 = .ok (.iload_n 3, 1) := by decide +kernel
theorem dX7_barnThatBringsMost_22 : decode cX7_barnThatBringsMost 22 = .ok (.invokevirtual 151, 3) := by decide +kernel
theorem dX7_barnThatBringsMost_25 : decode cX7_barnThatBringsMost 25 = .ok (.iload_n 2, 1) := by decide +kernel
theorem dX7_barnThatBringsMost_26 : decode cX7_barnThatBringsMost 26 = .ok (.if_icmp .le 11, 3) := by decide +kernel
theorem dX7_barnThatBringsMost_29 : decode cX7_barnThatBringsMost 29 = .ok (.iload_n 3, 1) := by decide +kernel
theorem dX7_barnThatBringsMost_30 : decode cX7_barnThatBringsMost 30 = .ok (.istore_n 1, 1) := by decide +kernel
theorem dX7_barnThatBringsMost_31 : decode cX7_barnThatBringsMost 31 = .ok (.aload_n 0, 1) := by decide +kernel
theorem dX7_barnThatBringsMost_32 : decode cX7_barnThatBringsMost 32 = .ok (.iload_n 3, 1) := by decide +kernel
theorem dX7_barnThatBringsMost_33 : decode cX7_barnThatBringsMost 33 = .ok (.invokevirtual 151, 3) := by decide +kernel
theorem dX7_barnThatBringsMost_36 : decode cX7_barnThatBringsMost 36 = .ok (.istore_n 2, 1) := by decide +kernel
theorem dX7_barnThatBringsMost_37 : decode cX7_barnThatBringsMost 37 = .ok (.iinc 3 1, 3) := by decide +kernel
theorem dX7_barnThatBringsMost_40 : decode cX7_barnThatBringsMost 40 = .ok (.goto (-33), 3) := by decide +kernel
theorem dX7_barnThatBringsMost_43 : decode cX7_barnThatBringsMost 43 = .ok (.iload_n 1, 1) := by decide +kernel
theorem dX7_barnThatBringsMost_44 : decode cX7_barnThatBringsMost 44 = .ok (.ireturn, 1) := by decide +kernel
theorem dX7_beginNextDay_0 : decode cX7_beginNextDay 0 = .ok (.aload_n 0, 1) := by decide +kernel
theorem dX7_beginNextDay_1 : decode cX7_beginNextDay 1 = .ok (.getfield 50, 3) := by decide +kernel
theorem dX7_beginNextDay_4 : decode cX7_beginNextDay 4 = .ok (.sipush 9999, 3) := by decide +kernel
theorem dX7_beginNextDay_7 : decode cX7_beginNextDay 7 = .ok (.if_icmp .lt 6, 3) := by decide +kernel
theorem dX7_beginNextDay_10 : decode cX7_beginNextDay 10 = .ok (.ldc 119, 2) := by decide +kernel
theorem dX7_beginNextDay_12 : decode cX7_beginNextDay 12 = .ok (.ireturn, 1) := by decide +kernel
theorem dX7_beginNextDay_13 : decode cX7_beginNextDay 13 = .ok (.aload_n 0, 1) := by decide +kernel
theorem dX7_beginNextDay_14 : decode cX7_beginNextDay 14 = .ok (.dup, 1) := by decide +kernel
theorem dX7_beginNextDay_15 : decode cX7_beginNextDay 15 = .ok (.getfield 50, 3) := by decide +kernel
theorem dX7_beginNextDay_18 : decode cX7_beginNextDay 18 = .ok (.iconst 1, 1) := by decide +kernel
theorem dX7_beginNextDay_19 : decode cX7_beginNextDay 19 = .ok (.iadd, 1) := by decide +kernel
theorem dX7_beginNextDay_20 : decode cX7_beginNextDay 20 = .ok (.putfield 50, 3) := by decide +kernel
theorem dX7_beginNextDay_23 : decode cX7_beginNextDay 23 = .ok (.aload_n 0, 1) := by decide +kernel
theorem dX7_beginNextDay_24 : decode cX7_beginNextDay 24 = .ok (.getfield 50, 3) := by decide +kernel
theorem dX7_beginNextDay_27 : decode cX7_beginNextDay 27 = .ok (.ireturn, 1) := by decide +kernel
set_option maxRecDepth 20000 in
theorem ggX7_toldOfReel_X4_isThere : GoodIn wsX7_toldOfReel wsX4_isThere := goodIn_r _ [8, 9, 51, 52, 53, 54, 55] (by decide +kernel) (by decide +kernel)
set_option maxRecDepth 20000 in
theorem gX7_toldOfReel_X4_isThere : GoodIn wsX7_toldOfReel (wsV RX7 92 RX4 yX4_isThere wsX4_isThere) := goodIn_app (goodIn_of _ (by decide +kernel)) ggX7_toldOfReel_X4_isThere
set_option maxRecDepth 20000 in
theorem ggX7_toldOfReel_X4_placeOf : GoodIn wsX7_toldOfReel wsX4_placeOf := goodIn_r _ [13, 9, 51, 52, 53, 54, 55] (by decide +kernel) (by decide +kernel)
set_option maxRecDepth 20000 in
theorem gX7_toldOfReel_X4_placeOf : GoodIn wsX7_toldOfReel (wsV RX7 95 RX4 yX4_placeOf wsX4_placeOf) := goodIn_app (goodIn_of _ (by decide +kernel)) ggX7_toldOfReel_X4_placeOf
set_option maxRecDepth 20000 in
theorem ggX7_toldOfReel_X7_barnOrNone : GoodIn wsX7_toldOfReel wsX7_barnOrNone := goodIn_r _ [17, 18] (by decide +kernel) (by decide +kernel)
set_option maxRecDepth 20000 in
theorem gX7_toldOfReel_X7_barnOrNone : GoodIn wsX7_toldOfReel (va_wsS RX7 192 yX7_barnOrNone wsX7_barnOrNone) := goodIn_app (goodIn_of _ (by decide +kernel)) ggX7_toldOfReel_X7_barnOrNone
set_option maxRecDepth 20000 in
theorem ggX7_toldOfReel_X4_minutesOf : GoodIn wsX7_toldOfReel wsX4_minutesOf := goodIn_r _ [22, 23, 51, 52, 53, 54, 55] (by decide +kernel) (by decide +kernel)
set_option maxRecDepth 20000 in
theorem gX7_toldOfReel_X4_minutesOf : GoodIn wsX7_toldOfReel (wsV RX7 143 RX4 yX4_minutesOf wsX4_minutesOf) := goodIn_app (goodIn_of _ (by decide +kernel)) ggX7_toldOfReel_X4_minutesOf
set_option maxRecDepth 20000 in
theorem ggX7_toldOfReel_X4_wearOf : GoodIn wsX7_toldOfReel wsX4_wearOf := goodIn_r _ [27, 28, 51, 52, 53, 54, 55] (by decide +kernel) (by decide +kernel)
set_option maxRecDepth 20000 in
theorem gX7_toldOfReel_X4_wearOf : GoodIn wsX7_toldOfReel (wsV RX7 195 RX4 yX4_wearOf wsX4_wearOf) := goodIn_app (goodIn_of _ (by decide +kernel)) ggX7_toldOfReel_X4_wearOf
set_option maxRecDepth 20000 in
theorem ggX7_toldOfReel_X4_splicesOf : GoodIn wsX7_toldOfReel wsX4_splicesOf := goodIn_r _ [32, 33, 51, 52, 53, 54, 55] (by decide +kernel) (by decide +kernel)
set_option maxRecDepth 20000 in
theorem gX7_toldOfReel_X4_splicesOf : GoodIn wsX7_toldOfReel (wsV RX7 198 RX4 yX4_splicesOf wsX4_splicesOf) := goodIn_app (goodIn_of _ (by decide +kernel)) ggX7_toldOfReel_X4_splicesOf
set_option maxRecDepth 20000 in
theorem ggX7_toldOfReel_X4_barnsOf : GoodIn wsX7_toldOfReel wsX4_barnsOf := goodIn_r _ [37, 38, 51, 52, 53, 54, 55] (by decide +kernel) (by decide +kernel)
set_option maxRecDepth 20000 in
theorem gX7_toldOfReel_X4_barnsOf : GoodIn wsX7_toldOfReel (wsV RX7 201 RX4 yX4_barnsOf wsX4_barnsOf) := goodIn_app (goodIn_of _ (by decide +kernel)) ggX7_toldOfReel_X4_barnsOf
set_option maxRecDepth 20000 in
theorem ggX7_toldOfReel_X4_showsLeft : GoodIn wsX7_toldOfReel wsX4_showsLeft := goodIn_r _ [42, 28, 23, 51, 52, 53, 54, 55] (by decide +kernel) (by decide +kernel)
set_option maxRecDepth 20000 in
theorem gX7_toldOfReel_X4_showsLeft : GoodIn wsX7_toldOfReel (wsV RX7 204 RX4 yX4_showsLeft wsX4_showsLeft) := goodIn_app (goodIn_of _ (by decide +kernel)) ggX7_toldOfReel_X4_showsLeft
theorem dX7_toldOfReel_0 : decode cX7_toldOfReel 0 = .ok (.aload_n 0, 1) := by decide +kernel
theorem dX7_toldOfReel_1 : decode cX7_toldOfReel 1 = .ok (.getfield 12, 3) := by decide +kernel
theorem dX7_toldOfReel_4 : decode cX7_toldOfReel 4 = .ok (.iload_n 1, 1) := by decide +kernel
theorem dX7_toldOfReel_5 : decode cX7_toldOfReel 5 = .ok (.invokevirtual 92, 3) := by decide +kernel
theorem dX7_toldOfReel_8 : decode cX7_toldOfReel 8 = .ok (.ifCond .ne 6, 3) := by decide +kernel
theorem dX7_toldOfReel_11 : decode cX7_toldOfReel 11 = .ok (.ldc 76, 2) := by decide +kernel
theorem dX7_toldOfReel_13 : decode cX7_toldOfReel 13 = .ok (.ireturn, 1) := by decide +kernel
theorem dX7_toldOfReel_14 : decode cX7_toldOfReel 14 = .ok (.iload_n 2, 1) := by decide +kernel
theorem dX7_toldOfReel_15 : decode cX7_toldOfReel 15 = .ok (.tableswitch 94 0 5 #[37, 49, 58, 67, 76, 85], 37) := by decide +kernel
theorem dX7_toldOfReel_52 : decode cX7_toldOfReel 52 = .ok (.aload_n 0, 1) := by decide +kernel
theorem dX7_toldOfReel_53 : decode cX7_toldOfReel 53 = .ok (.getfield 12, 3) := by decide +kernel
theorem dX7_toldOfReel_56 : decode cX7_toldOfReel 56 = .ok (.iload_n 1, 1) := by decide +kernel
theorem dX7_toldOfReel_57 : decode cX7_toldOfReel 57 = .ok (.invokevirtual 95, 3) := by decide +kernel
theorem dX7_toldOfReel_60 : decode cX7_toldOfReel 60 = .ok (.invokestatic 192, 3) := by decide +kernel
theorem dX7_toldOfReel_63 : decode cX7_toldOfReel 63 = .ok (.ireturn, 1) := by decide +kernel
theorem dX7_toldOfReel_64 : decode cX7_toldOfReel 64 = .ok (.aload_n 0, 1) := by decide +kernel
theorem dX7_toldOfReel_65 : decode cX7_toldOfReel 65 = .ok (.getfield 12, 3) := by decide +kernel
theorem dX7_toldOfReel_68 : decode cX7_toldOfReel 68 = .ok (.iload_n 1, 1) := by decide +kernel
theorem dX7_toldOfReel_69 : decode cX7_toldOfReel 69 = .ok (.invokevirtual 143, 3) := by decide +kernel
theorem dX7_toldOfReel_72 : decode cX7_toldOfReel 72 = .ok (.ireturn, 1) := by decide +kernel
theorem dX7_toldOfReel_73 : decode cX7_toldOfReel 73 = .ok (.aload_n 0, 1) := by decide +kernel
theorem dX7_toldOfReel_74 : decode cX7_toldOfReel 74 = .ok (.getfield 12, 3) := by decide +kernel
theorem dX7_toldOfReel_77 : decode cX7_toldOfReel 77 = .ok (.iload_n 1, 1) := by decide +kernel
theorem dX7_toldOfReel_78 : decode cX7_toldOfReel 78 = .ok (.invokevirtual 195, 3) := by decide +kernel
theorem dX7_toldOfReel_81 : decode cX7_toldOfReel 81 = .ok (.ireturn, 1) := by decide +kernel
theorem dX7_toldOfReel_82 : decode cX7_toldOfReel 82 = .ok (.aload_n 0, 1) := by decide +kernel
theorem dX7_toldOfReel_83 : decode cX7_toldOfReel 83 = .ok (.getfield 12, 3) := by decide +kernel
theorem dX7_toldOfReel_86 : decode cX7_toldOfReel 86 = .ok (.iload_n 1, 1) := by decide +kernel
theorem dX7_toldOfReel_87 : decode cX7_toldOfReel 87 = .ok (.invokevirtual 198, 3) := by decide +kernel
theorem dX7_toldOfReel_90 : decode cX7_toldOfReel 90 = .ok (.ireturn, 1) := by decide +kernel
theorem dX7_toldOfReel_91 : decode cX7_toldOfReel 91 = .ok (.aload_n 0, 1) := by decide +kernel
theorem dX7_toldOfReel_92 : decode cX7_toldOfReel 92 = .ok (.getfield 12, 3) := by decide +kernel
theorem dX7_toldOfReel_95 : decode cX7_toldOfReel 95 = .ok (.iload_n 1, 1) := by decide +kernel
theorem dX7_toldOfReel_96 : decode cX7_toldOfReel 96 = .ok (.invokevirtual 201, 3) := by decide +kernel
theorem dX7_toldOfReel_99 : decode cX7_toldOfReel 99 = .ok (.ireturn, 1) := by decide +kernel
theorem dX7_toldOfReel_100 : decode cX7_toldOfReel 100 = .ok (.aload_n 0, 1) := by decide +kernel
theorem dX7_toldOfReel_101 : decode cX7_toldOfReel 101 = .ok (.getfield 12, 3) := by decide +kernel
theorem dX7_toldOfReel_104 : decode cX7_toldOfReel 104 = .ok (.iload_n 1, 1) := by decide +kernel
theorem dX7_toldOfReel_105 : decode cX7_toldOfReel 105 = .ok (.invokevirtual 204, 3) := by decide +kernel
theorem dX7_toldOfReel_108 : decode cX7_toldOfReel 108 = .ok (.ireturn, 1) := by decide +kernel
theorem dX7_toldOfReel_109 : decode cX7_toldOfReel 109 = .ok (.ldc 127, 2) := by decide +kernel
theorem dX7_toldOfReel_111 : decode cX7_toldOfReel 111 = .ok (.ireturn, 1) := by decide +kernel
set_option maxRecDepth 20000 in
theorem ggX7_toldOfGenerator_X9_isGenerator : GoodIn wsX7_toldOfGenerator wsX9_isGenerator := goodIn_r _ [6] (by decide +kernel) (by decide +kernel)
set_option maxRecDepth 20000 in
theorem gX7_toldOfGenerator_X9_isGenerator_n110 : GoodIn wsX7_toldOfGenerator (wsX9_isGenerator) := ggX7_toldOfGenerator_X9_isGenerator
set_option maxRecDepth 20000 in
theorem ggX7_toldOfGenerator_X2_placeOf : GoodIn wsX7_toldOfGenerator wsX2_placeOf := goodIn_r _ [11, 12, 31, 32] (by decide +kernel) (by decide +kernel)
set_option maxRecDepth 20000 in
theorem gX7_toldOfGenerator_X2_placeOf : GoodIn wsX7_toldOfGenerator (wsV RX7 113 RX2 yX2_placeOf wsX2_placeOf) := goodIn_app (goodIn_of _ (by decide +kernel)) ggX7_toldOfGenerator_X2_placeOf
set_option maxRecDepth 20000 in
theorem ggX7_toldOfGenerator_X7_barnOrNone : GoodIn wsX7_toldOfGenerator wsX7_barnOrNone := goodIn_r _ [16, 17] (by decide +kernel) (by decide +kernel)
set_option maxRecDepth 20000 in
theorem gX7_toldOfGenerator_X7_barnOrNone : GoodIn wsX7_toldOfGenerator (va_wsS RX7 192 yX7_barnOrNone wsX7_barnOrNone) := goodIn_app (goodIn_of _ (by decide +kernel)) ggX7_toldOfGenerator_X7_barnOrNone
set_option maxRecDepth 20000 in
theorem ggX7_toldOfGenerator_X2_minutesOf : GoodIn wsX7_toldOfGenerator wsX2_minutesOf := goodIn_r _ [21, 22, 31, 32] (by decide +kernel) (by decide +kernel)
set_option maxRecDepth 20000 in
theorem gX7_toldOfGenerator_X2_minutesOf : GoodIn wsX7_toldOfGenerator (wsV RX7 128 RX2 yX2_minutesOf wsX2_minutesOf) := goodIn_app (goodIn_of _ (by decide +kernel)) ggX7_toldOfGenerator_X2_minutesOf
theorem dX7_toldOfGenerator_0 : decode cX7_toldOfGenerator 0 = .ok (.iload_n 1, 1) := by decide +kernel
theorem dX7_toldOfGenerator_1 : decode cX7_toldOfGenerator 1 = .ok (.invokestatic 110, 3) := by decide +kernel
theorem dX7_toldOfGenerator_4 : decode cX7_toldOfGenerator 4 = .ok (.ifCond .ne 6, 3) := by decide +kernel
theorem dX7_toldOfGenerator_7 : decode cX7_toldOfGenerator 7 = .ok (.ldc 76, 2) := by decide +kernel
theorem dX7_toldOfGenerator_9 : decode cX7_toldOfGenerator 9 = .ok (.ireturn, 1) := by decide +kernel
theorem dX7_toldOfGenerator_10 : decode cX7_toldOfGenerator 10 = .ok (.iload_n 2, 1) := by decide +kernel
theorem dX7_toldOfGenerator_11 : decode cX7_toldOfGenerator 11 = .ok (.lookupswitch 46 #[(0, 25), (1, 37)], 25) := by decide +kernel
theorem dX7_toldOfGenerator_36 : decode cX7_toldOfGenerator 36 = .ok (.aload_n 0, 1) := by decide +kernel
theorem dX7_toldOfGenerator_37 : decode cX7_toldOfGenerator 37 = .ok (.getfield 21, 3) := by decide +kernel
theorem dX7_toldOfGenerator_40 : decode cX7_toldOfGenerator 40 = .ok (.iload_n 1, 1) := by decide +kernel
theorem dX7_toldOfGenerator_41 : decode cX7_toldOfGenerator 41 = .ok (.invokevirtual 113, 3) := by decide +kernel
theorem dX7_toldOfGenerator_44 : decode cX7_toldOfGenerator 44 = .ok (.invokestatic 192, 3) := by decide +kernel
theorem dX7_toldOfGenerator_47 : decode cX7_toldOfGenerator 47 = .ok (.ireturn, 1) := by decide +kernel
theorem dX7_toldOfGenerator_48 : decode cX7_toldOfGenerator 48 = .ok (.aload_n 0, 1) := by decide +kernel
theorem dX7_toldOfGenerator_49 : decode cX7_toldOfGenerator 49 = .ok (.getfield 21, 3) := by decide +kernel
theorem dX7_toldOfGenerator_52 : decode cX7_toldOfGenerator 52 = .ok (.iload_n 1, 1) := by decide +kernel
theorem dX7_toldOfGenerator_53 : decode cX7_toldOfGenerator 53 = .ok (.invokevirtual 128, 3) := by decide +kernel
theorem dX7_toldOfGenerator_56 : decode cX7_toldOfGenerator 56 = .ok (.ireturn, 1) := by decide +kernel
theorem dX7_toldOfGenerator_57 : decode cX7_toldOfGenerator 57 = .ok (.ldc 127, 2) := by decide +kernel
theorem dX7_toldOfGenerator_59 : decode cX7_toldOfGenerator 59 = .ok (.ireturn, 1) := by decide +kernel
theorem dX7_barnOrNone_0 : decode cX7_barnOrNone 0 = .ok (.iload_n 0, 1) := by decide +kernel
theorem dX7_barnOrNone_1 : decode cX7_barnOrNone 1 = .ok (.iconst (-1), 1) := by decide +kernel
theorem dX7_barnOrNone_2 : decode cX7_barnOrNone 2 = .ok (.if_icmp .ne 8, 3) := by decide +kernel
theorem dX7_barnOrNone_5 : decode cX7_barnOrNone 5 = .ok (.ldc 77, 2) := by decide +kernel
theorem dX7_barnOrNone_7 : decode cX7_barnOrNone 7 = .ok (.goto 4, 3) := by decide +kernel
theorem dX7_barnOrNone_10 : decode cX7_barnOrNone 10 = .ok (.iload_n 0, 1) := by decide +kernel
theorem dX7_barnOrNone_11 : decode cX7_barnOrNone 11 = .ok (.ireturn, 1) := by decide +kernel
set_option maxRecDepth 20000 in
theorem ggX7_toldOfBarn_X9_isBarn : GoodIn wsX7_toldOfBarn wsX9_isBarn := goodIn_r _ [7] (by decide +kernel) (by decide +kernel)
set_option maxRecDepth 20000 in
theorem gX7_toldOfBarn_X9_isBarn_n72 : GoodIn wsX7_toldOfBarn (wsX9_isBarn) := ggX7_toldOfBarn_X9_isBarn
set_option maxRecDepth 20000 in
theorem ggX7_toldOfBarn_X4_numberAt : GoodIn wsX7_toldOfBarn wsX4_numberAt := goodIn_r _ [12, 13, 80, 81, 82, 83, 84] (by decide +kernel) (by decide +kernel)
set_option maxRecDepth 20000 in
theorem gX7_toldOfBarn_X4_numberAt : GoodIn wsX7_toldOfBarn (wsV RX7 120 RX4 yX4_numberAt wsX4_numberAt) := goodIn_app (goodIn_of _ (by decide +kernel)) ggX7_toldOfBarn_X4_numberAt
set_option maxRecDepth 20000 in
theorem ggX7_toldOfBarn_X4_minutesIn : GoodIn wsX7_toldOfBarn wsX4_minutesIn := goodIn_r _ [17, 13, 18, 80, 81, 82, 83, 84] (by decide +kernel) (by decide +kernel)
set_option maxRecDepth 20000 in
theorem gX7_toldOfBarn_X4_minutesIn : GoodIn wsX7_toldOfBarn (wsV RX7 154 RX4 yX4_minutesIn wsX4_minutesIn) := goodIn_app (goodIn_of _ (by decide +kernel)) ggX7_toldOfBarn_X4_minutesIn
set_option maxRecDepth 20000 in
theorem ggX7_toldOfBarn_X7_peopleIn : GoodIn wsX7_toldOfBarn wsX7_peopleIn := goodIn_r _ [23, 2, 24, 25, 26, 27, 8, 9, 10, 11, 12, 13, 28, 29, 30, 31, 32, 33, 34, 35, 36, 37, 38, 72, 73, 74, 75, 76, 77, 78, 79, 80, 81, 82, 83, 84] (by decide +kernel) (by decide +kernel)
set_option maxRecDepth 20000 in
theorem gX7_toldOfBarn_X7_peopleIn : GoodIn wsX7_toldOfBarn (wsV RX7 151 RX7 yX7_peopleIn wsX7_peopleIn) := goodIn_app (goodIn_of _ (by decide +kernel)) ggX7_toldOfBarn_X7_peopleIn
set_option maxRecDepth 20000 in
theorem ggX7_toldOfBarn_X7_reasonAgainst : GoodIn wsX7_toldOfBarn wsX7_reasonAgainst := goodIn_r _ [42, 3, 43, 2, 44, 45, 46, 47, 48, 49, 50, 51, 8, 9, 10, 11, 12, 13, 52, 53, 54, 55, 56, 57, 14, 15, 16, 17, 18, 58, 59, 60, 61, 62, 72, 73, 74, 75, 76, 77, 78, 79, 85, 86, 87, 80, 81, 82, 83, 84, 88, 89] (by decide +kernel) (by decide +kernel)
set_option maxRecDepth 20000 in
theorem gX7_toldOfBarn_X7_reasonAgainst : GoodIn wsX7_toldOfBarn (wsV RX7 147 RX7 yX7_reasonAgainst wsX7_reasonAgainst) := goodIn_app (goodIn_of _ (by decide +kernel)) ggX7_toldOfBarn_X7_reasonAgainst
set_option maxRecDepth 20000 in
theorem ggX7_toldOfBarn_X1_showsOf : GoodIn wsX7_toldOfBarn wsX1_showsOf := goodIn_r _ [66, 50, 85, 86, 87] (by decide +kernel) (by decide +kernel)
set_option maxRecDepth 20000 in
theorem gX7_toldOfBarn_X1_showsOf : GoodIn wsX7_toldOfBarn (wsV RX7 207 RX1 yX1_showsOf wsX1_showsOf) := goodIn_app (goodIn_of _ (by decide +kernel)) ggX7_toldOfBarn_X1_showsOf
set_option maxRecDepth 20000 in
theorem ggX7_toldOfBarn_X1_takingsOf : GoodIn wsX7_toldOfBarn wsX1_takingsOf := goodIn_r _ [70, 71, 85, 86, 87] (by decide +kernel) (by decide +kernel)
set_option maxRecDepth 20000 in
theorem gX7_toldOfBarn_X1_takingsOf : GoodIn wsX7_toldOfBarn (wsV RX7 210 RX1 yX1_takingsOf wsX1_takingsOf) := goodIn_app (goodIn_of _ (by decide +kernel)) ggX7_toldOfBarn_X1_takingsOf
theorem dX7_toldOfBarn_0 : decode cX7_toldOfBarn 0 = .ok (.iload_n 1, 1) := by decide +kernel
theorem dX7_toldOfBarn_1 : decode cX7_toldOfBarn 1 = .ok (.invokestatic 72, 3) := by decide +kernel
theorem dX7_toldOfBarn_4 : decode cX7_toldOfBarn 4 = .ok (.ifCond .ne 6, 3) := by decide +kernel
theorem dX7_toldOfBarn_7 : decode cX7_toldOfBarn 7 = .ok (.ldc 76, 2) := by decide +kernel
theorem dX7_toldOfBarn_9 : decode cX7_toldOfBarn 9 = .ok (.ireturn, 1) := by decide +kernel
theorem dX7_toldOfBarn_10 : decode cX7_toldOfBarn 10 = .ok (.iload_n 2, 1) := by decide +kernel
theorem dX7_toldOfBarn_11 : decode cX7_toldOfBarn 11 = .ok (.tableswitch 113 0 8 #[49, 55, 61, 65, 74, 83, 89, 95, 104], 49) := by decide +kernel
theorem dX7_toldOfBarn_60 : decode cX7_toldOfBarn 60 = .ok (.getstatic 78, 3) := by decide +kernel
theorem dX7_toldOfBarn_63 : decode cX7_toldOfBarn 63 = .ok (.iload_n 1, 1) := by decide +kernel
theorem dX7_toldOfBarn_64 : decode cX7_toldOfBarn 64 = .ok (.iaload, 1) := by decide +kernel
theorem dX7_toldOfBarn_65 : decode cX7_toldOfBarn 65 = .ok (.ireturn, 1) := by decide +kernel
theorem dX7_toldOfBarn_66 : decode cX7_toldOfBarn 66 = .ok (.getstatic 180, 3) := by decide +kernel
theorem dX7_toldOfBarn_69 : decode cX7_toldOfBarn 69 = .ok (.iload_n 1, 1) := by decide +kernel
theorem dX7_toldOfBarn_70 : decode cX7_toldOfBarn 70 = .ok (.iaload, 1) := by decide +kernel
theorem dX7_toldOfBarn_71 : decode cX7_toldOfBarn 71 = .ok (.ireturn, 1) := by decide +kernel
theorem dX7_toldOfBarn_72 : decode cX7_toldOfBarn 72 = .ok (.iload_n 1, 1) := by decide +kernel
theorem dX7_toldOfBarn_73 : decode cX7_toldOfBarn 73 = .ok (.iconst 3, 1) := by decide +kernel
theorem dX7_toldOfBarn_74 : decode cX7_toldOfBarn 74 = .ok (.irem, 1) := by decide +kernel
theorem dX7_toldOfBarn_75 : decode cX7_toldOfBarn 75 = .ok (.ireturn, 1) := by decide +kernel
theorem dX7_toldOfBarn_76 : decode cX7_toldOfBarn 76 = .ok (.aload_n 0, 1) := by decide +kernel
theorem dX7_toldOfBarn_77 : decode cX7_toldOfBarn 77 = .ok (.getfield 12, 3) := by decide +kernel
theorem dX7_toldOfBarn_80 : decode cX7_toldOfBarn 80 = .ok (.iload_n 1, 1) := by decide +kernel
theorem dX7_toldOfBarn_81 : decode cX7_toldOfBarn 81 = .ok (.invokevirtual 120, 3) := by decide +kernel
theorem dX7_toldOfBarn_84 : decode cX7_toldOfBarn 84 = .ok (.ireturn, 1) := by decide +kernel
theorem dX7_toldOfBarn_85 : decode cX7_toldOfBarn 85 = .ok (.aload_n 0, 1) := by decide +kernel
theorem dX7_toldOfBarn_86 : decode cX7_toldOfBarn 86 = .ok (.getfield 12, 3) := by decide +kernel
theorem dX7_toldOfBarn_89 : decode cX7_toldOfBarn 89 = .ok (.iload_n 1, 1) := by decide +kernel
theorem dX7_toldOfBarn_90 : decode cX7_toldOfBarn 90 = .ok (.invokevirtual 154, 3) := by decide +kernel
theorem dX7_toldOfBarn_93 : decode cX7_toldOfBarn 93 = .ok (.ireturn, 1) := by decide +kernel
theorem dX7_toldOfBarn_94 : decode cX7_toldOfBarn 94 = .ok (.aload_n 0, 1) := by decide +kernel
theorem dX7_toldOfBarn_95 : decode cX7_toldOfBarn 95 = .ok (.iload_n 1, 1) := by decide +kernel
theorem dX7_toldOfBarn_96 : decode cX7_toldOfBarn 96 = .ok (.invokevirtual 151, 3) := by decide +kernel
theorem dX7_toldOfBarn_99 : decode cX7_toldOfBarn 99 = .ok (.ireturn, 1) := by decide +kernel
theorem dX7_toldOfBarn_100 : decode cX7_toldOfBarn 100 = .ok (.aload_n 0, 1) := by decide +kernel
theorem dX7_toldOfBarn_101 : decode cX7_toldOfBarn 101 = .ok (.iload_n 1, 1) := by decide +kernel
theorem dX7_toldOfBarn_102 : decode cX7_toldOfBarn 102 = .ok (.invokevirtual 147, 3) := by decide +kernel
theorem dX7_toldOfBarn_105 : decode cX7_toldOfBarn 105 = .ok (.ireturn, 1) := by decide +kernel
theorem dX7_toldOfBarn_106 : decode cX7_toldOfBarn 106 = .ok (.aload_n 0, 1) := by decide +kernel
theorem dX7_toldOfBarn_107 : decode cX7_toldOfBarn 107 = .ok (.getfield 28, 3) := by decide +kernel
theorem dX7_toldOfBarn_110 : decode cX7_toldOfBarn 110 = .ok (.iload_n 1, 1) := by decide +kernel
theorem dX7_toldOfBarn_111 : decode cX7_toldOfBarn 111 = .ok (.invokevirtual 207, 3) := by decide +kernel
theorem dX7_toldOfBarn_114 : decode cX7_toldOfBarn 114 = .ok (.ireturn, 1) := by decide +kernel
theorem dX7_toldOfBarn_115 : decode cX7_toldOfBarn 115 = .ok (.aload_n 0, 1) := by decide +kernel
theorem dX7_toldOfBarn_116 : decode cX7_toldOfBarn 116 = .ok (.getfield 28, 3) := by decide +kernel
theorem dX7_toldOfBarn_119 : decode cX7_toldOfBarn 119 = .ok (.iload_n 1, 1) := by decide +kernel
theorem dX7_toldOfBarn_120 : decode cX7_toldOfBarn 120 = .ok (.invokevirtual 210, 3) := by decide +kernel
theorem dX7_toldOfBarn_123 : decode cX7_toldOfBarn 123 = .ok (.ireturn, 1) := by decide +kernel
theorem dX7_toldOfBarn_124 : decode cX7_toldOfBarn 124 = .ok (.ldc 127, 2) := by decide +kernel
theorem dX7_toldOfBarn_126 : decode cX7_toldOfBarn 126 = .ok (.ireturn, 1) := by decide +kernel
set_option maxRecDepth 20000 in
theorem ggX7_toldOfPastShow_X6_size : GoodIn wsX7_toldOfPastShow wsX6_size := goodIn_r _ [8, 9, 23, 24] (by decide +kernel) (by decide +kernel)
set_option maxRecDepth 20000 in
theorem gX7_toldOfPastShow_X6_size : GoodIn wsX7_toldOfPastShow (wsV RX7 213 RX6 yX6_size wsX6_size) := goodIn_app (goodIn_of _ (by decide +kernel)) ggX7_toldOfPastShow_X6_size
set_option maxRecDepth 20000 in
theorem ggX7_toldOfPastShow_X6_told : GoodIn wsX7_toldOfPastShow wsX6_told := goodIn_r _ [13, 14, 23, 24] (by decide +kernel) (by decide +kernel)
set_option maxRecDepth 20000 in
theorem gX7_toldOfPastShow_X6_told : GoodIn wsX7_toldOfPastShow (wsV RX7 216 RX6 yX6_told wsX6_told) := goodIn_app (goodIn_of _ (by decide +kernel)) ggX7_toldOfPastShow_X6_told
theorem dX7_toldOfPastShow_0 : decode cX7_toldOfPastShow 0 = .ok (.iload_n 1, 1) := by decide +kernel
theorem dX7_toldOfPastShow_1 : decode cX7_toldOfPastShow 1 = .ok (.ifCond .lt 12, 3) := by decide +kernel
theorem dX7_toldOfPastShow_4 : decode cX7_toldOfPastShow 4 = .ok (.iload_n 2, 1) := by decide +kernel
theorem dX7_toldOfPastShow_5 : decode cX7_toldOfPastShow 5 = .ok (.ifCond .lt 8, 3) := by decide +kernel
theorem dX7_toldOfPastShow_8 : decode cX7_toldOfPastShow 8 = .ok (.iload_n 2, 1) := by decide +kernel
theorem dX7_toldOfPastShow_9 : decode cX7_toldOfPastShow 9 = .ok (.iconst 5, 1) := by decide +kernel
theorem dX7_toldOfPastShow_10 : decode cX7_toldOfPastShow 10 = .ok (.if_icmp .lt 6, 3) := by decide +kernel
theorem dX7_toldOfPastShow_13 : decode cX7_toldOfPastShow 13 = .ok (.ldc 127, 2) := by decide +kernel
theorem dX7_toldOfPastShow_15 : decode cX7_toldOfPastShow 15 = .ok (.ireturn, 1) := by decide +kernel
theorem dX7_toldOfPastShow_16 : decode cX7_toldOfPastShow 16 = .ok (.iload_n 1, 1) := by decide +kernel
theorem dX7_toldOfPastShow_17 : decode cX7_toldOfPastShow 17 = .ok (.aload_n 0, 1) := by decide +kernel
theorem dX7_toldOfPastShow_18 : decode cX7_toldOfPastShow 18 = .ok (.getfield 35, 3) := by decide +kernel
theorem dX7_toldOfPastShow_21 : decode cX7_toldOfPastShow 21 = .ok (.invokevirtual 213, 3) := by decide +kernel
theorem dX7_toldOfPastShow_24 : decode cX7_toldOfPastShow 24 = .ok (.if_icmp .ge 15, 3) := by decide +kernel
theorem dX7_toldOfPastShow_27 : decode cX7_toldOfPastShow 27 = .ok (.aload_n 0, 1) := by decide +kernel
theorem dX7_toldOfPastShow_28 : decode cX7_toldOfPastShow 28 = .ok (.getfield 35, 3) := by decide +kernel
theorem dX7_toldOfPastShow_31 : decode cX7_toldOfPastShow 31 = .ok (.iload_n 1, 1) := by decide +kernel
theorem dX7_toldOfPastShow_32 : decode cX7_toldOfPastShow 32 = .ok (.iload_n 2, 1) := by decide +kernel
theorem dX7_toldOfPastShow_33 : decode cX7_toldOfPastShow 33 = .ok (.invokevirtual 216, 3) := by decide +kernel
theorem dX7_toldOfPastShow_36 : decode cX7_toldOfPastShow 36 = .ok (.goto 5, 3) := by decide +kernel
theorem dX7_toldOfPastShow_39 : decode cX7_toldOfPastShow 39 = .ok (.ldc 77, 2) := by decide +kernel
theorem dX7_toldOfPastShow_41 : decode cX7_toldOfPastShow 41 = .ok (.ireturn, 1) := by decide +kernel
set_option maxRecDepth 20000 in
theorem ggX7_toldOfAll_X7_thingsInVan : GoodIn wsX7_toldOfAll wsX7_thingsInVan := goodIn_r _ [10, 3, 11, 12, 13, 14, 15, 16, 17, 18, 19, 20, 21, 22, 23, 37, 38, 39, 40, 41, 42, 43, 44, 45, 46, 47, 48, 49, 50, 51] (by decide +kernel) (by decide +kernel)
set_option maxRecDepth 20000 in
theorem gX7_toldOfAll_X7_thingsInVan : GoodIn wsX7_toldOfAll (wsV RX7 106 RX7 yX7_thingsInVan wsX7_thingsInVan) := goodIn_app (goodIn_of _ (by decide +kernel)) ggX7_toldOfAll_X7_thingsInVan
set_option maxRecDepth 20000 in
theorem ggX7_toldOfAll_X4_numberAt : GoodIn wsX7_toldOfAll wsX4_numberAt := goodIn_r _ [16, 17, 45, 46, 47, 48, 49] (by decide +kernel) (by decide +kernel)
set_option maxRecDepth 20000 in
theorem gX7_toldOfAll_X4_numberAt : GoodIn wsX7_toldOfAll (wsV RX7 120 RX4 yX4_numberAt wsX4_numberAt) := goodIn_app (goodIn_of _ (by decide +kernel)) ggX7_toldOfAll_X4_numberAt
set_option maxRecDepth 20000 in
theorem ggX7_toldOfAll_X0_told : GoodIn wsX7_toldOfAll wsX0_told := goodIn_r _ [28, 29, 30, 31, 32, 33, 34, 35, 36, 52, 53, 54, 55, 56, 57, 58] (by decide +kernel) (by decide +kernel)
set_option maxRecDepth 20000 in
theorem gX7_toldOfAll_X0_told : GoodIn wsX7_toldOfAll (wsV RX7 219 RX0 yX0_told wsX0_told) := goodIn_app (goodIn_of _ (by decide +kernel)) ggX7_toldOfAll_X0_told
theorem dX7_toldOfAll_0 : decode cX7_toldOfAll 0 = .ok (.iload_n 1, 1) := by decide +kernel
theorem dX7_toldOfAll_1 : decode cX7_toldOfAll 1 = .ok (.tableswitch 93 0 11 #[63, 68, 73, 78, 93, 93, 93, 93, 93, 93, 93, 88], 63) := by decide +kernel
theorem dX7_toldOfAll_64 : decode cX7_toldOfAll 64 = .ok (.aload_n 0, 1) := by decide +kernel
theorem dX7_toldOfAll_65 : decode cX7_toldOfAll 65 = .ok (.getfield 50, 3) := by decide +kernel
theorem dX7_toldOfAll_68 : decode cX7_toldOfAll 68 = .ok (.ireturn, 1) := by decide +kernel
theorem dX7_toldOfAll_69 : decode cX7_toldOfAll 69 = .ok (.aload_n 0, 1) := by decide +kernel
theorem dX7_toldOfAll_70 : decode cX7_toldOfAll 70 = .ok (.getfield 46, 3) := by decide +kernel
theorem dX7_toldOfAll_73 : decode cX7_toldOfAll 73 = .ok (.ireturn, 1) := by decide +kernel
theorem dX7_toldOfAll_74 : decode cX7_toldOfAll 74 = .ok (.aload_n 0, 1) := by decide +kernel
theorem dX7_toldOfAll_75 : decode cX7_toldOfAll 75 = .ok (.invokevirtual 106, 3) := by decide +kernel
theorem dX7_toldOfAll_78 : decode cX7_toldOfAll 78 = .ok (.ireturn, 1) := by decide +kernel
theorem dX7_toldOfAll_79 : decode cX7_toldOfAll 79 = .ok (.aload_n 0, 1) := by decide +kernel
theorem dX7_toldOfAll_80 : decode cX7_toldOfAll 80 = .ok (.getfield 12, 3) := by decide +kernel
theorem dX7_toldOfAll_83 : decode cX7_toldOfAll 83 = .ok (.bipush (-2), 2) := by decide +kernel
theorem dX7_toldOfAll_85 : decode cX7_toldOfAll 85 = .ok (.invokevirtual 120, 3) := by decide +kernel
theorem dX7_toldOfAll_88 : decode cX7_toldOfAll 88 = .ok (.ireturn, 1) := by decide +kernel
theorem dX7_toldOfAll_89 : decode cX7_toldOfAll 89 = .ok (.aload_n 0, 1) := by decide +kernel
theorem dX7_toldOfAll_90 : decode cX7_toldOfAll 90 = .ok (.getfield 53, 3) := by decide +kernel
theorem dX7_toldOfAll_93 : decode cX7_toldOfAll 93 = .ok (.ireturn, 1) := by decide +kernel
theorem dX7_toldOfAll_94 : decode cX7_toldOfAll 94 = .ok (.aload_n 0, 1) := by decide +kernel
theorem dX7_toldOfAll_95 : decode cX7_toldOfAll 95 = .ok (.getfield 42, 3) := by decide +kernel
theorem dX7_toldOfAll_98 : decode cX7_toldOfAll 98 = .ok (.iload_n 1, 1) := by decide +kernel
theorem dX7_toldOfAll_99 : decode cX7_toldOfAll 99 = .ok (.invokevirtual 219, 3) := by decide +kernel
theorem dX7_toldOfAll_102 : decode cX7_toldOfAll 102 = .ok (.ireturn, 1) := by decide +kernel
