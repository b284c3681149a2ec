theorem dX9_isBarn_0 : decode cX9_isBarn 0 = .ok (.iload_n 0, 1) := by decide +kernel
theorem dX9_isBarn_1 : decode cX9_isBarn 1 = .ok (.ifCond .lt 12, 3) := by decide +kernel
theorem dX9_isBarn_4 : decode cX9_isBarn 4 = .ok (.iload_n 0, 1) := by decide +kernel
theorem dX9_isBarn_5 : decode cX9_isBarn 5 = .ok (.iconst 5, 1) := by decide +kernel
theorem dX9_isBarn_6 : decode cX9_isBarn 6 = .ok (.if_icmp .ge 7, 3) := by decide +kernel
theorem dX9_isBarn_9 : decode cX9_isBarn 9 = .ok (.iconst 1, 1) := by decide +kernel
theorem dX9_isBarn_10 : decode cX9_isBarn 10 = .ok (.goto 4, 3) := by decide +kernel
theorem dX9_isBarn_13 : decode cX9_isBarn 13 = .ok (.iconst 0, 1) := by decide +kernel
theorem dX9_isBarn_14 : decode cX9_isBarn 14 = .ok (.ireturn, 1) := by decide +kernel
theorem dX9_isGenerator_0 : decode cX9_isGenerator 0 = .ok (.iload_n 0, 1) := by decide +kernel
theorem dX9_isGenerator_1 : decode cX9_isGenerator 1 = .ok (.ifCond .lt 12, 3) := by decide +kernel
theorem dX9_isGenerator_4 : decode cX9_isGenerator 4 = .ok (.iload_n 0, 1) := by decide +kernel
theorem dX9_isGenerator_5 : decode cX9_isGenerator 5 = .ok (.iconst 2, 1) := by decide +kernel
theorem dX9_isGenerator_6 : decode cX9_isGenerator 6 = .ok (.if_icmp .ge 7, 3) := by decide +kernel
theorem dX9_isGenerator_9 : decode cX9_isGenerator 9 = .ok (.iconst 1, 1) := by decide +kernel
theorem dX9_isGenerator_10 : decode cX9_isGenerator 10 = .ok (.goto 4, 3) := by decide +kernel
theorem dX9_isGenerator_13 : decode cX9_isGenerator 13 = .ok (.iconst 0, 1) := by decide +kernel
theorem dX9_isGenerator_14 : decode cX9_isGenerator 14 = .ok (.ireturn, 1) := by decide +kernel
theorem dX9_isPrice_0 : decode cX9_isPrice 0 = .ok (.iload_n 0, 1) := by decide +kernel
theorem dX9_isPrice_1 : decode cX9_isPrice 1 = .ok (.iconst 1, 1) := by decide +kernel
theorem dX9_isPrice_2 : decode cX9_isPrice 2 = .ok (.if_icmp .lt 13, 3) := by decide +kernel
theorem dX9_isPrice_5 : decode cX9_isPrice 5 = .ok (.iload_n 0, 1) := by decide +kernel
theorem dX9_isPrice_6 : decode cX9_isPrice 6 = .ok (.bipush 99, 2) := by decide +kernel
theorem dX9_isPrice_8 : decode cX9_isPrice 8 = .ok (.if_icmp .gt 7, 3) := by decide +kernel
theorem dX9_isPrice_11 : decode cX9_isPrice 11 = .ok (.iconst 1, 1) := by decide +kernel
theorem dX9_isPrice_12 : decode cX9_isPrice 12 = .ok (.goto 4, 3) := by decide +kernel
theorem dX9_isPrice_15 : decode cX9_isPrice 15 = .ok (.iconst 0, 1) := by decide +kernel
theorem dX9_isPrice_16 : decode cX9_isPrice 16 = .ok (.ireturn, 1) := by decide +kernel
theorem dX9_isFuelOnSale_0 : decode cX9_isFuelOnSale 0 = .ok (.iload_n 0, 1) := by decide +kernel
theorem dX9_isFuelOnSale_1 : decode cX9_isFuelOnSale 1 = .ok (.iconst 5, 1) := by decide +kernel
theorem dX9_isFuelOnSale_2 : decode cX9_isFuelOnSale 2 = .ok (.if_icmp .lt 20, 3) := by decide +kernel
theorem dX9_isFuelOnSale_5 : decode cX9_isFuelOnSale 5 = .ok (.iload_n 0, 1) := by decide +kernel
theorem dX9_isFuelOnSale_6 : decode cX9_isFuelOnSale 6 = .ok (.sipush 500, 3) := by decide +kernel
theorem dX9_isFuelOnSale_9 : decode cX9_isFuelOnSale 9 = .ok (.if_icmp .gt 13, 3) := by decide +kernel
theorem dX9_isFuelOnSale_12 : decode cX9_isFuelOnSale 12 = .ok (.iload_n 0, 1) := by decide +kernel
theorem dX9_isFuelOnSale_13 : decode cX9_isFuelOnSale 13 = .ok (.iconst 5, 1) := by decide +kernel
theorem dX9_isFuelOnSale_14 : decode cX9_isFuelOnSale 14 = .ok (.irem, 1) := by decide +kernel
theorem dX9_isFuelOnSale_15 : decode cX9_isFuelOnSale 15 = .ok (.ifCond .ne 7, 3) := by decide +kernel
theorem dX9_isFuelOnSale_18 : decode cX9_isFuelOnSale 18 = .ok (.iconst 1, 1) := by decide +kernel
theorem dX9_isFuelOnSale_19 : decode cX9_isFuelOnSale 19 = .ok (.goto 4, 3) := by decide +kernel
theorem dX9_isFuelOnSale_22 : decode cX9_isFuelOnSale 22 = .ok (.iconst 0, 1) := by decide +kernel
theorem dX9_isFuelOnSale_23 : decode cX9_isFuelOnSale 23 = .ok (.ireturn, 1) := by decide +kernel
theorem dX0_init_0 : decode cX0_init 0 = .ok (.aload_n 0, 1) := by decide +kernel
theorem dX0_init_1 : decode cX0_init 1 = .ok (.invokespecial 3, 3) := by decide +kernel
theorem dX0_init_4 : decode cX0_init 4 = .ok (.aload_n 0, 1) := by decide +kernel
theorem dX0_init_5 : decode cX0_init 5 = .ok (.iconst 0, 1) := by decide +kernel
theorem dX0_init_6 : decode cX0_init 6 = .ok (.putfield 9, 3) := by decide +kernel
theorem dX0_init_9 : decode cX0_init 9 = .ok (.aload_n 0, 1) := by decide +kernel
theorem dX0_init_10 : decode cX0_init 10 = .ok (.iconst 0, 1) := by decide +kernel
theorem dX0_init_11 : decode cX0_init 11 = .ok (.putfield 15, 3) := by decide +kernel
theorem dX0_init_14 : decode cX0_init 14 = .ok (.aload_n 0, 1) := by decide +kernel
theorem dX0_init_15 : decode cX0_init 15 = .ok (.iconst 0, 1) := by decide +kernel
theorem dX0_init_16 : decode cX0_init 16 = .ok (.putfield 18, 3) := by decide +kernel
theorem dX0_init_19 : decode cX0_init 19 = .ok (.aload_n 0, 1) := by decide +kernel
theorem dX0_init_20 : decode cX0_init 20 = .ok (.iconst 0, 1) := by decide +kernel
theorem dX0_init_21 : decode cX0_init 21 = .ok (.putfield 21, 3) := by decide +kernel
theorem dX0_init_24 : decode cX0_init 24 = .ok (.aload_n 0, 1) := by decide +kernel
theorem dX0_init_25 : decode cX0_init 25 = .ok (.iconst 0, 1) := by decide +kernel
theorem dX0_init_26 : decode cX0_init 26 = .ok (.putfield 24, 3) := by decide +kernel
theorem dX0_init_29 : decode cX0_init 29 = .ok (.aload_n 0, 1) := by decide +kernel
theorem dX0_init_30 : decode cX0_init 30 = .ok (.iconst 0, 1) := by decide +kernel
theorem dX0_init_31 : decode cX0_init 31 = .ok (.putfield 27, 3) := by decide +kernel
theorem dX0_init_34 : decode cX0_init 34 = .ok (.aload_n 0, 1) := by decide +kernel
theorem dX0_init_35 : decode cX0_init 35 = .ok (.iconst 0, 1) := by decide +kernel
theorem dX0_init_36 : decode cX0_init 36 = .ok (.putfield 30, 3) := by decide +kernel
theorem dX0_init_39 : decode cX0_init 39 = .ok (.return_, 1) := by decide +kernel
theorem dX0_copyFrom_0 : decode cX0_copyFrom 0 = .ok (.aload_n 0, 1) := by decide +kernel
theorem dX0_copyFrom_1 : decode cX0_copyFrom 1 = .ok (.aload_n 1, 1) := by decide +kernel
theorem dX0_copyFrom_2 : decode cX0_copyFrom 2 = .ok (.getfield 9, 3) := by decide +kernel
theorem dX0_copyFrom_5 : decode cX0_copyFrom 5 = .ok (.putfield 9, 3) := by decide +kernel
theorem dX0_copyFrom_8 : decode cX0_copyFrom 8 = .ok (.aload_n 0, 1) := by decide +kernel
theorem dX0_copyFrom_9 : decode cX0_copyFrom 9 = .ok (.aload_n 1, 1) := by decide +kernel
theorem dX0_copyFrom_10 : decode cX0_copyFrom 10 = .ok (.getfield 15, 3) := by decide +kernel
theorem dX0_copyFrom_13 : decode cX0_copyFrom 13 = .ok (.putfield 15, 3) := by decide +kernel
theorem dX0_copyFrom_16 : decode cX0_copyFrom 16 = .ok (.aload_n 0, 1) := by decide +kernel
theorem dX0_copyFrom_17 : decode cX0_copyFrom 17 = .ok (.aload_n 1, 1) := by decide +kernel
theorem dX0_copyFrom_18 : decode cX0_copyFrom 18 = .ok (.getfield 18, 3) := by decide +kernel
theorem dX0_copyFrom_21 : decode cX0_copyFrom 21 = .ok (.putfield 18, 3) := by decide +kernel
theorem dX0_copyFrom_24 : decode cX0_copyFrom 24 = .ok (.aload_n 0, 1) := by decide +kernel
theorem dX0_copyFrom_25 : decode cX0_copyFrom 25 = .ok (.aload_n 1, 1) := by decide +kernel
theorem dX0_copyFrom_26 : decode cX0_copyFrom 26 = .ok (.getfield 21, 3) := by decide +kernel
theorem dX0_copyFrom_29 : decode cX0_copyFrom 29 = .ok (.putfield 21, 3) := by decide +kernel
theorem dX0_copyFrom_32 : decode cX0_copyFrom 32 = .ok (.aload_n 0, 1) := by decide +kernel
theorem dX0_copyFrom_33 : decode cX0_copyFrom 33 = .ok (.aload_n 1, 1) := by decide +kernel
theorem dX0_copyFrom_34 : decode cX0_copyFrom 34 = .ok (.getfield 24, 3) := by decide +kernel
theorem dX0_copyFrom_37 : decode cX0_copyFrom 37 = .ok (.putfield 24, 3) := by decide +kernel
theorem dX0_copyFrom_40 : decode cX0_copyFrom 40 = .ok (.aload_n 0, 1) := by decide +kernel
theorem dX0_copyFrom_41 : decode cX0_copyFrom 41 = .ok (.aload_n 1, 1) := by decide +kernel
theorem dX0_copyFrom_42 : decode cX0_copyFrom 42 = .ok (.getfield 27, 3) := by decide +kernel
theorem dX0_copyFrom_45 : decode cX0_copyFrom 45 = .ok (.putfield 27, 3) := by decide +kernel
theorem dX0_copyFrom_48 : decode cX0_copyFrom 48 = .ok (.aload_n 0, 1) := by decide +kernel
theorem dX0_copyFrom_49 : decode cX0_copyFrom 49 = .ok (.aload_n 1, 1) := by decide +kernel
theorem dX0_copyFrom_50 : decode cX0_copyFrom 50 = .ok (.getfield 30, 3) := by decide +kernel
theorem dX0_copyFrom_53 : decode cX0_copyFrom 53 = .ok (.putfield 30, 3) := by decide +kernel
theorem dX0_copyFrom_56 : decode cX0_copyFrom 56 = .ok (.return_, 1) := by decide +kernel
theorem dX0_payDriving_0 : decode cX0_payDriving 0 = .ok (.aload_n 0, 1) := by decide +kernel
theorem dX0_payDriving_1 : decode cX0_payDriving 1 = .ok (.dup, 1) := by decide +kernel
theorem dX0_payDriving_2 : decode cX0_payDriving 2 = .ok (.getfield 15, 3) := by decide +kernel
theorem dX0_payDriving_5 : decode cX0_payDriving 5 = .ok (.iload_n 1, 1) := by decide +kernel
theorem dX0_payDriving_6 : decode cX0_payDriving 6 = .ok (.iadd, 1) := by decide +kernel
theorem dX0_payDriving_7 : decode cX0_payDriving 7 = .ok (.putfield 15, 3) := by decide +kernel
theorem dX0_payDriving_10 : decode cX0_payDriving 10 = .ok (.return_, 1) := by decide +kernel
theorem dX0_payFuel_0 : decode cX0_payFuel 0 = .ok (.aload_n 0, 1) := by decide +kernel
theorem dX0_payFuel_1 : decode cX0_payFuel 1 = .ok (.dup, 1) := by decide +kernel
theorem dX0_payFuel_2 : decode cX0_payFuel 2 = .ok (.getfield 18, 3) := by decide +kernel
theorem dX0_payFuel_5 : decode cX0_payFuel 5 = .ok (.iload_n 1, 1) := by decide +kernel
theorem dX0_payFuel_6 : decode cX0_payFuel 6 = .ok (.iadd, 1) := by decide +kernel
theorem dX0_payFuel_7 : decode cX0_payFuel 7 = .ok (.putfield 18, 3) := by decide +kernel
theorem dX0_payFuel_10 : decode cX0_payFuel 10 = .ok (.return_, 1) := by decide +kernel
theorem dX0_payRenewal_0 : decode cX0_payRenewal 0 = .ok (.aload_n 0, 1) := by decide +kernel
theorem dX0_payRenewal_1 : decode cX0_payRenewal 1 = .ok (.dup, 1) := by decide +kernel
theorem dX0_payRenewal_2 : decode cX0_payRenewal 2 = .ok (.getfield 21, 3) := by decide +kernel
theorem dX0_payRenewal_5 : decode cX0_payRenewal 5 = .ok (.bipush 30, 2) := by decide +kernel
theorem dX0_payRenewal_7 : decode cX0_payRenewal 7 = .ok (.iadd, 1) := by decide +kernel
theorem dX0_payRenewal_8 : decode cX0_payRenewal 8 = .ok (.putfield 21, 3) := by decide +kernel
theorem dX0_payRenewal_11 : decode cX0_payRenewal 11 = .ok (.return_, 1) := by decide +kernel
theorem dX0_addShow_0 : decode cX0_addShow 0 = .ok (.aload_n 0, 1) := by decide +kernel
theorem dX0_addShow_1 : decode cX0_addShow 1 = .ok (.dup, 1) := by decide +kernel
theorem dX0_addShow_2 : decode cX0_addShow 2 = .ok (.getfield 24, 3) := by decide +kernel
theorem dX0_addShow_5 : decode cX0_addShow 5 = .ok (.iconst 1, 1) := by decide +kernel
theorem dX0_addShow_6 : decode cX0_addShow 6 = .ok (.iadd, 1) := by decide +kernel
theorem dX0_addShow_7 : decode cX0_addShow 7 = .ok (.putfield 24, 3) := by decide +kernel
theorem dX0_addShow_10 : decode cX0_addShow 10 = .ok (.aload_n 0, 1) := by decide +kernel
theorem dX0_addShow_11 : decode cX0_addShow 11 = .ok (.dup, 1) := by decide +kernel
theorem dX0_addShow_12 : decode cX0_addShow 12 = .ok (.getfield 27, 3) := by decide +kernel
theorem dX0_addShow_15 : decode cX0_addShow 15 = .ok (.iload_n 1, 1) := by decide +kernel
theorem dX0_addShow_16 : decode cX0_addShow 16 = .ok (.iadd, 1) := by decide +kernel
theorem dX0_addShow_17 : decode cX0_addShow 17 = .ok (.putfield 27, 3) := by decide +kernel
theorem dX0_addShow_20 : decode cX0_addShow 20 = .ok (.aload_n 0, 1) := by decide +kernel
theorem dX0_addShow_21 : decode cX0_addShow 21 = .ok (.dup, 1) := by decide +kernel
theorem dX0_addShow_22 : decode cX0_addShow 22 = .ok (.getfield 9, 3) := by decide +kernel
theorem dX0_addShow_25 : decode cX0_addShow 25 = .ok (.iload_n 2, 1) := by decide +kernel
theorem dX0_addShow_26 : decode cX0_addShow 26 = .ok (.iadd, 1) := by decide +kernel
theorem dX0_addShow_27 : decode cX0_addShow 27 = .ok (.putfield 9, 3) := by decide +kernel
theorem dX0_addShow_30 : decode cX0_addShow 30 = .ok (.aload_n 0, 1) := by decide +kernel
theorem dX0_addShow_31 : decode cX0_addShow 31 = .ok (.dup, 1) := by decide +kernel
theorem dX0_addShow_32 : decode cX0_addShow 32 = .ok (.getfield 30, 3) := by decide +kernel
theorem dX0_addShow_35 : decode cX0_addShow 35 = .ok (.iload_n 3, 1) := by decide +kernel
theorem dX0_addShow_36 : decode cX0_addShow 36 = .ok (.iadd, 1) := by decide +kernel
theorem dX0_addShow_37 : decode cX0_addShow 37 = .ok (.putfield 30, 3) := by decide +kernel
theorem dX0_addShow_40 : decode cX0_addShow 40 = .ok (.return_, 1) := by decide +kernel
theorem dX0_told_0 : decode cX0_told 0 = .ok (.iload_n 1, 1) := by decide +kernel
theorem dX0_told_1 : decode cX0_told 1 = .ok (.tableswitch 106 4 12 #[51, 56, 61, 66, 71, 91, 96, 106, 101], 51) := by decide +kernel
theorem dX0_told_52 : decode cX0_told 52 = .ok (.aload_n 0, 1) := by decide +kernel
theorem dX0_told_53 : decode cX0_told 53 = .ok (.getfield 9, 3) := by decide +kernel
theorem dX0_told_56 : decode cX0_told 56 = .ok (.ireturn, 1) := by decide +kernel
theorem dX0_told_57 : decode cX0_told 57 = .ok (.aload_n 0, 1) := by decide +kernel
theorem dX0_told_58 : decode cX0_told 58 = .ok (.getfield 15, 3) := by decide +kernel
theorem dX0_told_61 : decode cX0_told 61 = .ok (.ireturn, 1) := by decide +kernel
theorem dX0_told_62 : decode cX0_told 62 = .ok (.aload_n 0, 1) := by decide +kernel
theorem dX0_told_63 : decode cX0_told 63 = .ok (.getfield 18, 3) := by decide +kernel
theorem dX0_told_66 : decode cX0_told 66 = .ok (.ireturn, 1) := by decide +kernel
theorem dX0_told_67 : decode cX0_told 67 = .ok (.aload_n 0, 1) := by decide +kernel
theorem dX0_told_68 : decode cX0_told 68 = .ok (.getfield 21, 3) := by decide +kernel
theorem dX0_told_71 : decode cX0_told 71 = .ok (.ireturn, 1) := by decide +kernel
theorem dX0_told_72 : decode cX0_told 72 = .ok (.aload_n 0, 1) := by decide +kernel
theorem dX0_told_73 : decode cX0_told 73 = .ok (.getfield 9, 3) := by decide +kernel
theorem dX0_told_76 : decode cX0_told 76 = .ok (.aload_n 0, 1) := by decide +kernel
theorem dX0_told_77 : decode cX0_told 77 = .ok (.getfield 15, 3) := by decide +kernel
theorem dX0_told_80 : decode cX0_told 80 = .ok (.isub, 1) := by decide +kernel
theorem dX0_told_81 : decode cX0_told 81 = .ok (.aload_n 0, 1) := by decide +kernel
theorem dX0_told_82 : decode cX0_told 82 = .ok (.getfield 18, 3) := by decide +kernel
theorem dX0_told_85 : decode cX0_told 85 = .ok (.isub, 1) := by decide +kernel
theorem dX0_told_86 : decode cX0_told 86 = .ok (.aload_n 0, 1) := by decide +kernel
theorem dX0_told_87 : decode cX0_told 87 = .ok (.getfield 21, 3) := by decide +kernel
theorem dX0_told_90 : decode cX0_told 90 = .ok (.isub, 1) := by decide +kernel
theorem dX0_told_91 : decode cX0_told 91 = .ok (.ireturn, 1) := by decide +kernel
theorem dX0_told_92 : decode cX0_told 92 = .ok (.aload_n 0, 1) := by decide +kernel
theorem dX0_told_93 : decode cX0_told 93 = .ok (.getfield 24, 3) := by decide +kernel
theorem dX0_told_96 : decode cX0_told 96 = .ok (.ireturn, 1) := by decide +kernel
theorem dX0_told_97 : decode cX0_told 97 = .ok (.aload_n 0, 1) := by decide +kernel
theorem dX0_told_98 : decode cX0_told 98 = .ok (.getfield 27, 3) := by decide +kernel
theorem dX0_told_101 : decode cX0_told 101 = .ok (.ireturn, 1) := by decide +kernel
theorem dX0_told_102 : decode cX0_told 102 = .ok (.aload_n 0, 1) := by decide +kernel
theorem dX0_told_103 : decode cX0_told 103 = .ok (.getfield 30, 3) := by decide +kernel
theorem dX0_told_106 : decode cX0_told 106 = .ok (.ireturn, 1) := by decide +kernel
theorem dX0_told_107 : decode cX0_told 107 = .ok (.ldc 33, 2) := by decide +kernel
theorem dX0_told_109 : decode cX0_told 109 = .ok (.ireturn, 1) := by decide +kernel
theorem dX1_init_0 : decode cX1_init 0 = .ok (.aload_n 0, 1) := by decide +kernel
theorem dX1_init_1 : decode cX1_init 1 = .ok (.invokespecial 3, 3) := by decide +kernel
theorem dX1_init_4 : decode cX1_init 4 = .ok (.aload_n 0, 1) := by decide +kernel
theorem dX1_init_5 : decode cX1_init 5 = .ok (.iconst 5, 1) := by decide +kernel
theorem dX1_init_6 : decode cX1_init 6 = .ok (.newarray .int, 2) := by decide +kernel
theorem dX1_init_8 : decode cX1_init 8 = .ok (.putfield 9, 3) := by decide +kernel
theorem dX1_init_11 : decode cX1_init 11 = .ok (.aload_n 0, 1) := by decide +kernel
theorem dX1_init_12 : decode cX1_init 12 = .ok (.iconst 5, 1) := by decide +kernel
theorem dX1_init_13 : decode cX1_init 13 = .ok (.newarray .int, 2) := by decide +kernel
theorem dX1_init_15 : decode cX1_init 15 = .ok (.putfield 15, 3) := by decide +kernel
theorem dX1_init_18 : decode cX1_init 18 = .ok (.aload_n 0, 1) := by decide +kernel
theorem dX1_init_19 : decode cX1_init 19 = .ok (.iconst 5, 1) := by decide +kernel
theorem dX1_init_20 : decode cX1_init 20 = .ok (.newarray .int, 2) := by decide +kernel
theorem dX1_init_22 : decode cX1_init 22 = .ok (.putfield 18, 3) := by decide +kernel
theorem dX1_init_25 : decode cX1_init 25 = .ok (.return_, 1) := by decide +kernel
theorem dX1_copyFrom_0 : decode cX1_copyFrom 0 = .ok (.aload_n 1, 1) := by decide +kernel
theorem dX1_copyFrom_1 : decode cX1_copyFrom 1 = .ok (.getfield 9, 3) := by decide +kernel
theorem dX1_copyFrom_4 : decode cX1_copyFrom 4 = .ok (.iconst 0, 1) := by decide +kernel
theorem dX1_copyFrom_5 : decode cX1_copyFrom 5 = .ok (.aload_n 0, 1) := by decide +kernel
theorem dX1_copyFrom_6 : decode cX1_copyFrom 6 = .ok (.getfield 9, 3) := by decide +kernel
theorem dX1_copyFrom_9 : decode cX1_copyFrom 9 = .ok (.iconst 0, 1) := by decide +kernel
theorem dX1_copyFrom_10 : decode cX1_copyFrom 10 = .ok (.iconst 5, 1) := by decide +kernel
theorem dX1_copyFrom_11 : decode cX1_copyFrom 11 = .ok (.invokestatic 21, 3) := by decide +kernel
theorem dX1_copyFrom_14 : decode cX1_copyFrom 14 = .ok (.aload_n 1, 1) := by decide +kernel
theorem dX1_copyFrom_15 : decode cX1_copyFrom 15 = .ok (.getfield 15, 3) := by decide +kernel
theorem dX1_copyFrom_18 : decode cX1_copyFrom 18 = .ok (.iconst 0, 1) := by decide +kernel
theorem dX1_copyFrom_19 : decode cX1_copyFrom 19 = .ok (.aload_n 0, 1) := by decide +kernel
theorem dX1_copyFrom_20 : decode cX1_copyFrom 20 = .ok (.getfield 15, 3) := by decide +kernel
theorem dX1_copyFrom_23 : decode cX1_copyFrom 23 = .ok (.iconst 0, 1) := by decide +kernel
theorem dX1_copyFrom_24 : decode cX1_copyFrom 24 = .ok (.iconst 5, 1) := by decide +kernel
theorem dX1_copyFrom_25 : decode cX1_copyFrom 25 = .ok (.invokestatic 21, 3) := by decide +kernel
theorem dX1_copyFrom_28 : decode cX1_copyFrom 28 = .ok (.aload_n 1, 1) := by decide +kernel
theorem dX1_copyFrom_29 : decode cX1_copyFrom 29 = .ok (.getfield 18, 3) := by decide +kernel
theorem dX1_copyFrom_32 : decode cX1_copyFrom 32 = .ok (.iconst 0, 1) := by decide +kernel
theorem dX1_copyFrom_33 : decode cX1_copyFrom 33 = .ok (.aload_n 0, 1) := by decide +kernel
theorem dX1_copyFrom_34 : decode cX1_copyFrom 34 = .ok (.getfield 18, 3) := by decide +kernel
theorem dX1_copyFrom_37 : decode cX1_copyFrom 37 = .ok (.iconst 0, 1) := by decide +kernel
theorem dX1_copyFrom_38 : decode cX1_copyFrom 38 = .ok (.iconst 5, 1) := by decide +kernel
theorem dX1_copyFrom_39 : decode cX1_copyFrom 39 = .ok (.invokestatic 21, 3) := by decide +kernel
theorem dX1_copyFrom_42 : decode cX1_copyFrom 42 = .ok (.return_, 1) := by decide +kernel
theorem dX1_hadShowOn_0 : decode cX1_hadShowOn 0 = .ok (.aload_n 0, 1) := by decide +kernel
theorem dX1_hadShowOn_1 : decode cX1_hadShowOn 1 = .ok (.getfield 15, 3) := by decide +kernel
theorem dX1_hadShowOn_4 : decode cX1_hadShowOn 4 = .ok (.iload_n 1, 1) := by decide +kernel
theorem dX1_hadShowOn_5 : decode cX1_hadShowOn 5 = .ok (.iaload, 1) := by decide +kernel
theorem dX1_hadShowOn_6 : decode cX1_hadShowOn 6 = .ok (.ifCond .le 17, 3) := by decide +kernel
theorem dX1_hadShowOn_9 : decode cX1_hadShowOn 9 = .ok (.aload_n 0, 1) := by decide +kernel
theorem dX1_hadShowOn_10 : decode cX1_hadShowOn 10 = .ok (.getfield 9, 3) := by decide +kernel
theorem dX1_hadShowOn_13 : decode cX1_hadShowOn 13 = .ok (.iload_n 1, 1) := by decide +kernel
theorem dX1_hadShowOn_14 : decode cX1_hadShowOn 14 = .ok (.iaload, 1) := by decide +kernel
theorem dX1_hadShowOn_15 : decode cX1_hadShowOn 15 = .ok (.iload_n 2, 1) := by decide +kernel
theorem dX1_hadShowOn_16 : decode cX1_hadShowOn 16 = .ok (.if_icmp .ne 7, 3) := by decide +kernel
theorem dX1_hadShowOn_19 : decode cX1_hadShowOn 19 = .ok (.iconst 1, 1) := by decide +kernel
theorem dX1_hadShowOn_20 : decode cX1_hadShowOn 20 = .ok (.goto 4, 3) := by decide +kernel
theorem dX1_hadShowOn_23 : decode cX1_hadShowOn 23 = .ok (.iconst 0, 1) := by decide +kernel
theorem dX1_hadShowOn_24 : decode cX1_hadShowOn 24 = .ok (.ireturn, 1) := by decide +kernel
theorem dX1_addShow_0 : decode cX1_addShow 0 = .ok (.aload_n 0, 1) := by decide +kernel
theorem dX1_addShow_1 : decode cX1_addShow 1 = .ok (.getfield 9, 3) := by decide +kernel
theorem dX1_addShow_4 : decode cX1_addShow 4 = .ok (.iload_n 1, 1) := by decide +kernel
theorem dX1_addShow_5 : decode cX1_addShow 5 = .ok (.iload_n 2, 1) := by decide +kernel
theorem dX1_addShow_6 : decode cX1_addShow 6 = .ok (.iastore, 1) := by decide +kernel
theorem dX1_addShow_7 : decode cX1_addShow 7 = .ok (.aload_n 0, 1) := by decide +kernel
theorem dX1_addShow_8 : decode cX1_addShow 8 = .ok (.getfield 15, 3) := by decide +kernel
theorem dX1_addShow_11 : decode cX1_addShow 11 = .ok (.iload_n 1, 1) := by decide +kernel
theorem dX1_addShow_12 : decode cX1_addShow 12 = .ok (.dup2, 1) := by decide +kernel
theorem dX1_addShow_13 : decode cX1_addShow 13 = .ok (.iaload, 1) := by decide +kernel
theorem dX1_addShow_14 : decode cX1_addShow 14 = .ok (.iconst 1, 1) := by decide +kernel
theorem dX1_addShow_15 : decode cX1_addShow 15 = .ok (.iadd, 1) := by decide +kernel
theorem dX1_addShow_16 : decode cX1_addShow 16 = .ok (.iastore, 1) := by decide +kernel
theorem dX1_addShow_17 : decode cX1_addShow 17 = .ok (.aload_n 0, 1) := by decide +kernel
theorem dX1_addShow_18 : decode cX1_addShow 18 = .ok (.getfield 18, 3) := by decide +kernel
theorem dX1_addShow_21 : decode cX1_addShow 21 = .ok (.iload_n 1, 1) := by decide +kernel
theorem dX1_addShow_22 : decode cX1_addShow 22 = .ok (.dup2, 1) := by decide +kernel
theorem dX1_addShow_23 : decode cX1_addShow 23 = .ok (.iaload, 1) := by decide +kernel
theorem dX1_addShow_24 : decode cX1_addShow 24 = .ok (.iload_n 3, 1) := by decide +kernel
theorem dX1_addShow_25 : decode cX1_addShow 25 = .ok (.iadd, 1) := by decide +kernel
theorem dX1_addShow_26 : decode cX1_addShow 26 = .ok (.iastore, 1) := by decide +kernel
theorem dX1_addShow_27 : decode cX1_addShow 27 = .ok (.return_, 1) := by decide +kernel
theorem dX1_showsOf_0 : decode cX1_showsOf 0 = .ok (.aload_n 0, 1) := by decide +kernel
theorem dX1_showsOf_1 : decode cX1_showsOf 1 = .ok (.getfield 15, 3) := by decide +kernel
theorem dX1_showsOf_4 : decode cX1_showsOf 4 = .ok (.iload_n 1, 1) := by decide +kernel
theorem dX1_showsOf_5 : decode cX1_showsOf 5 = .ok (.iaload, 1) := by decide +kernel
theorem dX1_showsOf_6 : decode cX1_showsOf 6 = .ok (.ireturn, 1) := by decide +kernel
theorem dX1_takingsOf_0 : decode cX1_takingsOf 0 = .ok (.aload_n 0, 1) := by decide +kernel
theorem dX1_takingsOf_1 : decode cX1_takingsOf 1 = .ok (.getfield 18, 3) := by decide +kernel
theorem dX1_takingsOf_4 : decode cX1_takingsOf 4 = .ok (.iload_n 1, 1) := by decide +kernel
theorem dX1_takingsOf_5 : decode cX1_takingsOf 5 = .ok (.iaload, 1) := by decide +kernel
theorem dX1_takingsOf_6 : decode cX1_takingsOf 6 = .ok (.ireturn, 1) := by decide +kernel
theorem dX2_init_0 : decode cX2_init 0 = .ok (.aload_n 0, 1) := by decide +kernel
theorem dX2_init_1 : decode cX2_init 1 = .ok (.invokespecial 3, 3) := by decide +kernel
theorem dX2_init_4 : decode cX2_init 4 = .ok (.aload_n 0, 1) := by decide +kernel
theorem dX2_init_5 : decode cX2_init 5 = .ok (.iconst 2, 1) := by decide +kernel
theorem dX2_init_6 : decode cX2_init 6 = .ok (.newarray .int, 2) := by decide +kernel
theorem dX2_init_8 : decode cX2_init 8 = .ok (.putfield 9, 3) := by decide +kernel
theorem dX2_init_11 : decode cX2_init 11 = .ok (.aload_n 0, 1) := by decide +kernel
theorem dX2_init_12 : decode cX2_init 12 = .ok (.iconst 2, 1) := by decide +kernel
theorem dX2_init_13 : decode cX2_init 13 = .ok (.newarray .int, 2) := by decide +kernel
theorem dX2_init_15 : decode cX2_init 15 = .ok (.putfield 15, 3) := by decide +kernel
theorem dX2_init_18 : decode cX2_init 18 = .ok (.iconst 0, 1) := by decide +kernel
theorem dX2_init_19 : decode cX2_init 19 = .ok (.istore_n 1, 1) := by decide +kernel
theorem dX2_init_20 : decode cX2_init 20 = .ok (.iload_n 1, 1) := by decide +kernel
theorem dX2_init_21 : decode cX2_init 21 = .ok (.iconst 2, 1) := by decide +kernel
theorem dX2_init_22 : decode cX2_init 22 = .ok (.if_icmp .ge 24, 3) := by decide +kernel
theorem dX2_init_25 : decode cX2_init 25 = .ok (.aload_n 0, 1) := by decide +kernel
theorem dX2_init_26 : decode cX2_init 26 = .ok (.getfield 9, 3) := by decide +kernel
theorem dX2_init_29 : decode cX2_init 29 = .ok (.iload_n 1, 1) := by decide +kernel
theorem dX2_init_30 : decode cX2_init 30 = .ok (.iconst (-1), 1) := by decide +kernel
theorem dX2_init_31 : decode cX2_init 31 = .ok (.iastore, 1) := by decide +kernel
theorem dX2_init_32 : decode cX2_init 32 = .ok (.aload_n 0, 1) := by decide +kernel
theorem dX2_init_33 : decode cX2_init 33 = .ok (.getfield 15, 3) := by decide +kernel
theorem dX2_init_36 : decode cX2_init 36 = .ok (.iload_n 1, 1) := by decide +kernel
theorem dX2_init_37 : decode cX2_init 37 = .ok (.bipush 60, 2) := by decide +kernel
theorem dX2_init_39 : decode cX2_init 39 = .ok (.iastore, 1) := by decide +kernel
theorem dX2_init_40 : decode cX2_init 40 = .ok (.iinc 1 1, 3) := by decide +kernel
theorem dX2_init_43 : decode cX2_init 43 = .ok (.goto (-23), 3) := by decide +kernel
theorem dX2_init_46 : decode cX2_init 46 = .ok (.return_, 1) := by decide +kernel
theorem dX2_copyFrom_0 : decode cX2_copyFrom 0 = .ok (.aload_n 1, 1) := by decide +kernel
theorem dX2_copyFrom_1 : decode cX2_copyFrom 1 = .ok (.getfield 9, 3) := by decide +kernel
theorem dX2_copyFrom_4 : decode cX2_copyFrom 4 = .ok (.iconst 0, 1) := by decide +kernel
theorem dX2_copyFrom_5 : decode cX2_copyFrom 5 = .ok (.aload_n 0, 1) := by decide +kernel
theorem dX2_copyFrom_6 : decode cX2_copyFrom 6 = .ok (.getfield 9, 3) := by decide +kernel
theorem dX2_copyFrom_9 : decode cX2_copyFrom 9 = .ok (.iconst 0, 1) := by decide +kernel
theorem dX2_copyFrom_10 : decode cX2_copyFrom 10 = .ok (.iconst 2, 1) := by decide +kernel
theorem dX2_copyFrom_11 : decode cX2_copyFrom 11 = .ok (.invokestatic 18, 3) := by decide +kernel
theorem dX2_copyFrom_14 : decode cX2_copyFrom 14 = .ok (.aload_n 1, 1) := by decide +kernel
theorem dX2_copyFrom_15 : decode cX2_copyFrom 15 = .ok (.getfield 15, 3) := by decide +kernel
theorem dX2_copyFrom_18 : decode cX2_copyFrom 18 = .ok (.iconst 0, 1) := by decide +kernel
theorem dX2_copyFrom_19 : decode cX2_copyFrom 19 = .ok (.aload_n 0, 1) := by decide +kernel
theorem dX2_copyFrom_20 : decode cX2_copyFrom 20 = .ok (.getfield 15, 3) := by decide +kernel
theorem dX2_copyFrom_23 : decode cX2_copyFrom 23 = .ok (.iconst 0, 1) := by decide +kernel
theorem dX2_copyFrom_24 : decode cX2_copyFrom 24 = .ok (.iconst 2, 1) := by decide +kernel
theorem dX2_copyFrom_25 : decode cX2_copyFrom 25 = .ok (.invokestatic 18, 3) := by decide +kernel
theorem dX2_copyFrom_28 : decode cX2_copyFrom 28 = .ok (.return_, 1) := by decide +kernel
theorem dX2_placeOf_0 : decode cX2_placeOf 0 = .ok (.aload_n 0, 1) := by decide +kernel
theorem dX2_placeOf_1 : decode cX2_placeOf 1 = .ok (.getfield 9, 3) := by decide +kernel
theorem dX2_placeOf_4 : decode cX2_placeOf 4 = .ok (.iload_n 1, 1) := by decide +kernel
theorem dX2_placeOf_5 : decode cX2_placeOf 5 = .ok (.iaload, 1) := by decide +kernel
theorem dX2_placeOf_6 : decode cX2_placeOf 6 = .ok (.ireturn, 1) := by decide +kernel
theorem dX2_minutesOf_0 : decode cX2_minutesOf 0 = .ok (.aload_n 0, 1) := by decide +kernel
theorem dX2_minutesOf_1 : decode cX2_minutesOf 1 = .ok (.getfield 15, 3) := by decide +kernel
theorem dX2_minutesOf_4 : decode cX2_minutesOf 4 = .ok (.iload_n 1, 1) := by decide +kernel
theorem dX2_minutesOf_5 : decode cX2_minutesOf 5 = .ok (.iaload, 1) := by decide +kernel
theorem dX2_minutesOf_6 : decode cX2_minutesOf 6 = .ok (.ireturn, 1) := by decide +kernel
theorem dX2_put_0 : decode cX2_put 0 = .ok (.aload_n 0, 1) := by decide +kernel
theorem dX2_put_1 : decode cX2_put 1 = .ok (.getfield 9, 3) := by decide +kernel
theorem dX2_put_4 : decode cX2_put 4 = .ok (.iload_n 1, 1) := by decide +kernel
theorem dX2_put_5 : decode cX2_put 5 = .ok (.iload_n 2, 1) := by decide +kernel
theorem dX2_put_6 : decode cX2_put 6 = .ok (.iastore, 1) := by decide +kernel
theorem dX2_put_7 : decode cX2_put 7 = .ok (.return_, 1) := by decide +kernel
theorem dX2_addMinutes_0 : decode cX2_addMinutes 0 = .ok (.aload_n 0, 1) := by decide +kernel
theorem dX2_addMinutes_1 : decode cX2_addMinutes 1 = .ok (.getfield 15, 3) := by decide +kernel
theorem dX2_addMinutes_4 : decode cX2_addMinutes 4 = .ok (.iload_n 1, 1) := by decide +kernel
theorem dX2_addMinutes_5 : decode cX2_addMinutes 5 = .ok (.dup2, 1) := by decide +kernel
theorem dX2_addMinutes_6 : decode cX2_addMinutes 6 = .ok (.iaload, 1) := by decide +kernel
theorem dX2_addMinutes_7 : decode cX2_addMinutes 7 = .ok (.iload_n 2, 1) := by decide +kernel
theorem dX2_addMinutes_8 : decode cX2_addMinutes 8 = .ok (.iadd, 1) := by decide +kernel
theorem dX2_addMinutes_9 : decode cX2_addMinutes 9 = .ok (.iastore, 1) := by decide +kernel
theorem dX2_addMinutes_10 : decode cX2_addMinutes 10 = .ok (.return_, 1) := by decide +kernel
set_option maxRecDepth 20000 in
theorem ggX2_burn_X9_isGenerator : GoodIn wsX2_burn wsX9_isGenerator := goodIn_r _ [4] (by decide +kernel) (by decide +kernel)
set_option maxRecDepth 20000 in
theorem gX2_burn_X9_isGenerator_n24 : GoodIn wsX2_burn (wsX9_isGenerator) := ggX2_burn_X9_isGenerator
theorem dX2_burn_0 : decode cX2_burn 0 = .ok (.iload_n 1, 1) := by decide +kernel
theorem dX2_burn_1 : decode cX2_burn 1 = .ok (.invokestatic 24, 3) := by decide +kernel
theorem dX2_burn_4 : decode cX2_burn 4 = .ok (.ifCond .eq 13, 3) := by decide +kernel
theorem dX2_burn_7 : decode cX2_burn 7 = .ok (.aload_n 0, 1) := by decide +kernel
theorem dX2_burn_8 : decode cX2_burn 8 = .ok (.getfield 15, 3) := by decide +kernel
theorem dX2_burn_11 : decode cX2_burn 11 = .ok (.iload_n 1, 1) := by decide +kernel
theorem dX2_burn_12 : decode cX2_burn 12 = .ok (.dup2, 1) := by decide +kernel
theorem dX2_burn_13 : decode cX2_burn 13 = .ok (.iaload, 1) := by decide +kernel
theorem dX2_burn_14 : decode cX2_burn 14 = .ok (.iload_n 2, 1) := by decide +kernel
theorem dX2_burn_15 : decode cX2_burn 15 = .ok (.isub, 1) := by decide +kernel
theorem dX2_burn_16 : decode cX2_burn 16 = .ok (.iastore, 1) := by decide +kernel
theorem dX2_burn_17 : decode cX2_burn 17 = .ok (.return_, 1) := by decide +kernel
theorem dX2_numberAt_0 : decode cX2_numberAt 0 = .ok (.iconst 0, 1) := by decide +kernel
theorem dX2_numberAt_1 : decode cX2_numberAt 1 = .ok (.istore_n 2, 1) := by decide +kernel
theorem dX2_numberAt_2 : decode cX2_numberAt 2 = .ok (.iconst 0, 1) := by decide +kernel
theorem dX2_numberAt_3 : decode cX2_numberAt 3 = .ok (.istore_n 3, 1) := by decide +kernel
theorem dX2_numberAt_4 : decode cX2_numberAt 4 = .ok (.iload_n 3, 1) := by decide +kernel
theorem dX2_numberAt_5 : decode cX2_numberAt 5 = .ok (.iconst 2, 1) := by decide +kernel
theorem dX2_numberAt_6 : decode cX2_numberAt 6 = .ok (.if_icmp .ge 22, 3) := by decide +kernel
theorem dX2_numberAt_9 : decode cX2_numberAt 9 = .ok (.aload_n 0, 1) := by decide +kernel
theorem dX2_numberAt_10 : decode cX2_numberAt 10 = .ok (.getfield 9, 3) := by decide +kernel
theorem dX2_numberAt_13 : decode cX2_numberAt 13 = .ok (.iload_n 3, 1) := by decide +kernel
theorem dX2_numberAt_14 : decode cX2_numberAt 14 = .ok (.iaload, 1) := by decide +kernel
theorem dX2_numberAt_15 : decode cX2_numberAt 15 = .ok (.iload_n 1, 1) := by decide +kernel
theorem dX2_numberAt_16 : decode cX2_numberAt 16 = .ok (.if_icmp .ne 6, 3) := by decide +kernel
theorem dX2_numberAt_19 : decode cX2_numberAt 19 = .ok (.iinc 2 1, 3) := by decide +kernel
theorem dX2_numberAt_22 : decode cX2_numberAt 22 = .ok (.iinc 3 1, 3) := by decide +kernel
theorem dX2_numberAt_25 : decode cX2_numberAt 25 = .ok (.goto (-21), 3) := by decide +kernel
theorem dX2_numberAt_28 : decode cX2_numberAt 28 = .ok (.iload_n 2, 1) := by decide +kernel
theorem dX2_numberAt_29 : decode cX2_numberAt 29 = .ok (.ireturn, 1) := by decide +kernel
theorem dX2_lowestWith_0 : decode cX2_lowestWith 0 = .ok (.iconst 0, 1) := by decide +kernel
theorem dX2_lowestWith_1 : decode cX2_lowestWith 1 = .ok (.istore_n 3, 1) := by decide +kernel
theorem dX2_lowestWith_2 : decode cX2_lowestWith 2 = .ok (.iload_n 3, 1) := by decide +kernel
theorem dX2_lowestWith_3 : decode cX2_lowestWith 3 = .ok (.iconst 2, 1) := by decide +kernel
theorem dX2_lowestWith_4 : decode cX2_lowestWith 4 = .ok (.if_icmp .ge 31, 3) := by decide +kernel
theorem dX2_lowestWith_7 : decode cX2_lowestWith 7 = .ok (.aload_n 0, 1) := by decide +kernel
theorem dX2_lowestWith_8 : decode cX2_lowestWith 8 = .ok (.getfield 9, 3) := by decide +kernel
theorem dX2_lowestWith_11 : decode cX2_lowestWith 11 = .ok (.iload_n 3, 1) := by decide +kernel
theorem dX2_lowestWith_12 : decode cX2_lowestWith 12 = .ok (.iaload, 1) := by decide +kernel
theorem dX2_lowestWith_13 : decode cX2_lowestWith 13 = .ok (.iload_n 1, 1) := by decide +kernel
theorem dX2_lowestWith_14 : decode cX2_lowestWith 14 = .ok (.if_icmp .ne 15, 3) := by decide +kernel
theorem dX2_lowestWith_17 : decode cX2_lowestWith 17 = .ok (.aload_n 0, 1) := by decide +kernel
theorem dX2_lowestWith_18 : decode cX2_lowestWith 18 = .ok (.getfield 15, 3) := by decide +kernel
theorem dX2_lowestWith_21 : decode cX2_lowestWith 21 = .ok (.iload_n 3, 1) := by decide +kernel
theorem dX2_lowestWith_22 : decode cX2_lowestWith 22 = .ok (.iaload, 1) := by decide +kernel
theorem dX2_lowestWith_23 : decode cX2_lowestWith 23 = .ok (.iload_n 2, 1) := by decide +kernel
theorem dX2_lowestWith_24 : decode cX2_lowestWith 24 = .ok (.if_icmp .lt 5, 3) := by decide +kernel
theorem dX2_lowestWith_27 : decode cX2_lowestWith 27 = .ok (.iload_n 3, 1) := by decide +kernel
theorem dX2_lowestWith_28 : decode cX2_lowestWith 28 = .ok (.ireturn, 1) := by decide +kernel
theorem dX2_lowestWith_29 : decode cX2_lowestWith 29 = .ok (.iinc 3 1, 3) := by decide +kernel
theorem dX2_lowestWith_32 : decode cX2_lowestWith 32 = .ok (.goto (-30), 3) := by decide +kernel
theorem dX2_lowestWith_35 : decode cX2_lowestWith 35 = .ok (.iconst (-1), 1) := by decide +kernel
theorem dX2_lowestWith_36 : decode cX2_lowestWith 36 = .ok (.ireturn, 1) := by decide +kernel
theorem dX4_init_0 : decode cX4_init 0 = .ok (.aload_n 0, 1) := by decide +kernel
theorem dX4_init_1 : decode cX4_init 1 = .ok (.invokespecial 3, 3) := by decide +kernel
theorem dX4_init_4 : decode cX4_init 4 = .ok (.aload_n 0, 1) := by decide +kernel
theorem dX4_init_5 : decode cX4_init 5 = .ok (.bipush 10, 2) := by decide +kernel
theorem dX4_init_7 : decode cX4_init 7 = .ok (.newarray .int, 2) := by decide +kernel
theorem dX4_init_9 : decode cX4_init 9 = .ok (.putfield 9, 3) := by decide +kernel
theorem dX4_init_12 : decode cX4_init 12 = .ok (.aload_n 0, 1) := by decide +kernel
theorem dX4_init_13 : decode cX4_init 13 = .ok (.bipush 10, 2) := by decide +kernel
theorem dX4_init_15 : decode cX4_init 15 = .ok (.newarray .int, 2) := by decide +kernel
theorem dX4_init_17 : decode cX4_init 17 = .ok (.putfield 15, 3) := by decide +kernel
theorem dX4_init_20 : decode cX4_init 20 = .ok (.aload_n 0, 1) := by decide +kernel
theorem dX4_init_21 : decode cX4_init 21 = .ok (.bipush 10, 2) := by decide +kernel
theorem dX4_init_23 : decode cX4_init 23 = .ok (.newarray .int, 2) := by decide +kernel
theorem dX4_init_25 : decode cX4_init 25 = .ok (.putfield 18, 3) := by decide +kernel
theorem dX4_init_28 : decode cX4_init 28 = .ok (.aload_n 0, 1) := by decide +kernel
theorem dX4_init_29 : decode cX4_init 29 = .ok (.bipush 10, 2) := by decide +kernel
theorem dX4_init_31 : decode cX4_init 31 = .ok (.newarray .int, 2) := by decide +kernel
theorem dX4_init_33 : decode cX4_init 33 = .ok (.putfield 21, 3) := by decide +kernel
theorem dX4_init_36 : decode cX4_init 36 = .ok (.aload_n 0, 1) := by decide +kernel
theorem dX4_init_37 : decode cX4_init 37 = .ok (.bipush 10, 2) := by decide +kernel
theorem dX4_init_39 : decode cX4_init 39 = .ok (.newarray .int, 2) := by decide +kernel
theorem dX4_init_41 : decode cX4_init 41 = .ok (.putfield 24, 3) := by decide +kernel
theorem dX4_init_44 : decode cX4_init 44 = .ok (.iconst 0, 1) := by decide +kernel
theorem dX4_init_45 : decode cX4_init 45 = .ok (.istore_n 1, 1) := by decide +kernel
theorem dX4_init_46 : decode cX4_init 46 = .ok (.iload_n 1, 1) := by decide +kernel
theorem dX4_init_47 : decode cX4_init 47 = .ok (.bipush 10, 2) := by decide +kernel
theorem dX4_init_49 : decode cX4_init 49 = .ok (.if_icmp .ge 26, 3) := by decide +kernel
theorem dX4_init_52 : decode cX4_init 52 = .ok (.aload_n 0, 1) := by decide +kernel
theorem dX4_init_53 : decode cX4_init 53 = .ok (.getfield 9, 3) := by decide +kernel
theorem dX4_init_56 : decode cX4_init 56 = .ok (.iload_n 1, 1) := by decide +kernel
theorem dX4_init_57 : decode cX4_init 57 = .ok (.iconst (-1), 1) := by decide +kernel
theorem dX4_init_58 : decode cX4_init 58 = .ok (.iastore, 1) := by decide +kernel
theorem dX4_init_59 : decode cX4_init 59 = .ok (.aload_n 0, 1) := by decide +kernel
theorem dX4_init_60 : decode cX4_init 60 = .ok (.getfield 15, 3) := by decide +kernel
theorem dX4_init_63 : decode cX4_init 63 = .ok (.iload_n 1, 1) := by decide +kernel
theorem dX4_init_64 : decode cX4_init 64 = .ok (.bipush 8, 2) := by decide +kernel
theorem dX4_init_66 : decode cX4_init 66 = .ok (.iload_n 1, 1) := by decide +kernel
theorem dX4_init_67 : decode cX4_init 67 = .ok (.iadd, 1) := by decide +kernel
theorem dX4_init_68 : decode cX4_init 68 = .ok (.iastore, 1) := by decide +kernel
theorem dX4_init_69 : decode cX4_init 69 = .ok (.iinc 1 1, 3) := by decide +kernel
theorem dX4_init_72 : decode cX4_init 72 = .ok (.goto (-26), 3) := by decide +kernel
theorem dX4_init_75 : decode cX4_init 75 = .ok (.return_, 1) := by decide +kernel
theorem dX4_copyFrom_0 : decode cX4_copyFrom 0 = .ok (.aload_n 1, 1) := by decide +kernel
theorem dX4_copyFrom_1 : decode cX4_copyFrom 1 = .ok (.getfield 9, 3) := by decide +kernel
theorem dX4_copyFrom_4 : decode cX4_copyFrom 4 = .ok (.iconst 0, 1) := by decide +kernel
theorem dX4_copyFrom_5 : decode cX4_copyFrom 5 = .ok (.aload_n 0, 1) := by decide +kernel
theorem dX4_copyFrom_6 : decode cX4_copyFrom 6 = .ok (.getfield 9, 3) := by decide +kernel
theorem dX4_copyFrom_9 : decode cX4_copyFrom 9 = .ok (.iconst 0, 1) := by decide +kernel
theorem dX4_copyFrom_10 : decode cX4_copyFrom 10 = .ok (.bipush 10, 2) := by decide +kernel
theorem dX4_copyFrom_12 : decode cX4_copyFrom 12 = .ok (.invokestatic 27, 3) := by decide +kernel
theorem dX4_copyFrom_15 : decode cX4_copyFrom 15 = .ok (.aload_n 1, 1) := by decide +kernel
theorem dX4_copyFrom_16 : decode cX4_copyFrom 16 = .ok (.getfield 15, 3) := by decide +kernel
theorem dX4_copyFrom_19 : decode cX4_copyFrom 19 = .ok (.iconst 0, 1) := by decide +kernel
theorem dX4_copyFrom_20 : decode cX4_copyFrom 20 = .ok (.aload_n 0, 1) := by decide +kernel
theorem dX4_copyFrom_21 : decode cX4_copyFrom 21 = .ok (.getfield 15, 3) := by decide +kernel
theorem dX4_copyFrom_24 : decode cX4_copyFrom 24 = .ok (.iconst 0, 1) := by decide +kernel
theorem dX4_copyFrom_25 : decode cX4_copyFrom 25 = .ok (.bipush 10, 2) := by decide +kernel
theorem dX4_copyFrom_27 : decode cX4_copyFrom 27 = .ok (.invokestatic 27, 3) := by decide +kernel
theorem dX4_copyFrom_30 : decode cX4_copyFrom 30 = .ok (.aload_n 1, 1) := by decide +kernel
theorem dX4_copyFrom_31 : decode cX4_copyFrom 31 = .ok (.getfield 18, 3) := by decide +kernel
theorem dX4_copyFrom_34 : decode cX4_copyFrom 34 = .ok (.iconst 0, 1) := by decide +kernel
theorem dX4_copyFrom_35 : decode cX4_copyFrom 35 = .ok (.aload_n 0, 1) := by decide +kernel
theorem dX4_copyFrom_36 : decode cX4_copyFrom 36 = .ok (.getfield 18, 3) := by decide +kernel
theorem dX4_copyFrom_39 : decode cX4_copyFrom 39 = .ok (.iconst 0, 1) := by decide +kernel
theorem dX4_copyFrom_40 : decode cX4_copyFrom 40 = .ok (.bipush 10, 2) := by decide +kernel
theorem dX4_copyFrom_42 : decode cX4_copyFrom 42 = .ok (.invokestatic 27, 3) := by decide +kernel
theorem dX4_copyFrom_45 : decode cX4_copyFrom 45 = .ok (.aload_n 1, 1) := by decide +kernel
theorem dX4_copyFrom_46 : decode cX4_copyFrom 46 = .ok (.getfield 21, 3) := by decide +kernel
theorem dX4_copyFrom_49 : decode cX4_copyFrom 49 = .ok (.iconst 0, 1) := by decide +kernel
theorem dX4_copyFrom_50 : decode cX4_copyFrom 50 = .ok (.aload_n 0, 1) := by decide +kernel
theorem dX4_copyFrom_51 : decode cX4_copyFrom 51 = .ok (.getfield 21, 3) := by decide +kernel
theorem dX4_copyFrom_54 : decode cX4_copyFrom 54 = .ok (.iconst 0, 1) := by decide +kernel
theorem dX4_copyFrom_55 : decode cX4_copyFrom 55 = .ok (.bipush 10, 2) := by decide +kernel
theorem dX4_copyFrom_57 : decode cX4_copyFrom 57 = .ok (.invokestatic 27, 3) := by decide +kernel
theorem dX4_copyFrom_60 : decode cX4_copyFrom 60 = .ok (.aload_n 1, 1) := by decide +kernel
theorem dX4_copyFrom_61 : decode cX4_copyFrom 61 = .ok (.getfield 24, 3) := by decide +kernel
theorem dX4_copyFrom_64 : decode cX4_copyFrom 64 = .ok (.iconst 0, 1) := by decide +kernel
theorem dX4_copyFrom_65 : decode cX4_copyFrom 65 = .ok (.aload_n 0, 1) := by decide +kernel
theorem dX4_copyFrom_66 : decode cX4_copyFrom 66 = .ok (.getfield 24, 3) := by decide +kernel
theorem dX4_copyFrom_69 : decode cX4_copyFrom 69 = .ok (.iconst 0, 1) := by decide +kernel
theorem dX4_copyFrom_70 : decode cX4_copyFrom 70 = .ok (.bipush 10, 2) := by decide +kernel
theorem dX4_copyFrom_72 : decode cX4_copyFrom 72 = .ok (.invokestatic 27, 3) := by decide +kernel
theorem dX4_copyFrom_75 : decode cX4_copyFrom 75 = .ok (.return_, 1) := by decide +kernel
theorem dX4_isThere_0 : decode cX4_isThere 0 = .ok (.iload_n 1, 1) := by decide +kernel
theorem dX4_isThere_1 : decode cX4_isThere 1 = .ok (.ifCond .lt 24, 3) := by decide +kernel
theorem dX4_isThere_4 : decode cX4_isThere 4 = .ok (.iload_n 1, 1) := by decide +kernel
theorem dX4_isThere_5 : decode cX4_isThere 5 = .ok (.bipush 10, 2) := by decide +kernel
theorem dX4_isThere_7 : decode cX4_isThere 7 = .ok (.if_icmp .ge 18, 3) := by decide +kernel
theorem dX4_isThere_10 : decode cX4_isThere 10 = .ok (.aload_n 0, 1) := by decide +kernel
theorem dX4_isThere_11 : decode cX4_isThere 11 = .ok (.getfield 9, 3) := by decide +kernel
theorem dX4_isThere_14 : decode cX4_isThere 14 = .ok (.iload_n 1, 1) := by decide +kernel
theorem dX4_isThere_15 : decode cX4_isThere 15 = .ok (.iaload, 1) := by decide +kernel
theorem dX4_isThere_16 : decode cX4_isThere 16 = .ok (.bipush (-2), 2) := by decide +kernel
theorem dX4_isThere_18 : decode cX4_isThere 18 = .ok (.if_icmp .eq 7, 3) := by decide +kernel
theorem dX4_isThere_21 : decode cX4_isThere 21 = .ok (.iconst 1, 1) := by decide +kernel
theorem dX4_isThere_22 : decode cX4_isThere 22 = .ok (.goto 4, 3) := by decide +kernel
theorem dX4_isThere_25 : decode cX4_isThere 25 = .ok (.iconst 0, 1) := by decide +kernel
theorem dX4_isThere_26 : decode cX4_isThere 26 = .ok (.ireturn, 1) := by decide +kernel
theorem dX4_placeOf_0 : decode cX4_placeOf 0 = .ok (.aload_n 0, 1) := by decide +kernel
theorem dX4_placeOf_1 : decode cX4_placeOf 1 = .ok (.getfield 9, 3) := by decide +kernel
theorem dX4_placeOf_4 : decode cX4_placeOf 4 = .ok (.iload_n 1, 1) := by decide +kernel
theorem dX4_placeOf_5 : decode cX4_placeOf 5 = .ok (.iaload, 1) := by decide +kernel
theorem dX4_placeOf_6 : decode cX4_placeOf 6 = .ok (.ireturn, 1) := by decide +kernel
theorem dX4_minutesOf_0 : decode cX4_minutesOf 0 = .ok (.aload_n 0, 1) := by decide +kernel
theorem dX4_minutesOf_1 : decode cX4_minutesOf 1 = .ok (.getfield 15, 3) := by decide +kernel
theorem dX4_minutesOf_4 : decode cX4_minutesOf 4 = .ok (.iload_n 1, 1) := by decide +kernel
theorem dX4_minutesOf_5 : decode cX4_minutesOf 5 = .ok (.iaload, 1) := by decide +kernel
theorem dX4_minutesOf_6 : decode cX4_minutesOf 6 = .ok (.ireturn, 1) := by decide +kernel
theorem dX4_wearOf_0 : decode cX4_wearOf 0 = .ok (.aload_n 0, 1) := by decide +kernel
theorem dX4_wearOf_1 : decode cX4_wearOf 1 = .ok (.getfield 18, 3) := by decide +kernel
theorem dX4_wearOf_4 : decode cX4_wearOf 4 = .ok (.iload_n 1, 1) := by decide +kernel
theorem dX4_wearOf_5 : decode cX4_wearOf 5 = .ok (.iaload, 1) := by decide +kernel
theorem dX4_wearOf_6 : decode cX4_wearOf 6 = .ok (.ireturn, 1) := by decide +kernel
theorem dX4_splicesOf_0 : decode cX4_splicesOf 0 = .ok (.aload_n 0, 1) := by decide +kernel
theorem dX4_splicesOf_1 : decode cX4_splicesOf 1 = .ok (.getfield 21, 3) := by decide +kernel
theorem dX4_splicesOf_4 : decode cX4_splicesOf 4 = .ok (.iload_n 1, 1) := by decide +kernel
theorem dX4_splicesOf_5 : decode cX4_splicesOf 5 = .ok (.iaload, 1) := by decide +kernel
theorem dX4_splicesOf_6 : decode cX4_splicesOf 6 = .ok (.ireturn, 1) := by decide +kernel
theorem dX4_barnsOf_0 : decode cX4_barnsOf 0 = .ok (.aload_n 0, 1) := by decide +kernel
theorem dX4_barnsOf_1 : decode cX4_barnsOf 1 = .ok (.getfield 24, 3) := by decide +kernel
theorem dX4_barnsOf_4 : decode cX4_barnsOf 4 = .ok (.iload_n 1, 1) := by decide +kernel
theorem dX4_barnsOf_5 : decode cX4_barnsOf 5 = .ok (.iaload, 1) := by decide +kernel
theorem dX4_barnsOf_6 : decode cX4_barnsOf 6 = .ok (.ireturn, 1) := by decide +kernel
theorem dX4_put_0 : decode cX4_put 0 = .ok (.aload_n 0, 1) := by decide +kernel
theorem dX4_put_1 : decode cX4_put 1 = .ok (.getfield 9, 3) := by decide +kernel
theorem dX4_put_4 : decode cX4_put 4 = .ok (.iload_n 1, 1) := by decide +kernel
theorem dX4_put_5 : decode cX4_put 5 = .ok (.iload_n 2, 1) := by decide +kernel
theorem dX4_put_6 : decode cX4_put 6 = .ok (.iastore, 1) := by decide +kernel
theorem dX4_put_7 : decode cX4_put 7 = .ok (.return_, 1) := by decide +kernel
theorem dX4_makeNew_0 : decode cX4_makeNew 0 = .ok (.aload_n 0, 1) := by decide +kernel
theorem dX4_makeNew_1 : decode cX4_makeNew 1 = .ok (.getfield 15, 3) := by decide +kernel
theorem dX4_makeNew_4 : decode cX4_makeNew 4 = .ok (.iload_n 1, 1) := by decide +kernel
theorem dX4_makeNew_5 : decode cX4_makeNew 5 = .ok (.bipush 8, 2) := by decide +kernel
theorem dX4_makeNew_7 : decode cX4_makeNew 7 = .ok (.iload_n 1, 1) := by decide +kernel
theorem dX4_makeNew_8 : decode cX4_makeNew 8 = .ok (.iadd, 1) := by decide +kernel
theorem dX4_makeNew_9 : decode cX4_makeNew 9 = .ok (.iastore, 1) := by decide +kernel
theorem dX4_makeNew_10 : decode cX4_makeNew 10 = .ok (.aload_n 0, 1) := by decide +kernel
theorem dX4_makeNew_11 : decode cX4_makeNew 11 = .ok (.getfield 18, 3) := by decide +kernel
theorem dX4_makeNew_14 : decode cX4_makeNew 14 = .ok (.iload_n 1, 1) := by decide +kernel
theorem dX4_makeNew_15 : decode cX4_makeNew 15 = .ok (.iconst 0, 1) := by decide +kernel
theorem dX4_makeNew_16 : decode cX4_makeNew 16 = .ok (.iastore, 1) := by decide +kernel
theorem dX4_makeNew_17 : decode cX4_makeNew 17 = .ok (.aload_n 0, 1) := by decide +kernel
theorem dX4_makeNew_18 : decode cX4_makeNew 18 = .ok (.getfield 21, 3) := by decide +kernel
theorem dX4_makeNew_21 : decode cX4_makeNew 21 = .ok (.iload_n 1, 1) := by decide +kernel
theorem dX4_makeNew_22 : decode cX4_makeNew 22 = .ok (.iconst 0, 1) := by decide +kernel
theorem dX4_makeNew_23 : decode cX4_makeNew 23 = .ok (.iastore, 1) := by decide +kernel
theorem dX4_makeNew_24 : decode cX4_makeNew 24 = .ok (.aload_n 0, 1) := by decide +kernel
theorem dX4_makeNew_25 : decode cX4_makeNew 25 = .ok (.getfield 24, 3) := by decide +kernel
theorem dX4_makeNew_28 : decode cX4_makeNew 28 = .ok (.iload_n 1, 1) := by decide +kernel
theorem dX4_makeNew_29 : decode cX4_makeNew 29 = .ok (.iconst 0, 1) := by decide +kernel
theorem dX4_makeNew_30 : decode cX4_makeNew 30 = .ok (.iastore, 1) := by decide +kernel
theorem dX4_makeNew_31 : decode cX4_makeNew 31 = .ok (.return_, 1) := by decide +kernel
theorem dX4_numberAt_0 : decode cX4_numberAt 0 = .ok (.iconst 0, 1) := by decide +kernel
theorem dX4_numberAt_1 : decode cX4_numberAt 1 = .ok (.istore_n 2, 1) := by decide +kernel
theorem dX4_numberAt_2 : decode cX4_numberAt 2 = .ok (.iconst 0, 1) := by decide +kernel
theorem dX4_numberAt_3 : decode cX4_numberAt 3 = .ok (.istore_n 3, 1) := by decide +kernel
theorem dX4_numberAt_4 : decode cX4_numberAt 4 = .ok (.iload_n 3, 1) := by decide +kernel
theorem dX4_numberAt_5 : decode cX4_numberAt 5 = .ok (.bipush 10, 2) := by decide +kernel
theorem dX4_numberAt_7 : decode cX4_numberAt 7 = .ok (.if_icmp .ge 22, 3) := by decide +kernel
theorem dX4_numberAt_10 : decode cX4_numberAt 10 = .ok (.aload_n 0, 1) := by decide +kernel
theorem dX4_numberAt_11 : decode cX4_numberAt 11 = .ok (.getfield 9, 3) := by decide +kernel
theorem dX4_numberAt_14 : decode cX4_numberAt 14 = .ok (.iload_n 3, 1) := by decide +kernel
theorem dX4_numberAt_15 : decode cX4_numberAt 15 = .ok (.iaload, 1) := by decide +kernel
theorem dX4_numberAt_16 : decode cX4_numberAt 16 = .ok (.iload_n 1, 1) := by decide +kernel
theorem dX4_numberAt_17 : decode cX4_numberAt 17 = .ok (.if_icmp .ne 6, 3) := by decide +kernel
theorem dX4_numberAt_20 : decode cX4_numberAt 20 = .ok (.iinc 2 1, 3) := by decide +kernel
theorem dX4_numberAt_23 : decode cX4_numberAt 23 = .ok (.iinc 3 1, 3) := by decide +kernel
theorem dX4_numberAt_26 : decode cX4_numberAt 26 = .ok (.goto (-22), 3) := by decide +kernel
theorem dX4_numberAt_29 : decode cX4_numberAt 29 = .ok (.iload_n 2, 1) := by decide +kernel
theorem dX4_numberAt_30 : decode cX4_numberAt 30 = .ok (.ireturn, 1) := by decide +kernel
theorem dX4_minutesIn_0 : decode cX4_minutesIn 0 = .ok (.iconst 0, 1) := by decide +kernel
theorem dX4_minutesIn_1 : decode cX4_minutesIn 1 = .ok (.istore_n 2, 1) := by decide +kernel
theorem dX4_minutesIn_2 : decode cX4_minutesIn 2 = .ok (.iconst 0, 1) := by decide +kernel
theorem dX4_minutesIn_3 : decode cX4_minutesIn 3 = .ok (.istore_n 3, 1) := by decide +kernel
theorem dX4_minutesIn_4 : decode cX4_minutesIn 4 = .ok (.iload_n 3, 1) := by decide +kernel
theorem dX4_minutesIn_5 : decode cX4_minutesIn 5 = .ok (.bipush 10, 2) := by decide +kernel
theorem dX4_minutesIn_7 : decode cX4_minutesIn 7 = .ok (.if_icmp .ge 28, 3) := by decide +kernel
theorem dX4_minutesIn_10 : decode cX4_minutesIn 10 = .ok (.aload_n 0, 1) := by decide +kernel
theorem dX4_minutesIn_11 : decode cX4_minutesIn 11 = .ok (.getfield 9, 3) := by decide +kernel
theorem dX4_minutesIn_14 : decode cX4_minutesIn 14 = .ok (.iload_n 3, 1) := by decide +kernel
theorem dX4_minutesIn_15 : decode cX4_minutesIn 15 = .ok (.iaload, 1) := by decide +kernel
theorem dX4_minutesIn_16 : decode cX4_minutesIn 16 = .ok (.iload_n 1, 1) := by decide +kernel
theorem dX4_minutesIn_17 : decode cX4_minutesIn 17 = .ok (.if_icmp .ne 12, 3) := by decide +kernel
theorem dX4_minutesIn_20 : decode cX4_minutesIn 20 = .ok (.iload_n 2, 1) := by decide +kernel
theorem dX4_minutesIn_21 : decode cX4_minutesIn 21 = .ok (.aload_n 0, 1) := by decide +kernel
theorem dX4_minutesIn_22 : decode cX4_minutesIn 22 = .ok (.getfield 15, 3) := by decide +kernel
theorem dX4_minutesIn_25 : decode cX4_minutesIn 25 = .ok (.iload_n 3, 1) := by decide +kernel
theorem dX4_minutesIn_26 : decode cX4_minutesIn 26 = .ok (.iaload, 1) := by decide +kernel
theorem dX4_minutesIn_27 : decode cX4_minutesIn 27 = .ok (.iadd, 1) := by decide +kernel
theorem dX4_minutesIn_28 : decode cX4_minutesIn 28 = .ok (.istore_n 2, 1) := by decide +kernel
theorem dX4_minutesIn_29 : decode cX4_minutesIn 29 = .ok (.iinc 3 1, 3) := by decide +kernel
theorem dX4_minutesIn_32 : decode cX4_minutesIn 32 = .ok (.goto (-28), 3) := by decide +kernel
theorem dX4_minutesIn_35 : decode cX4_minutesIn 35 = .ok (.iload_n 2, 1) := by decide +kernel
theorem dX4_minutesIn_36 : decode cX4_minutesIn 36 = .ok (.ireturn, 1) := by decide +kernel
theorem dX4_freshIn_0 : decode cX4_freshIn 0 = .ok (.iconst 0, 1) := by decide +kernel
theorem dX4_freshIn_1 : decode cX4_freshIn 1 = .ok (.istore_n 2, 1) := by decide +kernel
theorem dX4_freshIn_2 : decode cX4_freshIn 2 = .ok (.iconst 0, 1) := by decide +kernel
theorem dX4_freshIn_3 : decode cX4_freshIn 3 = .ok (.istore_n 3, 1) := by decide +kernel
theorem dX4_freshIn_4 : decode cX4_freshIn 4 = .ok (.iload_n 3, 1) := by decide +kernel
theorem dX4_freshIn_5 : decode cX4_freshIn 5 = .ok (.bipush 10, 2) := by decide +kernel
theorem dX4_freshIn_7 : decode cX4_freshIn 7 = .ok (.if_icmp .ge 35, 3) := by decide +kernel
theorem dX4_freshIn_10 : decode cX4_freshIn 10 = .ok (.aload_n 0, 1) := by decide +kernel
theorem dX4_freshIn_11 : decode cX4_freshIn 11 = .ok (.getfield 9, 3) := by decide +kernel
theorem dX4_freshIn_14 : decode cX4_freshIn 14 = .ok (.iload_n 3, 1) := by decide +kernel
theorem dX4_freshIn_15 : decode cX4_freshIn 15 = .ok (.iaload, 1) := by decide +kernel
theorem dX4_freshIn_16 : decode cX4_freshIn 16 = .ok (.iload_n 1, 1) := by decide +kernel
theorem dX4_freshIn_17 : decode cX4_freshIn 17 = .ok (.if_icmp .ne 19, 3) := by decide +kernel
theorem dX4_freshIn_20 : decode cX4_freshIn 20 = .ok (.aload_n 0, 1) := by decide +kernel
theorem dX4_freshIn_21 : decode cX4_freshIn 21 = .ok (.getfield 24, 3) := by decide +kernel
theorem dX4_freshIn_24 : decode cX4_freshIn 24 = .ok (.iload_n 3, 1) := by decide +kernel
theorem dX4_freshIn_25 : decode cX4_freshIn 25 = .ok (.iaload, 1) := by decide +kernel
theorem dX4_freshIn_26 : decode cX4_freshIn 26 = .ok (.iconst 1, 1) := by decide +kernel
theorem dX4_freshIn_27 : decode cX4_freshIn 27 = .ok (.iload_n 1, 1) := by decide +kernel
theorem dX4_freshIn_28 : decode cX4_freshIn 28 = .ok (.ishl, 1) := by decide +kernel
theorem dX4_freshIn_29 : decode cX4_freshIn 29 = .ok (.iand, 1) := by decide +kernel
theorem dX4_freshIn_30 : decode cX4_freshIn 30 = .ok (.ifCond .ne 6, 3) := by decide +kernel
theorem dX4_freshIn_33 : decode cX4_freshIn 33 = .ok (.iinc 2 1, 3) := by decide +kernel
theorem dX4_freshIn_36 : decode cX4_freshIn 36 = .ok (.iinc 3 1, 3) := by decide +kernel
theorem dX4_freshIn_39 : decode cX4_freshIn 39 = .ok (.goto (-35), 3) := by decide +kernel
theorem dX4_freshIn_42 : decode cX4_freshIn 42 = .ok (.iload_n 2, 1) := by decide +kernel
theorem dX4_freshIn_43 : decode cX4_freshIn 43 = .ok (.ireturn, 1) := by decide +kernel
theorem dX4_mostWearIn_0 : decode cX4_mostWearIn 0 = .ok (.iconst 0, 1) := by decide +kernel
theorem dX4_mostWearIn_1 : decode cX4_mostWearIn 1 = .ok (.istore_n 2, 1) := by decide +kernel
theorem dX4_mostWearIn_2 : decode cX4_mostWearIn 2 = .ok (.iconst 0, 1) := by decide +kernel
theorem dX4_mostWearIn_3 : decode cX4_mostWearIn 3 = .ok (.istore_n 3, 1) := by decide +kernel
theorem dX4_mostWearIn_4 : decode cX4_mostWearIn 4 = .ok (.iload_n 3, 1) := by decide +kernel
theorem dX4_mostWearIn_5 : decode cX4_mostWearIn 5 = .ok (.bipush 10, 2) := by decide +kernel
theorem dX4_mostWearIn_7 : decode cX4_mostWearIn 7 = .ok (.if_icmp .ge 30, 3) := by decide +kernel
theorem dX4_mostWearIn_10 : decode cX4_mostWearIn 10 = .ok (.aload_n 0, 1) := by decide +kernel
theorem dX4_mostWearIn_11 : decode cX4_mostWearIn 11 = .ok (.getfield 9, 3) := by decide +kernel
theorem dX4_mostWearIn_14 : decode cX4_mostWearIn 14 = .ok (.iload_n 3, 1) := by decide +kernel
theorem dX4_mostWearIn_15 : decode cX4_mostWearIn 15 = .ok (.iaload, 1) := by decide +kernel
theorem dX4_mostWearIn_16 : decode cX4_mostWearIn 16 = .ok (.iload_n 1, 1) := by decide +kernel
theorem dX4_mostWearIn_17 : decode cX4_mostWearIn 17 = .ok (.if_icmp .ne 14, 3) := by decide +kernel
theorem dX4_mostWearIn_20 : decode cX4_mostWearIn 20 = .ok (.iload_n 2, 1) := by decide +kernel
theorem dX4_mostWearIn_21 : decode cX4_mostWearIn 21 = .ok (.aload_n 0, 1) := by decide +kernel
theorem dX4_mostWearIn_22 : decode cX4_mostWearIn 22 = .ok (.getfield 18, 3) := by decide +kernel
theorem dX4_mostWearIn_25 : decode cX4_mostWearIn 25 = .ok (.iload_n 3, 1) := by decide +kernel
theorem dX4_mostWearIn_26 : decode cX4_mostWearIn 26 = .ok (.iaload, 1) := by decide +kernel
theorem dX4_mostWearIn_27 : decode cX4_mostWearIn 27 = .ok (.invokestatic 33, 3) := by decide +kernel
theorem dX4_mostWearIn_30 : decode cX4_mostWearIn 30 = .ok (.istore_n 2, 1) := by decide +kernel
theorem dX4_mostWearIn_31 : decode cX4_mostWearIn 31 = .ok (.iinc 3 1, 3) := by decide +kernel
theorem dX4_mostWearIn_34 : decode cX4_mostWearIn 34 = .ok (.goto (-30), 3) := by decide +kernel
theorem dX4_mostWearIn_37 : decode cX4_mostWearIn 37 = .ok (.iload_n 2, 1) := by decide +kernel
theorem dX4_mostWearIn_38 : decode cX4_mostWearIn 38 = .ok (.ireturn, 1) := by decide +kernel
set_option maxRecDepth 20000 in
theorem ggX4_playAllIn_X4_playOne : GoodIn wsX4_playAllIn wsX4_playOne := goodIn_r _ [6, 7, 8, 9, 10, 1, 11, 12, 13, 14, 15] (by decide +kernel) (by decide +kernel)
set_option maxRecDepth 20000 in
theorem gX4_playAllIn_X4_playOne : GoodIn wsX4_playAllIn (wsV RX4 39 RX4 yX4_playOne wsX4_playOne) := goodIn_app (goodIn_of _ (by decide +kernel)) ggX4_playAllIn_X4_playOne
theorem dX4_playAllIn_0 : decode cX4_playAllIn 0 = .ok (.iconst 0, 1) := by decide +kernel
theorem dX4_playAllIn_1 : decode cX4_playAllIn 1 = .ok (.istore_n 2, 1) := by decide +kernel
theorem dX4_playAllIn_2 : decode cX4_playAllIn 2 = .ok (.iconst 0, 1) := by decide +kernel
theorem dX4_playAllIn_3 : decode cX4_playAllIn 3 = .ok (.istore_n 3, 1) := by decide +kernel
theorem dX4_playAllIn_4 : decode cX4_playAllIn 4 = .ok (.iload_n 3, 1) := by decide +kernel
theorem dX4_playAllIn_5 : decode cX4_playAllIn 5 = .ok (.bipush 10, 2) := by decide +kernel
theorem dX4_playAllIn_7 : decode cX4_playAllIn 7 = .ok (.if_icmp .ge 28, 3) := by decide +kernel
theorem dX4_playAllIn_10 : decode cX4_playAllIn 10 = .ok (.aload_n 0, 1) := by decide +kernel
theorem dX4_playAllIn_11 : decode cX4_playAllIn 11 = .ok (.getfield 9, 3) := by decide +kernel
theorem dX4_playAllIn_14 : decode cX4_playAllIn 14 = .ok (.iload_n 3, 1) := by decide +kernel
theorem dX4_playAllIn_15 : decode cX4_playAllIn 15 = .ok (.iaload, 1) := by decide +kernel
theorem dX4_playAllIn_16 : decode cX4_playAllIn 16 = .ok (.iload_n 1, 1) := by decide +kernel
theorem dX4_playAllIn_17 : decode cX4_playAllIn 17 = .ok (.if_icmp .ne 12, 3) := by decide +kernel
theorem dX4_playAllIn_20 : decode cX4_playAllIn 20 = .ok (.iload_n 2, 1) := by decide +kernel
theorem dX4_playAllIn_21 : decode cX4_playAllIn 21 = .ok (.aload_n 0, 1) := by decide +kernel
theorem dX4_playAllIn_22 : decode cX4_playAllIn 22 = .ok (.iload_n 3, 1) := by decide +kernel
theorem dX4_playAllIn_23 : decode cX4_playAllIn 23 = .ok (.iload_n 1, 1) := by decide +kernel
theorem dX4_playAllIn_24 : decode cX4_playAllIn 24 = .ok (.invokevirtual 39, 3) := by decide +kernel
theorem dX4_playAllIn_27 : decode cX4_playAllIn 27 = .ok (.iadd, 1) := by decide +kernel
theorem dX4_playAllIn_28 : decode cX4_playAllIn 28 = .ok (.istore_n 2, 1) := by decide +kernel
theorem dX4_playAllIn_29 : decode cX4_playAllIn 29 = .ok (.iinc 3 1, 3) := by decide +kernel
theorem dX4_playAllIn_32 : decode cX4_playAllIn 32 = .ok (.goto (-28), 3) := by decide +kernel
theorem dX4_playAllIn_35 : decode cX4_playAllIn 35 = .ok (.iload_n 2, 1) := by decide +kernel
theorem dX4_playAllIn_36 : decode cX4_playAllIn 36 = .ok (.ireturn, 1) := by decide +kernel
theorem dX4_playOne_0 : decode cX4_playOne 0 = .ok (.aload_n 0, 1) := by decide +kernel
theorem dX4_playOne_1 : decode cX4_playOne 1 = .ok (.getfield 24, 3) := by decide +kernel
theorem dX4_playOne_4 : decode cX4_playOne 4 = .ok (.iload_n 1, 1) := by decide +kernel
theorem dX4_playOne_5 : decode cX4_playOne 5 = .ok (.dup2, 1) := by decide +kernel
theorem dX4_playOne_6 : decode cX4_playOne 6 = .ok (.iaload, 1) := by decide +kernel
theorem dX4_playOne_7 : decode cX4_playOne 7 = .ok (.iconst 1, 1) := by decide +kernel
theorem dX4_playOne_8 : decode cX4_playOne 8 = .ok (.iload_n 2, 1) := by decide +kernel
theorem dX4_playOne_9 : decode cX4_playOne 9 = .ok (.ishl, 1) := by decide +kernel
theorem dX4_playOne_10 : decode cX4_playOne 10 = .ok (.ior, 1) := by decide +kernel
theorem dX4_playOne_11 : decode cX4_playOne 11 = .ok (.iastore, 1) := by decide +kernel
theorem dX4_playOne_12 : decode cX4_playOne 12 = .ok (.aload_n 0, 1) := by decide +kernel
theorem dX4_playOne_13 : decode cX4_playOne 13 = .ok (.getfield 18, 3) := by decide +kernel
theorem dX4_playOne_16 : decode cX4_playOne 16 = .ok (.iload_n 1, 1) := by decide +kernel
theorem dX4_playOne_17 : decode cX4_playOne 17 = .ok (.dup2, 1) := by decide +kernel
theorem dX4_playOne_18 : decode cX4_playOne 18 = .ok (.iaload, 1) := by decide +kernel
theorem dX4_playOne_19 : decode cX4_playOne 19 = .ok (.iconst 5, 1) := by decide +kernel
theorem dX4_playOne_20 : decode cX4_playOne 20 = .ok (.iload_n 2, 1) := by decide +kernel
theorem dX4_playOne_21 : decode cX4_playOne 21 = .ok (.iconst 3, 1) := by decide +kernel
theorem dX4_playOne_22 : decode cX4_playOne 22 = .ok (.irem, 1) := by decide +kernel
theorem dX4_playOne_23 : decode cX4_playOne 23 = .ok (.iadd, 1) := by decide +kernel
theorem dX4_playOne_24 : decode cX4_playOne 24 = .ok (.iadd, 1) := by decide +kernel
theorem dX4_playOne_25 : decode cX4_playOne 25 = .ok (.iastore, 1) := by decide +kernel
theorem dX4_playOne_26 : decode cX4_playOne 26 = .ok (.iconst 0, 1) := by decide +kernel
theorem dX4_playOne_27 : decode cX4_playOne 27 = .ok (.istore_n 3, 1) := by decide +kernel
theorem dX4_playOne_28 : decode cX4_playOne 28 = .ok (.aload_n 0, 1) := by decide +kernel
theorem dX4_playOne_29 : decode cX4_playOne 29 = .ok (.getfield 18, 3) := by decide +kernel
theorem dX4_playOne_32 : decode cX4_playOne 32 = .ok (.iload_n 1, 1) := by decide +kernel
theorem dX4_playOne_33 : decode cX4_playOne 33 = .ok (.iaload, 1) := by decide +kernel
theorem dX4_playOne_34 : decode cX4_playOne 34 = .ok (.bipush 40, 2) := by decide +kernel
theorem dX4_playOne_36 : decode cX4_playOne 36 = .ok (.if_icmp .lt 20, 3) := by decide +kernel
theorem dX4_playOne_39 : decode cX4_playOne 39 = .ok (.aload_n 0, 1) := by decide +kernel
theorem dX4_playOne_40 : decode cX4_playOne 40 = .ok (.getfield 18, 3) := by decide +kernel
theorem dX4_playOne_43 : decode cX4_playOne 43 = .ok (.iload_n 1, 1) := by decide +kernel
theorem dX4_playOne_44 : decode cX4_playOne 44 = .ok (.dup2, 1) := by decide +kernel
theorem dX4_playOne_45 : decode cX4_playOne 45 = .ok (.iaload, 1) := by decide +kernel
theorem dX4_playOne_46 : decode cX4_playOne 46 = .ok (.bipush 20, 2) := by decide +kernel
theorem dX4_playOne_48 : decode cX4_playOne 48 = .ok (.isub, 1) := by decide +kernel
theorem dX4_playOne_49 : decode cX4_playOne 49 = .ok (.iastore, 1) := by decide +kernel
theorem dX4_playOne_50 : decode cX4_playOne 50 = .ok (.iinc 3 1, 3) := by decide +kernel
theorem dX4_playOne_53 : decode cX4_playOne 53 = .ok (.goto (-25), 3) := by decide +kernel
theorem dX4_playOne_56 : decode cX4_playOne 56 = .ok (.aload_n 0, 1) := by decide +kernel
theorem dX4_playOne_57 : decode cX4_playOne 57 = .ok (.getfield 21, 3) := by decide +kernel
theorem dX4_playOne_60 : decode cX4_playOne 60 = .ok (.iload_n 1, 1) := by decide +kernel
theorem dX4_playOne_61 : decode cX4_playOne 61 = .ok (.dup2, 1) := by decide +kernel
theorem dX4_playOne_62 : decode cX4_playOne 62 = .ok (.iaload, 1) := by decide +kernel
theorem dX4_playOne_63 : decode cX4_playOne 63 = .ok (.iload_n 3, 1) := by decide +kernel
theorem dX4_playOne_64 : decode cX4_playOne 64 = .ok (.iadd, 1) := by decide +kernel
theorem dX4_playOne_65 : decode cX4_playOne 65 = .ok (.iastore, 1) := by decide +kernel
theorem dX4_playOne_66 : decode cX4_playOne 66 = .ok (.aload_n 0, 1) := by decide +kernel
theorem dX4_playOne_67 : decode cX4_playOne 67 = .ok (.getfield 15, 3) := by decide +kernel
theorem dX4_playOne_70 : decode cX4_playOne 70 = .ok (.iload_n 1, 1) := by decide +kernel
theorem dX4_playOne_71 : decode cX4_playOne 71 = .ok (.dup2, 1) := by decide +kernel
theorem dX4_playOne_72 : decode cX4_playOne 72 = .ok (.iaload, 1) := by decide +kernel
theorem dX4_playOne_73 : decode cX4_playOne 73 = .ok (.iload_n 3, 1) := by decide +kernel
theorem dX4_playOne_74 : decode cX4_playOne 74 = .ok (.isub, 1) := by decide +kernel
theorem dX4_playOne_75 : decode cX4_playOne 75 = .ok (.iastore, 1) := by decide +kernel
theorem dX4_playOne_76 : decode cX4_playOne 76 = .ok (.aload_n 0, 1) := by decide +kernel
theorem dX4_playOne_77 : decode cX4_playOne 77 = .ok (.getfield 15, 3) := by decide +kernel
theorem dX4_playOne_80 : decode cX4_playOne 80 = .ok (.iload_n 1, 1) := by decide +kernel
theorem dX4_playOne_81 : decode cX4_playOne 81 = .ok (.iaload, 1) := by decide +kernel
theorem dX4_playOne_82 : decode cX4_playOne 82 = .ok (.iconst 3, 1) := by decide +kernel
theorem dX4_playOne_83 : decode cX4_playOne 83 = .ok (.if_icmp .ge 11, 3) := by decide +kernel
theorem dX4_playOne_86 : decode cX4_playOne 86 = .ok (.aload_n 0, 1) := by decide +kernel
theorem dX4_playOne_87 : decode cX4_playOne 87 = .ok (.getfield 9, 3) := by decide +kernel
theorem dX4_playOne_90 : decode cX4_playOne 90 = .ok (.iload_n 1, 1) := by decide +kernel
theorem dX4_playOne_91 : decode cX4_playOne 91 = .ok (.bipush (-2), 2) := by decide +kernel
theorem dX4_playOne_93 : decode cX4_playOne 93 = .ok (.iastore, 1) := by decide +kernel
theorem dX4_playOne_94 : decode cX4_playOne 94 = .ok (.iload_n 3, 1) := by decide +kernel
theorem dX4_playOne_95 : decode cX4_playOne 95 = .ok (.ireturn, 1) := by decide +kernel
theorem dX4_showsLeft_0 : decode cX4_showsLeft 0 = .ok (.iconst 0, 1) := by decide +kernel
theorem dX4_showsLeft_1 : decode cX4_showsLeft 1 = .ok (.istore_n 2, 1) := by decide +kernel
theorem dX4_showsLeft_2 : decode cX4_showsLeft 2 = .ok (.aload_n 0, 1) := by decide +kernel
theorem dX4_showsLeft_3 : decode cX4_showsLeft 3 = .ok (.getfield 18, 3) := by decide +kernel
theorem dX4_showsLeft_6 : decode cX4_showsLeft 6 = .ok (.iload_n 1, 1) := by decide +kernel
theorem dX4_showsLeft_7 : decode cX4_showsLeft 7 = .ok (.iaload, 1) := by decide +kernel
theorem dX4_showsLeft_8 : decode cX4_showsLeft 8 = .ok (.istore_n 3, 1) := by decide +kernel
theorem dX4_showsLeft_9 : decode cX4_showsLeft 9 = .ok (.aload_n 0, 1) := by decide +kernel
theorem dX4_showsLeft_10 : decode cX4_showsLeft 10 = .ok (.getfield 15, 3) := by decide +kernel
theorem dX4_showsLeft_13 : decode cX4_showsLeft 13 = .ok (.iload_n 1, 1) := by decide +kernel
theorem dX4_showsLeft_14 : decode cX4_showsLeft 14 = .ok (.iaload, 1) := by decide +kernel
theorem dX4_showsLeft_15 : decode cX4_showsLeft 15 = .ok (.istore 4, 2) := by decide +kernel
theorem dX4_showsLeft_17 : decode cX4_showsLeft 17 = .ok (.iload 4, 2) := by decide +kernel
theorem dX4_showsLeft_19 : decode cX4_showsLeft 19 = .ok (.iconst 3, 1) := by decide +kernel
theorem dX4_showsLeft_20 : decode cX4_showsLeft 20 = .ok (.if_icmp .lt 27, 3) := by decide +kernel
theorem dX4_showsLeft_23 : decode cX4_showsLeft 23 = .ok (.iload_n 3, 1) := by decide +kernel
theorem dX4_showsLeft_24 : decode cX4_showsLeft 24 = .ok (.bipush 40, 2) := by decide +kernel
theorem dX4_showsLeft_26 : decode cX4_showsLeft 26 = .ok (.if_icmp .ge 12, 3) := by decide +kernel
theorem dX4_showsLeft_29 : decode cX4_showsLeft 29 = .ok (.iinc 3 5, 3) := by decide +kernel
theorem dX4_showsLeft_32 : decode cX4_showsLeft 32 = .ok (.iinc 2 1, 3) := by decide +kernel
theorem dX4_showsLeft_35 : decode cX4_showsLeft 35 = .ok (.goto (-12), 3) := by decide +kernel
theorem dX4_showsLeft_38 : decode cX4_showsLeft 38 = .ok (.iinc 3 (-20), 3) := by decide +kernel
theorem dX4_showsLeft_41 : decode cX4_showsLeft 41 = .ok (.iinc 4 (-1), 3) := by decide +kernel
theorem dX4_showsLeft_44 : decode cX4_showsLeft 44 = .ok (.goto (-27), 3) := by decide +kernel
theorem dX4_showsLeft_47 : decode cX4_showsLeft 47 = .ok (.iload_n 2, 1) := by decide +kernel
theorem dX4_showsLeft_48 : decode cX4_showsLeft 48 = .ok (.ireturn, 1) := by decide +kernel
theorem dX6_init_0 : decode cX6_init 0 = .ok (.aload_n 0, 1) := by decide +kernel
theorem dX6_init_1 : decode cX6_init 1 = .ok (.invokespecial 3, 3) := by decide +kernel
theorem dX6_init_4 : decode cX6_init 4 = .ok (.aload_n 0, 1) := by decide +kernel
theorem dX6_init_5 : decode cX6_init 5 = .ok (.bipush 30, 2) := by decide +kernel
theorem dX6_init_7 : decode cX6_init 7 = .ok (.newarray .int, 2) := by decide +kernel
theorem dX6_init_9 : decode cX6_init 9 = .ok (.putfield 9, 3) := by decide +kernel
theorem dX6_init_12 : decode cX6_init 12 = .ok (.aload_n 0, 1) := by decide +kernel
theorem dX6_init_13 : decode cX6_init 13 = .ok (.iconst 0, 1) := by decide +kernel
theorem dX6_init_14 : decode cX6_init 14 = .ok (.putfield 15, 3) := by decide +kernel
theorem dX6_init_17 : decode cX6_init 17 = .ok (.return_, 1) := by decide +kernel
theorem dX6_copyFrom_0 : decode cX6_copyFrom 0 = .ok (.aload_n 1, 1) := by decide +kernel
theorem dX6_copyFrom_1 : decode cX6_copyFrom 1 = .ok (.getfield 9, 3) := by decide +kernel
theorem dX6_copyFrom_4 : decode cX6_copyFrom 4 = .ok (.iconst 0, 1) := by decide +kernel
theorem dX6_copyFrom_5 : decode cX6_copyFrom 5 = .ok (.aload_n 0, 1) := by decide +kernel
theorem dX6_copyFrom_6 : decode cX6_copyFrom 6 = .ok (.getfield 9, 3) := by decide +kernel
theorem dX6_copyFrom_9 : decode cX6_copyFrom 9 = .ok (.iconst 0, 1) := by decide +kernel
theorem dX6_copyFrom_10 : decode cX6_copyFrom 10 = .ok (.bipush 30, 2) := by decide +kernel
theorem dX6_copyFrom_12 : decode cX6_copyFrom 12 = .ok (.invokestatic 19, 3) := by decide +kernel
theorem dX6_copyFrom_15 : decode cX6_copyFrom 15 = .ok (.aload_n 0, 1) := by decide +kernel
theorem dX6_copyFrom_16 : decode cX6_copyFrom 16 = .ok (.aload_n 1, 1) := by decide +kernel
theorem dX6_copyFrom_17 : decode cX6_copyFrom 17 = .ok (.getfield 15, 3) := by decide +kernel
theorem dX6_copyFrom_20 : decode cX6_copyFrom 20 = .ok (.putfield 15, 3) := by decide +kernel
theorem dX6_copyFrom_23 : decode cX6_copyFrom 23 = .ok (.return_, 1) := by decide +kernel
theorem dX6_size_0 : decode cX6_size 0 = .ok (.aload_n 0, 1) := by decide +kernel
theorem dX6_size_1 : decode cX6_size 1 = .ok (.getfield 15, 3) := by decide +kernel
theorem dX6_size_4 : decode cX6_size 4 = .ok (.ireturn, 1) := by decide +kernel
theorem dX6_add_0 : decode cX6_add 0 = .ok (.bipush 29, 2) := by decide +kernel
theorem dX6_add_2 : decode cX6_add 2 = .ok (.istore 6, 2) := by decide +kernel
theorem dX6_add_4 : decode cX6_add 4 = .ok (.iload 6, 2) := by decide +kernel
theorem dX6_add_6 : decode cX6_add 6 = .ok (.iconst 5, 1) := by decide +kernel
theorem dX6_add_7 : decode cX6_add 7 = .ok (.if_icmp .lt 25, 3) := by decide +kernel
theorem dX6_add_10 : decode cX6_add 10 = .ok (.aload_n 0, 1) := by decide +kernel
theorem dX6_add_11 : decode cX6_add 11 = .ok (.getfield 9, 3) := by decide +kernel
theorem dX6_add_14 : decode cX6_add 14 = .ok (.iload 6, 2) := by decide +kernel
theorem dX6_add_16 : decode cX6_add 16 = .ok (.aload_n 0, 1) := by decide +kernel
theorem dX6_add_17 : decode cX6_add 17 = .ok (.getfield 9, 3) := by decide +kernel
theorem dX6_add_20 : decode cX6_add 20 = .ok (.iload 6, 2) := by decide +kernel
theorem dX6_add_22 : decode cX6_add 22 = .ok (.iconst 5, 1) := by decide +kernel
theorem dX6_add_23 : decode cX6_add 23 = .ok (.isub, 1) := by decide +kernel
theorem dX6_add_24 : decode cX6_add 24 = .ok (.iaload, 1) := by decide +kernel
theorem dX6_add_25 : decode cX6_add 25 = .ok (.iastore, 1) := by decide +kernel
theorem dX6_add_26 : decode cX6_add 26 = .ok (.iinc 6 (-1), 3) := by decide +kernel
theorem dX6_add_29 : decode cX6_add 29 = .ok (.goto (-25), 3) := by decide +kernel
theorem dX6_add_32 : decode cX6_add 32 = .ok (.aload_n 0, 1) := by decide +kernel
theorem dX6_add_33 : decode cX6_add 33 = .ok (.getfield 9, 3) := by decide +kernel
theorem dX6_add_36 : decode cX6_add 36 = .ok (.iconst 0, 1) := by decide +kernel
theorem dX6_add_37 : decode cX6_add 37 = .ok (.iload_n 1, 1) := by decide +kernel
theorem dX6_add_38 : decode cX6_add 38 = .ok (.iastore, 1) := by decide +kernel
theorem dX6_add_39 : decode cX6_add 39 = .ok (.aload_n 0, 1) := by decide +kernel
theorem dX6_add_40 : decode cX6_add 40 = .ok (.getfield 9, 3) := by decide +kernel
theorem dX6_add_43 : decode cX6_add 43 = .ok (.iconst 1, 1) := by decide +kernel
theorem dX6_add_44 : decode cX6_add 44 = .ok (.iload_n 2, 1) := by decide +kernel
theorem dX6_add_45 : decode cX6_add 45 = .ok (.iastore, 1) := by decide +kernel
theorem dX6_add_46 : decode cX6_add 46 = .ok (.aload_n 0, 1) := by decide +kernel
theorem dX6_add_47 : decode cX6_add 47 = .ok (.getfield 9, 3) := by decide +kernel
theorem dX6_add_50 : decode cX6_add 50 = .ok (.iconst 2, 1) := by decide +kernel
theorem dX6_add_51 : decode cX6_add 51 = .ok (.iload_n 3, 1) := by decide +kernel
theorem dX6_add_52 : decode cX6_add 52 = .ok (.iastore, 1) := by decide +kernel
theorem dX6_add_53 : decode cX6_add 53 = .ok (.aload_n 0, 1) := by decide +kernel
theorem dX6_add_54 : decode cX6_add 54 = .ok (.getfield 9, 3) := by decide +kernel
theorem dX6_add_57 : decode cX6_add 57 = .ok (.iconst 3, 1) := by decide +kernel
theorem dX6_add_58 : decode cX6_add 58 = .ok (.iload 4, 2) := by decide +kernel
theorem dX6_add_60 : decode cX6_add 60 = .ok (.iastore, 1) := by decide +kernel
theorem dX6_add_61 : decode cX6_add 61 = .ok (.aload_n 0, 1) := by decide +kernel
theorem dX6_add_62 : decode cX6_add 62 = .ok (.getfield 9, 3) := by decide +kernel
theorem dX6_add_65 : decode cX6_add 65 = .ok (.iconst 4, 1) := by decide +kernel
theorem dX6_add_66 : decode cX6_add 66 = .ok (.iload 5, 2) := by decide +kernel
theorem dX6_add_68 : decode cX6_add 68 = .ok (.iastore, 1) := by decide +kernel
theorem dX6_add_69 : decode cX6_add 69 = .ok (.aload_n 0, 1) := by decide +kernel
theorem dX6_add_70 : decode cX6_add 70 = .ok (.aload_n 0, 1) := by decide +kernel
theorem dX6_add_71 : decode cX6_add 71 = .ok (.getfield 15, 3) := by decide +kernel
theorem dX6_add_74 : decode cX6_add 74 = .ok (.iconst 1, 1) := by decide +kernel
theorem dX6_add_75 : decode cX6_add 75 = .ok (.iadd, 1) := by decide +kernel
theorem dX6_add_76 : decode cX6_add 76 = .ok (.bipush 6, 2) := by decide +kernel
theorem dX6_add_78 : decode cX6_add 78 = .ok (.invokestatic 25, 3) := by decide +kernel
theorem dX6_add_81 : decode cX6_add 81 = .ok (.putfield 15, 3) := by decide +kernel
theorem dX6_add_84 : decode cX6_add 84 = .ok (.return_, 1) := by decide +kernel
theorem dX6_told_0 : decode cX6_told 0 = .ok (.aload_n 0, 1) := by decide +kernel
theorem dX6_told_1 : decode cX6_told 1 = .ok (.getfield 9, 3) := by decide +kernel
theorem dX6_told_4 : decode cX6_told 4 = .ok (.iload_n 1, 1) := by decide +kernel
theorem dX6_told_5 : decode cX6_told 5 = .ok (.iconst 5, 1) := by decide +kernel
theorem dX6_told_6 : decode cX6_told 6 = .ok (.imul, 1) := by decide +kernel
theorem dX6_told_7 : decode cX6_told 7 = .ok (.iload_n 2, 1) := by decide +kernel
theorem dX6_told_8 : decode cX6_told 8 = .ok (.iadd, 1) := by decide +kernel
theorem dX6_told_9 : decode cX6_told 9 = .ok (.iaload, 1) := by decide +kernel
theorem dX6_told_10 : decode cX6_told 10 = .ok (.ireturn, 1) := by decide +kernel
theorem dX8_init_0 : decode cX8_init 0 = .ok (.aload_n 0, 1) := by decide +kernel
theorem dX8_init_1 : decode cX8_init 1 = .ok (.invokespecial 3, 3) := by decide +kernel
theorem dX8_init_4 : decode cX8_init 4 = .ok (.aload_n 0, 1) := by decide +kernel
theorem dX8_init_5 : decode cX8_init 5 = .ok (.bipush 80, 2) := by decide +kernel
theorem dX8_init_7 : decode cX8_init 7 = .ok (.newarray .char, 2) := by decide +kernel
theorem dX8_init_9 : decode cX8_init 9 = .ok (.putfield 9, 3) := by decide +kernel
theorem dX8_init_12 : decode cX8_init 12 = .ok (.aload_n 0, 1) := by decide +kernel
theorem dX8_init_13 : decode cX8_init 13 = .ok (.iconst 0, 1) := by decide +kernel
theorem dX8_init_14 : decode cX8_init 14 = .ok (.putfield 15, 3) := by decide +kernel
theorem dX8_init_17 : decode cX8_init 17 = .ok (.return_, 1) := by decide +kernel
theorem dX8_length_0 : decode cX8_length 0 = .ok (.aload_n 0, 1) := by decide +kernel
theorem dX8_length_1 : decode cX8_length 1 = .ok (.getfield 15, 3) := by decide +kernel
theorem dX8_length_4 : decode cX8_length 4 = .ok (.ireturn, 1) := by decide +kernel
