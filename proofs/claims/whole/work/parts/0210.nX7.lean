set_option maxRecDepth 20000 in
theorem ggX7_init_X4_init : GoodIn wsX7_init wsX4_init := goodIn_r _ [34, 35, 2, 3, 36, 37, 38, 39, 40, 41, 42, 43, 44, 45, 46, 47, 48, 49, 50, 51, 52, 53, 54, 55, 56, 57, 83, 84, 85, 86, 87, 88, 89, 90, 91, 92, 93, 119, 120, 121] (by decide +kernel) (by decide +kernel)
set_option maxRecDepth 20000 in
theorem gX7_init_X4_init_n9 : GoodIn wsX7_init (wsX4_init) := ggX7_init_X4_init
set_option maxRecDepth 20000 in
theorem ggX7_init_X6_init : GoodIn wsX7_init wsX6_init := goodIn_r _ [59, 60, 2, 3, 61, 62, 63, 64, 65, 66, 67, 107, 108, 109, 110, 111, 112] (by decide +kernel) (by decide +kernel)
set_option maxRecDepth 20000 in
theorem gX7_init_X6_init_n29 : GoodIn wsX7_init (wsX6_init) := ggX7_init_X6_init
set_option maxRecDepth 20000 in
theorem ggX7_init_X1_init : GoodIn wsX7_init wsX1_init := goodIn_r _ [69, 70, 2, 3, 38, 71, 72, 113, 114] (by decide +kernel) (by decide +kernel)
set_option maxRecDepth 20000 in
theorem gX7_init_X1_init_n36 : GoodIn wsX7_init (wsX1_init) := ggX7_init_X1_init
set_option maxRecDepth 20000 in
theorem ggX7_init_X0_init : GoodIn wsX7_init wsX0_init := goodIn_r _ [74, 75, 2, 3, 38, 76, 77, 78, 115, 116, 117] (by decide +kernel) (by decide +kernel)
set_option maxRecDepth 20000 in
theorem gX7_init_X0_init_n43 : GoodIn wsX7_init (wsX0_init) := ggX7_init_X0_init
set_option maxRecDepth 20000 in
theorem ggX7_init_X3_init : GoodIn wsX7_init wsX3_init := goodIn_r _ [80, 81, 2, 3, 38, 82, 118] (by decide +kernel) (by decide +kernel)
set_option maxRecDepth 20000 in
theorem gX7_init_X3_init_n50 : GoodIn wsX7_init (wsX3_init) := ggX7_init_X3_init
theorem dX7_init_0 : decode cX7_init 0 = .ok (.aload_n 0, 1) := by decide +kernel
theorem dX7_init_1 : decode cX7_init 1 = .ok (.invokespecial 1, 3) := by decide +kernel
theorem dX7_init_4 : decode cX7_init 4 = .ok (.aload_n 0, 1) := by decide +kernel
theorem dX7_init_5 : decode cX7_init 5 = .ok (.new 7, 3) := by decide +kernel
theorem dX7_init_8 : decode cX7_init 8 = .ok (.dup, 1) := by decide +kernel
theorem dX7_init_9 : decode cX7_init 9 = .ok (.invokespecial 9, 3) := by decide +kernel
theorem dX7_init_12 : decode cX7_init 12 = .ok (.putfield 10, 3) := by decide +kernel
theorem dX7_init_15 : decode cX7_init 15 = .ok (.aload_n 0, 1) := by decide +kernel
theorem dX7_init_16 : decode cX7_init 16 = .ok (.new 7, 3) := by decide +kernel
theorem dX7_init_19 : decode cX7_init 19 = .ok (.dup, 1) := by decide +kernel
theorem dX7_init_20 : decode cX7_init 20 = .ok (.invokespecial 9, 3) := by decide +kernel
theorem dX7_init_23 : decode cX7_init 23 = .ok (.putfield 16, 3) := by decide +kernel
theorem dX7_init_26 : decode cX7_init 26 = .ok (.aload_n 0, 1) := by decide +kernel
theorem dX7_init_27 : decode cX7_init 27 = .ok (.iconst 2, 1) := by decide +kernel
theorem dX7_init_28 : decode cX7_init 28 = .ok (.anewarray 7, 3) := by decide +kernel
theorem dX7_init_31 : decode cX7_init 31 = .ok (.putfield 19, 3) := by decide +kernel
theorem dX7_init_34 : decode cX7_init 34 = .ok (.aload_n 0, 1) := by decide +kernel
theorem dX7_init_35 : decode cX7_init 35 = .ok (.iconst 2, 1) := by decide +kernel
theorem dX7_init_36 : decode cX7_init 36 = .ok (.newarray .boolean, 2) := by decide +kernel
theorem dX7_init_38 : decode cX7_init 38 = .ok (.putfield 23, 3) := by decide +kernel
theorem dX7_init_41 : decode cX7_init 41 = .ok (.aload_n 0, 1) := by decide +kernel
theorem dX7_init_42 : decode cX7_init 42 = .ok (.new 27, 3) := by decide +kernel
theorem dX7_init_45 : decode cX7_init 45 = .ok (.dup, 1) := by decide +kernel
theorem dX7_init_46 : decode cX7_init 46 = .ok (.invokespecial 29, 3) := by decide +kernel
theorem dX7_init_49 : decode cX7_init 49 = .ok (.putfield 30, 3) := by decide +kernel
theorem dX7_init_52 : decode cX7_init 52 = .ok (.aload_n 0, 1) := by decide +kernel
theorem dX7_init_53 : decode cX7_init 53 = .ok (.new 34, 3) := by decide +kernel
theorem dX7_init_56 : decode cX7_init 56 = .ok (.dup, 1) := by decide +kernel
theorem dX7_init_57 : decode cX7_init 57 = .ok (.invokespecial 36, 3) := by decide +kernel
theorem dX7_init_60 : decode cX7_init 60 = .ok (.putfield 37, 3) := by decide +kernel
theorem dX7_init_63 : decode cX7_init 63 = .ok (.aload_n 0, 1) := by decide +kernel
theorem dX7_init_64 : decode cX7_init 64 = .ok (.new 41, 3) := by decide +kernel
theorem dX7_init_67 : decode cX7_init 67 = .ok (.dup, 1) := by decide +kernel
theorem dX7_init_68 : decode cX7_init 68 = .ok (.invokespecial 43, 3) := by decide +kernel
theorem dX7_init_71 : decode cX7_init 71 = .ok (.putfield 44, 3) := by decide +kernel
theorem dX7_init_74 : decode cX7_init 74 = .ok (.aload_n 0, 1) := by decide +kernel
theorem dX7_init_75 : decode cX7_init 75 = .ok (.new 48, 3) := by decide +kernel
theorem dX7_init_78 : decode cX7_init 78 = .ok (.dup, 1) := by decide +kernel
theorem dX7_init_79 : decode cX7_init 79 = .ok (.invokespecial 50, 3) := by decide +kernel
theorem dX7_init_82 : decode cX7_init 82 = .ok (.putfield 51, 3) := by decide +kernel
theorem dX7_init_85 : decode cX7_init 85 = .ok (.aload_n 0, 1) := by decide +kernel
theorem dX7_init_86 : decode cX7_init 86 = .ok (.iconst 0, 1) := by decide +kernel
theorem dX7_init_87 : decode cX7_init 87 = .ok (.putfield 55, 3) := by decide +kernel
theorem dX7_init_90 : decode cX7_init 90 = .ok (.aload_n 0, 1) := by decide +kernel
theorem dX7_init_91 : decode cX7_init 91 = .ok (.iconst 1, 1) := by decide +kernel
theorem dX7_init_92 : decode cX7_init 92 = .ok (.putfield 59, 3) := by decide +kernel
theorem dX7_init_95 : decode cX7_init 95 = .ok (.aload_n 0, 1) := by decide +kernel
theorem dX7_init_96 : decode cX7_init 96 = .ok (.iconst 0, 1) := by decide +kernel
theorem dX7_init_97 : decode cX7_init 97 = .ok (.putfield 62, 3) := by decide +kernel
theorem dX7_init_100 : decode cX7_init 100 = .ok (.aload_n 0, 1) := by decide +kernel
theorem dX7_init_101 : decode cX7_init 101 = .ok (.iconst 0, 1) := by decide +kernel
theorem dX7_init_102 : decode cX7_init 102 = .ok (.putfield 65, 3) := by decide +kernel
theorem dX7_init_105 : decode cX7_init 105 = .ok (.aload_n 0, 1) := by decide +kernel
theorem dX7_init_106 : decode cX7_init 106 = .ok (.iconst 0, 1) := by decide +kernel
theorem dX7_init_107 : decode cX7_init 107 = .ok (.putfield 68, 3) := by decide +kernel
theorem dX7_init_110 : decode cX7_init 110 = .ok (.iconst 0, 1) := by decide +kernel
theorem dX7_init_111 : decode cX7_init 111 = .ok (.istore_n 1, 1) := by decide +kernel
theorem dX7_init_112 : decode cX7_init 112 = .ok (.iload_n 1, 1) := by decide +kernel
theorem dX7_init_113 : decode cX7_init 113 = .ok (.iconst 2, 1) := by decide +kernel
theorem dX7_init_114 : decode cX7_init 114 = .ok (.if_icmp .ge 22, 3) := by decide +kernel
theorem dX7_init_117 : decode cX7_init 117 = .ok (.aload_n 0, 1) := by decide +kernel
theorem dX7_init_118 : decode cX7_init 118 = .ok (.getfield 19, 3) := by decide +kernel
theorem dX7_init_121 : decode cX7_init 121 = .ok (.iload_n 1, 1) := by decide +kernel
theorem dX7_init_122 : decode cX7_init 122 = .ok (.new 7, 3) := by decide +kernel
theorem dX7_init_125 : decode cX7_init 125 = .ok (.dup, 1) := by decide +kernel
theorem dX7_init_126 : decode cX7_init 126 = .ok (.invokespecial 9, 3) := by decide +kernel
theorem dX7_init_129 : decode cX7_init 129 = .ok (.aastore, 1) := by decide +kernel
theorem dX7_init_130 : decode cX7_init 130 = .ok (.iinc 1 1, 3) := by decide +kernel
theorem dX7_init_133 : decode cX7_init 133 = .ok (.goto (-21), 3) := by decide +kernel
theorem dX7_init_136 : decode cX7_init 136 = .ok (.return_, 1) := by decide +kernel
set_option maxRecDepth 20000 in
theorem ggX7_island_X4_empty : GoodIn wsX7_island wsX4_empty := goodIn_r _ [7, 8, 9, 10, 11, 12, 13, 14, 15, 16, 17, 18, 19, 33, 34, 35, 36, 37, 38, 39, 40, 41, 42, 43, 44, 45, 46] (by decide +kernel) (by decide +kernel)
set_option maxRecDepth 20000 in
theorem gX7_island_X4_empty : GoodIn wsX7_island (wsV RX7 74 RX4 yX4_empty wsX4_empty) := goodIn_app (goodIn_of _ (by decide +kernel)) ggX7_island_X4_empty
theorem dX7_island_0 : decode cX7_island 0 = .ok (.aload_n 0, 1) := by decide +kernel
theorem dX7_island_1 : decode cX7_island 1 = .ok (.getfield 10, 3) := by decide +kernel
theorem dX7_island_4 : decode cX7_island 4 = .ok (.getfield 71, 3) := by decide +kernel
theorem dX7_island_7 : decode cX7_island 7 = .ok (.istore_n 1, 1) := by decide +kernel
theorem dX7_island_8 : decode cX7_island 8 = .ok (.aload_n 0, 1) := by decide +kernel
theorem dX7_island_9 : decode cX7_island 9 = .ok (.getfield 10, 3) := by decide +kernel
theorem dX7_island_12 : decode cX7_island 12 = .ok (.invokevirtual 74, 3) := by decide +kernel
theorem dX7_island_15 : decode cX7_island 15 = .ok (.iload_n 1, 1) := by decide +kernel
theorem dX7_island_16 : decode cX7_island 16 = .ok (.ireturn, 1) := by decide +kernel
set_option maxRecDepth 20000 in
theorem ggX7_ship_X7_isKind : GoodIn wsX7_ship wsX7_isKind := goodIn_r _ [6, 7, 8, 5, 9] (by decide +kernel) (by decide +kernel)
set_option maxRecDepth 20000 in
theorem gX7_ship_X7_isKind : GoodIn wsX7_ship (va_wsS RX7 77 yX7_isKind wsX7_isKind) := goodIn_app (goodIn_of _ (by decide +kernel)) ggX7_ship_X7_isKind
set_option maxRecDepth 20000 in
theorem ggX7_ship_X7_refuse : GoodIn wsX7_ship wsX7_refuse := goodIn_r _ [13, 14, 15, 16, 32, 33, 34, 35, 36, 37, 38, 39, 40, 41, 42, 43, 44] (by decide +kernel) (by decide +kernel)
set_option maxRecDepth 20000 in
theorem gX7_ship_X7_refuse : GoodIn wsX7_ship (wsV RX7 81 RX7 yX7_refuse wsX7_refuse) := goodIn_app (goodIn_of _ (by decide +kernel)) ggX7_ship_X7_refuse
set_option maxRecDepth 20000 in
theorem ggX7_ship_X4_addShip : GoodIn wsX7_ship wsX4_addShip := goodIn_r _ [21, 22, 23, 24, 25, 26, 27, 28, 29, 30, 31, 45, 46, 47, 48, 49, 50, 51, 52, 53, 54, 55, 56, 57, 58] (by decide +kernel) (by decide +kernel)
set_option maxRecDepth 20000 in
theorem gX7_ship_X4_addShip : GoodIn wsX7_ship (wsV RX7 88 RX4 yX4_addShip wsX4_addShip) := goodIn_app (goodIn_of _ (by decide +kernel)) ggX7_ship_X4_addShip
theorem dX7_ship_0 : decode cX7_ship 0 = .ok (.iload_n 1, 1) := by decide +kernel
theorem dX7_ship_1 : decode cX7_ship 1 = .ok (.invokestatic 77, 3) := by decide +kernel
theorem dX7_ship_4 : decode cX7_ship 4 = .ok (.ifCond .ne 10, 3) := by decide +kernel
theorem dX7_ship_7 : decode cX7_ship 7 = .ok (.aload_n 0, 1) := by decide +kernel
theorem dX7_ship_8 : decode cX7_ship 8 = .ok (.bipush (-2), 2) := by decide +kernel
theorem dX7_ship_10 : decode cX7_ship 10 = .ok (.invokevirtual 81, 3) := by decide +kernel
theorem dX7_ship_13 : decode cX7_ship 13 = .ok (.ireturn, 1) := by decide +kernel
theorem dX7_ship_14 : decode cX7_ship 14 = .ok (.aload_n 0, 1) := by decide +kernel
theorem dX7_ship_15 : decode cX7_ship 15 = .ok (.getfield 10, 3) := by decide +kernel
theorem dX7_ship_18 : decode cX7_ship 18 = .ok (.getfield 85, 3) := by decide +kernel
theorem dX7_ship_21 : decode cX7_ship 21 = .ok (.iconst 3, 1) := by decide +kernel
theorem dX7_ship_22 : decode cX7_ship 22 = .ok (.if_icmp .lt 10, 3) := by decide +kernel
theorem dX7_ship_25 : decode cX7_ship 25 = .ok (.aload_n 0, 1) := by decide +kernel
theorem dX7_ship_26 : decode cX7_ship 26 = .ok (.bipush (-4), 2) := by decide +kernel
theorem dX7_ship_28 : decode cX7_ship 28 = .ok (.invokevirtual 81, 3) := by decide +kernel
theorem dX7_ship_31 : decode cX7_ship 31 = .ok (.ireturn, 1) := by decide +kernel
theorem dX7_ship_32 : decode cX7_ship 32 = .ok (.aload_n 0, 1) := by decide +kernel
theorem dX7_ship_33 : decode cX7_ship 33 = .ok (.getfield 10, 3) := by decide +kernel
theorem dX7_ship_36 : decode cX7_ship 36 = .ok (.iload_n 1, 1) := by decide +kernel
theorem dX7_ship_37 : decode cX7_ship 37 = .ok (.invokevirtual 88, 3) := by decide +kernel
theorem dX7_ship_40 : decode cX7_ship 40 = .ok (.ireturn, 1) := by decide +kernel
set_option maxRecDepth 20000 in
theorem ggX7_man_X7_isKind : GoodIn wsX7_man wsX7_isKind := goodIn_r _ [6, 7, 8, 5, 9] (by decide +kernel) (by decide +kernel)
set_option maxRecDepth 20000 in
theorem gX7_man_X7_isKind : GoodIn wsX7_man (va_wsS RX7 77 yX7_isKind wsX7_isKind) := goodIn_app (goodIn_of _ (by decide +kernel)) ggX7_man_X7_isKind
set_option maxRecDepth 20000 in
theorem ggX7_man_X7_within : GoodIn wsX7_man wsX7_within := goodIn_r _ [9] (by decide +kernel) (by decide +kernel)
set_option maxRecDepth 20000 in
theorem gX7_man_X7_within : GoodIn wsX7_man (va_wsS RX7 91 yX7_within wsX7_within) := goodIn_app (goodIn_of _ (by decide +kernel)) ggX7_man_X7_within
set_option maxRecDepth 20000 in
theorem ggX7_man_X7_isShipOrNone : GoodIn wsX7_man wsX7_isShipOrNone := goodIn_r _ [13, 1, 14, 15, 16, 17, 18, 19, 42, 43, 44, 45, 46, 47, 48, 49, 50, 51, 52, 53, 54, 55, 56, 57, 58, 59, 60, 61, 62, 63, 64, 65] (by decide +kernel) (by decide +kernel)
set_option maxRecDepth 20000 in
theorem gX7_man_X7_isShipOrNone : GoodIn wsX7_man (wsV RX7 95 RX7 yX7_isShipOrNone wsX7_isShipOrNone) := goodIn_app (goodIn_of _ (by decide +kernel)) ggX7_man_X7_isShipOrNone
set_option maxRecDepth 20000 in
theorem ggX7_man_X7_refuse : GoodIn wsX7_man wsX7_refuse := goodIn_r _ [23, 24, 25, 26, 42, 43, 44, 45, 46, 47, 48, 49, 50, 51, 52, 53, 54] (by decide +kernel) (by decide +kernel)
set_option maxRecDepth 20000 in
theorem gX7_man_X7_refuse : GoodIn wsX7_man (wsV RX7 81 RX7 yX7_refuse wsX7_refuse) := goodIn_app (goodIn_of _ (by decide +kernel)) ggX7_man_X7_refuse
set_option maxRecDepth 20000 in
theorem ggX7_man_X4_addMan : GoodIn wsX7_man wsX4_addMan := goodIn_r _ [30, 31, 32, 33, 34, 35, 36, 37, 38, 39, 40, 41, 55, 56, 57, 58, 59, 60, 61, 62, 63, 64, 65, 66, 67, 68] (by decide +kernel) (by decide +kernel)
set_option maxRecDepth 20000 in
theorem gX7_man_X4_addMan : GoodIn wsX7_man (wsV RX7 98 RX4 yX4_addMan wsX4_addMan) := goodIn_app (goodIn_of _ (by decide +kernel)) ggX7_man_X4_addMan
theorem dX7_man_0 : decode cX7_man 0 = .ok (.iload_n 1, 1) := by decide +kernel
theorem dX7_man_1 : decode cX7_man 1 = .ok (.invokestatic 77, 3) := by decide +kernel
theorem dX7_man_4 : decode cX7_man 4 = .ok (.ifCond .eq 21, 3) := by decide +kernel
theorem dX7_man_7 : decode cX7_man 7 = .ok (.iload_n 2, 1) := by decide +kernel
theorem dX7_man_8 : decode cX7_man 8 = .ok (.iconst 1, 1) := by decide +kernel
theorem dX7_man_9 : decode cX7_man 9 = .ok (.bipush 9, 2) := by decide +kernel
theorem dX7_man_11 : decode cX7_man 11 = .ok (.invokestatic 91, 3) := by decide +kernel
theorem dX7_man_14 : decode cX7_man 14 = .ok (.ifCond .eq 11, 3) := by decide +kernel
theorem dX7_man_17 : decode cX7_man 17 = .ok (.aload_n 0, 1) := by decide +kernel
theorem dX7_man_18 : decode cX7_man 18 = .ok (.iload_n 3, 1) := by decide +kernel
theorem dX7_man_19 : decode cX7_man 19 = .ok (.invokevirtual 95, 3) := by decide +kernel
theorem dX7_man_22 : decode cX7_man 22 = .ok (.ifCond .ne 10, 3) := by decide +kernel
theorem dX7_man_25 : decode cX7_man 25 = .ok (.aload_n 0, 1) := by decide +kernel
theorem dX7_man_26 : decode cX7_man 26 = .ok (.bipush (-2), 2) := by decide +kernel
theorem dX7_man_28 : decode cX7_man 28 = .ok (.invokevirtual 81, 3) := by decide +kernel
theorem dX7_man_31 : decode cX7_man 31 = .ok (.ireturn, 1) := by decide +kernel
theorem dX7_man_32 : decode cX7_man 32 = .ok (.aload_n 0, 1) := by decide +kernel
theorem dX7_man_33 : decode cX7_man 33 = .ok (.getfield 10, 3) := by decide +kernel
theorem dX7_man_36 : decode cX7_man 36 = .ok (.getfield 71, 3) := by decide +kernel
theorem dX7_man_39 : decode cX7_man 39 = .ok (.bipush 8, 2) := by decide +kernel
theorem dX7_man_41 : decode cX7_man 41 = .ok (.if_icmp .lt 10, 3) := by decide +kernel
theorem dX7_man_44 : decode cX7_man 44 = .ok (.aload_n 0, 1) := by decide +kernel
theorem dX7_man_45 : decode cX7_man 45 = .ok (.bipush (-4), 2) := by decide +kernel
theorem dX7_man_47 : decode cX7_man 47 = .ok (.invokevirtual 81, 3) := by decide +kernel
theorem dX7_man_50 : decode cX7_man 50 = .ok (.ireturn, 1) := by decide +kernel
theorem dX7_man_51 : decode cX7_man 51 = .ok (.aload_n 0, 1) := by decide +kernel
theorem dX7_man_52 : decode cX7_man 52 = .ok (.getfield 10, 3) := by decide +kernel
theorem dX7_man_55 : decode cX7_man 55 = .ok (.iload_n 1, 1) := by decide +kernel
theorem dX7_man_56 : decode cX7_man 56 = .ok (.iload_n 2, 1) := by decide +kernel
theorem dX7_man_57 : decode cX7_man 57 = .ok (.iload_n 3, 1) := by decide +kernel
theorem dX7_man_58 : decode cX7_man 58 = .ok (.invokevirtual 98, 3) := by decide +kernel
theorem dX7_man_61 : decode cX7_man 61 = .ok (.ireturn, 1) := by decide +kernel
set_option maxRecDepth 20000 in
theorem ggX7_type_X7_within : GoodIn wsX7_type wsX7_within := goodIn_r _ [5] (by decide +kernel) (by decide +kernel)
set_option maxRecDepth 20000 in
theorem gX7_type_X7_within : GoodIn wsX7_type (va_wsS RX7 91 yX7_within wsX7_within) := goodIn_app (goodIn_of _ (by decide +kernel)) ggX7_type_X7_within
set_option maxRecDepth 20000 in
theorem ggX7_type_X7_refuse : GoodIn wsX7_type wsX7_refuse := goodIn_r _ [9, 10, 11, 12, 24, 25, 26, 27, 28, 29, 30, 31, 32, 33, 34, 35, 36] (by decide +kernel) (by decide +kernel)
set_option maxRecDepth 20000 in
theorem gX7_type_X7_refuse : GoodIn wsX7_type (wsV RX7 81 RX7 yX7_refuse wsX7_refuse) := goodIn_app (goodIn_of _ (by decide +kernel)) ggX7_type_X7_refuse
set_option maxRecDepth 20000 in
theorem ggX7_type_X6_size : GoodIn wsX7_type wsX6_size := goodIn_r _ [17, 18, 37, 38, 39, 40, 41, 42] (by decide +kernel) (by decide +kernel)
set_option maxRecDepth 20000 in
theorem gX7_type_X6_size : GoodIn wsX7_type (wsV RX7 102 RX6 yX6_size wsX6_size) := goodIn_app (goodIn_of _ (by decide +kernel)) ggX7_type_X6_size
set_option maxRecDepth 20000 in
theorem ggX7_type_X6_append : GoodIn wsX7_type wsX6_append := goodIn_r _ [22, 18, 23, 37, 38, 39, 40, 41, 42] (by decide +kernel) (by decide +kernel)
set_option maxRecDepth 20000 in
theorem gX7_type_X6_append : GoodIn wsX7_type (wsV RX7 106 RX6 yX6_append wsX6_append) := goodIn_app (goodIn_of _ (by decide +kernel)) ggX7_type_X6_append
theorem dX7_type_0 : decode cX7_type 0 = .ok (.iload_n 1, 1) := by decide +kernel
theorem dX7_type_1 : decode cX7_type 1 = .ok (.iconst 0, 1) := by decide +kernel
theorem dX7_type_2 : decode cX7_type 2 = .ok (.bipush 127, 2) := by decide +kernel
theorem dX7_type_4 : decode cX7_type 4 = .ok (.invokestatic 91, 3) := by decide +kernel
theorem dX7_type_7 : decode cX7_type 7 = .ok (.ifCond .ne 10, 3) := by decide +kernel
theorem dX7_type_10 : decode cX7_type 10 = .ok (.aload_n 0, 1) := by decide +kernel
theorem dX7_type_11 : decode cX7_type 11 = .ok (.bipush (-2), 2) := by decide +kernel
theorem dX7_type_13 : decode cX7_type 13 = .ok (.invokevirtual 81, 3) := by decide +kernel
theorem dX7_type_16 : decode cX7_type 16 = .ok (.ireturn, 1) := by decide +kernel
theorem dX7_type_17 : decode cX7_type 17 = .ok (.aload_n 0, 1) := by decide +kernel
theorem dX7_type_18 : decode cX7_type 18 = .ok (.getfield 30, 3) := by decide +kernel
theorem dX7_type_21 : decode cX7_type 21 = .ok (.invokevirtual 102, 3) := by decide +kernel
theorem dX7_type_24 : decode cX7_type 24 = .ok (.sipush 150, 3) := by decide +kernel
theorem dX7_type_27 : decode cX7_type 27 = .ok (.if_icmp .lt 10, 3) := by decide +kernel
theorem dX7_type_30 : decode cX7_type 30 = .ok (.aload_n 0, 1) := by decide +kernel
theorem dX7_type_31 : decode cX7_type 31 = .ok (.bipush (-4), 2) := by decide +kernel
theorem dX7_type_33 : decode cX7_type 33 = .ok (.invokevirtual 81, 3) := by decide +kernel
theorem dX7_type_36 : decode cX7_type 36 = .ok (.ireturn, 1) := by decide +kernel
theorem dX7_type_37 : decode cX7_type 37 = .ok (.aload_n 0, 1) := by decide +kernel
theorem dX7_type_38 : decode cX7_type 38 = .ok (.getfield 30, 3) := by decide +kernel
theorem dX7_type_41 : decode cX7_type 41 = .ok (.iload_n 1, 1) := by decide +kernel
theorem dX7_type_42 : decode cX7_type 42 = .ok (.invokevirtual 106, 3) := by decide +kernel
theorem dX7_type_45 : decode cX7_type 45 = .ok (.ireturn, 1) := by decide +kernel
set_option maxRecDepth 20000 in
theorem ggX7_clear_X6_empty : GoodIn wsX7_clear wsX6_empty := goodIn_r _ [6, 7, 21, 22, 23, 24, 25, 26] (by decide +kernel) (by decide +kernel)
set_option maxRecDepth 20000 in
theorem gX7_clear_X6_empty : GoodIn wsX7_clear (wsV RX7 109 RX6 yX6_empty wsX6_empty) := goodIn_app (goodIn_of _ (by decide +kernel)) ggX7_clear_X6_empty
theorem dX7_clear_0 : decode cX7_clear 0 = .ok (.aload_n 0, 1) := by decide +kernel
theorem dX7_clear_1 : decode cX7_clear 1 = .ok (.getfield 30, 3) := by decide +kernel
theorem dX7_clear_4 : decode cX7_clear 4 = .ok (.invokevirtual 109, 3) := by decide +kernel
theorem dX7_clear_7 : decode cX7_clear 7 = .ok (.ireturn, 1) := by decide +kernel
set_option maxRecDepth 20000 in
theorem ggX7_read_X6_readOnto : GoodIn wsX7_read wsX6_readOnto := goodIn_r _ [8, 9, 10, 11, 12, 13, 14, 15, 16, 17, 18, 19, 20, 21, 22, 23, 24, 25, 26, 27, 28, 29, 30, 31, 7, 32, 33, 34, 35, 36, 37, 38, 39, 40, 41, 42, 43, 44, 45, 46, 47, 48, 49, 50, 51, 52, 53, 54, 55, 56, 57, 58, 59, 60, 61, 62, 63, 64, 65, 66, 67, 68, 69, 70, 71, 72, 73, 74, 75, 76, 77, 78, 79, 80, 81, 82, 83, 84, 85, 86, 87, 88, 89, 90, 91, 92, 93, 94, 95, 96, 97, 98, 99, 100, 101, 102, 103, 104, 105, 106, 107, 108, 109, 110, 111, 112, 113, 114, 115, 116, 117, 118, 119, 120, 121, 122, 123, 124, 125, 126, 127, 128, 129, 130, 131, 132, 133, 134, 135, 136, 137, 138, 139, 140, 141, 142, 143, 144, 145, 146, 147, 148, 149, 150, 151, 152, 153, 154, 155, 156, 157, 158, 159, 160, 161, 162, 163, 164, 165, 199, 200, 201, 202, 203, 204, 205, 206, 207, 208, 209, 210, 211, 212, 213, 214, 215, 216, 217, 218] (by decide +kernel) (by decide +kernel)
set_option maxRecDepth 20000 in
theorem gX7_read_X6_readOnto : GoodIn wsX7_read (wsV RX7 111 RX6 yX6_readOnto wsX6_readOnto) := goodIn_app (goodIn_of _ (by decide +kernel)) ggX7_read_X6_readOnto
set_option maxRecDepth 20000 in
theorem ggX7_read_X4_take : GoodIn wsX7_read wsX4_take := goodIn_r _ [169, 19, 20, 21, 22, 170, 171, 172, 15, 173, 17, 18, 114, 174, 175, 176, 177, 115, 129, 130, 131, 178, 179, 180, 26, 181, 182, 28, 183, 141, 142, 143, 184, 185, 205, 206, 207, 208, 209, 210, 211, 212, 213, 214, 215, 216, 217, 218] (by decide +kernel) (by decide +kernel)
set_option maxRecDepth 20000 in
theorem gX7_read_X4_take : GoodIn wsX7_read (wsV RX7 115 RX4 yX4_take wsX4_take) := goodIn_app (goodIn_of _ (by decide +kernel)) ggX7_read_X4_take
theorem dX7_read_0 : decode cX7_read 0 = .ok (.aload_n 0, 1) := by decide +kernel
theorem dX7_read_1 : decode cX7_read 1 = .ok (.getfield 30, 3) := by decide +kernel
theorem dX7_read_4 : decode cX7_read 4 = .ok (.aload_n 0, 1) := by decide +kernel
theorem dX7_read_5 : decode cX7_read 5 = .ok (.getfield 16, 3) := by decide +kernel
theorem dX7_read_8 : decode cX7_read 8 = .ok (.invokevirtual 111, 3) := by decide +kernel
theorem dX7_read_11 : decode cX7_read 11 = .ok (.istore_n 1, 1) := by decide +kernel
theorem dX7_read_12 : decode cX7_read 12 = .ok (.iload_n 1, 1) := by decide +kernel
theorem dX7_read_13 : decode cX7_read 13 = .ok (.ifCond .le 14, 3) := by decide +kernel
theorem dX7_read_16 : decode cX7_read 16 = .ok (.aload_n 0, 1) := by decide +kernel
theorem dX7_read_17 : decode cX7_read 17 = .ok (.getfield 10, 3) := by decide +kernel
theorem dX7_read_20 : decode cX7_read 20 = .ok (.aload_n 0, 1) := by decide +kernel
theorem dX7_read_21 : decode cX7_read 21 = .ok (.getfield 16, 3) := by decide +kernel
theorem dX7_read_24 : decode cX7_read 24 = .ok (.invokevirtual 115, 3) := by decide +kernel
theorem dX7_read_27 : decode cX7_read 27 = .ok (.iload_n 1, 1) := by decide +kernel
theorem dX7_read_28 : decode cX7_read 28 = .ok (.ireturn, 1) := by decide +kernel
set_option maxRecDepth 20000 in
theorem ggX7_calls_X4_hasShip : GoodIn wsX7_calls wsX4_hasShip := goodIn_r _ [6, 7, 78, 79, 80, 81, 82, 83, 84, 85, 86, 87, 88] (by decide +kernel) (by decide +kernel)
set_option maxRecDepth 20000 in
theorem gX7_calls_X4_hasShip : GoodIn wsX7_calls (wsV RX7 119 RX4 yX4_hasShip wsX4_hasShip) := goodIn_app (goodIn_of _ (by decide +kernel)) ggX7_calls_X4_hasShip
set_option maxRecDepth 20000 in
theorem ggX7_calls_X7_refuse : GoodIn wsX7_calls wsX7_refuse := goodIn_r _ [12, 13, 14, 15, 65, 66, 67, 68, 69, 70, 71, 72, 73, 74, 75, 76, 77] (by decide +kernel) (by decide +kernel)
set_option maxRecDepth 20000 in
theorem gX7_calls_X7_refuse : GoodIn wsX7_calls (wsV RX7 81 RX7 yX7_refuse wsX7_refuse) := goodIn_app (goodIn_of _ (by decide +kernel)) ggX7_calls_X7_refuse
set_option maxRecDepth 20000 in
theorem ggX7_calls_X4_leastLiked : GoodIn wsX7_calls wsX4_leastLiked := goodIn_r _ [19, 20, 21, 22, 23, 24, 25, 3, 4, 5, 6, 7, 26, 27, 28, 29, 78, 79, 80, 81, 82, 83, 84, 85, 86, 87, 88] (by decide +kernel) (by decide +kernel)
set_option maxRecDepth 20000 in
theorem gX7_calls_X4_leastLiked : GoodIn wsX7_calls (wsV RX7 122 RX4 yX4_leastLiked wsX4_leastLiked) := goodIn_app (goodIn_of _ (by decide +kernel)) ggX7_calls_X4_leastLiked
set_option maxRecDepth 20000 in
theorem ggX7_calls_X4_remember : GoodIn wsX7_calls wsX4_remember := goodIn_r _ [33, 34, 24, 21, 35, 36, 37, 38, 39, 40, 41, 42, 43, 44, 45, 46, 47, 48, 49, 50, 51, 52, 53, 54, 55, 78, 79, 80, 81, 82, 83, 84, 85, 86, 87, 88, 89, 90, 91] (by decide +kernel) (by decide +kernel)
set_option maxRecDepth 20000 in
theorem gX7_calls_X4_remember : GoodIn wsX7_calls (wsV RX7 125 RX4 yX4_remember wsX4_remember) := goodIn_app (goodIn_of _ (by decide +kernel)) ggX7_calls_X4_remember
set_option maxRecDepth 20000 in
theorem ggX7_calls_X4_leaveOne : GoodIn wsX7_calls wsX4_leaveOne := goodIn_r _ [59, 21, 24, 60, 61, 62, 63, 64, 17, 18, 5, 19, 20, 22, 23, 25, 3, 4, 6, 7, 26, 27, 28, 29, 78, 79, 80, 81, 82, 83, 84, 85, 86, 87, 88] (by decide +kernel) (by decide +kernel)
set_option maxRecDepth 20000 in
theorem gX7_calls_X4_leaveOne : GoodIn wsX7_calls (wsV RX7 129 RX4 yX4_leaveOne wsX4_leaveOne) := goodIn_app (goodIn_of _ (by decide +kernel)) ggX7_calls_X4_leaveOne
theorem dX7_calls_0 : decode cX7_calls 0 = .ok (.aload_n 0, 1) := by decide +kernel
theorem dX7_calls_1 : decode cX7_calls 1 = .ok (.getfield 10, 3) := by decide +kernel
theorem dX7_calls_4 : decode cX7_calls 4 = .ok (.iload_n 1, 1) := by decide +kernel
theorem dX7_calls_5 : decode cX7_calls 5 = .ok (.invokevirtual 119, 3) := by decide +kernel
theorem dX7_calls_8 : decode cX7_calls 8 = .ok (.ifCond .ne 10, 3) := by decide +kernel
theorem dX7_calls_11 : decode cX7_calls 11 = .ok (.aload_n 0, 1) := by decide +kernel
theorem dX7_calls_12 : decode cX7_calls 12 = .ok (.bipush (-2), 2) := by decide +kernel
theorem dX7_calls_14 : decode cX7_calls 14 = .ok (.invokevirtual 81, 3) := by decide +kernel
theorem dX7_calls_17 : decode cX7_calls 17 = .ok (.ireturn, 1) := by decide +kernel
theorem dX7_calls_18 : decode cX7_calls 18 = .ok (.aload_n 0, 1) := by decide +kernel
theorem dX7_calls_19 : decode cX7_calls 19 = .ok (.getfield 10, 3) := by decide +kernel
theorem dX7_calls_22 : decode cX7_calls 22 = .ok (.iload_n 1, 1) := by decide +kernel
theorem dX7_calls_23 : decode cX7_calls 23 = .ok (.invokevirtual 122, 3) := by decide +kernel
theorem dX7_calls_26 : decode cX7_calls 26 = .ok (.istore_n 2, 1) := by decide +kernel
theorem dX7_calls_27 : decode cX7_calls 27 = .ok (.iload_n 2, 1) := by decide +kernel
theorem dX7_calls_28 : decode cX7_calls 28 = .ok (.iconst (-1), 1) := by decide +kernel
theorem dX7_calls_29 : decode cX7_calls 29 = .ok (.if_icmp .ne 10, 3) := by decide +kernel
theorem dX7_calls_32 : decode cX7_calls 32 = .ok (.aload_n 0, 1) := by decide +kernel
theorem dX7_calls_33 : decode cX7_calls 33 = .ok (.bipush (-3), 2) := by decide +kernel
theorem dX7_calls_35 : decode cX7_calls 35 = .ok (.invokevirtual 81, 3) := by decide +kernel
theorem dX7_calls_38 : decode cX7_calls 38 = .ok (.ireturn, 1) := by decide +kernel
theorem dX7_calls_39 : decode cX7_calls 39 = .ok (.aload_n 0, 1) := by decide +kernel
theorem dX7_calls_40 : decode cX7_calls 40 = .ok (.getfield 10, 3) := by decide +kernel
theorem dX7_calls_43 : decode cX7_calls 43 = .ok (.iload_n 1, 1) := by decide +kernel
theorem dX7_calls_44 : decode cX7_calls 44 = .ok (.iload_n 2, 1) := by decide +kernel
theorem dX7_calls_45 : decode cX7_calls 45 = .ok (.invokevirtual 125, 3) := by decide +kernel
theorem dX7_calls_48 : decode cX7_calls 48 = .ok (.aload_n 0, 1) := by decide +kernel
theorem dX7_calls_49 : decode cX7_calls 49 = .ok (.getfield 10, 3) := by decide +kernel
theorem dX7_calls_52 : decode cX7_calls 52 = .ok (.iload_n 1, 1) := by decide +kernel
theorem dX7_calls_53 : decode cX7_calls 53 = .ok (.invokevirtual 129, 3) := by decide +kernel
theorem dX7_calls_56 : decode cX7_calls 56 = .ok (.ireturn, 1) := by decide +kernel
set_option maxRecDepth 20000 in
theorem ggX7_boards_X4_hasShip : GoodIn wsX7_boards wsX4_hasShip := goodIn_r _ [7, 8, 82, 83, 84, 85, 86, 87, 88, 89, 90, 91, 92] (by decide +kernel) (by decide +kernel)
set_option maxRecDepth 20000 in
theorem gX7_boards_X4_hasShip : GoodIn wsX7_boards (wsV RX7 119 RX4 yX4_hasShip wsX4_hasShip) := goodIn_app (goodIn_of _ (by decide +kernel)) ggX7_boards_X4_hasShip
set_option maxRecDepth 20000 in
theorem ggX7_boards_X4_hasMan : GoodIn wsX7_boards wsX4_hasMan := goodIn_r _ [12, 13, 82, 83, 84, 85, 86, 87, 88, 89, 90, 91, 92] (by decide +kernel) (by decide +kernel)
set_option maxRecDepth 20000 in
theorem gX7_boards_X4_hasMan : GoodIn wsX7_boards (wsV RX7 132 RX4 yX4_hasMan wsX4_hasMan) := goodIn_app (goodIn_of _ (by decide +kernel)) ggX7_boards_X4_hasMan
set_option maxRecDepth 20000 in
theorem ggX7_boards_X7_refuse : GoodIn wsX7_boards wsX7_refuse := goodIn_r _ [18, 19, 20, 21, 69, 70, 71, 72, 73, 74, 75, 76, 77, 78, 79, 80, 81] (by decide +kernel) (by decide +kernel)
set_option maxRecDepth 20000 in
theorem gX7_boards_X7_refuse : GoodIn wsX7_boards (wsV RX7 81 RX7 yX7_refuse wsX7_refuse) := goodIn_app (goodIn_of _ (by decide +kernel)) ggX7_boards_X7_refuse
set_option maxRecDepth 20000 in
theorem ggX7_boards_X4_remember : GoodIn wsX7_boards wsX4_remember := goodIn_r _ [25, 26, 27, 28, 29, 30, 31, 32, 33, 34, 35, 36, 37, 38, 39, 40, 41, 42, 43, 44, 45, 46, 47, 48, 49, 82, 83, 84, 85, 86, 87, 88, 89, 90, 91, 92, 93, 94, 95] (by decide +kernel) (by decide +kernel)
set_option maxRecDepth 20000 in
theorem gX7_boards_X4_remember : GoodIn wsX7_boards (wsV RX7 125 RX4 yX4_remember wsX4_remember) := goodIn_app (goodIn_of _ (by decide +kernel)) ggX7_boards_X4_remember
set_option maxRecDepth 20000 in
theorem ggX7_boards_X4_takeAboard : GoodIn wsX7_boards wsX4_takeAboard := goodIn_r _ [53, 28, 82, 83, 84, 85, 86, 87, 88, 89, 90, 91, 92] (by decide +kernel) (by decide +kernel)
set_option maxRecDepth 20000 in
theorem gX7_boards_X4_takeAboard : GoodIn wsX7_boards (wsV RX7 139 RX4 yX4_takeAboard wsX4_takeAboard) := goodIn_app (goodIn_of _ (by decide +kernel)) ggX7_boards_X4_takeAboard
set_option maxRecDepth 20000 in
theorem ggX7_boards_X4_menAt : GoodIn wsX7_boards wsX4_menAt := goodIn_r _ [57, 58, 59, 60, 6, 61, 13, 28, 62, 63, 64, 65, 66, 67, 68, 82, 83, 84, 85, 86, 87, 88, 89, 90, 91, 92] (by decide +kernel) (by decide +kernel)
set_option maxRecDepth 20000 in
theorem gX7_boards_X4_menAt : GoodIn wsX7_boards (wsV RX7 142 RX4 yX4_menAt wsX4_menAt) := goodIn_app (goodIn_of _ (by decide +kernel)) ggX7_boards_X4_menAt
theorem dX7_boards_0 : decode cX7_boards 0 = .ok (.aload_n 0, 1) := by decide +kernel
theorem dX7_boards_1 : decode cX7_boards 1 = .ok (.getfield 10, 3) := by decide +kernel
theorem dX7_boards_4 : decode cX7_boards 4 = .ok (.iload_n 1, 1) := by decide +kernel
theorem dX7_boards_5 : decode cX7_boards 5 = .ok (.invokevirtual 119, 3) := by decide +kernel
theorem dX7_boards_8 : decode cX7_boards 8 = .ok (.ifCond .eq 14, 3) := by decide +kernel
theorem dX7_boards_11 : decode cX7_boards 11 = .ok (.aload_n 0, 1) := by decide +kernel
theorem dX7_boards_12 : decode cX7_boards 12 = .ok (.getfield 10, 3) := by decide +kernel
theorem dX7_boards_15 : decode cX7_boards 15 = .ok (.iload_n 2, 1) := by decide +kernel
theorem dX7_boards_16 : decode cX7_boards 16 = .ok (.invokevirtual 132, 3) := by decide +kernel
theorem dX7_boards_19 : decode cX7_boards 19 = .ok (.ifCond .ne 10, 3) := by decide +kernel
theorem dX7_boards_22 : decode cX7_boards 22 = .ok (.aload_n 0, 1) := by decide +kernel
theorem dX7_boards_23 : decode cX7_boards 23 = .ok (.bipush (-2), 2) := by decide +kernel
theorem dX7_boards_25 : decode cX7_boards 25 = .ok (.invokevirtual 81, 3) := by decide +kernel
theorem dX7_boards_28 : decode cX7_boards 28 = .ok (.ireturn, 1) := by decide +kernel
theorem dX7_boards_29 : decode cX7_boards 29 = .ok (.aload_n 0, 1) := by decide +kernel
theorem dX7_boards_30 : decode cX7_boards 30 = .ok (.getfield 10, 3) := by decide +kernel
theorem dX7_boards_33 : decode cX7_boards 33 = .ok (.getfield 135, 3) := by decide +kernel
theorem dX7_boards_36 : decode cX7_boards 36 = .ok (.iload_n 2, 1) := by decide +kernel
theorem dX7_boards_37 : decode cX7_boards 37 = .ok (.iaload, 1) := by decide +kernel
theorem dX7_boards_38 : decode cX7_boards 38 = .ok (.iconst (-1), 1) := by decide +kernel
theorem dX7_boards_39 : decode cX7_boards 39 = .ok (.if_icmp .eq 10, 3) := by decide +kernel
theorem dX7_boards_42 : decode cX7_boards 42 = .ok (.aload_n 0, 1) := by decide +kernel
theorem dX7_boards_43 : decode cX7_boards 43 = .ok (.bipush (-3), 2) := by decide +kernel
theorem dX7_boards_45 : decode cX7_boards 45 = .ok (.invokevirtual 81, 3) := by decide +kernel
theorem dX7_boards_48 : decode cX7_boards 48 = .ok (.ireturn, 1) := by decide +kernel
theorem dX7_boards_49 : decode cX7_boards 49 = .ok (.aload_n 0, 1) := by decide +kernel
theorem dX7_boards_50 : decode cX7_boards 50 = .ok (.getfield 10, 3) := by decide +kernel
theorem dX7_boards_53 : decode cX7_boards 53 = .ok (.iload_n 1, 1) := by decide +kernel
theorem dX7_boards_54 : decode cX7_boards 54 = .ok (.iload_n 2, 1) := by decide +kernel
theorem dX7_boards_55 : decode cX7_boards 55 = .ok (.invokevirtual 125, 3) := by decide +kernel
theorem dX7_boards_58 : decode cX7_boards 58 = .ok (.aload_n 0, 1) := by decide +kernel
theorem dX7_boards_59 : decode cX7_boards 59 = .ok (.getfield 10, 3) := by decide +kernel
theorem dX7_boards_62 : decode cX7_boards 62 = .ok (.iload_n 1, 1) := by decide +kernel
theorem dX7_boards_63 : decode cX7_boards 63 = .ok (.iload_n 2, 1) := by decide +kernel
theorem dX7_boards_64 : decode cX7_boards 64 = .ok (.invokevirtual 139, 3) := by decide +kernel
theorem dX7_boards_67 : decode cX7_boards 67 = .ok (.aload_n 0, 1) := by decide +kernel
theorem dX7_boards_68 : decode cX7_boards 68 = .ok (.getfield 10, 3) := by decide +kernel
theorem dX7_boards_71 : decode cX7_boards 71 = .ok (.iload_n 1, 1) := by decide +kernel
theorem dX7_boards_72 : decode cX7_boards 72 = .ok (.invokevirtual 142, 3) := by decide +kernel
theorem dX7_boards_75 : decode cX7_boards 75 = .ok (.ireturn, 1) := by decide +kernel
set_option maxRecDepth 20000 in
theorem ggX7_undo_X2_size : GoodIn wsX7_undo wsX2_size := goodIn_r _ [7, 8, 84, 85, 86] (by decide +kernel) (by decide +kernel)
set_option maxRecDepth 20000 in
theorem gX7_undo_X2_size : GoodIn wsX7_undo (wsV RX7 149 RX2 yX2_size wsX2_size) := goodIn_app (goodIn_of _ (by decide +kernel)) ggX7_undo_X2_size
set_option maxRecDepth 20000 in
theorem ggX7_undo_X7_refuse : GoodIn wsX7_undo wsX7_refuse := goodIn_r _ [13, 14, 15, 16, 60, 61, 62, 63, 64, 65, 66, 67, 68, 69, 70, 71, 72] (by decide +kernel) (by decide +kernel)
set_option maxRecDepth 20000 in
theorem gX7_undo_X7_refuse : GoodIn wsX7_undo (wsV RX7 81 RX7 yX7_refuse wsX7_refuse) := goodIn_app (goodIn_of _ (by decide +kernel)) ggX7_undo_X7_refuse
set_option maxRecDepth 20000 in
theorem ggX7_undo_X4_takeBack : GoodIn wsX7_undo wsX4_takeBack := goodIn_r _ [21, 22, 23, 24, 25, 4, 5, 6, 7, 8, 26, 27, 28, 29, 30, 31, 32, 33, 20, 34, 35, 36, 37, 38, 39, 40, 41, 42, 43, 44, 73, 74, 75, 76, 77, 78, 79, 80, 81, 82, 83, 84, 85, 86] (by decide +kernel) (by decide +kernel)
set_option maxRecDepth 20000 in
theorem gX7_undo_X4_takeBack : GoodIn wsX7_undo (wsV RX7 152 RX4 yX4_takeBack wsX4_takeBack) := goodIn_app (goodIn_of _ (by decide +kernel)) ggX7_undo_X4_takeBack
set_option maxRecDepth 20000 in
theorem ggX7_undo_X4_menAt : GoodIn wsX7_undo wsX4_menAt := goodIn_r _ [48, 49, 50, 51, 20, 52, 40, 24, 53, 54, 55, 56, 57, 58, 59, 73, 74, 75, 76, 77, 78, 79, 80, 81, 82, 83] (by decide +kernel) (by decide +kernel)
set_option maxRecDepth 20000 in
theorem gX7_undo_X4_menAt : GoodIn wsX7_undo (wsV RX7 142 RX4 yX4_menAt wsX4_menAt) := goodIn_app (goodIn_of _ (by decide +kernel)) ggX7_undo_X4_menAt
theorem dX7_undo_0 : decode cX7_undo 0 = .ok (.aload_n 0, 1) := by decide +kernel
theorem dX7_undo_1 : decode cX7_undo 1 = .ok (.getfield 10, 3) := by decide +kernel
theorem dX7_undo_4 : decode cX7_undo 4 = .ok (.getfield 145, 3) := by decide +kernel
theorem dX7_undo_7 : decode cX7_undo 7 = .ok (.invokevirtual 149, 3) := by decide +kernel
theorem dX7_undo_10 : decode cX7_undo 10 = .ok (.ifCond .ne 10, 3) := by decide +kernel
theorem dX7_undo_13 : decode cX7_undo 13 = .ok (.aload_n 0, 1) := by decide +kernel
theorem dX7_undo_14 : decode cX7_undo 14 = .ok (.bipush (-3), 2) := by decide +kernel
theorem dX7_undo_16 : decode cX7_undo 16 = .ok (.invokevirtual 81, 3) := by decide +kernel
theorem dX7_undo_19 : decode cX7_undo 19 = .ok (.ireturn, 1) := by decide +kernel
theorem dX7_undo_20 : decode cX7_undo 20 = .ok (.aload_n 0, 1) := by decide +kernel
theorem dX7_undo_21 : decode cX7_undo 21 = .ok (.getfield 10, 3) := by decide +kernel
theorem dX7_undo_24 : decode cX7_undo 24 = .ok (.invokevirtual 152, 3) := by decide +kernel
theorem dX7_undo_27 : decode cX7_undo 27 = .ok (.aload_n 0, 1) := by decide +kernel
theorem dX7_undo_28 : decode cX7_undo 28 = .ok (.getfield 10, 3) := by decide +kernel
theorem dX7_undo_31 : decode cX7_undo 31 = .ok (.iconst (-1), 1) := by decide +kernel
theorem dX7_undo_32 : decode cX7_undo 32 = .ok (.invokevirtual 142, 3) := by decide +kernel
theorem dX7_undo_35 : decode cX7_undo 35 = .ok (.ireturn, 1) := by decide +kernel
set_option maxRecDepth 20000 in
theorem ggX7_of_X4_hasMan : GoodIn wsX7_of wsX4_hasMan := goodIn_r _ [9, 10, 49, 50, 51, 52, 53, 54, 55, 56, 57, 58, 59] (by decide +kernel) (by decide +kernel)
set_option maxRecDepth 20000 in
theorem gX7_of_X4_hasMan : GoodIn wsX7_of (wsV RX7 132 RX4 yX4_hasMan wsX4_hasMan) := goodIn_app (goodIn_of _ (by decide +kernel)) ggX7_of_X4_hasMan
set_option maxRecDepth 20000 in
theorem ggX7_of_X7_refuse : GoodIn wsX7_of wsX7_refuse := goodIn_r _ [15, 16, 17, 18, 36, 37, 38, 39, 40, 41, 42, 43, 44, 45, 46, 47, 48] (by decide +kernel) (by decide +kernel)
set_option maxRecDepth 20000 in
theorem gX7_of_X7_refuse : GoodIn wsX7_of (wsV RX7 81 RX7 yX7_refuse wsX7_refuse) := goodIn_app (goodIn_of _ (by decide +kernel)) ggX7_of_X7_refuse
set_option maxRecDepth 20000 in
theorem ggX7_of_X4_liking : GoodIn wsX7_of wsX4_liking := goodIn_r _ [22, 23, 24, 25, 26, 27, 28, 29, 8, 30, 31, 32, 33, 34, 35, 49, 50, 51, 52, 53, 54, 55, 56, 57, 58, 59] (by decide +kernel) (by decide +kernel)
set_option maxRecDepth 20000 in
theorem gX7_of_X4_liking : GoodIn wsX7_of (wsV RX7 161 RX4 yX4_liking wsX4_liking) := goodIn_app (goodIn_of _ (by decide +kernel)) ggX7_of_X4_liking
theorem dX7_of_0 : decode cX7_of 0 = .ok (.aload_n 0, 1) := by decide +kernel
theorem dX7_of_1 : decode cX7_of 1 = .ok (.getfield 10, 3) := by decide +kernel
theorem dX7_of_4 : decode cX7_of 4 = .ok (.iload_n 1, 1) := by decide +kernel
theorem dX7_of_5 : decode cX7_of 5 = .ok (.invokevirtual 132, 3) := by decide +kernel
theorem dX7_of_8 : decode cX7_of 8 = .ok (.ifCond .ne 10, 3) := by decide +kernel
theorem dX7_of_11 : decode cX7_of 11 = .ok (.aload_n 0, 1) := by decide +kernel
theorem dX7_of_12 : decode cX7_of 12 = .ok (.bipush (-2), 2) := by decide +kernel
theorem dX7_of_14 : decode cX7_of 14 = .ok (.invokevirtual 81, 3) := by decide +kernel
theorem dX7_of_17 : decode cX7_of 17 = .ok (.ireturn, 1) := by decide +kernel
theorem dX7_of_18 : decode cX7_of 18 = .ok (.iload_n 2, 1) := by decide +kernel
theorem dX7_of_19 : decode cX7_of 19 = .ok (.tableswitch 68 0 3 #[29, 39, 49, 59], 29) := by decide +kernel
theorem dX7_of_48 : decode cX7_of 48 = .ok (.aload_n 0, 1) := by decide +kernel
theorem dX7_of_49 : decode cX7_of 49 = .ok (.getfield 10, 3) := by decide +kernel
theorem dX7_of_52 : decode cX7_of 52 = .ok (.getfield 155, 3) := by decide +kernel
theorem dX7_of_55 : decode cX7_of 55 = .ok (.iload_n 1, 1) := by decide +kernel
theorem dX7_of_56 : decode cX7_of 56 = .ok (.iaload, 1) := by decide +kernel
theorem dX7_of_57 : decode cX7_of 57 = .ok (.ireturn, 1) := by decide +kernel
theorem dX7_of_58 : decode cX7_of 58 = .ok (.aload_n 0, 1) := by decide +kernel
theorem dX7_of_59 : decode cX7_of 59 = .ok (.getfield 10, 3) := by decide +kernel
theorem dX7_of_62 : decode cX7_of 62 = .ok (.getfield 158, 3) := by decide +kernel
theorem dX7_of_65 : decode cX7_of 65 = .ok (.iload_n 1, 1) := by decide +kernel
theorem dX7_of_66 : decode cX7_of 66 = .ok (.iaload, 1) := by decide +kernel
theorem dX7_of_67 : decode cX7_of 67 = .ok (.ireturn, 1) := by decide +kernel
theorem dX7_of_68 : decode cX7_of 68 = .ok (.aload_n 0, 1) := by decide +kernel
theorem dX7_of_69 : decode cX7_of 69 = .ok (.getfield 10, 3) := by decide +kernel
theorem dX7_of_72 : decode cX7_of 72 = .ok (.getfield 135, 3) := by decide +kernel
theorem dX7_of_75 : decode cX7_of 75 = .ok (.iload_n 1, 1) := by decide +kernel
theorem dX7_of_76 : decode cX7_of 76 = .ok (.iaload, 1) := by decide +kernel
theorem dX7_of_77 : decode cX7_of 77 = .ok (.ireturn, 1) := by decide +kernel
theorem dX7_of_78 : decode cX7_of 78 = .ok (.aload_n 0, 1) := by decide +kernel
theorem dX7_of_79 : decode cX7_of 79 = .ok (.getfield 10, 3) := by decide +kernel
theorem dX7_of_82 : decode cX7_of 82 = .ok (.iload_n 1, 1) := by decide +kernel
theorem dX7_of_83 : decode cX7_of 83 = .ok (.invokevirtual 161, 3) := by decide +kernel
theorem dX7_of_86 : decode cX7_of 86 = .ok (.ireturn, 1) := by decide +kernel
theorem dX7_of_87 : decode cX7_of 87 = .ok (.aload_n 0, 1) := by decide +kernel
theorem dX7_of_88 : decode cX7_of 88 = .ok (.bipush (-2), 2) := by decide +kernel
theorem dX7_of_90 : decode cX7_of 90 = .ok (.invokevirtual 81, 3) := by decide +kernel
theorem dX7_of_93 : decode cX7_of 93 = .ok (.ireturn, 1) := by decide +kernel
set_option maxRecDepth 20000 in
theorem ggX7_about_X4_hasShip : GoodIn wsX7_about wsX4_hasShip := goodIn_r _ [8, 9, 42, 43, 44, 45, 46, 47, 48, 49, 50, 51, 52] (by decide +kernel) (by decide +kernel)
set_option maxRecDepth 20000 in
theorem gX7_about_X4_hasShip : GoodIn wsX7_about (wsV RX7 119 RX4 yX4_hasShip wsX4_hasShip) := goodIn_app (goodIn_of _ (by decide +kernel)) ggX7_about_X4_hasShip
set_option maxRecDepth 20000 in
theorem ggX7_about_X7_refuse : GoodIn wsX7_about wsX7_refuse := goodIn_r _ [14, 15, 16, 17, 29, 30, 31, 32, 33, 34, 35, 36, 37, 38, 39, 40, 41] (by decide +kernel) (by decide +kernel)
set_option maxRecDepth 20000 in
theorem gX7_about_X7_refuse : GoodIn wsX7_about (wsV RX7 81 RX7 yX7_refuse wsX7_refuse) := goodIn_app (goodIn_of _ (by decide +kernel)) ggX7_about_X7_refuse
set_option maxRecDepth 20000 in
theorem ggX7_about_X4_bitsAt : GoodIn wsX7_about wsX4_bitsAt := goodIn_r _ [21, 22, 23, 42, 43, 44, 45, 46, 47, 48, 49, 50, 51, 52] (by decide +kernel) (by decide +kernel)
set_option maxRecDepth 20000 in
theorem gX7_about_X4_bitsAt : GoodIn wsX7_about (wsV RX7 170 RX4 yX4_bitsAt wsX4_bitsAt) := goodIn_app (goodIn_of _ (by decide +kernel)) ggX7_about_X4_bitsAt
set_option maxRecDepth 20000 in
theorem ggX7_about_X4_skillsAt : GoodIn wsX7_about wsX4_skillsAt := goodIn_r _ [27, 22, 23, 28, 42, 43, 44, 45, 46, 47, 48, 49, 50, 51, 52] (by decide +kernel) (by decide +kernel)
set_option maxRecDepth 20000 in
theorem gX7_about_X4_skillsAt : GoodIn wsX7_about (wsV RX7 173 RX4 yX4_skillsAt wsX4_skillsAt) := goodIn_app (goodIn_of _ (by decide +kernel)) ggX7_about_X4_skillsAt
theorem dX7_about_0 : decode cX7_about 0 = .ok (.aload_n 0, 1) := by decide +kernel
theorem dX7_about_1 : decode cX7_about 1 = .ok (.getfield 10, 3) := by decide +kernel
theorem dX7_about_4 : decode cX7_about 4 = .ok (.iload_n 1, 1) := by decide +kernel
theorem dX7_about_5 : decode cX7_about 5 = .ok (.invokevirtual 119, 3) := by decide +kernel
theorem dX7_about_8 : decode cX7_about 8 = .ok (.ifCond .ne 10, 3) := by decide +kernel
theorem dX7_about_11 : decode cX7_about 11 = .ok (.aload_n 0, 1) := by decide +kernel
theorem dX7_about_12 : decode cX7_about 12 = .ok (.bipush (-2), 2) := by decide +kernel
theorem dX7_about_14 : decode cX7_about 14 = .ok (.invokevirtual 81, 3) := by decide +kernel
theorem dX7_about_17 : decode cX7_about 17 = .ok (.ireturn, 1) := by decide +kernel
theorem dX7_about_18 : decode cX7_about 18 = .ok (.iload_n 2, 1) := by decide +kernel
theorem dX7_about_19 : decode cX7_about 19 = .ok (.tableswitch 67 0 3 #[29, 39, 49, 58], 29) := by decide +kernel
theorem dX7_about_48 : decode cX7_about 48 = .ok (.aload_n 0, 1) := by decide +kernel
theorem dX7_about_49 : decode cX7_about 49 = .ok (.getfield 10, 3) := by decide +kernel
theorem dX7_about_52 : decode cX7_about 52 = .ok (.getfield 164, 3) := by decide +kernel
theorem dX7_about_55 : decode cX7_about 55 = .ok (.iload_n 1, 1) := by decide +kernel
theorem dX7_about_56 : decode cX7_about 56 = .ok (.iaload, 1) := by decide +kernel
theorem dX7_about_57 : decode cX7_about 57 = .ok (.ireturn, 1) := by decide +kernel
theorem dX7_about_58 : decode cX7_about 58 = .ok (.aload_n 0, 1) := by decide +kernel
theorem dX7_about_59 : decode cX7_about 59 = .ok (.getfield 10, 3) := by decide +kernel
theorem dX7_about_62 : decode cX7_about 62 = .ok (.getfield 167, 3) := by decide +kernel
theorem dX7_about_65 : decode cX7_about 65 = .ok (.iload_n 1, 1) := by decide +kernel
theorem dX7_about_66 : decode cX7_about 66 = .ok (.iaload, 1) := by decide +kernel
theorem dX7_about_67 : decode cX7_about 67 = .ok (.ireturn, 1) := by decide +kernel
theorem dX7_about_68 : decode cX7_about 68 = .ok (.aload_n 0, 1) := by decide +kernel
theorem dX7_about_69 : decode cX7_about 69 = .ok (.getfield 10, 3) := by decide +kernel
theorem dX7_about_72 : decode cX7_about 72 = .ok (.iload_n 1, 1) := by decide +kernel
theorem dX7_about_73 : decode cX7_about 73 = .ok (.invokevirtual 170, 3) := by decide +kernel
theorem dX7_about_76 : decode cX7_about 76 = .ok (.ireturn, 1) := by decide +kernel
theorem dX7_about_77 : decode cX7_about 77 = .ok (.aload_n 0, 1) := by decide +kernel
theorem dX7_about_78 : decode cX7_about 78 = .ok (.getfield 10, 3) := by decide +kernel
theorem dX7_about_81 : decode cX7_about 81 = .ok (.iload_n 1, 1) := by decide +kernel
theorem dX7_about_82 : decode cX7_about 82 = .ok (.invokevirtual 173, 3) := by decide +kernel
theorem dX7_about_85 : decode cX7_about 85 = .ok (.ireturn, 1) := by decide +kernel
theorem dX7_about_86 : decode cX7_about 86 = .ok (.aload_n 0, 1) := by decide +kernel
theorem dX7_about_87 : decode cX7_about 87 = .ok (.bipush (-2), 2) := by decide +kernel
theorem dX7_about_89 : decode cX7_about 89 = .ok (.invokevirtual 81, 3) := by decide +kernel
theorem dX7_about_92 : decode cX7_about 92 = .ok (.ireturn, 1) := by decide +kernel
set_option maxRecDepth 20000 in
theorem ggX7_left_X4_hasShip : GoodIn wsX7_left wsX4_hasShip := goodIn_r _ [6, 7, 43, 44, 45, 46, 47, 48, 49, 50, 51, 52, 53] (by decide +kernel) (by decide +kernel)
set_option maxRecDepth 20000 in
theorem gX7_left_X4_hasShip : GoodIn wsX7_left (wsV RX7 119 RX4 yX4_hasShip wsX4_hasShip) := goodIn_app (goodIn_of _ (by decide +kernel)) ggX7_left_X4_hasShip
set_option maxRecDepth 20000 in
theorem ggX7_left_X4_leastLiked : GoodIn wsX7_left wsX4_leastLiked := goodIn_r _ [11, 12, 13, 14, 15, 16, 17, 3, 4, 5, 6, 7, 18, 19, 20, 21, 43, 44, 45, 46, 47, 48, 49, 50, 51, 52, 53] (by decide +kernel) (by decide +kernel)
set_option maxRecDepth 20000 in
theorem gX7_left_X4_leastLiked : GoodIn wsX7_left (wsV RX7 122 RX4 yX4_leastLiked wsX4_leastLiked) := goodIn_app (goodIn_of _ (by decide +kernel)) ggX7_left_X4_leastLiked
set_option maxRecDepth 20000 in
theorem ggX7_left_X7_refuse : GoodIn wsX7_left wsX7_refuse := goodIn_r _ [26, 27, 28, 29, 30, 31, 32, 33, 34, 35, 36, 37, 38, 39, 40, 41, 42] (by decide +kernel) (by decide +kernel)
set_option maxRecDepth 20000 in
theorem gX7_left_X7_refuse : GoodIn wsX7_left (wsV RX7 81 RX7 yX7_refuse wsX7_refuse) := goodIn_app (goodIn_of _ (by decide +kernel)) ggX7_left_X7_refuse
theorem dX7_left_0 : decode cX7_left 0 = .ok (.aload_n 0, 1) := by decide +kernel
theorem dX7_left_1 : decode cX7_left 1 = .ok (.getfield 10, 3) := by decide +kernel
theorem dX7_left_4 : decode cX7_left 4 = .ok (.iload_n 1, 1) := by decide +kernel
theorem dX7_left_5 : decode cX7_left 5 = .ok (.invokevirtual 119, 3) := by decide +kernel
theorem dX7_left_8 : decode cX7_left 8 = .ok (.ifCond .eq 14, 3) := by decide +kernel
theorem dX7_left_11 : decode cX7_left 11 = .ok (.aload_n 0, 1) := by decide +kernel
theorem dX7_left_12 : decode cX7_left 12 = .ok (.getfield 10, 3) := by decide +kernel
theorem dX7_left_15 : decode cX7_left 15 = .ok (.iload_n 1, 1) := by decide +kernel
theorem dX7_left_16 : decode cX7_left 16 = .ok (.invokevirtual 122, 3) := by decide +kernel
theorem dX7_left_19 : decode cX7_left 19 = .ok (.goto 9, 3) := by decide +kernel
theorem dX7_left_22 : decode cX7_left 22 = .ok (.aload_n 0, 1) := by decide +kernel
theorem dX7_left_23 : decode cX7_left 23 = .ok (.bipush (-2), 2) := by decide +kernel
theorem dX7_left_25 : decode cX7_left 25 = .ok (.invokevirtual 81, 3) := by decide +kernel
theorem dX7_left_28 : decode cX7_left 28 = .ok (.ireturn, 1) := by decide +kernel
set_option maxRecDepth 20000 in
theorem ggX7_needs_X4_hasShip : GoodIn wsX7_needs wsX4_hasShip := goodIn_r _ [7, 8, 57, 58, 59, 60, 61, 62, 63, 64, 65, 66, 67] (by decide +kernel) (by decide +kernel)
set_option maxRecDepth 20000 in
theorem gX7_needs_X4_hasShip : GoodIn wsX7_needs (wsV RX7 119 RX4 yX4_hasShip wsX4_hasShip) := goodIn_app (goodIn_of _ (by decide +kernel)) ggX7_needs_X4_hasShip
set_option maxRecDepth 20000 in
theorem ggX7_needs_X7_isDistance : GoodIn wsX7_needs wsX7_isDistance := goodIn_r _ [12, 13, 14, 11, 15] (by decide +kernel) (by decide +kernel)
set_option maxRecDepth 20000 in
theorem gX7_needs_X7_isDistance : GoodIn wsX7_needs (va_wsS RX7 176 yX7_isDistance wsX7_isDistance) := goodIn_app (goodIn_of _ (by decide +kernel)) ggX7_needs_X7_isDistance
set_option maxRecDepth 20000 in
theorem ggX7_needs_X7_refuse : GoodIn wsX7_needs wsX7_refuse := goodIn_r _ [19, 20, 21, 22, 44, 45, 46, 47, 48, 49, 50, 51, 52, 53, 54, 55, 56] (by decide +kernel) (by decide +kernel)
set_option maxRecDepth 20000 in
theorem gX7_needs_X7_refuse : GoodIn wsX7_needs (wsV RX7 81 RX7 yX7_refuse wsX7_refuse) := goodIn_app (goodIn_of _ (by decide +kernel)) ggX7_needs_X7_refuse
set_option maxRecDepth 20000 in
theorem ggX7_needs_X4_menAt : GoodIn wsX7_needs wsX4_menAt := goodIn_r _ [26, 27, 28, 29, 6, 30, 31, 32, 33, 34, 35, 36, 37, 38, 39, 57, 58, 59, 60, 61, 62, 63, 64, 65, 66, 67] (by decide +kernel) (by decide +kernel)
set_option maxRecDepth 20000 in
theorem gX7_needs_X4_menAt : GoodIn wsX7_needs (wsV RX7 142 RX4 yX4_menAt wsX4_menAt) := goodIn_app (goodIn_of _ (by decide +kernel)) ggX7_needs_X4_menAt
set_option maxRecDepth 20000 in
theorem ggX7_needs_X5_need : GoodIn wsX7_needs wsX5_need := goodIn_r _ [43] (by decide +kernel) (by decide +kernel)
set_option maxRecDepth 20000 in
theorem gX7_needs_X5_need : GoodIn wsX7_needs (va_wsS RX7 179 yX5_need wsX5_need) := goodIn_app (goodIn_of _ (by decide +kernel)) ggX7_needs_X5_need
theorem dX7_needs_0 : decode cX7_needs 0 = .ok (.aload_n 0, 1) := by decide +kernel
theorem dX7_needs_1 : decode cX7_needs 1 = .ok (.getfield 10, 3) := by decide +kernel
theorem dX7_needs_4 : decode cX7_needs 4 = .ok (.iload_n 1, 1) := by decide +kernel
theorem dX7_needs_5 : decode cX7_needs 5 = .ok (.invokevirtual 119, 3) := by decide +kernel
theorem dX7_needs_8 : decode cX7_needs 8 = .ok (.ifCond .eq 10, 3) := by decide +kernel
theorem dX7_needs_11 : decode cX7_needs 11 = .ok (.iload_n 2, 1) := by decide +kernel
theorem dX7_needs_12 : decode cX7_needs 12 = .ok (.invokestatic 176, 3) := by decide +kernel
theorem dX7_needs_15 : decode cX7_needs 15 = .ok (.ifCond .ne 10, 3) := by decide +kernel
theorem dX7_needs_18 : decode cX7_needs 18 = .ok (.aload_n 0, 1) := by decide +kernel
theorem dX7_needs_19 : decode cX7_needs 19 = .ok (.bipush (-2), 2) := by decide +kernel
theorem dX7_needs_21 : decode cX7_needs 21 = .ok (.invokevirtual 81, 3) := by decide +kernel
theorem dX7_needs_24 : decode cX7_needs 24 = .ok (.ireturn, 1) := by decide +kernel
theorem dX7_needs_25 : decode cX7_needs 25 = .ok (.aload_n 0, 1) := by decide +kernel
theorem dX7_needs_26 : decode cX7_needs 26 = .ok (.getfield 10, 3) := by decide +kernel
theorem dX7_needs_29 : decode cX7_needs 29 = .ok (.getfield 164, 3) := by decide +kernel
theorem dX7_needs_32 : decode cX7_needs 32 = .ok (.iload_n 1, 1) := by decide +kernel
theorem dX7_needs_33 : decode cX7_needs 33 = .ok (.iaload, 1) := by decide +kernel
theorem dX7_needs_34 : decode cX7_needs 34 = .ok (.iload_n 2, 1) := by decide +kernel
theorem dX7_needs_35 : decode cX7_needs 35 = .ok (.aload_n 0, 1) := by decide +kernel
theorem dX7_needs_36 : decode cX7_needs 36 = .ok (.getfield 10, 3) := by decide +kernel
theorem dX7_needs_39 : decode cX7_needs 39 = .ok (.iload_n 1, 1) := by decide +kernel
theorem dX7_needs_40 : decode cX7_needs 40 = .ok (.invokevirtual 142, 3) := by decide +kernel
theorem dX7_needs_43 : decode cX7_needs 43 = .ok (.invokestatic 179, 3) := by decide +kernel
theorem dX7_needs_46 : decode cX7_needs 46 = .ok (.ireturn, 1) := by decide +kernel
set_option maxRecDepth 20000 in
theorem ggX7_far_X4_hasShip : GoodIn wsX7_far wsX4_hasShip := goodIn_r _ [6, 7, 61, 62, 63, 64, 65, 66, 67, 68, 69, 70, 71] (by decide +kernel) (by decide +kernel)
set_option maxRecDepth 20000 in
theorem gX7_far_X4_hasShip : GoodIn wsX7_far (wsV RX7 119 RX4 yX4_hasShip wsX4_hasShip) := goodIn_app (goodIn_of _ (by decide +kernel)) ggX7_far_X4_hasShip
set_option maxRecDepth 20000 in
theorem ggX7_far_X7_refuse : GoodIn wsX7_far wsX7_refuse := goodIn_r _ [12, 13, 14, 15, 48, 49, 50, 51, 52, 53, 54, 55, 56, 57, 58, 59, 60] (by decide +kernel) (by decide +kernel)
set_option maxRecDepth 20000 in
theorem gX7_far_X7_refuse : GoodIn wsX7_far (wsV RX7 81 RX7 yX7_refuse wsX7_refuse) := goodIn_app (goodIn_of _ (by decide +kernel)) ggX7_far_X7_refuse
set_option maxRecDepth 20000 in
theorem ggX7_far_X4_canSail : GoodIn wsX7_far wsX4_canSail := goodIn_r _ [19, 20, 21, 22, 23, 5, 24, 25, 26, 27, 28, 29, 30, 31, 32, 33, 34, 35, 36, 37, 38, 3, 4, 6, 7, 39, 40, 41, 42, 43, 44, 45, 46, 47, 61, 62, 63, 64, 65, 66, 67, 68, 69, 70, 71] (by decide +kernel) (by decide +kernel)
set_option maxRecDepth 20000 in
theorem gX7_far_X4_canSail : GoodIn wsX7_far (wsV RX7 184 RX4 yX4_canSail wsX4_canSail) := goodIn_app (goodIn_of _ (by decide +kernel)) ggX7_far_X4_canSail
theorem dX7_far_0 : decode cX7_far 0 = .ok (.aload_n 0, 1) := by decide +kernel
theorem dX7_far_1 : decode cX7_far 1 = .ok (.getfield 10, 3) := by decide +kernel
theorem dX7_far_4 : decode cX7_far 4 = .ok (.iload_n 1, 1) := by decide +kernel
theorem dX7_far_5 : decode cX7_far 5 = .ok (.invokevirtual 119, 3) := by decide +kernel
theorem dX7_far_8 : decode cX7_far 8 = .ok (.ifCond .ne 10, 3) := by decide +kernel
theorem dX7_far_11 : decode cX7_far 11 = .ok (.aload_n 0, 1) := by decide +kernel
theorem dX7_far_12 : decode cX7_far 12 = .ok (.bipush (-2), 2) := by decide +kernel
theorem dX7_far_14 : decode cX7_far 14 = .ok (.invokevirtual 81, 3) := by decide +kernel
theorem dX7_far_17 : decode cX7_far 17 = .ok (.ireturn, 1) := by decide +kernel
theorem dX7_far_18 : decode cX7_far 18 = .ok (.bipush 30, 2) := by decide +kernel
theorem dX7_far_20 : decode cX7_far 20 = .ok (.istore_n 2, 1) := by decide +kernel
theorem dX7_far_21 : decode cX7_far 21 = .ok (.iload_n 2, 1) := by decide +kernel
theorem dX7_far_22 : decode cX7_far 22 = .ok (.ifCond .le 21, 3) := by decide +kernel
theorem dX7_far_25 : decode cX7_far 25 = .ok (.aload_n 0, 1) := by decide +kernel
theorem dX7_far_26 : decode cX7_far 26 = .ok (.getfield 10, 3) := by decide +kernel
theorem dX7_far_29 : decode cX7_far 29 = .ok (.iload_n 1, 1) := by decide +kernel
theorem dX7_far_30 : decode cX7_far 30 = .ok (.iload_n 2, 1) := by decide +kernel
theorem dX7_far_31 : decode cX7_far 31 = .ok (.invokevirtual 184, 3) := by decide +kernel
theorem dX7_far_34 : decode cX7_far 34 = .ok (.ifCond .ne 9, 3) := by decide +kernel
theorem dX7_far_37 : decode cX7_far 37 = .ok (.iinc 2 (-1), 3) := by decide +kernel
theorem dX7_far_40 : decode cX7_far 40 = .ok (.goto (-19), 3) := by decide +kernel
theorem dX7_far_43 : decode cX7_far 43 = .ok (.iload_n 2, 1) := by decide +kernel
theorem dX7_far_44 : decode cX7_far 44 = .ok (.ireturn, 1) := by decide +kernel
set_option maxRecDepth 20000 in
theorem ggX7_behind_X4_hasShip : GoodIn wsX7_behind wsX4_hasShip := goodIn_r _ [7, 8, 64, 65, 66, 67, 68, 69, 70, 71, 72, 73, 74] (by decide +kernel) (by decide +kernel)
set_option maxRecDepth 20000 in
theorem gX7_behind_X4_hasShip : GoodIn wsX7_behind (wsV RX7 119 RX4 yX4_hasShip wsX4_hasShip) := goodIn_app (goodIn_of _ (by decide +kernel)) ggX7_behind_X4_hasShip
set_option maxRecDepth 20000 in
theorem ggX7_behind_X7_within : GoodIn wsX7_behind wsX7_within := goodIn_r _ [12] (by decide +kernel) (by decide +kernel)
set_option maxRecDepth 20000 in
theorem gX7_behind_X7_within : GoodIn wsX7_behind (va_wsS RX7 91 yX7_within wsX7_within) := goodIn_app (goodIn_of _ (by decide +kernel)) ggX7_behind_X7_within
set_option maxRecDepth 20000 in
theorem ggX7_behind_X7_refuse : GoodIn wsX7_behind wsX7_refuse := goodIn_r _ [16, 17, 18, 19, 51, 52, 53, 54, 55, 56, 57, 58, 59, 60, 61, 62, 63] (by decide +kernel) (by decide +kernel)
set_option maxRecDepth 20000 in
theorem gX7_behind_X7_refuse : GoodIn wsX7_behind (wsV RX7 81 RX7 yX7_refuse wsX7_refuse) := goodIn_app (goodIn_of _ (by decide +kernel)) ggX7_behind_X7_refuse
set_option maxRecDepth 20000 in
theorem ggX7_behind_X4_takePlaces : GoodIn wsX7_behind wsX4_takePlaces := goodIn_r _ [23, 8, 24, 25, 26, 27, 28, 29, 30, 31, 32, 33, 64, 65, 66, 67, 68, 69, 70, 71, 72, 73, 74] (by decide +kernel) (by decide +kernel)
set_option maxRecDepth 20000 in
theorem gX7_behind_X4_takePlaces : GoodIn wsX7_behind (wsV RX7 188 RX4 yX4_takePlaces wsX4_takePlaces) := goodIn_app (goodIn_of _ (by decide +kernel)) ggX7_behind_X4_takePlaces
set_option maxRecDepth 20000 in
theorem ggX7_behind_X4_leaveOne : GoodIn wsX7_behind wsX4_leaveOne := goodIn_r _ [37, 33, 30, 38, 39, 40, 41, 42, 43, 44, 6, 45, 24, 31, 32, 46, 4, 5, 7, 8, 47, 48, 49, 50, 64, 65, 66, 67, 68, 69, 70, 71, 72, 73, 74] (by decide +kernel) (by decide +kernel)
set_option maxRecDepth 20000 in
theorem gX7_behind_X4_leaveOne : GoodIn wsX7_behind (wsV RX7 129 RX4 yX4_leaveOne wsX4_leaveOne) := goodIn_app (goodIn_of _ (by decide +kernel)) ggX7_behind_X4_leaveOne
theorem dX7_behind_0 : decode cX7_behind 0 = .ok (.aload_n 0, 1) := by decide +kernel
theorem dX7_behind_1 : decode cX7_behind 1 = .ok (.getfield 10, 3) := by decide +kernel
theorem dX7_behind_4 : decode cX7_behind 4 = .ok (.iload_n 1, 1) := by decide +kernel
theorem dX7_behind_5 : decode cX7_behind 5 = .ok (.invokevirtual 119, 3) := by decide +kernel
theorem dX7_behind_8 : decode cX7_behind 8 = .ok (.ifCond .eq 13, 3) := by decide +kernel
theorem dX7_behind_11 : decode cX7_behind 11 = .ok (.iload_n 2, 1) := by decide +kernel
theorem dX7_behind_12 : decode cX7_behind 12 = .ok (.iconst 1, 1) := by decide +kernel
theorem dX7_behind_13 : decode cX7_behind 13 = .ok (.bipush 8, 2) := by decide +kernel
theorem dX7_behind_15 : decode cX7_behind 15 = .ok (.invokestatic 91, 3) := by decide +kernel
theorem dX7_behind_18 : decode cX7_behind 18 = .ok (.ifCond .ne 10, 3) := by decide +kernel
theorem dX7_behind_21 : decode cX7_behind 21 = .ok (.aload_n 0, 1) := by decide +kernel
theorem dX7_behind_22 : decode cX7_behind 22 = .ok (.bipush (-2), 2) := by decide +kernel
theorem dX7_behind_24 : decode cX7_behind 24 = .ok (.invokevirtual 81, 3) := by decide +kernel
theorem dX7_behind_27 : decode cX7_behind 27 = .ok (.ireturn, 1) := by decide +kernel
theorem dX7_behind_28 : decode cX7_behind 28 = .ok (.aload_n 0, 1) := by decide +kernel
theorem dX7_behind_29 : decode cX7_behind 29 = .ok (.getfield 16, 3) := by decide +kernel
theorem dX7_behind_32 : decode cX7_behind 32 = .ok (.aload_n 0, 1) := by decide +kernel
theorem dX7_behind_33 : decode cX7_behind 33 = .ok (.getfield 10, 3) := by decide +kernel
theorem dX7_behind_36 : decode cX7_behind 36 = .ok (.invokevirtual 188, 3) := by decide +kernel
theorem dX7_behind_39 : decode cX7_behind 39 = .ok (.iconst (-1), 1) := by decide +kernel
theorem dX7_behind_40 : decode cX7_behind 40 = .ok (.istore_n 3, 1) := by decide +kernel
theorem dX7_behind_41 : decode cX7_behind 41 = .ok (.iconst 0, 1) := by decide +kernel
theorem dX7_behind_42 : decode cX7_behind 42 = .ok (.istore 4, 2) := by decide +kernel
theorem dX7_behind_44 : decode cX7_behind 44 = .ok (.iload 4, 2) := by decide +kernel
theorem dX7_behind_46 : decode cX7_behind 46 = .ok (.iload_n 2, 1) := by decide +kernel
theorem dX7_behind_47 : decode cX7_behind 47 = .ok (.if_icmp .ge 18, 3) := by decide +kernel
theorem dX7_behind_50 : decode cX7_behind 50 = .ok (.aload_n 0, 1) := by decide +kernel
theorem dX7_behind_51 : decode cX7_behind 51 = .ok (.getfield 16, 3) := by decide +kernel
theorem dX7_behind_54 : decode cX7_behind 54 = .ok (.iload_n 1, 1) := by decide +kernel
theorem dX7_behind_55 : decode cX7_behind 55 = .ok (.invokevirtual 129, 3) := by decide +kernel
theorem dX7_behind_58 : decode cX7_behind 58 = .ok (.istore_n 3, 1) := by decide +kernel
theorem dX7_behind_59 : decode cX7_behind 59 = .ok (.iinc 4 1, 3) := by decide +kernel
theorem dX7_behind_62 : decode cX7_behind 62 = .ok (.goto (-18), 3) := by decide +kernel
theorem dX7_behind_65 : decode cX7_behind 65 = .ok (.iload_n 3, 1) := by decide +kernel
theorem dX7_behind_66 : decode cX7_behind 66 = .ok (.ireturn, 1) := by decide +kernel
set_option maxRecDepth 20000 in
theorem ggX7_lasts_X4_hasShip : GoodIn wsX7_lasts wsX4_hasShip := goodIn_r _ [7, 8, 93, 94, 95, 96, 97, 98, 99, 100, 101, 102, 103] (by decide +kernel) (by decide +kernel)
set_option maxRecDepth 20000 in
theorem gX7_lasts_X4_hasShip : GoodIn wsX7_lasts (wsV RX7 119 RX4 yX4_hasShip wsX4_hasShip) := goodIn_app (goodIn_of _ (by decide +kernel)) ggX7_lasts_X4_hasShip
set_option maxRecDepth 20000 in
theorem ggX7_lasts_X7_isDistance : GoodIn wsX7_lasts wsX7_isDistance := goodIn_r _ [12, 13, 14, 11, 15] (by decide +kernel) (by decide +kernel)
set_option maxRecDepth 20000 in
theorem gX7_lasts_X7_isDistance : GoodIn wsX7_lasts (va_wsS RX7 176 yX7_isDistance wsX7_isDistance) := goodIn_app (goodIn_of _ (by decide +kernel)) ggX7_lasts_X7_isDistance
set_option maxRecDepth 20000 in
theorem ggX7_lasts_X7_refuse : GoodIn wsX7_lasts wsX7_refuse := goodIn_r _ [19, 20, 21, 22, 80, 81, 82, 83, 84, 85, 86, 87, 88, 89, 90, 91, 92] (by decide +kernel) (by decide +kernel)
set_option maxRecDepth 20000 in
theorem gX7_lasts_X7_refuse : GoodIn wsX7_lasts (wsV RX7 81 RX7 yX7_refuse wsX7_refuse) := goodIn_app (goodIn_of _ (by decide +kernel)) ggX7_lasts_X7_refuse
set_option maxRecDepth 20000 in
theorem ggX7_lasts_X4_takePlaces : GoodIn wsX7_lasts wsX4_takePlaces := goodIn_r _ [26, 8, 27, 28, 29, 30, 31, 32, 33, 34, 35, 36, 93, 94, 95, 96, 97, 98, 99, 100, 101, 102, 103] (by decide +kernel) (by decide +kernel)
set_option maxRecDepth 20000 in
theorem gX7_lasts_X4_takePlaces : GoodIn wsX7_lasts (wsV RX7 188 RX4 yX4_takePlaces wsX4_takePlaces) := goodIn_app (goodIn_of _ (by decide +kernel)) ggX7_lasts_X4_takePlaces
set_option maxRecDepth 20000 in
theorem ggX7_lasts_X4_canSail : GoodIn wsX7_lasts wsX4_canSail := goodIn_r _ [40, 28, 41, 42, 43, 6, 44, 45, 46, 47, 48, 27, 36, 49, 50, 51, 52, 53, 54, 55, 56, 4, 5, 7, 8, 57, 58, 59, 60, 35, 61, 62, 63, 64, 93, 94, 95, 96, 97, 98, 99, 100, 101, 102, 103] (by decide +kernel) (by decide +kernel)
set_option maxRecDepth 20000 in
theorem gX7_lasts_X4_canSail : GoodIn wsX7_lasts (wsV RX7 184 RX4 yX4_canSail wsX4_canSail) := goodIn_app (goodIn_of _ (by decide +kernel)) ggX7_lasts_X4_canSail
set_option maxRecDepth 20000 in
theorem ggX7_lasts_X4_leaveOne : GoodIn wsX7_lasts wsX4_leaveOne := goodIn_r _ [68, 36, 33, 69, 70, 71, 72, 73, 74, 75, 6, 76, 27, 34, 35, 56, 4, 5, 7, 8, 77, 78, 63, 79, 93, 94, 95, 96, 97, 98, 99, 100, 101, 102, 103] (by decide +kernel) (by decide +kernel)
set_option maxRecDepth 20000 in
theorem gX7_lasts_X4_leaveOne : GoodIn wsX7_lasts (wsV RX7 129 RX4 yX4_leaveOne wsX4_leaveOne) := goodIn_app (goodIn_of _ (by decide +kernel)) ggX7_lasts_X4_leaveOne
theorem dX7_lasts_0 : decode cX7_lasts 0 = .ok (.aload_n 0, 1) := by decide +kernel
theorem dX7_lasts_1 : decode cX7_lasts 1 = .ok (.getfield 10, 3) := by decide +kernel
theorem dX7_lasts_4 : decode cX7_lasts 4 = .ok (.iload_n 1, 1) := by decide +kernel
theorem dX7_lasts_5 : decode cX7_lasts 5 = .ok (.invokevirtual 119, 3) := by decide +kernel
theorem dX7_lasts_8 : decode cX7_lasts 8 = .ok (.ifCond .eq 10, 3) := by decide +kernel
theorem dX7_lasts_11 : decode cX7_lasts 11 = .ok (.iload_n 2, 1) := by decide +kernel
theorem dX7_lasts_12 : decode cX7_lasts 12 = .ok (.invokestatic 176, 3) := by decide +kernel
theorem dX7_lasts_15 : decode cX7_lasts 15 = .ok (.ifCond .ne 10, 3) := by decide +kernel
theorem dX7_lasts_18 : decode cX7_lasts 18 = .ok (.aload_n 0, 1) := by decide +kernel
theorem dX7_lasts_19 : decode cX7_lasts 19 = .ok (.bipush (-2), 2) := by decide +kernel
theorem dX7_lasts_21 : decode cX7_lasts 21 = .ok (.invokevirtual 81, 3) := by decide +kernel
theorem dX7_lasts_24 : decode cX7_lasts 24 = .ok (.ireturn, 1) := by decide +kernel
theorem dX7_lasts_25 : decode cX7_lasts 25 = .ok (.aload_n 0, 1) := by decide +kernel
theorem dX7_lasts_26 : decode cX7_lasts 26 = .ok (.getfield 16, 3) := by decide +kernel
theorem dX7_lasts_29 : decode cX7_lasts 29 = .ok (.aload_n 0, 1) := by decide +kernel
theorem dX7_lasts_30 : decode cX7_lasts 30 = .ok (.getfield 10, 3) := by decide +kernel
theorem dX7_lasts_33 : decode cX7_lasts 33 = .ok (.invokevirtual 188, 3) := by decide +kernel
theorem dX7_lasts_36 : decode cX7_lasts 36 = .ok (.iconst 0, 1) := by decide +kernel
theorem dX7_lasts_37 : decode cX7_lasts 37 = .ok (.istore_n 3, 1) := by decide +kernel
theorem dX7_lasts_38 : decode cX7_lasts 38 = .ok (.iload_n 3, 1) := by decide +kernel
theorem dX7_lasts_39 : decode cX7_lasts 39 = .ok (.bipush 8, 2) := by decide +kernel
theorem dX7_lasts_41 : decode cX7_lasts 41 = .ok (.if_icmp .ge 30, 3) := by decide +kernel
theorem dX7_lasts_44 : decode cX7_lasts 44 = .ok (.aload_n 0, 1) := by decide +kernel
theorem dX7_lasts_45 : decode cX7_lasts 45 = .ok (.getfield 16, 3) := by decide +kernel
theorem dX7_lasts_48 : decode cX7_lasts 48 = .ok (.iload_n 1, 1) := by decide +kernel
theorem dX7_lasts_49 : decode cX7_lasts 49 = .ok (.iload_n 2, 1) := by decide +kernel
theorem dX7_lasts_50 : decode cX7_lasts 50 = .ok (.invokevirtual 184, 3) := by decide +kernel
theorem dX7_lasts_53 : decode cX7_lasts 53 = .ok (.ifCond .eq 18, 3) := by decide +kernel
theorem dX7_lasts_56 : decode cX7_lasts 56 = .ok (.aload_n 0, 1) := by decide +kernel
theorem dX7_lasts_57 : decode cX7_lasts 57 = .ok (.getfield 16, 3) := by decide +kernel
theorem dX7_lasts_60 : decode cX7_lasts 60 = .ok (.iload_n 1, 1) := by decide +kernel
theorem dX7_lasts_61 : decode cX7_lasts 61 = .ok (.invokevirtual 129, 3) := by decide +kernel
theorem dX7_lasts_64 : decode cX7_lasts 64 = .ok (.pop, 1) := by decide +kernel
theorem dX7_lasts_65 : decode cX7_lasts 65 = .ok (.iinc 3 1, 3) := by decide +kernel
theorem dX7_lasts_68 : decode cX7_lasts 68 = .ok (.goto (-30), 3) := by decide +kernel
theorem dX7_lasts_71 : decode cX7_lasts 71 = .ok (.iload_n 3, 1) := by decide +kernel
theorem dX7_lasts_72 : decode cX7_lasts 72 = .ok (.ireturn, 1) := by decide +kernel
set_option maxRecDepth 20000 in
theorem ggX7_few_X7_within : GoodIn wsX7_few wsX7_within := goodIn_r _ [7] (by decide +kernel) (by decide +kernel)
set_option maxRecDepth 20000 in
theorem gX7_few_X7_within : GoodIn wsX7_few (va_wsS RX7 91 yX7_within wsX7_within) := goodIn_app (goodIn_of _ (by decide +kernel)) ggX7_few_X7_within
set_option maxRecDepth 20000 in
theorem ggX7_few_X7_isShipOrNone : GoodIn wsX7_few wsX7_isShipOrNone := goodIn_r _ [11, 2, 12, 13, 14, 15, 16, 17, 85, 86, 87, 88, 89, 90, 91, 92, 93, 94, 95, 96, 97, 98, 99, 100, 101, 102, 103, 104, 105, 106, 107, 108] (by decide +kernel) (by decide +kernel)
set_option maxRecDepth 20000 in
theorem gX7_few_X7_isShipOrNone : GoodIn wsX7_few (wsV RX7 95 RX7 yX7_isShipOrNone wsX7_isShipOrNone) := goodIn_app (goodIn_of _ (by decide +kernel)) ggX7_few_X7_isShipOrNone
set_option maxRecDepth 20000 in
theorem ggX7_few_X7_refuse : GoodIn wsX7_few wsX7_refuse := goodIn_r _ [21, 22, 23, 24, 85, 86, 87, 88, 89, 90, 91, 92, 93, 94, 95, 96, 97] (by decide +kernel) (by decide +kernel)
set_option maxRecDepth 20000 in
theorem gX7_few_X7_refuse : GoodIn wsX7_few (wsV RX7 81 RX7 yX7_refuse wsX7_refuse) := goodIn_app (goodIn_of _ (by decide +kernel)) ggX7_few_X7_refuse
set_option maxRecDepth 20000 in
theorem ggX7_few_X4_takePlaces : GoodIn wsX7_few wsX4_takePlaces := goodIn_r _ [28, 17, 29, 30, 31, 32, 33, 34, 35, 36, 37, 38, 98, 99, 100, 101, 102, 103, 104, 105, 106, 107, 108] (by decide +kernel) (by decide +kernel)
set_option maxRecDepth 20000 in
theorem gX7_few_X4_takePlaces : GoodIn wsX7_few (wsV RX7 188 RX4 yX4_takePlaces wsX4_takePlaces) := goodIn_app (goodIn_of _ (by decide +kernel)) ggX7_few_X4_takePlaces
set_option maxRecDepth 20000 in
theorem ggX7_few_X1_find : GoodIn wsX7_few wsX1_find := goodIn_r _ [43, 44, 45, 46, 15, 47, 29, 38, 37, 48, 49, 50, 42, 51, 52, 53, 54, 13, 14, 16, 17, 55, 56, 57, 58, 35, 59, 60, 61, 62, 63, 64, 65, 66, 36, 67, 68, 69, 70, 71, 72, 73, 74, 75, 76, 77, 78, 79, 80, 98, 99, 100, 101, 102, 103, 104, 105, 106, 107, 108, 109, 110] (by decide +kernel) (by decide +kernel)
set_option maxRecDepth 20000 in
theorem gX7_few_X1_find : GoodIn wsX7_few (wsV RX7 191 RX1 yX1_find wsX1_find) := goodIn_app (goodIn_of _ (by decide +kernel)) ggX7_few_X1_find
set_option maxRecDepth 20000 in
theorem ggX7_few_X1_madeBy : GoodIn wsX7_few wsX1_madeBy := goodIn_r _ [84, 76, 109, 110] (by decide +kernel) (by decide +kernel)
set_option maxRecDepth 20000 in
theorem gX7_few_X1_madeBy : GoodIn wsX7_few (wsV RX7 195 RX1 yX1_madeBy wsX1_madeBy) := goodIn_app (goodIn_of _ (by decide +kernel)) ggX7_few_X1_madeBy
theorem dX7_few_0 : decode cX7_few 0 = .ok (.iload_n 1, 1) := by decide +kernel
theorem dX7_few_1 : decode cX7_few 1 = .ok (.iconst 1, 1) := by decide +kernel
theorem dX7_few_2 : decode cX7_few 2 = .ok (.bipush 72, 2) := by decide +kernel
theorem dX7_few_4 : decode cX7_few 4 = .ok (.invokestatic 91, 3) := by decide +kernel
theorem dX7_few_7 : decode cX7_few 7 = .ok (.ifCond .eq 11, 3) := by decide +kernel
theorem dX7_few_10 : decode cX7_few 10 = .ok (.aload_n 0, 1) := by decide +kernel
theorem dX7_few_11 : decode cX7_few 11 = .ok (.iload_n 2, 1) := by decide +kernel
theorem dX7_few_12 : decode cX7_few 12 = .ok (.invokevirtual 95, 3) := by decide +kernel
theorem dX7_few_15 : decode cX7_few 15 = .ok (.ifCond .ne 13, 3) := by decide +kernel
theorem dX7_few_18 : decode cX7_few 18 = .ok (.aload_n 0, 1) := by decide +kernel
theorem dX7_few_19 : decode cX7_few 19 = .ok (.bipush (-2), 2) := by decide +kernel
theorem dX7_few_21 : decode cX7_few 21 = .ok (.invokevirtual 81, 3) := by decide +kernel
theorem dX7_few_24 : decode cX7_few 24 = .ok (.pop, 1) := by decide +kernel
theorem dX7_few_25 : decode cX7_few 25 = .ok (.bipush (-10), 2) := by decide +kernel
theorem dX7_few_27 : decode cX7_few 27 = .ok (.ireturn, 1) := by decide +kernel
theorem dX7_few_28 : decode cX7_few 28 = .ok (.aload_n 0, 1) := by decide +kernel
theorem dX7_few_29 : decode cX7_few 29 = .ok (.getfield 16, 3) := by decide +kernel
theorem dX7_few_32 : decode cX7_few 32 = .ok (.aload_n 0, 1) := by decide +kernel
theorem dX7_few_33 : decode cX7_few 33 = .ok (.getfield 10, 3) := by decide +kernel
theorem dX7_few_36 : decode cX7_few 36 = .ok (.invokevirtual 188, 3) := by decide +kernel
theorem dX7_few_39 : decode cX7_few 39 = .ok (.aload_n 0, 1) := by decide +kernel
theorem dX7_few_40 : decode cX7_few 40 = .ok (.getfield 37, 3) := by decide +kernel
theorem dX7_few_43 : decode cX7_few 43 = .ok (.aload_n 0, 1) := by decide +kernel
theorem dX7_few_44 : decode cX7_few 44 = .ok (.getfield 16, 3) := by decide +kernel
theorem dX7_few_47 : decode cX7_few 47 = .ok (.iload_n 1, 1) := by decide +kernel
theorem dX7_few_48 : decode cX7_few 48 = .ok (.invokevirtual 191, 3) := by decide +kernel
theorem dX7_few_51 : decode cX7_few 51 = .ok (.istore_n 3, 1) := by decide +kernel
theorem dX7_few_52 : decode cX7_few 52 = .ok (.iload_n 3, 1) := by decide +kernel
theorem dX7_few_53 : decode cX7_few 53 = .ok (.ifCond .lt 8, 3) := by decide +kernel
theorem dX7_few_56 : decode cX7_few 56 = .ok (.iload_n 2, 1) := by decide +kernel
theorem dX7_few_57 : decode cX7_few 57 = .ok (.iconst (-1), 1) := by decide +kernel
theorem dX7_few_58 : decode cX7_few 58 = .ok (.if_icmp .ne 7, 3) := by decide +kernel
theorem dX7_few_61 : decode cX7_few 61 = .ok (.iload_n 3, 1) := by decide +kernel
theorem dX7_few_62 : decode cX7_few 62 = .ok (.goto 11, 3) := by decide +kernel
theorem dX7_few_65 : decode cX7_few 65 = .ok (.aload_n 0, 1) := by decide +kernel
theorem dX7_few_66 : decode cX7_few 66 = .ok (.getfield 37, 3) := by decide +kernel
theorem dX7_few_69 : decode cX7_few 69 = .ok (.iload_n 2, 1) := by decide +kernel
theorem dX7_few_70 : decode cX7_few 70 = .ok (.invokevirtual 195, 3) := by decide +kernel
theorem dX7_few_73 : decode cX7_few 73 = .ok (.ireturn, 1) := by decide +kernel
set_option maxRecDepth 20000 in
theorem ggX7_crew_X7_isDistance : GoodIn wsX7_crew wsX7_isDistance := goodIn_r _ [6, 7, 8, 5, 9] (by decide +kernel) (by decide +kernel)
set_option maxRecDepth 20000 in
theorem gX7_crew_X7_isDistance : GoodIn wsX7_crew (va_wsS RX7 176 yX7_isDistance wsX7_isDistance) := goodIn_app (goodIn_of _ (by decide +kernel)) ggX7_crew_X7_isDistance
set_option maxRecDepth 20000 in
theorem ggX7_crew_X4_hasMan : GoodIn wsX7_crew wsX4_hasMan := goodIn_r _ [14, 15, 102, 103, 104, 105, 106, 107, 108, 109, 110, 111, 112] (by decide +kernel) (by decide +kernel)
set_option maxRecDepth 20000 in
theorem gX7_crew_X4_hasMan : GoodIn wsX7_crew (wsV RX7 132 RX4 yX4_hasMan wsX4_hasMan) := goodIn_app (goodIn_of _ (by decide +kernel)) ggX7_crew_X4_hasMan
set_option maxRecDepth 20000 in
theorem ggX7_crew_X7_refuse : GoodIn wsX7_crew wsX7_refuse := goodIn_r _ [19, 20, 21, 22, 89, 90, 91, 92, 93, 94, 95, 96, 97, 98, 99, 100, 101] (by decide +kernel) (by decide +kernel)
set_option maxRecDepth 20000 in
theorem gX7_crew_X7_refuse : GoodIn wsX7_crew (wsV RX7 81 RX7 yX7_refuse wsX7_refuse) := goodIn_app (goodIn_of _ (by decide +kernel)) ggX7_crew_X7_refuse
set_option maxRecDepth 20000 in
theorem ggX7_crew_X0_find : GoodIn wsX7_crew wsX0_find := goodIn_r _ [27, 28, 29, 30, 31, 32, 33, 13, 34, 15, 35, 36, 37, 38, 26, 39, 40, 41, 42, 43, 44, 45, 46, 47, 48, 49, 50, 51, 52, 53, 54, 55, 56, 57, 58, 59, 60, 61, 62, 63, 64, 65, 66, 67, 68, 69, 70, 71, 72, 73, 74, 75, 76, 77, 78, 79, 113, 114, 115, 102, 103, 104, 105, 106, 107, 108, 109, 110, 111, 112] (by decide +kernel) (by decide +kernel)
set_option maxRecDepth 20000 in
theorem gX7_crew_X0_find : GoodIn wsX7_crew (wsV RX7 198 RX0 yX0_find wsX0_find) := goodIn_app (goodIn_of _ (by decide +kernel)) ggX7_crew_X0_find
set_option maxRecDepth 20000 in
theorem ggX7_crew_X0_sailing : GoodIn wsX7_crew wsX0_sailing := goodIn_r _ [83, 30, 42, 113, 114, 115] (by decide +kernel) (by decide +kernel)
set_option maxRecDepth 20000 in
theorem gX7_crew_X0_sailing : GoodIn wsX7_crew (wsV RX7 201 RX0 yX0_sailing wsX0_sailing) := goodIn_app (goodIn_of _ (by decide +kernel)) ggX7_crew_X0_sailing
set_option maxRecDepth 20000 in
theorem ggX7_crew_X0_placeOf : GoodIn wsX7_crew wsX0_placeOf := goodIn_r _ [87, 42, 30, 88, 81, 82, 26, 83, 113, 114, 115] (by decide +kernel) (by decide +kernel)
set_option maxRecDepth 20000 in
theorem gX7_crew_X0_placeOf : GoodIn wsX7_crew (wsV RX7 204 RX0 yX0_placeOf wsX0_placeOf) := goodIn_app (goodIn_of _ (by decide +kernel)) ggX7_crew_X0_placeOf
theorem dX7_crew_0 : decode cX7_crew 0 = .ok (.iload_n 1, 1) := by decide +kernel
theorem dX7_crew_1 : decode cX7_crew 1 = .ok (.invokestatic 176, 3) := by decide +kernel
theorem dX7_crew_4 : decode cX7_crew 4 = .ok (.ifCond .eq 19, 3) := by decide +kernel
theorem dX7_crew_7 : decode cX7_crew 7 = .ok (.iload_n 2, 1) := by decide +kernel
theorem dX7_crew_8 : decode cX7_crew 8 = .ok (.iconst (-1), 1) := by decide +kernel
theorem dX7_crew_9 : decode cX7_crew 9 = .ok (.if_icmp .eq 24, 3) := by decide +kernel
theorem dX7_crew_12 : decode cX7_crew 12 = .ok (.aload_n 0, 1) := by decide +kernel
theorem dX7_crew_13 : decode cX7_crew 13 = .ok (.getfield 10, 3) := by decide +kernel
theorem dX7_crew_16 : decode cX7_crew 16 = .ok (.iload_n 2, 1) := by decide +kernel
theorem dX7_crew_17 : decode cX7_crew 17 = .ok (.invokevirtual 132, 3) := by decide +kernel
theorem dX7_crew_20 : decode cX7_crew 20 = .ok (.ifCond .ne 13, 3) := by decide +kernel
theorem dX7_crew_23 : decode cX7_crew 23 = .ok (.aload_n 0, 1) := by decide +kernel
theorem dX7_crew_24 : decode cX7_crew 24 = .ok (.bipush (-2), 2) := by decide +kernel
theorem dX7_crew_26 : decode cX7_crew 26 = .ok (.invokevirtual 81, 3) := by decide +kernel
theorem dX7_crew_29 : decode cX7_crew 29 = .ok (.pop, 1) := by decide +kernel
theorem dX7_crew_30 : decode cX7_crew 30 = .ok (.bipush (-10), 2) := by decide +kernel
theorem dX7_crew_32 : decode cX7_crew 32 = .ok (.ireturn, 1) := by decide +kernel
theorem dX7_crew_33 : decode cX7_crew 33 = .ok (.aload_n 0, 1) := by decide +kernel
theorem dX7_crew_34 : decode cX7_crew 34 = .ok (.getfield 44, 3) := by decide +kernel
theorem dX7_crew_37 : decode cX7_crew 37 = .ok (.aload_n 0, 1) := by decide +kernel
theorem dX7_crew_38 : decode cX7_crew 38 = .ok (.getfield 10, 3) := by decide +kernel
theorem dX7_crew_41 : decode cX7_crew 41 = .ok (.iload_n 1, 1) := by decide +kernel
theorem dX7_crew_42 : decode cX7_crew 42 = .ok (.invokevirtual 198, 3) := by decide +kernel
theorem dX7_crew_45 : decode cX7_crew 45 = .ok (.iload_n 2, 1) := by decide +kernel
theorem dX7_crew_46 : decode cX7_crew 46 = .ok (.iconst (-1), 1) := by decide +kernel
theorem dX7_crew_47 : decode cX7_crew 47 = .ok (.if_icmp .ne 13, 3) := by decide +kernel
theorem dX7_crew_50 : decode cX7_crew 50 = .ok (.aload_n 0, 1) := by decide +kernel
theorem dX7_crew_51 : decode cX7_crew 51 = .ok (.getfield 44, 3) := by decide +kernel
theorem dX7_crew_54 : decode cX7_crew 54 = .ok (.invokevirtual 201, 3) := by decide +kernel
theorem dX7_crew_57 : decode cX7_crew 57 = .ok (.goto 11, 3) := by decide +kernel
theorem dX7_crew_60 : decode cX7_crew 60 = .ok (.aload_n 0, 1) := by decide +kernel
theorem dX7_crew_61 : decode cX7_crew 61 = .ok (.getfield 44, 3) := by decide +kernel
theorem dX7_crew_64 : decode cX7_crew 64 = .ok (.iload_n 2, 1) := by decide +kernel
theorem dX7_crew_65 : decode cX7_crew 65 = .ok (.invokevirtual 204, 3) := by decide +kernel
theorem dX7_crew_68 : decode cX7_crew 68 = .ok (.ireturn, 1) := by decide +kernel
set_option maxRecDepth 20000 in
theorem ggX7_seen_X4_hasMan : GoodIn wsX7_seen wsX4_hasMan := goodIn_r _ [7, 8, 54, 55, 56, 57, 58, 59, 60, 61, 62, 63, 64] (by decide +kernel) (by decide +kernel)
set_option maxRecDepth 20000 in
theorem gX7_seen_X4_hasMan : GoodIn wsX7_seen (wsV RX7 132 RX4 yX4_hasMan wsX4_hasMan) := goodIn_app (goodIn_of _ (by decide +kernel)) ggX7_seen_X4_hasMan
set_option maxRecDepth 20000 in
theorem ggX7_seen_X7_within : GoodIn wsX7_seen wsX7_within := goodIn_r _ [12] (by decide +kernel) (by decide +kernel)
set_option maxRecDepth 20000 in
theorem gX7_seen_X7_within : GoodIn wsX7_seen (va_wsS RX7 91 yX7_within wsX7_within) := goodIn_app (goodIn_of _ (by decide +kernel)) ggX7_seen_X7_within
set_option maxRecDepth 20000 in
theorem ggX7_seen_X7_refuse : GoodIn wsX7_seen wsX7_refuse := goodIn_r _ [16, 17, 18, 19, 41, 42, 43, 44, 45, 46, 47, 48, 49, 50, 51, 52, 53] (by decide +kernel) (by decide +kernel)
set_option maxRecDepth 20000 in
theorem gX7_seen_X7_refuse : GoodIn wsX7_seen (wsV RX7 81 RX7 yX7_refuse wsX7_refuse) := goodIn_app (goodIn_of _ (by decide +kernel)) ggX7_seen_X7_refuse
set_option maxRecDepth 20000 in
theorem ggX7_seen_X7_addTo : GoodIn wsX7_seen wsX7_addTo := goodIn_r _ [23, 24, 25, 26, 27, 28, 29, 30, 13, 14, 15, 11, 16, 17, 18, 19, 31, 32, 33, 34, 35, 36, 37, 38, 39, 40, 65, 66, 67, 41, 42, 43, 44, 45, 46, 47, 48, 49, 50, 51, 52, 53] (by decide +kernel) (by decide +kernel)
set_option maxRecDepth 20000 in
theorem gX7_seen_X7_addTo : GoodIn wsX7_seen (wsV RX7 210 RX7 yX7_addTo wsX7_addTo) := goodIn_app (goodIn_of _ (by decide +kernel)) ggX7_seen_X7_addTo
theorem dX7_seen_0 : decode cX7_seen 0 = .ok (.aload_n 0, 1) := by decide +kernel
theorem dX7_seen_1 : decode cX7_seen 1 = .ok (.getfield 10, 3) := by decide +kernel
theorem dX7_seen_4 : decode cX7_seen 4 = .ok (.iload_n 1, 1) := by decide +kernel
theorem dX7_seen_5 : decode cX7_seen 5 = .ok (.invokevirtual 132, 3) := by decide +kernel
theorem dX7_seen_8 : decode cX7_seen 8 = .ok (.ifCond .eq 33, 3) := by decide +kernel
theorem dX7_seen_11 : decode cX7_seen 11 = .ok (.iload_n 2, 1) := by decide +kernel
theorem dX7_seen_12 : decode cX7_seen 12 = .ok (.iconst 0, 1) := by decide +kernel
theorem dX7_seen_13 : decode cX7_seen 13 = .ok (.bipush 99, 2) := by decide +kernel
theorem dX7_seen_15 : decode cX7_seen 15 = .ok (.invokestatic 91, 3) := by decide +kernel
theorem dX7_seen_18 : decode cX7_seen 18 = .ok (.ifCond .eq 23, 3) := by decide +kernel
theorem dX7_seen_21 : decode cX7_seen 21 = .ok (.iload_n 3, 1) := by decide +kernel
theorem dX7_seen_22 : decode cX7_seen 22 = .ok (.iconst 0, 1) := by decide +kernel
theorem dX7_seen_23 : decode cX7_seen 23 = .ok (.bipush 30, 2) := by decide +kernel
theorem dX7_seen_25 : decode cX7_seen 25 = .ok (.invokestatic 91, 3) := by decide +kernel
theorem dX7_seen_28 : decode cX7_seen 28 = .ok (.ifCond .eq 13, 3) := by decide +kernel
theorem dX7_seen_31 : decode cX7_seen 31 = .ok (.iload 4, 2) := by decide +kernel
theorem dX7_seen_33 : decode cX7_seen 33 = .ok (.iconst 0, 1) := by decide +kernel
theorem dX7_seen_34 : decode cX7_seen 34 = .ok (.iconst 1, 1) := by decide +kernel
theorem dX7_seen_35 : decode cX7_seen 35 = .ok (.invokestatic 91, 3) := by decide +kernel
theorem dX7_seen_38 : decode cX7_seen 38 = .ok (.ifCond .ne 10, 3) := by decide +kernel
theorem dX7_seen_41 : decode cX7_seen 41 = .ok (.aload_n 0, 1) := by decide +kernel
theorem dX7_seen_42 : decode cX7_seen 42 = .ok (.bipush (-2), 2) := by decide +kernel
theorem dX7_seen_44 : decode cX7_seen 44 = .ok (.invokevirtual 81, 3) := by decide +kernel
theorem dX7_seen_47 : decode cX7_seen 47 = .ok (.ireturn, 1) := by decide +kernel
theorem dX7_seen_48 : decode cX7_seen 48 = .ok (.aload_n 0, 1) := by decide +kernel
theorem dX7_seen_49 : decode cX7_seen 49 = .ok (.aload_n 0, 1) := by decide +kernel
theorem dX7_seen_50 : decode cX7_seen 50 = .ok (.getfield 10, 3) := by decide +kernel
theorem dX7_seen_53 : decode cX7_seen 53 = .ok (.getfield 207, 3) := by decide +kernel
theorem dX7_seen_56 : decode cX7_seen 56 = .ok (.iload_n 1, 1) := by decide +kernel
theorem dX7_seen_57 : decode cX7_seen 57 = .ok (.iload_n 2, 1) := by decide +kernel
theorem dX7_seen_58 : decode cX7_seen 58 = .ok (.iload_n 3, 1) := by decide +kernel
theorem dX7_seen_59 : decode cX7_seen 59 = .ok (.iload 4, 2) := by decide +kernel
theorem dX7_seen_61 : decode cX7_seen 61 = .ok (.invokevirtual 210, 3) := by decide +kernel
theorem dX7_seen_64 : decode cX7_seen 64 = .ok (.ireturn, 1) := by decide +kernel
set_option maxRecDepth 20000 in
theorem ggX7_skilled_X4_hasMan : GoodIn wsX7_skilled wsX4_hasMan := goodIn_r _ [7, 8, 72, 73, 74, 75, 76, 77, 78, 79, 80, 81, 82] (by decide +kernel) (by decide +kernel)
set_option maxRecDepth 20000 in
theorem gX7_skilled_X4_hasMan : GoodIn wsX7_skilled (wsV RX7 132 RX4 yX4_hasMan wsX4_hasMan) := goodIn_app (goodIn_of _ (by decide +kernel)) ggX7_skilled_X4_hasMan
set_option maxRecDepth 20000 in
theorem ggX7_skilled_X7_within : GoodIn wsX7_skilled wsX7_within := goodIn_r _ [12] (by decide +kernel) (by decide +kernel)
set_option maxRecDepth 20000 in
theorem gX7_skilled_X7_within : GoodIn wsX7_skilled (va_wsS RX7 91 yX7_within wsX7_within) := goodIn_app (goodIn_of _ (by decide +kernel)) ggX7_skilled_X7_within
set_option maxRecDepth 20000 in
theorem ggX7_skilled_X7_refuse : GoodIn wsX7_skilled wsX7_refuse := goodIn_r _ [16, 17, 18, 19, 59, 60, 61, 62, 63, 64, 65, 66, 67, 68, 69, 70, 71] (by decide +kernel) (by decide +kernel)
set_option maxRecDepth 20000 in
theorem gX7_skilled_X7_refuse : GoodIn wsX7_skilled (wsV RX7 81 RX7 yX7_refuse wsX7_refuse) := goodIn_app (goodIn_of _ (by decide +kernel)) ggX7_skilled_X7_refuse
set_option maxRecDepth 20000 in
theorem ggX7_skilled_X3_skillsOf : GoodIn wsX7_skilled wsX3_skillsOf := goodIn_r _ [24, 25, 26, 27, 23, 28, 29, 30, 31, 32, 33, 34, 35, 36, 37, 38, 39, 40, 41, 42, 43, 44, 45, 72, 73, 74, 75, 76, 77, 78, 79, 80, 81, 82, 83, 84, 85] (by decide +kernel) (by decide +kernel)
set_option maxRecDepth 20000 in
theorem gX7_skilled_X3_skillsOf : GoodIn wsX7_skilled (wsV RX7 214 RX3 yX3_skillsOf wsX3_skillsOf) := goodIn_app (goodIn_of _ (by decide +kernel)) ggX7_skilled_X3_skillsOf
set_option maxRecDepth 20000 in
theorem ggX7_skilled_J6_bitCount_0f7a4 : GoodIn wsX7_skilled wsJ6_bitCount_0f7a4 := goodIn_r _ [49, 50, 51, 52] (by decide +kernel) (by decide +kernel)
set_option maxRecDepth 20000 in
theorem gX7_skilled_J6_bitCount_0f7a4 : GoodIn wsX7_skilled (va_wsS RX7 217 yJ6_bitCount_0f7a4 wsJ6_bitCount_0f7a4) := goodIn_app (goodIn_of _ (by decide +kernel)) ggX7_skilled_J6_bitCount_0f7a4
set_option maxRecDepth 20000 in
theorem ggX7_skilled_X7_leastBit : GoodIn wsX7_skilled wsX7_leastBit := goodIn_r _ [55] (by decide +kernel) (by decide +kernel)
set_option maxRecDepth 20000 in
theorem gX7_skilled_X7_leastBit : GoodIn wsX7_skilled (va_wsS RX7 222 yX7_leastBit wsX7_leastBit) := goodIn_app (goodIn_of _ (by decide +kernel)) ggX7_skilled_X7_leastBit
set_option maxRecDepth 20000 in
theorem ggX7_skilled_X7_greatestBit : GoodIn wsX7_skilled wsX7_greatestBit := goodIn_r _ [58] (by decide +kernel) (by decide +kernel)
set_option maxRecDepth 20000 in
theorem gX7_skilled_X7_greatestBit : GoodIn wsX7_skilled (va_wsS RX7 225 yX7_greatestBit wsX7_greatestBit) := goodIn_app (goodIn_of _ (by decide +kernel)) ggX7_skilled_X7_greatestBit
theorem dX7_skilled_0 : decode cX7_skilled 0 = .ok (.aload_n 0, 1) := by decide +kernel
theorem dX7_skilled_1 : decode cX7_skilled 1 = .ok (.getfield 10, 3) := by decide +kernel
theorem dX7_skilled_4 : decode cX7_skilled 4 = .ok (.iload_n 1, 1) := by decide +kernel
theorem dX7_skilled_5 : decode cX7_skilled 5 = .ok (.invokevirtual 132, 3) := by decide +kernel
theorem dX7_skilled_8 : decode cX7_skilled 8 = .ok (.ifCond .eq 12, 3) := by decide +kernel
theorem dX7_skilled_11 : decode cX7_skilled 11 = .ok (.iload_n 2, 1) := by decide +kernel
theorem dX7_skilled_12 : decode cX7_skilled 12 = .ok (.iconst 0, 1) := by decide +kernel
theorem dX7_skilled_13 : decode cX7_skilled 13 = .ok (.iconst 2, 1) := by decide +kernel
theorem dX7_skilled_14 : decode cX7_skilled 14 = .ok (.invokestatic 91, 3) := by decide +kernel
theorem dX7_skilled_17 : decode cX7_skilled 17 = .ok (.ifCond .ne 10, 3) := by decide +kernel
theorem dX7_skilled_20 : decode cX7_skilled 20 = .ok (.aload_n 0, 1) := by decide +kernel
theorem dX7_skilled_21 : decode cX7_skilled 21 = .ok (.bipush (-2), 2) := by decide +kernel
theorem dX7_skilled_23 : decode cX7_skilled 23 = .ok (.invokevirtual 81, 3) := by decide +kernel
theorem dX7_skilled_26 : decode cX7_skilled 26 = .ok (.ireturn, 1) := by decide +kernel
theorem dX7_skilled_27 : decode cX7_skilled 27 = .ok (.aload_n 0, 1) := by decide +kernel
theorem dX7_skilled_28 : decode cX7_skilled 28 = .ok (.getfield 51, 3) := by decide +kernel
theorem dX7_skilled_31 : decode cX7_skilled 31 = .ok (.aload_n 0, 1) := by decide +kernel
theorem dX7_skilled_32 : decode cX7_skilled 32 = .ok (.getfield 10, 3) := by decide +kernel
theorem dX7_skilled_35 : decode cX7_skilled 35 = .ok (.iload_n 1, 1) := by decide +kernel
theorem dX7_skilled_36 : decode cX7_skilled 36 = .ok (.invokevirtual 214, 3) := by decide +kernel
theorem dX7_skilled_39 : decode cX7_skilled 39 = .ok (.istore_n 3, 1) := by decide +kernel
theorem dX7_skilled_40 : decode cX7_skilled 40 = .ok (.iload_n 2, 1) := by decide +kernel
theorem dX7_skilled_41 : decode cX7_skilled 41 = .ok (.lookupswitch 37 #[(0, 27), (1, 32)], 27) := by decide +kernel
theorem dX7_skilled_68 : decode cX7_skilled 68 = .ok (.iload_n 3, 1) := by decide +kernel
theorem dX7_skilled_69 : decode cX7_skilled 69 = .ok (.invokestatic 217, 3) := by decide +kernel
theorem dX7_skilled_72 : decode cX7_skilled 72 = .ok (.ireturn, 1) := by decide +kernel
theorem dX7_skilled_73 : decode cX7_skilled 73 = .ok (.iload_n 3, 1) := by decide +kernel
theorem dX7_skilled_74 : decode cX7_skilled 74 = .ok (.invokestatic 222, 3) := by decide +kernel
theorem dX7_skilled_77 : decode cX7_skilled 77 = .ok (.ireturn, 1) := by decide +kernel
theorem dX7_skilled_78 : decode cX7_skilled 78 = .ok (.iload_n 3, 1) := by decide +kernel
theorem dX7_skilled_79 : decode cX7_skilled 79 = .ok (.invokestatic 225, 3) := by decide +kernel
theorem dX7_skilled_82 : decode cX7_skilled 82 = .ok (.ireturn, 1) := by decide +kernel
set_option maxRecDepth 20000 in
theorem ggX7_tell_X4_hasMan : GoodIn wsX7_tell wsX4_hasMan := goodIn_r _ [8, 9, 75, 76, 77, 78, 79, 80, 81, 82, 83, 84, 85] (by decide +kernel) (by decide +kernel)
set_option maxRecDepth 20000 in
theorem gX7_tell_X4_hasMan : GoodIn wsX7_tell (wsV RX7 132 RX4 yX4_hasMan wsX4_hasMan) := goodIn_app (goodIn_of _ (by decide +kernel)) ggX7_tell_X4_hasMan
set_option maxRecDepth 20000 in
theorem ggX7_tell_X7_refuse : GoodIn wsX7_tell wsX7_refuse := goodIn_r _ [14, 15, 16, 17, 62, 63, 64, 65, 66, 67, 68, 69, 70, 71, 72, 73, 74] (by decide +kernel) (by decide +kernel)
set_option maxRecDepth 20000 in
theorem gX7_tell_X7_refuse : GoodIn wsX7_tell (wsV RX7 81 RX7 yX7_refuse wsX7_refuse) := goodIn_app (goodIn_of _ (by decide +kernel)) ggX7_tell_X7_refuse
set_option maxRecDepth 20000 in
theorem ggX7_tell_X3_skillsOf : GoodIn wsX7_tell wsX3_skillsOf := goodIn_r _ [22, 23, 24, 25, 21, 26, 27, 28, 29, 30, 31, 32, 33, 34, 35, 36, 37, 38, 39, 40, 41, 42, 43, 75, 76, 77, 78, 79, 80, 81, 82, 83, 84, 85, 86, 87, 88] (by decide +kernel) (by decide +kernel)
set_option maxRecDepth 20000 in
theorem gX7_tell_X3_skillsOf : GoodIn wsX7_tell (wsV RX7 214 RX3 yX3_skillsOf wsX3_skillsOf) := goodIn_app (goodIn_of _ (by decide +kernel)) ggX7_tell_X3_skillsOf
set_option maxRecDepth 20000 in
theorem ggX7_tell_X3_bestSight : GoodIn wsX7_tell wsX3_bestSight := goodIn_r _ [47, 48, 49, 50, 51, 52, 53, 21, 54, 40, 41, 42, 43, 55, 56, 57, 58, 59, 60, 61] (by decide +kernel) (by decide +kernel)
set_option maxRecDepth 20000 in
theorem gX7_tell_X3_bestSight : GoodIn wsX7_tell (wsV RX7 228 RX3 yX3_bestSight wsX3_bestSight) := goodIn_app (goodIn_of _ (by decide +kernel)) ggX7_tell_X3_bestSight
theorem dX7_tell_0 : decode cX7_tell 0 = .ok (.aload_n 0, 1) := by decide +kernel
theorem dX7_tell_1 : decode cX7_tell 1 = .ok (.getfield 10, 3) := by decide +kernel
theorem dX7_tell_4 : decode cX7_tell 4 = .ok (.iload_n 1, 1) := by decide +kernel
theorem dX7_tell_5 : decode cX7_tell 5 = .ok (.invokevirtual 132, 3) := by decide +kernel
theorem dX7_tell_8 : decode cX7_tell 8 = .ok (.ifCond .ne 10, 3) := by decide +kernel
theorem dX7_tell_11 : decode cX7_tell 11 = .ok (.aload_n 0, 1) := by decide +kernel
theorem dX7_tell_12 : decode cX7_tell 12 = .ok (.bipush (-2), 2) := by decide +kernel
theorem dX7_tell_14 : decode cX7_tell 14 = .ok (.invokevirtual 81, 3) := by decide +kernel
theorem dX7_tell_17 : decode cX7_tell 17 = .ok (.ireturn, 1) := by decide +kernel
theorem dX7_tell_18 : decode cX7_tell 18 = .ok (.aload_n 0, 1) := by decide +kernel
theorem dX7_tell_19 : decode cX7_tell 19 = .ok (.getfield 51, 3) := by decide +kernel
theorem dX7_tell_22 : decode cX7_tell 22 = .ok (.aload_n 0, 1) := by decide +kernel
theorem dX7_tell_23 : decode cX7_tell 23 = .ok (.getfield 10, 3) := by decide +kernel
theorem dX7_tell_26 : decode cX7_tell 26 = .ok (.getfield 155, 3) := by decide +kernel
theorem dX7_tell_29 : decode cX7_tell 29 = .ok (.iload_n 1, 1) := by decide +kernel
theorem dX7_tell_30 : decode cX7_tell 30 = .ok (.iaload, 1) := by decide +kernel
theorem dX7_tell_31 : decode cX7_tell 31 = .ok (.aload_n 0, 1) := by decide +kernel
theorem dX7_tell_32 : decode cX7_tell 32 = .ok (.getfield 51, 3) := by decide +kernel
theorem dX7_tell_35 : decode cX7_tell 35 = .ok (.aload_n 0, 1) := by decide +kernel
theorem dX7_tell_36 : decode cX7_tell 36 = .ok (.getfield 10, 3) := by decide +kernel
theorem dX7_tell_39 : decode cX7_tell 39 = .ok (.iload_n 1, 1) := by decide +kernel
theorem dX7_tell_40 : decode cX7_tell 40 = .ok (.invokevirtual 214, 3) := by decide +kernel
theorem dX7_tell_43 : decode cX7_tell 43 = .ok (.invokevirtual 228, 3) := by decide +kernel
theorem dX7_tell_46 : decode cX7_tell 46 = .ok (.ireturn, 1) := by decide +kernel
set_option maxRecDepth 20000 in
theorem ggX7_note_X4_hasShip : GoodIn wsX7_note wsX4_hasShip := goodIn_r _ [7, 8, 57, 58, 59, 60, 61, 62, 63, 64, 65, 66, 67] (by decide +kernel) (by decide +kernel)
set_option maxRecDepth 20000 in
theorem gX7_note_X4_hasShip : GoodIn wsX7_note (wsV RX7 119 RX4 yX4_hasShip wsX4_hasShip) := goodIn_app (goodIn_of _ (by decide +kernel)) ggX7_note_X4_hasShip
set_option maxRecDepth 20000 in
theorem ggX7_note_X7_isDistance : GoodIn wsX7_note wsX7_isDistance := goodIn_r _ [12, 13, 14, 11, 15] (by decide +kernel) (by decide +kernel)
set_option maxRecDepth 20000 in
theorem gX7_note_X7_isDistance : GoodIn wsX7_note (va_wsS RX7 176 yX7_isDistance wsX7_isDistance) := goodIn_app (goodIn_of _ (by decide +kernel)) ggX7_note_X7_isDistance
set_option maxRecDepth 20000 in
theorem ggX7_note_X7_within : GoodIn wsX7_note wsX7_within := goodIn_r _ [15] (by decide +kernel) (by decide +kernel)
set_option maxRecDepth 20000 in
theorem gX7_note_X7_within : GoodIn wsX7_note (va_wsS RX7 91 yX7_within wsX7_within) := goodIn_app (goodIn_of _ (by decide +kernel)) ggX7_note_X7_within
set_option maxRecDepth 20000 in
theorem ggX7_note_X7_refuse : GoodIn wsX7_note wsX7_refuse := goodIn_r _ [19, 20, 21, 22, 44, 45, 46, 47, 48, 49, 50, 51, 52, 53, 54, 55, 56] (by decide +kernel) (by decide +kernel)
set_option maxRecDepth 20000 in
theorem gX7_note_X7_refuse : GoodIn wsX7_note (wsV RX7 81 RX7 yX7_refuse wsX7_refuse) := goodIn_app (goodIn_of _ (by decide +kernel)) ggX7_note_X7_refuse
set_option maxRecDepth 20000 in
theorem ggX7_note_X7_addTo : GoodIn wsX7_note wsX7_addTo := goodIn_r _ [26, 27, 28, 29, 30, 31, 32, 33, 16, 17, 18, 11, 19, 20, 21, 22, 34, 35, 36, 37, 38, 39, 40, 41, 42, 43, 68, 69, 70, 44, 45, 46, 47, 48, 49, 50, 51, 52, 53, 54, 55, 56] (by decide +kernel) (by decide +kernel)
set_option maxRecDepth 20000 in
theorem gX7_note_X7_addTo : GoodIn wsX7_note (wsV RX7 210 RX7 yX7_addTo wsX7_addTo) := goodIn_app (goodIn_of _ (by decide +kernel)) ggX7_note_X7_addTo
theorem dX7_note_0 : decode cX7_note 0 = .ok (.aload_n 0, 1) := by decide +kernel
theorem dX7_note_1 : decode cX7_note 1 = .ok (.getfield 10, 3) := by decide +kernel
theorem dX7_note_4 : decode cX7_note 4 = .ok (.iload_n 1, 1) := by decide +kernel
theorem dX7_note_5 : decode cX7_note 5 = .ok (.invokevirtual 119, 3) := by decide +kernel
theorem dX7_note_8 : decode cX7_note 8 = .ok (.ifCond .eq 31, 3) := by decide +kernel
theorem dX7_note_11 : decode cX7_note 11 = .ok (.iload_n 2, 1) := by decide +kernel
theorem dX7_note_12 : decode cX7_note 12 = .ok (.invokestatic 176, 3) := by decide +kernel
theorem dX7_note_15 : decode cX7_note 15 = .ok (.ifCond .eq 24, 3) := by decide +kernel
theorem dX7_note_18 : decode cX7_note 18 = .ok (.iload_n 3, 1) := by decide +kernel
theorem dX7_note_19 : decode cX7_note 19 = .ok (.iconst 0, 1) := by decide +kernel
theorem dX7_note_20 : decode cX7_note 20 = .ok (.bipush 8, 2) := by decide +kernel
theorem dX7_note_22 : decode cX7_note 22 = .ok (.invokestatic 91, 3) := by decide +kernel
theorem dX7_note_25 : decode cX7_note 25 = .ok (.ifCond .eq 14, 3) := by decide +kernel
theorem dX7_note_28 : decode cX7_note 28 = .ok (.iload 4, 2) := by decide +kernel
theorem dX7_note_30 : decode cX7_note 30 = .ok (.iconst 0, 1) := by decide +kernel
theorem dX7_note_31 : decode cX7_note 31 = .ok (.bipush 99, 2) := by decide +kernel
theorem dX7_note_33 : decode cX7_note 33 = .ok (.invokestatic 91, 3) := by decide +kernel
theorem dX7_note_36 : decode cX7_note 36 = .ok (.ifCond .ne 10, 3) := by decide +kernel
theorem dX7_note_39 : decode cX7_note 39 = .ok (.aload_n 0, 1) := by decide +kernel
theorem dX7_note_40 : decode cX7_note 40 = .ok (.bipush (-2), 2) := by decide +kernel
theorem dX7_note_42 : decode cX7_note 42 = .ok (.invokevirtual 81, 3) := by decide +kernel
theorem dX7_note_45 : decode cX7_note 45 = .ok (.ireturn, 1) := by decide +kernel
theorem dX7_note_46 : decode cX7_note 46 = .ok (.aload_n 0, 1) := by decide +kernel
theorem dX7_note_47 : decode cX7_note 47 = .ok (.aload_n 0, 1) := by decide +kernel
theorem dX7_note_48 : decode cX7_note 48 = .ok (.getfield 10, 3) := by decide +kernel
theorem dX7_note_51 : decode cX7_note 51 = .ok (.getfield 232, 3) := by decide +kernel
theorem dX7_note_54 : decode cX7_note 54 = .ok (.iload_n 1, 1) := by decide +kernel
theorem dX7_note_55 : decode cX7_note 55 = .ok (.iload_n 2, 1) := by decide +kernel
theorem dX7_note_56 : decode cX7_note 56 = .ok (.iload_n 3, 1) := by decide +kernel
theorem dX7_note_57 : decode cX7_note 57 = .ok (.iload 4, 2) := by decide +kernel
theorem dX7_note_59 : decode cX7_note 59 = .ok (.invokevirtual 210, 3) := by decide +kernel
theorem dX7_note_62 : decode cX7_note 62 = .ok (.ireturn, 1) := by decide +kernel
set_option maxRecDepth 20000 in
theorem ggX7_mark_X4_hasMan : GoodIn wsX7_mark wsX4_hasMan := goodIn_r _ [7, 8, 54, 55, 56, 57, 58, 59, 60, 61, 62, 63, 64] (by decide +kernel) (by decide +kernel)
set_option maxRecDepth 20000 in
theorem gX7_mark_X4_hasMan : GoodIn wsX7_mark (wsV RX7 132 RX4 yX4_hasMan wsX4_hasMan) := goodIn_app (goodIn_of _ (by decide +kernel)) ggX7_mark_X4_hasMan
set_option maxRecDepth 20000 in
theorem ggX7_mark_X7_within : GoodIn wsX7_mark wsX7_within := goodIn_r _ [12] (by decide +kernel) (by decide +kernel)
set_option maxRecDepth 20000 in
theorem gX7_mark_X7_within : GoodIn wsX7_mark (va_wsS RX7 91 yX7_within wsX7_within) := goodIn_app (goodIn_of _ (by decide +kernel)) ggX7_mark_X7_within
set_option maxRecDepth 20000 in
theorem ggX7_mark_X7_refuse : GoodIn wsX7_mark wsX7_refuse := goodIn_r _ [16, 17, 18, 19, 41, 42, 43, 44, 45, 46, 47, 48, 49, 50, 51, 52, 53] (by decide +kernel) (by decide +kernel)
set_option maxRecDepth 20000 in
theorem gX7_mark_X7_refuse : GoodIn wsX7_mark (wsV RX7 81 RX7 yX7_refuse wsX7_refuse) := goodIn_app (goodIn_of _ (by decide +kernel)) ggX7_mark_X7_refuse
set_option maxRecDepth 20000 in
theorem ggX7_mark_X7_addTo : GoodIn wsX7_mark wsX7_addTo := goodIn_r _ [23, 24, 25, 26, 27, 28, 29, 30, 13, 14, 15, 11, 16, 17, 18, 19, 31, 32, 33, 34, 35, 36, 37, 38, 39, 40, 65, 66, 67, 41, 42, 43, 44, 45, 46, 47, 48, 49, 50, 51, 52, 53] (by decide +kernel) (by decide +kernel)
set_option maxRecDepth 20000 in
theorem gX7_mark_X7_addTo : GoodIn wsX7_mark (wsV RX7 210 RX7 yX7_addTo wsX7_addTo) := goodIn_app (goodIn_of _ (by decide +kernel)) ggX7_mark_X7_addTo
theorem dX7_mark_0 : decode cX7_mark 0 = .ok (.aload_n 0, 1) := by decide +kernel
theorem dX7_mark_1 : decode cX7_mark 1 = .ok (.getfield 10, 3) := by decide +kernel
theorem dX7_mark_4 : decode cX7_mark 4 = .ok (.iload_n 1, 1) := by decide +kernel
theorem dX7_mark_5 : decode cX7_mark 5 = .ok (.invokevirtual 132, 3) := by decide +kernel
theorem dX7_mark_8 : decode cX7_mark 8 = .ok (.ifCond .eq 34, 3) := by decide +kernel
theorem dX7_mark_11 : decode cX7_mark 11 = .ok (.iload_n 2, 1) := by decide +kernel
theorem dX7_mark_12 : decode cX7_mark 12 = .ok (.iconst 1, 1) := by decide +kernel
theorem dX7_mark_13 : decode cX7_mark 13 = .ok (.bipush 9, 2) := by decide +kernel
theorem dX7_mark_15 : decode cX7_mark 15 = .ok (.invokestatic 91, 3) := by decide +kernel
theorem dX7_mark_18 : decode cX7_mark 18 = .ok (.ifCond .eq 24, 3) := by decide +kernel
theorem dX7_mark_21 : decode cX7_mark 21 = .ok (.iload_n 3, 1) := by decide +kernel
theorem dX7_mark_22 : decode cX7_mark 22 = .ok (.iconst 0, 1) := by decide +kernel
theorem dX7_mark_23 : decode cX7_mark 23 = .ok (.bipush 99, 2) := by decide +kernel
theorem dX7_mark_25 : decode cX7_mark 25 = .ok (.invokestatic 91, 3) := by decide +kernel
theorem dX7_mark_28 : decode cX7_mark 28 = .ok (.ifCond .eq 14, 3) := by decide +kernel
theorem dX7_mark_31 : decode cX7_mark 31 = .ok (.iload 4, 2) := by decide +kernel
theorem dX7_mark_33 : decode cX7_mark 33 = .ok (.iconst 0, 1) := by decide +kernel
theorem dX7_mark_34 : decode cX7_mark 34 = .ok (.bipush 40, 2) := by decide +kernel
theorem dX7_mark_36 : decode cX7_mark 36 = .ok (.invokestatic 91, 3) := by decide +kernel
theorem dX7_mark_39 : decode cX7_mark 39 = .ok (.ifCond .ne 10, 3) := by decide +kernel
theorem dX7_mark_42 : decode cX7_mark 42 = .ok (.aload_n 0, 1) := by decide +kernel
theorem dX7_mark_43 : decode cX7_mark 43 = .ok (.bipush (-2), 2) := by decide +kernel
theorem dX7_mark_45 : decode cX7_mark 45 = .ok (.invokevirtual 81, 3) := by decide +kernel
theorem dX7_mark_48 : decode cX7_mark 48 = .ok (.ireturn, 1) := by decide +kernel
theorem dX7_mark_49 : decode cX7_mark 49 = .ok (.aload_n 0, 1) := by decide +kernel
theorem dX7_mark_50 : decode cX7_mark 50 = .ok (.aload_n 0, 1) := by decide +kernel
theorem dX7_mark_51 : decode cX7_mark 51 = .ok (.getfield 10, 3) := by decide +kernel
theorem dX7_mark_54 : decode cX7_mark 54 = .ok (.getfield 235, 3) := by decide +kernel
theorem dX7_mark_57 : decode cX7_mark 57 = .ok (.iload_n 1, 1) := by decide +kernel
theorem dX7_mark_58 : decode cX7_mark 58 = .ok (.iload_n 2, 1) := by decide +kernel
theorem dX7_mark_59 : decode cX7_mark 59 = .ok (.iload_n 3, 1) := by decide +kernel
theorem dX7_mark_60 : decode cX7_mark 60 = .ok (.iload 4, 2) := by decide +kernel
theorem dX7_mark_62 : decode cX7_mark 62 = .ok (.invokevirtual 210, 3) := by decide +kernel
theorem dX7_mark_65 : decode cX7_mark 65 = .ok (.ireturn, 1) := by decide +kernel
set_option maxRecDepth 20000 in
theorem ggX7_forget_X2_empty : GoodIn wsX7_forget wsX2_empty := goodIn_r _ [9, 10, 43, 44, 45] (by decide +kernel) (by decide +kernel)
set_option maxRecDepth 20000 in
theorem gX7_forget_X2_empty : GoodIn wsX7_forget (wsV RX7 238 RX2 yX2_empty wsX2_empty) := goodIn_app (goodIn_of _ (by decide +kernel)) ggX7_forget_X2_empty
set_option maxRecDepth 20000 in
theorem ggX7_forget_X7_refuse : GoodIn wsX7_forget wsX7_refuse := goodIn_r _ [15, 16, 17, 18, 19, 20, 21, 22, 23, 24, 25, 26, 27, 28, 29, 30, 31] (by decide +kernel) (by decide +kernel)
set_option maxRecDepth 20000 in
theorem gX7_forget_X7_refuse : GoodIn wsX7_forget (wsV RX7 81 RX7 yX7_refuse wsX7_refuse) := goodIn_app (goodIn_of _ (by decide +kernel)) ggX7_forget_X7_refuse
theorem dX7_forget_0 : decode cX7_forget 0 = .ok (.iload_n 1, 1) := by decide +kernel
theorem dX7_forget_1 : decode cX7_forget 1 = .ok (.tableswitch 60 0 2 #[27, 38, 49], 27) := by decide +kernel
theorem dX7_forget_28 : decode cX7_forget 28 = .ok (.aload_n 0, 1) := by decide +kernel
theorem dX7_forget_29 : decode cX7_forget 29 = .ok (.getfield 10, 3) := by decide +kernel
theorem dX7_forget_32 : decode cX7_forget 32 = .ok (.getfield 207, 3) := by decide +kernel
theorem dX7_forget_35 : decode cX7_forget 35 = .ok (.invokevirtual 238, 3) := by decide +kernel
theorem dX7_forget_38 : decode cX7_forget 38 = .ok (.ireturn, 1) := by decide +kernel
theorem dX7_forget_39 : decode cX7_forget 39 = .ok (.aload_n 0, 1) := by decide +kernel
theorem dX7_forget_40 : decode cX7_forget 40 = .ok (.getfield 10, 3) := by decide +kernel
theorem dX7_forget_43 : decode cX7_forget 43 = .ok (.getfield 232, 3) := by decide +kernel
theorem dX7_forget_46 : decode cX7_forget 46 = .ok (.invokevirtual 238, 3) := by decide +kernel
theorem dX7_forget_49 : decode cX7_forget 49 = .ok (.ireturn, 1) := by decide +kernel
theorem dX7_forget_50 : decode cX7_forget 50 = .ok (.aload_n 0, 1) := by decide +kernel
theorem dX7_forget_51 : decode cX7_forget 51 = .ok (.getfield 10, 3) := by decide +kernel
theorem dX7_forget_54 : decode cX7_forget 54 = .ok (.getfield 235, 3) := by decide +kernel
theorem dX7_forget_57 : decode cX7_forget 57 = .ok (.invokevirtual 238, 3) := by decide +kernel
theorem dX7_forget_60 : decode cX7_forget 60 = .ok (.ireturn, 1) := by decide +kernel
theorem dX7_forget_61 : decode cX7_forget 61 = .ok (.aload_n 0, 1) := by decide +kernel
theorem dX7_forget_62 : decode cX7_forget 62 = .ok (.bipush (-2), 2) := by decide +kernel
theorem dX7_forget_64 : decode cX7_forget 64 = .ok (.invokevirtual 81, 3) := by decide +kernel
theorem dX7_forget_67 : decode cX7_forget 67 = .ok (.ireturn, 1) := by decide +kernel
set_option maxRecDepth 20000 in
theorem ggX7_is_X4_hasShip : GoodIn wsX7_is wsX4_hasShip := goodIn_r _ [7, 8, 54, 55, 56, 57, 58, 59, 60, 61, 62, 63, 64] (by decide +kernel) (by decide +kernel)
set_option maxRecDepth 20000 in
theorem gX7_is_X4_hasShip : GoodIn wsX7_is (wsV RX7 119 RX4 yX4_hasShip wsX4_hasShip) := goodIn_app (goodIn_of _ (by decide +kernel)) ggX7_is_X4_hasShip
set_option maxRecDepth 20000 in
theorem ggX7_is_X3_shipKindsOf : GoodIn wsX7_is wsX3_shipKindsOf := goodIn_r _ [13, 14, 15, 16, 12, 17, 18, 19, 20, 21, 22, 23, 24, 25, 26, 27, 28, 29, 30, 31, 32, 54, 55, 56, 57, 58, 59, 60, 61, 62, 63, 64, 65, 66, 67] (by decide +kernel) (by decide +kernel)
set_option maxRecDepth 20000 in
theorem gX7_is_X3_shipKindsOf : GoodIn wsX7_is (wsV RX7 239 RX3 yX3_shipKindsOf wsX3_shipKindsOf) := goodIn_app (goodIn_of _ (by decide +kernel)) ggX7_is_X3_shipKindsOf
set_option maxRecDepth 20000 in
theorem ggX7_is_X7_refuse : GoodIn wsX7_is wsX7_refuse := goodIn_r _ [37, 38, 39, 40, 41, 42, 43, 44, 45, 46, 47, 48, 49, 50, 51, 52, 53] (by decide +kernel) (by decide +kernel)
set_option maxRecDepth 20000 in
theorem gX7_is_X7_refuse : GoodIn wsX7_is (wsV RX7 81 RX7 yX7_refuse wsX7_refuse) := goodIn_app (goodIn_of _ (by decide +kernel)) ggX7_is_X7_refuse
theorem dX7_is_0 : decode cX7_is 0 = .ok (.aload_n 0, 1) := by decide +kernel
theorem dX7_is_1 : decode cX7_is 1 = .ok (.getfield 10, 3) := by decide +kernel
theorem dX7_is_4 : decode cX7_is 4 = .ok (.iload_n 1, 1) := by decide +kernel
theorem dX7_is_5 : decode cX7_is 5 = .ok (.invokevirtual 119, 3) := by decide +kernel
theorem dX7_is_8 : decode cX7_is 8 = .ok (.ifCond .eq 18, 3) := by decide +kernel
theorem dX7_is_11 : decode cX7_is 11 = .ok (.aload_n 0, 1) := by decide +kernel
theorem dX7_is_12 : decode cX7_is 12 = .ok (.getfield 51, 3) := by decide +kernel
theorem dX7_is_15 : decode cX7_is 15 = .ok (.aload_n 0, 1) := by decide +kernel
theorem dX7_is_16 : decode cX7_is 16 = .ok (.getfield 10, 3) := by decide +kernel
theorem dX7_is_19 : decode cX7_is 19 = .ok (.iload_n 1, 1) := by decide +kernel
theorem dX7_is_20 : decode cX7_is 20 = .ok (.invokevirtual 239, 3) := by decide +kernel
theorem dX7_is_23 : decode cX7_is 23 = .ok (.goto 9, 3) := by decide +kernel
theorem dX7_is_26 : decode cX7_is 26 = .ok (.aload_n 0, 1) := by decide +kernel
theorem dX7_is_27 : decode cX7_is 27 = .ok (.bipush (-2), 2) := by decide +kernel
theorem dX7_is_29 : decode cX7_is 29 = .ok (.invokevirtual 81, 3) := by decide +kernel
theorem dX7_is_32 : decode cX7_is 32 = .ok (.ireturn, 1) := by decide +kernel
set_option maxRecDepth 20000 in
theorem ggX7_look_X4_hasShip : GoodIn wsX7_look wsX4_hasShip := goodIn_r _ [7, 8, 67, 68, 69, 70, 71, 72, 73, 74, 75, 76, 77] (by decide +kernel) (by decide +kernel)
set_option maxRecDepth 20000 in
theorem gX7_look_X4_hasShip : GoodIn wsX7_look (wsV RX7 119 RX4 yX4_hasShip wsX4_hasShip) := goodIn_app (goodIn_of _ (by decide +kernel)) ggX7_look_X4_hasShip
set_option maxRecDepth 20000 in
theorem ggX7_look_X3_shipKindsOf : GoodIn wsX7_look wsX3_shipKindsOf := goodIn_r _ [13, 14, 15, 16, 12, 17, 18, 19, 20, 21, 22, 23, 24, 25, 26, 27, 28, 29, 30, 31, 32, 67, 68, 69, 70, 71, 72, 73, 74, 75, 76, 77, 78, 79, 80] (by decide +kernel) (by decide +kernel)
set_option maxRecDepth 20000 in
theorem gX7_look_X3_shipKindsOf : GoodIn wsX7_look (wsV RX7 239 RX3 yX3_shipKindsOf wsX3_shipKindsOf) := goodIn_app (goodIn_of _ (by decide +kernel)) ggX7_look_X3_shipKindsOf
set_option maxRecDepth 20000 in
theorem ggX7_look_X3_bestNote : GoodIn wsX7_look wsX3_bestNote := goodIn_r _ [36, 37, 29, 30, 31, 32, 38, 39, 40, 12, 41, 42, 43, 44, 45, 81] (by decide +kernel) (by decide +kernel)
set_option maxRecDepth 20000 in
theorem gX7_look_X3_bestNote : GoodIn wsX7_look (wsV RX7 242 RX3 yX3_bestNote wsX3_bestNote) := goodIn_app (goodIn_of _ (by decide +kernel)) ggX7_look_X3_bestNote
set_option maxRecDepth 20000 in
theorem ggX7_look_X7_refuse : GoodIn wsX7_look wsX7_refuse := goodIn_r _ [50, 51, 52, 53, 54, 55, 56, 57, 58, 59, 60, 61, 62, 63, 64, 65, 66] (by decide +kernel) (by decide +kernel)
set_option maxRecDepth 20000 in
theorem gX7_look_X7_refuse : GoodIn wsX7_look (wsV RX7 81 RX7 yX7_refuse wsX7_refuse) := goodIn_app (goodIn_of _ (by decide +kernel)) ggX7_look_X7_refuse
theorem dX7_look_0 : decode cX7_look 0 = .ok (.aload_n 0, 1) := by decide +kernel
theorem dX7_look_1 : decode cX7_look 1 = .ok (.getfield 10, 3) := by decide +kernel
theorem dX7_look_4 : decode cX7_look 4 = .ok (.iload_n 1, 1) := by decide +kernel
theorem dX7_look_5 : decode cX7_look 5 = .ok (.invokevirtual 119, 3) := by decide +kernel
theorem dX7_look_8 : decode cX7_look 8 = .ok (.ifCond .eq 25, 3) := by decide +kernel
theorem dX7_look_11 : decode cX7_look 11 = .ok (.aload_n 0, 1) := by decide +kernel
theorem dX7_look_12 : decode cX7_look 12 = .ok (.getfield 51, 3) := by decide +kernel
theorem dX7_look_15 : decode cX7_look 15 = .ok (.aload_n 0, 1) := by decide +kernel
theorem dX7_look_16 : decode cX7_look 16 = .ok (.getfield 51, 3) := by decide +kernel
theorem dX7_look_19 : decode cX7_look 19 = .ok (.aload_n 0, 1) := by decide +kernel
theorem dX7_look_20 : decode cX7_look 20 = .ok (.getfield 10, 3) := by decide +kernel
theorem dX7_look_23 : decode cX7_look 23 = .ok (.iload_n 1, 1) := by decide +kernel
theorem dX7_look_24 : decode cX7_look 24 = .ok (.invokevirtual 239, 3) := by decide +kernel
theorem dX7_look_27 : decode cX7_look 27 = .ok (.invokevirtual 242, 3) := by decide +kernel
theorem dX7_look_30 : decode cX7_look 30 = .ok (.goto 9, 3) := by decide +kernel
theorem dX7_look_33 : decode cX7_look 33 = .ok (.aload_n 0, 1) := by decide +kernel
theorem dX7_look_34 : decode cX7_look 34 = .ok (.bipush (-2), 2) := by decide +kernel
theorem dX7_look_36 : decode cX7_look 36 = .ok (.invokevirtual 81, 3) := by decide +kernel
theorem dX7_look_39 : decode cX7_look 39 = .ok (.ireturn, 1) := by decide +kernel
set_option maxRecDepth 20000 in
theorem ggX7_kinds_X4_hasMan : GoodIn wsX7_kinds wsX4_hasMan := goodIn_r _ [7, 8, 54, 55, 56, 57, 58, 59, 60, 61, 62, 63, 64] (by decide +kernel) (by decide +kernel)
set_option maxRecDepth 20000 in
theorem gX7_kinds_X4_hasMan : GoodIn wsX7_kinds (wsV RX7 132 RX4 yX4_hasMan wsX4_hasMan) := goodIn_app (goodIn_of _ (by decide +kernel)) ggX7_kinds_X4_hasMan
set_option maxRecDepth 20000 in
theorem ggX7_kinds_X3_manKindsOf : GoodIn wsX7_kinds wsX3_manKindsOf := goodIn_r _ [13, 14, 15, 16, 12, 17, 18, 19, 20, 21, 22, 23, 24, 25, 26, 27, 28, 29, 30, 31, 32, 54, 55, 56, 57, 58, 59, 60, 61, 62, 63, 64, 65, 66, 67] (by decide +kernel) (by decide +kernel)
set_option maxRecDepth 20000 in
theorem gX7_kinds_X3_manKindsOf : GoodIn wsX7_kinds (wsV RX7 245 RX3 yX3_manKindsOf wsX3_manKindsOf) := goodIn_app (goodIn_of _ (by decide +kernel)) ggX7_kinds_X3_manKindsOf
set_option maxRecDepth 20000 in
theorem ggX7_kinds_X7_refuse : GoodIn wsX7_kinds wsX7_refuse := goodIn_r _ [37, 38, 39, 40, 41, 42, 43, 44, 45, 46, 47, 48, 49, 50, 51, 52, 53] (by decide +kernel) (by decide +kernel)
set_option maxRecDepth 20000 in
theorem gX7_kinds_X7_refuse : GoodIn wsX7_kinds (wsV RX7 81 RX7 yX7_refuse wsX7_refuse) := goodIn_app (goodIn_of _ (by decide +kernel)) ggX7_kinds_X7_refuse
theorem dX7_kinds_0 : decode cX7_kinds 0 = .ok (.aload_n 0, 1) := by decide +kernel
theorem dX7_kinds_1 : decode cX7_kinds 1 = .ok (.getfield 10, 3) := by decide +kernel
theorem dX7_kinds_4 : decode cX7_kinds 4 = .ok (.iload_n 1, 1) := by decide +kernel
theorem dX7_kinds_5 : decode cX7_kinds 5 = .ok (.invokevirtual 132, 3) := by decide +kernel
theorem dX7_kinds_8 : decode cX7_kinds 8 = .ok (.ifCond .eq 18, 3) := by decide +kernel
theorem dX7_kinds_11 : decode cX7_kinds 11 = .ok (.aload_n 0, 1) := by decide +kernel
theorem dX7_kinds_12 : decode cX7_kinds 12 = .ok (.getfield 51, 3) := by decide +kernel
theorem dX7_kinds_15 : decode cX7_kinds 15 = .ok (.aload_n 0, 1) := by decide +kernel
theorem dX7_kinds_16 : decode cX7_kinds 16 = .ok (.getfield 10, 3) := by decide +kernel
theorem dX7_kinds_19 : decode cX7_kinds 19 = .ok (.iload_n 1, 1) := by decide +kernel
theorem dX7_kinds_20 : decode cX7_kinds 20 = .ok (.invokevirtual 245, 3) := by decide +kernel
theorem dX7_kinds_23 : decode cX7_kinds 23 = .ok (.goto 9, 3) := by decide +kernel
theorem dX7_kinds_26 : decode cX7_kinds 26 = .ok (.aload_n 0, 1) := by decide +kernel
theorem dX7_kinds_27 : decode cX7_kinds 27 = .ok (.bipush (-2), 2) := by decide +kernel
theorem dX7_kinds_29 : decode cX7_kinds 29 = .ok (.invokevirtual 81, 3) := by decide +kernel
theorem dX7_kinds_32 : decode cX7_kinds 32 = .ok (.ireturn, 1) := by decide +kernel
set_option maxRecDepth 20000 in
theorem ggX7_ask_X4_hasMan : GoodIn wsX7_ask wsX4_hasMan := goodIn_r _ [8, 9, 68, 69, 70, 71, 72, 73, 74, 75, 76, 77, 78] (by decide +kernel) (by decide +kernel)
set_option maxRecDepth 20000 in
theorem gX7_ask_X4_hasMan : GoodIn wsX7_ask (wsV RX7 132 RX4 yX4_hasMan wsX4_hasMan) := goodIn_app (goodIn_of _ (by decide +kernel)) ggX7_ask_X4_hasMan
set_option maxRecDepth 20000 in
theorem ggX7_ask_X7_refuse : GoodIn wsX7_ask wsX7_refuse := goodIn_r _ [14, 15, 16, 17, 55, 56, 57, 58, 59, 60, 61, 62, 63, 64, 65, 66, 67] (by decide +kernel) (by decide +kernel)
set_option maxRecDepth 20000 in
theorem gX7_ask_X7_refuse : GoodIn wsX7_ask (wsV RX7 81 RX7 yX7_refuse wsX7_refuse) := goodIn_app (goodIn_of _ (by decide +kernel)) ggX7_ask_X7_refuse
set_option maxRecDepth 20000 in
theorem ggX7_ask_X3_manKindsOf : GoodIn wsX7_ask wsX3_manKindsOf := goodIn_r _ [22, 23, 24, 25, 21, 26, 27, 28, 29, 30, 31, 32, 33, 34, 35, 36, 37, 38, 39, 40, 41, 68, 69, 70, 71, 72, 73, 74, 75, 76, 77, 78, 79, 80, 81] (by decide +kernel) (by decide +kernel)
set_option maxRecDepth 20000 in
theorem gX7_ask_X3_manKindsOf : GoodIn wsX7_ask (wsV RX7 245 RX3 yX3_manKindsOf wsX3_manKindsOf) := goodIn_app (goodIn_of _ (by decide +kernel)) ggX7_ask_X3_manKindsOf
set_option maxRecDepth 20000 in
theorem ggX7_ask_X3_bestMark : GoodIn wsX7_ask wsX3_bestMark := goodIn_r _ [45, 46, 38, 39, 40, 41, 47, 48, 49, 21, 50, 51, 52, 53, 54, 82] (by decide +kernel) (by decide +kernel)
set_option maxRecDepth 20000 in
theorem gX7_ask_X3_bestMark : GoodIn wsX7_ask (wsV RX7 248 RX3 yX3_bestMark wsX3_bestMark) := goodIn_app (goodIn_of _ (by decide +kernel)) ggX7_ask_X3_bestMark
theorem dX7_ask_0 : decode cX7_ask 0 = .ok (.aload_n 0, 1) := by decide +kernel
theorem dX7_ask_1 : decode cX7_ask 1 = .ok (.getfield 10, 3) := by decide +kernel
theorem dX7_ask_4 : decode cX7_ask 4 = .ok (.iload_n 1, 1) := by decide +kernel
theorem dX7_ask_5 : decode cX7_ask 5 = .ok (.invokevirtual 132, 3) := by decide +kernel
theorem dX7_ask_8 : decode cX7_ask 8 = .ok (.ifCond .ne 10, 3) := by decide +kernel
theorem dX7_ask_11 : decode cX7_ask 11 = .ok (.aload_n 0, 1) := by decide +kernel
theorem dX7_ask_12 : decode cX7_ask 12 = .ok (.bipush (-2), 2) := by decide +kernel
theorem dX7_ask_14 : decode cX7_ask 14 = .ok (.invokevirtual 81, 3) := by decide +kernel
theorem dX7_ask_17 : decode cX7_ask 17 = .ok (.ireturn, 1) := by decide +kernel
theorem dX7_ask_18 : decode cX7_ask 18 = .ok (.aload_n 0, 1) := by decide +kernel
theorem dX7_ask_19 : decode cX7_ask 19 = .ok (.getfield 51, 3) := by decide +kernel
theorem dX7_ask_22 : decode cX7_ask 22 = .ok (.aload_n 0, 1) := by decide +kernel
theorem dX7_ask_23 : decode cX7_ask 23 = .ok (.getfield 10, 3) := by decide +kernel
theorem dX7_ask_26 : decode cX7_ask 26 = .ok (.getfield 158, 3) := by decide +kernel
theorem dX7_ask_29 : decode cX7_ask 29 = .ok (.iload_n 1, 1) := by decide +kernel
theorem dX7_ask_30 : decode cX7_ask 30 = .ok (.iaload, 1) := by decide +kernel
theorem dX7_ask_31 : decode cX7_ask 31 = .ok (.aload_n 0, 1) := by decide +kernel
theorem dX7_ask_32 : decode cX7_ask 32 = .ok (.getfield 51, 3) := by decide +kernel
theorem dX7_ask_35 : decode cX7_ask 35 = .ok (.aload_n 0, 1) := by decide +kernel
theorem dX7_ask_36 : decode cX7_ask 36 = .ok (.getfield 10, 3) := by decide +kernel
theorem dX7_ask_39 : decode cX7_ask 39 = .ok (.iload_n 1, 1) := by decide +kernel
theorem dX7_ask_40 : decode cX7_ask 40 = .ok (.invokevirtual 245, 3) := by decide +kernel
theorem dX7_ask_43 : decode cX7_ask 43 = .ok (.invokevirtual 248, 3) := by decide +kernel
theorem dX7_ask_46 : decode cX7_ask 46 = .ok (.ireturn, 1) := by decide +kernel
set_option maxRecDepth 20000 in
theorem ggX7_water_X4_hasShip : GoodIn wsX7_water wsX4_hasShip := goodIn_r _ [7, 8, 97, 98, 99, 100, 101, 102, 103, 104, 105, 106, 107] (by decide +kernel) (by decide +kernel)
set_option maxRecDepth 20000 in
theorem gX7_water_X4_hasShip : GoodIn wsX7_water (wsV RX7 119 RX4 yX4_hasShip wsX4_hasShip) := goodIn_app (goodIn_of _ (by decide +kernel)) ggX7_water_X4_hasShip
set_option maxRecDepth 20000 in
theorem ggX7_water_X7_isDistance : GoodIn wsX7_water wsX7_isDistance := goodIn_r _ [12, 13, 14, 11, 15] (by decide +kernel) (by decide +kernel)
set_option maxRecDepth 20000 in
theorem gX7_water_X7_isDistance : GoodIn wsX7_water (va_wsS RX7 176 yX7_isDistance wsX7_isDistance) := goodIn_app (goodIn_of _ (by decide +kernel)) ggX7_water_X7_isDistance
set_option maxRecDepth 20000 in
theorem ggX7_water_X7_refuse : GoodIn wsX7_water wsX7_refuse := goodIn_r _ [19, 20, 21, 22, 84, 85, 86, 87, 88, 89, 90, 91, 92, 93, 94, 95, 96] (by decide +kernel) (by decide +kernel)
set_option maxRecDepth 20000 in
theorem gX7_water_X7_refuse : GoodIn wsX7_water (wsV RX7 81 RX7 yX7_refuse wsX7_refuse) := goodIn_app (goodIn_of _ (by decide +kernel)) ggX7_water_X7_refuse
set_option maxRecDepth 20000 in
theorem ggX7_water_X4_takePlaces : GoodIn wsX7_water wsX4_takePlaces := goodIn_r _ [26, 8, 27, 28, 29, 30, 31, 32, 33, 34, 35, 36, 97, 98, 99, 100, 101, 102, 103, 104, 105, 106, 107] (by decide +kernel) (by decide +kernel)
set_option maxRecDepth 20000 in
theorem gX7_water_X4_takePlaces : GoodIn wsX7_water (wsV RX7 188 RX4 yX4_takePlaces wsX4_takePlaces) := goodIn_app (goodIn_of _ (by decide +kernel)) ggX7_water_X4_takePlaces
set_option maxRecDepth 20000 in
theorem ggX7_water_X4_leaveOne : GoodIn wsX7_water wsX4_leaveOne := goodIn_r _ [40, 36, 33, 41, 42, 43, 44, 45, 46, 47, 6, 48, 27, 34, 35, 49, 4, 5, 7, 8, 50, 51, 52, 53, 97, 98, 99, 100, 101, 102, 103, 104, 105, 106, 107] (by decide +kernel) (by decide +kernel)
set_option maxRecDepth 20000 in
theorem gX7_water_X4_leaveOne : GoodIn wsX7_water (wsV RX7 129 RX4 yX4_leaveOne wsX4_leaveOne) := goodIn_app (goodIn_of _ (by decide +kernel)) ggX7_water_X4_leaveOne
set_option maxRecDepth 20000 in
theorem ggX7_water_X7_gainByCalling : GoodIn wsX7_water wsX7_gainByCalling := goodIn_r _ [57, 2, 1, 58, 59, 60, 6, 61, 28, 62, 63, 64, 65, 66, 67, 68, 69, 27, 36, 70, 71, 72, 73, 74, 75, 76, 49, 4, 5, 7, 8, 77, 78, 79, 80, 35, 81, 82, 52, 83, 84, 85, 86, 87, 88, 89, 90, 91, 92, 93, 94, 95, 96, 97, 98, 99, 100, 101, 102, 103, 104, 105, 106, 107] (by decide +kernel) (by decide +kernel)
set_option maxRecDepth 20000 in
theorem gX7_water_X7_gainByCalling : GoodIn wsX7_water (wsV RX7 251 RX7 yX7_gainByCalling wsX7_gainByCalling) := goodIn_app (goodIn_of _ (by decide +kernel)) ggX7_water_X7_gainByCalling
theorem dX7_water_0 : decode cX7_water 0 = .ok (.aload_n 0, 1) := by decide +kernel
theorem dX7_water_1 : decode cX7_water 1 = .ok (.getfield 10, 3) := by decide +kernel
theorem dX7_water_4 : decode cX7_water 4 = .ok (.iload_n 1, 1) := by decide +kernel
theorem dX7_water_5 : decode cX7_water 5 = .ok (.invokevirtual 119, 3) := by decide +kernel
theorem dX7_water_8 : decode cX7_water 8 = .ok (.ifCond .eq 26, 3) := by decide +kernel
theorem dX7_water_11 : decode cX7_water 11 = .ok (.aload_n 0, 1) := by decide +kernel
theorem dX7_water_12 : decode cX7_water 12 = .ok (.getfield 10, 3) := by decide +kernel
theorem dX7_water_15 : decode cX7_water 15 = .ok (.iload_n 2, 1) := by decide +kernel
theorem dX7_water_16 : decode cX7_water 16 = .ok (.invokevirtual 119, 3) := by decide +kernel
theorem dX7_water_19 : decode cX7_water 19 = .ok (.ifCond .eq 15, 3) := by decide +kernel
theorem dX7_water_22 : decode cX7_water 22 = .ok (.iload_n 1, 1) := by decide +kernel
theorem dX7_water_23 : decode cX7_water 23 = .ok (.iload_n 2, 1) := by decide +kernel
theorem dX7_water_24 : decode cX7_water 24 = .ok (.if_icmp .eq 10, 3) := by decide +kernel
theorem dX7_water_27 : decode cX7_water 27 = .ok (.iload_n 3, 1) := by decide +kernel
theorem dX7_water_28 : decode cX7_water 28 = .ok (.invokestatic 176, 3) := by decide +kernel
theorem dX7_water_31 : decode cX7_water 31 = .ok (.ifCond .ne 10, 3) := by decide +kernel
theorem dX7_water_34 : decode cX7_water 34 = .ok (.aload_n 0, 1) := by decide +kernel
theorem dX7_water_35 : decode cX7_water 35 = .ok (.bipush (-2), 2) := by decide +kernel
theorem dX7_water_37 : decode cX7_water 37 = .ok (.invokevirtual 81, 3) := by decide +kernel
theorem dX7_water_40 : decode cX7_water 40 = .ok (.ireturn, 1) := by decide +kernel
theorem dX7_water_41 : decode cX7_water 41 = .ok (.aload_n 0, 1) := by decide +kernel
theorem dX7_water_42 : decode cX7_water 42 = .ok (.getfield 16, 3) := by decide +kernel
theorem dX7_water_45 : decode cX7_water 45 = .ok (.aload_n 0, 1) := by decide +kernel
theorem dX7_water_46 : decode cX7_water 46 = .ok (.getfield 10, 3) := by decide +kernel
theorem dX7_water_49 : decode cX7_water 49 = .ok (.invokevirtual 188, 3) := by decide +kernel
theorem dX7_water_52 : decode cX7_water 52 = .ok (.aload_n 0, 1) := by decide +kernel
theorem dX7_water_53 : decode cX7_water 53 = .ok (.getfield 16, 3) := by decide +kernel
theorem dX7_water_56 : decode cX7_water 56 = .ok (.iload_n 1, 1) := by decide +kernel
theorem dX7_water_57 : decode cX7_water 57 = .ok (.invokevirtual 129, 3) := by decide +kernel
theorem dX7_water_60 : decode cX7_water 60 = .ok (.pop, 1) := by decide +kernel
theorem dX7_water_61 : decode cX7_water 61 = .ok (.aload_n 0, 1) := by decide +kernel
theorem dX7_water_62 : decode cX7_water 62 = .ok (.getfield 16, 3) := by decide +kernel
theorem dX7_water_65 : decode cX7_water 65 = .ok (.iload_n 2, 1) := by decide +kernel
theorem dX7_water_66 : decode cX7_water 66 = .ok (.invokevirtual 129, 3) := by decide +kernel
theorem dX7_water_69 : decode cX7_water 69 = .ok (.pop, 1) := by decide +kernel
theorem dX7_water_70 : decode cX7_water 70 = .ok (.aload_n 0, 1) := by decide +kernel
theorem dX7_water_71 : decode cX7_water 71 = .ok (.iload_n 1, 1) := by decide +kernel
theorem dX7_water_72 : decode cX7_water 72 = .ok (.iload_n 3, 1) := by decide +kernel
theorem dX7_water_73 : decode cX7_water 73 = .ok (.invokevirtual 251, 3) := by decide +kernel
theorem dX7_water_76 : decode cX7_water 76 = .ok (.istore 4, 2) := by decide +kernel
theorem dX7_water_78 : decode cX7_water 78 = .ok (.aload_n 0, 1) := by decide +kernel
theorem dX7_water_79 : decode cX7_water 79 = .ok (.iload_n 2, 1) := by decide +kernel
theorem dX7_water_80 : decode cX7_water 80 = .ok (.iload_n 3, 1) := by decide +kernel
theorem dX7_water_81 : decode cX7_water 81 = .ok (.invokevirtual 251, 3) := by decide +kernel
theorem dX7_water_84 : decode cX7_water 84 = .ok (.istore 5, 2) := by decide +kernel
theorem dX7_water_86 : decode cX7_water 86 = .ok (.iconst 0, 1) := by decide +kernel
theorem dX7_water_87 : decode cX7_water 87 = .ok (.istore 6, 2) := by decide +kernel
theorem dX7_water_89 : decode cX7_water 89 = .ok (.iload 4, 2) := by decide +kernel
theorem dX7_water_91 : decode cX7_water 91 = .ok (.ifCond .gt 14, 3) := by decide +kernel
theorem dX7_water_94 : decode cX7_water 94 = .ok (.iload 5, 2) := by decide +kernel
theorem dX7_water_96 : decode cX7_water 96 = .ok (.ifCond .gt 9, 3) := by decide +kernel
theorem dX7_water_99 : decode cX7_water 99 = .ok (.iload 6, 2) := by decide +kernel
theorem dX7_water_101 : decode cX7_water 101 = .ok (.iconst 1, 1) := by decide +kernel
theorem dX7_water_102 : decode cX7_water 102 = .ok (.ior, 1) := by decide +kernel
theorem dX7_water_103 : decode cX7_water 103 = .ok (.istore 6, 2) := by decide +kernel
theorem dX7_water_105 : decode cX7_water 105 = .ok (.iload 4, 2) := by decide +kernel
theorem dX7_water_107 : decode cX7_water 107 = .ok (.ifCond .lt 15, 3) := by decide +kernel
theorem dX7_water_110 : decode cX7_water 110 = .ok (.iload 5, 2) := by decide +kernel
theorem dX7_water_112 : decode cX7_water 112 = .ok (.iconst 3, 1) := by decide +kernel
theorem dX7_water_113 : decode cX7_water 113 = .ok (.if_icmp .gt 9, 3) := by decide +kernel
theorem dX7_water_116 : decode cX7_water 116 = .ok (.iload 6, 2) := by decide +kernel
theorem dX7_water_118 : decode cX7_water 118 = .ok (.iconst 2, 1) := by decide +kernel
theorem dX7_water_119 : decode cX7_water 119 = .ok (.ior, 1) := by decide +kernel
theorem dX7_water_120 : decode cX7_water 120 = .ok (.istore 6, 2) := by decide +kernel
theorem dX7_water_122 : decode cX7_water 122 = .ok (.iload 5, 2) := by decide +kernel
theorem dX7_water_124 : decode cX7_water 124 = .ok (.ifCond .lt 15, 3) := by decide +kernel
theorem dX7_water_127 : decode cX7_water 127 = .ok (.iload 4, 2) := by decide +kernel
theorem dX7_water_129 : decode cX7_water 129 = .ok (.iconst 3, 1) := by decide +kernel
theorem dX7_water_130 : decode cX7_water 130 = .ok (.if_icmp .gt 9, 3) := by decide +kernel
theorem dX7_water_133 : decode cX7_water 133 = .ok (.iload 6, 2) := by decide +kernel
theorem dX7_water_135 : decode cX7_water 135 = .ok (.iconst 4, 1) := by decide +kernel
theorem dX7_water_136 : decode cX7_water 136 = .ok (.ior, 1) := by decide +kernel
theorem dX7_water_137 : decode cX7_water 137 = .ok (.istore 6, 2) := by decide +kernel
theorem dX7_water_139 : decode cX7_water 139 = .ok (.iload 4, 2) := by decide +kernel
theorem dX7_water_141 : decode cX7_water 141 = .ok (.iconst 3, 1) := by decide +kernel
theorem dX7_water_142 : decode cX7_water 142 = .ok (.if_icmp .lt 16, 3) := by decide +kernel
theorem dX7_water_145 : decode cX7_water 145 = .ok (.iload 5, 2) := by decide +kernel
theorem dX7_water_147 : decode cX7_water 147 = .ok (.iconst 3, 1) := by decide +kernel
theorem dX7_water_148 : decode cX7_water 148 = .ok (.if_icmp .lt 10, 3) := by decide +kernel
theorem dX7_water_151 : decode cX7_water 151 = .ok (.iload 6, 2) := by decide +kernel
theorem dX7_water_153 : decode cX7_water 153 = .ok (.bipush 8, 2) := by decide +kernel
theorem dX7_water_155 : decode cX7_water 155 = .ok (.ior, 1) := by decide +kernel
theorem dX7_water_156 : decode cX7_water 156 = .ok (.istore 6, 2) := by decide +kernel
theorem dX7_water_158 : decode cX7_water 158 = .ok (.iload 6, 2) := by decide +kernel
theorem dX7_water_160 : decode cX7_water 160 = .ok (.ireturn, 1) := by decide +kernel
set_option maxRecDepth 20000 in
theorem ggX7_lots_X4_hasMan : GoodIn wsX7_lots wsX4_hasMan := goodIn_r _ [11, 12, 62, 63, 64, 65, 66, 67, 68, 69, 70, 71, 72] (by decide +kernel) (by decide +kernel)
set_option maxRecDepth 20000 in
theorem gX7_lots_X4_hasMan : GoodIn wsX7_lots (wsV RX7 132 RX4 yX4_hasMan wsX4_hasMan) := goodIn_app (goodIn_of _ (by decide +kernel)) ggX7_lots_X4_hasMan
set_option maxRecDepth 20000 in
theorem ggX7_lots_X7_within : GoodIn wsX7_lots wsX7_within := goodIn_r _ [16] (by decide +kernel) (by decide +kernel)
set_option maxRecDepth 20000 in
theorem gX7_lots_X7_within : GoodIn wsX7_lots (va_wsS RX7 91 yX7_within wsX7_within) := goodIn_app (goodIn_of _ (by decide +kernel)) ggX7_lots_X7_within
set_option maxRecDepth 20000 in
theorem ggX7_lots_X7_refuse : GoodIn wsX7_lots wsX7_refuse := goodIn_r _ [20, 21, 22, 23, 49, 50, 51, 52, 53, 54, 55, 56, 57, 58, 59, 60, 61] (by decide +kernel) (by decide +kernel)
set_option maxRecDepth 20000 in
theorem gX7_lots_X7_refuse : GoodIn wsX7_lots (wsV RX7 81 RX7 yX7_refuse wsX7_refuse) := goodIn_app (goodIn_of _ (by decide +kernel)) ggX7_lots_X7_refuse
set_option maxRecDepth 20000 in
theorem ggX7_lots_X4_menAt : GoodIn wsX7_lots wsX4_menAt := goodIn_r _ [27, 28, 29, 30, 10, 31, 12, 32, 33, 34, 35, 36, 37, 38, 39, 62, 63, 64, 65, 66, 67, 68, 69, 70, 71, 72] (by decide +kernel) (by decide +kernel)
set_option maxRecDepth 20000 in
theorem gX7_lots_X4_menAt : GoodIn wsX7_lots (wsV RX7 142 RX4 yX4_menAt wsX4_menAt) := goodIn_app (goodIn_of _ (by decide +kernel)) ggX7_lots_X4_menAt
set_option maxRecDepth 20000 in
theorem ggX7_lots_X7_keepFraction : GoodIn wsX7_lots wsX7_keepFraction := goodIn_r _ [43, 44, 45, 5, 46, 47, 48, 49, 50, 51, 52, 53, 54, 55, 56, 57, 58, 59, 60, 61] (by decide +kernel) (by decide +kernel)
set_option maxRecDepth 20000 in
theorem gX7_lots_X7_keepFraction : GoodIn wsX7_lots (wsV RX7 259 RX7 yX7_keepFraction wsX7_keepFraction) := goodIn_app (goodIn_of _ (by decide +kernel)) ggX7_lots_X7_keepFraction
theorem dX7_lots_0 : decode cX7_lots 0 = .ok (.aload_n 0, 1) := by decide +kernel
theorem dX7_lots_1 : decode cX7_lots 1 = .ok (.getfield 10, 3) := by decide +kernel
theorem dX7_lots_4 : decode cX7_lots 4 = .ok (.iload_n 1, 1) := by decide +kernel
theorem dX7_lots_5 : decode cX7_lots 5 = .ok (.invokevirtual 132, 3) := by decide +kernel
theorem dX7_lots_8 : decode cX7_lots 8 = .ok (.ifCond .eq 13, 3) := by decide +kernel
theorem dX7_lots_11 : decode cX7_lots 11 = .ok (.iload_n 2, 1) := by decide +kernel
theorem dX7_lots_12 : decode cX7_lots 12 = .ok (.iconst 0, 1) := by decide +kernel
theorem dX7_lots_13 : decode cX7_lots 13 = .ok (.bipush 8, 2) := by decide +kernel
theorem dX7_lots_15 : decode cX7_lots 15 = .ok (.invokestatic 91, 3) := by decide +kernel
theorem dX7_lots_18 : decode cX7_lots 18 = .ok (.ifCond .ne 10, 3) := by decide +kernel
theorem dX7_lots_21 : decode cX7_lots 21 = .ok (.aload_n 0, 1) := by decide +kernel
theorem dX7_lots_22 : decode cX7_lots 22 = .ok (.bipush (-2), 2) := by decide +kernel
theorem dX7_lots_24 : decode cX7_lots 24 = .ok (.invokevirtual 81, 3) := by decide +kernel
theorem dX7_lots_27 : decode cX7_lots 27 = .ok (.ireturn, 1) := by decide +kernel
theorem dX7_lots_28 : decode cX7_lots 28 = .ok (.aload_n 0, 1) := by decide +kernel
theorem dX7_lots_29 : decode cX7_lots 29 = .ok (.getfield 10, 3) := by decide +kernel
theorem dX7_lots_32 : decode cX7_lots 32 = .ok (.getfield 135, 3) := by decide +kernel
theorem dX7_lots_35 : decode cX7_lots 35 = .ok (.iload_n 1, 1) := by decide +kernel
theorem dX7_lots_36 : decode cX7_lots 36 = .ok (.iaload, 1) := by decide +kernel
theorem dX7_lots_37 : decode cX7_lots 37 = .ok (.istore_n 3, 1) := by decide +kernel
theorem dX7_lots_38 : decode cX7_lots 38 = .ok (.iload_n 3, 1) := by decide +kernel
theorem dX7_lots_39 : decode cX7_lots 39 = .ok (.iconst (-1), 1) := by decide +kernel
theorem dX7_lots_40 : decode cX7_lots 40 = .ok (.if_icmp .ne 10, 3) := by decide +kernel
theorem dX7_lots_43 : decode cX7_lots 43 = .ok (.aload_n 0, 1) := by decide +kernel
theorem dX7_lots_44 : decode cX7_lots 44 = .ok (.bipush (-3), 2) := by decide +kernel
theorem dX7_lots_46 : decode cX7_lots 46 = .ok (.invokevirtual 81, 3) := by decide +kernel
theorem dX7_lots_49 : decode cX7_lots 49 = .ok (.ireturn, 1) := by decide +kernel
theorem dX7_lots_50 : decode cX7_lots 50 = .ok (.aload_n 0, 1) := by decide +kernel
theorem dX7_lots_51 : decode cX7_lots 51 = .ok (.getfield 10, 3) := by decide +kernel
theorem dX7_lots_54 : decode cX7_lots 54 = .ok (.iload_n 3, 1) := by decide +kernel
theorem dX7_lots_55 : decode cX7_lots 55 = .ok (.invokevirtual 142, 3) := by decide +kernel
theorem dX7_lots_58 : decode cX7_lots 58 = .ok (.istore 4, 2) := by decide +kernel
theorem dX7_lots_60 : decode cX7_lots 60 = .ok (.aload_n 0, 1) := by decide +kernel
theorem dX7_lots_61 : decode cX7_lots 61 = .ok (.iload_n 2, 1) := by decide +kernel
theorem dX7_lots_62 : decode cX7_lots 62 = .ok (.iload 4, 2) := by decide +kernel
theorem dX7_lots_64 : decode cX7_lots 64 = .ok (.invokestatic 254, 3) := by decide +kernel
theorem dX7_lots_67 : decode cX7_lots 67 = .ok (.iload 4, 2) := by decide +kernel
theorem dX7_lots_69 : decode cX7_lots 69 = .ok (.invokevirtual 259, 3) := by decide +kernel
theorem dX7_lots_72 : decode cX7_lots 72 = .ok (.iconst 1, 1) := by decide +kernel
theorem dX7_lots_73 : decode cX7_lots 73 = .ok (.ireturn, 1) := by decide +kernel
set_option maxRecDepth 20000 in
theorem ggX7_centuries_X7_within : GoodIn wsX7_centuries wsX7_within := goodIn_r _ [14] (by decide +kernel) (by decide +kernel)
set_option maxRecDepth 20000 in
theorem gX7_centuries_X7_within : GoodIn wsX7_centuries (va_wsS RX7 91 yX7_within wsX7_within) := goodIn_app (goodIn_of _ (by decide +kernel)) ggX7_centuries_X7_within
set_option maxRecDepth 20000 in
theorem ggX7_centuries_X7_refuse : GoodIn wsX7_centuries wsX7_refuse := goodIn_r _ [18, 19, 20, 21, 74, 75, 76, 77, 78, 79, 80, 81, 82, 83, 84, 85, 86] (by decide +kernel) (by decide +kernel)
set_option maxRecDepth 20000 in
theorem gX7_centuries_X7_refuse : GoodIn wsX7_centuries (wsV RX7 81 RX7 yX7_refuse wsX7_refuse) := goodIn_app (goodIn_of _ (by decide +kernel)) ggX7_centuries_X7_refuse
set_option maxRecDepth 20000 in
theorem ggX7_centuries_X4_takePlaces : GoodIn wsX7_centuries wsX4_takePlaces := goodIn_r _ [26, 27, 28, 29, 30, 31, 32, 33, 34, 35, 36, 37, 87, 88, 89, 90, 91, 92, 93, 94, 95, 96, 97] (by decide +kernel) (by decide +kernel)
set_option maxRecDepth 20000 in
theorem gX7_centuries_X4_takePlaces : GoodIn wsX7_centuries (wsV RX7 188 RX4 yX4_takePlaces wsX4_takePlaces) := goodIn_app (goodIn_of _ (by decide +kernel)) ggX7_centuries_X4_takePlaces
set_option maxRecDepth 20000 in
theorem ggX7_centuries_X4_passYears : GoodIn wsX7_centuries wsX4_passYears := goodIn_r _ [41, 37, 42, 43, 44, 25, 45, 27, 46, 47, 48, 49, 34, 50, 51, 52, 53, 54, 55, 56, 57, 28, 35, 36, 58, 59, 60, 61, 62, 63, 64, 65, 66, 67, 68, 69, 87, 88, 89, 90, 91, 92, 93, 94, 95, 96, 97] (by decide +kernel) (by decide +kernel)
set_option maxRecDepth 20000 in
theorem gX7_centuries_X4_passYears : GoodIn wsX7_centuries (wsV RX7 277 RX4 yX4_passYears wsX4_passYears) := goodIn_app (goodIn_of _ (by decide +kernel)) ggX7_centuries_X4_passYears
set_option maxRecDepth 20000 in
theorem ggX7_centuries_X4_skillsAt : GoodIn wsX7_centuries wsX4_skillsAt := goodIn_r _ [73, 28, 37, 36, 87, 88, 89, 90, 91, 92, 93, 94, 95, 96, 97] (by decide +kernel) (by decide +kernel)
set_option maxRecDepth 20000 in
theorem gX7_centuries_X4_skillsAt : GoodIn wsX7_centuries (wsV RX7 173 RX4 yX4_skillsAt wsX4_skillsAt) := goodIn_app (goodIn_of _ (by decide +kernel)) ggX7_centuries_X4_skillsAt
theorem dX7_centuries_0 : decode cX7_centuries 0 = .ok (.iload_n 1, 1) := by decide +kernel
theorem dX7_centuries_1 : decode cX7_centuries 1 = .ok (.iconst 0, 1) := by decide +kernel
theorem dX7_centuries_2 : decode cX7_centuries 2 = .ok (.ldc_w 262, 3) := by decide +kernel
theorem dX7_centuries_5 : decode cX7_centuries 5 = .ok (.invokestatic 91, 3) := by decide +kernel
theorem dX7_centuries_8 : decode cX7_centuries 8 = .ok (.ifCond .eq 13, 3) := by decide +kernel
theorem dX7_centuries_11 : decode cX7_centuries 11 = .ok (.iload_n 2, 1) := by decide +kernel
theorem dX7_centuries_12 : decode cX7_centuries 12 = .ok (.iconst 0, 1) := by decide +kernel
theorem dX7_centuries_13 : decode cX7_centuries 13 = .ok (.bipush 60, 2) := by decide +kernel
theorem dX7_centuries_15 : decode cX7_centuries 15 = .ok (.invokestatic 91, 3) := by decide +kernel
theorem dX7_centuries_18 : decode cX7_centuries 18 = .ok (.ifCond .ne 10, 3) := by decide +kernel
theorem dX7_centuries_21 : decode cX7_centuries 21 = .ok (.aload_n 0, 1) := by decide +kernel
theorem dX7_centuries_22 : decode cX7_centuries 22 = .ok (.bipush (-2), 2) := by decide +kernel
theorem dX7_centuries_24 : decode cX7_centuries 24 = .ok (.invokevirtual 81, 3) := by decide +kernel
theorem dX7_centuries_27 : decode cX7_centuries 27 = .ok (.ireturn, 1) := by decide +kernel
theorem dX7_centuries_28 : decode cX7_centuries 28 = .ok (.aload_n 0, 1) := by decide +kernel
theorem dX7_centuries_29 : decode cX7_centuries 29 = .ok (.getfield 16, 3) := by decide +kernel
theorem dX7_centuries_32 : decode cX7_centuries 32 = .ok (.aload_n 0, 1) := by decide +kernel
theorem dX7_centuries_33 : decode cX7_centuries 33 = .ok (.getfield 10, 3) := by decide +kernel
theorem dX7_centuries_36 : decode cX7_centuries 36 = .ok (.invokevirtual 188, 3) := by decide +kernel
theorem dX7_centuries_39 : decode cX7_centuries 39 = .ok (.iload_n 1, 1) := by decide +kernel
theorem dX7_centuries_40 : decode cX7_centuries 40 = .ok (.i2l, 1) := by decide +kernel
theorem dX7_centuries_41 : decode cX7_centuries 41 = .ok (.lstore_n 3, 1) := by decide +kernel
theorem dX7_centuries_42 : decode cX7_centuries 42 = .ok (.iconst 0, 1) := by decide +kernel
theorem dX7_centuries_43 : decode cX7_centuries 43 = .ok (.istore 5, 2) := by decide +kernel
theorem dX7_centuries_45 : decode cX7_centuries 45 = .ok (.iload 5, 2) := by decide +kernel
theorem dX7_centuries_47 : decode cX7_centuries 47 = .ok (.iload_n 2, 1) := by decide +kernel
theorem dX7_centuries_48 : decode cX7_centuries 48 = .ok (.if_icmp .ge 50, 3) := by decide +kernel
theorem dX7_centuries_51 : decode cX7_centuries 51 = .ok (.lload_n 3, 1) := by decide +kernel
theorem dX7_centuries_52 : decode cX7_centuries 52 = .ok (.ldc2_w 263, 3) := by decide +kernel
theorem dX7_centuries_55 : decode cX7_centuries 55 = .ok (.lmul, 1) := by decide +kernel
theorem dX7_centuries_56 : decode cX7_centuries 56 = .ok (.ldc2_w 265, 3) := by decide +kernel
theorem dX7_centuries_59 : decode cX7_centuries 59 = .ok (.ladd, 1) := by decide +kernel
theorem dX7_centuries_60 : decode cX7_centuries 60 = .ok (.ldc2_w 267, 3) := by decide +kernel
theorem dX7_centuries_63 : decode cX7_centuries 63 = .ok (.lrem, 1) := by decide +kernel
theorem dX7_centuries_64 : decode cX7_centuries 64 = .ok (.lstore_n 3, 1) := by decide +kernel
theorem dX7_centuries_65 : decode cX7_centuries 65 = .ok (.aload_n 0, 1) := by decide +kernel
theorem dX7_centuries_66 : decode cX7_centuries 66 = .ok (.getfield 16, 3) := by decide +kernel
theorem dX7_centuries_69 : decode cX7_centuries 69 = .ok (.lload_n 3, 1) := by decide +kernel
theorem dX7_centuries_70 : decode cX7_centuries 70 = .ok (.ldc2_w 269, 3) := by decide +kernel
theorem dX7_centuries_73 : decode cX7_centuries 73 = .ok (.ldiv, 1) := by decide +kernel
theorem dX7_centuries_74 : decode cX7_centuries 74 = .ok (.ldc2_w 271, 3) := by decide +kernel
theorem dX7_centuries_77 : decode cX7_centuries 77 = .ok (.lrem, 1) := by decide +kernel
theorem dX7_centuries_78 : decode cX7_centuries 78 = .ok (.l2i, 1) := by decide +kernel
theorem dX7_centuries_79 : decode cX7_centuries 79 = .ok (.lload_n 3, 1) := by decide +kernel
theorem dX7_centuries_80 : decode cX7_centuries 80 = .ok (.ldc2_w 273, 3) := by decide +kernel
theorem dX7_centuries_83 : decode cX7_centuries 83 = .ok (.ldiv, 1) := by decide +kernel
theorem dX7_centuries_84 : decode cX7_centuries 84 = .ok (.ldc2_w 275, 3) := by decide +kernel
theorem dX7_centuries_87 : decode cX7_centuries 87 = .ok (.lrem, 1) := by decide +kernel
theorem dX7_centuries_88 : decode cX7_centuries 88 = .ok (.l2i, 1) := by decide +kernel
theorem dX7_centuries_89 : decode cX7_centuries 89 = .ok (.invokevirtual 277, 3) := by decide +kernel
theorem dX7_centuries_92 : decode cX7_centuries 92 = .ok (.iinc 5 1, 3) := by decide +kernel
theorem dX7_centuries_95 : decode cX7_centuries 95 = .ok (.goto (-50), 3) := by decide +kernel
theorem dX7_centuries_98 : decode cX7_centuries 98 = .ok (.aload_n 0, 1) := by decide +kernel
theorem dX7_centuries_99 : decode cX7_centuries 99 = .ok (.getfield 16, 3) := by decide +kernel
theorem dX7_centuries_102 : decode cX7_centuries 102 = .ok (.iconst (-1), 1) := by decide +kernel
theorem dX7_centuries_103 : decode cX7_centuries 103 = .ok (.invokevirtual 173, 3) := by decide +kernel
theorem dX7_centuries_106 : decode cX7_centuries 106 = .ok (.ireturn, 1) := by decide +kernel
set_option maxRecDepth 20000 in
theorem ggX7_part_X7_refuse : GoodIn wsX7_part wsX7_refuse := goodIn_r _ [7, 8, 9, 10, 11, 12, 13, 14, 15, 16, 17, 18, 19, 20, 21, 22, 23] (by decide +kernel) (by decide +kernel)
set_option maxRecDepth 20000 in
theorem gX7_part_X7_refuse : GoodIn wsX7_part (wsV RX7 81 RX7 yX7_refuse wsX7_refuse) := goodIn_app (goodIn_of _ (by decide +kernel)) ggX7_part_X7_refuse
theorem dX7_part_0 : decode cX7_part 0 = .ok (.iload_n 1, 1) := by decide +kernel
theorem dX7_part_1 : decode cX7_part 1 = .ok (.lookupswitch 39 #[(0, 27), (1, 33)], 27) := by decide +kernel
theorem dX7_part_28 : decode cX7_part 28 = .ok (.aload_n 0, 1) := by decide +kernel
theorem dX7_part_29 : decode cX7_part 29 = .ok (.getfield 55, 3) := by decide +kernel
theorem dX7_part_32 : decode cX7_part 32 = .ok (.i2l, 1) := by decide +kernel
theorem dX7_part_33 : decode cX7_part 33 = .ok (.lreturn, 1) := by decide +kernel
theorem dX7_part_34 : decode cX7_part 34 = .ok (.aload_n 0, 1) := by decide +kernel
theorem dX7_part_35 : decode cX7_part 35 = .ok (.getfield 59, 3) := by decide +kernel
theorem dX7_part_38 : decode cX7_part 38 = .ok (.i2l, 1) := by decide +kernel
theorem dX7_part_39 : decode cX7_part 39 = .ok (.lreturn, 1) := by decide +kernel
theorem dX7_part_40 : decode cX7_part 40 = .ok (.aload_n 0, 1) := by decide +kernel
theorem dX7_part_41 : decode cX7_part 41 = .ok (.bipush (-2), 2) := by decide +kernel
theorem dX7_part_43 : decode cX7_part 43 = .ok (.invokevirtual 81, 3) := by decide +kernel
theorem dX7_part_46 : decode cX7_part 46 = .ok (.i2l, 1) := by decide +kernel
theorem dX7_part_47 : decode cX7_part 47 = .ok (.lreturn, 1) := by decide +kernel
set_option maxRecDepth 20000 in
theorem ggX7_image_X7_within : GoodIn wsX7_image wsX7_within := goodIn_r _ [7] (by decide +kernel) (by decide +kernel)
set_option maxRecDepth 20000 in
theorem gX7_image_X7_within : GoodIn wsX7_image (va_wsS RX7 91 yX7_within wsX7_within) := goodIn_app (goodIn_of _ (by decide +kernel)) ggX7_image_X7_within
set_option maxRecDepth 20000 in
theorem ggX7_image_X7_refuse : GoodIn wsX7_image wsX7_refuse := goodIn_r _ [11, 12, 13, 14, 52, 53, 54, 55, 56, 57, 58, 59, 60, 61, 62, 63, 64] (by decide +kernel) (by decide +kernel)
set_option maxRecDepth 20000 in
theorem gX7_image_X7_refuse : GoodIn wsX7_image (wsV RX7 81 RX7 yX7_refuse wsX7_refuse) := goodIn_app (goodIn_of _ (by decide +kernel)) ggX7_image_X7_refuse
set_option maxRecDepth 20000 in
theorem ggX7_image_X4_take : GoodIn wsX7_image wsX4_take := goodIn_r _ [19, 20, 21, 22, 23, 24, 25, 26, 18, 27, 28, 29, 30, 31, 32, 33, 34, 35, 36, 37, 38, 39, 40, 41, 42, 43, 44, 45, 46, 47, 48, 49, 50, 51, 65, 66, 67, 68, 69, 70, 71, 72, 73, 74, 75, 76, 77, 78] (by decide +kernel) (by decide +kernel)
set_option maxRecDepth 20000 in
theorem gX7_image_X4_take : GoodIn wsX7_image (wsV RX7 115 RX4 yX4_take wsX4_take) := goodIn_app (goodIn_of _ (by decide +kernel)) ggX7_image_X4_take
theorem dX7_image_0 : decode cX7_image 0 = .ok (.iload_n 1, 1) := by decide +kernel
theorem dX7_image_1 : decode cX7_image 1 = .ok (.iconst 0, 1) := by decide +kernel
theorem dX7_image_2 : decode cX7_image 2 = .ok (.iconst 1, 1) := by decide +kernel
theorem dX7_image_3 : decode cX7_image 3 = .ok (.invokestatic 91, 3) := by decide +kernel
theorem dX7_image_6 : decode cX7_image 6 = .ok (.ifCond .ne 10, 3) := by decide +kernel
theorem dX7_image_9 : decode cX7_image 9 = .ok (.aload_n 0, 1) := by decide +kernel
theorem dX7_image_10 : decode cX7_image 10 = .ok (.bipush (-2), 2) := by decide +kernel
theorem dX7_image_12 : decode cX7_image 12 = .ok (.invokevirtual 81, 3) := by decide +kernel
theorem dX7_image_15 : decode cX7_image 15 = .ok (.ireturn, 1) := by decide +kernel
theorem dX7_image_16 : decode cX7_image 16 = .ok (.aload_n 0, 1) := by decide +kernel
theorem dX7_image_17 : decode cX7_image 17 = .ok (.getfield 19, 3) := by decide +kernel
theorem dX7_image_20 : decode cX7_image 20 = .ok (.iload_n 1, 1) := by decide +kernel
theorem dX7_image_21 : decode cX7_image 21 = .ok (.aaload, 1) := by decide +kernel
theorem dX7_image_22 : decode cX7_image 22 = .ok (.aload_n 0, 1) := by decide +kernel
theorem dX7_image_23 : decode cX7_image 23 = .ok (.getfield 10, 3) := by decide +kernel
theorem dX7_image_26 : decode cX7_image 26 = .ok (.invokevirtual 115, 3) := by decide +kernel
theorem dX7_image_29 : decode cX7_image 29 = .ok (.aload_n 0, 1) := by decide +kernel
theorem dX7_image_30 : decode cX7_image 30 = .ok (.getfield 23, 3) := by decide +kernel
theorem dX7_image_33 : decode cX7_image 33 = .ok (.iload_n 1, 1) := by decide +kernel
theorem dX7_image_34 : decode cX7_image 34 = .ok (.iconst 1, 1) := by decide +kernel
theorem dX7_image_35 : decode cX7_image 35 = .ok (.bastore, 1) := by decide +kernel
theorem dX7_image_36 : decode cX7_image 36 = .ok (.iconst 1, 1) := by decide +kernel
theorem dX7_image_37 : decode cX7_image 37 = .ok (.ireturn, 1) := by decide +kernel
set_option maxRecDepth 20000 in
theorem ggX7_from_X7_within : GoodIn wsX7_from wsX7_within := goodIn_r _ [7] (by decide +kernel) (by decide +kernel)
set_option maxRecDepth 20000 in
theorem gX7_from_X7_within : GoodIn wsX7_from (va_wsS RX7 91 yX7_within wsX7_within) := goodIn_app (goodIn_of _ (by decide +kernel)) ggX7_from_X7_within
set_option maxRecDepth 20000 in
theorem ggX7_from_X7_refuse : GoodIn wsX7_from wsX7_refuse := goodIn_r _ [11, 12, 13, 14, 52, 53, 54, 55, 56, 57, 58, 59, 60, 61, 62, 63, 64] (by decide +kernel) (by decide +kernel)
set_option maxRecDepth 20000 in
theorem gX7_from_X7_refuse : GoodIn wsX7_from (wsV RX7 81 RX7 yX7_refuse wsX7_refuse) := goodIn_app (goodIn_of _ (by decide +kernel)) ggX7_from_X7_refuse
set_option maxRecDepth 20000 in
theorem ggX7_from_X4_take : GoodIn wsX7_from wsX4_take := goodIn_r _ [19, 20, 21, 22, 23, 24, 25, 26, 18, 27, 28, 29, 30, 31, 32, 33, 34, 35, 36, 37, 38, 39, 40, 41, 42, 43, 44, 45, 46, 47, 48, 49, 50, 51, 65, 66, 67, 68, 69, 70, 71, 72, 73, 74, 75, 76, 77, 78] (by decide +kernel) (by decide +kernel)
set_option maxRecDepth 20000 in
theorem gX7_from_X4_take : GoodIn wsX7_from (wsV RX7 115 RX4 yX4_take wsX4_take) := goodIn_app (goodIn_of _ (by decide +kernel)) ggX7_from_X4_take
theorem dX7_from_0 : decode cX7_from 0 = .ok (.iload_n 1, 1) := by decide +kernel
theorem dX7_from_1 : decode cX7_from 1 = .ok (.iconst 0, 1) := by decide +kernel
theorem dX7_from_2 : decode cX7_from 2 = .ok (.iconst 1, 1) := by decide +kernel
theorem dX7_from_3 : decode cX7_from 3 = .ok (.invokestatic 91, 3) := by decide +kernel
theorem dX7_from_6 : decode cX7_from 6 = .ok (.ifCond .ne 10, 3) := by decide +kernel
theorem dX7_from_9 : decode cX7_from 9 = .ok (.aload_n 0, 1) := by decide +kernel
theorem dX7_from_10 : decode cX7_from 10 = .ok (.bipush (-2), 2) := by decide +kernel
theorem dX7_from_12 : decode cX7_from 12 = .ok (.invokevirtual 81, 3) := by decide +kernel
theorem dX7_from_15 : decode cX7_from 15 = .ok (.ireturn, 1) := by decide +kernel
theorem dX7_from_16 : decode cX7_from 16 = .ok (.aload_n 0, 1) := by decide +kernel
theorem dX7_from_17 : decode cX7_from 17 = .ok (.getfield 23, 3) := by decide +kernel
theorem dX7_from_20 : decode cX7_from 20 = .ok (.iload_n 1, 1) := by decide +kernel
theorem dX7_from_21 : decode cX7_from 21 = .ok (.baload, 1) := by decide +kernel
theorem dX7_from_22 : decode cX7_from 22 = .ok (.ifCond .ne 10, 3) := by decide +kernel
theorem dX7_from_25 : decode cX7_from 25 = .ok (.aload_n 0, 1) := by decide +kernel
theorem dX7_from_26 : decode cX7_from 26 = .ok (.bipush (-3), 2) := by decide +kernel
theorem dX7_from_28 : decode cX7_from 28 = .ok (.invokevirtual 81, 3) := by decide +kernel
theorem dX7_from_31 : decode cX7_from 31 = .ok (.ireturn, 1) := by decide +kernel
theorem dX7_from_32 : decode cX7_from 32 = .ok (.aload_n 0, 1) := by decide +kernel
theorem dX7_from_33 : decode cX7_from 33 = .ok (.getfield 10, 3) := by decide +kernel
theorem dX7_from_36 : decode cX7_from 36 = .ok (.aload_n 0, 1) := by decide +kernel
theorem dX7_from_37 : decode cX7_from 37 = .ok (.getfield 19, 3) := by decide +kernel
theorem dX7_from_40 : decode cX7_from 40 = .ok (.iload_n 1, 1) := by decide +kernel
theorem dX7_from_41 : decode cX7_from 41 = .ok (.aaload, 1) := by decide +kernel
theorem dX7_from_42 : decode cX7_from 42 = .ok (.invokevirtual 115, 3) := by decide +kernel
theorem dX7_from_45 : decode cX7_from 45 = .ok (.iconst 1, 1) := by decide +kernel
theorem dX7_from_46 : decode cX7_from 46 = .ok (.ireturn, 1) := by decide +kernel
set_option maxRecDepth 20000 in
theorem ggX7_status_X7_refuse : GoodIn wsX7_status wsX7_refuse := goodIn_r _ [8, 1, 2, 3, 9, 10, 11, 12, 13, 14, 15, 16, 17, 18, 19, 20, 21] (by decide +kernel) (by decide +kernel)
set_option maxRecDepth 20000 in
theorem gX7_status_X7_refuse : GoodIn wsX7_status (wsV RX7 81 RX7 yX7_refuse wsX7_refuse) := goodIn_app (goodIn_of _ (by decide +kernel)) ggX7_status_X7_refuse
theorem dX7_status_0 : decode cX7_status 0 = .ok (.iload_n 1, 1) := by decide +kernel
theorem dX7_status_1 : decode cX7_status 1 = .ok (.tableswitch 42 0 2 #[27, 32, 37], 27) := by decide +kernel
theorem dX7_status_28 : decode cX7_status 28 = .ok (.aload_n 0, 1) := by decide +kernel
theorem dX7_status_29 : decode cX7_status 29 = .ok (.getfield 62, 3) := by decide +kernel
theorem dX7_status_32 : decode cX7_status 32 = .ok (.ireturn, 1) := by decide +kernel
theorem dX7_status_33 : decode cX7_status 33 = .ok (.aload_n 0, 1) := by decide +kernel
theorem dX7_status_34 : decode cX7_status 34 = .ok (.getfield 65, 3) := by decide +kernel
theorem dX7_status_37 : decode cX7_status 37 = .ok (.ireturn, 1) := by decide +kernel
theorem dX7_status_38 : decode cX7_status 38 = .ok (.aload_n 0, 1) := by decide +kernel
theorem dX7_status_39 : decode cX7_status 39 = .ok (.getfield 68, 3) := by decide +kernel
theorem dX7_status_42 : decode cX7_status 42 = .ok (.ireturn, 1) := by decide +kernel
theorem dX7_status_43 : decode cX7_status 43 = .ok (.aload_n 0, 1) := by decide +kernel
theorem dX7_status_44 : decode cX7_status 44 = .ok (.bipush (-2), 2) := by decide +kernel
theorem dX7_status_46 : decode cX7_status 46 = .ok (.invokevirtual 81, 3) := by decide +kernel
theorem dX7_status_49 : decode cX7_status 49 = .ok (.pop, 1) := by decide +kernel
theorem dX7_status_50 : decode cX7_status 50 = .ok (.iconst (-1), 1) := by decide +kernel
theorem dX7_status_51 : decode cX7_status 51 = .ok (.ireturn, 1) := by decide +kernel
set_option maxRecDepth 20000 in
theorem ggX7_count_X7_within : GoodIn wsX7_count wsX7_within := goodIn_r _ [4] (by decide +kernel) (by decide +kernel)
set_option maxRecDepth 20000 in
theorem gX7_count_X7_within : GoodIn wsX7_count (va_wsS RX7 91 yX7_within wsX7_within) := goodIn_app (goodIn_of _ (by decide +kernel)) ggX7_count_X7_within
set_option maxRecDepth 20000 in
theorem ggX7_count_X7_howMany : GoodIn wsX7_count wsX7_howMany := goodIn_r _ [8, 9, 10, 11, 12, 13, 14, 15, 16, 17, 18, 19, 20, 21, 22, 23, 24, 25, 26, 27, 28, 29, 30, 31, 32, 33, 34, 35, 36, 37, 38, 39, 40, 41, 42, 43, 44, 45, 46, 47, 48, 49, 50, 51, 52, 53, 54, 55, 56, 57, 65, 66, 67, 68, 69, 70, 71, 72, 73, 74, 75, 76, 77, 78, 79, 80, 81, 82, 83, 84, 85, 86, 87, 88, 89, 90, 91, 92, 93, 94, 95, 96, 97] (by decide +kernel) (by decide +kernel)
set_option maxRecDepth 20000 in
theorem gX7_count_X7_howMany : GoodIn wsX7_count (wsV RX7 280 RX7 yX7_howMany wsX7_howMany) := goodIn_app (goodIn_of _ (by decide +kernel)) ggX7_count_X7_howMany
set_option maxRecDepth 20000 in
theorem ggX7_count_X7_refuse : GoodIn wsX7_count wsX7_refuse := goodIn_r _ [61, 62, 63, 64, 65, 66, 67, 68, 69, 70, 71, 72, 73, 74, 75, 76, 77] (by decide +kernel) (by decide +kernel)
set_option maxRecDepth 20000 in
theorem gX7_count_X7_refuse : GoodIn wsX7_count (wsV RX7 81 RX7 yX7_refuse wsX7_refuse) := goodIn_app (goodIn_of _ (by decide +kernel)) ggX7_count_X7_refuse
theorem dX7_count_0 : decode cX7_count 0 = .ok (.iload_n 1, 1) := by decide +kernel
theorem dX7_count_1 : decode cX7_count 1 = .ok (.iconst 0, 1) := by decide +kernel
theorem dX7_count_2 : decode cX7_count 2 = .ok (.bipush 9, 2) := by decide +kernel
theorem dX7_count_4 : decode cX7_count 4 = .ok (.invokestatic 91, 3) := by decide +kernel
theorem dX7_count_7 : decode cX7_count 7 = .ok (.ifCond .eq 11, 3) := by decide +kernel
theorem dX7_count_10 : decode cX7_count 10 = .ok (.aload_n 0, 1) := by decide +kernel
theorem dX7_count_11 : decode cX7_count 11 = .ok (.iload_n 1, 1) := by decide +kernel
theorem dX7_count_12 : decode cX7_count 12 = .ok (.invokevirtual 280, 3) := by decide +kernel
theorem dX7_count_15 : decode cX7_count 15 = .ok (.goto 9, 3) := by decide +kernel
theorem dX7_count_18 : decode cX7_count 18 = .ok (.aload_n 0, 1) := by decide +kernel
theorem dX7_count_19 : decode cX7_count 19 = .ok (.bipush (-2), 2) := by decide +kernel
theorem dX7_count_21 : decode cX7_count 21 = .ok (.invokevirtual 81, 3) := by decide +kernel
theorem dX7_count_24 : decode cX7_count 24 = .ok (.ireturn, 1) := by decide +kernel
set_option maxRecDepth 20000 in
theorem ggX7_digest_X7_howMany : GoodIn wsX7_digest wsX7_howMany := goodIn_r _ [10, 3, 11, 12, 13, 14, 15, 16, 17, 18, 19, 20, 21, 22, 23, 24, 25, 26, 27, 28, 29, 30, 31, 32, 33, 34, 35, 36, 37, 38, 39, 40, 41, 42, 43, 44, 45, 46, 47, 48, 49, 50, 51, 52, 53, 54, 55, 56, 57, 58, 75, 76, 77, 78, 79, 80, 81, 82, 83, 84, 85, 86, 87, 88, 89, 90, 91, 92, 93, 94, 95, 96, 97, 98, 99, 100, 101, 102, 103, 104, 105, 106, 107] (by decide +kernel) (by decide +kernel)
set_option maxRecDepth 20000 in
theorem gX7_digest_X7_howMany : GoodIn wsX7_digest (wsV RX7 280 RX7 yX7_howMany wsX7_howMany) := goodIn_app (goodIn_of _ (by decide +kernel)) ggX7_digest_X7_howMany
set_option maxRecDepth 20000 in
theorem ggX7_digest_X4_foldInto : GoodIn wsX7_digest wsX4_foldInto := goodIn_r _ [62, 45, 63, 64, 46, 27, 65, 40, 28, 66, 67, 68, 69, 70, 71, 50, 72, 52, 73, 74, 88, 89, 90, 91, 92, 93, 94, 95, 96, 97, 98, 99, 100, 101] (by decide +kernel) (by decide +kernel)
set_option maxRecDepth 20000 in
theorem gX7_digest_X4_foldInto : GoodIn wsX7_digest (wsV RX7 287 RX4 yX4_foldInto wsX4_foldInto) := goodIn_app (goodIn_of _ (by decide +kernel)) ggX7_digest_X4_foldInto
theorem dX7_digest_0 : decode cX7_digest 0 = .ok (.ldc2_w 283, 3) := by decide +kernel
theorem dX7_digest_3 : decode cX7_digest 3 = .ok (.lstore_n 1, 1) := by decide +kernel
theorem dX7_digest_4 : decode cX7_digest 4 = .ok (.iconst 0, 1) := by decide +kernel
theorem dX7_digest_5 : decode cX7_digest 5 = .ok (.istore_n 3, 1) := by decide +kernel
theorem dX7_digest_6 : decode cX7_digest 6 = .ok (.iload_n 3, 1) := by decide +kernel
theorem dX7_digest_7 : decode cX7_digest 7 = .ok (.bipush 10, 2) := by decide +kernel
theorem dX7_digest_9 : decode cX7_digest 9 = .ok (.if_icmp .ge 22, 3) := by decide +kernel
theorem dX7_digest_12 : decode cX7_digest 12 = .ok (.ldc2_w 285, 3) := by decide +kernel
theorem dX7_digest_15 : decode cX7_digest 15 = .ok (.lload_n 1, 1) := by decide +kernel
theorem dX7_digest_16 : decode cX7_digest 16 = .ok (.lmul, 1) := by decide +kernel
theorem dX7_digest_17 : decode cX7_digest 17 = .ok (.aload_n 0, 1) := by decide +kernel
theorem dX7_digest_18 : decode cX7_digest 18 = .ok (.iload_n 3, 1) := by decide +kernel
theorem dX7_digest_19 : decode cX7_digest 19 = .ok (.invokevirtual 280, 3) := by decide +kernel
theorem dX7_digest_22 : decode cX7_digest 22 = .ok (.i2l, 1) := by decide +kernel
theorem dX7_digest_23 : decode cX7_digest 23 = .ok (.ladd, 1) := by decide +kernel
theorem dX7_digest_24 : decode cX7_digest 24 = .ok (.lstore_n 1, 1) := by decide +kernel
theorem dX7_digest_25 : decode cX7_digest 25 = .ok (.iinc 3 1, 3) := by decide +kernel
theorem dX7_digest_28 : decode cX7_digest 28 = .ok (.goto (-22), 3) := by decide +kernel
theorem dX7_digest_31 : decode cX7_digest 31 = .ok (.aload_n 0, 1) := by decide +kernel
theorem dX7_digest_32 : decode cX7_digest 32 = .ok (.getfield 10, 3) := by decide +kernel
theorem dX7_digest_35 : decode cX7_digest 35 = .ok (.lload_n 1, 1) := by decide +kernel
theorem dX7_digest_36 : decode cX7_digest 36 = .ok (.invokevirtual 287, 3) := by decide +kernel
theorem dX7_digest_39 : decode cX7_digest 39 = .ok (.lstore_n 1, 1) := by decide +kernel
theorem dX7_digest_40 : decode cX7_digest 40 = .ok (.ldc2_w 285, 3) := by decide +kernel
theorem dX7_digest_43 : decode cX7_digest 43 = .ok (.lload_n 1, 1) := by decide +kernel
theorem dX7_digest_44 : decode cX7_digest 44 = .ok (.lmul, 1) := by decide +kernel
theorem dX7_digest_45 : decode cX7_digest 45 = .ok (.aload_n 0, 1) := by decide +kernel
theorem dX7_digest_46 : decode cX7_digest 46 = .ok (.getfield 55, 3) := by decide +kernel
theorem dX7_digest_49 : decode cX7_digest 49 = .ok (.i2l, 1) := by decide +kernel
theorem dX7_digest_50 : decode cX7_digest 50 = .ok (.ladd, 1) := by decide +kernel
theorem dX7_digest_51 : decode cX7_digest 51 = .ok (.lstore_n 1, 1) := by decide +kernel
theorem dX7_digest_52 : decode cX7_digest 52 = .ok (.ldc2_w 285, 3) := by decide +kernel
theorem dX7_digest_55 : decode cX7_digest 55 = .ok (.lload_n 1, 1) := by decide +kernel
theorem dX7_digest_56 : decode cX7_digest 56 = .ok (.lmul, 1) := by decide +kernel
theorem dX7_digest_57 : decode cX7_digest 57 = .ok (.aload_n 0, 1) := by decide +kernel
theorem dX7_digest_58 : decode cX7_digest 58 = .ok (.getfield 59, 3) := by decide +kernel
theorem dX7_digest_61 : decode cX7_digest 61 = .ok (.i2l, 1) := by decide +kernel
theorem dX7_digest_62 : decode cX7_digest 62 = .ok (.ladd, 1) := by decide +kernel
theorem dX7_digest_63 : decode cX7_digest 63 = .ok (.lreturn, 1) := by decide +kernel
theorem dX7_within_0 : decode cX7_within 0 = .ok (.iload_n 0, 1) := by decide +kernel
theorem dX7_within_1 : decode cX7_within 1 = .ok (.iload_n 1, 1) := by decide +kernel
theorem dX7_within_2 : decode cX7_within 2 = .ok (.if_icmp .lt 12, 3) := by decide +kernel
theorem dX7_within_5 : decode cX7_within 5 = .ok (.iload_n 0, 1) := by decide +kernel
theorem dX7_within_6 : decode cX7_within 6 = .ok (.iload_n 2, 1) := by decide +kernel
theorem dX7_within_7 : decode cX7_within 7 = .ok (.if_icmp .gt 7, 3) := by decide +kernel
theorem dX7_within_10 : decode cX7_within 10 = .ok (.iconst 1, 1) := by decide +kernel
theorem dX7_within_11 : decode cX7_within 11 = .ok (.goto 4, 3) := by decide +kernel
theorem dX7_within_14 : decode cX7_within 14 = .ok (.iconst 0, 1) := by decide +kernel
theorem dX7_within_15 : decode cX7_within 15 = .ok (.ireturn, 1) := by decide +kernel
set_option maxRecDepth 20000 in
theorem ggX7_isKind_X7_within : GoodIn wsX7_isKind wsX7_within := goodIn_r _ [4] (by decide +kernel) (by decide +kernel)
set_option maxRecDepth 20000 in
theorem gX7_isKind_X7_within : GoodIn wsX7_isKind (va_wsS RX7 91 yX7_within wsX7_within) := goodIn_app (goodIn_of _ (by decide +kernel)) ggX7_isKind_X7_within
theorem dX7_isKind_0 : decode cX7_isKind 0 = .ok (.iload_n 0, 1) := by decide +kernel
theorem dX7_isKind_1 : decode cX7_isKind 1 = .ok (.iconst 0, 1) := by decide +kernel
theorem dX7_isKind_2 : decode cX7_isKind 2 = .ok (.iconst 5, 1) := by decide +kernel
theorem dX7_isKind_3 : decode cX7_isKind 3 = .ok (.invokestatic 91, 3) := by decide +kernel
theorem dX7_isKind_6 : decode cX7_isKind 6 = .ok (.ireturn, 1) := by decide +kernel
set_option maxRecDepth 20000 in
theorem ggX7_isDistance_X7_within : GoodIn wsX7_isDistance wsX7_within := goodIn_r _ [4] (by decide +kernel) (by decide +kernel)
set_option maxRecDepth 20000 in
theorem gX7_isDistance_X7_within : GoodIn wsX7_isDistance (va_wsS RX7 91 yX7_within wsX7_within) := goodIn_app (goodIn_of _ (by decide +kernel)) ggX7_isDistance_X7_within
theorem dX7_isDistance_0 : decode cX7_isDistance 0 = .ok (.iload_n 0, 1) := by decide +kernel
theorem dX7_isDistance_1 : decode cX7_isDistance 1 = .ok (.iconst 1, 1) := by decide +kernel
theorem dX7_isDistance_2 : decode cX7_isDistance 2 = .ok (.bipush 30, 2) := by decide +kernel
theorem dX7_isDistance_4 : decode cX7_isDistance 4 = .ok (.invokestatic 91, 3) := by decide +kernel
theorem dX7_isDistance_7 : decode cX7_isDistance 7 = .ok (.ireturn, 1) := by decide +kernel
set_option maxRecDepth 20000 in
theorem ggX7_isShipOrNone_X4_hasShip : GoodIn wsX7_isShipOrNone wsX4_hasShip := goodIn_r _ [6, 7, 21, 22, 23, 24, 25, 26, 27, 28, 29, 30, 31] (by decide +kernel) (by decide +kernel)
set_option maxRecDepth 20000 in
theorem gX7_isShipOrNone_X4_hasShip : GoodIn wsX7_isShipOrNone (wsV RX7 119 RX4 yX4_hasShip wsX4_hasShip) := goodIn_app (goodIn_of _ (by decide +kernel)) ggX7_isShipOrNone_X4_hasShip
theorem dX7_isShipOrNone_0 : decode cX7_isShipOrNone 0 = .ok (.iload_n 1, 1) := by decide +kernel
theorem dX7_isShipOrNone_1 : decode cX7_isShipOrNone 1 = .ok (.iconst (-1), 1) := by decide +kernel
theorem dX7_isShipOrNone_2 : decode cX7_isShipOrNone 2 = .ok (.if_icmp .eq 14, 3) := by decide +kernel
theorem dX7_isShipOrNone_5 : decode cX7_isShipOrNone 5 = .ok (.aload_n 0, 1) := by decide +kernel
theorem dX7_isShipOrNone_6 : decode cX7_isShipOrNone 6 = .ok (.getfield 10, 3) := by decide +kernel
theorem dX7_isShipOrNone_9 : decode cX7_isShipOrNone 9 = .ok (.iload_n 1, 1) := by decide +kernel
theorem dX7_isShipOrNone_10 : decode cX7_isShipOrNone 10 = .ok (.invokevirtual 119, 3) := by decide +kernel
theorem dX7_isShipOrNone_13 : decode cX7_isShipOrNone 13 = .ok (.ifCond .eq 7, 3) := by decide +kernel
theorem dX7_isShipOrNone_16 : decode cX7_isShipOrNone 16 = .ok (.iconst 1, 1) := by decide +kernel
theorem dX7_isShipOrNone_17 : decode cX7_isShipOrNone 17 = .ok (.goto 4, 3) := by decide +kernel
theorem dX7_isShipOrNone_20 : decode cX7_isShipOrNone 20 = .ok (.iconst 0, 1) := by decide +kernel
theorem dX7_isShipOrNone_21 : decode cX7_isShipOrNone 21 = .ok (.ireturn, 1) := by decide +kernel
theorem dX7_refuse_0 : decode cX7_refuse 0 = .ok (.iload_n 1, 1) := by decide +kernel
theorem dX7_refuse_1 : decode cX7_refuse 1 = .ok (.bipush (-2), 2) := by decide +kernel
theorem dX7_refuse_3 : decode cX7_refuse 3 = .ok (.if_icmp .ne 16, 3) := by decide +kernel
theorem dX7_refuse_6 : decode cX7_refuse 6 = .ok (.aload_n 0, 1) := by decide +kernel
theorem dX7_refuse_7 : decode cX7_refuse 7 = .ok (.dup, 1) := by decide +kernel
theorem dX7_refuse_8 : decode cX7_refuse 8 = .ok (.getfield 62, 3) := by decide +kernel
theorem dX7_refuse_11 : decode cX7_refuse 11 = .ok (.iconst 1, 1) := by decide +kernel
theorem dX7_refuse_12 : decode cX7_refuse 12 = .ok (.iadd, 1) := by decide +kernel
theorem dX7_refuse_13 : decode cX7_refuse 13 = .ok (.putfield 62, 3) := by decide +kernel
theorem dX7_refuse_16 : decode cX7_refuse 16 = .ok (.goto 32, 3) := by decide +kernel
theorem dX7_refuse_19 : decode cX7_refuse 19 = .ok (.iload_n 1, 1) := by decide +kernel
theorem dX7_refuse_20 : decode cX7_refuse 20 = .ok (.bipush (-3), 2) := by decide +kernel
theorem dX7_refuse_22 : decode cX7_refuse 22 = .ok (.if_icmp .ne 16, 3) := by decide +kernel
theorem dX7_refuse_25 : decode cX7_refuse 25 = .ok (.aload_n 0, 1) := by decide +kernel
theorem dX7_refuse_26 : decode cX7_refuse 26 = .ok (.dup, 1) := by decide +kernel
theorem dX7_refuse_27 : decode cX7_refuse 27 = .ok (.getfield 65, 3) := by decide +kernel
theorem dX7_refuse_30 : decode cX7_refuse 30 = .ok (.iconst 1, 1) := by decide +kernel
theorem dX7_refuse_31 : decode cX7_refuse 31 = .ok (.iadd, 1) := by decide +kernel
theorem dX7_refuse_32 : decode cX7_refuse 32 = .ok (.putfield 65, 3) := by decide +kernel
theorem dX7_refuse_35 : decode cX7_refuse 35 = .ok (.goto 13, 3) := by decide +kernel
theorem dX7_refuse_38 : decode cX7_refuse 38 = .ok (.aload_n 0, 1) := by decide +kernel
theorem dX7_refuse_39 : decode cX7_refuse 39 = .ok (.dup, 1) := by decide +kernel
theorem dX7_refuse_40 : decode cX7_refuse 40 = .ok (.getfield 68, 3) := by decide +kernel
theorem dX7_refuse_43 : decode cX7_refuse 43 = .ok (.iconst 1, 1) := by decide +kernel
theorem dX7_refuse_44 : decode cX7_refuse 44 = .ok (.iadd, 1) := by decide +kernel
theorem dX7_refuse_45 : decode cX7_refuse 45 = .ok (.putfield 68, 3) := by decide +kernel
theorem dX7_refuse_48 : decode cX7_refuse 48 = .ok (.iload_n 1, 1) := by decide +kernel
theorem dX7_refuse_49 : decode cX7_refuse 49 = .ok (.ireturn, 1) := by decide +kernel
set_option maxRecDepth 20000 in
theorem ggX7_addTo_X2_isFull : GoodIn wsX7_addTo wsX2_isFull := goodIn_r _ [5, 6, 7, 26, 27, 28] (by decide +kernel) (by decide +kernel)
set_option maxRecDepth 20000 in
theorem gX7_addTo_X2_isFull : GoodIn wsX7_addTo (wsV RX7 291 RX2 yX2_isFull wsX2_isFull) := goodIn_app (goodIn_of _ (by decide +kernel)) ggX7_addTo_X2_isFull
set_option maxRecDepth 20000 in
theorem ggX7_addTo_X7_refuse : GoodIn wsX7_addTo wsX7_refuse := goodIn_r _ [12, 13, 14, 15, 29, 30, 31, 32, 33, 34, 35, 36, 37, 38, 39, 40, 41] (by decide +kernel) (by decide +kernel)
set_option maxRecDepth 20000 in
theorem gX7_addTo_X7_refuse : GoodIn wsX7_addTo (wsV RX7 81 RX7 yX7_refuse wsX7_refuse) := goodIn_app (goodIn_of _ (by decide +kernel)) ggX7_addTo_X7_refuse
set_option maxRecDepth 20000 in
theorem ggX7_addTo_X2_append : GoodIn wsX7_addTo wsX2_append := goodIn_r _ [19, 6, 20, 21, 2, 3, 4, 5, 7, 26, 27, 28] (by decide +kernel) (by decide +kernel)
set_option maxRecDepth 20000 in
theorem gX7_addTo_X2_append : GoodIn wsX7_addTo (wsV RX7 295 RX2 yX2_append wsX2_append) := goodIn_app (goodIn_of _ (by decide +kernel)) ggX7_addTo_X2_append
set_option maxRecDepth 20000 in
theorem ggX7_addTo_X2_size : GoodIn wsX7_addTo wsX2_size := goodIn_r _ [25, 6, 26, 27, 28] (by decide +kernel) (by decide +kernel)
set_option maxRecDepth 20000 in
theorem gX7_addTo_X2_size : GoodIn wsX7_addTo (wsV RX7 149 RX2 yX2_size wsX2_size) := goodIn_app (goodIn_of _ (by decide +kernel)) ggX7_addTo_X2_size
theorem dX7_addTo_0 : decode cX7_addTo 0 = .ok (.aload_n 1, 1) := by decide +kernel
theorem dX7_addTo_1 : decode cX7_addTo 1 = .ok (.invokevirtual 291, 3) := by decide +kernel
theorem dX7_addTo_4 : decode cX7_addTo 4 = .ok (.ifCond .eq 10, 3) := by decide +kernel
theorem dX7_addTo_7 : decode cX7_addTo 7 = .ok (.aload_n 0, 1) := by decide +kernel
theorem dX7_addTo_8 : decode cX7_addTo 8 = .ok (.bipush (-4), 2) := by decide +kernel
theorem dX7_addTo_10 : decode cX7_addTo 10 = .ok (.invokevirtual 81, 3) := by decide +kernel
theorem dX7_addTo_13 : decode cX7_addTo 13 = .ok (.ireturn, 1) := by decide +kernel
theorem dX7_addTo_14 : decode cX7_addTo 14 = .ok (.aload_n 1, 1) := by decide +kernel
theorem dX7_addTo_15 : decode cX7_addTo 15 = .ok (.iload_n 2, 1) := by decide +kernel
theorem dX7_addTo_16 : decode cX7_addTo 16 = .ok (.iload_n 3, 1) := by decide +kernel
theorem dX7_addTo_17 : decode cX7_addTo 17 = .ok (.iload 4, 2) := by decide +kernel
theorem dX7_addTo_19 : decode cX7_addTo 19 = .ok (.iload 5, 2) := by decide +kernel
theorem dX7_addTo_21 : decode cX7_addTo 21 = .ok (.invokevirtual 295, 3) := by decide +kernel
theorem dX7_addTo_24 : decode cX7_addTo 24 = .ok (.aload_n 1, 1) := by decide +kernel
theorem dX7_addTo_25 : decode cX7_addTo 25 = .ok (.invokevirtual 149, 3) := by decide +kernel
theorem dX7_addTo_28 : decode cX7_addTo 28 = .ok (.ireturn, 1) := by decide +kernel
theorem dX7_leastBit_0 : decode cX7_leastBit 0 = .ok (.iconst 0, 1) := by decide +kernel
theorem dX7_leastBit_1 : decode cX7_leastBit 1 = .ok (.istore_n 1, 1) := by decide +kernel
theorem dX7_leastBit_2 : decode cX7_leastBit 2 = .ok (.iload_n 1, 1) := by decide +kernel
theorem dX7_leastBit_3 : decode cX7_leastBit 3 = .ok (.bipush 9, 2) := by decide +kernel
theorem dX7_leastBit_5 : decode cX7_leastBit 5 = .ok (.if_icmp .gt 20, 3) := by decide +kernel
theorem dX7_leastBit_8 : decode cX7_leastBit 8 = .ok (.iload_n 0, 1) := by decide +kernel
theorem dX7_leastBit_9 : decode cX7_leastBit 9 = .ok (.iload_n 1, 1) := by decide +kernel
theorem dX7_leastBit_10 : decode cX7_leastBit 10 = .ok (.ishr, 1) := by decide +kernel
theorem dX7_leastBit_11 : decode cX7_leastBit 11 = .ok (.iconst 1, 1) := by decide +kernel
theorem dX7_leastBit_12 : decode cX7_leastBit 12 = .ok (.iand, 1) := by decide +kernel
theorem dX7_leastBit_13 : decode cX7_leastBit 13 = .ok (.iconst 1, 1) := by decide +kernel
theorem dX7_leastBit_14 : decode cX7_leastBit 14 = .ok (.if_icmp .ne 5, 3) := by decide +kernel
theorem dX7_leastBit_17 : decode cX7_leastBit 17 = .ok (.iload_n 1, 1) := by decide +kernel
theorem dX7_leastBit_18 : decode cX7_leastBit 18 = .ok (.ireturn, 1) := by decide +kernel
theorem dX7_leastBit_19 : decode cX7_leastBit 19 = .ok (.iinc 1 1, 3) := by decide +kernel
theorem dX7_leastBit_22 : decode cX7_leastBit 22 = .ok (.goto (-20), 3) := by decide +kernel
theorem dX7_leastBit_25 : decode cX7_leastBit 25 = .ok (.iconst (-1), 1) := by decide +kernel
theorem dX7_leastBit_26 : decode cX7_leastBit 26 = .ok (.ireturn, 1) := by decide +kernel
theorem dX7_greatestBit_0 : decode cX7_greatestBit 0 = .ok (.bipush 9, 2) := by decide +kernel
theorem dX7_greatestBit_2 : decode cX7_greatestBit 2 = .ok (.istore_n 1, 1) := by decide +kernel
theorem dX7_greatestBit_3 : decode cX7_greatestBit 3 = .ok (.iload_n 1, 1) := by decide +kernel
theorem dX7_greatestBit_4 : decode cX7_greatestBit 4 = .ok (.ifCond .lt 20, 3) := by decide +kernel
theorem dX7_greatestBit_7 : decode cX7_greatestBit 7 = .ok (.iload_n 0, 1) := by decide +kernel
theorem dX7_greatestBit_8 : decode cX7_greatestBit 8 = .ok (.iload_n 1, 1) := by decide +kernel
theorem dX7_greatestBit_9 : decode cX7_greatestBit 9 = .ok (.ishr, 1) := by decide +kernel
theorem dX7_greatestBit_10 : decode cX7_greatestBit 10 = .ok (.iconst 1, 1) := by decide +kernel
theorem dX7_greatestBit_11 : decode cX7_greatestBit 11 = .ok (.iand, 1) := by decide +kernel
theorem dX7_greatestBit_12 : decode cX7_greatestBit 12 = .ok (.iconst 1, 1) := by decide +kernel
theorem dX7_greatestBit_13 : decode cX7_greatestBit 13 = .ok (.if_icmp .ne 5, 3) := by decide +kernel
theorem dX7_greatestBit_16 : decode cX7_greatestBit 16 = .ok (.iload_n 1, 1) := by decide +kernel
theorem dX7_greatestBit_17 : decode cX7_greatestBit 17 = .ok (.ireturn, 1) := by decide +kernel
theorem dX7_greatestBit_18 : decode cX7_greatestBit 18 = .ok (.iinc 1 (-1), 3) := by decide +kernel
theorem dX7_greatestBit_21 : decode cX7_greatestBit 21 = .ok (.goto (-18), 3) := by decide +kernel
theorem dX7_greatestBit_24 : decode cX7_greatestBit 24 = .ok (.iconst (-1), 1) := by decide +kernel
theorem dX7_greatestBit_25 : decode cX7_greatestBit 25 = .ok (.ireturn, 1) := by decide +kernel
set_option maxRecDepth 20000 in
theorem ggX7_gainByCalling_X4_canSail : GoodIn wsX7_gainByCalling wsX4_canSail := goodIn_r _ [7, 8, 9, 10, 11, 6, 12, 13, 14, 15, 16, 17, 18, 19, 20, 21, 22, 23, 24, 25, 26, 27, 28, 29, 30, 31, 32, 33, 34, 35, 36, 37, 38, 39, 53, 54, 55, 56, 57, 58, 59, 60, 61, 62, 63] (by decide +kernel) (by decide +kernel)
set_option maxRecDepth 20000 in
theorem gX7_gainByCalling_X4_canSail : GoodIn wsX7_gainByCalling (wsV RX7 184 RX4 yX4_canSail wsX4_canSail) := goodIn_app (goodIn_of _ (by decide +kernel)) ggX7_gainByCalling_X4_canSail
theorem dX7_gainByCalling_0 : decode cX7_gainByCalling 0 = .ok (.aload_n 0, 1) := by decide +kernel
theorem dX7_gainByCalling_1 : decode cX7_gainByCalling 1 = .ok (.getfield 16, 3) := by decide +kernel
theorem dX7_gainByCalling_4 : decode cX7_gainByCalling 4 = .ok (.iload_n 1, 1) := by decide +kernel
theorem dX7_gainByCalling_5 : decode cX7_gainByCalling 5 = .ok (.iload_n 2, 1) := by decide +kernel
theorem dX7_gainByCalling_6 : decode cX7_gainByCalling 6 = .ok (.invokevirtual 184, 3) := by decide +kernel
theorem dX7_gainByCalling_9 : decode cX7_gainByCalling 9 = .ok (.ifCond .eq 8, 3) := by decide +kernel
theorem dX7_gainByCalling_12 : decode cX7_gainByCalling 12 = .ok (.bipush 6, 2) := by decide +kernel
theorem dX7_gainByCalling_14 : decode cX7_gainByCalling 14 = .ok (.goto 5, 3) := by decide +kernel
theorem dX7_gainByCalling_17 : decode cX7_gainByCalling 17 = .ok (.bipush (-4), 2) := by decide +kernel
theorem dX7_gainByCalling_19 : decode cX7_gainByCalling 19 = .ok (.istore_n 3, 1) := by decide +kernel
theorem dX7_gainByCalling_20 : decode cX7_gainByCalling 20 = .ok (.aload_n 0, 1) := by decide +kernel
theorem dX7_gainByCalling_21 : decode cX7_gainByCalling 21 = .ok (.getfield 10, 3) := by decide +kernel
theorem dX7_gainByCalling_24 : decode cX7_gainByCalling 24 = .ok (.iload_n 1, 1) := by decide +kernel
theorem dX7_gainByCalling_25 : decode cX7_gainByCalling 25 = .ok (.iload_n 2, 1) := by decide +kernel
theorem dX7_gainByCalling_26 : decode cX7_gainByCalling 26 = .ok (.invokevirtual 184, 3) := by decide +kernel
theorem dX7_gainByCalling_29 : decode cX7_gainByCalling 29 = .ok (.ifCond .eq 7, 3) := by decide +kernel
theorem dX7_gainByCalling_32 : decode cX7_gainByCalling 32 = .ok (.iconst 2, 1) := by decide +kernel
theorem dX7_gainByCalling_33 : decode cX7_gainByCalling 33 = .ok (.goto 5, 3) := by decide +kernel
theorem dX7_gainByCalling_36 : decode cX7_gainByCalling 36 = .ok (.bipush (-2), 2) := by decide +kernel
theorem dX7_gainByCalling_38 : decode cX7_gainByCalling 38 = .ok (.istore 4, 2) := by decide +kernel
theorem dX7_gainByCalling_40 : decode cX7_gainByCalling 40 = .ok (.iload_n 3, 1) := by decide +kernel
theorem dX7_gainByCalling_41 : decode cX7_gainByCalling 41 = .ok (.iload 4, 2) := by decide +kernel
theorem dX7_gainByCalling_43 : decode cX7_gainByCalling 43 = .ok (.isub, 1) := by decide +kernel
theorem dX7_gainByCalling_44 : decode cX7_gainByCalling 44 = .ok (.ireturn, 1) := by decide +kernel
theorem dX7_keepFraction_0 : decode cX7_keepFraction 0 = .ok (.iload_n 2, 1) := by decide +kernel
theorem dX7_keepFraction_1 : decode cX7_keepFraction 1 = .ok (.iconst 1, 1) := by decide +kernel
theorem dX7_keepFraction_2 : decode cX7_keepFraction 2 = .ok (.invokestatic 298, 3) := by decide +kernel
theorem dX7_keepFraction_5 : decode cX7_keepFraction 5 = .ok (.istore_n 3, 1) := by decide +kernel
theorem dX7_keepFraction_6 : decode cX7_keepFraction 6 = .ok (.iload_n 3, 1) := by decide +kernel
theorem dX7_keepFraction_7 : decode cX7_keepFraction 7 = .ok (.iconst 1, 1) := by decide +kernel
theorem dX7_keepFraction_8 : decode cX7_keepFraction 8 = .ok (.if_icmp .le 21, 3) := by decide +kernel
theorem dX7_keepFraction_11 : decode cX7_keepFraction 11 = .ok (.iload_n 1, 1) := by decide +kernel
theorem dX7_keepFraction_12 : decode cX7_keepFraction 12 = .ok (.iload_n 3, 1) := by decide +kernel
theorem dX7_keepFraction_13 : decode cX7_keepFraction 13 = .ok (.irem, 1) := by decide +kernel
theorem dX7_keepFraction_14 : decode cX7_keepFraction 14 = .ok (.ifCond .ne 9, 3) := by decide +kernel
theorem dX7_keepFraction_17 : decode cX7_keepFraction 17 = .ok (.iload_n 2, 1) := by decide +kernel
theorem dX7_keepFraction_18 : decode cX7_keepFraction 18 = .ok (.iload_n 3, 1) := by decide +kernel
theorem dX7_keepFraction_19 : decode cX7_keepFraction 19 = .ok (.irem, 1) := by decide +kernel
theorem dX7_keepFraction_20 : decode cX7_keepFraction 20 = .ok (.ifCond .eq 9, 3) := by decide +kernel
theorem dX7_keepFraction_23 : decode cX7_keepFraction 23 = .ok (.iinc 3 (-1), 3) := by decide +kernel
theorem dX7_keepFraction_26 : decode cX7_keepFraction 26 = .ok (.goto (-20), 3) := by decide +kernel
theorem dX7_keepFraction_29 : decode cX7_keepFraction 29 = .ok (.aload_n 0, 1) := by decide +kernel
theorem dX7_keepFraction_30 : decode cX7_keepFraction 30 = .ok (.iload_n 1, 1) := by decide +kernel
theorem dX7_keepFraction_31 : decode cX7_keepFraction 31 = .ok (.iload_n 3, 1) := by decide +kernel
theorem dX7_keepFraction_32 : decode cX7_keepFraction 32 = .ok (.idiv, 1) := by decide +kernel
theorem dX7_keepFraction_33 : decode cX7_keepFraction 33 = .ok (.putfield 55, 3) := by decide +kernel
theorem dX7_keepFraction_36 : decode cX7_keepFraction 36 = .ok (.aload_n 0, 1) := by decide +kernel
theorem dX7_keepFraction_37 : decode cX7_keepFraction 37 = .ok (.iload_n 2, 1) := by decide +kernel
theorem dX7_keepFraction_38 : decode cX7_keepFraction 38 = .ok (.iload_n 3, 1) := by decide +kernel
theorem dX7_keepFraction_39 : decode cX7_keepFraction 39 = .ok (.idiv, 1) := by decide +kernel
theorem dX7_keepFraction_40 : decode cX7_keepFraction 40 = .ok (.putfield 59, 3) := by decide +kernel
theorem dX7_keepFraction_43 : decode cX7_keepFraction 43 = .ok (.return_, 1) := by decide +kernel
set_option maxRecDepth 20000 in
theorem ggX7_howMany_X4_menAt : GoodIn wsX7_howMany wsX4_menAt := goodIn_r _ [13, 14, 15, 16, 12, 17, 18, 19, 20, 21, 22, 23, 24, 25, 26, 63, 64, 65, 66, 67, 68, 69, 70, 71, 72, 73] (by decide +kernel) (by decide +kernel)
set_option maxRecDepth 20000 in
theorem gX7_howMany_X4_menAt : GoodIn wsX7_howMany (wsV RX7 142 RX4 yX4_menAt wsX4_menAt) := goodIn_app (goodIn_of _ (by decide +kernel)) ggX7_howMany_X4_menAt
set_option maxRecDepth 20000 in
theorem ggX7_howMany_X4_skillsAt : GoodIn wsX7_howMany wsX4_skillsAt := goodIn_r _ [30, 18, 19, 31, 63, 64, 65, 66, 67, 68, 69, 70, 71, 72, 73] (by decide +kernel) (by decide +kernel)
set_option maxRecDepth 20000 in
theorem gX7_howMany_X4_skillsAt : GoodIn wsX7_howMany (wsV RX7 173 RX4 yX4_skillsAt wsX4_skillsAt) := goodIn_app (goodIn_of _ (by decide +kernel)) ggX7_howMany_X4_skillsAt
set_option maxRecDepth 20000 in
theorem ggX7_howMany_X4_allCalls : GoodIn wsX7_howMany wsX4_allCalls := goodIn_r _ [35, 36, 37, 63, 64, 65, 66, 67, 68, 69, 70, 71, 72, 73] (by decide +kernel) (by decide +kernel)
set_option maxRecDepth 20000 in
theorem gX7_howMany_X4_allCalls : GoodIn wsX7_howMany (wsV RX7 301 RX4 yX4_allCalls wsX4_allCalls) := goodIn_app (goodIn_of _ (by decide +kernel)) ggX7_howMany_X4_allCalls
set_option maxRecDepth 20000 in
theorem ggX7_howMany_X2_size : GoodIn wsX7_howMany wsX2_size := goodIn_r _ [42, 43, 74, 75, 76] (by decide +kernel) (by decide +kernel)
set_option maxRecDepth 20000 in
theorem gX7_howMany_X2_size : GoodIn wsX7_howMany (wsV RX7 149 RX2 yX2_size wsX2_size) := goodIn_app (goodIn_of _ (by decide +kernel)) ggX7_howMany_X2_size
set_option maxRecDepth 20000 in
theorem ggX7_howMany_X6_size : GoodIn wsX7_howMany wsX6_size := goodIn_r _ [48, 49, 77, 78, 79, 80, 81, 82] (by decide +kernel) (by decide +kernel)
set_option maxRecDepth 20000 in
theorem gX7_howMany_X6_size : GoodIn wsX7_howMany (wsV RX7 102 RX6 yX6_size wsX6_size) := goodIn_app (goodIn_of _ (by decide +kernel)) ggX7_howMany_X6_size
theorem dX7_howMany_0 : decode cX7_howMany 0 = .ok (.iload_n 1, 1) := by decide +kernel
theorem dX7_howMany_1 : decode cX7_howMany 1 = .ok (.tableswitch 137 0 8 #[51, 59, 67, 76, 85, 93, 104, 115, 126], 51) := by decide +kernel
theorem dX7_howMany_52 : decode cX7_howMany 52 = .ok (.aload_n 0, 1) := by decide +kernel
theorem dX7_howMany_53 : decode cX7_howMany 53 = .ok (.getfield 10, 3) := by decide +kernel
theorem dX7_howMany_56 : decode cX7_howMany 56 = .ok (.getfield 71, 3) := by decide +kernel
theorem dX7_howMany_59 : decode cX7_howMany 59 = .ok (.ireturn, 1) := by decide +kernel
theorem dX7_howMany_60 : decode cX7_howMany 60 = .ok (.aload_n 0, 1) := by decide +kernel
theorem dX7_howMany_61 : decode cX7_howMany 61 = .ok (.getfield 10, 3) := by decide +kernel
theorem dX7_howMany_64 : decode cX7_howMany 64 = .ok (.getfield 85, 3) := by decide +kernel
theorem dX7_howMany_67 : decode cX7_howMany 67 = .ok (.ireturn, 1) := by decide +kernel
theorem dX7_howMany_68 : decode cX7_howMany 68 = .ok (.aload_n 0, 1) := by decide +kernel
theorem dX7_howMany_69 : decode cX7_howMany 69 = .ok (.getfield 10, 3) := by decide +kernel
theorem dX7_howMany_72 : decode cX7_howMany 72 = .ok (.iconst (-1), 1) := by decide +kernel
theorem dX7_howMany_73 : decode cX7_howMany 73 = .ok (.invokevirtual 142, 3) := by decide +kernel
theorem dX7_howMany_76 : decode cX7_howMany 76 = .ok (.ireturn, 1) := by decide +kernel
theorem dX7_howMany_77 : decode cX7_howMany 77 = .ok (.aload_n 0, 1) := by decide +kernel
theorem dX7_howMany_78 : decode cX7_howMany 78 = .ok (.getfield 10, 3) := by decide +kernel
theorem dX7_howMany_81 : decode cX7_howMany 81 = .ok (.iconst (-1), 1) := by decide +kernel
theorem dX7_howMany_82 : decode cX7_howMany 82 = .ok (.invokevirtual 173, 3) := by decide +kernel
theorem dX7_howMany_85 : decode cX7_howMany 85 = .ok (.ireturn, 1) := by decide +kernel
theorem dX7_howMany_86 : decode cX7_howMany 86 = .ok (.aload_n 0, 1) := by decide +kernel
theorem dX7_howMany_87 : decode cX7_howMany 87 = .ok (.getfield 10, 3) := by decide +kernel
theorem dX7_howMany_90 : decode cX7_howMany 90 = .ok (.invokevirtual 301, 3) := by decide +kernel
theorem dX7_howMany_93 : decode cX7_howMany 93 = .ok (.ireturn, 1) := by decide +kernel
theorem dX7_howMany_94 : decode cX7_howMany 94 = .ok (.aload_n 0, 1) := by decide +kernel
theorem dX7_howMany_95 : decode cX7_howMany 95 = .ok (.getfield 10, 3) := by decide +kernel
theorem dX7_howMany_98 : decode cX7_howMany 98 = .ok (.getfield 207, 3) := by decide +kernel
theorem dX7_howMany_101 : decode cX7_howMany 101 = .ok (.invokevirtual 149, 3) := by decide +kernel
theorem dX7_howMany_104 : decode cX7_howMany 104 = .ok (.ireturn, 1) := by decide +kernel
theorem dX7_howMany_105 : decode cX7_howMany 105 = .ok (.aload_n 0, 1) := by decide +kernel
theorem dX7_howMany_106 : decode cX7_howMany 106 = .ok (.getfield 10, 3) := by decide +kernel
theorem dX7_howMany_109 : decode cX7_howMany 109 = .ok (.getfield 232, 3) := by decide +kernel
theorem dX7_howMany_112 : decode cX7_howMany 112 = .ok (.invokevirtual 149, 3) := by decide +kernel
theorem dX7_howMany_115 : decode cX7_howMany 115 = .ok (.ireturn, 1) := by decide +kernel
theorem dX7_howMany_116 : decode cX7_howMany 116 = .ok (.aload_n 0, 1) := by decide +kernel
theorem dX7_howMany_117 : decode cX7_howMany 117 = .ok (.getfield 10, 3) := by decide +kernel
theorem dX7_howMany_120 : decode cX7_howMany 120 = .ok (.getfield 235, 3) := by decide +kernel
theorem dX7_howMany_123 : decode cX7_howMany 123 = .ok (.invokevirtual 149, 3) := by decide +kernel
theorem dX7_howMany_126 : decode cX7_howMany 126 = .ok (.ireturn, 1) := by decide +kernel
theorem dX7_howMany_127 : decode cX7_howMany 127 = .ok (.aload_n 0, 1) := by decide +kernel
theorem dX7_howMany_128 : decode cX7_howMany 128 = .ok (.getfield 10, 3) := by decide +kernel
theorem dX7_howMany_131 : decode cX7_howMany 131 = .ok (.getfield 145, 3) := by decide +kernel
theorem dX7_howMany_134 : decode cX7_howMany 134 = .ok (.invokevirtual 149, 3) := by decide +kernel
theorem dX7_howMany_137 : decode cX7_howMany 137 = .ok (.ireturn, 1) := by decide +kernel
theorem dX7_howMany_138 : decode cX7_howMany 138 = .ok (.aload_n 0, 1) := by decide +kernel
theorem dX7_howMany_139 : decode cX7_howMany 139 = .ok (.getfield 30, 3) := by decide +kernel
theorem dX7_howMany_142 : decode cX7_howMany 142 = .ok (.invokevirtual 102, 3) := by decide +kernel
theorem dX7_howMany_145 : decode cX7_howMany 145 = .ok (.ireturn, 1) := by decide +kernel
