theorem dX1_init_0 : decode cX1_init 0 = .ok (.aload_n 0, 1) := by decide +kernel
theorem dX1_init_1 : decode cX1_init 1 = .ok (.invokespecial 3, 3) := by decide +kernel
theorem dX1_init_4 : decode cX1_init 4 = .ok (.aload_n 0, 1) := by decide +kernel
theorem dX1_init_5 : decode cX1_init 5 = .ok (.bipush 27, 2) := by decide +kernel
theorem dX1_init_7 : decode cX1_init 7 = .ok (.newarray .int, 2) := by decide +kernel
theorem dX1_init_9 : decode cX1_init 9 = .ok (.putfield 11, 3) := by decide +kernel
theorem dX1_init_12 : decode cX1_init 12 = .ok (.aload_n 0, 1) := by decide +kernel
theorem dX1_init_13 : decode cX1_init 13 = .ok (.iconst 3, 1) := by decide +kernel
theorem dX1_init_14 : decode cX1_init 14 = .ok (.newarray .int, 2) := by decide +kernel
theorem dX1_init_16 : decode cX1_init 16 = .ok (.putfield 15, 3) := by decide +kernel
theorem dX1_init_19 : decode cX1_init 19 = .ok (.return_, 1) := by decide +kernel
theorem dX1_madeBy_0 : decode cX1_madeBy 0 = .ok (.iload_n 1, 1) := by decide +kernel
theorem dX1_madeBy_1 : decode cX1_madeBy 1 = .ok (.ifCond .lt 17, 3) := by decide +kernel
theorem dX1_madeBy_4 : decode cX1_madeBy 4 = .ok (.iload_n 1, 1) := by decide +kernel
theorem dX1_madeBy_5 : decode cX1_madeBy 5 = .ok (.iconst 3, 1) := by decide +kernel
theorem dX1_madeBy_6 : decode cX1_madeBy 6 = .ok (.if_icmp .ge 12, 3) := by decide +kernel
theorem dX1_madeBy_9 : decode cX1_madeBy 9 = .ok (.aload_n 0, 1) := by decide +kernel
theorem dX1_madeBy_10 : decode cX1_madeBy 10 = .ok (.getfield 15, 3) := by decide +kernel
theorem dX1_madeBy_13 : decode cX1_madeBy 13 = .ok (.iload_n 1, 1) := by decide +kernel
theorem dX1_madeBy_14 : decode cX1_madeBy 14 = .ok (.iaload, 1) := by decide +kernel
theorem dX1_madeBy_15 : decode cX1_madeBy 15 = .ok (.goto 4, 3) := by decide +kernel
theorem dX1_madeBy_18 : decode cX1_madeBy 18 = .ok (.iconst (-1), 1) := by decide +kernel
theorem dX1_madeBy_19 : decode cX1_madeBy 19 = .ok (.ireturn, 1) := by decide +kernel
set_option maxRecDepth 20000 in
theorem ggX1_find_X4_skillsAt : GoodIn wsX1_find wsX4_skillsAt := goodIn_r _ [5, 6, 7, 8, 49, 50, 51, 52, 53, 54, 55, 56, 57, 58, 59] (by decide +kernel) (by decide +kernel)
set_option maxRecDepth 20000 in
theorem gX1_find_X4_skillsAt : GoodIn wsX1_find (wsV RX1 18 RX4 yX4_skillsAt wsX4_skillsAt) := goodIn_app (goodIn_of _ (by decide +kernel)) ggX1_find_X4_skillsAt
set_option maxRecDepth 20000 in
theorem ggX1_find_X1_fillRow : GoodIn wsX1_find wsX1_fillRow := goodIn_r _ [13, 14, 15, 16, 17, 18, 4, 19, 20, 21, 22, 23, 24, 7, 25, 26, 27, 28, 29, 30, 31, 32, 33, 6, 34, 8, 35, 36, 37, 38, 39, 60, 61, 49, 50, 51, 52, 53, 54, 55, 56, 57, 58, 59] (by decide +kernel) (by decide +kernel)
set_option maxRecDepth 20000 in
theorem gX1_find_X1_fillRow : GoodIn wsX1_find (wsV RX1 24 RX1 yX1_fillRow wsX1_fillRow) := goodIn_app (goodIn_of _ (by decide +kernel)) ggX1_find_X1_fillRow
set_option maxRecDepth 20000 in
theorem ggX1_find_X1_findWith : GoodIn wsX1_find wsX1_findWith := goodIn_r _ [43, 44, 45, 46, 47, 12, 48, 14, 60, 61] (by decide +kernel) (by decide +kernel)
set_option maxRecDepth 20000 in
theorem gX1_find_X1_findWith : GoodIn wsX1_find (wsV RX1 28 RX1 yX1_findWith wsX1_findWith) := goodIn_app (goodIn_of _ (by decide +kernel)) ggX1_find_X1_findWith
theorem dX1_find_0 : decode cX1_find 0 = .ok (.iload_n 2, 1) := by decide +kernel
theorem dX1_find_1 : decode cX1_find 1 = .ok (.aload_n 1, 1) := by decide +kernel
theorem dX1_find_2 : decode cX1_find 2 = .ok (.iconst (-1), 1) := by decide +kernel
theorem dX1_find_3 : decode cX1_find 3 = .ok (.invokevirtual 18, 3) := by decide +kernel
theorem dX1_find_6 : decode cX1_find 6 = .ok (.isub, 1) := by decide +kernel
theorem dX1_find_7 : decode cX1_find 7 = .ok (.istore_n 3, 1) := by decide +kernel
theorem dX1_find_8 : decode cX1_find 8 = .ok (.iconst 0, 1) := by decide +kernel
theorem dX1_find_9 : decode cX1_find 9 = .ok (.istore 4, 2) := by decide +kernel
theorem dX1_find_11 : decode cX1_find 11 = .ok (.iload 4, 2) := by decide +kernel
theorem dX1_find_13 : decode cX1_find 13 = .ok (.iconst 3, 1) := by decide +kernel
theorem dX1_find_14 : decode cX1_find 14 = .ok (.if_icmp .ge 16, 3) := by decide +kernel
theorem dX1_find_17 : decode cX1_find 17 = .ok (.aload_n 0, 1) := by decide +kernel
theorem dX1_find_18 : decode cX1_find 18 = .ok (.aload_n 1, 1) := by decide +kernel
theorem dX1_find_19 : decode cX1_find 19 = .ok (.iload 4, 2) := by decide +kernel
theorem dX1_find_21 : decode cX1_find 21 = .ok (.invokevirtual 24, 3) := by decide +kernel
theorem dX1_find_24 : decode cX1_find 24 = .ok (.iinc 4 1, 3) := by decide +kernel
theorem dX1_find_27 : decode cX1_find 27 = .ok (.goto (-16), 3) := by decide +kernel
theorem dX1_find_30 : decode cX1_find 30 = .ok (.iconst 0, 1) := by decide +kernel
theorem dX1_find_31 : decode cX1_find 31 = .ok (.istore 4, 2) := by decide +kernel
theorem dX1_find_33 : decode cX1_find 33 = .ok (.iload 4, 2) := by decide +kernel
theorem dX1_find_35 : decode cX1_find 35 = .ok (.bipush 8, 2) := by decide +kernel
theorem dX1_find_37 : decode cX1_find 37 = .ok (.if_icmp .gt 22, 3) := by decide +kernel
theorem dX1_find_40 : decode cX1_find 40 = .ok (.aload_n 0, 1) := by decide +kernel
theorem dX1_find_41 : decode cX1_find 41 = .ok (.iload 4, 2) := by decide +kernel
theorem dX1_find_43 : decode cX1_find 43 = .ok (.iload_n 3, 1) := by decide +kernel
theorem dX1_find_44 : decode cX1_find 44 = .ok (.invokevirtual 28, 3) := by decide +kernel
theorem dX1_find_47 : decode cX1_find 47 = .ok (.ifCond .eq 6, 3) := by decide +kernel
theorem dX1_find_50 : decode cX1_find 50 = .ok (.iload 4, 2) := by decide +kernel
theorem dX1_find_52 : decode cX1_find 52 = .ok (.ireturn, 1) := by decide +kernel
theorem dX1_find_53 : decode cX1_find 53 = .ok (.iinc 4 1, 3) := by decide +kernel
theorem dX1_find_56 : decode cX1_find 56 = .ok (.goto (-23), 3) := by decide +kernel
theorem dX1_find_59 : decode cX1_find 59 = .ok (.bipush (-6), 2) := by decide +kernel
theorem dX1_find_61 : decode cX1_find 61 = .ok (.ireturn, 1) := by decide +kernel
set_option maxRecDepth 20000 in
theorem ggX1_fillRow_X4_hasShip : GoodIn wsX1_fillRow wsX4_hasShip := goodIn_r _ [7, 8, 33, 34, 35, 36, 37, 38, 39, 40, 41, 42, 43] (by decide +kernel) (by decide +kernel)
set_option maxRecDepth 20000 in
theorem gX1_fillRow_X4_hasShip : GoodIn wsX1_fillRow (wsV RX1 32 RX4 yX4_hasShip wsX4_hasShip) := goodIn_app (goodIn_of _ (by decide +kernel)) ggX1_fillRow_X4_hasShip
set_option maxRecDepth 20000 in
theorem ggX1_fillRow_X4_leaveOne : GoodIn wsX1_fillRow wsX4_leaveOne := goodIn_r _ [12, 13, 14, 15, 16, 17, 18, 19, 20, 21, 6, 22, 23, 24, 25, 26, 4, 5, 7, 8, 27, 28, 29, 30, 33, 34, 35, 36, 37, 38, 39, 40, 41, 42, 43] (by decide +kernel) (by decide +kernel)
set_option maxRecDepth 20000 in
theorem gX1_fillRow_X4_leaveOne : GoodIn wsX1_fillRow (wsV RX1 36 RX4 yX4_leaveOne wsX4_leaveOne) := goodIn_app (goodIn_of _ (by decide +kernel)) ggX1_fillRow_X4_leaveOne
theorem dX1_fillRow_0 : decode cX1_fillRow 0 = .ok (.iconst 0, 1) := by decide +kernel
theorem dX1_fillRow_1 : decode cX1_fillRow 1 = .ok (.istore_n 3, 1) := by decide +kernel
theorem dX1_fillRow_2 : decode cX1_fillRow 2 = .ok (.iconst 0, 1) := by decide +kernel
theorem dX1_fillRow_3 : decode cX1_fillRow 3 = .ok (.istore 4, 2) := by decide +kernel
theorem dX1_fillRow_5 : decode cX1_fillRow 5 = .ok (.iload 4, 2) := by decide +kernel
theorem dX1_fillRow_7 : decode cX1_fillRow 7 = .ok (.bipush 9, 2) := by decide +kernel
theorem dX1_fillRow_9 : decode cX1_fillRow 9 = .ok (.if_icmp .ge 65, 3) := by decide +kernel
theorem dX1_fillRow_12 : decode cX1_fillRow 12 = .ok (.aload_n 0, 1) := by decide +kernel
theorem dX1_fillRow_13 : decode cX1_fillRow 13 = .ok (.getfield 11, 3) := by decide +kernel
theorem dX1_fillRow_16 : decode cX1_fillRow 16 = .ok (.iload_n 2, 1) := by decide +kernel
theorem dX1_fillRow_17 : decode cX1_fillRow 17 = .ok (.bipush 9, 2) := by decide +kernel
theorem dX1_fillRow_19 : decode cX1_fillRow 19 = .ok (.imul, 1) := by decide +kernel
theorem dX1_fillRow_20 : decode cX1_fillRow 20 = .ok (.iload 4, 2) := by decide +kernel
theorem dX1_fillRow_22 : decode cX1_fillRow 22 = .ok (.iadd, 1) := by decide +kernel
theorem dX1_fillRow_23 : decode cX1_fillRow 23 = .ok (.iload_n 3, 1) := by decide +kernel
theorem dX1_fillRow_24 : decode cX1_fillRow 24 = .ok (.iastore, 1) := by decide +kernel
theorem dX1_fillRow_25 : decode cX1_fillRow 25 = .ok (.aload_n 1, 1) := by decide +kernel
theorem dX1_fillRow_26 : decode cX1_fillRow 26 = .ok (.iload_n 2, 1) := by decide +kernel
theorem dX1_fillRow_27 : decode cX1_fillRow 27 = .ok (.invokevirtual 32, 3) := by decide +kernel
theorem dX1_fillRow_30 : decode cX1_fillRow 30 = .ok (.ifCond .eq 15, 3) := by decide +kernel
theorem dX1_fillRow_33 : decode cX1_fillRow 33 = .ok (.iload_n 3, 1) := by decide +kernel
theorem dX1_fillRow_34 : decode cX1_fillRow 34 = .ok (.ifCond .lt 11, 3) := by decide +kernel
theorem dX1_fillRow_37 : decode cX1_fillRow 37 = .ok (.aload_n 1, 1) := by decide +kernel
theorem dX1_fillRow_38 : decode cX1_fillRow 38 = .ok (.iload_n 2, 1) := by decide +kernel
theorem dX1_fillRow_39 : decode cX1_fillRow 39 = .ok (.invokevirtual 36, 3) := by decide +kernel
theorem dX1_fillRow_42 : decode cX1_fillRow 42 = .ok (.goto 4, 3) := by decide +kernel
theorem dX1_fillRow_45 : decode cX1_fillRow 45 = .ok (.iconst (-1), 1) := by decide +kernel
theorem dX1_fillRow_46 : decode cX1_fillRow 46 = .ok (.istore 5, 2) := by decide +kernel
theorem dX1_fillRow_48 : decode cX1_fillRow 48 = .ok (.iload 5, 2) := by decide +kernel
theorem dX1_fillRow_50 : decode cX1_fillRow 50 = .ok (.iconst (-1), 1) := by decide +kernel
theorem dX1_fillRow_51 : decode cX1_fillRow 51 = .ok (.if_icmp .ne 7, 3) := by decide +kernel
theorem dX1_fillRow_54 : decode cX1_fillRow 54 = .ok (.iconst (-1), 1) := by decide +kernel
theorem dX1_fillRow_55 : decode cX1_fillRow 55 = .ok (.goto 12, 3) := by decide +kernel
theorem dX1_fillRow_58 : decode cX1_fillRow 58 = .ok (.iload_n 3, 1) := by decide +kernel
theorem dX1_fillRow_59 : decode cX1_fillRow 59 = .ok (.aload_n 1, 1) := by decide +kernel
theorem dX1_fillRow_60 : decode cX1_fillRow 60 = .ok (.getfield 39, 3) := by decide +kernel
theorem dX1_fillRow_63 : decode cX1_fillRow 63 = .ok (.iload 5, 2) := by decide +kernel
theorem dX1_fillRow_65 : decode cX1_fillRow 65 = .ok (.iaload, 1) := by decide +kernel
theorem dX1_fillRow_66 : decode cX1_fillRow 66 = .ok (.iadd, 1) := by decide +kernel
theorem dX1_fillRow_67 : decode cX1_fillRow 67 = .ok (.istore_n 3, 1) := by decide +kernel
theorem dX1_fillRow_68 : decode cX1_fillRow 68 = .ok (.iinc 4 1, 3) := by decide +kernel
theorem dX1_fillRow_71 : decode cX1_fillRow 71 = .ok (.goto (-66), 3) := by decide +kernel
theorem dX1_fillRow_74 : decode cX1_fillRow 74 = .ok (.return_, 1) := by decide +kernel
set_option maxRecDepth 20000 in
theorem ggX1_findWith_X1_leaves : GoodIn wsX1_findWith wsX1_leaves := goodIn_r _ [6, 7, 8, 9] (by decide +kernel) (by decide +kernel)
set_option maxRecDepth 20000 in
theorem gX1_findWith_X1_leaves : GoodIn wsX1_findWith (wsV RX1 42 RX1 yX1_leaves wsX1_leaves) := goodIn_app (goodIn_of _ (by decide +kernel)) ggX1_findWith_X1_leaves
theorem dX1_findWith_0 : decode cX1_findWith 0 = .ok (.iconst 0, 1) := by decide +kernel
theorem dX1_findWith_1 : decode cX1_findWith 1 = .ok (.istore_n 3, 1) := by decide +kernel
theorem dX1_findWith_2 : decode cX1_findWith 2 = .ok (.iload_n 3, 1) := by decide +kernel
theorem dX1_findWith_3 : decode cX1_findWith 3 = .ok (.iload_n 1, 1) := by decide +kernel
theorem dX1_findWith_4 : decode cX1_findWith 4 = .ok (.if_icmp .gt 72, 3) := by decide +kernel
theorem dX1_findWith_7 : decode cX1_findWith 7 = .ok (.iconst 0, 1) := by decide +kernel
theorem dX1_findWith_8 : decode cX1_findWith 8 = .ok (.istore 4, 2) := by decide +kernel
theorem dX1_findWith_10 : decode cX1_findWith 10 = .ok (.iload 4, 2) := by decide +kernel
theorem dX1_findWith_12 : decode cX1_findWith 12 = .ok (.iload_n 1, 1) := by decide +kernel
theorem dX1_findWith_13 : decode cX1_findWith 13 = .ok (.iload_n 3, 1) := by decide +kernel
theorem dX1_findWith_14 : decode cX1_findWith 14 = .ok (.isub, 1) := by decide +kernel
theorem dX1_findWith_15 : decode cX1_findWith 15 = .ok (.if_icmp .gt 55, 3) := by decide +kernel
theorem dX1_findWith_18 : decode cX1_findWith 18 = .ok (.aload_n 0, 1) := by decide +kernel
theorem dX1_findWith_19 : decode cX1_findWith 19 = .ok (.iload_n 3, 1) := by decide +kernel
theorem dX1_findWith_20 : decode cX1_findWith 20 = .ok (.iload 4, 2) := by decide +kernel
theorem dX1_findWith_22 : decode cX1_findWith 22 = .ok (.iload_n 1, 1) := by decide +kernel
theorem dX1_findWith_23 : decode cX1_findWith 23 = .ok (.iload_n 3, 1) := by decide +kernel
theorem dX1_findWith_24 : decode cX1_findWith 24 = .ok (.isub, 1) := by decide +kernel
theorem dX1_findWith_25 : decode cX1_findWith 25 = .ok (.iload 4, 2) := by decide +kernel
theorem dX1_findWith_27 : decode cX1_findWith 27 = .ok (.isub, 1) := by decide +kernel
theorem dX1_findWith_28 : decode cX1_findWith 28 = .ok (.iload_n 2, 1) := by decide +kernel
theorem dX1_findWith_29 : decode cX1_findWith 29 = .ok (.invokevirtual 42, 3) := by decide +kernel
theorem dX1_findWith_32 : decode cX1_findWith 32 = .ok (.ifCond .eq 32, 3) := by decide +kernel
theorem dX1_findWith_35 : decode cX1_findWith 35 = .ok (.aload_n 0, 1) := by decide +kernel
theorem dX1_findWith_36 : decode cX1_findWith 36 = .ok (.getfield 15, 3) := by decide +kernel
theorem dX1_findWith_39 : decode cX1_findWith 39 = .ok (.iconst 0, 1) := by decide +kernel
theorem dX1_findWith_40 : decode cX1_findWith 40 = .ok (.iload_n 3, 1) := by decide +kernel
theorem dX1_findWith_41 : decode cX1_findWith 41 = .ok (.iastore, 1) := by decide +kernel
theorem dX1_findWith_42 : decode cX1_findWith 42 = .ok (.aload_n 0, 1) := by decide +kernel
theorem dX1_findWith_43 : decode cX1_findWith 43 = .ok (.getfield 15, 3) := by decide +kernel
theorem dX1_findWith_46 : decode cX1_findWith 46 = .ok (.iconst 1, 1) := by decide +kernel
theorem dX1_findWith_47 : decode cX1_findWith 47 = .ok (.iload 4, 2) := by decide +kernel
theorem dX1_findWith_49 : decode cX1_findWith 49 = .ok (.iastore, 1) := by decide +kernel
theorem dX1_findWith_50 : decode cX1_findWith 50 = .ok (.aload_n 0, 1) := by decide +kernel
theorem dX1_findWith_51 : decode cX1_findWith 51 = .ok (.getfield 15, 3) := by decide +kernel
theorem dX1_findWith_54 : decode cX1_findWith 54 = .ok (.iconst 2, 1) := by decide +kernel
theorem dX1_findWith_55 : decode cX1_findWith 55 = .ok (.iload_n 1, 1) := by decide +kernel
theorem dX1_findWith_56 : decode cX1_findWith 56 = .ok (.iload_n 3, 1) := by decide +kernel
theorem dX1_findWith_57 : decode cX1_findWith 57 = .ok (.isub, 1) := by decide +kernel
theorem dX1_findWith_58 : decode cX1_findWith 58 = .ok (.iload 4, 2) := by decide +kernel
theorem dX1_findWith_60 : decode cX1_findWith 60 = .ok (.isub, 1) := by decide +kernel
theorem dX1_findWith_61 : decode cX1_findWith 61 = .ok (.iastore, 1) := by decide +kernel
theorem dX1_findWith_62 : decode cX1_findWith 62 = .ok (.iconst 1, 1) := by decide +kernel
theorem dX1_findWith_63 : decode cX1_findWith 63 = .ok (.ireturn, 1) := by decide +kernel
theorem dX1_findWith_64 : decode cX1_findWith 64 = .ok (.iinc 4 1, 3) := by decide +kernel
theorem dX1_findWith_67 : decode cX1_findWith 67 = .ok (.goto (-57), 3) := by decide +kernel
theorem dX1_findWith_70 : decode cX1_findWith 70 = .ok (.iinc 3 1, 3) := by decide +kernel
theorem dX1_findWith_73 : decode cX1_findWith 73 = .ok (.goto (-71), 3) := by decide +kernel
theorem dX1_findWith_76 : decode cX1_findWith 76 = .ok (.iconst 0, 1) := by decide +kernel
theorem dX1_findWith_77 : decode cX1_findWith 77 = .ok (.ireturn, 1) := by decide +kernel
theorem dX1_leaves_0 : decode cX1_leaves 0 = .ok (.aload_n 0, 1) := by decide +kernel
theorem dX1_leaves_1 : decode cX1_leaves 1 = .ok (.getfield 11, 3) := by decide +kernel
theorem dX1_leaves_4 : decode cX1_leaves 4 = .ok (.iload_n 1, 1) := by decide +kernel
theorem dX1_leaves_5 : decode cX1_leaves 5 = .ok (.iaload, 1) := by decide +kernel
theorem dX1_leaves_6 : decode cX1_leaves 6 = .ok (.istore 5, 2) := by decide +kernel
theorem dX1_leaves_8 : decode cX1_leaves 8 = .ok (.aload_n 0, 1) := by decide +kernel
theorem dX1_leaves_9 : decode cX1_leaves 9 = .ok (.getfield 11, 3) := by decide +kernel
theorem dX1_leaves_12 : decode cX1_leaves 12 = .ok (.bipush 9, 2) := by decide +kernel
theorem dX1_leaves_14 : decode cX1_leaves 14 = .ok (.iload_n 2, 1) := by decide +kernel
theorem dX1_leaves_15 : decode cX1_leaves 15 = .ok (.iadd, 1) := by decide +kernel
theorem dX1_leaves_16 : decode cX1_leaves 16 = .ok (.iaload, 1) := by decide +kernel
theorem dX1_leaves_17 : decode cX1_leaves 17 = .ok (.istore 6, 2) := by decide +kernel
theorem dX1_leaves_19 : decode cX1_leaves 19 = .ok (.aload_n 0, 1) := by decide +kernel
theorem dX1_leaves_20 : decode cX1_leaves 20 = .ok (.getfield 11, 3) := by decide +kernel
theorem dX1_leaves_23 : decode cX1_leaves 23 = .ok (.bipush 18, 2) := by decide +kernel
theorem dX1_leaves_25 : decode cX1_leaves 25 = .ok (.iload_n 3, 1) := by decide +kernel
theorem dX1_leaves_26 : decode cX1_leaves 26 = .ok (.iadd, 1) := by decide +kernel
theorem dX1_leaves_27 : decode cX1_leaves 27 = .ok (.iaload, 1) := by decide +kernel
theorem dX1_leaves_28 : decode cX1_leaves 28 = .ok (.istore 7, 2) := by decide +kernel
theorem dX1_leaves_30 : decode cX1_leaves 30 = .ok (.iload 5, 2) := by decide +kernel
theorem dX1_leaves_32 : decode cX1_leaves 32 = .ok (.ifCond .lt 30, 3) := by decide +kernel
theorem dX1_leaves_35 : decode cX1_leaves 35 = .ok (.iload 6, 2) := by decide +kernel
theorem dX1_leaves_37 : decode cX1_leaves 37 = .ok (.ifCond .lt 25, 3) := by decide +kernel
theorem dX1_leaves_40 : decode cX1_leaves 40 = .ok (.iload 7, 2) := by decide +kernel
theorem dX1_leaves_42 : decode cX1_leaves 42 = .ok (.ifCond .lt 20, 3) := by decide +kernel
theorem dX1_leaves_45 : decode cX1_leaves 45 = .ok (.iload 5, 2) := by decide +kernel
theorem dX1_leaves_47 : decode cX1_leaves 47 = .ok (.iload 6, 2) := by decide +kernel
theorem dX1_leaves_49 : decode cX1_leaves 49 = .ok (.iadd, 1) := by decide +kernel
theorem dX1_leaves_50 : decode cX1_leaves 50 = .ok (.iload 7, 2) := by decide +kernel
theorem dX1_leaves_52 : decode cX1_leaves 52 = .ok (.iadd, 1) := by decide +kernel
theorem dX1_leaves_53 : decode cX1_leaves 53 = .ok (.iload 4, 2) := by decide +kernel
theorem dX1_leaves_55 : decode cX1_leaves 55 = .ok (.if_icmp .lt 7, 3) := by decide +kernel
theorem dX1_leaves_58 : decode cX1_leaves 58 = .ok (.iconst 1, 1) := by decide +kernel
theorem dX1_leaves_59 : decode cX1_leaves 59 = .ok (.goto 4, 3) := by decide +kernel
theorem dX1_leaves_62 : decode cX1_leaves 62 = .ok (.iconst 0, 1) := by decide +kernel
theorem dX1_leaves_63 : decode cX1_leaves 63 = .ok (.ireturn, 1) := by decide +kernel
