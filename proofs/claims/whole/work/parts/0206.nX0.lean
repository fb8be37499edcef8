theorem dX0_init_0 : decode cX0_init 0 = .ok (.aload_n 0, 1) := by decide +kernel
theorem dX0_init_1 : decode cX0_init 1 = .ok (.invokespecial 3, 3) := by decide +kernel
theorem dX0_init_4 : decode cX0_init 4 = .ok (.aload_n 0, 1) := by decide +kernel
theorem dX0_init_5 : decode cX0_init 5 = .ok (.sipush 256, 3) := by decide +kernel
theorem dX0_init_8 : decode cX0_init 8 = .ok (.newarray .int, 2) := by decide +kernel
theorem dX0_init_10 : decode cX0_init 10 = .ok (.putfield 11, 3) := by decide +kernel
theorem dX0_init_13 : decode cX0_init 13 = .ok (.aload_n 0, 1) := by decide +kernel
theorem dX0_init_14 : decode cX0_init 14 = .ok (.sipush 256, 3) := by decide +kernel
theorem dX0_init_17 : decode cX0_init 17 = .ok (.newarray .int, 2) := by decide +kernel
theorem dX0_init_19 : decode cX0_init 19 = .ok (.putfield 15, 3) := by decide +kernel
theorem dX0_init_22 : decode cX0_init 22 = .ok (.aload_n 0, 1) := by decide +kernel
theorem dX0_init_23 : decode cX0_init 23 = .ok (.iconst 0, 1) := by decide +kernel
theorem dX0_init_24 : decode cX0_init 24 = .ok (.putfield 18, 3) := by decide +kernel
theorem dX0_init_27 : decode cX0_init 27 = .ok (.return_, 1) := by decide +kernel
set_option maxRecDepth 20000 in
theorem ggX0_find_X4_bitsAt : GoodIn wsX0_find wsX4_bitsAt := goodIn_r _ [8, 9, 10, 59, 60, 61, 62, 63, 64, 65, 66, 67, 68, 69] (by decide +kernel) (by decide +kernel)
set_option maxRecDepth 20000 in
theorem gX0_find_X4_bitsAt : GoodIn wsX0_find (wsV RX0 22 RX4 yX4_bitsAt wsX4_bitsAt) := goodIn_app (goodIn_of _ (by decide +kernel)) ggX0_find_X4_bitsAt
set_option maxRecDepth 20000 in
theorem ggX0_find_X0_weighSets : GoodIn wsX0_find wsX0_weighSets := goodIn_r _ [15, 16, 17, 18, 19, 20, 21, 7, 22, 23, 5, 6, 8, 9, 10, 24, 25, 26, 27, 28, 29, 30, 31, 32, 33, 34, 35, 36, 37, 38, 14, 39, 40, 41, 42, 43, 44, 45, 46, 47, 59, 60, 61, 62, 63, 64, 65, 66, 67, 68, 69, 56, 57, 58] (by decide +kernel) (by decide +kernel)
set_option maxRecDepth 20000 in
theorem gX0_find_X0_weighSets : GoodIn wsX0_find (wsV RX0 31 RX0 yX0_weighSets wsX0_weighSets) := goodIn_app (goodIn_of _ (by decide +kernel)) ggX0_find_X0_weighSets
set_option maxRecDepth 20000 in
theorem ggX0_find_X0_addShipToBest : GoodIn wsX0_find wsX0_addShipToBest := goodIn_r _ [51, 1, 52, 53, 54, 14, 55, 17, 56, 57, 58] (by decide +kernel) (by decide +kernel)
set_option maxRecDepth 20000 in
theorem gX0_find_X0_addShipToBest : GoodIn wsX0_find (wsV RX0 35 RX0 yX0_addShipToBest wsX0_addShipToBest) := goodIn_app (goodIn_of _ (by decide +kernel)) ggX0_find_X0_addShipToBest
theorem dX0_find_0 : decode cX0_find 0 = .ok (.aload_n 1, 1) := by decide +kernel
theorem dX0_find_1 : decode cX0_find 1 = .ok (.iconst (-1), 1) := by decide +kernel
theorem dX0_find_2 : decode cX0_find 2 = .ok (.invokevirtual 22, 3) := by decide +kernel
theorem dX0_find_5 : decode cX0_find 5 = .ok (.sipush 255, 3) := by decide +kernel
theorem dX0_find_8 : decode cX0_find 8 = .ok (.iand, 1) := by decide +kernel
theorem dX0_find_9 : decode cX0_find 9 = .ok (.istore_n 3, 1) := by decide +kernel
theorem dX0_find_10 : decode cX0_find 10 = .ok (.iconst 0, 1) := by decide +kernel
theorem dX0_find_11 : decode cX0_find 11 = .ok (.istore 4, 2) := by decide +kernel
theorem dX0_find_13 : decode cX0_find 13 = .ok (.iload 4, 2) := by decide +kernel
theorem dX0_find_15 : decode cX0_find 15 = .ok (.sipush 256, 3) := by decide +kernel
theorem dX0_find_18 : decode cX0_find 18 = .ok (.if_icmp .ge 17, 3) := by decide +kernel
theorem dX0_find_21 : decode cX0_find 21 = .ok (.aload_n 0, 1) := by decide +kernel
theorem dX0_find_22 : decode cX0_find 22 = .ok (.getfield 15, 3) := by decide +kernel
theorem dX0_find_25 : decode cX0_find 25 = .ok (.iload 4, 2) := by decide +kernel
theorem dX0_find_27 : decode cX0_find 27 = .ok (.iconst 0, 1) := by decide +kernel
theorem dX0_find_28 : decode cX0_find 28 = .ok (.iastore, 1) := by decide +kernel
theorem dX0_find_29 : decode cX0_find 29 = .ok (.iinc 4 1, 3) := by decide +kernel
theorem dX0_find_32 : decode cX0_find 32 = .ok (.goto (-19), 3) := by decide +kernel
theorem dX0_find_35 : decode cX0_find 35 = .ok (.iconst 0, 1) := by decide +kernel
theorem dX0_find_36 : decode cX0_find 36 = .ok (.istore 4, 2) := by decide +kernel
theorem dX0_find_38 : decode cX0_find 38 = .ok (.iload 4, 2) := by decide +kernel
theorem dX0_find_40 : decode cX0_find 40 = .ok (.aload_n 1, 1) := by decide +kernel
theorem dX0_find_41 : decode cX0_find 41 = .ok (.getfield 28, 3) := by decide +kernel
theorem dX0_find_44 : decode cX0_find 44 = .ok (.if_icmp .ge 51, 3) := by decide +kernel
theorem dX0_find_47 : decode cX0_find 47 = .ok (.aload_n 0, 1) := by decide +kernel
theorem dX0_find_48 : decode cX0_find 48 = .ok (.aload_n 1, 1) := by decide +kernel
theorem dX0_find_49 : decode cX0_find 49 = .ok (.iload 4, 2) := by decide +kernel
theorem dX0_find_51 : decode cX0_find 51 = .ok (.iload_n 2, 1) := by decide +kernel
theorem dX0_find_52 : decode cX0_find 52 = .ok (.iload_n 3, 1) := by decide +kernel
theorem dX0_find_53 : decode cX0_find 53 = .ok (.invokevirtual 31, 3) := by decide +kernel
theorem dX0_find_56 : decode cX0_find 56 = .ok (.iload 4, 2) := by decide +kernel
theorem dX0_find_58 : decode cX0_find 58 = .ok (.aload_n 1, 1) := by decide +kernel
theorem dX0_find_59 : decode cX0_find 59 = .ok (.getfield 28, 3) := by decide +kernel
theorem dX0_find_62 : decode cX0_find 62 = .ok (.iconst 1, 1) := by decide +kernel
theorem dX0_find_63 : decode cX0_find 63 = .ok (.isub, 1) := by decide +kernel
theorem dX0_find_64 : decode cX0_find 64 = .ok (.if_icmp .ne 7, 3) := by decide +kernel
theorem dX0_find_67 : decode cX0_find 67 = .ok (.iconst 1, 1) := by decide +kernel
theorem dX0_find_68 : decode cX0_find 68 = .ok (.goto 4, 3) := by decide +kernel
theorem dX0_find_71 : decode cX0_find 71 = .ok (.iconst 0, 1) := by decide +kernel
theorem dX0_find_72 : decode cX0_find 72 = .ok (.istore 5, 2) := by decide +kernel
theorem dX0_find_74 : decode cX0_find 74 = .ok (.aload_n 0, 1) := by decide +kernel
theorem dX0_find_75 : decode cX0_find 75 = .ok (.iload_n 3, 1) := by decide +kernel
theorem dX0_find_76 : decode cX0_find 76 = .ok (.iload 5, 2) := by decide +kernel
theorem dX0_find_78 : decode cX0_find 78 = .ok (.ifCond .eq 7, 3) := by decide +kernel
theorem dX0_find_81 : decode cX0_find 81 = .ok (.iload_n 3, 1) := by decide +kernel
theorem dX0_find_82 : decode cX0_find 82 = .ok (.goto 4, 3) := by decide +kernel
theorem dX0_find_85 : decode cX0_find 85 = .ok (.iconst 0, 1) := by decide +kernel
theorem dX0_find_86 : decode cX0_find 86 = .ok (.invokevirtual 35, 3) := by decide +kernel
theorem dX0_find_89 : decode cX0_find 89 = .ok (.iinc 4 1, 3) := by decide +kernel
theorem dX0_find_92 : decode cX0_find 92 = .ok (.goto (-54), 3) := by decide +kernel
theorem dX0_find_95 : decode cX0_find 95 = .ok (.aload_n 0, 1) := by decide +kernel
theorem dX0_find_96 : decode cX0_find 96 = .ok (.aload_n 0, 1) := by decide +kernel
theorem dX0_find_97 : decode cX0_find 97 = .ok (.getfield 15, 3) := by decide +kernel
theorem dX0_find_100 : decode cX0_find 100 = .ok (.iload_n 3, 1) := by decide +kernel
theorem dX0_find_101 : decode cX0_find 101 = .ok (.iaload, 1) := by decide +kernel
theorem dX0_find_102 : decode cX0_find 102 = .ok (.putfield 18, 3) := by decide +kernel
theorem dX0_find_105 : decode cX0_find 105 = .ok (.return_, 1) := by decide +kernel
theorem dX0_sailing_0 : decode cX0_sailing 0 = .ok (.aload_n 0, 1) := by decide +kernel
theorem dX0_sailing_1 : decode cX0_sailing 1 = .ok (.getfield 18, 3) := by decide +kernel
theorem dX0_sailing_4 : decode cX0_sailing 4 = .ok (.ldc 39, 2) := by decide +kernel
theorem dX0_sailing_6 : decode cX0_sailing 6 = .ok (.iadd, 1) := by decide +kernel
theorem dX0_sailing_7 : decode cX0_sailing 7 = .ok (.iconst 1, 1) := by decide +kernel
theorem dX0_sailing_8 : decode cX0_sailing 8 = .ok (.isub, 1) := by decide +kernel
theorem dX0_sailing_9 : decode cX0_sailing 9 = .ok (.ldc 39, 2) := by decide +kernel
theorem dX0_sailing_11 : decode cX0_sailing 11 = .ok (.idiv, 1) := by decide +kernel
theorem dX0_sailing_12 : decode cX0_sailing 12 = .ok (.ireturn, 1) := by decide +kernel
set_option maxRecDepth 20000 in
theorem ggX0_placeOf_X0_sailing : GoodIn wsX0_placeOf wsX0_sailing := goodIn_r _ [7, 2, 1, 8, 9, 10] (by decide +kernel) (by decide +kernel)
set_option maxRecDepth 20000 in
theorem gX0_placeOf_X0_sailing : GoodIn wsX0_placeOf (wsV RX0 40 RX0 yX0_sailing wsX0_sailing) := goodIn_app (goodIn_of _ (by decide +kernel)) ggX0_placeOf_X0_sailing
theorem dX0_placeOf_0 : decode cX0_placeOf 0 = .ok (.aload_n 0, 1) := by decide +kernel
theorem dX0_placeOf_1 : decode cX0_placeOf 1 = .ok (.invokevirtual 40, 3) := by decide +kernel
theorem dX0_placeOf_4 : decode cX0_placeOf 4 = .ok (.ldc 39, 2) := by decide +kernel
theorem dX0_placeOf_6 : decode cX0_placeOf 6 = .ok (.imul, 1) := by decide +kernel
theorem dX0_placeOf_7 : decode cX0_placeOf 7 = .ok (.aload_n 0, 1) := by decide +kernel
theorem dX0_placeOf_8 : decode cX0_placeOf 8 = .ok (.getfield 18, 3) := by decide +kernel
theorem dX0_placeOf_11 : decode cX0_placeOf 11 = .ok (.isub, 1) := by decide +kernel
theorem dX0_placeOf_12 : decode cX0_placeOf 12 = .ok (.istore_n 2, 1) := by decide +kernel
theorem dX0_placeOf_13 : decode cX0_placeOf 13 = .ok (.iload_n 2, 1) := by decide +kernel
theorem dX0_placeOf_14 : decode cX0_placeOf 14 = .ok (.iconst 2, 1) := by decide +kernel
theorem dX0_placeOf_15 : decode cX0_placeOf 15 = .ok (.bipush 7, 2) := by decide +kernel
theorem dX0_placeOf_17 : decode cX0_placeOf 17 = .ok (.iload_n 1, 1) := by decide +kernel
theorem dX0_placeOf_18 : decode cX0_placeOf 18 = .ok (.isub, 1) := by decide +kernel
theorem dX0_placeOf_19 : decode cX0_placeOf 19 = .ok (.imul, 1) := by decide +kernel
theorem dX0_placeOf_20 : decode cX0_placeOf 20 = .ok (.ishr, 1) := by decide +kernel
theorem dX0_placeOf_21 : decode cX0_placeOf 21 = .ok (.iconst 3, 1) := by decide +kernel
theorem dX0_placeOf_22 : decode cX0_placeOf 22 = .ok (.iand, 1) := by decide +kernel
theorem dX0_placeOf_23 : decode cX0_placeOf 23 = .ok (.iconst 1, 1) := by decide +kernel
theorem dX0_placeOf_24 : decode cX0_placeOf 24 = .ok (.isub, 1) := by decide +kernel
theorem dX0_placeOf_25 : decode cX0_placeOf 25 = .ok (.ireturn, 1) := by decide +kernel
set_option maxRecDepth 20000 in
theorem ggX0_weighSets_X4_menAt : GoodIn wsX0_weighSets wsX4_menAt := goodIn_r _ [8, 9, 10, 11, 7, 12, 13, 14, 15, 16, 17, 18, 19, 20, 21, 40, 41, 42, 43, 44, 45, 46, 47, 48, 49, 50] (by decide +kernel) (by decide +kernel)
set_option maxRecDepth 20000 in
theorem gX0_weighSets_X4_menAt : GoodIn wsX0_weighSets (wsV RX0 44 RX4 yX4_menAt wsX4_menAt) := goodIn_app (goodIn_of _ (by decide +kernel)) ggX0_weighSets_X4_menAt
set_option maxRecDepth 20000 in
theorem ggX0_weighSets_X4_skillsAt : GoodIn wsX0_weighSets wsX4_skillsAt := goodIn_r _ [25, 13, 14, 26, 40, 41, 42, 43, 44, 45, 46, 47, 48, 49, 50] (by decide +kernel) (by decide +kernel)
set_option maxRecDepth 20000 in
theorem gX0_weighSets_X4_skillsAt : GoodIn wsX0_weighSets (wsV RX0 47 RX4 yX4_skillsAt wsX4_skillsAt) := goodIn_app (goodIn_of _ (by decide +kernel)) ggX0_weighSets_X4_skillsAt
set_option maxRecDepth 20000 in
theorem ggX0_weighSets_J6_bitCount_0f7a4 : GoodIn wsX0_weighSets wsJ6_bitCount_0f7a4 := goodIn_r _ [18, 19, 20, 21] (by decide +kernel) (by decide +kernel)
set_option maxRecDepth 20000 in
theorem gX0_weighSets_J6_bitCount_0f7a4 : GoodIn wsX0_weighSets (va_wsS RX0 50 yJ6_bitCount_0f7a4 wsJ6_bitCount_0f7a4) := goodIn_app (goodIn_of _ (by decide +kernel)) ggX0_weighSets_J6_bitCount_0f7a4
set_option maxRecDepth 20000 in
theorem ggX0_weighSets_X0_skillsOfSet : GoodIn wsX0_weighSets wsX0_skillsOfSet := goodIn_r _ [31, 32, 40, 41, 42, 43, 44, 45, 46, 47, 48, 49, 50] (by decide +kernel) (by decide +kernel)
set_option maxRecDepth 20000 in
theorem gX0_weighSets_X0_skillsOfSet : GoodIn wsX0_weighSets (va_wsS RX0 55 yX0_skillsOfSet wsX0_skillsOfSet) := goodIn_app (goodIn_of _ (by decide +kernel)) ggX0_weighSets_X0_skillsOfSet
set_option maxRecDepth 20000 in
theorem ggX0_weighSets_X5_need : GoodIn wsX0_weighSets wsX5_need := goodIn_r _ [36] (by decide +kernel) (by decide +kernel)
set_option maxRecDepth 20000 in
theorem gX0_weighSets_X5_need : GoodIn wsX0_weighSets (va_wsS RX0 62 yX5_need wsX5_need) := goodIn_app (goodIn_of _ (by decide +kernel)) ggX0_weighSets_X5_need
set_option maxRecDepth 20000 in
theorem ggX0_weighSets_X0_onesOfSet : GoodIn wsX0_weighSets wsX0_onesOfSet := goodIn_r _ [39] (by decide +kernel) (by decide +kernel)
set_option maxRecDepth 20000 in
theorem gX0_weighSets_X0_onesOfSet : GoodIn wsX0_weighSets (va_wsS RX0 68 yX0_onesOfSet wsX0_onesOfSet) := goodIn_app (goodIn_of _ (by decide +kernel)) ggX0_weighSets_X0_onesOfSet
theorem dX0_weighSets_0 : decode cX0_weighSets 0 = .ok (.aload_n 1, 1) := by decide +kernel
theorem dX0_weighSets_1 : decode cX0_weighSets 1 = .ok (.iload_n 2, 1) := by decide +kernel
theorem dX0_weighSets_2 : decode cX0_weighSets 2 = .ok (.invokevirtual 44, 3) := by decide +kernel
theorem dX0_weighSets_5 : decode cX0_weighSets 5 = .ok (.istore 5, 2) := by decide +kernel
theorem dX0_weighSets_7 : decode cX0_weighSets 7 = .ok (.aload_n 1, 1) := by decide +kernel
theorem dX0_weighSets_8 : decode cX0_weighSets 8 = .ok (.iload_n 2, 1) := by decide +kernel
theorem dX0_weighSets_9 : decode cX0_weighSets 9 = .ok (.invokevirtual 47, 3) := by decide +kernel
theorem dX0_weighSets_12 : decode cX0_weighSets 12 = .ok (.istore 6, 2) := by decide +kernel
theorem dX0_weighSets_14 : decode cX0_weighSets 14 = .ok (.iconst 0, 1) := by decide +kernel
theorem dX0_weighSets_15 : decode cX0_weighSets 15 = .ok (.istore 7, 2) := by decide +kernel
theorem dX0_weighSets_17 : decode cX0_weighSets 17 = .ok (.iload 7, 2) := by decide +kernel
theorem dX0_weighSets_19 : decode cX0_weighSets 19 = .ok (.sipush 256, 3) := by decide +kernel
theorem dX0_weighSets_22 : decode cX0_weighSets 22 = .ok (.if_icmp .ge 97, 3) := by decide +kernel
theorem dX0_weighSets_25 : decode cX0_weighSets 25 = .ok (.iload 7, 2) := by decide +kernel
theorem dX0_weighSets_27 : decode cX0_weighSets 27 = .ok (.iload 4, 2) := by decide +kernel
theorem dX0_weighSets_29 : decode cX0_weighSets 29 = .ok (.iconst (-1), 1) := by decide +kernel
theorem dX0_weighSets_30 : decode cX0_weighSets 30 = .ok (.ixor, 1) := by decide +kernel
theorem dX0_weighSets_31 : decode cX0_weighSets 31 = .ok (.iand, 1) := by decide +kernel
theorem dX0_weighSets_32 : decode cX0_weighSets 32 = .ok (.ifCond .ne 81, 3) := by decide +kernel
theorem dX0_weighSets_35 : decode cX0_weighSets 35 = .ok (.iload 5, 2) := by decide +kernel
theorem dX0_weighSets_37 : decode cX0_weighSets 37 = .ok (.iload 7, 2) := by decide +kernel
theorem dX0_weighSets_39 : decode cX0_weighSets 39 = .ok (.invokestatic 50, 3) := by decide +kernel
theorem dX0_weighSets_42 : decode cX0_weighSets 42 = .ok (.iadd, 1) := by decide +kernel
theorem dX0_weighSets_43 : decode cX0_weighSets 43 = .ok (.istore 8, 2) := by decide +kernel
theorem dX0_weighSets_45 : decode cX0_weighSets 45 = .ok (.iload 6, 2) := by decide +kernel
theorem dX0_weighSets_47 : decode cX0_weighSets 47 = .ok (.aload_n 1, 1) := by decide +kernel
theorem dX0_weighSets_48 : decode cX0_weighSets 48 = .ok (.iload 7, 2) := by decide +kernel
theorem dX0_weighSets_50 : decode cX0_weighSets 50 = .ok (.invokestatic 55, 3) := by decide +kernel
theorem dX0_weighSets_53 : decode cX0_weighSets 53 = .ok (.iadd, 1) := by decide +kernel
theorem dX0_weighSets_54 : decode cX0_weighSets 54 = .ok (.istore 9, 2) := by decide +kernel
theorem dX0_weighSets_56 : decode cX0_weighSets 56 = .ok (.iload 8, 2) := by decide +kernel
theorem dX0_weighSets_58 : decode cX0_weighSets 58 = .ok (.ifCond .le 24, 3) := by decide +kernel
theorem dX0_weighSets_61 : decode cX0_weighSets 61 = .ok (.iload 9, 2) := by decide +kernel
theorem dX0_weighSets_63 : decode cX0_weighSets 63 = .ok (.aload_n 1, 1) := by decide +kernel
theorem dX0_weighSets_64 : decode cX0_weighSets 64 = .ok (.getfield 59, 3) := by decide +kernel
theorem dX0_weighSets_67 : decode cX0_weighSets 67 = .ok (.iload_n 2, 1) := by decide +kernel
theorem dX0_weighSets_68 : decode cX0_weighSets 68 = .ok (.iaload, 1) := by decide +kernel
theorem dX0_weighSets_69 : decode cX0_weighSets 69 = .ok (.iload_n 3, 1) := by decide +kernel
theorem dX0_weighSets_70 : decode cX0_weighSets 70 = .ok (.iload 8, 2) := by decide +kernel
theorem dX0_weighSets_72 : decode cX0_weighSets 72 = .ok (.invokestatic 62, 3) := by decide +kernel
theorem dX0_weighSets_75 : decode cX0_weighSets 75 = .ok (.if_icmp .lt 7, 3) := by decide +kernel
theorem dX0_weighSets_78 : decode cX0_weighSets 78 = .ok (.iconst 1, 1) := by decide +kernel
theorem dX0_weighSets_79 : decode cX0_weighSets 79 = .ok (.goto 4, 3) := by decide +kernel
theorem dX0_weighSets_82 : decode cX0_weighSets 82 = .ok (.iconst 0, 1) := by decide +kernel
theorem dX0_weighSets_83 : decode cX0_weighSets 83 = .ok (.istore 10, 2) := by decide +kernel
theorem dX0_weighSets_85 : decode cX0_weighSets 85 = .ok (.aload_n 0, 1) := by decide +kernel
theorem dX0_weighSets_86 : decode cX0_weighSets 86 = .ok (.getfield 11, 3) := by decide +kernel
theorem dX0_weighSets_89 : decode cX0_weighSets 89 = .ok (.iload 7, 2) := by decide +kernel
theorem dX0_weighSets_91 : decode cX0_weighSets 91 = .ok (.iload 10, 2) := by decide +kernel
theorem dX0_weighSets_93 : decode cX0_weighSets 93 = .ok (.ifCond .eq 8, 3) := by decide +kernel
theorem dX0_weighSets_96 : decode cX0_weighSets 96 = .ok (.ldc 39, 2) := by decide +kernel
theorem dX0_weighSets_98 : decode cX0_weighSets 98 = .ok (.goto 4, 3) := by decide +kernel
theorem dX0_weighSets_101 : decode cX0_weighSets 101 = .ok (.iconst 0, 1) := by decide +kernel
theorem dX0_weighSets_102 : decode cX0_weighSets 102 = .ok (.iload_n 2, 1) := by decide +kernel
theorem dX0_weighSets_103 : decode cX0_weighSets 103 = .ok (.iconst 1, 1) := by decide +kernel
theorem dX0_weighSets_104 : decode cX0_weighSets 104 = .ok (.iadd, 1) := by decide +kernel
theorem dX0_weighSets_105 : decode cX0_weighSets 105 = .ok (.iload 7, 2) := by decide +kernel
theorem dX0_weighSets_107 : decode cX0_weighSets 107 = .ok (.invokestatic 68, 3) := by decide +kernel
theorem dX0_weighSets_110 : decode cX0_weighSets 110 = .ok (.imul, 1) := by decide +kernel
theorem dX0_weighSets_111 : decode cX0_weighSets 111 = .ok (.isub, 1) := by decide +kernel
theorem dX0_weighSets_112 : decode cX0_weighSets 112 = .ok (.iastore, 1) := by decide +kernel
theorem dX0_weighSets_113 : decode cX0_weighSets 113 = .ok (.iinc 7 1, 3) := by decide +kernel
theorem dX0_weighSets_116 : decode cX0_weighSets 116 = .ok (.goto (-99), 3) := by decide +kernel
theorem dX0_weighSets_119 : decode cX0_weighSets 119 = .ok (.return_, 1) := by decide +kernel
theorem dX0_skillsOfSet_0 : decode cX0_skillsOfSet 0 = .ok (.iconst 0, 1) := by decide +kernel
theorem dX0_skillsOfSet_1 : decode cX0_skillsOfSet 1 = .ok (.istore_n 2, 1) := by decide +kernel
theorem dX0_skillsOfSet_2 : decode cX0_skillsOfSet 2 = .ok (.iconst 0, 1) := by decide +kernel
theorem dX0_skillsOfSet_3 : decode cX0_skillsOfSet 3 = .ok (.istore_n 3, 1) := by decide +kernel
theorem dX0_skillsOfSet_4 : decode cX0_skillsOfSet 4 = .ok (.iload_n 3, 1) := by decide +kernel
theorem dX0_skillsOfSet_5 : decode cX0_skillsOfSet 5 = .ok (.bipush 8, 2) := by decide +kernel
theorem dX0_skillsOfSet_7 : decode cX0_skillsOfSet 7 = .ok (.if_icmp .ge 27, 3) := by decide +kernel
theorem dX0_skillsOfSet_10 : decode cX0_skillsOfSet 10 = .ok (.iload_n 1, 1) := by decide +kernel
theorem dX0_skillsOfSet_11 : decode cX0_skillsOfSet 11 = .ok (.iload_n 3, 1) := by decide +kernel
theorem dX0_skillsOfSet_12 : decode cX0_skillsOfSet 12 = .ok (.ishr, 1) := by decide +kernel
theorem dX0_skillsOfSet_13 : decode cX0_skillsOfSet 13 = .ok (.iconst 1, 1) := by decide +kernel
theorem dX0_skillsOfSet_14 : decode cX0_skillsOfSet 14 = .ok (.iand, 1) := by decide +kernel
theorem dX0_skillsOfSet_15 : decode cX0_skillsOfSet 15 = .ok (.iconst 1, 1) := by decide +kernel
theorem dX0_skillsOfSet_16 : decode cX0_skillsOfSet 16 = .ok (.if_icmp .ne 12, 3) := by decide +kernel
theorem dX0_skillsOfSet_19 : decode cX0_skillsOfSet 19 = .ok (.iload_n 2, 1) := by decide +kernel
theorem dX0_skillsOfSet_20 : decode cX0_skillsOfSet 20 = .ok (.aload_n 0, 1) := by decide +kernel
theorem dX0_skillsOfSet_21 : decode cX0_skillsOfSet 21 = .ok (.getfield 71, 3) := by decide +kernel
theorem dX0_skillsOfSet_24 : decode cX0_skillsOfSet 24 = .ok (.iload_n 3, 1) := by decide +kernel
theorem dX0_skillsOfSet_25 : decode cX0_skillsOfSet 25 = .ok (.iaload, 1) := by decide +kernel
theorem dX0_skillsOfSet_26 : decode cX0_skillsOfSet 26 = .ok (.iadd, 1) := by decide +kernel
theorem dX0_skillsOfSet_27 : decode cX0_skillsOfSet 27 = .ok (.istore_n 2, 1) := by decide +kernel
theorem dX0_skillsOfSet_28 : decode cX0_skillsOfSet 28 = .ok (.iinc 3 1, 3) := by decide +kernel
theorem dX0_skillsOfSet_31 : decode cX0_skillsOfSet 31 = .ok (.goto (-27), 3) := by decide +kernel
theorem dX0_skillsOfSet_34 : decode cX0_skillsOfSet 34 = .ok (.iload_n 2, 1) := by decide +kernel
theorem dX0_skillsOfSet_35 : decode cX0_skillsOfSet 35 = .ok (.ireturn, 1) := by decide +kernel
theorem dX0_onesOfSet_0 : decode cX0_onesOfSet 0 = .ok (.iconst 0, 1) := by decide +kernel
theorem dX0_onesOfSet_1 : decode cX0_onesOfSet 1 = .ok (.istore_n 1, 1) := by decide +kernel
theorem dX0_onesOfSet_2 : decode cX0_onesOfSet 2 = .ok (.iconst 0, 1) := by decide +kernel
theorem dX0_onesOfSet_3 : decode cX0_onesOfSet 3 = .ok (.istore_n 2, 1) := by decide +kernel
theorem dX0_onesOfSet_4 : decode cX0_onesOfSet 4 = .ok (.iload_n 2, 1) := by decide +kernel
theorem dX0_onesOfSet_5 : decode cX0_onesOfSet 5 = .ok (.bipush 8, 2) := by decide +kernel
theorem dX0_onesOfSet_7 : decode cX0_onesOfSet 7 = .ok (.if_icmp .ge 19, 3) := by decide +kernel
theorem dX0_onesOfSet_10 : decode cX0_onesOfSet 10 = .ok (.iconst 4, 1) := by decide +kernel
theorem dX0_onesOfSet_11 : decode cX0_onesOfSet 11 = .ok (.iload_n 1, 1) := by decide +kernel
theorem dX0_onesOfSet_12 : decode cX0_onesOfSet 12 = .ok (.imul, 1) := by decide +kernel
theorem dX0_onesOfSet_13 : decode cX0_onesOfSet 13 = .ok (.iload_n 0, 1) := by decide +kernel
theorem dX0_onesOfSet_14 : decode cX0_onesOfSet 14 = .ok (.iload_n 2, 1) := by decide +kernel
theorem dX0_onesOfSet_15 : decode cX0_onesOfSet 15 = .ok (.ishr, 1) := by decide +kernel
theorem dX0_onesOfSet_16 : decode cX0_onesOfSet 16 = .ok (.iconst 1, 1) := by decide +kernel
theorem dX0_onesOfSet_17 : decode cX0_onesOfSet 17 = .ok (.iand, 1) := by decide +kernel
theorem dX0_onesOfSet_18 : decode cX0_onesOfSet 18 = .ok (.iadd, 1) := by decide +kernel
theorem dX0_onesOfSet_19 : decode cX0_onesOfSet 19 = .ok (.istore_n 1, 1) := by decide +kernel
theorem dX0_onesOfSet_20 : decode cX0_onesOfSet 20 = .ok (.iinc 2 1, 3) := by decide +kernel
theorem dX0_onesOfSet_23 : decode cX0_onesOfSet 23 = .ok (.goto (-19), 3) := by decide +kernel
theorem dX0_onesOfSet_26 : decode cX0_onesOfSet 26 = .ok (.iload_n 1, 1) := by decide +kernel
theorem dX0_onesOfSet_27 : decode cX0_onesOfSet 27 = .ok (.ireturn, 1) := by decide +kernel
set_option maxRecDepth 20000 in
theorem ggX0_addShipToBest_X0_bestSplit : GoodIn wsX0_addShipToBest wsX0_bestSplit := goodIn_r _ [6, 1, 7, 8, 9, 10] (by decide +kernel) (by decide +kernel)
set_option maxRecDepth 20000 in
theorem gX0_addShipToBest_X0_bestSplit : GoodIn wsX0_addShipToBest (wsV RX0 74 RX0 yX0_bestSplit wsX0_bestSplit) := goodIn_app (goodIn_of _ (by decide +kernel)) ggX0_addShipToBest_X0_bestSplit
theorem dX0_addShipToBest_0 : decode cX0_addShipToBest 0 = .ok (.iload_n 1, 1) := by decide +kernel
theorem dX0_addShipToBest_1 : decode cX0_addShipToBest 1 = .ok (.istore_n 3, 1) := by decide +kernel
theorem dX0_addShipToBest_2 : decode cX0_addShipToBest 2 = .ok (.iload_n 3, 1) := by decide +kernel
theorem dX0_addShipToBest_3 : decode cX0_addShipToBest 3 = .ok (.iload_n 2, 1) := by decide +kernel
theorem dX0_addShipToBest_4 : decode cX0_addShipToBest 4 = .ok (.if_icmp .lt 28, 3) := by decide +kernel
theorem dX0_addShipToBest_7 : decode cX0_addShipToBest 7 = .ok (.iload_n 3, 1) := by decide +kernel
theorem dX0_addShipToBest_8 : decode cX0_addShipToBest 8 = .ok (.iload_n 1, 1) := by decide +kernel
theorem dX0_addShipToBest_9 : decode cX0_addShipToBest 9 = .ok (.iconst (-1), 1) := by decide +kernel
theorem dX0_addShipToBest_10 : decode cX0_addShipToBest 10 = .ok (.ixor, 1) := by decide +kernel
theorem dX0_addShipToBest_11 : decode cX0_addShipToBest 11 = .ok (.iand, 1) := by decide +kernel
theorem dX0_addShipToBest_12 : decode cX0_addShipToBest 12 = .ok (.ifCond .ne 14, 3) := by decide +kernel
theorem dX0_addShipToBest_15 : decode cX0_addShipToBest 15 = .ok (.aload_n 0, 1) := by decide +kernel
theorem dX0_addShipToBest_16 : decode cX0_addShipToBest 16 = .ok (.getfield 15, 3) := by decide +kernel
theorem dX0_addShipToBest_19 : decode cX0_addShipToBest 19 = .ok (.iload_n 3, 1) := by decide +kernel
theorem dX0_addShipToBest_20 : decode cX0_addShipToBest 20 = .ok (.aload_n 0, 1) := by decide +kernel
theorem dX0_addShipToBest_21 : decode cX0_addShipToBest 21 = .ok (.iload_n 3, 1) := by decide +kernel
theorem dX0_addShipToBest_22 : decode cX0_addShipToBest 22 = .ok (.invokevirtual 74, 3) := by decide +kernel
theorem dX0_addShipToBest_25 : decode cX0_addShipToBest 25 = .ok (.iastore, 1) := by decide +kernel
theorem dX0_addShipToBest_26 : decode cX0_addShipToBest 26 = .ok (.iinc 3 (-1), 3) := by decide +kernel
theorem dX0_addShipToBest_29 : decode cX0_addShipToBest 29 = .ok (.goto (-27), 3) := by decide +kernel
theorem dX0_addShipToBest_32 : decode cX0_addShipToBest 32 = .ok (.return_, 1) := by decide +kernel
theorem dX0_bestSplit_0 : decode cX0_bestSplit 0 = .ok (.aload_n 0, 1) := by decide +kernel
theorem dX0_bestSplit_1 : decode cX0_bestSplit 1 = .ok (.getfield 15, 3) := by decide +kernel
theorem dX0_bestSplit_4 : decode cX0_bestSplit 4 = .ok (.iload_n 1, 1) := by decide +kernel
theorem dX0_bestSplit_5 : decode cX0_bestSplit 5 = .ok (.iaload, 1) := by decide +kernel
theorem dX0_bestSplit_6 : decode cX0_bestSplit 6 = .ok (.aload_n 0, 1) := by decide +kernel
theorem dX0_bestSplit_7 : decode cX0_bestSplit 7 = .ok (.getfield 11, 3) := by decide +kernel
theorem dX0_bestSplit_10 : decode cX0_bestSplit 10 = .ok (.iconst 0, 1) := by decide +kernel
theorem dX0_bestSplit_11 : decode cX0_bestSplit 11 = .ok (.iaload, 1) := by decide +kernel
theorem dX0_bestSplit_12 : decode cX0_bestSplit 12 = .ok (.iadd, 1) := by decide +kernel
theorem dX0_bestSplit_13 : decode cX0_bestSplit 13 = .ok (.istore_n 2, 1) := by decide +kernel
theorem dX0_bestSplit_14 : decode cX0_bestSplit 14 = .ok (.iload_n 1, 1) := by decide +kernel
theorem dX0_bestSplit_15 : decode cX0_bestSplit 15 = .ok (.istore_n 3, 1) := by decide +kernel
theorem dX0_bestSplit_16 : decode cX0_bestSplit 16 = .ok (.iconst 0, 1) := by decide +kernel
theorem dX0_bestSplit_17 : decode cX0_bestSplit 17 = .ok (.istore 4, 2) := by decide +kernel
theorem dX0_bestSplit_19 : decode cX0_bestSplit 19 = .ok (.iload 4, 2) := by decide +kernel
theorem dX0_bestSplit_21 : decode cX0_bestSplit 21 = .ok (.sipush 256, 3) := by decide +kernel
theorem dX0_bestSplit_24 : decode cX0_bestSplit 24 = .ok (.if_icmp .ge 45, 3) := by decide +kernel
theorem dX0_bestSplit_27 : decode cX0_bestSplit 27 = .ok (.iload_n 3, 1) := by decide +kernel
theorem dX0_bestSplit_28 : decode cX0_bestSplit 28 = .ok (.ifCond .le 41, 3) := by decide +kernel
theorem dX0_bestSplit_31 : decode cX0_bestSplit 31 = .ok (.aload_n 0, 1) := by decide +kernel
theorem dX0_bestSplit_32 : decode cX0_bestSplit 32 = .ok (.getfield 11, 3) := by decide +kernel
theorem dX0_bestSplit_35 : decode cX0_bestSplit 35 = .ok (.iload_n 3, 1) := by decide +kernel
theorem dX0_bestSplit_36 : decode cX0_bestSplit 36 = .ok (.iaload, 1) := by decide +kernel
theorem dX0_bestSplit_37 : decode cX0_bestSplit 37 = .ok (.aload_n 0, 1) := by decide +kernel
theorem dX0_bestSplit_38 : decode cX0_bestSplit 38 = .ok (.getfield 15, 3) := by decide +kernel
theorem dX0_bestSplit_41 : decode cX0_bestSplit 41 = .ok (.iload_n 1, 1) := by decide +kernel
theorem dX0_bestSplit_42 : decode cX0_bestSplit 42 = .ok (.iload_n 3, 1) := by decide +kernel
theorem dX0_bestSplit_43 : decode cX0_bestSplit 43 = .ok (.ixor, 1) := by decide +kernel
theorem dX0_bestSplit_44 : decode cX0_bestSplit 44 = .ok (.iaload, 1) := by decide +kernel
theorem dX0_bestSplit_45 : decode cX0_bestSplit 45 = .ok (.iadd, 1) := by decide +kernel
theorem dX0_bestSplit_46 : decode cX0_bestSplit 46 = .ok (.istore 5, 2) := by decide +kernel
theorem dX0_bestSplit_48 : decode cX0_bestSplit 48 = .ok (.iload 5, 2) := by decide +kernel
theorem dX0_bestSplit_50 : decode cX0_bestSplit 50 = .ok (.iload_n 2, 1) := by decide +kernel
theorem dX0_bestSplit_51 : decode cX0_bestSplit 51 = .ok (.if_icmp .le 6, 3) := by decide +kernel
theorem dX0_bestSplit_54 : decode cX0_bestSplit 54 = .ok (.iload 5, 2) := by decide +kernel
theorem dX0_bestSplit_56 : decode cX0_bestSplit 56 = .ok (.istore_n 2, 1) := by decide +kernel
theorem dX0_bestSplit_57 : decode cX0_bestSplit 57 = .ok (.iload_n 3, 1) := by decide +kernel
theorem dX0_bestSplit_58 : decode cX0_bestSplit 58 = .ok (.iconst 1, 1) := by decide +kernel
theorem dX0_bestSplit_59 : decode cX0_bestSplit 59 = .ok (.isub, 1) := by decide +kernel
theorem dX0_bestSplit_60 : decode cX0_bestSplit 60 = .ok (.iload_n 1, 1) := by decide +kernel
theorem dX0_bestSplit_61 : decode cX0_bestSplit 61 = .ok (.iand, 1) := by decide +kernel
theorem dX0_bestSplit_62 : decode cX0_bestSplit 62 = .ok (.istore_n 3, 1) := by decide +kernel
theorem dX0_bestSplit_63 : decode cX0_bestSplit 63 = .ok (.iinc 4 1, 3) := by decide +kernel
theorem dX0_bestSplit_66 : decode cX0_bestSplit 66 = .ok (.goto (-47), 3) := by decide +kernel
theorem dX0_bestSplit_69 : decode cX0_bestSplit 69 = .ok (.iload_n 2, 1) := by decide +kernel
theorem dX0_bestSplit_70 : decode cX0_bestSplit 70 = .ok (.ireturn, 1) := by decide +kernel
