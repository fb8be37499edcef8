set_option maxRecDepth 20000 in
theorem ggX4_init_X2_init : GoodIn wsX4_init wsX2_init := goodIn_r _ [21, 22, 2, 3, 23, 24, 6, 25, 37, 38, 39] (by decide +kernel) (by decide +kernel)
set_option maxRecDepth 20000 in
theorem gX4_init_X2_init : GoodIn wsX4_init (wsX2_init) := ggX4_init_X2_init
theorem dX4_init_0 : decode cX4_init 0 = .ok (.aload_n 0, 1) := by decide +kernel
theorem dX4_init_1 : decode cX4_init 1 = .ok (.invokespecial 3, 3) := by decide +kernel
theorem dX4_init_4 : decode cX4_init 4 = .ok (.aload_n 0, 1) := by decide +kernel
theorem dX4_init_5 : decode cX4_init 5 = .ok (.iconst 0, 1) := by decide +kernel
theorem dX4_init_6 : decode cX4_init 6 = .ok (.putfield 9, 3) := by decide +kernel
theorem dX4_init_9 : decode cX4_init 9 = .ok (.aload_n 0, 1) := by decide +kernel
theorem dX4_init_10 : decode cX4_init 10 = .ok (.iconst 0, 1) := by decide +kernel
theorem dX4_init_11 : decode cX4_init 11 = .ok (.putfield 15, 3) := by decide +kernel
theorem dX4_init_14 : decode cX4_init 14 = .ok (.aload_n 0, 1) := by decide +kernel
theorem dX4_init_15 : decode cX4_init 15 = .ok (.iconst 3, 1) := by decide +kernel
theorem dX4_init_16 : decode cX4_init 16 = .ok (.newarray .int, 2) := by decide +kernel
theorem dX4_init_18 : decode cX4_init 18 = .ok (.putfield 18, 3) := by decide +kernel
theorem dX4_init_21 : decode cX4_init 21 = .ok (.aload_n 0, 1) := by decide +kernel
theorem dX4_init_22 : decode cX4_init 22 = .ok (.iconst 3, 1) := by decide +kernel
theorem dX4_init_23 : decode cX4_init 23 = .ok (.newarray .int, 2) := by decide +kernel
theorem dX4_init_25 : decode cX4_init 25 = .ok (.putfield 22, 3) := by decide +kernel
theorem dX4_init_28 : decode cX4_init 28 = .ok (.aload_n 0, 1) := by decide +kernel
theorem dX4_init_29 : decode cX4_init 29 = .ok (.bipush 8, 2) := by decide +kernel
theorem dX4_init_31 : decode cX4_init 31 = .ok (.newarray .int, 2) := by decide +kernel
theorem dX4_init_33 : decode cX4_init 33 = .ok (.putfield 25, 3) := by decide +kernel
theorem dX4_init_36 : decode cX4_init 36 = .ok (.aload_n 0, 1) := by decide +kernel
theorem dX4_init_37 : decode cX4_init 37 = .ok (.bipush 8, 2) := by decide +kernel
theorem dX4_init_39 : decode cX4_init 39 = .ok (.newarray .int, 2) := by decide +kernel
theorem dX4_init_41 : decode cX4_init 41 = .ok (.putfield 28, 3) := by decide +kernel
theorem dX4_init_44 : decode cX4_init 44 = .ok (.aload_n 0, 1) := by decide +kernel
theorem dX4_init_45 : decode cX4_init 45 = .ok (.bipush 8, 2) := by decide +kernel
theorem dX4_init_47 : decode cX4_init 47 = .ok (.newarray .int, 2) := by decide +kernel
theorem dX4_init_49 : decode cX4_init 49 = .ok (.putfield 31, 3) := by decide +kernel
theorem dX4_init_52 : decode cX4_init 52 = .ok (.aload_n 0, 1) := by decide +kernel
theorem dX4_init_53 : decode cX4_init 53 = .ok (.new 34, 3) := by decide +kernel
theorem dX4_init_56 : decode cX4_init 56 = .ok (.dup, 1) := by decide +kernel
theorem dX4_init_57 : decode cX4_init 57 = .ok (.iconst 5, 1) := by decide +kernel
theorem dX4_init_58 : decode cX4_init 58 = .ok (.invokespecial 36, 3) := by decide +kernel
theorem dX4_init_61 : decode cX4_init 61 = .ok (.putfield 39, 3) := by decide +kernel
theorem dX4_init_64 : decode cX4_init 64 = .ok (.aload_n 0, 1) := by decide +kernel
theorem dX4_init_65 : decode cX4_init 65 = .ok (.new 34, 3) := by decide +kernel
theorem dX4_init_68 : decode cX4_init 68 = .ok (.dup, 1) := by decide +kernel
theorem dX4_init_69 : decode cX4_init 69 = .ok (.bipush 6, 2) := by decide +kernel
theorem dX4_init_71 : decode cX4_init 71 = .ok (.invokespecial 36, 3) := by decide +kernel
theorem dX4_init_74 : decode cX4_init 74 = .ok (.putfield 43, 3) := by decide +kernel
theorem dX4_init_77 : decode cX4_init 77 = .ok (.aload_n 0, 1) := by decide +kernel
theorem dX4_init_78 : decode cX4_init 78 = .ok (.new 34, 3) := by decide +kernel
theorem dX4_init_81 : decode cX4_init 81 = .ok (.dup, 1) := by decide +kernel
theorem dX4_init_82 : decode cX4_init 82 = .ok (.bipush 6, 2) := by decide +kernel
theorem dX4_init_84 : decode cX4_init 84 = .ok (.invokespecial 36, 3) := by decide +kernel
theorem dX4_init_87 : decode cX4_init 87 = .ok (.putfield 46, 3) := by decide +kernel
theorem dX4_init_90 : decode cX4_init 90 = .ok (.aload_n 0, 1) := by decide +kernel
theorem dX4_init_91 : decode cX4_init 91 = .ok (.new 34, 3) := by decide +kernel
theorem dX4_init_94 : decode cX4_init 94 = .ok (.dup, 1) := by decide +kernel
theorem dX4_init_95 : decode cX4_init 95 = .ok (.bipush 8, 2) := by decide +kernel
theorem dX4_init_97 : decode cX4_init 97 = .ok (.invokespecial 36, 3) := by decide +kernel
theorem dX4_init_100 : decode cX4_init 100 = .ok (.putfield 49, 3) := by decide +kernel
theorem dX4_init_103 : decode cX4_init 103 = .ok (.return_, 1) := by decide +kernel
set_option maxRecDepth 20000 in
theorem ggX4_empty_X2_empty : GoodIn wsX4_empty wsX2_empty := goodIn_r _ [11, 12, 24, 25, 26] (by decide +kernel) (by decide +kernel)
set_option maxRecDepth 20000 in
theorem gX4_empty_X2_empty : GoodIn wsX4_empty (wsV RX4 52 RX2 yX2_empty wsX2_empty) := goodIn_app (goodIn_of _ (by decide +kernel)) ggX4_empty_X2_empty
theorem dX4_empty_0 : decode cX4_empty 0 = .ok (.aload_n 0, 1) := by decide +kernel
theorem dX4_empty_1 : decode cX4_empty 1 = .ok (.iconst 0, 1) := by decide +kernel
theorem dX4_empty_2 : decode cX4_empty 2 = .ok (.putfield 9, 3) := by decide +kernel
theorem dX4_empty_5 : decode cX4_empty 5 = .ok (.aload_n 0, 1) := by decide +kernel
theorem dX4_empty_6 : decode cX4_empty 6 = .ok (.iconst 0, 1) := by decide +kernel
theorem dX4_empty_7 : decode cX4_empty 7 = .ok (.putfield 15, 3) := by decide +kernel
theorem dX4_empty_10 : decode cX4_empty 10 = .ok (.aload_n 0, 1) := by decide +kernel
theorem dX4_empty_11 : decode cX4_empty 11 = .ok (.getfield 39, 3) := by decide +kernel
theorem dX4_empty_14 : decode cX4_empty 14 = .ok (.invokevirtual 52, 3) := by decide +kernel
theorem dX4_empty_17 : decode cX4_empty 17 = .ok (.pop, 1) := by decide +kernel
theorem dX4_empty_18 : decode cX4_empty 18 = .ok (.aload_n 0, 1) := by decide +kernel
theorem dX4_empty_19 : decode cX4_empty 19 = .ok (.getfield 43, 3) := by decide +kernel
theorem dX4_empty_22 : decode cX4_empty 22 = .ok (.invokevirtual 52, 3) := by decide +kernel
theorem dX4_empty_25 : decode cX4_empty 25 = .ok (.pop, 1) := by decide +kernel
theorem dX4_empty_26 : decode cX4_empty 26 = .ok (.aload_n 0, 1) := by decide +kernel
theorem dX4_empty_27 : decode cX4_empty 27 = .ok (.getfield 46, 3) := by decide +kernel
theorem dX4_empty_30 : decode cX4_empty 30 = .ok (.invokevirtual 52, 3) := by decide +kernel
theorem dX4_empty_33 : decode cX4_empty 33 = .ok (.pop, 1) := by decide +kernel
theorem dX4_empty_34 : decode cX4_empty 34 = .ok (.aload_n 0, 1) := by decide +kernel
theorem dX4_empty_35 : decode cX4_empty 35 = .ok (.getfield 49, 3) := by decide +kernel
theorem dX4_empty_38 : decode cX4_empty 38 = .ok (.invokevirtual 52, 3) := by decide +kernel
theorem dX4_empty_41 : decode cX4_empty 41 = .ok (.pop, 1) := by decide +kernel
theorem dX4_empty_42 : decode cX4_empty 42 = .ok (.return_, 1) := by decide +kernel
set_option maxRecDepth 20000 in
theorem ggX4_take_X4_takePlaces : GoodIn wsX4_take wsX4_takePlaces := goodIn_r _ [9, 10, 11, 12, 13, 14, 15, 16, 17, 18, 19, 20, 34, 35, 36, 37, 38, 39, 40, 41, 42, 43, 44] (by decide +kernel) (by decide +kernel)
set_option maxRecDepth 20000 in
theorem gX4_take_X4_takePlaces : GoodIn wsX4_take (wsV RX4 56 RX4 yX4_takePlaces wsX4_takePlaces) := goodIn_app (goodIn_of _ (by decide +kernel)) ggX4_take_X4_takePlaces
set_option maxRecDepth 20000 in
theorem ggX4_take_X2_take : GoodIn wsX4_take wsX2_take := goodIn_r _ [25, 26, 27, 28, 29, 30, 31, 32, 33, 14, 15, 16, 45, 46, 47] (by decide +kernel) (by decide +kernel)
set_option maxRecDepth 20000 in
theorem gX4_take_X2_take : GoodIn wsX4_take (wsV RX4 60 RX2 yX2_take wsX2_take) := goodIn_app (goodIn_of _ (by decide +kernel)) ggX4_take_X2_take
theorem dX4_take_0 : decode cX4_take 0 = .ok (.aload_n 0, 1) := by decide +kernel
theorem dX4_take_1 : decode cX4_take 1 = .ok (.aload_n 1, 1) := by decide +kernel
theorem dX4_take_2 : decode cX4_take 2 = .ok (.invokevirtual 56, 3) := by decide +kernel
theorem dX4_take_5 : decode cX4_take 5 = .ok (.aload_n 0, 1) := by decide +kernel
theorem dX4_take_6 : decode cX4_take 6 = .ok (.getfield 39, 3) := by decide +kernel
theorem dX4_take_9 : decode cX4_take 9 = .ok (.aload_n 1, 1) := by decide +kernel
theorem dX4_take_10 : decode cX4_take 10 = .ok (.getfield 39, 3) := by decide +kernel
theorem dX4_take_13 : decode cX4_take 13 = .ok (.invokevirtual 60, 3) := by decide +kernel
theorem dX4_take_16 : decode cX4_take 16 = .ok (.aload_n 0, 1) := by decide +kernel
theorem dX4_take_17 : decode cX4_take 17 = .ok (.getfield 43, 3) := by decide +kernel
theorem dX4_take_20 : decode cX4_take 20 = .ok (.aload_n 1, 1) := by decide +kernel
theorem dX4_take_21 : decode cX4_take 21 = .ok (.getfield 43, 3) := by decide +kernel
theorem dX4_take_24 : decode cX4_take 24 = .ok (.invokevirtual 60, 3) := by decide +kernel
theorem dX4_take_27 : decode cX4_take 27 = .ok (.aload_n 0, 1) := by decide +kernel
theorem dX4_take_28 : decode cX4_take 28 = .ok (.getfield 46, 3) := by decide +kernel
theorem dX4_take_31 : decode cX4_take 31 = .ok (.aload_n 1, 1) := by decide +kernel
theorem dX4_take_32 : decode cX4_take 32 = .ok (.getfield 46, 3) := by decide +kernel
theorem dX4_take_35 : decode cX4_take 35 = .ok (.invokevirtual 60, 3) := by decide +kernel
theorem dX4_take_38 : decode cX4_take 38 = .ok (.aload_n 0, 1) := by decide +kernel
theorem dX4_take_39 : decode cX4_take 39 = .ok (.getfield 49, 3) := by decide +kernel
theorem dX4_take_42 : decode cX4_take 42 = .ok (.aload_n 1, 1) := by decide +kernel
theorem dX4_take_43 : decode cX4_take 43 = .ok (.getfield 49, 3) := by decide +kernel
theorem dX4_take_46 : decode cX4_take 46 = .ok (.invokevirtual 60, 3) := by decide +kernel
theorem dX4_take_49 : decode cX4_take 49 = .ok (.return_, 1) := by decide +kernel
theorem dX4_takePlaces_0 : decode cX4_takePlaces 0 = .ok (.aload_n 0, 1) := by decide +kernel
theorem dX4_takePlaces_1 : decode cX4_takePlaces 1 = .ok (.aload_n 1, 1) := by decide +kernel
theorem dX4_takePlaces_2 : decode cX4_takePlaces 2 = .ok (.getfield 9, 3) := by decide +kernel
theorem dX4_takePlaces_5 : decode cX4_takePlaces 5 = .ok (.putfield 9, 3) := by decide +kernel
theorem dX4_takePlaces_8 : decode cX4_takePlaces 8 = .ok (.aload_n 0, 1) := by decide +kernel
theorem dX4_takePlaces_9 : decode cX4_takePlaces 9 = .ok (.aload_n 1, 1) := by decide +kernel
theorem dX4_takePlaces_10 : decode cX4_takePlaces 10 = .ok (.getfield 15, 3) := by decide +kernel
theorem dX4_takePlaces_13 : decode cX4_takePlaces 13 = .ok (.putfield 15, 3) := by decide +kernel
theorem dX4_takePlaces_16 : decode cX4_takePlaces 16 = .ok (.aload_n 1, 1) := by decide +kernel
theorem dX4_takePlaces_17 : decode cX4_takePlaces 17 = .ok (.getfield 18, 3) := by decide +kernel
theorem dX4_takePlaces_20 : decode cX4_takePlaces 20 = .ok (.iconst 0, 1) := by decide +kernel
theorem dX4_takePlaces_21 : decode cX4_takePlaces 21 = .ok (.aload_n 0, 1) := by decide +kernel
theorem dX4_takePlaces_22 : decode cX4_takePlaces 22 = .ok (.getfield 18, 3) := by decide +kernel
theorem dX4_takePlaces_25 : decode cX4_takePlaces 25 = .ok (.iconst 0, 1) := by decide +kernel
theorem dX4_takePlaces_26 : decode cX4_takePlaces 26 = .ok (.iconst 3, 1) := by decide +kernel
theorem dX4_takePlaces_27 : decode cX4_takePlaces 27 = .ok (.invokestatic 64, 3) := by decide +kernel
theorem dX4_takePlaces_30 : decode cX4_takePlaces 30 = .ok (.aload_n 1, 1) := by decide +kernel
theorem dX4_takePlaces_31 : decode cX4_takePlaces 31 = .ok (.getfield 22, 3) := by decide +kernel
theorem dX4_takePlaces_34 : decode cX4_takePlaces 34 = .ok (.iconst 0, 1) := by decide +kernel
theorem dX4_takePlaces_35 : decode cX4_takePlaces 35 = .ok (.aload_n 0, 1) := by decide +kernel
theorem dX4_takePlaces_36 : decode cX4_takePlaces 36 = .ok (.getfield 22, 3) := by decide +kernel
theorem dX4_takePlaces_39 : decode cX4_takePlaces 39 = .ok (.iconst 0, 1) := by decide +kernel
theorem dX4_takePlaces_40 : decode cX4_takePlaces 40 = .ok (.iconst 3, 1) := by decide +kernel
theorem dX4_takePlaces_41 : decode cX4_takePlaces 41 = .ok (.invokestatic 64, 3) := by decide +kernel
theorem dX4_takePlaces_44 : decode cX4_takePlaces 44 = .ok (.aload_n 1, 1) := by decide +kernel
theorem dX4_takePlaces_45 : decode cX4_takePlaces 45 = .ok (.getfield 25, 3) := by decide +kernel
theorem dX4_takePlaces_48 : decode cX4_takePlaces 48 = .ok (.iconst 0, 1) := by decide +kernel
theorem dX4_takePlaces_49 : decode cX4_takePlaces 49 = .ok (.aload_n 0, 1) := by decide +kernel
theorem dX4_takePlaces_50 : decode cX4_takePlaces 50 = .ok (.getfield 25, 3) := by decide +kernel
theorem dX4_takePlaces_53 : decode cX4_takePlaces 53 = .ok (.iconst 0, 1) := by decide +kernel
theorem dX4_takePlaces_54 : decode cX4_takePlaces 54 = .ok (.bipush 8, 2) := by decide +kernel
theorem dX4_takePlaces_56 : decode cX4_takePlaces 56 = .ok (.invokestatic 64, 3) := by decide +kernel
theorem dX4_takePlaces_59 : decode cX4_takePlaces 59 = .ok (.aload_n 1, 1) := by decide +kernel
theorem dX4_takePlaces_60 : decode cX4_takePlaces 60 = .ok (.getfield 28, 3) := by decide +kernel
theorem dX4_takePlaces_63 : decode cX4_takePlaces 63 = .ok (.iconst 0, 1) := by decide +kernel
theorem dX4_takePlaces_64 : decode cX4_takePlaces 64 = .ok (.aload_n 0, 1) := by decide +kernel
theorem dX4_takePlaces_65 : decode cX4_takePlaces 65 = .ok (.getfield 28, 3) := by decide +kernel
theorem dX4_takePlaces_68 : decode cX4_takePlaces 68 = .ok (.iconst 0, 1) := by decide +kernel
theorem dX4_takePlaces_69 : decode cX4_takePlaces 69 = .ok (.bipush 8, 2) := by decide +kernel
theorem dX4_takePlaces_71 : decode cX4_takePlaces 71 = .ok (.invokestatic 64, 3) := by decide +kernel
theorem dX4_takePlaces_74 : decode cX4_takePlaces 74 = .ok (.aload_n 1, 1) := by decide +kernel
theorem dX4_takePlaces_75 : decode cX4_takePlaces 75 = .ok (.getfield 31, 3) := by decide +kernel
theorem dX4_takePlaces_78 : decode cX4_takePlaces 78 = .ok (.iconst 0, 1) := by decide +kernel
theorem dX4_takePlaces_79 : decode cX4_takePlaces 79 = .ok (.aload_n 0, 1) := by decide +kernel
theorem dX4_takePlaces_80 : decode cX4_takePlaces 80 = .ok (.getfield 31, 3) := by decide +kernel
theorem dX4_takePlaces_83 : decode cX4_takePlaces 83 = .ok (.iconst 0, 1) := by decide +kernel
theorem dX4_takePlaces_84 : decode cX4_takePlaces 84 = .ok (.bipush 8, 2) := by decide +kernel
theorem dX4_takePlaces_86 : decode cX4_takePlaces 86 = .ok (.invokestatic 64, 3) := by decide +kernel
theorem dX4_takePlaces_89 : decode cX4_takePlaces 89 = .ok (.return_, 1) := by decide +kernel
theorem dX4_hasShip_0 : decode cX4_hasShip 0 = .ok (.iload_n 1, 1) := by decide +kernel
theorem dX4_hasShip_1 : decode cX4_hasShip 1 = .ok (.ifCond .lt 15, 3) := by decide +kernel
theorem dX4_hasShip_4 : decode cX4_hasShip 4 = .ok (.iload_n 1, 1) := by decide +kernel
theorem dX4_hasShip_5 : decode cX4_hasShip 5 = .ok (.aload_n 0, 1) := by decide +kernel
theorem dX4_hasShip_6 : decode cX4_hasShip 6 = .ok (.getfield 9, 3) := by decide +kernel
theorem dX4_hasShip_9 : decode cX4_hasShip 9 = .ok (.if_icmp .ge 7, 3) := by decide +kernel
theorem dX4_hasShip_12 : decode cX4_hasShip 12 = .ok (.iconst 1, 1) := by decide +kernel
theorem dX4_hasShip_13 : decode cX4_hasShip 13 = .ok (.goto 4, 3) := by decide +kernel
theorem dX4_hasShip_16 : decode cX4_hasShip 16 = .ok (.iconst 0, 1) := by decide +kernel
theorem dX4_hasShip_17 : decode cX4_hasShip 17 = .ok (.ireturn, 1) := by decide +kernel
theorem dX4_hasMan_0 : decode cX4_hasMan 0 = .ok (.iload_n 1, 1) := by decide +kernel
theorem dX4_hasMan_1 : decode cX4_hasMan 1 = .ok (.ifCond .lt 15, 3) := by decide +kernel
theorem dX4_hasMan_4 : decode cX4_hasMan 4 = .ok (.iload_n 1, 1) := by decide +kernel
theorem dX4_hasMan_5 : decode cX4_hasMan 5 = .ok (.aload_n 0, 1) := by decide +kernel
theorem dX4_hasMan_6 : decode cX4_hasMan 6 = .ok (.getfield 15, 3) := by decide +kernel
theorem dX4_hasMan_9 : decode cX4_hasMan 9 = .ok (.if_icmp .ge 7, 3) := by decide +kernel
theorem dX4_hasMan_12 : decode cX4_hasMan 12 = .ok (.iconst 1, 1) := by decide +kernel
theorem dX4_hasMan_13 : decode cX4_hasMan 13 = .ok (.goto 4, 3) := by decide +kernel
theorem dX4_hasMan_16 : decode cX4_hasMan 16 = .ok (.iconst 0, 1) := by decide +kernel
theorem dX4_hasMan_17 : decode cX4_hasMan 17 = .ok (.ireturn, 1) := by decide +kernel
set_option maxRecDepth 20000 in
theorem ggX4_addShip_X2_empty : GoodIn wsX4_addShip wsX2_empty := goodIn_r _ [9, 10, 22, 23, 24] (by decide +kernel) (by decide +kernel)
set_option maxRecDepth 20000 in
theorem gX4_addShip_X2_empty : GoodIn wsX4_addShip (wsV RX4 52 RX2 yX2_empty wsX2_empty) := goodIn_app (goodIn_of _ (by decide +kernel)) ggX4_addShip_X2_empty
theorem dX4_addShip_0 : decode cX4_addShip 0 = .ok (.aload_n 0, 1) := by decide +kernel
theorem dX4_addShip_1 : decode cX4_addShip 1 = .ok (.getfield 9, 3) := by decide +kernel
theorem dX4_addShip_4 : decode cX4_addShip 4 = .ok (.iconst 3, 1) := by decide +kernel
theorem dX4_addShip_5 : decode cX4_addShip 5 = .ok (.if_icmp .lt 5, 3) := by decide +kernel
theorem dX4_addShip_8 : decode cX4_addShip 8 = .ok (.iconst (-1), 1) := by decide +kernel
theorem dX4_addShip_9 : decode cX4_addShip 9 = .ok (.ireturn, 1) := by decide +kernel
theorem dX4_addShip_10 : decode cX4_addShip 10 = .ok (.aload_n 0, 1) := by decide +kernel
theorem dX4_addShip_11 : decode cX4_addShip 11 = .ok (.getfield 18, 3) := by decide +kernel
theorem dX4_addShip_14 : decode cX4_addShip 14 = .ok (.aload_n 0, 1) := by decide +kernel
theorem dX4_addShip_15 : decode cX4_addShip 15 = .ok (.getfield 9, 3) := by decide +kernel
theorem dX4_addShip_18 : decode cX4_addShip 18 = .ok (.iload_n 1, 1) := by decide +kernel
theorem dX4_addShip_19 : decode cX4_addShip 19 = .ok (.iastore, 1) := by decide +kernel
theorem dX4_addShip_20 : decode cX4_addShip 20 = .ok (.aload_n 0, 1) := by decide +kernel
theorem dX4_addShip_21 : decode cX4_addShip 21 = .ok (.getfield 22, 3) := by decide +kernel
theorem dX4_addShip_24 : decode cX4_addShip 24 = .ok (.aload_n 0, 1) := by decide +kernel
theorem dX4_addShip_25 : decode cX4_addShip 25 = .ok (.getfield 9, 3) := by decide +kernel
theorem dX4_addShip_28 : decode cX4_addShip 28 = .ok (.iconst 0, 1) := by decide +kernel
theorem dX4_addShip_29 : decode cX4_addShip 29 = .ok (.iastore, 1) := by decide +kernel
theorem dX4_addShip_30 : decode cX4_addShip 30 = .ok (.aload_n 0, 1) := by decide +kernel
theorem dX4_addShip_31 : decode cX4_addShip 31 = .ok (.getfield 49, 3) := by decide +kernel
theorem dX4_addShip_34 : decode cX4_addShip 34 = .ok (.invokevirtual 52, 3) := by decide +kernel
theorem dX4_addShip_37 : decode cX4_addShip 37 = .ok (.pop, 1) := by decide +kernel
theorem dX4_addShip_38 : decode cX4_addShip 38 = .ok (.aload_n 0, 1) := by decide +kernel
theorem dX4_addShip_39 : decode cX4_addShip 39 = .ok (.dup, 1) := by decide +kernel
theorem dX4_addShip_40 : decode cX4_addShip 40 = .ok (.getfield 9, 3) := by decide +kernel
theorem dX4_addShip_43 : decode cX4_addShip 43 = .ok (.dup_x1, 1) := by decide +kernel
theorem dX4_addShip_44 : decode cX4_addShip 44 = .ok (.iconst 1, 1) := by decide +kernel
theorem dX4_addShip_45 : decode cX4_addShip 45 = .ok (.iadd, 1) := by decide +kernel
theorem dX4_addShip_46 : decode cX4_addShip 46 = .ok (.putfield 9, 3) := by decide +kernel
theorem dX4_addShip_49 : decode cX4_addShip 49 = .ok (.ireturn, 1) := by decide +kernel
set_option maxRecDepth 20000 in
theorem ggX4_addMan_X2_empty : GoodIn wsX4_addMan wsX2_empty := goodIn_r _ [10, 11, 23, 24, 25] (by decide +kernel) (by decide +kernel)
set_option maxRecDepth 20000 in
theorem gX4_addMan_X2_empty : GoodIn wsX4_addMan (wsV RX4 52 RX2 yX2_empty wsX2_empty) := goodIn_app (goodIn_of _ (by decide +kernel)) ggX4_addMan_X2_empty
theorem dX4_addMan_0 : decode cX4_addMan 0 = .ok (.aload_n 0, 1) := by decide +kernel
theorem dX4_addMan_1 : decode cX4_addMan 1 = .ok (.getfield 15, 3) := by decide +kernel
theorem dX4_addMan_4 : decode cX4_addMan 4 = .ok (.bipush 8, 2) := by decide +kernel
theorem dX4_addMan_6 : decode cX4_addMan 6 = .ok (.if_icmp .lt 5, 3) := by decide +kernel
theorem dX4_addMan_9 : decode cX4_addMan 9 = .ok (.iconst (-1), 1) := by decide +kernel
theorem dX4_addMan_10 : decode cX4_addMan 10 = .ok (.ireturn, 1) := by decide +kernel
theorem dX4_addMan_11 : decode cX4_addMan 11 = .ok (.aload_n 0, 1) := by decide +kernel
theorem dX4_addMan_12 : decode cX4_addMan 12 = .ok (.getfield 25, 3) := by decide +kernel
theorem dX4_addMan_15 : decode cX4_addMan 15 = .ok (.aload_n 0, 1) := by decide +kernel
theorem dX4_addMan_16 : decode cX4_addMan 16 = .ok (.getfield 15, 3) := by decide +kernel
theorem dX4_addMan_19 : decode cX4_addMan 19 = .ok (.iload_n 1, 1) := by decide +kernel
theorem dX4_addMan_20 : decode cX4_addMan 20 = .ok (.iastore, 1) := by decide +kernel
theorem dX4_addMan_21 : decode cX4_addMan 21 = .ok (.aload_n 0, 1) := by decide +kernel
theorem dX4_addMan_22 : decode cX4_addMan 22 = .ok (.getfield 28, 3) := by decide +kernel
theorem dX4_addMan_25 : decode cX4_addMan 25 = .ok (.aload_n 0, 1) := by decide +kernel
theorem dX4_addMan_26 : decode cX4_addMan 26 = .ok (.getfield 15, 3) := by decide +kernel
theorem dX4_addMan_29 : decode cX4_addMan 29 = .ok (.iload_n 2, 1) := by decide +kernel
theorem dX4_addMan_30 : decode cX4_addMan 30 = .ok (.iastore, 1) := by decide +kernel
theorem dX4_addMan_31 : decode cX4_addMan 31 = .ok (.aload_n 0, 1) := by decide +kernel
theorem dX4_addMan_32 : decode cX4_addMan 32 = .ok (.getfield 31, 3) := by decide +kernel
theorem dX4_addMan_35 : decode cX4_addMan 35 = .ok (.aload_n 0, 1) := by decide +kernel
theorem dX4_addMan_36 : decode cX4_addMan 36 = .ok (.getfield 15, 3) := by decide +kernel
theorem dX4_addMan_39 : decode cX4_addMan 39 = .ok (.iload_n 3, 1) := by decide +kernel
theorem dX4_addMan_40 : decode cX4_addMan 40 = .ok (.iastore, 1) := by decide +kernel
theorem dX4_addMan_41 : decode cX4_addMan 41 = .ok (.aload_n 0, 1) := by decide +kernel
theorem dX4_addMan_42 : decode cX4_addMan 42 = .ok (.getfield 49, 3) := by decide +kernel
theorem dX4_addMan_45 : decode cX4_addMan 45 = .ok (.invokevirtual 52, 3) := by decide +kernel
theorem dX4_addMan_48 : decode cX4_addMan 48 = .ok (.pop, 1) := by decide +kernel
theorem dX4_addMan_49 : decode cX4_addMan 49 = .ok (.aload_n 0, 1) := by decide +kernel
theorem dX4_addMan_50 : decode cX4_addMan 50 = .ok (.dup, 1) := by decide +kernel
theorem dX4_addMan_51 : decode cX4_addMan 51 = .ok (.getfield 15, 3) := by decide +kernel
theorem dX4_addMan_54 : decode cX4_addMan 54 = .ok (.dup_x1, 1) := by decide +kernel
theorem dX4_addMan_55 : decode cX4_addMan 55 = .ok (.iconst 1, 1) := by decide +kernel
theorem dX4_addMan_56 : decode cX4_addMan 56 = .ok (.iadd, 1) := by decide +kernel
theorem dX4_addMan_57 : decode cX4_addMan 57 = .ok (.putfield 15, 3) := by decide +kernel
theorem dX4_addMan_60 : decode cX4_addMan 60 = .ok (.ireturn, 1) := by decide +kernel
theorem dX4_bitsAt_0 : decode cX4_bitsAt 0 = .ok (.iconst 0, 1) := by decide +kernel
theorem dX4_bitsAt_1 : decode cX4_bitsAt 1 = .ok (.istore_n 2, 1) := by decide +kernel
theorem dX4_bitsAt_2 : decode cX4_bitsAt 2 = .ok (.iconst 0, 1) := by decide +kernel
theorem dX4_bitsAt_3 : decode cX4_bitsAt 3 = .ok (.istore_n 3, 1) := by decide +kernel
theorem dX4_bitsAt_4 : decode cX4_bitsAt 4 = .ok (.iload_n 3, 1) := by decide +kernel
theorem dX4_bitsAt_5 : decode cX4_bitsAt 5 = .ok (.aload_n 0, 1) := by decide +kernel
theorem dX4_bitsAt_6 : decode cX4_bitsAt 6 = .ok (.getfield 15, 3) := by decide +kernel
theorem dX4_bitsAt_9 : decode cX4_bitsAt 9 = .ok (.if_icmp .ge 25, 3) := by decide +kernel
theorem dX4_bitsAt_12 : decode cX4_bitsAt 12 = .ok (.aload_n 0, 1) := by decide +kernel
theorem dX4_bitsAt_13 : decode cX4_bitsAt 13 = .ok (.getfield 31, 3) := by decide +kernel
theorem dX4_bitsAt_16 : decode cX4_bitsAt 16 = .ok (.iload_n 3, 1) := by decide +kernel
theorem dX4_bitsAt_17 : decode cX4_bitsAt 17 = .ok (.iaload, 1) := by decide +kernel
theorem dX4_bitsAt_18 : decode cX4_bitsAt 18 = .ok (.iload_n 1, 1) := by decide +kernel
theorem dX4_bitsAt_19 : decode cX4_bitsAt 19 = .ok (.if_icmp .ne 9, 3) := by decide +kernel
theorem dX4_bitsAt_22 : decode cX4_bitsAt 22 = .ok (.iload_n 2, 1) := by decide +kernel
theorem dX4_bitsAt_23 : decode cX4_bitsAt 23 = .ok (.iconst 1, 1) := by decide +kernel
theorem dX4_bitsAt_24 : decode cX4_bitsAt 24 = .ok (.iload_n 3, 1) := by decide +kernel
theorem dX4_bitsAt_25 : decode cX4_bitsAt 25 = .ok (.ishl, 1) := by decide +kernel
theorem dX4_bitsAt_26 : decode cX4_bitsAt 26 = .ok (.ior, 1) := by decide +kernel
theorem dX4_bitsAt_27 : decode cX4_bitsAt 27 = .ok (.istore_n 2, 1) := by decide +kernel
theorem dX4_bitsAt_28 : decode cX4_bitsAt 28 = .ok (.iinc 3 1, 3) := by decide +kernel
theorem dX4_bitsAt_31 : decode cX4_bitsAt 31 = .ok (.goto (-27), 3) := by decide +kernel
theorem dX4_bitsAt_34 : decode cX4_bitsAt 34 = .ok (.iload_n 2, 1) := by decide +kernel
theorem dX4_bitsAt_35 : decode cX4_bitsAt 35 = .ok (.ireturn, 1) := by decide +kernel
set_option maxRecDepth 20000 in
theorem ggX4_menAt_X4_bitsAt : GoodIn wsX4_menAt wsX4_bitsAt := goodIn_r _ [5, 6, 7, 15, 16, 17, 18, 19, 20, 21, 22, 23, 24, 25] (by decide +kernel) (by decide +kernel)
set_option maxRecDepth 20000 in
theorem gX4_menAt_X4_bitsAt : GoodIn wsX4_menAt (wsV RX4 70 RX4 yX4_bitsAt wsX4_bitsAt) := goodIn_app (goodIn_of _ (by decide +kernel)) ggX4_menAt_X4_bitsAt
set_option maxRecDepth 20000 in
theorem ggX4_menAt_J6_bitCount_0f7a4 : GoodIn wsX4_menAt wsJ6_bitCount_0f7a4 := goodIn_r _ [11, 12, 13, 14] (by decide +kernel) (by decide +kernel)
set_option maxRecDepth 20000 in
theorem gX4_menAt_J6_bitCount_0f7a4 : GoodIn wsX4_menAt (va_wsS RX4 74 yJ6_bitCount_0f7a4 wsJ6_bitCount_0f7a4) := goodIn_app (goodIn_of _ (by decide +kernel)) ggX4_menAt_J6_bitCount_0f7a4
theorem dX4_menAt_0 : decode cX4_menAt 0 = .ok (.aload_n 0, 1) := by decide +kernel
theorem dX4_menAt_1 : decode cX4_menAt 1 = .ok (.iload_n 1, 1) := by decide +kernel
theorem dX4_menAt_2 : decode cX4_menAt 2 = .ok (.invokevirtual 70, 3) := by decide +kernel
theorem dX4_menAt_5 : decode cX4_menAt 5 = .ok (.invokestatic 74, 3) := by decide +kernel
theorem dX4_menAt_8 : decode cX4_menAt 8 = .ok (.ireturn, 1) := by decide +kernel
theorem dX4_skillsAt_0 : decode cX4_skillsAt 0 = .ok (.iconst 0, 1) := by decide +kernel
theorem dX4_skillsAt_1 : decode cX4_skillsAt 1 = .ok (.istore_n 2, 1) := by decide +kernel
theorem dX4_skillsAt_2 : decode cX4_skillsAt 2 = .ok (.iconst 0, 1) := by decide +kernel
theorem dX4_skillsAt_3 : decode cX4_skillsAt 3 = .ok (.istore_n 3, 1) := by decide +kernel
theorem dX4_skillsAt_4 : decode cX4_skillsAt 4 = .ok (.iload_n 3, 1) := by decide +kernel
theorem dX4_skillsAt_5 : decode cX4_skillsAt 5 = .ok (.aload_n 0, 1) := by decide +kernel
theorem dX4_skillsAt_6 : decode cX4_skillsAt 6 = .ok (.getfield 15, 3) := by decide +kernel
theorem dX4_skillsAt_9 : decode cX4_skillsAt 9 = .ok (.if_icmp .ge 28, 3) := by decide +kernel
theorem dX4_skillsAt_12 : decode cX4_skillsAt 12 = .ok (.aload_n 0, 1) := by decide +kernel
theorem dX4_skillsAt_13 : decode cX4_skillsAt 13 = .ok (.getfield 31, 3) := by decide +kernel
theorem dX4_skillsAt_16 : decode cX4_skillsAt 16 = .ok (.iload_n 3, 1) := by decide +kernel
theorem dX4_skillsAt_17 : decode cX4_skillsAt 17 = .ok (.iaload, 1) := by decide +kernel
theorem dX4_skillsAt_18 : decode cX4_skillsAt 18 = .ok (.iload_n 1, 1) := by decide +kernel
theorem dX4_skillsAt_19 : decode cX4_skillsAt 19 = .ok (.if_icmp .ne 12, 3) := by decide +kernel
theorem dX4_skillsAt_22 : decode cX4_skillsAt 22 = .ok (.iload_n 2, 1) := by decide +kernel
theorem dX4_skillsAt_23 : decode cX4_skillsAt 23 = .ok (.aload_n 0, 1) := by decide +kernel
theorem dX4_skillsAt_24 : decode cX4_skillsAt 24 = .ok (.getfield 28, 3) := by decide +kernel
theorem dX4_skillsAt_27 : decode cX4_skillsAt 27 = .ok (.iload_n 3, 1) := by decide +kernel
theorem dX4_skillsAt_28 : decode cX4_skillsAt 28 = .ok (.iaload, 1) := by decide +kernel
theorem dX4_skillsAt_29 : decode cX4_skillsAt 29 = .ok (.iadd, 1) := by decide +kernel
theorem dX4_skillsAt_30 : decode cX4_skillsAt 30 = .ok (.istore_n 2, 1) := by decide +kernel
theorem dX4_skillsAt_31 : decode cX4_skillsAt 31 = .ok (.iinc 3 1, 3) := by decide +kernel
theorem dX4_skillsAt_34 : decode cX4_skillsAt 34 = .ok (.goto (-30), 3) := by decide +kernel
theorem dX4_skillsAt_37 : decode cX4_skillsAt 37 = .ok (.iload_n 2, 1) := by decide +kernel
theorem dX4_skillsAt_38 : decode cX4_skillsAt 38 = .ok (.ireturn, 1) := by decide +kernel
theorem dX4_allCalls_0 : decode cX4_allCalls 0 = .ok (.iconst 0, 1) := by decide +kernel
theorem dX4_allCalls_1 : decode cX4_allCalls 1 = .ok (.istore_n 1, 1) := by decide +kernel
theorem dX4_allCalls_2 : decode cX4_allCalls 2 = .ok (.iconst 0, 1) := by decide +kernel
theorem dX4_allCalls_3 : decode cX4_allCalls 3 = .ok (.istore_n 2, 1) := by decide +kernel
theorem dX4_allCalls_4 : decode cX4_allCalls 4 = .ok (.iload_n 2, 1) := by decide +kernel
theorem dX4_allCalls_5 : decode cX4_allCalls 5 = .ok (.aload_n 0, 1) := by decide +kernel
theorem dX4_allCalls_6 : decode cX4_allCalls 6 = .ok (.getfield 9, 3) := by decide +kernel
theorem dX4_allCalls_9 : decode cX4_allCalls 9 = .ok (.if_icmp .ge 18, 3) := by decide +kernel
theorem dX4_allCalls_12 : decode cX4_allCalls 12 = .ok (.iload_n 1, 1) := by decide +kernel
theorem dX4_allCalls_13 : decode cX4_allCalls 13 = .ok (.aload_n 0, 1) := by decide +kernel
theorem dX4_allCalls_14 : decode cX4_allCalls 14 = .ok (.getfield 22, 3) := by decide +kernel
theorem dX4_allCalls_17 : decode cX4_allCalls 17 = .ok (.iload_n 2, 1) := by decide +kernel
theorem dX4_allCalls_18 : decode cX4_allCalls 18 = .ok (.iaload, 1) := by decide +kernel
theorem dX4_allCalls_19 : decode cX4_allCalls 19 = .ok (.iadd, 1) := by decide +kernel
theorem dX4_allCalls_20 : decode cX4_allCalls 20 = .ok (.istore_n 1, 1) := by decide +kernel
theorem dX4_allCalls_21 : decode cX4_allCalls 21 = .ok (.iinc 2 1, 3) := by decide +kernel
theorem dX4_allCalls_24 : decode cX4_allCalls 24 = .ok (.goto (-20), 3) := by decide +kernel
theorem dX4_allCalls_27 : decode cX4_allCalls 27 = .ok (.iload_n 1, 1) := by decide +kernel
theorem dX4_allCalls_28 : decode cX4_allCalls 28 = .ok (.ireturn, 1) := by decide +kernel
set_option maxRecDepth 20000 in
theorem ggX4_liking_X4_hasShip : GoodIn wsX4_liking wsX4_hasShip := goodIn_r _ [9, 10, 15, 16, 17, 18, 19, 20, 21, 22, 23, 24, 25] (by decide +kernel) (by decide +kernel)
set_option maxRecDepth 20000 in
theorem gX4_liking_X4_hasShip : GoodIn wsX4_liking (wsV RX4 79 RX4 yX4_hasShip wsX4_hasShip) := goodIn_app (goodIn_of _ (by decide +kernel)) ggX4_liking_X4_hasShip
set_option maxRecDepth 20000 in
theorem ggX4_liking_X5_liked : GoodIn wsX4_liking wsX5_liked := goodIn_r _ [14] (by decide +kernel) (by decide +kernel)
set_option maxRecDepth 20000 in
theorem gX4_liking_X5_liked : GoodIn wsX4_liking (va_wsS RX4 83 yX5_liked wsX5_liked) := goodIn_app (goodIn_of _ (by decide +kernel)) ggX4_liking_X5_liked
theorem dX4_liking_0 : decode cX4_liking 0 = .ok (.aload_n 0, 1) := by decide +kernel
theorem dX4_liking_1 : decode cX4_liking 1 = .ok (.getfield 31, 3) := by decide +kernel
theorem dX4_liking_4 : decode cX4_liking 4 = .ok (.iload_n 1, 1) := by decide +kernel
theorem dX4_liking_5 : decode cX4_liking 5 = .ok (.iaload, 1) := by decide +kernel
theorem dX4_liking_6 : decode cX4_liking 6 = .ok (.istore_n 2, 1) := by decide +kernel
theorem dX4_liking_7 : decode cX4_liking 7 = .ok (.aload_n 0, 1) := by decide +kernel
theorem dX4_liking_8 : decode cX4_liking 8 = .ok (.iload_n 2, 1) := by decide +kernel
theorem dX4_liking_9 : decode cX4_liking 9 = .ok (.invokevirtual 79, 3) := by decide +kernel
theorem dX4_liking_12 : decode cX4_liking 12 = .ok (.ifCond .eq 27, 3) := by decide +kernel
theorem dX4_liking_15 : decode cX4_liking 15 = .ok (.aload_n 0, 1) := by decide +kernel
theorem dX4_liking_16 : decode cX4_liking 16 = .ok (.getfield 25, 3) := by decide +kernel
theorem dX4_liking_19 : decode cX4_liking 19 = .ok (.iload_n 1, 1) := by decide +kernel
theorem dX4_liking_20 : decode cX4_liking 20 = .ok (.iaload, 1) := by decide +kernel
theorem dX4_liking_21 : decode cX4_liking 21 = .ok (.aload_n 0, 1) := by decide +kernel
theorem dX4_liking_22 : decode cX4_liking 22 = .ok (.getfield 28, 3) := by decide +kernel
theorem dX4_liking_25 : decode cX4_liking 25 = .ok (.iload_n 1, 1) := by decide +kernel
theorem dX4_liking_26 : decode cX4_liking 26 = .ok (.iaload, 1) := by decide +kernel
theorem dX4_liking_27 : decode cX4_liking 27 = .ok (.aload_n 0, 1) := by decide +kernel
theorem dX4_liking_28 : decode cX4_liking 28 = .ok (.getfield 22, 3) := by decide +kernel
theorem dX4_liking_31 : decode cX4_liking 31 = .ok (.iload_n 2, 1) := by decide +kernel
theorem dX4_liking_32 : decode cX4_liking 32 = .ok (.iaload, 1) := by decide +kernel
theorem dX4_liking_33 : decode cX4_liking 33 = .ok (.invokestatic 83, 3) := by decide +kernel
theorem dX4_liking_36 : decode cX4_liking 36 = .ok (.goto 4, 3) := by decide +kernel
theorem dX4_liking_39 : decode cX4_liking 39 = .ok (.iconst (-1), 1) := by decide +kernel
theorem dX4_liking_40 : decode cX4_liking 40 = .ok (.ireturn, 1) := by decide +kernel
set_option maxRecDepth 20000 in
theorem ggX4_leastLiked_X4_hasShip : GoodIn wsX4_leastLiked wsX4_hasShip := goodIn_r _ [10, 11, 16, 17, 18, 19, 20, 21, 22, 23, 24, 25, 26] (by decide +kernel) (by decide +kernel)
set_option maxRecDepth 20000 in
theorem gX4_leastLiked_X4_hasShip : GoodIn wsX4_leastLiked (wsV RX4 79 RX4 yX4_hasShip wsX4_hasShip) := goodIn_app (goodIn_of _ (by decide +kernel)) ggX4_leastLiked_X4_hasShip
set_option maxRecDepth 20000 in
theorem ggX4_leastLiked_X5_liked : GoodIn wsX4_leastLiked wsX5_liked := goodIn_r _ [15] (by decide +kernel) (by decide +kernel)
set_option maxRecDepth 20000 in
theorem gX4_leastLiked_X5_liked : GoodIn wsX4_leastLiked (va_wsS RX4 83 yX5_liked wsX5_liked) := goodIn_app (goodIn_of _ (by decide +kernel)) ggX4_leastLiked_X5_liked
theorem dX4_leastLiked_0 : decode cX4_leastLiked 0 = .ok (.aload_n 0, 1) := by decide +kernel
theorem dX4_leastLiked_1 : decode cX4_leastLiked 1 = .ok (.iload_n 1, 1) := by decide +kernel
theorem dX4_leastLiked_2 : decode cX4_leastLiked 2 = .ok (.invokevirtual 79, 3) := by decide +kernel
theorem dX4_leastLiked_5 : decode cX4_leastLiked 5 = .ok (.ifCond .ne 5, 3) := by decide +kernel
theorem dX4_leastLiked_8 : decode cX4_leastLiked 8 = .ok (.iconst (-1), 1) := by decide +kernel
theorem dX4_leastLiked_9 : decode cX4_leastLiked 9 = .ok (.ireturn, 1) := by decide +kernel
theorem dX4_leastLiked_10 : decode cX4_leastLiked 10 = .ok (.iconst (-1), 1) := by decide +kernel
theorem dX4_leastLiked_11 : decode cX4_leastLiked 11 = .ok (.istore_n 2, 1) := by decide +kernel
theorem dX4_leastLiked_12 : decode cX4_leastLiked 12 = .ok (.iconst 0, 1) := by decide +kernel
theorem dX4_leastLiked_13 : decode cX4_leastLiked 13 = .ok (.istore_n 3, 1) := by decide +kernel
theorem dX4_leastLiked_14 : decode cX4_leastLiked 14 = .ok (.iconst 0, 1) := by decide +kernel
theorem dX4_leastLiked_15 : decode cX4_leastLiked 15 = .ok (.istore 4, 2) := by decide +kernel
theorem dX4_leastLiked_17 : decode cX4_leastLiked 17 = .ok (.iload 4, 2) := by decide +kernel
theorem dX4_leastLiked_19 : decode cX4_leastLiked 19 = .ok (.aload_n 0, 1) := by decide +kernel
theorem dX4_leastLiked_20 : decode cX4_leastLiked 20 = .ok (.getfield 15, 3) := by decide +kernel
theorem dX4_leastLiked_23 : decode cX4_leastLiked 23 = .ok (.if_icmp .ge 62, 3) := by decide +kernel
theorem dX4_leastLiked_26 : decode cX4_leastLiked 26 = .ok (.aload_n 0, 1) := by decide +kernel
theorem dX4_leastLiked_27 : decode cX4_leastLiked 27 = .ok (.getfield 31, 3) := by decide +kernel
theorem dX4_leastLiked_30 : decode cX4_leastLiked 30 = .ok (.iload 4, 2) := by decide +kernel
theorem dX4_leastLiked_32 : decode cX4_leastLiked 32 = .ok (.iaload, 1) := by decide +kernel
theorem dX4_leastLiked_33 : decode cX4_leastLiked 33 = .ok (.iload_n 1, 1) := by decide +kernel
theorem dX4_leastLiked_34 : decode cX4_leastLiked 34 = .ok (.if_icmp .ne 45, 3) := by decide +kernel
theorem dX4_leastLiked_37 : decode cX4_leastLiked 37 = .ok (.aload_n 0, 1) := by decide +kernel
theorem dX4_leastLiked_38 : decode cX4_leastLiked 38 = .ok (.getfield 25, 3) := by decide +kernel
theorem dX4_leastLiked_41 : decode cX4_leastLiked 41 = .ok (.iload 4, 2) := by decide +kernel
theorem dX4_leastLiked_43 : decode cX4_leastLiked 43 = .ok (.iaload, 1) := by decide +kernel
theorem dX4_leastLiked_44 : decode cX4_leastLiked 44 = .ok (.aload_n 0, 1) := by decide +kernel
theorem dX4_leastLiked_45 : decode cX4_leastLiked 45 = .ok (.getfield 28, 3) := by decide +kernel
theorem dX4_leastLiked_48 : decode cX4_leastLiked 48 = .ok (.iload 4, 2) := by decide +kernel
theorem dX4_leastLiked_50 : decode cX4_leastLiked 50 = .ok (.iaload, 1) := by decide +kernel
theorem dX4_leastLiked_51 : decode cX4_leastLiked 51 = .ok (.aload_n 0, 1) := by decide +kernel
theorem dX4_leastLiked_52 : decode cX4_leastLiked 52 = .ok (.getfield 22, 3) := by decide +kernel
theorem dX4_leastLiked_55 : decode cX4_leastLiked 55 = .ok (.iload_n 1, 1) := by decide +kernel
theorem dX4_leastLiked_56 : decode cX4_leastLiked 56 = .ok (.iaload, 1) := by decide +kernel
theorem dX4_leastLiked_57 : decode cX4_leastLiked 57 = .ok (.invokestatic 83, 3) := by decide +kernel
theorem dX4_leastLiked_60 : decode cX4_leastLiked 60 = .ok (.istore 5, 2) := by decide +kernel
theorem dX4_leastLiked_62 : decode cX4_leastLiked 62 = .ok (.iload_n 2, 1) := by decide +kernel
theorem dX4_leastLiked_63 : decode cX4_leastLiked 63 = .ok (.iconst (-1), 1) := by decide +kernel
theorem dX4_leastLiked_64 : decode cX4_leastLiked 64 = .ok (.if_icmp .eq 9, 3) := by decide +kernel
theorem dX4_leastLiked_67 : decode cX4_leastLiked 67 = .ok (.iload 5, 2) := by decide +kernel
theorem dX4_leastLiked_69 : decode cX4_leastLiked 69 = .ok (.iload_n 3, 1) := by decide +kernel
theorem dX4_leastLiked_70 : decode cX4_leastLiked 70 = .ok (.if_icmp .ge 9, 3) := by decide +kernel
theorem dX4_leastLiked_73 : decode cX4_leastLiked 73 = .ok (.iload 4, 2) := by decide +kernel
theorem dX4_leastLiked_75 : decode cX4_leastLiked 75 = .ok (.istore_n 2, 1) := by decide +kernel
theorem dX4_leastLiked_76 : decode cX4_leastLiked 76 = .ok (.iload 5, 2) := by decide +kernel
theorem dX4_leastLiked_78 : decode cX4_leastLiked 78 = .ok (.istore_n 3, 1) := by decide +kernel
theorem dX4_leastLiked_79 : decode cX4_leastLiked 79 = .ok (.iinc 4 1, 3) := by decide +kernel
theorem dX4_leastLiked_82 : decode cX4_leastLiked 82 = .ok (.goto (-65), 3) := by decide +kernel
theorem dX4_leastLiked_85 : decode cX4_leastLiked 85 = .ok (.iload_n 2, 1) := by decide +kernel
theorem dX4_leastLiked_86 : decode cX4_leastLiked 86 = .ok (.ireturn, 1) := by decide +kernel
set_option maxRecDepth 20000 in
theorem ggX4_canSail_X4_menAt : GoodIn wsX4_canSail wsX4_menAt := goodIn_r _ [6, 7, 8, 9, 5, 10, 11, 12, 13, 14, 15, 16, 17, 18, 19, 34, 35, 36, 37, 38, 39, 40, 41, 42, 43, 44] (by decide +kernel) (by decide +kernel)
set_option maxRecDepth 20000 in
theorem gX4_canSail_X4_menAt : GoodIn wsX4_canSail (wsV RX4 89 RX4 yX4_menAt wsX4_menAt) := goodIn_app (goodIn_of _ (by decide +kernel)) ggX4_canSail_X4_menAt
set_option maxRecDepth 20000 in
theorem ggX4_canSail_X4_hasShip : GoodIn wsX4_canSail wsX4_hasShip := goodIn_r _ [23, 24, 34, 35, 36, 37, 38, 39, 40, 41, 42, 43, 44] (by decide +kernel) (by decide +kernel)
set_option maxRecDepth 20000 in
theorem gX4_canSail_X4_hasShip : GoodIn wsX4_canSail (wsV RX4 79 RX4 yX4_hasShip wsX4_hasShip) := goodIn_app (goodIn_of _ (by decide +kernel)) ggX4_canSail_X4_hasShip
set_option maxRecDepth 20000 in
theorem ggX4_canSail_X4_skillsAt : GoodIn wsX4_canSail wsX4_skillsAt := goodIn_r _ [28, 11, 12, 29, 34, 35, 36, 37, 38, 39, 40, 41, 42, 43, 44] (by decide +kernel) (by decide +kernel)
set_option maxRecDepth 20000 in
theorem gX4_canSail_X4_skillsAt : GoodIn wsX4_canSail (wsV RX4 92 RX4 yX4_skillsAt wsX4_skillsAt) := goodIn_app (goodIn_of _ (by decide +kernel)) ggX4_canSail_X4_skillsAt
set_option maxRecDepth 20000 in
theorem ggX4_canSail_X5_need : GoodIn wsX4_canSail wsX5_need := goodIn_r _ [33] (by decide +kernel) (by decide +kernel)
set_option maxRecDepth 20000 in
theorem gX4_canSail_X5_need : GoodIn wsX4_canSail (va_wsS RX4 95 yX5_need wsX5_need) := goodIn_app (goodIn_of _ (by decide +kernel)) ggX4_canSail_X5_need
theorem dX4_canSail_0 : decode cX4_canSail 0 = .ok (.aload_n 0, 1) := by decide +kernel
theorem dX4_canSail_1 : decode cX4_canSail 1 = .ok (.iload_n 1, 1) := by decide +kernel
theorem dX4_canSail_2 : decode cX4_canSail 2 = .ok (.invokevirtual 89, 3) := by decide +kernel
theorem dX4_canSail_5 : decode cX4_canSail 5 = .ok (.istore_n 3, 1) := by decide +kernel
theorem dX4_canSail_6 : decode cX4_canSail 6 = .ok (.aload_n 0, 1) := by decide +kernel
theorem dX4_canSail_7 : decode cX4_canSail 7 = .ok (.iload_n 1, 1) := by decide +kernel
theorem dX4_canSail_8 : decode cX4_canSail 8 = .ok (.invokevirtual 79, 3) := by decide +kernel
theorem dX4_canSail_11 : decode cX4_canSail 11 = .ok (.ifCond .eq 30, 3) := by decide +kernel
theorem dX4_canSail_14 : decode cX4_canSail 14 = .ok (.iload_n 3, 1) := by decide +kernel
theorem dX4_canSail_15 : decode cX4_canSail 15 = .ok (.ifCond .le 26, 3) := by decide +kernel
theorem dX4_canSail_18 : decode cX4_canSail 18 = .ok (.aload_n 0, 1) := by decide +kernel
theorem dX4_canSail_19 : decode cX4_canSail 19 = .ok (.iload_n 1, 1) := by decide +kernel
theorem dX4_canSail_20 : decode cX4_canSail 20 = .ok (.invokevirtual 92, 3) := by decide +kernel
theorem dX4_canSail_23 : decode cX4_canSail 23 = .ok (.aload_n 0, 1) := by decide +kernel
theorem dX4_canSail_24 : decode cX4_canSail 24 = .ok (.getfield 18, 3) := by decide +kernel
theorem dX4_canSail_27 : decode cX4_canSail 27 = .ok (.iload_n 1, 1) := by decide +kernel
theorem dX4_canSail_28 : decode cX4_canSail 28 = .ok (.iaload, 1) := by decide +kernel
theorem dX4_canSail_29 : decode cX4_canSail 29 = .ok (.iload_n 2, 1) := by decide +kernel
theorem dX4_canSail_30 : decode cX4_canSail 30 = .ok (.iload_n 3, 1) := by decide +kernel
theorem dX4_canSail_31 : decode cX4_canSail 31 = .ok (.invokestatic 95, 3) := by decide +kernel
theorem dX4_canSail_34 : decode cX4_canSail 34 = .ok (.if_icmp .lt 7, 3) := by decide +kernel
theorem dX4_canSail_37 : decode cX4_canSail 37 = .ok (.iconst 1, 1) := by decide +kernel
theorem dX4_canSail_38 : decode cX4_canSail 38 = .ok (.goto 4, 3) := by decide +kernel
theorem dX4_canSail_41 : decode cX4_canSail 41 = .ok (.iconst 0, 1) := by decide +kernel
theorem dX4_canSail_42 : decode cX4_canSail 42 = .ok (.ireturn, 1) := by decide +kernel
set_option maxRecDepth 20000 in
theorem ggX4_leaveOne_X4_leastLiked : GoodIn wsX4_leaveOne wsX4_leastLiked := goodIn_r _ [11, 12, 1, 13, 14, 2, 15, 16, 17, 10, 18, 19, 20, 21, 22, 23, 24, 25, 26, 27, 28, 29, 30, 31, 32, 33, 34] (by decide +kernel) (by decide +kernel)
set_option maxRecDepth 20000 in
theorem gX4_leaveOne_X4_leastLiked : GoodIn wsX4_leaveOne (wsV RX4 98 RX4 yX4_leastLiked wsX4_leastLiked) := goodIn_app (goodIn_of _ (by decide +kernel)) ggX4_leaveOne_X4_leastLiked
theorem dX4_leaveOne_0 : decode cX4_leaveOne 0 = .ok (.aload_n 0, 1) := by decide +kernel
theorem dX4_leaveOne_1 : decode cX4_leaveOne 1 = .ok (.iload_n 1, 1) := by decide +kernel
theorem dX4_leaveOne_2 : decode cX4_leaveOne 2 = .ok (.invokevirtual 98, 3) := by decide +kernel
theorem dX4_leaveOne_5 : decode cX4_leaveOne 5 = .ok (.istore_n 2, 1) := by decide +kernel
theorem dX4_leaveOne_6 : decode cX4_leaveOne 6 = .ok (.iload_n 2, 1) := by decide +kernel
theorem dX4_leaveOne_7 : decode cX4_leaveOne 7 = .ok (.iconst (-1), 1) := by decide +kernel
theorem dX4_leaveOne_8 : decode cX4_leaveOne 8 = .ok (.if_icmp .eq 29, 3) := by decide +kernel
theorem dX4_leaveOne_11 : decode cX4_leaveOne 11 = .ok (.aload_n 0, 1) := by decide +kernel
theorem dX4_leaveOne_12 : decode cX4_leaveOne 12 = .ok (.getfield 31, 3) := by decide +kernel
theorem dX4_leaveOne_15 : decode cX4_leaveOne 15 = .ok (.iload_n 2, 1) := by decide +kernel
theorem dX4_leaveOne_16 : decode cX4_leaveOne 16 = .ok (.iconst (-1), 1) := by decide +kernel
theorem dX4_leaveOne_17 : decode cX4_leaveOne 17 = .ok (.iastore, 1) := by decide +kernel
theorem dX4_leaveOne_18 : decode cX4_leaveOne 18 = .ok (.aload_n 0, 1) := by decide +kernel
theorem dX4_leaveOne_19 : decode cX4_leaveOne 19 = .ok (.getfield 22, 3) := by decide +kernel
theorem dX4_leaveOne_22 : decode cX4_leaveOne 22 = .ok (.iload_n 1, 1) := by decide +kernel
theorem dX4_leaveOne_23 : decode cX4_leaveOne 23 = .ok (.bipush 99, 2) := by decide +kernel
theorem dX4_leaveOne_25 : decode cX4_leaveOne 25 = .ok (.aload_n 0, 1) := by decide +kernel
theorem dX4_leaveOne_26 : decode cX4_leaveOne 26 = .ok (.getfield 22, 3) := by decide +kernel
theorem dX4_leaveOne_29 : decode cX4_leaveOne 29 = .ok (.iload_n 1, 1) := by decide +kernel
theorem dX4_leaveOne_30 : decode cX4_leaveOne 30 = .ok (.iaload, 1) := by decide +kernel
theorem dX4_leaveOne_31 : decode cX4_leaveOne 31 = .ok (.iconst 1, 1) := by decide +kernel
theorem dX4_leaveOne_32 : decode cX4_leaveOne 32 = .ok (.iadd, 1) := by decide +kernel
theorem dX4_leaveOne_33 : decode cX4_leaveOne 33 = .ok (.invokestatic 101, 3) := by decide +kernel
theorem dX4_leaveOne_36 : decode cX4_leaveOne 36 = .ok (.iastore, 1) := by decide +kernel
theorem dX4_leaveOne_37 : decode cX4_leaveOne 37 = .ok (.iload_n 2, 1) := by decide +kernel
theorem dX4_leaveOne_38 : decode cX4_leaveOne 38 = .ok (.ireturn, 1) := by decide +kernel
theorem dX4_takeAboard_0 : decode cX4_takeAboard 0 = .ok (.aload_n 0, 1) := by decide +kernel
theorem dX4_takeAboard_1 : decode cX4_takeAboard 1 = .ok (.getfield 31, 3) := by decide +kernel
theorem dX4_takeAboard_4 : decode cX4_takeAboard 4 = .ok (.iload_n 2, 1) := by decide +kernel
theorem dX4_takeAboard_5 : decode cX4_takeAboard 5 = .ok (.iload_n 1, 1) := by decide +kernel
theorem dX4_takeAboard_6 : decode cX4_takeAboard 6 = .ok (.iastore, 1) := by decide +kernel
theorem dX4_takeAboard_7 : decode cX4_takeAboard 7 = .ok (.return_, 1) := by decide +kernel
set_option maxRecDepth 20000 in
theorem ggX4_remember_X2_isFull : GoodIn wsX4_remember wsX2_isFull := goodIn_r _ [8, 9, 10, 36, 37, 38] (by decide +kernel) (by decide +kernel)
set_option maxRecDepth 20000 in
theorem gX4_remember_X2_isFull : GoodIn wsX4_remember (wsV RX4 107 RX2 yX2_isFull wsX2_isFull) := goodIn_app (goodIn_of _ (by decide +kernel)) ggX4_remember_X2_isFull
set_option maxRecDepth 20000 in
theorem ggX4_remember_X2_dropFirst : GoodIn wsX4_remember wsX2_dropFirst := goodIn_r _ [14, 9, 15, 16, 17, 18, 19, 36, 37, 38] (by decide +kernel) (by decide +kernel)
set_option maxRecDepth 20000 in
theorem gX4_remember_X2_dropFirst : GoodIn wsX4_remember (wsV RX4 111 RX2 yX2_dropFirst wsX2_dropFirst) := goodIn_app (goodIn_of _ (by decide +kernel)) ggX4_remember_X2_dropFirst
set_option maxRecDepth 20000 in
theorem ggX4_remember_X2_append : GoodIn wsX4_remember wsX2_append := goodIn_r _ [23, 9, 15, 24, 5, 6, 7, 8, 10, 36, 37, 38] (by decide +kernel) (by decide +kernel)
set_option maxRecDepth 20000 in
theorem gX4_remember_X2_append : GoodIn wsX4_remember (wsV RX4 114 RX2 yX2_append wsX2_append) := goodIn_app (goodIn_of _ (by decide +kernel)) ggX4_remember_X2_append
theorem dX4_remember_0 : decode cX4_remember 0 = .ok (.aload_n 0, 1) := by decide +kernel
theorem dX4_remember_1 : decode cX4_remember 1 = .ok (.getfield 49, 3) := by decide +kernel
theorem dX4_remember_4 : decode cX4_remember 4 = .ok (.invokevirtual 107, 3) := by decide +kernel
theorem dX4_remember_7 : decode cX4_remember 7 = .ok (.ifCond .eq 10, 3) := by decide +kernel
theorem dX4_remember_10 : decode cX4_remember 10 = .ok (.aload_n 0, 1) := by decide +kernel
theorem dX4_remember_11 : decode cX4_remember 11 = .ok (.getfield 49, 3) := by decide +kernel
theorem dX4_remember_14 : decode cX4_remember 14 = .ok (.invokevirtual 111, 3) := by decide +kernel
theorem dX4_remember_17 : decode cX4_remember 17 = .ok (.aload_n 0, 1) := by decide +kernel
theorem dX4_remember_18 : decode cX4_remember 18 = .ok (.getfield 49, 3) := by decide +kernel
theorem dX4_remember_21 : decode cX4_remember 21 = .ok (.iload_n 1, 1) := by decide +kernel
theorem dX4_remember_22 : decode cX4_remember 22 = .ok (.aload_n 0, 1) := by decide +kernel
theorem dX4_remember_23 : decode cX4_remember 23 = .ok (.getfield 22, 3) := by decide +kernel
theorem dX4_remember_26 : decode cX4_remember 26 = .ok (.iload_n 1, 1) := by decide +kernel
theorem dX4_remember_27 : decode cX4_remember 27 = .ok (.iaload, 1) := by decide +kernel
theorem dX4_remember_28 : decode cX4_remember 28 = .ok (.iload_n 2, 1) := by decide +kernel
theorem dX4_remember_29 : decode cX4_remember 29 = .ok (.aload_n 0, 1) := by decide +kernel
theorem dX4_remember_30 : decode cX4_remember 30 = .ok (.getfield 31, 3) := by decide +kernel
theorem dX4_remember_33 : decode cX4_remember 33 = .ok (.iload_n 2, 1) := by decide +kernel
theorem dX4_remember_34 : decode cX4_remember 34 = .ok (.iaload, 1) := by decide +kernel
theorem dX4_remember_35 : decode cX4_remember 35 = .ok (.invokevirtual 114, 3) := by decide +kernel
theorem dX4_remember_38 : decode cX4_remember 38 = .ok (.return_, 1) := by decide +kernel
set_option maxRecDepth 20000 in
theorem ggX4_takeBack_X2_size : GoodIn wsX4_takeBack wsX2_size := goodIn_r _ [8, 9, 41, 42, 43] (by decide +kernel) (by decide +kernel)
set_option maxRecDepth 20000 in
theorem gX4_takeBack_X2_size : GoodIn wsX4_takeBack (wsV RX4 118 RX2 yX2_size wsX2_size) := goodIn_app (goodIn_of _ (by decide +kernel)) ggX4_takeBack_X2_size
set_option maxRecDepth 20000 in
theorem ggX4_takeBack_X2_cell : GoodIn wsX4_takeBack wsX2_cell := goodIn_r _ [13, 9, 14, 41, 42, 43] (by decide +kernel) (by decide +kernel)
set_option maxRecDepth 20000 in
theorem gX4_takeBack_X2_cell : GoodIn wsX4_takeBack (wsV RX4 121 RX2 yX2_cell wsX2_cell) := goodIn_app (goodIn_of _ (by decide +kernel)) ggX4_takeBack_X2_cell
set_option maxRecDepth 20000 in
theorem ggX4_takeBack_X4_hasShip : GoodIn wsX4_takeBack wsX4_hasShip := goodIn_r _ [19, 20, 30, 31, 32, 33, 34, 35, 36, 37, 38, 39, 40] (by decide +kernel) (by decide +kernel)
set_option maxRecDepth 20000 in
theorem gX4_takeBack_X4_hasShip : GoodIn wsX4_takeBack (wsV RX4 79 RX4 yX4_hasShip wsX4_hasShip) := goodIn_app (goodIn_of _ (by decide +kernel)) ggX4_takeBack_X4_hasShip
set_option maxRecDepth 20000 in
theorem ggX4_takeBack_X4_hasMan : GoodIn wsX4_takeBack wsX4_hasMan := goodIn_r _ [24, 25, 30, 31, 32, 33, 34, 35, 36, 37, 38, 39, 40] (by decide +kernel) (by decide +kernel)
set_option maxRecDepth 20000 in
theorem gX4_takeBack_X4_hasMan : GoodIn wsX4_takeBack (wsV RX4 124 RX4 yX4_hasMan wsX4_hasMan) := goodIn_app (goodIn_of _ (by decide +kernel)) ggX4_takeBack_X4_hasMan
set_option maxRecDepth 20000 in
theorem ggX4_takeBack_X2_dropLast : GoodIn wsX4_takeBack wsX2_dropLast := goodIn_r _ [29, 9, 41, 42, 43] (by decide +kernel) (by decide +kernel)
set_option maxRecDepth 20000 in
theorem gX4_takeBack_X2_dropLast : GoodIn wsX4_takeBack (wsV RX4 127 RX2 yX2_dropLast wsX2_dropLast) := goodIn_app (goodIn_of _ (by decide +kernel)) ggX4_takeBack_X2_dropLast
theorem dX4_takeBack_0 : decode cX4_takeBack 0 = .ok (.aload_n 0, 1) := by decide +kernel
theorem dX4_takeBack_1 : decode cX4_takeBack 1 = .ok (.getfield 49, 3) := by decide +kernel
theorem dX4_takeBack_4 : decode cX4_takeBack 4 = .ok (.invokevirtual 118, 3) := by decide +kernel
theorem dX4_takeBack_7 : decode cX4_takeBack 7 = .ok (.iconst 1, 1) := by decide +kernel
theorem dX4_takeBack_8 : decode cX4_takeBack 8 = .ok (.isub, 1) := by decide +kernel
theorem dX4_takeBack_9 : decode cX4_takeBack 9 = .ok (.istore_n 1, 1) := by decide +kernel
theorem dX4_takeBack_10 : decode cX4_takeBack 10 = .ok (.aload_n 0, 1) := by decide +kernel
theorem dX4_takeBack_11 : decode cX4_takeBack 11 = .ok (.getfield 49, 3) := by decide +kernel
theorem dX4_takeBack_14 : decode cX4_takeBack 14 = .ok (.iload_n 1, 1) := by decide +kernel
theorem dX4_takeBack_15 : decode cX4_takeBack 15 = .ok (.iconst 0, 1) := by decide +kernel
theorem dX4_takeBack_16 : decode cX4_takeBack 16 = .ok (.invokevirtual 121, 3) := by decide +kernel
theorem dX4_takeBack_19 : decode cX4_takeBack 19 = .ok (.istore_n 2, 1) := by decide +kernel
theorem dX4_takeBack_20 : decode cX4_takeBack 20 = .ok (.aload_n 0, 1) := by decide +kernel
theorem dX4_takeBack_21 : decode cX4_takeBack 21 = .ok (.getfield 49, 3) := by decide +kernel
theorem dX4_takeBack_24 : decode cX4_takeBack 24 = .ok (.iload_n 1, 1) := by decide +kernel
theorem dX4_takeBack_25 : decode cX4_takeBack 25 = .ok (.iconst 2, 1) := by decide +kernel
theorem dX4_takeBack_26 : decode cX4_takeBack 26 = .ok (.invokevirtual 121, 3) := by decide +kernel
theorem dX4_takeBack_29 : decode cX4_takeBack 29 = .ok (.istore_n 3, 1) := by decide +kernel
theorem dX4_takeBack_30 : decode cX4_takeBack 30 = .ok (.aload_n 0, 1) := by decide +kernel
theorem dX4_takeBack_31 : decode cX4_takeBack 31 = .ok (.iload_n 2, 1) := by decide +kernel
theorem dX4_takeBack_32 : decode cX4_takeBack 32 = .ok (.invokevirtual 79, 3) := by decide +kernel
theorem dX4_takeBack_35 : decode cX4_takeBack 35 = .ok (.ifCond .eq 41, 3) := by decide +kernel
theorem dX4_takeBack_38 : decode cX4_takeBack 38 = .ok (.aload_n 0, 1) := by decide +kernel
theorem dX4_takeBack_39 : decode cX4_takeBack 39 = .ok (.iload_n 3, 1) := by decide +kernel
theorem dX4_takeBack_40 : decode cX4_takeBack 40 = .ok (.invokevirtual 124, 3) := by decide +kernel
theorem dX4_takeBack_43 : decode cX4_takeBack 43 = .ok (.ifCond .eq 33, 3) := by decide +kernel
theorem dX4_takeBack_46 : decode cX4_takeBack 46 = .ok (.aload_n 0, 1) := by decide +kernel
theorem dX4_takeBack_47 : decode cX4_takeBack 47 = .ok (.getfield 22, 3) := by decide +kernel
theorem dX4_takeBack_50 : decode cX4_takeBack 50 = .ok (.iload_n 2, 1) := by decide +kernel
theorem dX4_takeBack_51 : decode cX4_takeBack 51 = .ok (.aload_n 0, 1) := by decide +kernel
theorem dX4_takeBack_52 : decode cX4_takeBack 52 = .ok (.getfield 49, 3) := by decide +kernel
theorem dX4_takeBack_55 : decode cX4_takeBack 55 = .ok (.iload_n 1, 1) := by decide +kernel
theorem dX4_takeBack_56 : decode cX4_takeBack 56 = .ok (.iconst 1, 1) := by decide +kernel
theorem dX4_takeBack_57 : decode cX4_takeBack 57 = .ok (.invokevirtual 121, 3) := by decide +kernel
theorem dX4_takeBack_60 : decode cX4_takeBack 60 = .ok (.iastore, 1) := by decide +kernel
theorem dX4_takeBack_61 : decode cX4_takeBack 61 = .ok (.aload_n 0, 1) := by decide +kernel
theorem dX4_takeBack_62 : decode cX4_takeBack 62 = .ok (.getfield 31, 3) := by decide +kernel
theorem dX4_takeBack_65 : decode cX4_takeBack 65 = .ok (.iload_n 3, 1) := by decide +kernel
theorem dX4_takeBack_66 : decode cX4_takeBack 66 = .ok (.aload_n 0, 1) := by decide +kernel
theorem dX4_takeBack_67 : decode cX4_takeBack 67 = .ok (.getfield 49, 3) := by decide +kernel
theorem dX4_takeBack_70 : decode cX4_takeBack 70 = .ok (.iload_n 1, 1) := by decide +kernel
theorem dX4_takeBack_71 : decode cX4_takeBack 71 = .ok (.iconst 3, 1) := by decide +kernel
theorem dX4_takeBack_72 : decode cX4_takeBack 72 = .ok (.invokevirtual 121, 3) := by decide +kernel
theorem dX4_takeBack_75 : decode cX4_takeBack 75 = .ok (.iastore, 1) := by decide +kernel
theorem dX4_takeBack_76 : decode cX4_takeBack 76 = .ok (.aload_n 0, 1) := by decide +kernel
theorem dX4_takeBack_77 : decode cX4_takeBack 77 = .ok (.getfield 49, 3) := by decide +kernel
theorem dX4_takeBack_80 : decode cX4_takeBack 80 = .ok (.invokevirtual 127, 3) := by decide +kernel
theorem dX4_takeBack_83 : decode cX4_takeBack 83 = .ok (.return_, 1) := by decide +kernel
set_option maxRecDepth 20000 in
theorem ggX4_passYears_X4_hasShip : GoodIn wsX4_passYears wsX4_hasShip := goodIn_r _ [6, 7, 36, 37, 38, 39, 40, 41, 42, 43, 44, 45, 46] (by decide +kernel) (by decide +kernel)
set_option maxRecDepth 20000 in
theorem gX4_passYears_X4_hasShip : GoodIn wsX4_passYears (wsV RX4 79 RX4 yX4_hasShip wsX4_hasShip) := goodIn_app (goodIn_of _ (by decide +kernel)) ggX4_passYears_X4_hasShip
set_option maxRecDepth 20000 in
theorem ggX4_passYears_X4_leaveOne : GoodIn wsX4_passYears wsX4_leaveOne := goodIn_r _ [11, 1, 12, 13, 14, 15, 16, 17, 18, 19, 5, 20, 21, 22, 23, 2, 3, 4, 6, 7, 24, 25, 26, 27, 36, 37, 38, 39, 40, 41, 42, 43, 44, 45, 46] (by decide +kernel) (by decide +kernel)
set_option maxRecDepth 20000 in
theorem gX4_passYears_X4_leaveOne : GoodIn wsX4_passYears (wsV RX4 130 RX4 yX4_leaveOne wsX4_leaveOne) := goodIn_app (goodIn_of _ (by decide +kernel)) ggX4_passYears_X4_leaveOne
set_option maxRecDepth 20000 in
theorem ggX4_passYears_X4_hasMan : GoodIn wsX4_passYears wsX4_hasMan := goodIn_r _ [31, 21, 36, 37, 38, 39, 40, 41, 42, 43, 44, 45, 46] (by decide +kernel) (by decide +kernel)
set_option maxRecDepth 20000 in
theorem gX4_passYears_X4_hasMan : GoodIn wsX4_passYears (wsV RX4 124 RX4 yX4_hasMan wsX4_hasMan) := goodIn_app (goodIn_of _ (by decide +kernel)) ggX4_passYears_X4_hasMan
set_option maxRecDepth 20000 in
theorem ggX4_passYears_X4_takeAboard : GoodIn wsX4_passYears wsX4_takeAboard := goodIn_r _ [35, 1, 36, 37, 38, 39, 40, 41, 42, 43, 44, 45, 46] (by decide +kernel) (by decide +kernel)
set_option maxRecDepth 20000 in
theorem gX4_passYears_X4_takeAboard : GoodIn wsX4_passYears (wsV RX4 133 RX4 yX4_takeAboard wsX4_takeAboard) := goodIn_app (goodIn_of _ (by decide +kernel)) ggX4_passYears_X4_takeAboard
theorem dX4_passYears_0 : decode cX4_passYears 0 = .ok (.aload_n 0, 1) := by decide +kernel
theorem dX4_passYears_1 : decode cX4_passYears 1 = .ok (.iload_n 1, 1) := by decide +kernel
theorem dX4_passYears_2 : decode cX4_passYears 2 = .ok (.invokevirtual 79, 3) := by decide +kernel
theorem dX4_passYears_5 : decode cX4_passYears 5 = .ok (.ifCond .ne 4, 3) := by decide +kernel
theorem dX4_passYears_8 : decode cX4_passYears 8 = .ok (.return_, 1) := by decide +kernel
theorem dX4_passYears_9 : decode cX4_passYears 9 = .ok (.iload_n 2, 1) := by decide +kernel
theorem dX4_passYears_10 : decode cX4_passYears 10 = .ok (.bipush 8, 2) := by decide +kernel
theorem dX4_passYears_12 : decode cX4_passYears 12 = .ok (.if_icmp .lt 12, 3) := by decide +kernel
theorem dX4_passYears_15 : decode cX4_passYears 15 = .ok (.aload_n 0, 1) := by decide +kernel
theorem dX4_passYears_16 : decode cX4_passYears 16 = .ok (.iload_n 1, 1) := by decide +kernel
theorem dX4_passYears_17 : decode cX4_passYears 17 = .ok (.invokevirtual 130, 3) := by decide +kernel
theorem dX4_passYears_20 : decode cX4_passYears 20 = .ok (.pop, 1) := by decide +kernel
theorem dX4_passYears_21 : decode cX4_passYears 21 = .ok (.goto 27, 3) := by decide +kernel
theorem dX4_passYears_24 : decode cX4_passYears 24 = .ok (.aload_n 0, 1) := by decide +kernel
theorem dX4_passYears_25 : decode cX4_passYears 25 = .ok (.iload_n 2, 1) := by decide +kernel
theorem dX4_passYears_26 : decode cX4_passYears 26 = .ok (.invokevirtual 124, 3) := by decide +kernel
theorem dX4_passYears_29 : decode cX4_passYears 29 = .ok (.ifCond .eq 19, 3) := by decide +kernel
theorem dX4_passYears_32 : decode cX4_passYears 32 = .ok (.aload_n 0, 1) := by decide +kernel
theorem dX4_passYears_33 : decode cX4_passYears 33 = .ok (.getfield 31, 3) := by decide +kernel
theorem dX4_passYears_36 : decode cX4_passYears 36 = .ok (.iload_n 2, 1) := by decide +kernel
theorem dX4_passYears_37 : decode cX4_passYears 37 = .ok (.iaload, 1) := by decide +kernel
theorem dX4_passYears_38 : decode cX4_passYears 38 = .ok (.iconst (-1), 1) := by decide +kernel
theorem dX4_passYears_39 : decode cX4_passYears 39 = .ok (.if_icmp .ne 9, 3) := by decide +kernel
theorem dX4_passYears_42 : decode cX4_passYears 42 = .ok (.aload_n 0, 1) := by decide +kernel
theorem dX4_passYears_43 : decode cX4_passYears 43 = .ok (.iload_n 1, 1) := by decide +kernel
theorem dX4_passYears_44 : decode cX4_passYears 44 = .ok (.iload_n 2, 1) := by decide +kernel
theorem dX4_passYears_45 : decode cX4_passYears 45 = .ok (.invokevirtual 133, 3) := by decide +kernel
theorem dX4_passYears_48 : decode cX4_passYears 48 = .ok (.return_, 1) := by decide +kernel
set_option maxRecDepth 20000 in
theorem ggX4_foldInto_X2_foldInto : GoodIn wsX4_foldInto wsX2_foldInto := goodIn_r _ [16, 17, 18, 19, 31, 32, 33] (by decide +kernel) (by decide +kernel)
set_option maxRecDepth 20000 in
theorem gX4_foldInto_X2_foldInto : GoodIn wsX4_foldInto (wsV RX4 139 RX2 yX2_foldInto wsX2_foldInto) := goodIn_app (goodIn_of _ (by decide +kernel)) ggX4_foldInto_X2_foldInto
theorem dX4_foldInto_0 : decode cX4_foldInto 0 = .ok (.lload_n 1, 1) := by decide +kernel
theorem dX4_foldInto_1 : decode cX4_foldInto 1 = .ok (.lstore_n 3, 1) := by decide +kernel
theorem dX4_foldInto_2 : decode cX4_foldInto 2 = .ok (.iconst 0, 1) := by decide +kernel
theorem dX4_foldInto_3 : decode cX4_foldInto 3 = .ok (.istore 5, 2) := by decide +kernel
theorem dX4_foldInto_5 : decode cX4_foldInto 5 = .ok (.iload 5, 2) := by decide +kernel
theorem dX4_foldInto_7 : decode cX4_foldInto 7 = .ok (.aload_n 0, 1) := by decide +kernel
theorem dX4_foldInto_8 : decode cX4_foldInto 8 = .ok (.getfield 9, 3) := by decide +kernel
theorem dX4_foldInto_11 : decode cX4_foldInto 11 = .ok (.if_icmp .ge 39, 3) := by decide +kernel
theorem dX4_foldInto_14 : decode cX4_foldInto 14 = .ok (.ldc2_w 137, 3) := by decide +kernel
theorem dX4_foldInto_17 : decode cX4_foldInto 17 = .ok (.lload_n 3, 1) := by decide +kernel
theorem dX4_foldInto_18 : decode cX4_foldInto 18 = .ok (.lmul, 1) := by decide +kernel
theorem dX4_foldInto_19 : decode cX4_foldInto 19 = .ok (.aload_n 0, 1) := by decide +kernel
theorem dX4_foldInto_20 : decode cX4_foldInto 20 = .ok (.getfield 18, 3) := by decide +kernel
theorem dX4_foldInto_23 : decode cX4_foldInto 23 = .ok (.iload 5, 2) := by decide +kernel
theorem dX4_foldInto_25 : decode cX4_foldInto 25 = .ok (.iaload, 1) := by decide +kernel
theorem dX4_foldInto_26 : decode cX4_foldInto 26 = .ok (.i2l, 1) := by decide +kernel
theorem dX4_foldInto_27 : decode cX4_foldInto 27 = .ok (.ladd, 1) := by decide +kernel
theorem dX4_foldInto_28 : decode cX4_foldInto 28 = .ok (.lstore_n 3, 1) := by decide +kernel
theorem dX4_foldInto_29 : decode cX4_foldInto 29 = .ok (.ldc2_w 137, 3) := by decide +kernel
theorem dX4_foldInto_32 : decode cX4_foldInto 32 = .ok (.lload_n 3, 1) := by decide +kernel
theorem dX4_foldInto_33 : decode cX4_foldInto 33 = .ok (.lmul, 1) := by decide +kernel
theorem dX4_foldInto_34 : decode cX4_foldInto 34 = .ok (.aload_n 0, 1) := by decide +kernel
theorem dX4_foldInto_35 : decode cX4_foldInto 35 = .ok (.getfield 22, 3) := by decide +kernel
theorem dX4_foldInto_38 : decode cX4_foldInto 38 = .ok (.iload 5, 2) := by decide +kernel
theorem dX4_foldInto_40 : decode cX4_foldInto 40 = .ok (.iaload, 1) := by decide +kernel
theorem dX4_foldInto_41 : decode cX4_foldInto 41 = .ok (.i2l, 1) := by decide +kernel
theorem dX4_foldInto_42 : decode cX4_foldInto 42 = .ok (.ladd, 1) := by decide +kernel
theorem dX4_foldInto_43 : decode cX4_foldInto 43 = .ok (.lstore_n 3, 1) := by decide +kernel
theorem dX4_foldInto_44 : decode cX4_foldInto 44 = .ok (.iinc 5 1, 3) := by decide +kernel
theorem dX4_foldInto_47 : decode cX4_foldInto 47 = .ok (.goto (-42), 3) := by decide +kernel
theorem dX4_foldInto_50 : decode cX4_foldInto 50 = .ok (.iconst 0, 1) := by decide +kernel
theorem dX4_foldInto_51 : decode cX4_foldInto 51 = .ok (.istore 5, 2) := by decide +kernel
theorem dX4_foldInto_53 : decode cX4_foldInto 53 = .ok (.iload 5, 2) := by decide +kernel
theorem dX4_foldInto_55 : decode cX4_foldInto 55 = .ok (.aload_n 0, 1) := by decide +kernel
theorem dX4_foldInto_56 : decode cX4_foldInto 56 = .ok (.getfield 15, 3) := by decide +kernel
theorem dX4_foldInto_59 : decode cX4_foldInto 59 = .ok (.if_icmp .ge 54, 3) := by decide +kernel
theorem dX4_foldInto_62 : decode cX4_foldInto 62 = .ok (.ldc2_w 137, 3) := by decide +kernel
theorem dX4_foldInto_65 : decode cX4_foldInto 65 = .ok (.lload_n 3, 1) := by decide +kernel
theorem dX4_foldInto_66 : decode cX4_foldInto 66 = .ok (.lmul, 1) := by decide +kernel
theorem dX4_foldInto_67 : decode cX4_foldInto 67 = .ok (.aload_n 0, 1) := by decide +kernel
theorem dX4_foldInto_68 : decode cX4_foldInto 68 = .ok (.getfield 25, 3) := by decide +kernel
theorem dX4_foldInto_71 : decode cX4_foldInto 71 = .ok (.iload 5, 2) := by decide +kernel
theorem dX4_foldInto_73 : decode cX4_foldInto 73 = .ok (.iaload, 1) := by decide +kernel
theorem dX4_foldInto_74 : decode cX4_foldInto 74 = .ok (.i2l, 1) := by decide +kernel
theorem dX4_foldInto_75 : decode cX4_foldInto 75 = .ok (.ladd, 1) := by decide +kernel
theorem dX4_foldInto_76 : decode cX4_foldInto 76 = .ok (.lstore_n 3, 1) := by decide +kernel
theorem dX4_foldInto_77 : decode cX4_foldInto 77 = .ok (.ldc2_w 137, 3) := by decide +kernel
theorem dX4_foldInto_80 : decode cX4_foldInto 80 = .ok (.lload_n 3, 1) := by decide +kernel
theorem dX4_foldInto_81 : decode cX4_foldInto 81 = .ok (.lmul, 1) := by decide +kernel
theorem dX4_foldInto_82 : decode cX4_foldInto 82 = .ok (.aload_n 0, 1) := by decide +kernel
theorem dX4_foldInto_83 : decode cX4_foldInto 83 = .ok (.getfield 28, 3) := by decide +kernel
theorem dX4_foldInto_86 : decode cX4_foldInto 86 = .ok (.iload 5, 2) := by decide +kernel
theorem dX4_foldInto_88 : decode cX4_foldInto 88 = .ok (.iaload, 1) := by decide +kernel
theorem dX4_foldInto_89 : decode cX4_foldInto 89 = .ok (.i2l, 1) := by decide +kernel
theorem dX4_foldInto_90 : decode cX4_foldInto 90 = .ok (.ladd, 1) := by decide +kernel
theorem dX4_foldInto_91 : decode cX4_foldInto 91 = .ok (.lstore_n 3, 1) := by decide +kernel
theorem dX4_foldInto_92 : decode cX4_foldInto 92 = .ok (.ldc2_w 137, 3) := by decide +kernel
theorem dX4_foldInto_95 : decode cX4_foldInto 95 = .ok (.lload_n 3, 1) := by decide +kernel
theorem dX4_foldInto_96 : decode cX4_foldInto 96 = .ok (.lmul, 1) := by decide +kernel
theorem dX4_foldInto_97 : decode cX4_foldInto 97 = .ok (.aload_n 0, 1) := by decide +kernel
theorem dX4_foldInto_98 : decode cX4_foldInto 98 = .ok (.getfield 31, 3) := by decide +kernel
theorem dX4_foldInto_101 : decode cX4_foldInto 101 = .ok (.iload 5, 2) := by decide +kernel
theorem dX4_foldInto_103 : decode cX4_foldInto 103 = .ok (.iaload, 1) := by decide +kernel
theorem dX4_foldInto_104 : decode cX4_foldInto 104 = .ok (.i2l, 1) := by decide +kernel
theorem dX4_foldInto_105 : decode cX4_foldInto 105 = .ok (.ladd, 1) := by decide +kernel
theorem dX4_foldInto_106 : decode cX4_foldInto 106 = .ok (.lstore_n 3, 1) := by decide +kernel
theorem dX4_foldInto_107 : decode cX4_foldInto 107 = .ok (.iinc 5 1, 3) := by decide +kernel
theorem dX4_foldInto_110 : decode cX4_foldInto 110 = .ok (.goto (-57), 3) := by decide +kernel
theorem dX4_foldInto_113 : decode cX4_foldInto 113 = .ok (.aload_n 0, 1) := by decide +kernel
theorem dX4_foldInto_114 : decode cX4_foldInto 114 = .ok (.getfield 46, 3) := by decide +kernel
theorem dX4_foldInto_117 : decode cX4_foldInto 117 = .ok (.aload_n 0, 1) := by decide +kernel
theorem dX4_foldInto_118 : decode cX4_foldInto 118 = .ok (.getfield 43, 3) := by decide +kernel
theorem dX4_foldInto_121 : decode cX4_foldInto 121 = .ok (.aload_n 0, 1) := by decide +kernel
theorem dX4_foldInto_122 : decode cX4_foldInto 122 = .ok (.getfield 39, 3) := by decide +kernel
theorem dX4_foldInto_125 : decode cX4_foldInto 125 = .ok (.lload_n 3, 1) := by decide +kernel
theorem dX4_foldInto_126 : decode cX4_foldInto 126 = .ok (.invokevirtual 139, 3) := by decide +kernel
theorem dX4_foldInto_129 : decode cX4_foldInto 129 = .ok (.invokevirtual 139, 3) := by decide +kernel
theorem dX4_foldInto_132 : decode cX4_foldInto 132 = .ok (.invokevirtual 139, 3) := by decide +kernel
theorem dX4_foldInto_135 : decode cX4_foldInto 135 = .ok (.lreturn, 1) := by decide +kernel
