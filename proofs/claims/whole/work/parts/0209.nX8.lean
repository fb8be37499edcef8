set_option maxRecDepth 20000 in
theorem ggX8_init_X8_begin : GoodIn wsX8_init wsX8_begin := goodIn_r _ [22] (by decide +kernel) (by decide +kernel)
set_option maxRecDepth 20000 in
theorem gX8_init_X8_begin : GoodIn wsX8_init (va_wsS RX8 51 yX8_begin wsX8_begin) := goodIn_app (goodIn_of _ (by decide +kernel)) ggX8_init_X8_begin
theorem dX8_init_0 : decode cX8_init 0 = .ok (.aload_n 0, 1) := by decide +kernel
theorem dX8_init_1 : decode cX8_init 1 = .ok (.invokespecial 1, 3) := by decide +kernel
theorem dX8_init_4 : decode cX8_init 4 = .ok (.aload_n 0, 1) := by decide +kernel
theorem dX8_init_5 : decode cX8_init 5 = .ok (.sipush 192, 3) := by decide +kernel
theorem dX8_init_8 : decode cX8_init 8 = .ok (.newarray .int, 2) := by decide +kernel
theorem dX8_init_10 : decode cX8_init 10 = .ok (.putfield 7, 3) := by decide +kernel
theorem dX8_init_13 : decode cX8_init 13 = .ok (.aload_n 0, 1) := by decide +kernel
theorem dX8_init_14 : decode cX8_init 14 = .ok (.sipush 384, 3) := by decide +kernel
theorem dX8_init_17 : decode cX8_init 17 = .ok (.newarray .int, 2) := by decide +kernel
theorem dX8_init_19 : decode cX8_init 19 = .ok (.putfield 13, 3) := by decide +kernel
theorem dX8_init_22 : decode cX8_init 22 = .ok (.aload_n 0, 1) := by decide +kernel
theorem dX8_init_23 : decode cX8_init 23 = .ok (.iconst 2, 1) := by decide +kernel
theorem dX8_init_24 : decode cX8_init 24 = .ok (.newarray .boolean, 2) := by decide +kernel
theorem dX8_init_26 : decode cX8_init 26 = .ok (.putfield 16, 3) := by decide +kernel
theorem dX8_init_29 : decode cX8_init 29 = .ok (.aload_n 0, 1) := by decide +kernel
theorem dX8_init_30 : decode cX8_init 30 = .ok (.iconst 3, 1) := by decide +kernel
theorem dX8_init_31 : decode cX8_init 31 = .ok (.newarray .int, 2) := by decide +kernel
theorem dX8_init_33 : decode cX8_init 33 = .ok (.putfield 20, 3) := by decide +kernel
theorem dX8_init_36 : decode cX8_init 36 = .ok (.aload_n 0, 1) := by decide +kernel
theorem dX8_init_37 : decode cX8_init 37 = .ok (.lconst 1, 1) := by decide +kernel
theorem dX8_init_38 : decode cX8_init 38 = .ok (.putfield 23, 3) := by decide +kernel
theorem dX8_init_41 : decode cX8_init 41 = .ok (.aload_n 0, 1) := by decide +kernel
theorem dX8_init_42 : decode cX8_init 42 = .ok (.bipush 36, 2) := by decide +kernel
theorem dX8_init_44 : decode cX8_init 44 = .ok (.newarray .int, 2) := by decide +kernel
theorem dX8_init_46 : decode cX8_init 46 = .ok (.putfield 27, 3) := by decide +kernel
theorem dX8_init_49 : decode cX8_init 49 = .ok (.aload_n 0, 1) := by decide +kernel
theorem dX8_init_50 : decode cX8_init 50 = .ok (.iconst 3, 1) := by decide +kernel
theorem dX8_init_51 : decode cX8_init 51 = .ok (.newarray .int, 2) := by decide +kernel
theorem dX8_init_53 : decode cX8_init 53 = .ok (.putfield 30, 3) := by decide +kernel
theorem dX8_init_56 : decode cX8_init 56 = .ok (.aload_n 0, 1) := by decide +kernel
theorem dX8_init_57 : decode cX8_init 57 = .ok (.iconst 3, 1) := by decide +kernel
theorem dX8_init_58 : decode cX8_init 58 = .ok (.newarray .int, 2) := by decide +kernel
theorem dX8_init_60 : decode cX8_init 60 = .ok (.putfield 33, 3) := by decide +kernel
theorem dX8_init_63 : decode cX8_init 63 = .ok (.aload_n 0, 1) := by decide +kernel
theorem dX8_init_64 : decode cX8_init 64 = .ok (.bipush 8, 2) := by decide +kernel
theorem dX8_init_66 : decode cX8_init 66 = .ok (.newarray .int, 2) := by decide +kernel
theorem dX8_init_68 : decode cX8_init 68 = .ok (.putfield 36, 3) := by decide +kernel
theorem dX8_init_71 : decode cX8_init 71 = .ok (.aload_n 0, 1) := by decide +kernel
theorem dX8_init_72 : decode cX8_init 72 = .ok (.bipush 6, 2) := by decide +kernel
theorem dX8_init_74 : decode cX8_init 74 = .ok (.newarray .int, 2) := by decide +kernel
theorem dX8_init_76 : decode cX8_init 76 = .ok (.putfield 39, 3) := by decide +kernel
theorem dX8_init_79 : decode cX8_init 79 = .ok (.aload_n 0, 1) := by decide +kernel
theorem dX8_init_80 : decode cX8_init 80 = .ok (.sipush 150, 3) := by decide +kernel
theorem dX8_init_83 : decode cX8_init 83 = .ok (.newarray .int, 2) := by decide +kernel
theorem dX8_init_85 : decode cX8_init 85 = .ok (.putfield 42, 3) := by decide +kernel
theorem dX8_init_88 : decode cX8_init 88 = .ok (.aload_n 0, 1) := by decide +kernel
theorem dX8_init_89 : decode cX8_init 89 = .ok (.bipush 104, 2) := by decide +kernel
theorem dX8_init_91 : decode cX8_init 91 = .ok (.newarray .int, 2) := by decide +kernel
theorem dX8_init_93 : decode cX8_init 93 = .ok (.putfield 45, 3) := by decide +kernel
theorem dX8_init_96 : decode cX8_init 96 = .ok (.aload_n 0, 1) := by decide +kernel
theorem dX8_init_97 : decode cX8_init 97 = .ok (.iconst 3, 1) := by decide +kernel
theorem dX8_init_98 : decode cX8_init 98 = .ok (.newarray .int, 2) := by decide +kernel
theorem dX8_init_100 : decode cX8_init 100 = .ok (.putfield 48, 3) := by decide +kernel
theorem dX8_init_103 : decode cX8_init 103 = .ok (.aload_n 0, 1) := by decide +kernel
theorem dX8_init_104 : decode cX8_init 104 = .ok (.getfield 7, 3) := by decide +kernel
theorem dX8_init_107 : decode cX8_init 107 = .ok (.invokestatic 51, 3) := by decide +kernel
theorem dX8_init_110 : decode cX8_init 110 = .ok (.return_, 1) := by decide +kernel
theorem dX8_in_0 : decode cX8_in 0 = .ok (.lload_n 0, 1) := by decide +kernel
theorem dX8_in_1 : decode cX8_in 1 = .ok (.lload_n 2, 1) := by decide +kernel
theorem dX8_in_2 : decode cX8_in 2 = .ok (.lcmp, 1) := by decide +kernel
theorem dX8_in_3 : decode cX8_in 3 = .ok (.ifCond .lt 14, 3) := by decide +kernel
theorem dX8_in_6 : decode cX8_in 6 = .ok (.lload_n 0, 1) := by decide +kernel
theorem dX8_in_7 : decode cX8_in 7 = .ok (.lload 4, 2) := by decide +kernel
theorem dX8_in_9 : decode cX8_in 9 = .ok (.lcmp, 1) := by decide +kernel
theorem dX8_in_10 : decode cX8_in 10 = .ok (.ifCond .gt 7, 3) := by decide +kernel
theorem dX8_in_13 : decode cX8_in 13 = .ok (.iconst 1, 1) := by decide +kernel
theorem dX8_in_14 : decode cX8_in 14 = .ok (.goto 4, 3) := by decide +kernel
theorem dX8_in_17 : decode cX8_in 17 = .ok (.iconst 0, 1) := by decide +kernel
theorem dX8_in_18 : decode cX8_in 18 = .ok (.ireturn, 1) := by decide +kernel
theorem dX8_bad_0 : decode cX8_bad 0 = .ok (.aload_n 0, 1) := by decide +kernel
theorem dX8_bad_1 : decode cX8_bad 1 = .ok (.getfield 20, 3) := by decide +kernel
theorem dX8_bad_4 : decode cX8_bad 4 = .ok (.iconst 0, 1) := by decide +kernel
theorem dX8_bad_5 : decode cX8_bad 5 = .ok (.dup2, 1) := by decide +kernel
theorem dX8_bad_6 : decode cX8_bad 6 = .ok (.iaload, 1) := by decide +kernel
theorem dX8_bad_7 : decode cX8_bad 7 = .ok (.iconst 1, 1) := by decide +kernel
theorem dX8_bad_8 : decode cX8_bad 8 = .ok (.iadd, 1) := by decide +kernel
theorem dX8_bad_9 : decode cX8_bad 9 = .ok (.iastore, 1) := by decide +kernel
theorem dX8_bad_10 : decode cX8_bad 10 = .ok (.iload_n 1, 1) := by decide +kernel
theorem dX8_bad_11 : decode cX8_bad 11 = .ok (.ireturn, 1) := by decide +kernel
theorem dX8_no_0 : decode cX8_no 0 = .ok (.aload_n 0, 1) := by decide +kernel
theorem dX8_no_1 : decode cX8_no 1 = .ok (.getfield 20, 3) := by decide +kernel
theorem dX8_no_4 : decode cX8_no 4 = .ok (.iconst 1, 1) := by decide +kernel
theorem dX8_no_5 : decode cX8_no 5 = .ok (.dup2, 1) := by decide +kernel
theorem dX8_no_6 : decode cX8_no 6 = .ok (.iaload, 1) := by decide +kernel
theorem dX8_no_7 : decode cX8_no 7 = .ok (.iconst 1, 1) := by decide +kernel
theorem dX8_no_8 : decode cX8_no 8 = .ok (.iadd, 1) := by decide +kernel
theorem dX8_no_9 : decode cX8_no 9 = .ok (.iastore, 1) := by decide +kernel
theorem dX8_no_10 : decode cX8_no 10 = .ok (.bipush (-3), 2) := by decide +kernel
theorem dX8_no_12 : decode cX8_no 12 = .ok (.ireturn, 1) := by decide +kernel
theorem dX8_full_0 : decode cX8_full 0 = .ok (.aload_n 0, 1) := by decide +kernel
theorem dX8_full_1 : decode cX8_full 1 = .ok (.getfield 20, 3) := by decide +kernel
theorem dX8_full_4 : decode cX8_full 4 = .ok (.iconst 2, 1) := by decide +kernel
theorem dX8_full_5 : decode cX8_full 5 = .ok (.dup2, 1) := by decide +kernel
theorem dX8_full_6 : decode cX8_full 6 = .ok (.iaload, 1) := by decide +kernel
theorem dX8_full_7 : decode cX8_full 7 = .ok (.iconst 1, 1) := by decide +kernel
theorem dX8_full_8 : decode cX8_full 8 = .ok (.iadd, 1) := by decide +kernel
theorem dX8_full_9 : decode cX8_full 9 = .ok (.iastore, 1) := by decide +kernel
theorem dX8_full_10 : decode cX8_full 10 = .ok (.bipush (-4), 2) := by decide +kernel
theorem dX8_full_12 : decode cX8_full 12 = .ok (.ireturn, 1) := by decide +kernel
theorem dX8_has_0 : decode cX8_has 0 = .ok (.iload_n 0, 1) := by decide +kernel
theorem dX8_has_1 : decode cX8_has 1 = .ok (.iload_n 1, 1) := by decide +kernel
theorem dX8_has_2 : decode cX8_has 2 = .ok (.ishr, 1) := by decide +kernel
theorem dX8_has_3 : decode cX8_has 3 = .ok (.iconst 1, 1) := by decide +kernel
theorem dX8_has_4 : decode cX8_has 4 = .ok (.iand, 1) := by decide +kernel
theorem dX8_has_5 : decode cX8_has 5 = .ok (.iconst 1, 1) := by decide +kernel
theorem dX8_has_6 : decode cX8_has 6 = .ok (.if_icmp .ne 7, 3) := by decide +kernel
theorem dX8_has_9 : decode cX8_has 9 = .ok (.iconst 1, 1) := by decide +kernel
theorem dX8_has_10 : decode cX8_has 10 = .ok (.goto 4, 3) := by decide +kernel
theorem dX8_has_13 : decode cX8_has 13 = .ok (.iconst 0, 1) := by decide +kernel
theorem dX8_has_14 : decode cX8_has 14 = .ok (.ireturn, 1) := by decide +kernel
theorem dX8_begin_0 : decode cX8_begin 0 = .ok (.iconst 0, 1) := by decide +kernel
theorem dX8_begin_1 : decode cX8_begin 1 = .ok (.istore_n 1, 1) := by decide +kernel
theorem dX8_begin_2 : decode cX8_begin 2 = .ok (.iload_n 1, 1) := by decide +kernel
theorem dX8_begin_3 : decode cX8_begin 3 = .ok (.bipush 104, 2) := by decide +kernel
theorem dX8_begin_5 : decode cX8_begin 5 = .ok (.if_icmp .ge 13, 3) := by decide +kernel
theorem dX8_begin_8 : decode cX8_begin 8 = .ok (.aload_n 0, 1) := by decide +kernel
theorem dX8_begin_9 : decode cX8_begin 9 = .ok (.iload_n 1, 1) := by decide +kernel
theorem dX8_begin_10 : decode cX8_begin 10 = .ok (.iconst 0, 1) := by decide +kernel
theorem dX8_begin_11 : decode cX8_begin 11 = .ok (.iastore, 1) := by decide +kernel
theorem dX8_begin_12 : decode cX8_begin 12 = .ok (.iinc 1 1, 3) := by decide +kernel
theorem dX8_begin_15 : decode cX8_begin 15 = .ok (.goto (-13), 3) := by decide +kernel
theorem dX8_begin_18 : decode cX8_begin 18 = .ok (.return_, 1) := by decide +kernel
theorem dX8_many_0 : decode cX8_many 0 = .ok (.aload_n 0, 1) := by decide +kernel
theorem dX8_many_1 : decode cX8_many 1 = .ok (.getfield 7, 3) := by decide +kernel
theorem dX8_many_4 : decode cX8_many 4 = .ok (.iconst 0, 1) := by decide +kernel
theorem dX8_many_5 : decode cX8_many 5 = .ok (.iaload, 1) := by decide +kernel
theorem dX8_many_6 : decode cX8_many 6 = .ok (.ireturn, 1) := by decide +kernel
set_option maxRecDepth 20000 in
theorem ggX8_isMan_X8_many : GoodIn wsX8_isMan wsX8_many := goodIn_r _ [5, 6, 10, 11, 12, 13, 14, 15, 16, 17, 18, 19, 20, 21, 22, 23, 24, 25, 26, 27, 28] (by decide +kernel) (by decide +kernel)
set_option maxRecDepth 20000 in
theorem gX8_isMan_X8_many : GoodIn wsX8_isMan (wsV RX8 55 RX8 yX8_many wsX8_many) := goodIn_app (goodIn_of _ (by decide +kernel)) ggX8_isMan_X8_many
set_option maxRecDepth 20000 in
theorem ggX8_isMan_X8_in : GoodIn wsX8_isMan wsX8_in := goodIn_r _ [9] (by decide +kernel) (by decide +kernel)
set_option maxRecDepth 20000 in
theorem gX8_isMan_X8_in : GoodIn wsX8_isMan (va_wsS RX8 59 yX8_in wsX8_in) := goodIn_app (goodIn_of _ (by decide +kernel)) ggX8_isMan_X8_in
theorem dX8_isMan_0 : decode cX8_isMan 0 = .ok (.iload_n 1, 1) := by decide +kernel
theorem dX8_isMan_1 : decode cX8_isMan 1 = .ok (.i2l, 1) := by decide +kernel
theorem dX8_isMan_2 : decode cX8_isMan 2 = .ok (.lconst 0, 1) := by decide +kernel
theorem dX8_isMan_3 : decode cX8_isMan 3 = .ok (.aload_n 0, 1) := by decide +kernel
theorem dX8_isMan_4 : decode cX8_isMan 4 = .ok (.invokevirtual 55, 3) := by decide +kernel
theorem dX8_isMan_7 : decode cX8_isMan 7 = .ok (.iconst 1, 1) := by decide +kernel
theorem dX8_isMan_8 : decode cX8_isMan 8 = .ok (.isub, 1) := by decide +kernel
theorem dX8_isMan_9 : decode cX8_isMan 9 = .ok (.i2l, 1) := by decide +kernel
theorem dX8_isMan_10 : decode cX8_isMan 10 = .ok (.invokestatic 59, 3) := by decide +kernel
theorem dX8_isMan_13 : decode cX8_isMan 13 = .ok (.ireturn, 1) := by decide +kernel
set_option maxRecDepth 20000 in
theorem ggX8_isShip_X8_in : GoodIn wsX8_isShip wsX8_in := goodIn_r _ [5] (by decide +kernel) (by decide +kernel)
set_option maxRecDepth 20000 in
theorem gX8_isShip_X8_in : GoodIn wsX8_isShip (va_wsS RX8 59 yX8_in wsX8_in) := goodIn_app (goodIn_of _ (by decide +kernel)) ggX8_isShip_X8_in
theorem dX8_isShip_0 : decode cX8_isShip 0 = .ok (.iload_n 1, 1) := by decide +kernel
theorem dX8_isShip_1 : decode cX8_isShip 1 = .ok (.i2l, 1) := by decide +kernel
theorem dX8_isShip_2 : decode cX8_isShip 2 = .ok (.lconst 0, 1) := by decide +kernel
theorem dX8_isShip_3 : decode cX8_isShip 3 = .ok (.aload_n 0, 1) := by decide +kernel
theorem dX8_isShip_4 : decode cX8_isShip 4 = .ok (.getfield 7, 3) := by decide +kernel
theorem dX8_isShip_7 : decode cX8_isShip 7 = .ok (.iconst 1, 1) := by decide +kernel
theorem dX8_isShip_8 : decode cX8_isShip 8 = .ok (.iaload, 1) := by decide +kernel
theorem dX8_isShip_9 : decode cX8_isShip 9 = .ok (.iconst 1, 1) := by decide +kernel
theorem dX8_isShip_10 : decode cX8_isShip 10 = .ok (.isub, 1) := by decide +kernel
theorem dX8_isShip_11 : decode cX8_isShip 11 = .ok (.i2l, 1) := by decide +kernel
theorem dX8_isShip_12 : decode cX8_isShip 12 = .ok (.invokestatic 59, 3) := by decide +kernel
theorem dX8_isShip_15 : decode cX8_isShip 15 = .ok (.ireturn, 1) := by decide +kernel
set_option maxRecDepth 20000 in
theorem ggX8_isKind_X8_in : GoodIn wsX8_isKind wsX8_in := goodIn_r _ [5] (by decide +kernel) (by decide +kernel)
set_option maxRecDepth 20000 in
theorem gX8_isKind_X8_in : GoodIn wsX8_isKind (va_wsS RX8 59 yX8_in wsX8_in) := goodIn_app (goodIn_of _ (by decide +kernel)) ggX8_isKind_X8_in
theorem dX8_isKind_0 : decode cX8_isKind 0 = .ok (.iload_n 0, 1) := by decide +kernel
theorem dX8_isKind_1 : decode cX8_isKind 1 = .ok (.i2l, 1) := by decide +kernel
theorem dX8_isKind_2 : decode cX8_isKind 2 = .ok (.lconst 0, 1) := by decide +kernel
theorem dX8_isKind_3 : decode cX8_isKind 3 = .ok (.ldc2_w 63, 3) := by decide +kernel
theorem dX8_isKind_6 : decode cX8_isKind 6 = .ok (.invokestatic 59, 3) := by decide +kernel
theorem dX8_isKind_9 : decode cX8_isKind 9 = .ok (.ireturn, 1) := by decide +kernel
set_option maxRecDepth 20000 in
theorem ggX8_isSkill_X8_in : GoodIn wsX8_isSkill wsX8_in := goodIn_r _ [5] (by decide +kernel) (by decide +kernel)
set_option maxRecDepth 20000 in
theorem gX8_isSkill_X8_in : GoodIn wsX8_isSkill (va_wsS RX8 59 yX8_in wsX8_in) := goodIn_app (goodIn_of _ (by decide +kernel)) ggX8_isSkill_X8_in
theorem dX8_isSkill_0 : decode cX8_isSkill 0 = .ok (.iload_n 0, 1) := by decide +kernel
theorem dX8_isSkill_1 : decode cX8_isSkill 1 = .ok (.i2l, 1) := by decide +kernel
theorem dX8_isSkill_2 : decode cX8_isSkill 2 = .ok (.lconst 1, 1) := by decide +kernel
theorem dX8_isSkill_3 : decode cX8_isSkill 3 = .ok (.ldc2_w 65, 3) := by decide +kernel
theorem dX8_isSkill_6 : decode cX8_isSkill 6 = .ok (.invokestatic 59, 3) := by decide +kernel
theorem dX8_isSkill_9 : decode cX8_isSkill 9 = .ok (.ireturn, 1) := by decide +kernel
set_option maxRecDepth 20000 in
theorem ggX8_isFar_X8_in : GoodIn wsX8_isFar wsX8_in := goodIn_r _ [5] (by decide +kernel) (by decide +kernel)
set_option maxRecDepth 20000 in
theorem gX8_isFar_X8_in : GoodIn wsX8_isFar (va_wsS RX8 59 yX8_in wsX8_in) := goodIn_app (goodIn_of _ (by decide +kernel)) ggX8_isFar_X8_in
theorem dX8_isFar_0 : decode cX8_isFar 0 = .ok (.iload_n 0, 1) := by decide +kernel
theorem dX8_isFar_1 : decode cX8_isFar 1 = .ok (.i2l, 1) := by decide +kernel
theorem dX8_isFar_2 : decode cX8_isFar 2 = .ok (.lconst 1, 1) := by decide +kernel
theorem dX8_isFar_3 : decode cX8_isFar 3 = .ok (.ldc2_w 67, 3) := by decide +kernel
theorem dX8_isFar_6 : decode cX8_isFar 6 = .ok (.invokestatic 59, 3) := by decide +kernel
theorem dX8_isFar_9 : decode cX8_isFar 9 = .ok (.ireturn, 1) := by decide +kernel
set_option maxRecDepth 20000 in
theorem ggX8_island_X8_many : GoodIn wsX8_island wsX8_many := goodIn_r _ [6, 1, 10, 11, 12, 13, 14, 15, 16, 17, 18, 19, 20, 21, 22, 23, 24, 25, 26, 27, 28] (by decide +kernel) (by decide +kernel)
set_option maxRecDepth 20000 in
theorem gX8_island_X8_many : GoodIn wsX8_island (wsV RX8 55 RX8 yX8_many wsX8_many) := goodIn_app (goodIn_of _ (by decide +kernel)) ggX8_island_X8_many
set_option maxRecDepth 20000 in
theorem ggX8_island_X8_begin : GoodIn wsX8_island wsX8_begin := goodIn_r _ [9] (by decide +kernel) (by decide +kernel)
set_option maxRecDepth 20000 in
theorem gX8_island_X8_begin : GoodIn wsX8_island (va_wsS RX8 51 yX8_begin wsX8_begin) := goodIn_app (goodIn_of _ (by decide +kernel)) ggX8_island_X8_begin
theorem dX8_island_0 : decode cX8_island 0 = .ok (.aload_n 0, 1) := by decide +kernel
theorem dX8_island_1 : decode cX8_island 1 = .ok (.invokevirtual 55, 3) := by decide +kernel
theorem dX8_island_4 : decode cX8_island 4 = .ok (.istore_n 1, 1) := by decide +kernel
theorem dX8_island_5 : decode cX8_island 5 = .ok (.aload_n 0, 1) := by decide +kernel
theorem dX8_island_6 : decode cX8_island 6 = .ok (.getfield 7, 3) := by decide +kernel
theorem dX8_island_9 : decode cX8_island 9 = .ok (.invokestatic 51, 3) := by decide +kernel
theorem dX8_island_12 : decode cX8_island 12 = .ok (.iload_n 1, 1) := by decide +kernel
theorem dX8_island_13 : decode cX8_island 13 = .ok (.ireturn, 1) := by decide +kernel
set_option maxRecDepth 20000 in
theorem ggX8_ship_X8_isKind : GoodIn wsX8_ship wsX8_isKind := goodIn_r _ [5, 6, 7, 8, 4, 9] (by decide +kernel) (by decide +kernel)
set_option maxRecDepth 20000 in
theorem gX8_ship_X8_isKind : GoodIn wsX8_ship (va_wsS RX8 69 yX8_isKind wsX8_isKind) := goodIn_app (goodIn_of _ (by decide +kernel)) ggX8_ship_X8_isKind
set_option maxRecDepth 20000 in
theorem ggX8_ship_X8_bad : GoodIn wsX8_ship wsX8_bad := goodIn_r _ [13, 14, 19, 20, 21, 22, 23, 24, 25, 26, 27, 28, 29, 30, 31, 32, 33, 34, 35, 36, 37] (by decide +kernel) (by decide +kernel)
set_option maxRecDepth 20000 in
theorem gX8_ship_X8_bad : GoodIn wsX8_ship (wsV RX8 73 RX8 yX8_bad wsX8_bad) := goodIn_app (goodIn_of _ (by decide +kernel)) ggX8_ship_X8_bad
set_option maxRecDepth 20000 in
theorem ggX8_ship_X8_full : GoodIn wsX8_ship wsX8_full := goodIn_r _ [18, 14, 19, 20, 21, 22, 23, 24, 25, 26, 27, 28, 29, 30, 31, 32, 33, 34, 35, 36, 37] (by decide +kernel) (by decide +kernel)
set_option maxRecDepth 20000 in
theorem gX8_ship_X8_full : GoodIn wsX8_ship (wsV RX8 77 RX8 yX8_full wsX8_full) := goodIn_app (goodIn_of _ (by decide +kernel)) ggX8_ship_X8_full
theorem dX8_ship_0 : decode cX8_ship 0 = .ok (.iload_n 1, 1) := by decide +kernel
theorem dX8_ship_1 : decode cX8_ship 1 = .ok (.invokestatic 69, 3) := by decide +kernel
theorem dX8_ship_4 : decode cX8_ship 4 = .ok (.ifCond .ne 10, 3) := by decide +kernel
theorem dX8_ship_7 : decode cX8_ship 7 = .ok (.aload_n 0, 1) := by decide +kernel
theorem dX8_ship_8 : decode cX8_ship 8 = .ok (.bipush (-2), 2) := by decide +kernel
theorem dX8_ship_10 : decode cX8_ship 10 = .ok (.invokevirtual 73, 3) := by decide +kernel
theorem dX8_ship_13 : decode cX8_ship 13 = .ok (.ireturn, 1) := by decide +kernel
theorem dX8_ship_14 : decode cX8_ship 14 = .ok (.aload_n 0, 1) := by decide +kernel
theorem dX8_ship_15 : decode cX8_ship 15 = .ok (.getfield 7, 3) := by decide +kernel
theorem dX8_ship_18 : decode cX8_ship 18 = .ok (.iconst 1, 1) := by decide +kernel
theorem dX8_ship_19 : decode cX8_ship 19 = .ok (.iaload, 1) := by decide +kernel
theorem dX8_ship_20 : decode cX8_ship 20 = .ok (.iconst 3, 1) := by decide +kernel
theorem dX8_ship_21 : decode cX8_ship 21 = .ok (.if_icmp .ne 8, 3) := by decide +kernel
theorem dX8_ship_24 : decode cX8_ship 24 = .ok (.aload_n 0, 1) := by decide +kernel
theorem dX8_ship_25 : decode cX8_ship 25 = .ok (.invokevirtual 77, 3) := by decide +kernel
theorem dX8_ship_28 : decode cX8_ship 28 = .ok (.ireturn, 1) := by decide +kernel
theorem dX8_ship_29 : decode cX8_ship 29 = .ok (.aload_n 0, 1) := by decide +kernel
theorem dX8_ship_30 : decode cX8_ship 30 = .ok (.getfield 7, 3) := by decide +kernel
theorem dX8_ship_33 : decode cX8_ship 33 = .ok (.bipush 17, 2) := by decide +kernel
theorem dX8_ship_35 : decode cX8_ship 35 = .ok (.aload_n 0, 1) := by decide +kernel
theorem dX8_ship_36 : decode cX8_ship 36 = .ok (.getfield 7, 3) := by decide +kernel
theorem dX8_ship_39 : decode cX8_ship 39 = .ok (.iconst 1, 1) := by decide +kernel
theorem dX8_ship_40 : decode cX8_ship 40 = .ok (.iaload, 1) := by decide +kernel
theorem dX8_ship_41 : decode cX8_ship 41 = .ok (.iadd, 1) := by decide +kernel
theorem dX8_ship_42 : decode cX8_ship 42 = .ok (.iload_n 1, 1) := by decide +kernel
theorem dX8_ship_43 : decode cX8_ship 43 = .ok (.iastore, 1) := by decide +kernel
theorem dX8_ship_44 : decode cX8_ship 44 = .ok (.aload_n 0, 1) := by decide +kernel
theorem dX8_ship_45 : decode cX8_ship 45 = .ok (.getfield 7, 3) := by decide +kernel
theorem dX8_ship_48 : decode cX8_ship 48 = .ok (.iconst 1, 1) := by decide +kernel
theorem dX8_ship_49 : decode cX8_ship 49 = .ok (.dup2, 1) := by decide +kernel
theorem dX8_ship_50 : decode cX8_ship 50 = .ok (.iaload, 1) := by decide +kernel
theorem dX8_ship_51 : decode cX8_ship 51 = .ok (.iconst 1, 1) := by decide +kernel
theorem dX8_ship_52 : decode cX8_ship 52 = .ok (.iadd, 1) := by decide +kernel
theorem dX8_ship_53 : decode cX8_ship 53 = .ok (.iastore, 1) := by decide +kernel
theorem dX8_ship_54 : decode cX8_ship 54 = .ok (.aload_n 0, 1) := by decide +kernel
theorem dX8_ship_55 : decode cX8_ship 55 = .ok (.getfield 7, 3) := by decide +kernel
theorem dX8_ship_58 : decode cX8_ship 58 = .ok (.iconst 5, 1) := by decide +kernel
theorem dX8_ship_59 : decode cX8_ship 59 = .ok (.iconst 0, 1) := by decide +kernel
theorem dX8_ship_60 : decode cX8_ship 60 = .ok (.iastore, 1) := by decide +kernel
theorem dX8_ship_61 : decode cX8_ship 61 = .ok (.aload_n 0, 1) := by decide +kernel
theorem dX8_ship_62 : decode cX8_ship 62 = .ok (.getfield 7, 3) := by decide +kernel
theorem dX8_ship_65 : decode cX8_ship 65 = .ok (.iconst 1, 1) := by decide +kernel
theorem dX8_ship_66 : decode cX8_ship 66 = .ok (.iaload, 1) := by decide +kernel
theorem dX8_ship_67 : decode cX8_ship 67 = .ok (.iconst 1, 1) := by decide +kernel
theorem dX8_ship_68 : decode cX8_ship 68 = .ok (.isub, 1) := by decide +kernel
theorem dX8_ship_69 : decode cX8_ship 69 = .ok (.ireturn, 1) := by decide +kernel
theorem dX8_layMan_0 : decode cX8_layMan 0 = .ok (.aload_n 0, 1) := by decide +kernel
theorem dX8_layMan_1 : decode cX8_layMan 1 = .ok (.iconst 0, 1) := by decide +kernel
theorem dX8_layMan_2 : decode cX8_layMan 2 = .ok (.iaload, 1) := by decide +kernel
theorem dX8_layMan_3 : decode cX8_layMan 3 = .ok (.istore 4, 2) := by decide +kernel
theorem dX8_layMan_5 : decode cX8_layMan 5 = .ok (.aload_n 0, 1) := by decide +kernel
theorem dX8_layMan_6 : decode cX8_layMan 6 = .ok (.bipush 20, 2) := by decide +kernel
theorem dX8_layMan_8 : decode cX8_layMan 8 = .ok (.iload 4, 2) := by decide +kernel
theorem dX8_layMan_10 : decode cX8_layMan 10 = .ok (.iadd, 1) := by decide +kernel
theorem dX8_layMan_11 : decode cX8_layMan 11 = .ok (.iload_n 1, 1) := by decide +kernel
theorem dX8_layMan_12 : decode cX8_layMan 12 = .ok (.iastore, 1) := by decide +kernel
theorem dX8_layMan_13 : decode cX8_layMan 13 = .ok (.aload_n 0, 1) := by decide +kernel
theorem dX8_layMan_14 : decode cX8_layMan 14 = .ok (.bipush 28, 2) := by decide +kernel
theorem dX8_layMan_16 : decode cX8_layMan 16 = .ok (.iload 4, 2) := by decide +kernel
theorem dX8_layMan_18 : decode cX8_layMan 18 = .ok (.iadd, 1) := by decide +kernel
theorem dX8_layMan_19 : decode cX8_layMan 19 = .ok (.iload_n 2, 1) := by decide +kernel
theorem dX8_layMan_20 : decode cX8_layMan 20 = .ok (.iastore, 1) := by decide +kernel
theorem dX8_layMan_21 : decode cX8_layMan 21 = .ok (.aload_n 0, 1) := by decide +kernel
theorem dX8_layMan_22 : decode cX8_layMan 22 = .ok (.bipush 6, 2) := by decide +kernel
theorem dX8_layMan_24 : decode cX8_layMan 24 = .ok (.iload 4, 2) := by decide +kernel
theorem dX8_layMan_26 : decode cX8_layMan 26 = .ok (.iadd, 1) := by decide +kernel
theorem dX8_layMan_27 : decode cX8_layMan 27 = .ok (.iload_n 3, 1) := by decide +kernel
theorem dX8_layMan_28 : decode cX8_layMan 28 = .ok (.iastore, 1) := by decide +kernel
theorem dX8_layMan_29 : decode cX8_layMan 29 = .ok (.aload_n 0, 1) := by decide +kernel
theorem dX8_layMan_30 : decode cX8_layMan 30 = .ok (.iconst 0, 1) := by decide +kernel
theorem dX8_layMan_31 : decode cX8_layMan 31 = .ok (.dup2, 1) := by decide +kernel
theorem dX8_layMan_32 : decode cX8_layMan 32 = .ok (.iaload, 1) := by decide +kernel
theorem dX8_layMan_33 : decode cX8_layMan 33 = .ok (.iconst 1, 1) := by decide +kernel
theorem dX8_layMan_34 : decode cX8_layMan 34 = .ok (.iadd, 1) := by decide +kernel
theorem dX8_layMan_35 : decode cX8_layMan 35 = .ok (.iastore, 1) := by decide +kernel
theorem dX8_layMan_36 : decode cX8_layMan 36 = .ok (.return_, 1) := by decide +kernel
set_option maxRecDepth 20000 in
theorem ggX8_man_X8_isKind : GoodIn wsX8_man wsX8_isKind := goodIn_r _ [5, 6, 7, 8, 4, 9] (by decide +kernel) (by decide +kernel)
set_option maxRecDepth 20000 in
theorem gX8_man_X8_isKind : GoodIn wsX8_man (va_wsS RX8 69 yX8_isKind wsX8_isKind) := goodIn_app (goodIn_of _ (by decide +kernel)) ggX8_man_X8_isKind
set_option maxRecDepth 20000 in
theorem ggX8_man_X8_isSkill : GoodIn wsX8_man wsX8_isSkill := goodIn_r _ [12, 13, 7, 8, 4, 9] (by decide +kernel) (by decide +kernel)
set_option maxRecDepth 20000 in
theorem gX8_man_X8_isSkill : GoodIn wsX8_man (va_wsS RX8 80 yX8_isSkill wsX8_isSkill) := goodIn_app (goodIn_of _ (by decide +kernel)) ggX8_man_X8_isSkill
set_option maxRecDepth 20000 in
theorem ggX8_man_X8_isShip : GoodIn wsX8_man wsX8_isShip := goodIn_r _ [17, 1, 7, 8, 4, 9, 34, 35, 36, 37, 38, 39, 40, 41, 42, 43, 44, 45, 46, 47, 48, 49, 50, 51, 52] (by decide +kernel) (by decide +kernel)
set_option maxRecDepth 20000 in
theorem gX8_man_X8_isShip : GoodIn wsX8_man (wsV RX8 83 RX8 yX8_isShip wsX8_isShip) := goodIn_app (goodIn_of _ (by decide +kernel)) ggX8_man_X8_isShip
set_option maxRecDepth 20000 in
theorem ggX8_man_X8_bad : GoodIn wsX8_man wsX8_bad := goodIn_r _ [21, 22, 34, 35, 36, 37, 38, 39, 40, 41, 42, 43, 44, 45, 46, 47, 48, 49, 50, 51, 52] (by decide +kernel) (by decide +kernel)
set_option maxRecDepth 20000 in
theorem gX8_man_X8_bad : GoodIn wsX8_man (wsV RX8 73 RX8 yX8_bad wsX8_bad) := goodIn_app (goodIn_of _ (by decide +kernel)) ggX8_man_X8_bad
set_option maxRecDepth 20000 in
theorem ggX8_man_X8_many : GoodIn wsX8_man wsX8_many := goodIn_r _ [26, 1, 34, 35, 36, 37, 38, 39, 40, 41, 42, 43, 44, 45, 46, 47, 48, 49, 50, 51, 52] (by decide +kernel) (by decide +kernel)
set_option maxRecDepth 20000 in
theorem gX8_man_X8_many : GoodIn wsX8_man (wsV RX8 55 RX8 yX8_many wsX8_many) := goodIn_app (goodIn_of _ (by decide +kernel)) ggX8_man_X8_many
set_option maxRecDepth 20000 in
theorem ggX8_man_X8_full : GoodIn wsX8_man wsX8_full := goodIn_r _ [30, 22, 34, 35, 36, 37, 38, 39, 40, 41, 42, 43, 44, 45, 46, 47, 48, 49, 50, 51, 52] (by decide +kernel) (by decide +kernel)
set_option maxRecDepth 20000 in
theorem gX8_man_X8_full : GoodIn wsX8_man (wsV RX8 77 RX8 yX8_full wsX8_full) := goodIn_app (goodIn_of _ (by decide +kernel)) ggX8_man_X8_full
set_option maxRecDepth 20000 in
theorem ggX8_man_X8_layMan : GoodIn wsX8_man wsX8_layMan := goodIn_r _ [33] (by decide +kernel) (by decide +kernel)
set_option maxRecDepth 20000 in
theorem gX8_man_X8_layMan : GoodIn wsX8_man (va_wsS RX8 86 yX8_layMan wsX8_layMan) := goodIn_app (goodIn_of _ (by decide +kernel)) ggX8_man_X8_layMan
theorem dX8_man_0 : decode cX8_man 0 = .ok (.iload_n 1, 1) := by decide +kernel
theorem dX8_man_1 : decode cX8_man 1 = .ok (.invokestatic 69, 3) := by decide +kernel
theorem dX8_man_4 : decode cX8_man 4 = .ok (.ifCond .eq 23, 3) := by decide +kernel
theorem dX8_man_7 : decode cX8_man 7 = .ok (.iload_n 2, 1) := by decide +kernel
theorem dX8_man_8 : decode cX8_man 8 = .ok (.invokestatic 80, 3) := by decide +kernel
theorem dX8_man_11 : decode cX8_man 11 = .ok (.ifCond .eq 16, 3) := by decide +kernel
theorem dX8_man_14 : decode cX8_man 14 = .ok (.iload_n 3, 1) := by decide +kernel
theorem dX8_man_15 : decode cX8_man 15 = .ok (.iconst (-1), 1) := by decide +kernel
theorem dX8_man_16 : decode cX8_man 16 = .ok (.if_icmp .eq 18, 3) := by decide +kernel
theorem dX8_man_19 : decode cX8_man 19 = .ok (.aload_n 0, 1) := by decide +kernel
theorem dX8_man_20 : decode cX8_man 20 = .ok (.iload_n 3, 1) := by decide +kernel
theorem dX8_man_21 : decode cX8_man 21 = .ok (.invokevirtual 83, 3) := by decide +kernel
theorem dX8_man_24 : decode cX8_man 24 = .ok (.ifCond .ne 10, 3) := by decide +kernel
theorem dX8_man_27 : decode cX8_man 27 = .ok (.aload_n 0, 1) := by decide +kernel
theorem dX8_man_28 : decode cX8_man 28 = .ok (.bipush (-2), 2) := by decide +kernel
theorem dX8_man_30 : decode cX8_man 30 = .ok (.invokevirtual 73, 3) := by decide +kernel
theorem dX8_man_33 : decode cX8_man 33 = .ok (.ireturn, 1) := by decide +kernel
theorem dX8_man_34 : decode cX8_man 34 = .ok (.aload_n 0, 1) := by decide +kernel
theorem dX8_man_35 : decode cX8_man 35 = .ok (.invokevirtual 55, 3) := by decide +kernel
theorem dX8_man_38 : decode cX8_man 38 = .ok (.bipush 8, 2) := by decide +kernel
theorem dX8_man_40 : decode cX8_man 40 = .ok (.if_icmp .ne 8, 3) := by decide +kernel
theorem dX8_man_43 : decode cX8_man 43 = .ok (.aload_n 0, 1) := by decide +kernel
theorem dX8_man_44 : decode cX8_man 44 = .ok (.invokevirtual 77, 3) := by decide +kernel
theorem dX8_man_47 : decode cX8_man 47 = .ok (.ireturn, 1) := by decide +kernel
theorem dX8_man_48 : decode cX8_man 48 = .ok (.aload_n 0, 1) := by decide +kernel
theorem dX8_man_49 : decode cX8_man 49 = .ok (.getfield 7, 3) := by decide +kernel
theorem dX8_man_52 : decode cX8_man 52 = .ok (.iload_n 1, 1) := by decide +kernel
theorem dX8_man_53 : decode cX8_man 53 = .ok (.iload_n 2, 1) := by decide +kernel
theorem dX8_man_54 : decode cX8_man 54 = .ok (.iload_n 3, 1) := by decide +kernel
theorem dX8_man_55 : decode cX8_man 55 = .ok (.iconst 1, 1) := by decide +kernel
theorem dX8_man_56 : decode cX8_man 56 = .ok (.iadd, 1) := by decide +kernel
theorem dX8_man_57 : decode cX8_man 57 = .ok (.invokestatic 86, 3) := by decide +kernel
theorem dX8_man_60 : decode cX8_man 60 = .ok (.aload_n 0, 1) := by decide +kernel
theorem dX8_man_61 : decode cX8_man 61 = .ok (.getfield 7, 3) := by decide +kernel
theorem dX8_man_64 : decode cX8_man 64 = .ok (.iconst 5, 1) := by decide +kernel
theorem dX8_man_65 : decode cX8_man 65 = .ok (.iconst 0, 1) := by decide +kernel
theorem dX8_man_66 : decode cX8_man 66 = .ok (.iastore, 1) := by decide +kernel
theorem dX8_man_67 : decode cX8_man 67 = .ok (.aload_n 0, 1) := by decide +kernel
theorem dX8_man_68 : decode cX8_man 68 = .ok (.invokevirtual 55, 3) := by decide +kernel
theorem dX8_man_71 : decode cX8_man 71 = .ok (.iconst 1, 1) := by decide +kernel
theorem dX8_man_72 : decode cX8_man 72 = .ok (.isub, 1) := by decide +kernel
theorem dX8_man_73 : decode cX8_man 73 = .ok (.ireturn, 1) := by decide +kernel
theorem dX8_needsAs_0 : decode cX8_needsAs 0 = .ok (.iconst 2, 1) := by decide +kernel
theorem dX8_needsAs_1 : decode cX8_needsAs 1 = .ok (.iload_n 1, 1) := by decide +kernel
theorem dX8_needsAs_2 : decode cX8_needsAs 2 = .ok (.imul, 1) := by decide +kernel
theorem dX8_needsAs_3 : decode cX8_needsAs 3 = .ok (.iconst 4, 1) := by decide +kernel
theorem dX8_needsAs_4 : decode cX8_needsAs 4 = .ok (.iadd, 1) := by decide +kernel
theorem dX8_needsAs_5 : decode cX8_needsAs 5 = .ok (.istore_n 3, 1) := by decide +kernel
theorem dX8_needsAs_6 : decode cX8_needsAs 6 = .ok (.iload_n 0, 1) := by decide +kernel
theorem dX8_needsAs_7 : decode cX8_needsAs 7 = .ok (.tableswitch 91 1 5 #[33, 35, 37, 56, 73], 33) := by decide +kernel
theorem dX8_needsAs_40 : decode cX8_needsAs 40 = .ok (.iload_n 3, 1) := by decide +kernel
theorem dX8_needsAs_41 : decode cX8_needsAs 41 = .ok (.ireturn, 1) := by decide +kernel
theorem dX8_needsAs_42 : decode cX8_needsAs 42 = .ok (.iload_n 1, 1) := by decide +kernel
theorem dX8_needsAs_43 : decode cX8_needsAs 43 = .ok (.ireturn, 1) := by decide +kernel
theorem dX8_needsAs_44 : decode cX8_needsAs 44 = .ok (.iload_n 3, 1) := by decide +kernel
theorem dX8_needsAs_45 : decode cX8_needsAs 45 = .ok (.iconst 2, 1) := by decide +kernel
theorem dX8_needsAs_46 : decode cX8_needsAs 46 = .ok (.iload_n 2, 1) := by decide +kernel
theorem dX8_needsAs_47 : decode cX8_needsAs 47 = .ok (.imul, 1) := by decide +kernel
theorem dX8_needsAs_48 : decode cX8_needsAs 48 = .ok (.isub, 1) := by decide +kernel
theorem dX8_needsAs_49 : decode cX8_needsAs 49 = .ok (.iconst 1, 1) := by decide +kernel
theorem dX8_needsAs_50 : decode cX8_needsAs 50 = .ok (.if_icmp .ge 7, 3) := by decide +kernel
theorem dX8_needsAs_53 : decode cX8_needsAs 53 = .ok (.iconst 1, 1) := by decide +kernel
theorem dX8_needsAs_54 : decode cX8_needsAs 54 = .ok (.goto 8, 3) := by decide +kernel
theorem dX8_needsAs_57 : decode cX8_needsAs 57 = .ok (.iload_n 3, 1) := by decide +kernel
theorem dX8_needsAs_58 : decode cX8_needsAs 58 = .ok (.iconst 2, 1) := by decide +kernel
theorem dX8_needsAs_59 : decode cX8_needsAs 59 = .ok (.iload_n 2, 1) := by decide +kernel
theorem dX8_needsAs_60 : decode cX8_needsAs 60 = .ok (.imul, 1) := by decide +kernel
theorem dX8_needsAs_61 : decode cX8_needsAs 61 = .ok (.isub, 1) := by decide +kernel
theorem dX8_needsAs_62 : decode cX8_needsAs 62 = .ok (.ireturn, 1) := by decide +kernel
theorem dX8_needsAs_63 : decode cX8_needsAs 63 = .ok (.iload_n 2, 1) := by decide +kernel
theorem dX8_needsAs_64 : decode cX8_needsAs 64 = .ok (.iconst 4, 1) := by decide +kernel
theorem dX8_needsAs_65 : decode cX8_needsAs 65 = .ok (.if_icmp .lt 11, 3) := by decide +kernel
theorem dX8_needsAs_68 : decode cX8_needsAs 68 = .ok (.iconst 2, 1) := by decide +kernel
theorem dX8_needsAs_69 : decode cX8_needsAs 69 = .ok (.iload_n 1, 1) := by decide +kernel
theorem dX8_needsAs_70 : decode cX8_needsAs 70 = .ok (.imul, 1) := by decide +kernel
theorem dX8_needsAs_71 : decode cX8_needsAs 71 = .ok (.iconst 5, 1) := by decide +kernel
theorem dX8_needsAs_72 : decode cX8_needsAs 72 = .ok (.iadd, 1) := by decide +kernel
theorem dX8_needsAs_73 : decode cX8_needsAs 73 = .ok (.goto 6, 3) := by decide +kernel
theorem dX8_needsAs_76 : decode cX8_needsAs 76 = .ok (.iconst 2, 1) := by decide +kernel
theorem dX8_needsAs_77 : decode cX8_needsAs 77 = .ok (.iload_n 1, 1) := by decide +kernel
theorem dX8_needsAs_78 : decode cX8_needsAs 78 = .ok (.imul, 1) := by decide +kernel
theorem dX8_needsAs_79 : decode cX8_needsAs 79 = .ok (.ireturn, 1) := by decide +kernel
theorem dX8_needsAs_80 : decode cX8_needsAs 80 = .ok (.iload_n 2, 1) := by decide +kernel
theorem dX8_needsAs_81 : decode cX8_needsAs 81 = .ok (.iconst 2, 1) := by decide +kernel
theorem dX8_needsAs_82 : decode cX8_needsAs 82 = .ok (.if_icmp .gt 14, 3) := by decide +kernel
theorem dX8_needsAs_85 : decode cX8_needsAs 85 = .ok (.iload_n 1, 1) := by decide +kernel
theorem dX8_needsAs_86 : decode cX8_needsAs 86 = .ok (.bipush 9, 2) := by decide +kernel
theorem dX8_needsAs_88 : decode cX8_needsAs 88 = .ok (.if_icmp .le 8, 3) := by decide +kernel
theorem dX8_needsAs_91 : decode cX8_needsAs 91 = .ok (.bipush 9, 2) := by decide +kernel
theorem dX8_needsAs_93 : decode cX8_needsAs 93 = .ok (.goto 4, 3) := by decide +kernel
theorem dX8_needsAs_96 : decode cX8_needsAs 96 = .ok (.iload_n 1, 1) := by decide +kernel
theorem dX8_needsAs_97 : decode cX8_needsAs 97 = .ok (.ireturn, 1) := by decide +kernel
theorem dX8_needsAs_98 : decode cX8_needsAs 98 = .ok (.iconst 2, 1) := by decide +kernel
theorem dX8_needsAs_99 : decode cX8_needsAs 99 = .ok (.iload_n 1, 1) := by decide +kernel
theorem dX8_needsAs_100 : decode cX8_needsAs 100 = .ok (.imul, 1) := by decide +kernel
theorem dX8_needsAs_101 : decode cX8_needsAs 101 = .ok (.ireturn, 1) := by decide +kernel
theorem dX8_likedAs_0 : decode cX8_likedAs 0 = .ok (.iload_n 1, 1) := by decide +kernel
theorem dX8_likedAs_1 : decode cX8_likedAs 1 = .ok (.iconst 5, 1) := by decide +kernel
theorem dX8_likedAs_2 : decode cX8_likedAs 2 = .ok (.iadd, 1) := by decide +kernel
theorem dX8_likedAs_3 : decode cX8_likedAs 3 = .ok (.istore_n 3, 1) := by decide +kernel
theorem dX8_likedAs_4 : decode cX8_likedAs 4 = .ok (.iload_n 1, 1) := by decide +kernel
theorem dX8_likedAs_5 : decode cX8_likedAs 5 = .ok (.iload_n 2, 1) := by decide +kernel
theorem dX8_likedAs_6 : decode cX8_likedAs 6 = .ok (.if_icmp .le 9, 3) := by decide +kernel
theorem dX8_likedAs_9 : decode cX8_likedAs 9 = .ok (.iload_n 1, 1) := by decide +kernel
theorem dX8_likedAs_10 : decode cX8_likedAs 10 = .ok (.iload_n 2, 1) := by decide +kernel
theorem dX8_likedAs_11 : decode cX8_likedAs 11 = .ok (.isub, 1) := by decide +kernel
theorem dX8_likedAs_12 : decode cX8_likedAs 12 = .ok (.goto 4, 3) := by decide +kernel
theorem dX8_likedAs_15 : decode cX8_likedAs 15 = .ok (.iconst 0, 1) := by decide +kernel
theorem dX8_likedAs_16 : decode cX8_likedAs 16 = .ok (.istore 4, 2) := by decide +kernel
theorem dX8_likedAs_18 : decode cX8_likedAs 18 = .ok (.iload_n 0, 1) := by decide +kernel
theorem dX8_likedAs_19 : decode cX8_likedAs 19 = .ok (.tableswitch 79 1 5 #[33, 35, 38, 51, 62], 33) := by decide +kernel
theorem dX8_likedAs_52 : decode cX8_likedAs 52 = .ok (.iload_n 3, 1) := by decide +kernel
theorem dX8_likedAs_53 : decode cX8_likedAs 53 = .ok (.ireturn, 1) := by decide +kernel
theorem dX8_likedAs_54 : decode cX8_likedAs 54 = .ok (.iload 4, 2) := by decide +kernel
theorem dX8_likedAs_56 : decode cX8_likedAs 56 = .ok (.ireturn, 1) := by decide +kernel
theorem dX8_likedAs_57 : decode cX8_likedAs 57 = .ok (.iload_n 2, 1) := by decide +kernel
theorem dX8_likedAs_58 : decode cX8_likedAs 58 = .ok (.iconst 2, 1) := by decide +kernel
theorem dX8_likedAs_59 : decode cX8_likedAs 59 = .ok (.if_icmp .lt 9, 3) := by decide +kernel
theorem dX8_likedAs_62 : decode cX8_likedAs 62 = .ok (.iconst 2, 1) := by decide +kernel
theorem dX8_likedAs_63 : decode cX8_likedAs 63 = .ok (.iload_n 3, 1) := by decide +kernel
theorem dX8_likedAs_64 : decode cX8_likedAs 64 = .ok (.imul, 1) := by decide +kernel
theorem dX8_likedAs_65 : decode cX8_likedAs 65 = .ok (.goto 4, 3) := by decide +kernel
theorem dX8_likedAs_68 : decode cX8_likedAs 68 = .ok (.iload_n 3, 1) := by decide +kernel
theorem dX8_likedAs_69 : decode cX8_likedAs 69 = .ok (.ireturn, 1) := by decide +kernel
theorem dX8_likedAs_70 : decode cX8_likedAs 70 = .ok (.iload_n 2, 1) := by decide +kernel
theorem dX8_likedAs_71 : decode cX8_likedAs 71 = .ok (.iconst 3, 1) := by decide +kernel
theorem dX8_likedAs_72 : decode cX8_likedAs 72 = .ok (.if_icmp .ge 7, 3) := by decide +kernel
theorem dX8_likedAs_75 : decode cX8_likedAs 75 = .ok (.iconst 0, 1) := by decide +kernel
theorem dX8_likedAs_76 : decode cX8_likedAs 76 = .ok (.goto 4, 3) := by decide +kernel
theorem dX8_likedAs_79 : decode cX8_likedAs 79 = .ok (.iload_n 1, 1) := by decide +kernel
theorem dX8_likedAs_80 : decode cX8_likedAs 80 = .ok (.ireturn, 1) := by decide +kernel
theorem dX8_likedAs_81 : decode cX8_likedAs 81 = .ok (.iload_n 2, 1) := by decide +kernel
theorem dX8_likedAs_82 : decode cX8_likedAs 82 = .ok (.iconst 5, 1) := by decide +kernel
theorem dX8_likedAs_83 : decode cX8_likedAs 83 = .ok (.irem, 1) := by decide +kernel
theorem dX8_likedAs_84 : decode cX8_likedAs 84 = .ok (.iconst 4, 1) := by decide +kernel
theorem dX8_likedAs_85 : decode cX8_likedAs 85 = .ok (.if_icmp .ne 7, 3) := by decide +kernel
theorem dX8_likedAs_88 : decode cX8_likedAs 88 = .ok (.iconst 0, 1) := by decide +kernel
theorem dX8_likedAs_89 : decode cX8_likedAs 89 = .ok (.goto 8, 3) := by decide +kernel
theorem dX8_likedAs_92 : decode cX8_likedAs 92 = .ok (.iload 4, 2) := by decide +kernel
theorem dX8_likedAs_94 : decode cX8_likedAs 94 = .ok (.bipush 9, 2) := by decide +kernel
theorem dX8_likedAs_96 : decode cX8_likedAs 96 = .ok (.iadd, 1) := by decide +kernel
theorem dX8_likedAs_97 : decode cX8_likedAs 97 = .ok (.ireturn, 1) := by decide +kernel
theorem dX8_likedAs_98 : decode cX8_likedAs 98 = .ok (.iload_n 1, 1) := by decide +kernel
theorem dX8_likedAs_99 : decode cX8_likedAs 99 = .ok (.ireturn, 1) := by decide +kernel
theorem dX8_aboard_0 : decode cX8_aboard 0 = .ok (.iconst 0, 1) := by decide +kernel
theorem dX8_aboard_1 : decode cX8_aboard 1 = .ok (.istore_n 2, 1) := by decide +kernel
theorem dX8_aboard_2 : decode cX8_aboard 2 = .ok (.iconst 0, 1) := by decide +kernel
theorem dX8_aboard_3 : decode cX8_aboard 3 = .ok (.istore_n 3, 1) := by decide +kernel
theorem dX8_aboard_4 : decode cX8_aboard 4 = .ok (.iload_n 3, 1) := by decide +kernel
theorem dX8_aboard_5 : decode cX8_aboard 5 = .ok (.aload_n 0, 1) := by decide +kernel
theorem dX8_aboard_6 : decode cX8_aboard 6 = .ok (.iconst 0, 1) := by decide +kernel
theorem dX8_aboard_7 : decode cX8_aboard 7 = .ok (.iaload, 1) := by decide +kernel
theorem dX8_aboard_8 : decode cX8_aboard 8 = .ok (.if_icmp .ge 29, 3) := by decide +kernel
theorem dX8_aboard_11 : decode cX8_aboard 11 = .ok (.iload_n 2, 1) := by decide +kernel
theorem dX8_aboard_12 : decode cX8_aboard 12 = .ok (.aload_n 0, 1) := by decide +kernel
theorem dX8_aboard_13 : decode cX8_aboard 13 = .ok (.bipush 6, 2) := by decide +kernel
theorem dX8_aboard_15 : decode cX8_aboard 15 = .ok (.iload_n 3, 1) := by decide +kernel
theorem dX8_aboard_16 : decode cX8_aboard 16 = .ok (.iadd, 1) := by decide +kernel
theorem dX8_aboard_17 : decode cX8_aboard 17 = .ok (.iaload, 1) := by decide +kernel
theorem dX8_aboard_18 : decode cX8_aboard 18 = .ok (.iload_n 1, 1) := by decide +kernel
theorem dX8_aboard_19 : decode cX8_aboard 19 = .ok (.iconst 1, 1) := by decide +kernel
theorem dX8_aboard_20 : decode cX8_aboard 20 = .ok (.iadd, 1) := by decide +kernel
theorem dX8_aboard_21 : decode cX8_aboard 21 = .ok (.if_icmp .ne 7, 3) := by decide +kernel
theorem dX8_aboard_24 : decode cX8_aboard 24 = .ok (.iconst 1, 1) := by decide +kernel
theorem dX8_aboard_25 : decode cX8_aboard 25 = .ok (.goto 4, 3) := by decide +kernel
theorem dX8_aboard_28 : decode cX8_aboard 28 = .ok (.iconst 0, 1) := by decide +kernel
theorem dX8_aboard_29 : decode cX8_aboard 29 = .ok (.iadd, 1) := by decide +kernel
theorem dX8_aboard_30 : decode cX8_aboard 30 = .ok (.istore_n 2, 1) := by decide +kernel
theorem dX8_aboard_31 : decode cX8_aboard 31 = .ok (.iinc 3 1, 3) := by decide +kernel
theorem dX8_aboard_34 : decode cX8_aboard 34 = .ok (.goto (-30), 3) := by decide +kernel
theorem dX8_aboard_37 : decode cX8_aboard 37 = .ok (.iload_n 2, 1) := by decide +kernel
theorem dX8_aboard_38 : decode cX8_aboard 38 = .ok (.ireturn, 1) := by decide +kernel
theorem dX8_skillsIn_0 : decode cX8_skillsIn 0 = .ok (.iconst 0, 1) := by decide +kernel
theorem dX8_skillsIn_1 : decode cX8_skillsIn 1 = .ok (.istore_n 2, 1) := by decide +kernel
theorem dX8_skillsIn_2 : decode cX8_skillsIn 2 = .ok (.iconst 0, 1) := by decide +kernel
theorem dX8_skillsIn_3 : decode cX8_skillsIn 3 = .ok (.istore_n 3, 1) := by decide +kernel
theorem dX8_skillsIn_4 : decode cX8_skillsIn 4 = .ok (.iload_n 3, 1) := by decide +kernel
theorem dX8_skillsIn_5 : decode cX8_skillsIn 5 = .ok (.aload_n 0, 1) := by decide +kernel
theorem dX8_skillsIn_6 : decode cX8_skillsIn 6 = .ok (.iconst 0, 1) := by decide +kernel
theorem dX8_skillsIn_7 : decode cX8_skillsIn 7 = .ok (.iaload, 1) := by decide +kernel
theorem dX8_skillsIn_8 : decode cX8_skillsIn 8 = .ok (.if_icmp .ge 32, 3) := by decide +kernel
theorem dX8_skillsIn_11 : decode cX8_skillsIn 11 = .ok (.iload_n 2, 1) := by decide +kernel
theorem dX8_skillsIn_12 : decode cX8_skillsIn 12 = .ok (.aload_n 0, 1) := by decide +kernel
theorem dX8_skillsIn_13 : decode cX8_skillsIn 13 = .ok (.bipush 6, 2) := by decide +kernel
theorem dX8_skillsIn_15 : decode cX8_skillsIn 15 = .ok (.iload_n 3, 1) := by decide +kernel
theorem dX8_skillsIn_16 : decode cX8_skillsIn 16 = .ok (.iadd, 1) := by decide +kernel
theorem dX8_skillsIn_17 : decode cX8_skillsIn 17 = .ok (.iaload, 1) := by decide +kernel
theorem dX8_skillsIn_18 : decode cX8_skillsIn 18 = .ok (.iload_n 1, 1) := by decide +kernel
theorem dX8_skillsIn_19 : decode cX8_skillsIn 19 = .ok (.if_icmp .ne 12, 3) := by decide +kernel
theorem dX8_skillsIn_22 : decode cX8_skillsIn 22 = .ok (.aload_n 0, 1) := by decide +kernel
theorem dX8_skillsIn_23 : decode cX8_skillsIn 23 = .ok (.bipush 28, 2) := by decide +kernel
theorem dX8_skillsIn_25 : decode cX8_skillsIn 25 = .ok (.iload_n 3, 1) := by decide +kernel
theorem dX8_skillsIn_26 : decode cX8_skillsIn 26 = .ok (.iadd, 1) := by decide +kernel
theorem dX8_skillsIn_27 : decode cX8_skillsIn 27 = .ok (.iaload, 1) := by decide +kernel
theorem dX8_skillsIn_28 : decode cX8_skillsIn 28 = .ok (.goto 4, 3) := by decide +kernel
theorem dX8_skillsIn_31 : decode cX8_skillsIn 31 = .ok (.iconst 0, 1) := by decide +kernel
theorem dX8_skillsIn_32 : decode cX8_skillsIn 32 = .ok (.iadd, 1) := by decide +kernel
theorem dX8_skillsIn_33 : decode cX8_skillsIn 33 = .ok (.istore_n 2, 1) := by decide +kernel
theorem dX8_skillsIn_34 : decode cX8_skillsIn 34 = .ok (.iinc 3 1, 3) := by decide +kernel
theorem dX8_skillsIn_37 : decode cX8_skillsIn 37 = .ok (.goto (-33), 3) := by decide +kernel
theorem dX8_skillsIn_40 : decode cX8_skillsIn 40 = .ok (.iload_n 2, 1) := by decide +kernel
theorem dX8_skillsIn_41 : decode cX8_skillsIn 41 = .ok (.ireturn, 1) := by decide +kernel
set_option maxRecDepth 20000 in
theorem ggX8_canSail_X8_aboard : GoodIn wsX8_canSail wsX8_aboard := goodIn_r _ [4] (by decide +kernel) (by decide +kernel)
set_option maxRecDepth 20000 in
theorem gX8_canSail_X8_aboard : GoodIn wsX8_canSail (va_wsS RX8 90 yX8_aboard wsX8_aboard) := goodIn_app (goodIn_of _ (by decide +kernel)) ggX8_canSail_X8_aboard
set_option maxRecDepth 20000 in
theorem ggX8_canSail_X8_skillsIn : GoodIn wsX8_canSail wsX8_skillsIn := goodIn_r _ [7] (by decide +kernel) (by decide +kernel)
set_option maxRecDepth 20000 in
theorem gX8_canSail_X8_skillsIn : GoodIn wsX8_canSail (va_wsS RX8 94 yX8_skillsIn wsX8_skillsIn) := goodIn_app (goodIn_of _ (by decide +kernel)) ggX8_canSail_X8_skillsIn
set_option maxRecDepth 20000 in
theorem ggX8_canSail_X8_needsAs : GoodIn wsX8_canSail wsX8_needsAs := goodIn_r _ [10] (by decide +kernel) (by decide +kernel)
set_option maxRecDepth 20000 in
theorem gX8_canSail_X8_needsAs : GoodIn wsX8_canSail (va_wsS RX8 97 yX8_needsAs wsX8_needsAs) := goodIn_app (goodIn_of _ (by decide +kernel)) ggX8_canSail_X8_needsAs
theorem dX8_canSail_0 : decode cX8_canSail 0 = .ok (.aload_n 0, 1) := by decide +kernel
theorem dX8_canSail_1 : decode cX8_canSail 1 = .ok (.iload_n 1, 1) := by decide +kernel
theorem dX8_canSail_2 : decode cX8_canSail 2 = .ok (.invokestatic 90, 3) := by decide +kernel
theorem dX8_canSail_5 : decode cX8_canSail 5 = .ok (.istore_n 3, 1) := by decide +kernel
theorem dX8_canSail_6 : decode cX8_canSail 6 = .ok (.iload_n 3, 1) := by decide +kernel
theorem dX8_canSail_7 : decode cX8_canSail 7 = .ok (.ifCond .le 28, 3) := by decide +kernel
theorem dX8_canSail_10 : decode cX8_canSail 10 = .ok (.aload_n 0, 1) := by decide +kernel
theorem dX8_canSail_11 : decode cX8_canSail 11 = .ok (.iload_n 1, 1) := by decide +kernel
theorem dX8_canSail_12 : decode cX8_canSail 12 = .ok (.iconst 1, 1) := by decide +kernel
theorem dX8_canSail_13 : decode cX8_canSail 13 = .ok (.iadd, 1) := by decide +kernel
theorem dX8_canSail_14 : decode cX8_canSail 14 = .ok (.invokestatic 94, 3) := by decide +kernel
theorem dX8_canSail_17 : decode cX8_canSail 17 = .ok (.aload_n 0, 1) := by decide +kernel
theorem dX8_canSail_18 : decode cX8_canSail 18 = .ok (.bipush 17, 2) := by decide +kernel
theorem dX8_canSail_20 : decode cX8_canSail 20 = .ok (.iload_n 1, 1) := by decide +kernel
theorem dX8_canSail_21 : decode cX8_canSail 21 = .ok (.iadd, 1) := by decide +kernel
theorem dX8_canSail_22 : decode cX8_canSail 22 = .ok (.iaload, 1) := by decide +kernel
theorem dX8_canSail_23 : decode cX8_canSail 23 = .ok (.iload_n 2, 1) := by decide +kernel
theorem dX8_canSail_24 : decode cX8_canSail 24 = .ok (.iload_n 3, 1) := by decide +kernel
theorem dX8_canSail_25 : decode cX8_canSail 25 = .ok (.invokestatic 97, 3) := by decide +kernel
theorem dX8_canSail_28 : decode cX8_canSail 28 = .ok (.if_icmp .lt 7, 3) := by decide +kernel
theorem dX8_canSail_31 : decode cX8_canSail 31 = .ok (.iconst 1, 1) := by decide +kernel
theorem dX8_canSail_32 : decode cX8_canSail 32 = .ok (.goto 4, 3) := by decide +kernel
theorem dX8_canSail_35 : decode cX8_canSail 35 = .ok (.iconst 0, 1) := by decide +kernel
theorem dX8_canSail_36 : decode cX8_canSail 36 = .ok (.ireturn, 1) := by decide +kernel
set_option maxRecDepth 20000 in
theorem ggX8_likedOf_X8_likedAs : GoodIn wsX8_likedOf wsX8_likedAs := goodIn_r _ [4] (by decide +kernel) (by decide +kernel)
set_option maxRecDepth 20000 in
theorem gX8_likedOf_X8_likedAs : GoodIn wsX8_likedOf (va_wsS RX8 101 yX8_likedAs wsX8_likedAs) := goodIn_app (goodIn_of _ (by decide +kernel)) ggX8_likedOf_X8_likedAs
theorem dX8_likedOf_0 : decode cX8_likedOf 0 = .ok (.aload_n 0, 1) := by decide +kernel
theorem dX8_likedOf_1 : decode cX8_likedOf 1 = .ok (.bipush 20, 2) := by decide +kernel
theorem dX8_likedOf_3 : decode cX8_likedOf 3 = .ok (.iload_n 1, 1) := by decide +kernel
theorem dX8_likedOf_4 : decode cX8_likedOf 4 = .ok (.iadd, 1) := by decide +kernel
theorem dX8_likedOf_5 : decode cX8_likedOf 5 = .ok (.iaload, 1) := by decide +kernel
theorem dX8_likedOf_6 : decode cX8_likedOf 6 = .ok (.aload_n 0, 1) := by decide +kernel
theorem dX8_likedOf_7 : decode cX8_likedOf 7 = .ok (.bipush 28, 2) := by decide +kernel
theorem dX8_likedOf_9 : decode cX8_likedOf 9 = .ok (.iload_n 1, 1) := by decide +kernel
theorem dX8_likedOf_10 : decode cX8_likedOf 10 = .ok (.iadd, 1) := by decide +kernel
theorem dX8_likedOf_11 : decode cX8_likedOf 11 = .ok (.iaload, 1) := by decide +kernel
theorem dX8_likedOf_12 : decode cX8_likedOf 12 = .ok (.aload_n 0, 1) := by decide +kernel
theorem dX8_likedOf_13 : decode cX8_likedOf 13 = .ok (.bipush 14, 2) := by decide +kernel
theorem dX8_likedOf_15 : decode cX8_likedOf 15 = .ok (.iload_n 2, 1) := by decide +kernel
theorem dX8_likedOf_16 : decode cX8_likedOf 16 = .ok (.iadd, 1) := by decide +kernel
theorem dX8_likedOf_17 : decode cX8_likedOf 17 = .ok (.iaload, 1) := by decide +kernel
theorem dX8_likedOf_18 : decode cX8_likedOf 18 = .ok (.invokestatic 101, 3) := by decide +kernel
theorem dX8_likedOf_21 : decode cX8_likedOf 21 = .ok (.ireturn, 1) := by decide +kernel
set_option maxRecDepth 20000 in
theorem ggX8_leastOf_X8_likedOf : GoodIn wsX8_leastOf wsX8_likedOf := goodIn_r _ [4, 5, 6, 3, 7] (by decide +kernel) (by decide +kernel)
set_option maxRecDepth 20000 in
theorem gX8_leastOf_X8_likedOf : GoodIn wsX8_leastOf (va_wsS RX8 104 yX8_likedOf wsX8_likedOf) := goodIn_app (goodIn_of _ (by decide +kernel)) ggX8_leastOf_X8_likedOf
theorem dX8_leastOf_0 : decode cX8_leastOf 0 = .ok (.iconst (-1), 1) := by decide +kernel
theorem dX8_leastOf_1 : decode cX8_leastOf 1 = .ok (.istore_n 2, 1) := by decide +kernel
theorem dX8_leastOf_2 : decode cX8_leastOf 2 = .ok (.iconst 0, 1) := by decide +kernel
theorem dX8_leastOf_3 : decode cX8_leastOf 3 = .ok (.istore_n 3, 1) := by decide +kernel
theorem dX8_leastOf_4 : decode cX8_leastOf 4 = .ok (.iload_n 3, 1) := by decide +kernel
theorem dX8_leastOf_5 : decode cX8_leastOf 5 = .ok (.aload_n 0, 1) := by decide +kernel
theorem dX8_leastOf_6 : decode cX8_leastOf 6 = .ok (.iconst 0, 1) := by decide +kernel
theorem dX8_leastOf_7 : decode cX8_leastOf 7 = .ok (.iaload, 1) := by decide +kernel
theorem dX8_leastOf_8 : decode cX8_leastOf 8 = .ok (.if_icmp .ge 43, 3) := by decide +kernel
theorem dX8_leastOf_11 : decode cX8_leastOf 11 = .ok (.aload_n 0, 1) := by decide +kernel
theorem dX8_leastOf_12 : decode cX8_leastOf 12 = .ok (.bipush 6, 2) := by decide +kernel
theorem dX8_leastOf_14 : decode cX8_leastOf 14 = .ok (.iload_n 3, 1) := by decide +kernel
theorem dX8_leastOf_15 : decode cX8_leastOf 15 = .ok (.iadd, 1) := by decide +kernel
theorem dX8_leastOf_16 : decode cX8_leastOf 16 = .ok (.iaload, 1) := by decide +kernel
theorem dX8_leastOf_17 : decode cX8_leastOf 17 = .ok (.iload_n 1, 1) := by decide +kernel
theorem dX8_leastOf_18 : decode cX8_leastOf 18 = .ok (.iconst 1, 1) := by decide +kernel
theorem dX8_leastOf_19 : decode cX8_leastOf 19 = .ok (.iadd, 1) := by decide +kernel
theorem dX8_leastOf_20 : decode cX8_leastOf 20 = .ok (.if_icmp .ne 25, 3) := by decide +kernel
theorem dX8_leastOf_23 : decode cX8_leastOf 23 = .ok (.iload_n 2, 1) := by decide +kernel
theorem dX8_leastOf_24 : decode cX8_leastOf 24 = .ok (.iconst (-1), 1) := by decide +kernel
theorem dX8_leastOf_25 : decode cX8_leastOf 25 = .ok (.if_icmp .eq 18, 3) := by decide +kernel
theorem dX8_leastOf_28 : decode cX8_leastOf 28 = .ok (.aload_n 0, 1) := by decide +kernel
theorem dX8_leastOf_29 : decode cX8_leastOf 29 = .ok (.iload_n 3, 1) := by decide +kernel
theorem dX8_leastOf_30 : decode cX8_leastOf 30 = .ok (.iload_n 1, 1) := by decide +kernel
theorem dX8_leastOf_31 : decode cX8_leastOf 31 = .ok (.invokestatic 104, 3) := by decide +kernel
theorem dX8_leastOf_34 : decode cX8_leastOf 34 = .ok (.aload_n 0, 1) := by decide +kernel
theorem dX8_leastOf_35 : decode cX8_leastOf 35 = .ok (.iload_n 2, 1) := by decide +kernel
theorem dX8_leastOf_36 : decode cX8_leastOf 36 = .ok (.iload_n 1, 1) := by decide +kernel
theorem dX8_leastOf_37 : decode cX8_leastOf 37 = .ok (.invokestatic 104, 3) := by decide +kernel
theorem dX8_leastOf_40 : decode cX8_leastOf 40 = .ok (.if_icmp .ge 5, 3) := by decide +kernel
theorem dX8_leastOf_43 : decode cX8_leastOf 43 = .ok (.iload_n 3, 1) := by decide +kernel
theorem dX8_leastOf_44 : decode cX8_leastOf 44 = .ok (.istore_n 2, 1) := by decide +kernel
theorem dX8_leastOf_45 : decode cX8_leastOf 45 = .ok (.iinc 3 1, 3) := by decide +kernel
theorem dX8_leastOf_48 : decode cX8_leastOf 48 = .ok (.goto (-44), 3) := by decide +kernel
theorem dX8_leastOf_51 : decode cX8_leastOf 51 = .ok (.iload_n 2, 1) := by decide +kernel
theorem dX8_leastOf_52 : decode cX8_leastOf 52 = .ok (.ireturn, 1) := by decide +kernel
set_option maxRecDepth 20000 in
theorem ggX8_goCall_X8_leastOf : GoodIn wsX8_goCall wsX8_leastOf := goodIn_r _ [4, 5, 6, 3, 7, 8, 9, 10] (by decide +kernel) (by decide +kernel)
set_option maxRecDepth 20000 in
theorem gX8_goCall_X8_leastOf : GoodIn wsX8_goCall (va_wsS RX8 108 yX8_leastOf wsX8_leastOf) := goodIn_app (goodIn_of _ (by decide +kernel)) ggX8_goCall_X8_leastOf
theorem dX8_goCall_0 : decode cX8_goCall 0 = .ok (.aload_n 0, 1) := by decide +kernel
theorem dX8_goCall_1 : decode cX8_goCall 1 = .ok (.iload_n 1, 1) := by decide +kernel
theorem dX8_goCall_2 : decode cX8_goCall 2 = .ok (.invokestatic 108, 3) := by decide +kernel
theorem dX8_goCall_5 : decode cX8_goCall 5 = .ok (.istore_n 2, 1) := by decide +kernel
theorem dX8_goCall_6 : decode cX8_goCall 6 = .ok (.iload_n 2, 1) := by decide +kernel
theorem dX8_goCall_7 : decode cX8_goCall 7 = .ok (.iconst (-1), 1) := by decide +kernel
theorem dX8_goCall_8 : decode cX8_goCall 8 = .ok (.if_icmp .eq 35, 3) := by decide +kernel
theorem dX8_goCall_11 : decode cX8_goCall 11 = .ok (.aload_n 0, 1) := by decide +kernel
theorem dX8_goCall_12 : decode cX8_goCall 12 = .ok (.bipush 6, 2) := by decide +kernel
theorem dX8_goCall_14 : decode cX8_goCall 14 = .ok (.iload_n 2, 1) := by decide +kernel
theorem dX8_goCall_15 : decode cX8_goCall 15 = .ok (.iadd, 1) := by decide +kernel
theorem dX8_goCall_16 : decode cX8_goCall 16 = .ok (.iconst 0, 1) := by decide +kernel
theorem dX8_goCall_17 : decode cX8_goCall 17 = .ok (.iastore, 1) := by decide +kernel
theorem dX8_goCall_18 : decode cX8_goCall 18 = .ok (.aload_n 0, 1) := by decide +kernel
theorem dX8_goCall_19 : decode cX8_goCall 19 = .ok (.bipush 14, 2) := by decide +kernel
theorem dX8_goCall_21 : decode cX8_goCall 21 = .ok (.iload_n 1, 1) := by decide +kernel
theorem dX8_goCall_22 : decode cX8_goCall 22 = .ok (.iadd, 1) := by decide +kernel
theorem dX8_goCall_23 : decode cX8_goCall 23 = .ok (.dup2, 1) := by decide +kernel
theorem dX8_goCall_24 : decode cX8_goCall 24 = .ok (.iaload, 1) := by decide +kernel
theorem dX8_goCall_25 : decode cX8_goCall 25 = .ok (.aload_n 0, 1) := by decide +kernel
theorem dX8_goCall_26 : decode cX8_goCall 26 = .ok (.bipush 14, 2) := by decide +kernel
theorem dX8_goCall_28 : decode cX8_goCall 28 = .ok (.iload_n 1, 1) := by decide +kernel
theorem dX8_goCall_29 : decode cX8_goCall 29 = .ok (.iadd, 1) := by decide +kernel
theorem dX8_goCall_30 : decode cX8_goCall 30 = .ok (.iaload, 1) := by decide +kernel
theorem dX8_goCall_31 : decode cX8_goCall 31 = .ok (.bipush 99, 2) := by decide +kernel
theorem dX8_goCall_33 : decode cX8_goCall 33 = .ok (.if_icmp .ge 7, 3) := by decide +kernel
theorem dX8_goCall_36 : decode cX8_goCall 36 = .ok (.iconst 1, 1) := by decide +kernel
theorem dX8_goCall_37 : decode cX8_goCall 37 = .ok (.goto 4, 3) := by decide +kernel
theorem dX8_goCall_40 : decode cX8_goCall 40 = .ok (.iconst 0, 1) := by decide +kernel
theorem dX8_goCall_41 : decode cX8_goCall 41 = .ok (.iadd, 1) := by decide +kernel
theorem dX8_goCall_42 : decode cX8_goCall 42 = .ok (.iastore, 1) := by decide +kernel
theorem dX8_goCall_43 : decode cX8_goCall 43 = .ok (.iload_n 2, 1) := by decide +kernel
theorem dX8_goCall_44 : decode cX8_goCall 44 = .ok (.ireturn, 1) := by decide +kernel
theorem dX8_save_0 : decode cX8_save 0 = .ok (.aload_n 0, 1) := by decide +kernel
theorem dX8_save_1 : decode cX8_save 1 = .ok (.getfield 7, 3) := by decide +kernel
theorem dX8_save_4 : decode cX8_save 4 = .ok (.iconst 5, 1) := by decide +kernel
theorem dX8_save_5 : decode cX8_save 5 = .ok (.iaload, 1) := by decide +kernel
theorem dX8_save_6 : decode cX8_save 6 = .ok (.bipush 8, 2) := by decide +kernel
theorem dX8_save_8 : decode cX8_save 8 = .ok (.if_icmp .ne 43, 3) := by decide +kernel
theorem dX8_save_11 : decode cX8_save 11 = .ok (.iconst 0, 1) := by decide +kernel
theorem dX8_save_12 : decode cX8_save 12 = .ok (.istore_n 1, 1) := by decide +kernel
theorem dX8_save_13 : decode cX8_save 13 = .ok (.iload_n 1, 1) := by decide +kernel
theorem dX8_save_14 : decode cX8_save 14 = .ok (.bipush 77, 2) := by decide +kernel
theorem dX8_save_16 : decode cX8_save 16 = .ok (.if_icmp .ge 27, 3) := by decide +kernel
theorem dX8_save_19 : decode cX8_save 19 = .ok (.aload_n 0, 1) := by decide +kernel
theorem dX8_save_20 : decode cX8_save 20 = .ok (.getfield 7, 3) := by decide +kernel
theorem dX8_save_23 : decode cX8_save 23 = .ok (.bipush 104, 2) := by decide +kernel
theorem dX8_save_25 : decode cX8_save 25 = .ok (.iload_n 1, 1) := by decide +kernel
theorem dX8_save_26 : decode cX8_save 26 = .ok (.iadd, 1) := by decide +kernel
theorem dX8_save_27 : decode cX8_save 27 = .ok (.aload_n 0, 1) := by decide +kernel
theorem dX8_save_28 : decode cX8_save 28 = .ok (.getfield 7, 3) := by decide +kernel
theorem dX8_save_31 : decode cX8_save 31 = .ok (.bipush 115, 2) := by decide +kernel
theorem dX8_save_33 : decode cX8_save 33 = .ok (.iload_n 1, 1) := by decide +kernel
theorem dX8_save_34 : decode cX8_save 34 = .ok (.iadd, 1) := by decide +kernel
theorem dX8_save_35 : decode cX8_save 35 = .ok (.iaload, 1) := by decide +kernel
theorem dX8_save_36 : decode cX8_save 36 = .ok (.iastore, 1) := by decide +kernel
theorem dX8_save_37 : decode cX8_save 37 = .ok (.iinc 1 1, 3) := by decide +kernel
theorem dX8_save_40 : decode cX8_save 40 = .ok (.goto (-27), 3) := by decide +kernel
theorem dX8_save_43 : decode cX8_save 43 = .ok (.aload_n 0, 1) := by decide +kernel
theorem dX8_save_44 : decode cX8_save 44 = .ok (.getfield 7, 3) := by decide +kernel
theorem dX8_save_47 : decode cX8_save 47 = .ok (.iconst 5, 1) := by decide +kernel
theorem dX8_save_48 : decode cX8_save 48 = .ok (.bipush 7, 2) := by decide +kernel
theorem dX8_save_50 : decode cX8_save 50 = .ok (.iastore, 1) := by decide +kernel
theorem dX8_save_51 : decode cX8_save 51 = .ok (.iconst 0, 1) := by decide +kernel
theorem dX8_save_52 : decode cX8_save 52 = .ok (.istore_n 1, 1) := by decide +kernel
theorem dX8_save_53 : decode cX8_save 53 = .ok (.iload_n 1, 1) := by decide +kernel
theorem dX8_save_54 : decode cX8_save 54 = .ok (.bipush 11, 2) := by decide +kernel
theorem dX8_save_56 : decode cX8_save 56 = .ok (.if_icmp .ge 37, 3) := by decide +kernel
theorem dX8_save_59 : decode cX8_save 59 = .ok (.aload_n 0, 1) := by decide +kernel
theorem dX8_save_60 : decode cX8_save 60 = .ok (.getfield 7, 3) := by decide +kernel
theorem dX8_save_63 : decode cX8_save 63 = .ok (.bipush 104, 2) := by decide +kernel
theorem dX8_save_65 : decode cX8_save 65 = .ok (.bipush 11, 2) := by decide +kernel
theorem dX8_save_67 : decode cX8_save 67 = .ok (.aload_n 0, 1) := by decide +kernel
theorem dX8_save_68 : decode cX8_save 68 = .ok (.getfield 7, 3) := by decide +kernel
theorem dX8_save_71 : decode cX8_save 71 = .ok (.iconst 5, 1) := by decide +kernel
theorem dX8_save_72 : decode cX8_save 72 = .ok (.iaload, 1) := by decide +kernel
theorem dX8_save_73 : decode cX8_save 73 = .ok (.imul, 1) := by decide +kernel
theorem dX8_save_74 : decode cX8_save 74 = .ok (.iadd, 1) := by decide +kernel
theorem dX8_save_75 : decode cX8_save 75 = .ok (.iload_n 1, 1) := by decide +kernel
theorem dX8_save_76 : decode cX8_save 76 = .ok (.iadd, 1) := by decide +kernel
theorem dX8_save_77 : decode cX8_save 77 = .ok (.aload_n 0, 1) := by decide +kernel
theorem dX8_save_78 : decode cX8_save 78 = .ok (.getfield 7, 3) := by decide +kernel
theorem dX8_save_81 : decode cX8_save 81 = .ok (.bipush 6, 2) := by decide +kernel
theorem dX8_save_83 : decode cX8_save 83 = .ok (.iload_n 1, 1) := by decide +kernel
theorem dX8_save_84 : decode cX8_save 84 = .ok (.iadd, 1) := by decide +kernel
theorem dX8_save_85 : decode cX8_save 85 = .ok (.iaload, 1) := by decide +kernel
theorem dX8_save_86 : decode cX8_save 86 = .ok (.iastore, 1) := by decide +kernel
theorem dX8_save_87 : decode cX8_save 87 = .ok (.iinc 1 1, 3) := by decide +kernel
theorem dX8_save_90 : decode cX8_save 90 = .ok (.goto (-37), 3) := by decide +kernel
theorem dX8_save_93 : decode cX8_save 93 = .ok (.aload_n 0, 1) := by decide +kernel
theorem dX8_save_94 : decode cX8_save 94 = .ok (.getfield 7, 3) := by decide +kernel
theorem dX8_save_97 : decode cX8_save 97 = .ok (.iconst 5, 1) := by decide +kernel
theorem dX8_save_98 : decode cX8_save 98 = .ok (.dup2, 1) := by decide +kernel
theorem dX8_save_99 : decode cX8_save 99 = .ok (.iaload, 1) := by decide +kernel
theorem dX8_save_100 : decode cX8_save 100 = .ok (.iconst 1, 1) := by decide +kernel
theorem dX8_save_101 : decode cX8_save 101 = .ok (.iadd, 1) := by decide +kernel
theorem dX8_save_102 : decode cX8_save 102 = .ok (.iastore, 1) := by decide +kernel
theorem dX8_save_103 : decode cX8_save 103 = .ok (.return_, 1) := by decide +kernel
set_option maxRecDepth 20000 in
theorem ggX8_calls_X8_isShip : GoodIn wsX8_calls wsX8_isShip := goodIn_r _ [6, 1, 7, 8, 5, 9, 38, 39, 40, 41, 42, 43, 44, 45, 46, 47, 48, 49, 50, 51, 52, 53, 54, 55, 56] (by decide +kernel) (by decide +kernel)
set_option maxRecDepth 20000 in
theorem gX8_calls_X8_isShip : GoodIn wsX8_calls (wsV RX8 83 RX8 yX8_isShip wsX8_isShip) := goodIn_app (goodIn_of _ (by decide +kernel)) ggX8_calls_X8_isShip
set_option maxRecDepth 20000 in
theorem ggX8_calls_X8_bad : GoodIn wsX8_calls wsX8_bad := goodIn_r _ [13, 14, 38, 39, 40, 41, 42, 43, 44, 45, 46, 47, 48, 49, 50, 51, 52, 53, 54, 55, 56] (by decide +kernel) (by decide +kernel)
set_option maxRecDepth 20000 in
theorem gX8_calls_X8_bad : GoodIn wsX8_calls (wsV RX8 73 RX8 yX8_bad wsX8_bad) := goodIn_app (goodIn_of _ (by decide +kernel)) ggX8_calls_X8_bad
set_option maxRecDepth 20000 in
theorem ggX8_calls_X8_aboard : GoodIn wsX8_calls wsX8_aboard := goodIn_r _ [17] (by decide +kernel) (by decide +kernel)
set_option maxRecDepth 20000 in
theorem gX8_calls_X8_aboard : GoodIn wsX8_calls (va_wsS RX8 90 yX8_aboard wsX8_aboard) := goodIn_app (goodIn_of _ (by decide +kernel)) ggX8_calls_X8_aboard
set_option maxRecDepth 20000 in
theorem ggX8_calls_X8_no : GoodIn wsX8_calls wsX8_no := goodIn_r _ [21, 14, 38, 39, 40, 41, 42, 43, 44, 45, 46, 47, 48, 49, 50, 51, 52, 53, 54, 55, 56] (by decide +kernel) (by decide +kernel)
set_option maxRecDepth 20000 in
theorem gX8_calls_X8_no : GoodIn wsX8_calls (wsV RX8 111 RX8 yX8_no wsX8_no) := goodIn_app (goodIn_of _ (by decide +kernel)) ggX8_calls_X8_no
set_option maxRecDepth 20000 in
theorem ggX8_calls_X8_save : GoodIn wsX8_calls wsX8_save := goodIn_r _ [25, 1, 38, 39, 40, 41, 42, 43, 44, 45, 46, 47, 48, 49, 50, 51, 52, 53, 54, 55, 56] (by decide +kernel) (by decide +kernel)
set_option maxRecDepth 20000 in
theorem gX8_calls_X8_save : GoodIn wsX8_calls (wsV RX8 114 RX8 yX8_save wsX8_save) := goodIn_app (goodIn_of _ (by decide +kernel)) ggX8_calls_X8_save
set_option maxRecDepth 20000 in
theorem ggX8_calls_X8_goCall : GoodIn wsX8_calls wsX8_goCall := goodIn_r _ [28, 29, 30, 5, 31, 32, 33, 34, 35, 36, 37] (by decide +kernel) (by decide +kernel)
set_option maxRecDepth 20000 in
theorem gX8_calls_X8_goCall : GoodIn wsX8_calls (va_wsS RX8 117 yX8_goCall wsX8_goCall) := goodIn_app (goodIn_of _ (by decide +kernel)) ggX8_calls_X8_goCall
theorem dX8_calls_0 : decode cX8_calls 0 = .ok (.aload_n 0, 1) := by decide +kernel
theorem dX8_calls_1 : decode cX8_calls 1 = .ok (.iload_n 1, 1) := by decide +kernel
theorem dX8_calls_2 : decode cX8_calls 2 = .ok (.invokevirtual 83, 3) := by decide +kernel
theorem dX8_calls_5 : decode cX8_calls 5 = .ok (.ifCond .ne 10, 3) := by decide +kernel
theorem dX8_calls_8 : decode cX8_calls 8 = .ok (.aload_n 0, 1) := by decide +kernel
theorem dX8_calls_9 : decode cX8_calls 9 = .ok (.bipush (-2), 2) := by decide +kernel
theorem dX8_calls_11 : decode cX8_calls 11 = .ok (.invokevirtual 73, 3) := by decide +kernel
theorem dX8_calls_14 : decode cX8_calls 14 = .ok (.ireturn, 1) := by decide +kernel
theorem dX8_calls_15 : decode cX8_calls 15 = .ok (.aload_n 0, 1) := by decide +kernel
theorem dX8_calls_16 : decode cX8_calls 16 = .ok (.getfield 7, 3) := by decide +kernel
theorem dX8_calls_19 : decode cX8_calls 19 = .ok (.iload_n 1, 1) := by decide +kernel
theorem dX8_calls_20 : decode cX8_calls 20 = .ok (.invokestatic 90, 3) := by decide +kernel
theorem dX8_calls_23 : decode cX8_calls 23 = .ok (.ifCond .ne 8, 3) := by decide +kernel
theorem dX8_calls_26 : decode cX8_calls 26 = .ok (.aload_n 0, 1) := by decide +kernel
theorem dX8_calls_27 : decode cX8_calls 27 = .ok (.invokevirtual 111, 3) := by decide +kernel
theorem dX8_calls_30 : decode cX8_calls 30 = .ok (.ireturn, 1) := by decide +kernel
theorem dX8_calls_31 : decode cX8_calls 31 = .ok (.aload_n 0, 1) := by decide +kernel
theorem dX8_calls_32 : decode cX8_calls 32 = .ok (.invokevirtual 114, 3) := by decide +kernel
theorem dX8_calls_35 : decode cX8_calls 35 = .ok (.aload_n 0, 1) := by decide +kernel
theorem dX8_calls_36 : decode cX8_calls 36 = .ok (.getfield 7, 3) := by decide +kernel
theorem dX8_calls_39 : decode cX8_calls 39 = .ok (.iload_n 1, 1) := by decide +kernel
theorem dX8_calls_40 : decode cX8_calls 40 = .ok (.invokestatic 117, 3) := by decide +kernel
theorem dX8_calls_43 : decode cX8_calls 43 = .ok (.ireturn, 1) := by decide +kernel
set_option maxRecDepth 20000 in
theorem ggX8_boards_X8_isShip : GoodIn wsX8_boards wsX8_isShip := goodIn_r _ [6, 1, 7, 8, 5, 9, 34, 35, 36, 37, 38, 39, 40, 41, 42, 43, 44, 45, 46, 47, 48, 49, 50, 51, 52] (by decide +kernel) (by decide +kernel)
set_option maxRecDepth 20000 in
theorem gX8_boards_X8_isShip : GoodIn wsX8_boards (wsV RX8 83 RX8 yX8_isShip wsX8_isShip) := goodIn_app (goodIn_of _ (by decide +kernel)) ggX8_boards_X8_isShip
set_option maxRecDepth 20000 in
theorem ggX8_boards_X8_isMan : GoodIn wsX8_boards wsX8_isMan := goodIn_r _ [13, 14, 15, 16, 5, 17, 1, 7, 8, 9, 34, 35, 36, 37, 38, 39, 40, 41, 42, 43, 44, 45, 46, 47, 48, 49, 50, 51, 52] (by decide +kernel) (by decide +kernel)
set_option maxRecDepth 20000 in
theorem gX8_boards_X8_isMan : GoodIn wsX8_boards (wsV RX8 120 RX8 yX8_isMan wsX8_isMan) := goodIn_app (goodIn_of _ (by decide +kernel)) ggX8_boards_X8_isMan
set_option maxRecDepth 20000 in
theorem ggX8_boards_X8_bad : GoodIn wsX8_boards wsX8_bad := goodIn_r _ [21, 22, 34, 35, 36, 37, 38, 39, 40, 41, 42, 43, 44, 45, 46, 47, 48, 49, 50, 51, 52] (by decide +kernel) (by decide +kernel)
set_option maxRecDepth 20000 in
theorem gX8_boards_X8_bad : GoodIn wsX8_boards (wsV RX8 73 RX8 yX8_bad wsX8_bad) := goodIn_app (goodIn_of _ (by decide +kernel)) ggX8_boards_X8_bad
set_option maxRecDepth 20000 in
theorem ggX8_boards_X8_no : GoodIn wsX8_boards wsX8_no := goodIn_r _ [26, 22, 34, 35, 36, 37, 38, 39, 40, 41, 42, 43, 44, 45, 46, 47, 48, 49, 50, 51, 52] (by decide +kernel) (by decide +kernel)
set_option maxRecDepth 20000 in
theorem gX8_boards_X8_no : GoodIn wsX8_boards (wsV RX8 111 RX8 yX8_no wsX8_no) := goodIn_app (goodIn_of _ (by decide +kernel)) ggX8_boards_X8_no
set_option maxRecDepth 20000 in
theorem ggX8_boards_X8_save : GoodIn wsX8_boards wsX8_save := goodIn_r _ [30, 1, 34, 35, 36, 37, 38, 39, 40, 41, 42, 43, 44, 45, 46, 47, 48, 49, 50, 51, 52] (by decide +kernel) (by decide +kernel)
set_option maxRecDepth 20000 in
theorem gX8_boards_X8_save : GoodIn wsX8_boards (wsV RX8 114 RX8 yX8_save wsX8_save) := goodIn_app (goodIn_of _ (by decide +kernel)) ggX8_boards_X8_save
set_option maxRecDepth 20000 in
theorem ggX8_boards_X8_aboard : GoodIn wsX8_boards wsX8_aboard := goodIn_r _ [33] (by decide +kernel) (by decide +kernel)
set_option maxRecDepth 20000 in
theorem gX8_boards_X8_aboard : GoodIn wsX8_boards (va_wsS RX8 90 yX8_aboard wsX8_aboard) := goodIn_app (goodIn_of _ (by decide +kernel)) ggX8_boards_X8_aboard
theorem dX8_boards_0 : decode cX8_boards 0 = .ok (.aload_n 0, 1) := by decide +kernel
theorem dX8_boards_1 : decode cX8_boards 1 = .ok (.iload_n 1, 1) := by decide +kernel
theorem dX8_boards_2 : decode cX8_boards 2 = .ok (.invokevirtual 83, 3) := by decide +kernel
theorem dX8_boards_5 : decode cX8_boards 5 = .ok (.ifCond .eq 11, 3) := by decide +kernel
theorem dX8_boards_8 : decode cX8_boards 8 = .ok (.aload_n 0, 1) := by decide +kernel
theorem dX8_boards_9 : decode cX8_boards 9 = .ok (.iload_n 2, 1) := by decide +kernel
theorem dX8_boards_10 : decode cX8_boards 10 = .ok (.invokevirtual 120, 3) := by decide +kernel
theorem dX8_boards_13 : decode cX8_boards 13 = .ok (.ifCond .ne 10, 3) := by decide +kernel
theorem dX8_boards_16 : decode cX8_boards 16 = .ok (.aload_n 0, 1) := by decide +kernel
theorem dX8_boards_17 : decode cX8_boards 17 = .ok (.bipush (-2), 2) := by decide +kernel
theorem dX8_boards_19 : decode cX8_boards 19 = .ok (.invokevirtual 73, 3) := by decide +kernel
theorem dX8_boards_22 : decode cX8_boards 22 = .ok (.ireturn, 1) := by decide +kernel
theorem dX8_boards_23 : decode cX8_boards 23 = .ok (.aload_n 0, 1) := by decide +kernel
theorem dX8_boards_24 : decode cX8_boards 24 = .ok (.getfield 7, 3) := by decide +kernel
theorem dX8_boards_27 : decode cX8_boards 27 = .ok (.bipush 6, 2) := by decide +kernel
theorem dX8_boards_29 : decode cX8_boards 29 = .ok (.iload_n 2, 1) := by decide +kernel
theorem dX8_boards_30 : decode cX8_boards 30 = .ok (.iadd, 1) := by decide +kernel
theorem dX8_boards_31 : decode cX8_boards 31 = .ok (.iaload, 1) := by decide +kernel
theorem dX8_boards_32 : decode cX8_boards 32 = .ok (.ifCond .eq 8, 3) := by decide +kernel
theorem dX8_boards_35 : decode cX8_boards 35 = .ok (.aload_n 0, 1) := by decide +kernel
theorem dX8_boards_36 : decode cX8_boards 36 = .ok (.invokevirtual 111, 3) := by decide +kernel
theorem dX8_boards_39 : decode cX8_boards 39 = .ok (.ireturn, 1) := by decide +kernel
theorem dX8_boards_40 : decode cX8_boards 40 = .ok (.aload_n 0, 1) := by decide +kernel
theorem dX8_boards_41 : decode cX8_boards 41 = .ok (.invokevirtual 114, 3) := by decide +kernel
theorem dX8_boards_44 : decode cX8_boards 44 = .ok (.aload_n 0, 1) := by decide +kernel
theorem dX8_boards_45 : decode cX8_boards 45 = .ok (.getfield 7, 3) := by decide +kernel
theorem dX8_boards_48 : decode cX8_boards 48 = .ok (.bipush 6, 2) := by decide +kernel
theorem dX8_boards_50 : decode cX8_boards 50 = .ok (.iload_n 2, 1) := by decide +kernel
theorem dX8_boards_51 : decode cX8_boards 51 = .ok (.iadd, 1) := by decide +kernel
theorem dX8_boards_52 : decode cX8_boards 52 = .ok (.iload_n 1, 1) := by decide +kernel
theorem dX8_boards_53 : decode cX8_boards 53 = .ok (.iconst 1, 1) := by decide +kernel
theorem dX8_boards_54 : decode cX8_boards 54 = .ok (.iadd, 1) := by decide +kernel
theorem dX8_boards_55 : decode cX8_boards 55 = .ok (.iastore, 1) := by decide +kernel
theorem dX8_boards_56 : decode cX8_boards 56 = .ok (.aload_n 0, 1) := by decide +kernel
theorem dX8_boards_57 : decode cX8_boards 57 = .ok (.getfield 7, 3) := by decide +kernel
theorem dX8_boards_60 : decode cX8_boards 60 = .ok (.iload_n 1, 1) := by decide +kernel
theorem dX8_boards_61 : decode cX8_boards 61 = .ok (.invokestatic 90, 3) := by decide +kernel
theorem dX8_boards_64 : decode cX8_boards 64 = .ok (.ireturn, 1) := by decide +kernel
set_option maxRecDepth 20000 in
theorem ggX8_ashore_X8_aboard : GoodIn wsX8_ashore wsX8_aboard := goodIn_r _ [4] (by decide +kernel) (by decide +kernel)
set_option maxRecDepth 20000 in
theorem gX8_ashore_X8_aboard : GoodIn wsX8_ashore (va_wsS RX8 90 yX8_aboard wsX8_aboard) := goodIn_app (goodIn_of _ (by decide +kernel)) ggX8_ashore_X8_aboard
theorem dX8_ashore_0 : decode cX8_ashore 0 = .ok (.aload_n 0, 1) := by decide +kernel
theorem dX8_ashore_1 : decode cX8_ashore 1 = .ok (.iconst (-1), 1) := by decide +kernel
theorem dX8_ashore_2 : decode cX8_ashore 2 = .ok (.invokestatic 90, 3) := by decide +kernel
theorem dX8_ashore_5 : decode cX8_ashore 5 = .ok (.ireturn, 1) := by decide +kernel
set_option maxRecDepth 20000 in
theorem ggX8_undo_X8_no : GoodIn wsX8_undo wsX8_no := goodIn_r _ [6, 7, 14, 15, 16, 17, 18, 19, 20, 21, 22, 23, 24, 25, 26, 27, 28, 29, 30, 31, 32] (by decide +kernel) (by decide +kernel)
set_option maxRecDepth 20000 in
theorem gX8_undo_X8_no : GoodIn wsX8_undo (wsV RX8 111 RX8 yX8_no wsX8_no) := goodIn_app (goodIn_of _ (by decide +kernel)) ggX8_undo_X8_no
set_option maxRecDepth 20000 in
theorem ggX8_undo_X8_ashore : GoodIn wsX8_undo wsX8_ashore := goodIn_r _ [10, 11, 12, 5, 13] (by decide +kernel) (by decide +kernel)
set_option maxRecDepth 20000 in
theorem gX8_undo_X8_ashore : GoodIn wsX8_undo (va_wsS RX8 123 yX8_ashore wsX8_ashore) := goodIn_app (goodIn_of _ (by decide +kernel)) ggX8_undo_X8_ashore
theorem dX8_undo_0 : decode cX8_undo 0 = .ok (.aload_n 0, 1) := by decide +kernel
theorem dX8_undo_1 : decode cX8_undo 1 = .ok (.getfield 7, 3) := by decide +kernel
theorem dX8_undo_4 : decode cX8_undo 4 = .ok (.iconst 5, 1) := by decide +kernel
theorem dX8_undo_5 : decode cX8_undo 5 = .ok (.iaload, 1) := by decide +kernel
theorem dX8_undo_6 : decode cX8_undo 6 = .ok (.ifCond .ne 8, 3) := by decide +kernel
theorem dX8_undo_9 : decode cX8_undo 9 = .ok (.aload_n 0, 1) := by decide +kernel
theorem dX8_undo_10 : decode cX8_undo 10 = .ok (.invokevirtual 111, 3) := by decide +kernel
theorem dX8_undo_13 : decode cX8_undo 13 = .ok (.ireturn, 1) := by decide +kernel
theorem dX8_undo_14 : decode cX8_undo 14 = .ok (.aload_n 0, 1) := by decide +kernel
theorem dX8_undo_15 : decode cX8_undo 15 = .ok (.getfield 7, 3) := by decide +kernel
theorem dX8_undo_18 : decode cX8_undo 18 = .ok (.iconst 5, 1) := by decide +kernel
theorem dX8_undo_19 : decode cX8_undo 19 = .ok (.dup2, 1) := by decide +kernel
theorem dX8_undo_20 : decode cX8_undo 20 = .ok (.iaload, 1) := by decide +kernel
theorem dX8_undo_21 : decode cX8_undo 21 = .ok (.iconst 1, 1) := by decide +kernel
theorem dX8_undo_22 : decode cX8_undo 22 = .ok (.isub, 1) := by decide +kernel
theorem dX8_undo_23 : decode cX8_undo 23 = .ok (.iastore, 1) := by decide +kernel
theorem dX8_undo_24 : decode cX8_undo 24 = .ok (.iconst 0, 1) := by decide +kernel
theorem dX8_undo_25 : decode cX8_undo 25 = .ok (.istore_n 1, 1) := by decide +kernel
theorem dX8_undo_26 : decode cX8_undo 26 = .ok (.iload_n 1, 1) := by decide +kernel
theorem dX8_undo_27 : decode cX8_undo 27 = .ok (.bipush 11, 2) := by decide +kernel
theorem dX8_undo_29 : decode cX8_undo 29 = .ok (.if_icmp .ge 37, 3) := by decide +kernel
theorem dX8_undo_32 : decode cX8_undo 32 = .ok (.aload_n 0, 1) := by decide +kernel
theorem dX8_undo_33 : decode cX8_undo 33 = .ok (.getfield 7, 3) := by decide +kernel
theorem dX8_undo_36 : decode cX8_undo 36 = .ok (.bipush 6, 2) := by decide +kernel
theorem dX8_undo_38 : decode cX8_undo 38 = .ok (.iload_n 1, 1) := by decide +kernel
theorem dX8_undo_39 : decode cX8_undo 39 = .ok (.iadd, 1) := by decide +kernel
theorem dX8_undo_40 : decode cX8_undo 40 = .ok (.aload_n 0, 1) := by decide +kernel
theorem dX8_undo_41 : decode cX8_undo 41 = .ok (.getfield 7, 3) := by decide +kernel
theorem dX8_undo_44 : decode cX8_undo 44 = .ok (.bipush 104, 2) := by decide +kernel
theorem dX8_undo_46 : decode cX8_undo 46 = .ok (.bipush 11, 2) := by decide +kernel
theorem dX8_undo_48 : decode cX8_undo 48 = .ok (.aload_n 0, 1) := by decide +kernel
theorem dX8_undo_49 : decode cX8_undo 49 = .ok (.getfield 7, 3) := by decide +kernel
theorem dX8_undo_52 : decode cX8_undo 52 = .ok (.iconst 5, 1) := by decide +kernel
theorem dX8_undo_53 : decode cX8_undo 53 = .ok (.iaload, 1) := by decide +kernel
theorem dX8_undo_54 : decode cX8_undo 54 = .ok (.imul, 1) := by decide +kernel
theorem dX8_undo_55 : decode cX8_undo 55 = .ok (.iadd, 1) := by decide +kernel
theorem dX8_undo_56 : decode cX8_undo 56 = .ok (.iload_n 1, 1) := by decide +kernel
theorem dX8_undo_57 : decode cX8_undo 57 = .ok (.iadd, 1) := by decide +kernel
theorem dX8_undo_58 : decode cX8_undo 58 = .ok (.iaload, 1) := by decide +kernel
theorem dX8_undo_59 : decode cX8_undo 59 = .ok (.iastore, 1) := by decide +kernel
theorem dX8_undo_60 : decode cX8_undo 60 = .ok (.iinc 1 1, 3) := by decide +kernel
theorem dX8_undo_63 : decode cX8_undo 63 = .ok (.goto (-37), 3) := by decide +kernel
theorem dX8_undo_66 : decode cX8_undo 66 = .ok (.aload_n 0, 1) := by decide +kernel
theorem dX8_undo_67 : decode cX8_undo 67 = .ok (.getfield 7, 3) := by decide +kernel
theorem dX8_undo_70 : decode cX8_undo 70 = .ok (.invokestatic 123, 3) := by decide +kernel
theorem dX8_undo_73 : decode cX8_undo 73 = .ok (.ireturn, 1) := by decide +kernel
set_option maxRecDepth 20000 in
theorem ggX8_of_X8_isMan : GoodIn wsX8_of wsX8_isMan := goodIn_r _ [7, 8, 9, 10, 6, 11, 2, 12, 13, 14, 26, 27, 28, 29, 30, 31, 32, 33, 34, 35, 36, 37, 38, 39, 40, 41, 42, 43, 44] (by decide +kernel) (by decide +kernel)
set_option maxRecDepth 20000 in
theorem gX8_of_X8_isMan : GoodIn wsX8_of (wsV RX8 120 RX8 yX8_isMan wsX8_isMan) := goodIn_app (goodIn_of _ (by decide +kernel)) ggX8_of_X8_isMan
set_option maxRecDepth 20000 in
theorem ggX8_of_X8_in : GoodIn wsX8_of wsX8_in := goodIn_r _ [14] (by decide +kernel) (by decide +kernel)
set_option maxRecDepth 20000 in
theorem gX8_of_X8_in : GoodIn wsX8_of (va_wsS RX8 59 yX8_in wsX8_in) := goodIn_app (goodIn_of _ (by decide +kernel)) ggX8_of_X8_in
set_option maxRecDepth 20000 in
theorem ggX8_of_X8_bad : GoodIn wsX8_of wsX8_bad := goodIn_r _ [18, 19, 26, 27, 28, 29, 30, 31, 32, 33, 34, 35, 36, 37, 38, 39, 40, 41, 42, 43, 44] (by decide +kernel) (by decide +kernel)
set_option maxRecDepth 20000 in
theorem gX8_of_X8_bad : GoodIn wsX8_of (wsV RX8 73 RX8 yX8_bad wsX8_bad) := goodIn_app (goodIn_of _ (by decide +kernel)) ggX8_of_X8_bad
set_option maxRecDepth 20000 in
theorem ggX8_of_X8_likedOf : GoodIn wsX8_of wsX8_likedOf := goodIn_r _ [22, 23, 24, 6, 25] (by decide +kernel) (by decide +kernel)
set_option maxRecDepth 20000 in
theorem gX8_of_X8_likedOf : GoodIn wsX8_of (va_wsS RX8 104 yX8_likedOf wsX8_likedOf) := goodIn_app (goodIn_of _ (by decide +kernel)) ggX8_of_X8_likedOf
theorem dX8_of_0 : decode cX8_of 0 = .ok (.aload_n 0, 1) := by decide +kernel
theorem dX8_of_1 : decode cX8_of 1 = .ok (.iload_n 1, 1) := by decide +kernel
theorem dX8_of_2 : decode cX8_of 2 = .ok (.invokevirtual 120, 3) := by decide +kernel
theorem dX8_of_5 : decode cX8_of 5 = .ok (.ifCond .eq 15, 3) := by decide +kernel
theorem dX8_of_8 : decode cX8_of 8 = .ok (.iload_n 2, 1) := by decide +kernel
theorem dX8_of_9 : decode cX8_of 9 = .ok (.i2l, 1) := by decide +kernel
theorem dX8_of_10 : decode cX8_of 10 = .ok (.lconst 0, 1) := by decide +kernel
theorem dX8_of_11 : decode cX8_of 11 = .ok (.ldc2_w 127, 3) := by decide +kernel
theorem dX8_of_14 : decode cX8_of 14 = .ok (.invokestatic 59, 3) := by decide +kernel
theorem dX8_of_17 : decode cX8_of 17 = .ok (.ifCond .ne 10, 3) := by decide +kernel
theorem dX8_of_20 : decode cX8_of 20 = .ok (.aload_n 0, 1) := by decide +kernel
theorem dX8_of_21 : decode cX8_of 21 = .ok (.bipush (-2), 2) := by decide +kernel
theorem dX8_of_23 : decode cX8_of 23 = .ok (.invokevirtual 73, 3) := by decide +kernel
theorem dX8_of_26 : decode cX8_of 26 = .ok (.ireturn, 1) := by decide +kernel
theorem dX8_of_27 : decode cX8_of 27 = .ok (.aload_n 0, 1) := by decide +kernel
theorem dX8_of_28 : decode cX8_of 28 = .ok (.getfield 7, 3) := by decide +kernel
theorem dX8_of_31 : decode cX8_of 31 = .ok (.bipush 6, 2) := by decide +kernel
theorem dX8_of_33 : decode cX8_of 33 = .ok (.iload_n 1, 1) := by decide +kernel
theorem dX8_of_34 : decode cX8_of 34 = .ok (.iadd, 1) := by decide +kernel
theorem dX8_of_35 : decode cX8_of 35 = .ok (.iaload, 1) := by decide +kernel
theorem dX8_of_36 : decode cX8_of 36 = .ok (.iconst 1, 1) := by decide +kernel
theorem dX8_of_37 : decode cX8_of 37 = .ok (.isub, 1) := by decide +kernel
theorem dX8_of_38 : decode cX8_of 38 = .ok (.istore_n 3, 1) := by decide +kernel
theorem dX8_of_39 : decode cX8_of 39 = .ok (.iload_n 2, 1) := by decide +kernel
theorem dX8_of_40 : decode cX8_of 40 = .ok (.tableswitch 50 0 2 #[28, 38, 48], 28) := by decide +kernel
theorem dX8_of_68 : decode cX8_of 68 = .ok (.aload_n 0, 1) := by decide +kernel
theorem dX8_of_69 : decode cX8_of 69 = .ok (.getfield 7, 3) := by decide +kernel
theorem dX8_of_72 : decode cX8_of 72 = .ok (.bipush 20, 2) := by decide +kernel
theorem dX8_of_74 : decode cX8_of 74 = .ok (.iload_n 1, 1) := by decide +kernel
theorem dX8_of_75 : decode cX8_of 75 = .ok (.iadd, 1) := by decide +kernel
theorem dX8_of_76 : decode cX8_of 76 = .ok (.iaload, 1) := by decide +kernel
theorem dX8_of_77 : decode cX8_of 77 = .ok (.ireturn, 1) := by decide +kernel
theorem dX8_of_78 : decode cX8_of 78 = .ok (.aload_n 0, 1) := by decide +kernel
theorem dX8_of_79 : decode cX8_of 79 = .ok (.getfield 7, 3) := by decide +kernel
theorem dX8_of_82 : decode cX8_of 82 = .ok (.bipush 28, 2) := by decide +kernel
theorem dX8_of_84 : decode cX8_of 84 = .ok (.iload_n 1, 1) := by decide +kernel
theorem dX8_of_85 : decode cX8_of 85 = .ok (.iadd, 1) := by decide +kernel
theorem dX8_of_86 : decode cX8_of 86 = .ok (.iaload, 1) := by decide +kernel
theorem dX8_of_87 : decode cX8_of 87 = .ok (.ireturn, 1) := by decide +kernel
theorem dX8_of_88 : decode cX8_of 88 = .ok (.iload_n 3, 1) := by decide +kernel
theorem dX8_of_89 : decode cX8_of 89 = .ok (.ireturn, 1) := by decide +kernel
theorem dX8_of_90 : decode cX8_of 90 = .ok (.iload_n 3, 1) := by decide +kernel
theorem dX8_of_91 : decode cX8_of 91 = .ok (.iconst (-1), 1) := by decide +kernel
theorem dX8_of_92 : decode cX8_of 92 = .ok (.if_icmp .ne 7, 3) := by decide +kernel
theorem dX8_of_95 : decode cX8_of 95 = .ok (.iconst (-1), 1) := by decide +kernel
theorem dX8_of_96 : decode cX8_of 96 = .ok (.goto 12, 3) := by decide +kernel
theorem dX8_of_99 : decode cX8_of 99 = .ok (.aload_n 0, 1) := by decide +kernel
theorem dX8_of_100 : decode cX8_of 100 = .ok (.getfield 7, 3) := by decide +kernel
theorem dX8_of_103 : decode cX8_of 103 = .ok (.iload_n 1, 1) := by decide +kernel
theorem dX8_of_104 : decode cX8_of 104 = .ok (.iload_n 3, 1) := by decide +kernel
theorem dX8_of_105 : decode cX8_of 105 = .ok (.invokestatic 104, 3) := by decide +kernel
theorem dX8_of_108 : decode cX8_of 108 = .ok (.ireturn, 1) := by decide +kernel
set_option maxRecDepth 20000 in
theorem ggX8_crewOf_X8_many : GoodIn wsX8_crewOf wsX8_many := goodIn_r _ [6, 1, 7, 8, 9, 10, 11, 12, 13, 14, 15, 16, 17, 18, 19, 20, 21, 22, 23, 24, 25] (by decide +kernel) (by decide +kernel)
set_option maxRecDepth 20000 in
theorem gX8_crewOf_X8_many : GoodIn wsX8_crewOf (wsV RX8 55 RX8 yX8_many wsX8_many) := goodIn_app (goodIn_of _ (by decide +kernel)) ggX8_crewOf_X8_many
theorem dX8_crewOf_0 : decode cX8_crewOf 0 = .ok (.iconst 0, 1) := by decide +kernel
theorem dX8_crewOf_1 : decode cX8_crewOf 1 = .ok (.istore_n 2, 1) := by decide +kernel
theorem dX8_crewOf_2 : decode cX8_crewOf 2 = .ok (.iconst 0, 1) := by decide +kernel
theorem dX8_crewOf_3 : decode cX8_crewOf 3 = .ok (.istore_n 3, 1) := by decide +kernel
theorem dX8_crewOf_4 : decode cX8_crewOf 4 = .ok (.iload_n 3, 1) := by decide +kernel
theorem dX8_crewOf_5 : decode cX8_crewOf 5 = .ok (.aload_n 0, 1) := by decide +kernel
theorem dX8_crewOf_6 : decode cX8_crewOf 6 = .ok (.invokevirtual 55, 3) := by decide +kernel
theorem dX8_crewOf_9 : decode cX8_crewOf 9 = .ok (.if_icmp .ge 34, 3) := by decide +kernel
theorem dX8_crewOf_12 : decode cX8_crewOf 12 = .ok (.iload_n 2, 1) := by decide +kernel
theorem dX8_crewOf_13 : decode cX8_crewOf 13 = .ok (.aload_n 0, 1) := by decide +kernel
theorem dX8_crewOf_14 : decode cX8_crewOf 14 = .ok (.getfield 7, 3) := by decide +kernel
theorem dX8_crewOf_17 : decode cX8_crewOf 17 = .ok (.bipush 6, 2) := by decide +kernel
theorem dX8_crewOf_19 : decode cX8_crewOf 19 = .ok (.iload_n 3, 1) := by decide +kernel
theorem dX8_crewOf_20 : decode cX8_crewOf 20 = .ok (.iadd, 1) := by decide +kernel
theorem dX8_crewOf_21 : decode cX8_crewOf 21 = .ok (.iaload, 1) := by decide +kernel
theorem dX8_crewOf_22 : decode cX8_crewOf 22 = .ok (.iload_n 1, 1) := by decide +kernel
theorem dX8_crewOf_23 : decode cX8_crewOf 23 = .ok (.iconst 1, 1) := by decide +kernel
theorem dX8_crewOf_24 : decode cX8_crewOf 24 = .ok (.iadd, 1) := by decide +kernel
theorem dX8_crewOf_25 : decode cX8_crewOf 25 = .ok (.if_icmp .ne 9, 3) := by decide +kernel
theorem dX8_crewOf_28 : decode cX8_crewOf 28 = .ok (.iconst 1, 1) := by decide +kernel
theorem dX8_crewOf_29 : decode cX8_crewOf 29 = .ok (.iload_n 3, 1) := by decide +kernel
theorem dX8_crewOf_30 : decode cX8_crewOf 30 = .ok (.ishl, 1) := by decide +kernel
theorem dX8_crewOf_31 : decode cX8_crewOf 31 = .ok (.goto 4, 3) := by decide +kernel
theorem dX8_crewOf_34 : decode cX8_crewOf 34 = .ok (.iconst 0, 1) := by decide +kernel
theorem dX8_crewOf_35 : decode cX8_crewOf 35 = .ok (.ior, 1) := by decide +kernel
theorem dX8_crewOf_36 : decode cX8_crewOf 36 = .ok (.istore_n 2, 1) := by decide +kernel
theorem dX8_crewOf_37 : decode cX8_crewOf 37 = .ok (.iinc 3 1, 3) := by decide +kernel
theorem dX8_crewOf_40 : decode cX8_crewOf 40 = .ok (.goto (-36), 3) := by decide +kernel
theorem dX8_crewOf_43 : decode cX8_crewOf 43 = .ok (.iload_n 2, 1) := by decide +kernel
theorem dX8_crewOf_44 : decode cX8_crewOf 44 = .ok (.ireturn, 1) := by decide +kernel
set_option maxRecDepth 20000 in
theorem ggX8_about_X8_isShip : GoodIn wsX8_about wsX8_isShip := goodIn_r _ [7, 2, 8, 9, 6, 10, 27, 28, 29, 30, 31, 32, 33, 34, 35, 36, 37, 38, 39, 40, 41, 42, 43, 44, 45] (by decide +kernel) (by decide +kernel)
set_option maxRecDepth 20000 in
theorem gX8_about_X8_isShip : GoodIn wsX8_about (wsV RX8 83 RX8 yX8_isShip wsX8_isShip) := goodIn_app (goodIn_of _ (by decide +kernel)) ggX8_about_X8_isShip
set_option maxRecDepth 20000 in
theorem ggX8_about_X8_in : GoodIn wsX8_about wsX8_in := goodIn_r _ [10] (by decide +kernel) (by decide +kernel)
set_option maxRecDepth 20000 in
theorem gX8_about_X8_in : GoodIn wsX8_about (va_wsS RX8 59 yX8_in wsX8_in) := goodIn_app (goodIn_of _ (by decide +kernel)) ggX8_about_X8_in
set_option maxRecDepth 20000 in
theorem ggX8_about_X8_bad : GoodIn wsX8_about wsX8_bad := goodIn_r _ [14, 15, 27, 28, 29, 30, 31, 32, 33, 34, 35, 36, 37, 38, 39, 40, 41, 42, 43, 44, 45] (by decide +kernel) (by decide +kernel)
set_option maxRecDepth 20000 in
theorem gX8_about_X8_bad : GoodIn wsX8_about (wsV RX8 73 RX8 yX8_bad wsX8_bad) := goodIn_app (goodIn_of _ (by decide +kernel)) ggX8_about_X8_bad
set_option maxRecDepth 20000 in
theorem ggX8_about_X8_crewOf : GoodIn wsX8_about wsX8_crewOf := goodIn_r _ [19, 2, 20, 21, 22, 6, 23, 27, 28, 29, 30, 31, 32, 33, 34, 35, 36, 37, 38, 39, 40, 41, 42, 43, 44, 45] (by decide +kernel) (by decide +kernel)
set_option maxRecDepth 20000 in
theorem gX8_about_X8_crewOf : GoodIn wsX8_about (wsV RX8 129 RX8 yX8_crewOf wsX8_crewOf) := goodIn_app (goodIn_of _ (by decide +kernel)) ggX8_about_X8_crewOf
set_option maxRecDepth 20000 in
theorem ggX8_about_X8_skillsIn : GoodIn wsX8_about wsX8_skillsIn := goodIn_r _ [26] (by decide +kernel) (by decide +kernel)
set_option maxRecDepth 20000 in
theorem gX8_about_X8_skillsIn : GoodIn wsX8_about (va_wsS RX8 94 yX8_skillsIn wsX8_skillsIn) := goodIn_app (goodIn_of _ (by decide +kernel)) ggX8_about_X8_skillsIn
theorem dX8_about_0 : decode cX8_about 0 = .ok (.aload_n 0, 1) := by decide +kernel
theorem dX8_about_1 : decode cX8_about 1 = .ok (.iload_n 1, 1) := by decide +kernel
theorem dX8_about_2 : decode cX8_about 2 = .ok (.invokevirtual 83, 3) := by decide +kernel
theorem dX8_about_5 : decode cX8_about 5 = .ok (.ifCond .eq 15, 3) := by decide +kernel
theorem dX8_about_8 : decode cX8_about 8 = .ok (.iload_n 2, 1) := by decide +kernel
theorem dX8_about_9 : decode cX8_about 9 = .ok (.i2l, 1) := by decide +kernel
theorem dX8_about_10 : decode cX8_about 10 = .ok (.lconst 0, 1) := by decide +kernel
theorem dX8_about_11 : decode cX8_about 11 = .ok (.ldc2_w 127, 3) := by decide +kernel
theorem dX8_about_14 : decode cX8_about 14 = .ok (.invokestatic 59, 3) := by decide +kernel
theorem dX8_about_17 : decode cX8_about 17 = .ok (.ifCond .ne 10, 3) := by decide +kernel
theorem dX8_about_20 : decode cX8_about 20 = .ok (.aload_n 0, 1) := by decide +kernel
theorem dX8_about_21 : decode cX8_about 21 = .ok (.bipush (-2), 2) := by decide +kernel
theorem dX8_about_23 : decode cX8_about 23 = .ok (.invokevirtual 73, 3) := by decide +kernel
theorem dX8_about_26 : decode cX8_about 26 = .ok (.ireturn, 1) := by decide +kernel
theorem dX8_about_27 : decode cX8_about 27 = .ok (.iload_n 2, 1) := by decide +kernel
theorem dX8_about_28 : decode cX8_about 28 = .ok (.tableswitch 54 0 2 #[28, 38, 48], 28) := by decide +kernel
theorem dX8_about_56 : decode cX8_about 56 = .ok (.aload_n 0, 1) := by decide +kernel
theorem dX8_about_57 : decode cX8_about 57 = .ok (.getfield 7, 3) := by decide +kernel
theorem dX8_about_60 : decode cX8_about 60 = .ok (.bipush 17, 2) := by decide +kernel
theorem dX8_about_62 : decode cX8_about 62 = .ok (.iload_n 1, 1) := by decide +kernel
theorem dX8_about_63 : decode cX8_about 63 = .ok (.iadd, 1) := by decide +kernel
theorem dX8_about_64 : decode cX8_about 64 = .ok (.iaload, 1) := by decide +kernel
theorem dX8_about_65 : decode cX8_about 65 = .ok (.ireturn, 1) := by decide +kernel
theorem dX8_about_66 : decode cX8_about 66 = .ok (.aload_n 0, 1) := by decide +kernel
theorem dX8_about_67 : decode cX8_about 67 = .ok (.getfield 7, 3) := by decide +kernel
theorem dX8_about_70 : decode cX8_about 70 = .ok (.bipush 14, 2) := by decide +kernel
theorem dX8_about_72 : decode cX8_about 72 = .ok (.iload_n 1, 1) := by decide +kernel
theorem dX8_about_73 : decode cX8_about 73 = .ok (.iadd, 1) := by decide +kernel
theorem dX8_about_74 : decode cX8_about 74 = .ok (.iaload, 1) := by decide +kernel
theorem dX8_about_75 : decode cX8_about 75 = .ok (.ireturn, 1) := by decide +kernel
theorem dX8_about_76 : decode cX8_about 76 = .ok (.aload_n 0, 1) := by decide +kernel
theorem dX8_about_77 : decode cX8_about 77 = .ok (.iload_n 1, 1) := by decide +kernel
theorem dX8_about_78 : decode cX8_about 78 = .ok (.invokevirtual 129, 3) := by decide +kernel
theorem dX8_about_81 : decode cX8_about 81 = .ok (.ireturn, 1) := by decide +kernel
theorem dX8_about_82 : decode cX8_about 82 = .ok (.aload_n 0, 1) := by decide +kernel
theorem dX8_about_83 : decode cX8_about 83 = .ok (.getfield 7, 3) := by decide +kernel
theorem dX8_about_86 : decode cX8_about 86 = .ok (.iload_n 1, 1) := by decide +kernel
theorem dX8_about_87 : decode cX8_about 87 = .ok (.iconst 1, 1) := by decide +kernel
theorem dX8_about_88 : decode cX8_about 88 = .ok (.iadd, 1) := by decide +kernel
theorem dX8_about_89 : decode cX8_about 89 = .ok (.invokestatic 94, 3) := by decide +kernel
theorem dX8_about_92 : decode cX8_about 92 = .ok (.ireturn, 1) := by decide +kernel
set_option maxRecDepth 20000 in
theorem ggX8_left_X8_isShip : GoodIn wsX8_left wsX8_isShip := goodIn_r _ [6, 1, 7, 8, 5, 9, 24, 25, 26, 27, 28, 29, 30, 31, 32, 33, 34, 35, 36, 37, 38, 39, 40, 41, 42] (by decide +kernel) (by decide +kernel)
set_option maxRecDepth 20000 in
theorem gX8_left_X8_isShip : GoodIn wsX8_left (wsV RX8 83 RX8 yX8_isShip wsX8_isShip) := goodIn_app (goodIn_of _ (by decide +kernel)) ggX8_left_X8_isShip
set_option maxRecDepth 20000 in
theorem ggX8_left_X8_leastOf : GoodIn wsX8_left wsX8_leastOf := goodIn_r _ [12, 13, 14, 5, 15, 16, 17, 18] (by decide +kernel) (by decide +kernel)
set_option maxRecDepth 20000 in
theorem gX8_left_X8_leastOf : GoodIn wsX8_left (va_wsS RX8 108 yX8_leastOf wsX8_leastOf) := goodIn_app (goodIn_of _ (by decide +kernel)) ggX8_left_X8_leastOf
set_option maxRecDepth 20000 in
theorem ggX8_left_X8_bad : GoodIn wsX8_left wsX8_bad := goodIn_r _ [22, 23, 24, 25, 26, 27, 28, 29, 30, 31, 32, 33, 34, 35, 36, 37, 38, 39, 40, 41, 42] (by decide +kernel) (by decide +kernel)
set_option maxRecDepth 20000 in
theorem gX8_left_X8_bad : GoodIn wsX8_left (wsV RX8 73 RX8 yX8_bad wsX8_bad) := goodIn_app (goodIn_of _ (by decide +kernel)) ggX8_left_X8_bad
theorem dX8_left_0 : decode cX8_left 0 = .ok (.aload_n 0, 1) := by decide +kernel
theorem dX8_left_1 : decode cX8_left 1 = .ok (.iload_n 1, 1) := by decide +kernel
theorem dX8_left_2 : decode cX8_left 2 = .ok (.invokevirtual 83, 3) := by decide +kernel
theorem dX8_left_5 : decode cX8_left 5 = .ok (.ifCond .eq 14, 3) := by decide +kernel
theorem dX8_left_8 : decode cX8_left 8 = .ok (.aload_n 0, 1) := by decide +kernel
theorem dX8_left_9 : decode cX8_left 9 = .ok (.getfield 7, 3) := by decide +kernel
theorem dX8_left_12 : decode cX8_left 12 = .ok (.iload_n 1, 1) := by decide +kernel
theorem dX8_left_13 : decode cX8_left 13 = .ok (.invokestatic 108, 3) := by decide +kernel
theorem dX8_left_16 : decode cX8_left 16 = .ok (.goto 9, 3) := by decide +kernel
theorem dX8_left_19 : decode cX8_left 19 = .ok (.aload_n 0, 1) := by decide +kernel
theorem dX8_left_20 : decode cX8_left 20 = .ok (.bipush (-2), 2) := by decide +kernel
theorem dX8_left_22 : decode cX8_left 22 = .ok (.invokevirtual 73, 3) := by decide +kernel
theorem dX8_left_25 : decode cX8_left 25 = .ok (.ireturn, 1) := by decide +kernel
set_option maxRecDepth 20000 in
theorem ggX8_needs_X8_isShip : GoodIn wsX8_needs wsX8_isShip := goodIn_r _ [6, 1, 7, 8, 5, 9, 25, 26, 27, 28, 29, 30, 31, 32, 33, 34, 35, 36, 37, 38, 39, 40, 41, 42, 43] (by decide +kernel) (by decide +kernel)
set_option maxRecDepth 20000 in
theorem gX8_needs_X8_isShip : GoodIn wsX8_needs (wsV RX8 83 RX8 yX8_isShip wsX8_isShip) := goodIn_app (goodIn_of _ (by decide +kernel)) ggX8_needs_X8_isShip
set_option maxRecDepth 20000 in
theorem ggX8_needs_X8_isFar : GoodIn wsX8_needs wsX8_isFar := goodIn_r _ [12, 13, 7, 8, 5, 9] (by decide +kernel) (by decide +kernel)
set_option maxRecDepth 20000 in
theorem gX8_needs_X8_isFar : GoodIn wsX8_needs (va_wsS RX8 132 yX8_isFar wsX8_isFar) := goodIn_app (goodIn_of _ (by decide +kernel)) ggX8_needs_X8_isFar
set_option maxRecDepth 20000 in
theorem ggX8_needs_X8_aboard : GoodIn wsX8_needs wsX8_aboard := goodIn_r _ [16] (by decide +kernel) (by decide +kernel)
set_option maxRecDepth 20000 in
theorem gX8_needs_X8_aboard : GoodIn wsX8_needs (va_wsS RX8 90 yX8_aboard wsX8_aboard) := goodIn_app (goodIn_of _ (by decide +kernel)) ggX8_needs_X8_aboard
set_option maxRecDepth 20000 in
theorem ggX8_needs_X8_needsAs : GoodIn wsX8_needs wsX8_needsAs := goodIn_r _ [19] (by decide +kernel) (by decide +kernel)
set_option maxRecDepth 20000 in
theorem gX8_needs_X8_needsAs : GoodIn wsX8_needs (va_wsS RX8 97 yX8_needsAs wsX8_needsAs) := goodIn_app (goodIn_of _ (by decide +kernel)) ggX8_needs_X8_needsAs
set_option maxRecDepth 20000 in
theorem ggX8_needs_X8_bad : GoodIn wsX8_needs wsX8_bad := goodIn_r _ [23, 24, 25, 26, 27, 28, 29, 30, 31, 32, 33, 34, 35, 36, 37, 38, 39, 40, 41, 42, 43] (by decide +kernel) (by decide +kernel)
set_option maxRecDepth 20000 in
theorem gX8_needs_X8_bad : GoodIn wsX8_needs (wsV RX8 73 RX8 yX8_bad wsX8_bad) := goodIn_app (goodIn_of _ (by decide +kernel)) ggX8_needs_X8_bad
theorem dX8_needs_0 : decode cX8_needs 0 = .ok (.aload_n 0, 1) := by decide +kernel
theorem dX8_needs_1 : decode cX8_needs 1 = .ok (.iload_n 1, 1) := by decide +kernel
theorem dX8_needs_2 : decode cX8_needs 2 = .ok (.invokevirtual 83, 3) := by decide +kernel
theorem dX8_needs_5 : decode cX8_needs 5 = .ok (.ifCond .eq 34, 3) := by decide +kernel
theorem dX8_needs_8 : decode cX8_needs 8 = .ok (.iload_n 2, 1) := by decide +kernel
theorem dX8_needs_9 : decode cX8_needs 9 = .ok (.invokestatic 132, 3) := by decide +kernel
theorem dX8_needs_12 : decode cX8_needs 12 = .ok (.ifCond .eq 27, 3) := by decide +kernel
theorem dX8_needs_15 : decode cX8_needs 15 = .ok (.aload_n 0, 1) := by decide +kernel
theorem dX8_needs_16 : decode cX8_needs 16 = .ok (.getfield 7, 3) := by decide +kernel
theorem dX8_needs_19 : decode cX8_needs 19 = .ok (.bipush 17, 2) := by decide +kernel
theorem dX8_needs_21 : decode cX8_needs 21 = .ok (.iload_n 1, 1) := by decide +kernel
theorem dX8_needs_22 : decode cX8_needs 22 = .ok (.iadd, 1) := by decide +kernel
theorem dX8_needs_23 : decode cX8_needs 23 = .ok (.iaload, 1) := by decide +kernel
theorem dX8_needs_24 : decode cX8_needs 24 = .ok (.iload_n 2, 1) := by decide +kernel
theorem dX8_needs_25 : decode cX8_needs 25 = .ok (.aload_n 0, 1) := by decide +kernel
theorem dX8_needs_26 : decode cX8_needs 26 = .ok (.getfield 7, 3) := by decide +kernel
theorem dX8_needs_29 : decode cX8_needs 29 = .ok (.iload_n 1, 1) := by decide +kernel
theorem dX8_needs_30 : decode cX8_needs 30 = .ok (.invokestatic 90, 3) := by decide +kernel
theorem dX8_needs_33 : decode cX8_needs 33 = .ok (.invokestatic 97, 3) := by decide +kernel
theorem dX8_needs_36 : decode cX8_needs 36 = .ok (.goto 9, 3) := by decide +kernel
theorem dX8_needs_39 : decode cX8_needs 39 = .ok (.aload_n 0, 1) := by decide +kernel
theorem dX8_needs_40 : decode cX8_needs 40 = .ok (.bipush (-2), 2) := by decide +kernel
theorem dX8_needs_42 : decode cX8_needs 42 = .ok (.invokevirtual 73, 3) := by decide +kernel
theorem dX8_needs_45 : decode cX8_needs 45 = .ok (.ireturn, 1) := by decide +kernel
set_option maxRecDepth 20000 in
theorem ggX8_far_X8_isShip : GoodIn wsX8_far wsX8_isShip := goodIn_r _ [6, 1, 7, 8, 5, 9, 27, 28, 29, 30, 31, 32, 33, 34, 35, 36, 37, 38, 39, 40, 41, 42, 43, 44, 45] (by decide +kernel) (by decide +kernel)
set_option maxRecDepth 20000 in
theorem gX8_far_X8_isShip : GoodIn wsX8_far (wsV RX8 83 RX8 yX8_isShip wsX8_isShip) := goodIn_app (goodIn_of _ (by decide +kernel)) ggX8_far_X8_isShip
set_option maxRecDepth 20000 in
theorem ggX8_far_X8_bad : GoodIn wsX8_far wsX8_bad := goodIn_r _ [13, 14, 27, 28, 29, 30, 31, 32, 33, 34, 35, 36, 37, 38, 39, 40, 41, 42, 43, 44, 45] (by decide +kernel) (by decide +kernel)
set_option maxRecDepth 20000 in
theorem gX8_far_X8_bad : GoodIn wsX8_far (wsV RX8 73 RX8 yX8_bad wsX8_bad) := goodIn_app (goodIn_of _ (by decide +kernel)) ggX8_far_X8_bad
set_option maxRecDepth 20000 in
theorem ggX8_far_X8_canSail : GoodIn wsX8_far wsX8_canSail := goodIn_r _ [17, 18, 19, 5, 20, 21, 22, 23, 24, 25, 26] (by decide +kernel) (by decide +kernel)
set_option maxRecDepth 20000 in
theorem gX8_far_X8_canSail : GoodIn wsX8_far (va_wsS RX8 135 yX8_canSail wsX8_canSail) := goodIn_app (goodIn_of _ (by decide +kernel)) ggX8_far_X8_canSail
theorem dX8_far_0 : decode cX8_far 0 = .ok (.aload_n 0, 1) := by decide +kernel
theorem dX8_far_1 : decode cX8_far 1 = .ok (.iload_n 1, 1) := by decide +kernel
theorem dX8_far_2 : decode cX8_far 2 = .ok (.invokevirtual 83, 3) := by decide +kernel
theorem dX8_far_5 : decode cX8_far 5 = .ok (.ifCond .ne 10, 3) := by decide +kernel
theorem dX8_far_8 : decode cX8_far 8 = .ok (.aload_n 0, 1) := by decide +kernel
theorem dX8_far_9 : decode cX8_far 9 = .ok (.bipush (-2), 2) := by decide +kernel
theorem dX8_far_11 : decode cX8_far 11 = .ok (.invokevirtual 73, 3) := by decide +kernel
theorem dX8_far_14 : decode cX8_far 14 = .ok (.ireturn, 1) := by decide +kernel
theorem dX8_far_15 : decode cX8_far 15 = .ok (.iconst 0, 1) := by decide +kernel
theorem dX8_far_16 : decode cX8_far 16 = .ok (.istore_n 2, 1) := by decide +kernel
theorem dX8_far_17 : decode cX8_far 17 = .ok (.iconst 1, 1) := by decide +kernel
theorem dX8_far_18 : decode cX8_far 18 = .ok (.istore_n 3, 1) := by decide +kernel
theorem dX8_far_19 : decode cX8_far 19 = .ok (.iload_n 3, 1) := by decide +kernel
theorem dX8_far_20 : decode cX8_far 20 = .ok (.bipush 30, 2) := by decide +kernel
theorem dX8_far_22 : decode cX8_far 22 = .ok (.if_icmp .gt 27, 3) := by decide +kernel
theorem dX8_far_25 : decode cX8_far 25 = .ok (.aload_n 0, 1) := by decide +kernel
theorem dX8_far_26 : decode cX8_far 26 = .ok (.getfield 7, 3) := by decide +kernel
theorem dX8_far_29 : decode cX8_far 29 = .ok (.iload_n 1, 1) := by decide +kernel
theorem dX8_far_30 : decode cX8_far 30 = .ok (.iload_n 3, 1) := by decide +kernel
theorem dX8_far_31 : decode cX8_far 31 = .ok (.invokestatic 135, 3) := by decide +kernel
theorem dX8_far_34 : decode cX8_far 34 = .ok (.ifCond .eq 7, 3) := by decide +kernel
theorem dX8_far_37 : decode cX8_far 37 = .ok (.iload_n 3, 1) := by decide +kernel
theorem dX8_far_38 : decode cX8_far 38 = .ok (.goto 4, 3) := by decide +kernel
theorem dX8_far_41 : decode cX8_far 41 = .ok (.iload_n 2, 1) := by decide +kernel
theorem dX8_far_42 : decode cX8_far 42 = .ok (.istore_n 2, 1) := by decide +kernel
theorem dX8_far_43 : decode cX8_far 43 = .ok (.iinc 3 1, 3) := by decide +kernel
theorem dX8_far_46 : decode cX8_far 46 = .ok (.goto (-27), 3) := by decide +kernel
theorem dX8_far_49 : decode cX8_far 49 = .ok (.iload_n 2, 1) := by decide +kernel
theorem dX8_far_50 : decode cX8_far 50 = .ok (.ireturn, 1) := by decide +kernel
theorem dX8_layHand_0 : decode cX8_layHand 0 = .ok (.iconst 0, 1) := by decide +kernel
theorem dX8_layHand_1 : decode cX8_layHand 1 = .ok (.istore_n 1, 1) := by decide +kernel
theorem dX8_layHand_2 : decode cX8_layHand 2 = .ok (.iload_n 1, 1) := by decide +kernel
theorem dX8_layHand_3 : decode cX8_layHand 3 = .ok (.bipush 36, 2) := by decide +kernel
theorem dX8_layHand_5 : decode cX8_layHand 5 = .ok (.if_icmp .ge 21, 3) := by decide +kernel
theorem dX8_layHand_8 : decode cX8_layHand 8 = .ok (.aload_n 0, 1) := by decide +kernel
theorem dX8_layHand_9 : decode cX8_layHand 9 = .ok (.getfield 27, 3) := by decide +kernel
theorem dX8_layHand_12 : decode cX8_layHand 12 = .ok (.iload_n 1, 1) := by decide +kernel
theorem dX8_layHand_13 : decode cX8_layHand 13 = .ok (.aload_n 0, 1) := by decide +kernel
theorem dX8_layHand_14 : decode cX8_layHand 14 = .ok (.getfield 7, 3) := by decide +kernel
theorem dX8_layHand_17 : decode cX8_layHand 17 = .ok (.iload_n 1, 1) := by decide +kernel
theorem dX8_layHand_18 : decode cX8_layHand 18 = .ok (.iaload, 1) := by decide +kernel
theorem dX8_layHand_19 : decode cX8_layHand 19 = .ok (.iastore, 1) := by decide +kernel
theorem dX8_layHand_20 : decode cX8_layHand 20 = .ok (.iinc 1 1, 3) := by decide +kernel
theorem dX8_layHand_23 : decode cX8_layHand 23 = .ok (.goto (-21), 3) := by decide +kernel
theorem dX8_layHand_26 : decode cX8_layHand 26 = .ok (.return_, 1) := by decide +kernel
set_option maxRecDepth 20000 in
theorem ggX8_behind_X8_isShip : GoodIn wsX8_behind wsX8_isShip := goodIn_r _ [7, 8, 9, 10, 6, 11, 33, 34, 35, 36, 37, 38, 39, 40, 41, 42, 43, 44, 45, 46, 47, 48, 49, 50, 51] (by decide +kernel) (by decide +kernel)
set_option maxRecDepth 20000 in
theorem gX8_behind_X8_isShip : GoodIn wsX8_behind (wsV RX8 83 RX8 yX8_isShip wsX8_isShip) := goodIn_app (goodIn_of _ (by decide +kernel)) ggX8_behind_X8_isShip
set_option maxRecDepth 20000 in
theorem ggX8_behind_X8_in : GoodIn wsX8_behind wsX8_in := goodIn_r _ [11] (by decide +kernel) (by decide +kernel)
set_option maxRecDepth 20000 in
theorem gX8_behind_X8_in : GoodIn wsX8_behind (va_wsS RX8 59 yX8_in wsX8_in) := goodIn_app (goodIn_of _ (by decide +kernel)) ggX8_behind_X8_in
set_option maxRecDepth 20000 in
theorem ggX8_behind_X8_bad : GoodIn wsX8_behind wsX8_bad := goodIn_r _ [15, 16, 33, 34, 35, 36, 37, 38, 39, 40, 41, 42, 43, 44, 45, 46, 47, 48, 49, 50, 51] (by decide +kernel) (by decide +kernel)
set_option maxRecDepth 20000 in
theorem gX8_behind_X8_bad : GoodIn wsX8_behind (wsV RX8 73 RX8 yX8_bad wsX8_bad) := goodIn_app (goodIn_of _ (by decide +kernel)) ggX8_behind_X8_bad
set_option maxRecDepth 20000 in
theorem ggX8_behind_X8_layHand : GoodIn wsX8_behind wsX8_layHand := goodIn_r _ [20, 2, 8, 33, 34, 35, 36, 37, 38, 39, 40, 41, 42, 43, 44, 45, 46, 47, 48, 49, 50, 51] (by decide +kernel) (by decide +kernel)
set_option maxRecDepth 20000 in
theorem gX8_behind_X8_layHand : GoodIn wsX8_behind (wsV RX8 141 RX8 yX8_layHand wsX8_layHand) := goodIn_app (goodIn_of _ (by decide +kernel)) ggX8_behind_X8_layHand
set_option maxRecDepth 20000 in
theorem ggX8_behind_X8_goCall : GoodIn wsX8_behind wsX8_goCall := goodIn_r _ [23, 24, 25, 6, 26, 27, 28, 29, 30, 31, 32] (by decide +kernel) (by decide +kernel)
set_option maxRecDepth 20000 in
theorem gX8_behind_X8_goCall : GoodIn wsX8_behind (va_wsS RX8 117 yX8_goCall wsX8_goCall) := goodIn_app (goodIn_of _ (by decide +kernel)) ggX8_behind_X8_goCall
theorem dX8_behind_0 : decode cX8_behind 0 = .ok (.aload_n 0, 1) := by decide +kernel
theorem dX8_behind_1 : decode cX8_behind 1 = .ok (.iload_n 1, 1) := by decide +kernel
theorem dX8_behind_2 : decode cX8_behind 2 = .ok (.invokevirtual 83, 3) := by decide +kernel
theorem dX8_behind_5 : decode cX8_behind 5 = .ok (.ifCond .eq 15, 3) := by decide +kernel
theorem dX8_behind_8 : decode cX8_behind 8 = .ok (.iload_n 2, 1) := by decide +kernel
theorem dX8_behind_9 : decode cX8_behind 9 = .ok (.i2l, 1) := by decide +kernel
theorem dX8_behind_10 : decode cX8_behind 10 = .ok (.lconst 1, 1) := by decide +kernel
theorem dX8_behind_11 : decode cX8_behind 11 = .ok (.ldc2_w 139, 3) := by decide +kernel
theorem dX8_behind_14 : decode cX8_behind 14 = .ok (.invokestatic 59, 3) := by decide +kernel
theorem dX8_behind_17 : decode cX8_behind 17 = .ok (.ifCond .ne 10, 3) := by decide +kernel
theorem dX8_behind_20 : decode cX8_behind 20 = .ok (.aload_n 0, 1) := by decide +kernel
theorem dX8_behind_21 : decode cX8_behind 21 = .ok (.bipush (-2), 2) := by decide +kernel
theorem dX8_behind_23 : decode cX8_behind 23 = .ok (.invokevirtual 73, 3) := by decide +kernel
theorem dX8_behind_26 : decode cX8_behind 26 = .ok (.ireturn, 1) := by decide +kernel
theorem dX8_behind_27 : decode cX8_behind 27 = .ok (.iconst (-1), 1) := by decide +kernel
theorem dX8_behind_28 : decode cX8_behind 28 = .ok (.istore_n 3, 1) := by decide +kernel
theorem dX8_behind_29 : decode cX8_behind 29 = .ok (.aload_n 0, 1) := by decide +kernel
theorem dX8_behind_30 : decode cX8_behind 30 = .ok (.invokevirtual 141, 3) := by decide +kernel
theorem dX8_behind_33 : decode cX8_behind 33 = .ok (.iconst 0, 1) := by decide +kernel
theorem dX8_behind_34 : decode cX8_behind 34 = .ok (.istore 4, 2) := by decide +kernel
theorem dX8_behind_36 : decode cX8_behind 36 = .ok (.iload 4, 2) := by decide +kernel
theorem dX8_behind_38 : decode cX8_behind 38 = .ok (.iload_n 2, 1) := by decide +kernel
theorem dX8_behind_39 : decode cX8_behind 39 = .ok (.if_icmp .ge 18, 3) := by decide +kernel
theorem dX8_behind_42 : decode cX8_behind 42 = .ok (.aload_n 0, 1) := by decide +kernel
theorem dX8_behind_43 : decode cX8_behind 43 = .ok (.getfield 27, 3) := by decide +kernel
theorem dX8_behind_46 : decode cX8_behind 46 = .ok (.iload_n 1, 1) := by decide +kernel
theorem dX8_behind_47 : decode cX8_behind 47 = .ok (.invokestatic 117, 3) := by decide +kernel
theorem dX8_behind_50 : decode cX8_behind 50 = .ok (.istore_n 3, 1) := by decide +kernel
theorem dX8_behind_51 : decode cX8_behind 51 = .ok (.iinc 4 1, 3) := by decide +kernel
theorem dX8_behind_54 : decode cX8_behind 54 = .ok (.goto (-18), 3) := by decide +kernel
theorem dX8_behind_57 : decode cX8_behind 57 = .ok (.iload_n 3, 1) := by decide +kernel
theorem dX8_behind_58 : decode cX8_behind 58 = .ok (.ireturn, 1) := by decide +kernel
set_option maxRecDepth 20000 in
theorem ggX8_lasts_X8_isShip : GoodIn wsX8_lasts wsX8_isShip := goodIn_r _ [6, 7, 8, 9, 5, 10, 48, 49, 50, 51, 52, 53, 54, 55, 56, 57, 58, 59, 60, 61, 62, 63, 64, 65, 66] (by decide +kernel) (by decide +kernel)
set_option maxRecDepth 20000 in
theorem gX8_lasts_X8_isShip : GoodIn wsX8_lasts (wsV RX8 83 RX8 yX8_isShip wsX8_isShip) := goodIn_app (goodIn_of _ (by decide +kernel)) ggX8_lasts_X8_isShip
set_option maxRecDepth 20000 in
theorem ggX8_lasts_X8_isFar : GoodIn wsX8_lasts wsX8_isFar := goodIn_r _ [13, 14, 8, 9, 5, 10] (by decide +kernel) (by decide +kernel)
set_option maxRecDepth 20000 in
theorem gX8_lasts_X8_isFar : GoodIn wsX8_lasts (va_wsS RX8 132 yX8_isFar wsX8_isFar) := goodIn_app (goodIn_of _ (by decide +kernel)) ggX8_lasts_X8_isFar
set_option maxRecDepth 20000 in
theorem ggX8_lasts_X8_bad : GoodIn wsX8_lasts wsX8_bad := goodIn_r _ [18, 19, 48, 49, 50, 51, 52, 53, 54, 55, 56, 57, 58, 59, 60, 61, 62, 63, 64, 65, 66] (by decide +kernel) (by decide +kernel)
set_option maxRecDepth 20000 in
theorem gX8_lasts_X8_bad : GoodIn wsX8_lasts (wsV RX8 73 RX8 yX8_bad wsX8_bad) := goodIn_app (goodIn_of _ (by decide +kernel)) ggX8_lasts_X8_bad
set_option maxRecDepth 20000 in
theorem ggX8_lasts_X8_layHand : GoodIn wsX8_lasts wsX8_layHand := goodIn_r _ [23, 1, 7, 48, 49, 50, 51, 52, 53, 54, 55, 56, 57, 58, 59, 60, 61, 62, 63, 64, 65, 66] (by decide +kernel) (by decide +kernel)
set_option maxRecDepth 20000 in
theorem gX8_lasts_X8_layHand : GoodIn wsX8_lasts (wsV RX8 141 RX8 yX8_layHand wsX8_layHand) := goodIn_app (goodIn_of _ (by decide +kernel)) ggX8_lasts_X8_layHand
set_option maxRecDepth 20000 in
theorem ggX8_lasts_X8_canSail : GoodIn wsX8_lasts wsX8_canSail := goodIn_r _ [26, 27, 28, 5, 29, 30, 31, 32, 33, 34, 35] (by decide +kernel) (by decide +kernel)
set_option maxRecDepth 20000 in
theorem gX8_lasts_X8_canSail : GoodIn wsX8_lasts (va_wsS RX8 135 yX8_canSail wsX8_canSail) := goodIn_app (goodIn_of _ (by decide +kernel)) ggX8_lasts_X8_canSail
set_option maxRecDepth 20000 in
theorem ggX8_lasts_X8_goCall : GoodIn wsX8_lasts wsX8_goCall := goodIn_r _ [38, 39, 40, 5, 41, 42, 43, 44, 45, 46, 47] (by decide +kernel) (by decide +kernel)
set_option maxRecDepth 20000 in
theorem gX8_lasts_X8_goCall : GoodIn wsX8_lasts (va_wsS RX8 117 yX8_goCall wsX8_goCall) := goodIn_app (goodIn_of _ (by decide +kernel)) ggX8_lasts_X8_goCall
theorem dX8_lasts_0 : decode cX8_lasts 0 = .ok (.aload_n 0, 1) := by decide +kernel
theorem dX8_lasts_1 : decode cX8_lasts 1 = .ok (.iload_n 1, 1) := by decide +kernel
theorem dX8_lasts_2 : decode cX8_lasts 2 = .ok (.invokevirtual 83, 3) := by decide +kernel
theorem dX8_lasts_5 : decode cX8_lasts 5 = .ok (.ifCond .eq 10, 3) := by decide +kernel
theorem dX8_lasts_8 : decode cX8_lasts 8 = .ok (.iload_n 2, 1) := by decide +kernel
theorem dX8_lasts_9 : decode cX8_lasts 9 = .ok (.invokestatic 132, 3) := by decide +kernel
theorem dX8_lasts_12 : decode cX8_lasts 12 = .ok (.ifCond .ne 10, 3) := by decide +kernel
theorem dX8_lasts_15 : decode cX8_lasts 15 = .ok (.aload_n 0, 1) := by decide +kernel
theorem dX8_lasts_16 : decode cX8_lasts 16 = .ok (.bipush (-2), 2) := by decide +kernel
theorem dX8_lasts_18 : decode cX8_lasts 18 = .ok (.invokevirtual 73, 3) := by decide +kernel
theorem dX8_lasts_21 : decode cX8_lasts 21 = .ok (.ireturn, 1) := by decide +kernel
theorem dX8_lasts_22 : decode cX8_lasts 22 = .ok (.iconst 0, 1) := by decide +kernel
theorem dX8_lasts_23 : decode cX8_lasts 23 = .ok (.istore_n 3, 1) := by decide +kernel
theorem dX8_lasts_24 : decode cX8_lasts 24 = .ok (.aload_n 0, 1) := by decide +kernel
theorem dX8_lasts_25 : decode cX8_lasts 25 = .ok (.invokevirtual 141, 3) := by decide +kernel
theorem dX8_lasts_28 : decode cX8_lasts 28 = .ok (.aload_n 0, 1) := by decide +kernel
theorem dX8_lasts_29 : decode cX8_lasts 29 = .ok (.getfield 27, 3) := by decide +kernel
theorem dX8_lasts_32 : decode cX8_lasts 32 = .ok (.iload_n 1, 1) := by decide +kernel
theorem dX8_lasts_33 : decode cX8_lasts 33 = .ok (.iload_n 2, 1) := by decide +kernel
theorem dX8_lasts_34 : decode cX8_lasts 34 = .ok (.invokestatic 135, 3) := by decide +kernel
theorem dX8_lasts_37 : decode cX8_lasts 37 = .ok (.ifCond .eq 19, 3) := by decide +kernel
theorem dX8_lasts_40 : decode cX8_lasts 40 = .ok (.aload_n 0, 1) := by decide +kernel
theorem dX8_lasts_41 : decode cX8_lasts 41 = .ok (.getfield 27, 3) := by decide +kernel
theorem dX8_lasts_44 : decode cX8_lasts 44 = .ok (.iload_n 1, 1) := by decide +kernel
theorem dX8_lasts_45 : decode cX8_lasts 45 = .ok (.invokestatic 117, 3) := by decide +kernel
theorem dX8_lasts_48 : decode cX8_lasts 48 = .ok (.istore 4, 2) := by decide +kernel
theorem dX8_lasts_50 : decode cX8_lasts 50 = .ok (.iinc 3 1, 3) := by decide +kernel
theorem dX8_lasts_53 : decode cX8_lasts 53 = .ok (.goto (-25), 3) := by decide +kernel
theorem dX8_lasts_56 : decode cX8_lasts 56 = .ok (.iload_n 3, 1) := by decide +kernel
theorem dX8_lasts_57 : decode cX8_lasts 57 = .ok (.ireturn, 1) := by decide +kernel
set_option maxRecDepth 20000 in
theorem ggX8_ashoreBy_X8_layHand : GoodIn wsX8_ashoreBy wsX8_layHand := goodIn_r _ [8, 3, 2, 27, 28, 29, 30, 31, 32, 33, 34, 35, 36, 37, 38, 39, 40, 41, 42, 43, 44, 45] (by decide +kernel) (by decide +kernel)
set_option maxRecDepth 20000 in
theorem gX8_ashoreBy_X8_layHand : GoodIn wsX8_ashoreBy (wsV RX8 141 RX8 yX8_layHand wsX8_layHand) := goodIn_app (goodIn_of _ (by decide +kernel)) ggX8_ashoreBy_X8_layHand
set_option maxRecDepth 20000 in
theorem ggX8_ashoreBy_X8_aboard : GoodIn wsX8_ashoreBy wsX8_aboard := goodIn_r _ [11] (by decide +kernel) (by decide +kernel)
set_option maxRecDepth 20000 in
theorem gX8_ashoreBy_X8_aboard : GoodIn wsX8_ashoreBy (va_wsS RX8 90 yX8_aboard wsX8_aboard) := goodIn_app (goodIn_of _ (by decide +kernel)) ggX8_ashoreBy_X8_aboard
set_option maxRecDepth 20000 in
theorem ggX8_ashoreBy_X8_goCall : GoodIn wsX8_ashoreBy wsX8_goCall := goodIn_r _ [14, 15, 16, 7, 17, 18, 19, 20, 21, 22, 23] (by decide +kernel) (by decide +kernel)
set_option maxRecDepth 20000 in
theorem gX8_ashoreBy_X8_goCall : GoodIn wsX8_ashoreBy (va_wsS RX8 117 yX8_goCall wsX8_goCall) := goodIn_app (goodIn_of _ (by decide +kernel)) ggX8_ashoreBy_X8_goCall
set_option maxRecDepth 20000 in
theorem ggX8_ashoreBy_X8_skillsIn : GoodIn wsX8_ashoreBy wsX8_skillsIn := goodIn_r _ [26] (by decide +kernel) (by decide +kernel)
set_option maxRecDepth 20000 in
theorem gX8_ashoreBy_X8_skillsIn : GoodIn wsX8_ashoreBy (va_wsS RX8 94 yX8_skillsIn wsX8_skillsIn) := goodIn_app (goodIn_of _ (by decide +kernel)) ggX8_ashoreBy_X8_skillsIn
theorem dX8_ashoreBy_0 : decode cX8_ashoreBy 0 = .ok (.aload_n 0, 1) := by decide +kernel
theorem dX8_ashoreBy_1 : decode cX8_ashoreBy 1 = .ok (.invokevirtual 141, 3) := by decide +kernel
theorem dX8_ashoreBy_4 : decode cX8_ashoreBy 4 = .ok (.aload_n 0, 1) := by decide +kernel
theorem dX8_ashoreBy_5 : decode cX8_ashoreBy 5 = .ok (.getfield 30, 3) := by decide +kernel
theorem dX8_ashoreBy_8 : decode cX8_ashoreBy 8 = .ok (.iconst 0, 1) := by decide +kernel
theorem dX8_ashoreBy_9 : decode cX8_ashoreBy 9 = .ok (.iload_n 1, 1) := by decide +kernel
theorem dX8_ashoreBy_10 : decode cX8_ashoreBy 10 = .ok (.bipush 81, 2) := by decide +kernel
theorem dX8_ashoreBy_12 : decode cX8_ashoreBy 12 = .ok (.idiv, 1) := by decide +kernel
theorem dX8_ashoreBy_13 : decode cX8_ashoreBy 13 = .ok (.iastore, 1) := by decide +kernel
theorem dX8_ashoreBy_14 : decode cX8_ashoreBy 14 = .ok (.aload_n 0, 1) := by decide +kernel
theorem dX8_ashoreBy_15 : decode cX8_ashoreBy 15 = .ok (.getfield 30, 3) := by decide +kernel
theorem dX8_ashoreBy_18 : decode cX8_ashoreBy 18 = .ok (.iconst 1, 1) := by decide +kernel
theorem dX8_ashoreBy_19 : decode cX8_ashoreBy 19 = .ok (.iload_n 1, 1) := by decide +kernel
theorem dX8_ashoreBy_20 : decode cX8_ashoreBy 20 = .ok (.bipush 9, 2) := by decide +kernel
theorem dX8_ashoreBy_22 : decode cX8_ashoreBy 22 = .ok (.idiv, 1) := by decide +kernel
theorem dX8_ashoreBy_23 : decode cX8_ashoreBy 23 = .ok (.bipush 9, 2) := by decide +kernel
theorem dX8_ashoreBy_25 : decode cX8_ashoreBy 25 = .ok (.irem, 1) := by decide +kernel
theorem dX8_ashoreBy_26 : decode cX8_ashoreBy 26 = .ok (.iastore, 1) := by decide +kernel
theorem dX8_ashoreBy_27 : decode cX8_ashoreBy 27 = .ok (.aload_n 0, 1) := by decide +kernel
theorem dX8_ashoreBy_28 : decode cX8_ashoreBy 28 = .ok (.getfield 30, 3) := by decide +kernel
theorem dX8_ashoreBy_31 : decode cX8_ashoreBy 31 = .ok (.iconst 2, 1) := by decide +kernel
theorem dX8_ashoreBy_32 : decode cX8_ashoreBy 32 = .ok (.iload_n 1, 1) := by decide +kernel
theorem dX8_ashoreBy_33 : decode cX8_ashoreBy 33 = .ok (.bipush 9, 2) := by decide +kernel
theorem dX8_ashoreBy_35 : decode cX8_ashoreBy 35 = .ok (.irem, 1) := by decide +kernel
theorem dX8_ashoreBy_36 : decode cX8_ashoreBy 36 = .ok (.iastore, 1) := by decide +kernel
theorem dX8_ashoreBy_37 : decode cX8_ashoreBy 37 = .ok (.iconst 0, 1) := by decide +kernel
theorem dX8_ashoreBy_38 : decode cX8_ashoreBy 38 = .ok (.istore_n 2, 1) := by decide +kernel
theorem dX8_ashoreBy_39 : decode cX8_ashoreBy 39 = .ok (.iload_n 2, 1) := by decide +kernel
theorem dX8_ashoreBy_40 : decode cX8_ashoreBy 40 = .ok (.iconst 3, 1) := by decide +kernel
theorem dX8_ashoreBy_41 : decode cX8_ashoreBy 41 = .ok (.if_icmp .ge 75, 3) := by decide +kernel
theorem dX8_ashoreBy_44 : decode cX8_ashoreBy 44 = .ok (.aload_n 0, 1) := by decide +kernel
theorem dX8_ashoreBy_45 : decode cX8_ashoreBy 45 = .ok (.getfield 30, 3) := by decide +kernel
theorem dX8_ashoreBy_48 : decode cX8_ashoreBy 48 = .ok (.iload_n 2, 1) := by decide +kernel
theorem dX8_ashoreBy_49 : decode cX8_ashoreBy 49 = .ok (.iaload, 1) := by decide +kernel
theorem dX8_ashoreBy_50 : decode cX8_ashoreBy 50 = .ok (.ifCond .le 32, 3) := by decide +kernel
theorem dX8_ashoreBy_53 : decode cX8_ashoreBy 53 = .ok (.iload_n 2, 1) := by decide +kernel
theorem dX8_ashoreBy_54 : decode cX8_ashoreBy 54 = .ok (.aload_n 0, 1) := by decide +kernel
theorem dX8_ashoreBy_55 : decode cX8_ashoreBy 55 = .ok (.getfield 7, 3) := by decide +kernel
theorem dX8_ashoreBy_58 : decode cX8_ashoreBy 58 = .ok (.iconst 1, 1) := by decide +kernel
theorem dX8_ashoreBy_59 : decode cX8_ashoreBy 59 = .ok (.iaload, 1) := by decide +kernel
theorem dX8_ashoreBy_60 : decode cX8_ashoreBy 60 = .ok (.if_icmp .ge 20, 3) := by decide +kernel
theorem dX8_ashoreBy_63 : decode cX8_ashoreBy 63 = .ok (.aload_n 0, 1) := by decide +kernel
theorem dX8_ashoreBy_64 : decode cX8_ashoreBy 64 = .ok (.getfield 30, 3) := by decide +kernel
theorem dX8_ashoreBy_67 : decode cX8_ashoreBy 67 = .ok (.iload_n 2, 1) := by decide +kernel
theorem dX8_ashoreBy_68 : decode cX8_ashoreBy 68 = .ok (.iaload, 1) := by decide +kernel
theorem dX8_ashoreBy_69 : decode cX8_ashoreBy 69 = .ok (.aload_n 0, 1) := by decide +kernel
theorem dX8_ashoreBy_70 : decode cX8_ashoreBy 70 = .ok (.getfield 7, 3) := by decide +kernel
theorem dX8_ashoreBy_73 : decode cX8_ashoreBy 73 = .ok (.iload_n 2, 1) := by decide +kernel
theorem dX8_ashoreBy_74 : decode cX8_ashoreBy 74 = .ok (.invokestatic 90, 3) := by decide +kernel
theorem dX8_ashoreBy_77 : decode cX8_ashoreBy 77 = .ok (.if_icmp .le 5, 3) := by decide +kernel
theorem dX8_ashoreBy_80 : decode cX8_ashoreBy 80 = .ok (.iconst (-1), 1) := by decide +kernel
theorem dX8_ashoreBy_81 : decode cX8_ashoreBy 81 = .ok (.ireturn, 1) := by decide +kernel
theorem dX8_ashoreBy_82 : decode cX8_ashoreBy 82 = .ok (.iconst 0, 1) := by decide +kernel
theorem dX8_ashoreBy_83 : decode cX8_ashoreBy 83 = .ok (.istore_n 3, 1) := by decide +kernel
theorem dX8_ashoreBy_84 : decode cX8_ashoreBy 84 = .ok (.iload_n 3, 1) := by decide +kernel
theorem dX8_ashoreBy_85 : decode cX8_ashoreBy 85 = .ok (.aload_n 0, 1) := by decide +kernel
theorem dX8_ashoreBy_86 : decode cX8_ashoreBy 86 = .ok (.getfield 30, 3) := by decide +kernel
theorem dX8_ashoreBy_89 : decode cX8_ashoreBy 89 = .ok (.iload_n 2, 1) := by decide +kernel
theorem dX8_ashoreBy_90 : decode cX8_ashoreBy 90 = .ok (.iaload, 1) := by decide +kernel
theorem dX8_ashoreBy_91 : decode cX8_ashoreBy 91 = .ok (.if_icmp .ge 19, 3) := by decide +kernel
theorem dX8_ashoreBy_94 : decode cX8_ashoreBy 94 = .ok (.aload_n 0, 1) := by decide +kernel
theorem dX8_ashoreBy_95 : decode cX8_ashoreBy 95 = .ok (.getfield 27, 3) := by decide +kernel
theorem dX8_ashoreBy_98 : decode cX8_ashoreBy 98 = .ok (.iload_n 2, 1) := by decide +kernel
theorem dX8_ashoreBy_99 : decode cX8_ashoreBy 99 = .ok (.invokestatic 117, 3) := by decide +kernel
theorem dX8_ashoreBy_102 : decode cX8_ashoreBy 102 = .ok (.istore 4, 2) := by decide +kernel
theorem dX8_ashoreBy_104 : decode cX8_ashoreBy 104 = .ok (.iinc 3 1, 3) := by decide +kernel
theorem dX8_ashoreBy_107 : decode cX8_ashoreBy 107 = .ok (.goto (-23), 3) := by decide +kernel
theorem dX8_ashoreBy_110 : decode cX8_ashoreBy 110 = .ok (.iinc 2 1, 3) := by decide +kernel
theorem dX8_ashoreBy_113 : decode cX8_ashoreBy 113 = .ok (.goto (-74), 3) := by decide +kernel
theorem dX8_ashoreBy_116 : decode cX8_ashoreBy 116 = .ok (.aload_n 0, 1) := by decide +kernel
theorem dX8_ashoreBy_117 : decode cX8_ashoreBy 117 = .ok (.getfield 27, 3) := by decide +kernel
theorem dX8_ashoreBy_120 : decode cX8_ashoreBy 120 = .ok (.iconst 0, 1) := by decide +kernel
theorem dX8_ashoreBy_121 : decode cX8_ashoreBy 121 = .ok (.invokestatic 94, 3) := by decide +kernel
theorem dX8_ashoreBy_124 : decode cX8_ashoreBy 124 = .ok (.ireturn, 1) := by decide +kernel
set_option maxRecDepth 20000 in
theorem ggX8_few_X8_in : GoodIn wsX8_few wsX8_in := goodIn_r _ [8] (by decide +kernel) (by decide +kernel)
set_option maxRecDepth 20000 in
theorem gX8_few_X8_in : GoodIn wsX8_few (va_wsS RX8 59 yX8_in wsX8_in) := goodIn_app (goodIn_of _ (by decide +kernel)) ggX8_few_X8_in
set_option maxRecDepth 20000 in
theorem ggX8_few_X8_isShip : GoodIn wsX8_few wsX8_isShip := goodIn_r _ [12, 13, 5, 6, 7, 8, 46, 47, 48, 49, 50, 51, 52, 53, 54, 55, 56, 57, 58, 59, 60, 61, 62, 63, 64] (by decide +kernel) (by decide +kernel)
set_option maxRecDepth 20000 in
theorem gX8_few_X8_isShip : GoodIn wsX8_few (wsV RX8 83 RX8 yX8_isShip wsX8_isShip) := goodIn_app (goodIn_of _ (by decide +kernel)) ggX8_few_X8_isShip
set_option maxRecDepth 20000 in
theorem ggX8_few_X8_bad : GoodIn wsX8_few wsX8_bad := goodIn_r _ [17, 18, 46, 47, 48, 49, 50, 51, 52, 53, 54, 55, 56, 57, 58, 59, 60, 61, 62, 63, 64] (by decide +kernel) (by decide +kernel)
set_option maxRecDepth 20000 in
theorem gX8_few_X8_bad : GoodIn wsX8_few (wsV RX8 73 RX8 yX8_bad wsX8_bad) := goodIn_app (goodIn_of _ (by decide +kernel)) ggX8_few_X8_bad
set_option maxRecDepth 20000 in
theorem ggX8_few_X8_ashoreBy : GoodIn wsX8_few wsX8_ashoreBy := goodIn_r _ [22, 3, 13, 23, 24, 25, 26, 7, 27, 28, 29, 30, 31, 32, 33, 34, 35, 36, 37, 38, 39, 40, 41, 42, 43, 44, 45, 46, 47, 48, 49, 50, 51, 52, 53, 54, 55, 56, 57, 58, 59, 60, 61, 62, 63, 64] (by decide +kernel) (by decide +kernel)
set_option maxRecDepth 20000 in
theorem gX8_few_X8_ashoreBy : GoodIn wsX8_few (wsV RX8 147 RX8 yX8_ashoreBy wsX8_ashoreBy) := goodIn_app (goodIn_of _ (by decide +kernel)) ggX8_few_X8_ashoreBy
theorem dX8_few_0 : decode cX8_few 0 = .ok (.iload_n 1, 1) := by decide +kernel
theorem dX8_few_1 : decode cX8_few 1 = .ok (.i2l, 1) := by decide +kernel
theorem dX8_few_2 : decode cX8_few 2 = .ok (.lconst 1, 1) := by decide +kernel
theorem dX8_few_3 : decode cX8_few 3 = .ok (.ldc2_w 144, 3) := by decide +kernel
theorem dX8_few_6 : decode cX8_few 6 = .ok (.invokestatic 59, 3) := by decide +kernel
theorem dX8_few_9 : decode cX8_few 9 = .ok (.ifCond .eq 16, 3) := by decide +kernel
theorem dX8_few_12 : decode cX8_few 12 = .ok (.iload_n 2, 1) := by decide +kernel
theorem dX8_few_13 : decode cX8_few 13 = .ok (.iconst (-1), 1) := by decide +kernel
theorem dX8_few_14 : decode cX8_few 14 = .ok (.if_icmp .eq 18, 3) := by decide +kernel
theorem dX8_few_17 : decode cX8_few 17 = .ok (.aload_n 0, 1) := by decide +kernel
theorem dX8_few_18 : decode cX8_few 18 = .ok (.iload_n 2, 1) := by decide +kernel
theorem dX8_few_19 : decode cX8_few 19 = .ok (.invokevirtual 83, 3) := by decide +kernel
theorem dX8_few_22 : decode cX8_few 22 = .ok (.ifCond .ne 10, 3) := by decide +kernel
theorem dX8_few_25 : decode cX8_few 25 = .ok (.aload_n 0, 1) := by decide +kernel
theorem dX8_few_26 : decode cX8_few 26 = .ok (.bipush (-10), 2) := by decide +kernel
theorem dX8_few_28 : decode cX8_few 28 = .ok (.invokevirtual 73, 3) := by decide +kernel
theorem dX8_few_31 : decode cX8_few 31 = .ok (.ireturn, 1) := by decide +kernel
theorem dX8_few_32 : decode cX8_few 32 = .ok (.ldc 146, 2) := by decide +kernel
theorem dX8_few_34 : decode cX8_few 34 = .ok (.istore_n 3, 1) := by decide +kernel
theorem dX8_few_35 : decode cX8_few 35 = .ok (.iconst 0, 1) := by decide +kernel
theorem dX8_few_36 : decode cX8_few 36 = .ok (.istore 4, 2) := by decide +kernel
theorem dX8_few_38 : decode cX8_few 38 = .ok (.iload 4, 2) := by decide +kernel
theorem dX8_few_40 : decode cX8_few 40 = .ok (.sipush 729, 3) := by decide +kernel
theorem dX8_few_43 : decode cX8_few 43 = .ok (.if_icmp .ge 91, 3) := by decide +kernel
theorem dX8_few_46 : decode cX8_few 46 = .ok (.aload_n 0, 1) := by decide +kernel
theorem dX8_few_47 : decode cX8_few 47 = .ok (.iload 4, 2) := by decide +kernel
theorem dX8_few_49 : decode cX8_few 49 = .ok (.invokevirtual 147, 3) := by decide +kernel
theorem dX8_few_52 : decode cX8_few 52 = .ok (.iload_n 1, 1) := by decide +kernel
theorem dX8_few_53 : decode cX8_few 53 = .ok (.if_icmp .lt 7, 3) := by decide +kernel
theorem dX8_few_56 : decode cX8_few 56 = .ok (.iconst 1, 1) := by decide +kernel
theorem dX8_few_57 : decode cX8_few 57 = .ok (.goto 4, 3) := by decide +kernel
theorem dX8_few_60 : decode cX8_few 60 = .ok (.iconst 0, 1) := by decide +kernel
theorem dX8_few_61 : decode cX8_few 61 = .ok (.istore 5, 2) := by decide +kernel
theorem dX8_few_63 : decode cX8_few 63 = .ok (.aload_n 0, 1) := by decide +kernel
theorem dX8_few_64 : decode cX8_few 64 = .ok (.getfield 30, 3) := by decide +kernel
theorem dX8_few_67 : decode cX8_few 67 = .ok (.iconst 0, 1) := by decide +kernel
theorem dX8_few_68 : decode cX8_few 68 = .ok (.iaload, 1) := by decide +kernel
theorem dX8_few_69 : decode cX8_few 69 = .ok (.aload_n 0, 1) := by decide +kernel
theorem dX8_few_70 : decode cX8_few 70 = .ok (.getfield 30, 3) := by decide +kernel
theorem dX8_few_73 : decode cX8_few 73 = .ok (.iconst 1, 1) := by decide +kernel
theorem dX8_few_74 : decode cX8_few 74 = .ok (.iaload, 1) := by decide +kernel
theorem dX8_few_75 : decode cX8_few 75 = .ok (.iadd, 1) := by decide +kernel
theorem dX8_few_76 : decode cX8_few 76 = .ok (.aload_n 0, 1) := by decide +kernel
theorem dX8_few_77 : decode cX8_few 77 = .ok (.getfield 30, 3) := by decide +kernel
theorem dX8_few_80 : decode cX8_few 80 = .ok (.iconst 2, 1) := by decide +kernel
theorem dX8_few_81 : decode cX8_few 81 = .ok (.iaload, 1) := by decide +kernel
theorem dX8_few_82 : decode cX8_few 82 = .ok (.iadd, 1) := by decide +kernel
theorem dX8_few_83 : decode cX8_few 83 = .ok (.istore 6, 2) := by decide +kernel
theorem dX8_few_85 : decode cX8_few 85 = .ok (.iload 5, 2) := by decide +kernel
theorem dX8_few_87 : decode cX8_few 87 = .ok (.ifCond .eq 41, 3) := by decide +kernel
theorem dX8_few_90 : decode cX8_few 90 = .ok (.iload 6, 2) := by decide +kernel
theorem dX8_few_92 : decode cX8_few 92 = .ok (.iload_n 3, 1) := by decide +kernel
theorem dX8_few_93 : decode cX8_few 93 = .ok (.if_icmp .ge 35, 3) := by decide +kernel
theorem dX8_few_96 : decode cX8_few 96 = .ok (.iload 6, 2) := by decide +kernel
theorem dX8_few_98 : decode cX8_few 98 = .ok (.istore_n 3, 1) := by decide +kernel
theorem dX8_few_99 : decode cX8_few 99 = .ok (.iconst 0, 1) := by decide +kernel
theorem dX8_few_100 : decode cX8_few 100 = .ok (.istore 7, 2) := by decide +kernel
theorem dX8_few_102 : decode cX8_few 102 = .ok (.iload 7, 2) := by decide +kernel
theorem dX8_few_104 : decode cX8_few 104 = .ok (.iconst 3, 1) := by decide +kernel
theorem dX8_few_105 : decode cX8_few 105 = .ok (.if_icmp .ge 23, 3) := by decide +kernel
theorem dX8_few_108 : decode cX8_few 108 = .ok (.aload_n 0, 1) := by decide +kernel
theorem dX8_few_109 : decode cX8_few 109 = .ok (.getfield 33, 3) := by decide +kernel
theorem dX8_few_112 : decode cX8_few 112 = .ok (.iload 7, 2) := by decide +kernel
theorem dX8_few_114 : decode cX8_few 114 = .ok (.aload_n 0, 1) := by decide +kernel
theorem dX8_few_115 : decode cX8_few 115 = .ok (.getfield 30, 3) := by decide +kernel
theorem dX8_few_118 : decode cX8_few 118 = .ok (.iload 7, 2) := by decide +kernel
theorem dX8_few_120 : decode cX8_few 120 = .ok (.iaload, 1) := by decide +kernel
theorem dX8_few_121 : decode cX8_few 121 = .ok (.iastore, 1) := by decide +kernel
theorem dX8_few_122 : decode cX8_few 122 = .ok (.iinc 7 1, 3) := by decide +kernel
theorem dX8_few_125 : decode cX8_few 125 = .ok (.goto (-23), 3) := by decide +kernel
theorem dX8_few_128 : decode cX8_few 128 = .ok (.iinc 4 1, 3) := by decide +kernel
theorem dX8_few_131 : decode cX8_few 131 = .ok (.goto (-93), 3) := by decide +kernel
theorem dX8_few_134 : decode cX8_few 134 = .ok (.iload_n 3, 1) := by decide +kernel
theorem dX8_few_135 : decode cX8_few 135 = .ok (.ldc 146, 2) := by decide +kernel
theorem dX8_few_137 : decode cX8_few 137 = .ok (.if_icmp .ne 8, 3) := by decide +kernel
theorem dX8_few_140 : decode cX8_few 140 = .ok (.bipush (-6), 2) := by decide +kernel
theorem dX8_few_142 : decode cX8_few 142 = .ok (.goto 18, 3) := by decide +kernel
theorem dX8_few_145 : decode cX8_few 145 = .ok (.iload_n 2, 1) := by decide +kernel
theorem dX8_few_146 : decode cX8_few 146 = .ok (.iconst (-1), 1) := by decide +kernel
theorem dX8_few_147 : decode cX8_few 147 = .ok (.if_icmp .ne 7, 3) := by decide +kernel
theorem dX8_few_150 : decode cX8_few 150 = .ok (.iload_n 3, 1) := by decide +kernel
theorem dX8_few_151 : decode cX8_few 151 = .ok (.goto 9, 3) := by decide +kernel
theorem dX8_few_154 : decode cX8_few 154 = .ok (.aload_n 0, 1) := by decide +kernel
theorem dX8_few_155 : decode cX8_few 155 = .ok (.getfield 33, 3) := by decide +kernel
theorem dX8_few_158 : decode cX8_few 158 = .ok (.iload_n 2, 1) := by decide +kernel
theorem dX8_few_159 : decode cX8_few 159 = .ok (.iaload, 1) := by decide +kernel
theorem dX8_few_160 : decode cX8_few 160 = .ok (.ireturn, 1) := by decide +kernel
set_option maxRecDepth 20000 in
theorem ggX8_crewBy_X8_layHand : GoodIn wsX8_crewBy wsX8_layHand := goodIn_r _ [8, 3, 2, 25, 26, 27, 28, 29, 30, 31, 32, 33, 34, 35, 36, 37, 38, 39, 40, 41, 42, 43] (by decide +kernel) (by decide +kernel)
set_option maxRecDepth 20000 in
theorem gX8_crewBy_X8_layHand : GoodIn wsX8_crewBy (wsV RX8 141 RX8 yX8_layHand wsX8_layHand) := goodIn_app (goodIn_of _ (by decide +kernel)) ggX8_crewBy_X8_layHand
set_option maxRecDepth 20000 in
theorem ggX8_crewBy_X8_many : GoodIn wsX8_crewBy wsX8_many := goodIn_r _ [12, 2, 25, 26, 27, 28, 29, 30, 31, 32, 33, 34, 35, 36, 37, 38, 39, 40, 41, 42, 43] (by decide +kernel) (by decide +kernel)
set_option maxRecDepth 20000 in
theorem gX8_crewBy_X8_many : GoodIn wsX8_crewBy (wsV RX8 55 RX8 yX8_many wsX8_many) := goodIn_app (goodIn_of _ (by decide +kernel)) ggX8_crewBy_X8_many
set_option maxRecDepth 20000 in
theorem ggX8_crewBy_X8_canSail : GoodIn wsX8_crewBy wsX8_canSail := goodIn_r _ [15, 16, 17, 7, 18, 19, 20, 21, 22, 23, 24] (by decide +kernel) (by decide +kernel)
set_option maxRecDepth 20000 in
theorem gX8_crewBy_X8_canSail : GoodIn wsX8_crewBy (va_wsS RX8 135 yX8_canSail wsX8_canSail) := goodIn_app (goodIn_of _ (by decide +kernel)) ggX8_crewBy_X8_canSail
theorem dX8_crewBy_0 : decode cX8_crewBy 0 = .ok (.iload_n 1, 1) := by decide +kernel
theorem dX8_crewBy_1 : decode cX8_crewBy 1 = .ok (.istore_n 3, 1) := by decide +kernel
theorem dX8_crewBy_2 : decode cX8_crewBy 2 = .ok (.aload_n 0, 1) := by decide +kernel
theorem dX8_crewBy_3 : decode cX8_crewBy 3 = .ok (.invokevirtual 141, 3) := by decide +kernel
theorem dX8_crewBy_6 : decode cX8_crewBy 6 = .ok (.aload_n 0, 1) := by decide +kernel
theorem dX8_crewBy_7 : decode cX8_crewBy 7 = .ok (.invokevirtual 55, 3) := by decide +kernel
theorem dX8_crewBy_10 : decode cX8_crewBy 10 = .ok (.iconst 1, 1) := by decide +kernel
theorem dX8_crewBy_11 : decode cX8_crewBy 11 = .ok (.isub, 1) := by decide +kernel
theorem dX8_crewBy_12 : decode cX8_crewBy 12 = .ok (.istore 4, 2) := by decide +kernel
theorem dX8_crewBy_14 : decode cX8_crewBy 14 = .ok (.iload 4, 2) := by decide +kernel
theorem dX8_crewBy_16 : decode cX8_crewBy 16 = .ok (.ifCond .lt 104, 3) := by decide +kernel
theorem dX8_crewBy_19 : decode cX8_crewBy 19 = .ok (.aload_n 0, 1) := by decide +kernel
theorem dX8_crewBy_20 : decode cX8_crewBy 20 = .ok (.getfield 36, 3) := by decide +kernel
theorem dX8_crewBy_23 : decode cX8_crewBy 23 = .ok (.iload 4, 2) := by decide +kernel
theorem dX8_crewBy_25 : decode cX8_crewBy 25 = .ok (.iload_n 3, 1) := by decide +kernel
theorem dX8_crewBy_26 : decode cX8_crewBy 26 = .ok (.iconst 4, 1) := by decide +kernel
theorem dX8_crewBy_27 : decode cX8_crewBy 27 = .ok (.irem, 1) := by decide +kernel
theorem dX8_crewBy_28 : decode cX8_crewBy 28 = .ok (.iastore, 1) := by decide +kernel
theorem dX8_crewBy_29 : decode cX8_crewBy 29 = .ok (.iload_n 3, 1) := by decide +kernel
theorem dX8_crewBy_30 : decode cX8_crewBy 30 = .ok (.iconst 4, 1) := by decide +kernel
theorem dX8_crewBy_31 : decode cX8_crewBy 31 = .ok (.idiv, 1) := by decide +kernel
theorem dX8_crewBy_32 : decode cX8_crewBy 32 = .ok (.istore_n 3, 1) := by decide +kernel
theorem dX8_crewBy_33 : decode cX8_crewBy 33 = .ok (.aload_n 0, 1) := by decide +kernel
theorem dX8_crewBy_34 : decode cX8_crewBy 34 = .ok (.getfield 36, 3) := by decide +kernel
theorem dX8_crewBy_37 : decode cX8_crewBy 37 = .ok (.iload 4, 2) := by decide +kernel
theorem dX8_crewBy_39 : decode cX8_crewBy 39 = .ok (.iaload, 1) := by decide +kernel
theorem dX8_crewBy_40 : decode cX8_crewBy 40 = .ok (.ifCond .le 34, 3) := by decide +kernel
theorem dX8_crewBy_43 : decode cX8_crewBy 43 = .ok (.aload_n 0, 1) := by decide +kernel
theorem dX8_crewBy_44 : decode cX8_crewBy 44 = .ok (.getfield 7, 3) := by decide +kernel
theorem dX8_crewBy_47 : decode cX8_crewBy 47 = .ok (.bipush 6, 2) := by decide +kernel
theorem dX8_crewBy_49 : decode cX8_crewBy 49 = .ok (.iload 4, 2) := by decide +kernel
theorem dX8_crewBy_51 : decode cX8_crewBy 51 = .ok (.iadd, 1) := by decide +kernel
theorem dX8_crewBy_52 : decode cX8_crewBy 52 = .ok (.iaload, 1) := by decide +kernel
theorem dX8_crewBy_53 : decode cX8_crewBy 53 = .ok (.ifCond .ne 19, 3) := by decide +kernel
theorem dX8_crewBy_56 : decode cX8_crewBy 56 = .ok (.aload_n 0, 1) := by decide +kernel
theorem dX8_crewBy_57 : decode cX8_crewBy 57 = .ok (.getfield 36, 3) := by decide +kernel
theorem dX8_crewBy_60 : decode cX8_crewBy 60 = .ok (.iload 4, 2) := by decide +kernel
theorem dX8_crewBy_62 : decode cX8_crewBy 62 = .ok (.iaload, 1) := by decide +kernel
theorem dX8_crewBy_63 : decode cX8_crewBy 63 = .ok (.aload_n 0, 1) := by decide +kernel
theorem dX8_crewBy_64 : decode cX8_crewBy 64 = .ok (.getfield 7, 3) := by decide +kernel
theorem dX8_crewBy_67 : decode cX8_crewBy 67 = .ok (.iconst 1, 1) := by decide +kernel
theorem dX8_crewBy_68 : decode cX8_crewBy 68 = .ok (.iaload, 1) := by decide +kernel
theorem dX8_crewBy_69 : decode cX8_crewBy 69 = .ok (.if_icmp .le 5, 3) := by decide +kernel
theorem dX8_crewBy_72 : decode cX8_crewBy 72 = .ok (.iconst (-1), 1) := by decide +kernel
theorem dX8_crewBy_73 : decode cX8_crewBy 73 = .ok (.ireturn, 1) := by decide +kernel
theorem dX8_crewBy_74 : decode cX8_crewBy 74 = .ok (.aload_n 0, 1) := by decide +kernel
theorem dX8_crewBy_75 : decode cX8_crewBy 75 = .ok (.getfield 27, 3) := by decide +kernel
theorem dX8_crewBy_78 : decode cX8_crewBy 78 = .ok (.bipush 6, 2) := by decide +kernel
theorem dX8_crewBy_80 : decode cX8_crewBy 80 = .ok (.iload 4, 2) := by decide +kernel
theorem dX8_crewBy_82 : decode cX8_crewBy 82 = .ok (.iadd, 1) := by decide +kernel
theorem dX8_crewBy_83 : decode cX8_crewBy 83 = .ok (.aload_n 0, 1) := by decide +kernel
theorem dX8_crewBy_84 : decode cX8_crewBy 84 = .ok (.getfield 36, 3) := by decide +kernel
theorem dX8_crewBy_87 : decode cX8_crewBy 87 = .ok (.iload 4, 2) := by decide +kernel
theorem dX8_crewBy_89 : decode cX8_crewBy 89 = .ok (.iaload, 1) := by decide +kernel
theorem dX8_crewBy_90 : decode cX8_crewBy 90 = .ok (.ifCond .le 13, 3) := by decide +kernel
theorem dX8_crewBy_93 : decode cX8_crewBy 93 = .ok (.aload_n 0, 1) := by decide +kernel
theorem dX8_crewBy_94 : decode cX8_crewBy 94 = .ok (.getfield 36, 3) := by decide +kernel
theorem dX8_crewBy_97 : decode cX8_crewBy 97 = .ok (.iload 4, 2) := by decide +kernel
theorem dX8_crewBy_99 : decode cX8_crewBy 99 = .ok (.iaload, 1) := by decide +kernel
theorem dX8_crewBy_100 : decode cX8_crewBy 100 = .ok (.goto 13, 3) := by decide +kernel
theorem dX8_crewBy_103 : decode cX8_crewBy 103 = .ok (.aload_n 0, 1) := by decide +kernel
theorem dX8_crewBy_104 : decode cX8_crewBy 104 = .ok (.getfield 27, 3) := by decide +kernel
theorem dX8_crewBy_107 : decode cX8_crewBy 107 = .ok (.bipush 6, 2) := by decide +kernel
theorem dX8_crewBy_109 : decode cX8_crewBy 109 = .ok (.iload 4, 2) := by decide +kernel
theorem dX8_crewBy_111 : decode cX8_crewBy 111 = .ok (.iadd, 1) := by decide +kernel
theorem dX8_crewBy_112 : decode cX8_crewBy 112 = .ok (.iaload, 1) := by decide +kernel
theorem dX8_crewBy_113 : decode cX8_crewBy 113 = .ok (.iastore, 1) := by decide +kernel
theorem dX8_crewBy_114 : decode cX8_crewBy 114 = .ok (.iinc 4 (-1), 3) := by decide +kernel
theorem dX8_crewBy_117 : decode cX8_crewBy 117 = .ok (.goto (-103), 3) := by decide +kernel
theorem dX8_crewBy_120 : decode cX8_crewBy 120 = .ok (.iconst 0, 1) := by decide +kernel
theorem dX8_crewBy_121 : decode cX8_crewBy 121 = .ok (.istore 4, 2) := by decide +kernel
theorem dX8_crewBy_123 : decode cX8_crewBy 123 = .ok (.iconst 0, 1) := by decide +kernel
theorem dX8_crewBy_124 : decode cX8_crewBy 124 = .ok (.istore 5, 2) := by decide +kernel
theorem dX8_crewBy_126 : decode cX8_crewBy 126 = .ok (.iload 5, 2) := by decide +kernel
theorem dX8_crewBy_128 : decode cX8_crewBy 128 = .ok (.aload_n 0, 1) := by decide +kernel
theorem dX8_crewBy_129 : decode cX8_crewBy 129 = .ok (.getfield 7, 3) := by decide +kernel
theorem dX8_crewBy_132 : decode cX8_crewBy 132 = .ok (.iconst 1, 1) := by decide +kernel
theorem dX8_crewBy_133 : decode cX8_crewBy 133 = .ok (.iaload, 1) := by decide +kernel
theorem dX8_crewBy_134 : decode cX8_crewBy 134 = .ok (.if_icmp .ge 32, 3) := by decide +kernel
theorem dX8_crewBy_137 : decode cX8_crewBy 137 = .ok (.iload 4, 2) := by decide +kernel
theorem dX8_crewBy_139 : decode cX8_crewBy 139 = .ok (.aload_n 0, 1) := by decide +kernel
theorem dX8_crewBy_140 : decode cX8_crewBy 140 = .ok (.getfield 27, 3) := by decide +kernel
theorem dX8_crewBy_143 : decode cX8_crewBy 143 = .ok (.iload 5, 2) := by decide +kernel
theorem dX8_crewBy_145 : decode cX8_crewBy 145 = .ok (.iload_n 2, 1) := by decide +kernel
theorem dX8_crewBy_146 : decode cX8_crewBy 146 = .ok (.invokestatic 135, 3) := by decide +kernel
theorem dX8_crewBy_149 : decode cX8_crewBy 149 = .ok (.ifCond .eq 7, 3) := by decide +kernel
theorem dX8_crewBy_152 : decode cX8_crewBy 152 = .ok (.iconst 1, 1) := by decide +kernel
theorem dX8_crewBy_153 : decode cX8_crewBy 153 = .ok (.goto 4, 3) := by decide +kernel
theorem dX8_crewBy_156 : decode cX8_crewBy 156 = .ok (.iconst 0, 1) := by decide +kernel
theorem dX8_crewBy_157 : decode cX8_crewBy 157 = .ok (.iadd, 1) := by decide +kernel
theorem dX8_crewBy_158 : decode cX8_crewBy 158 = .ok (.istore 4, 2) := by decide +kernel
theorem dX8_crewBy_160 : decode cX8_crewBy 160 = .ok (.iinc 5 1, 3) := by decide +kernel
theorem dX8_crewBy_163 : decode cX8_crewBy 163 = .ok (.goto (-37), 3) := by decide +kernel
theorem dX8_crewBy_166 : decode cX8_crewBy 166 = .ok (.iload 4, 2) := by decide +kernel
theorem dX8_crewBy_168 : decode cX8_crewBy 168 = .ok (.ireturn, 1) := by decide +kernel
set_option maxRecDepth 20000 in
theorem ggX8_crew_X8_isFar : GoodIn wsX8_crew wsX8_isFar := goodIn_r _ [5, 6, 7, 8, 4, 9] (by decide +kernel) (by decide +kernel)
set_option maxRecDepth 20000 in
theorem gX8_crew_X8_isFar : GoodIn wsX8_crew (va_wsS RX8 132 yX8_isFar wsX8_isFar) := goodIn_app (goodIn_of _ (by decide +kernel)) ggX8_crew_X8_isFar
set_option maxRecDepth 20000 in
theorem ggX8_crew_X8_isMan : GoodIn wsX8_crew wsX8_isMan := goodIn_r _ [13, 14, 15, 16, 4, 17, 18, 7, 8, 9, 45, 46, 47, 48, 49, 50, 51, 52, 53, 54, 55, 56, 57, 58, 59, 60, 61, 62, 63] (by decide +kernel) (by decide +kernel)
set_option maxRecDepth 20000 in
theorem gX8_crew_X8_isMan : GoodIn wsX8_crew (wsV RX8 120 RX8 yX8_isMan wsX8_isMan) := goodIn_app (goodIn_of _ (by decide +kernel)) ggX8_crew_X8_isMan
set_option maxRecDepth 20000 in
theorem ggX8_crew_X8_bad : GoodIn wsX8_crew wsX8_bad := goodIn_r _ [22, 23, 45, 46, 47, 48, 49, 50, 51, 52, 53, 54, 55, 56, 57, 58, 59, 60, 61, 62, 63] (by decide +kernel) (by decide +kernel)
set_option maxRecDepth 20000 in
theorem gX8_crew_X8_bad : GoodIn wsX8_crew (wsV RX8 73 RX8 yX8_bad wsX8_bad) := goodIn_app (goodIn_of _ (by decide +kernel)) ggX8_crew_X8_bad
set_option maxRecDepth 20000 in
theorem ggX8_crew_X8_many : GoodIn wsX8_crew wsX8_many := goodIn_r _ [17, 18, 45, 46, 47, 48, 49, 50, 51, 52, 53, 54, 55, 56, 57, 58, 59, 60, 61, 62, 63] (by decide +kernel) (by decide +kernel)
set_option maxRecDepth 20000 in
theorem gX8_crew_X8_many : GoodIn wsX8_crew (wsV RX8 55 RX8 yX8_many wsX8_many) := goodIn_app (goodIn_of _ (by decide +kernel)) ggX8_crew_X8_many
set_option maxRecDepth 20000 in
theorem ggX8_crew_X8_crewBy : GoodIn wsX8_crew wsX8_crewBy := goodIn_r _ [27, 1, 18, 28, 29, 30, 31, 4, 32, 14, 15, 16, 17, 33, 34, 35, 36, 37, 38, 39, 40, 41, 42, 43, 44, 45, 46, 47, 48, 49, 50, 51, 52, 53, 54, 55, 56, 57, 58, 59, 60, 61, 62, 63] (by decide +kernel) (by decide +kernel)
set_option maxRecDepth 20000 in
theorem gX8_crew_X8_crewBy : GoodIn wsX8_crew (wsV RX8 150 RX8 yX8_crewBy wsX8_crewBy) := goodIn_app (goodIn_of _ (by decide +kernel)) ggX8_crew_X8_crewBy
theorem dX8_crew_0 : decode cX8_crew 0 = .ok (.iload_n 1, 1) := by decide +kernel
theorem dX8_crew_1 : decode cX8_crew 1 = .ok (.invokestatic 132, 3) := by decide +kernel
theorem dX8_crew_4 : decode cX8_crew 4 = .ok (.ifCond .eq 16, 3) := by decide +kernel
theorem dX8_crew_7 : decode cX8_crew 7 = .ok (.iload_n 2, 1) := by decide +kernel
theorem dX8_crew_8 : decode cX8_crew 8 = .ok (.iconst (-1), 1) := by decide +kernel
theorem dX8_crew_9 : decode cX8_crew 9 = .ok (.if_icmp .eq 18, 3) := by decide +kernel
theorem dX8_crew_12 : decode cX8_crew 12 = .ok (.aload_n 0, 1) := by decide +kernel
theorem dX8_crew_13 : decode cX8_crew 13 = .ok (.iload_n 2, 1) := by decide +kernel
theorem dX8_crew_14 : decode cX8_crew 14 = .ok (.invokevirtual 120, 3) := by decide +kernel
theorem dX8_crew_17 : decode cX8_crew 17 = .ok (.ifCond .ne 10, 3) := by decide +kernel
theorem dX8_crew_20 : decode cX8_crew 20 = .ok (.aload_n 0, 1) := by decide +kernel
theorem dX8_crew_21 : decode cX8_crew 21 = .ok (.bipush (-10), 2) := by decide +kernel
theorem dX8_crew_23 : decode cX8_crew 23 = .ok (.invokevirtual 73, 3) := by decide +kernel
theorem dX8_crew_26 : decode cX8_crew 26 = .ok (.ireturn, 1) := by decide +kernel
theorem dX8_crew_27 : decode cX8_crew 27 = .ok (.iconst 1, 1) := by decide +kernel
theorem dX8_crew_28 : decode cX8_crew 28 = .ok (.istore_n 3, 1) := by decide +kernel
theorem dX8_crew_29 : decode cX8_crew 29 = .ok (.iconst (-1), 1) := by decide +kernel
theorem dX8_crew_30 : decode cX8_crew 30 = .ok (.istore 4, 2) := by decide +kernel
theorem dX8_crew_32 : decode cX8_crew 32 = .ok (.iconst 0, 1) := by decide +kernel
theorem dX8_crew_33 : decode cX8_crew 33 = .ok (.istore 5, 2) := by decide +kernel
theorem dX8_crew_35 : decode cX8_crew 35 = .ok (.iconst 0, 1) := by decide +kernel
theorem dX8_crew_36 : decode cX8_crew 36 = .ok (.istore 6, 2) := by decide +kernel
theorem dX8_crew_38 : decode cX8_crew 38 = .ok (.iload 6, 2) := by decide +kernel
theorem dX8_crew_40 : decode cX8_crew 40 = .ok (.aload_n 0, 1) := by decide +kernel
theorem dX8_crew_41 : decode cX8_crew 41 = .ok (.invokevirtual 55, 3) := by decide +kernel
theorem dX8_crew_44 : decode cX8_crew 44 = .ok (.if_icmp .ge 13, 3) := by decide +kernel
theorem dX8_crew_47 : decode cX8_crew 47 = .ok (.iload_n 3, 1) := by decide +kernel
theorem dX8_crew_48 : decode cX8_crew 48 = .ok (.iconst 4, 1) := by decide +kernel
theorem dX8_crew_49 : decode cX8_crew 49 = .ok (.imul, 1) := by decide +kernel
theorem dX8_crew_50 : decode cX8_crew 50 = .ok (.istore_n 3, 1) := by decide +kernel
theorem dX8_crew_51 : decode cX8_crew 51 = .ok (.iinc 6 1, 3) := by decide +kernel
theorem dX8_crew_54 : decode cX8_crew 54 = .ok (.goto (-16), 3) := by decide +kernel
theorem dX8_crew_57 : decode cX8_crew 57 = .ok (.iconst 0, 1) := by decide +kernel
theorem dX8_crew_58 : decode cX8_crew 58 = .ok (.istore 6, 2) := by decide +kernel
theorem dX8_crew_60 : decode cX8_crew 60 = .ok (.iload 6, 2) := by decide +kernel
theorem dX8_crew_62 : decode cX8_crew 62 = .ok (.iload_n 3, 1) := by decide +kernel
theorem dX8_crew_63 : decode cX8_crew 63 = .ok (.if_icmp .ge 50, 3) := by decide +kernel
theorem dX8_crew_66 : decode cX8_crew 66 = .ok (.aload_n 0, 1) := by decide +kernel
theorem dX8_crew_67 : decode cX8_crew 67 = .ok (.iload 6, 2) := by decide +kernel
theorem dX8_crew_69 : decode cX8_crew 69 = .ok (.iload_n 1, 1) := by decide +kernel
theorem dX8_crew_70 : decode cX8_crew 70 = .ok (.invokevirtual 150, 3) := by decide +kernel
theorem dX8_crew_73 : decode cX8_crew 73 = .ok (.istore 7, 2) := by decide +kernel
theorem dX8_crew_75 : decode cX8_crew 75 = .ok (.iload 7, 2) := by decide +kernel
theorem dX8_crew_77 : decode cX8_crew 77 = .ok (.iload 4, 2) := by decide +kernel
theorem dX8_crew_79 : decode cX8_crew 79 = .ok (.if_icmp .le 8, 3) := by decide +kernel
theorem dX8_crew_82 : decode cX8_crew 82 = .ok (.iload 6, 2) := by decide +kernel
theorem dX8_crew_84 : decode cX8_crew 84 = .ok (.goto 5, 3) := by decide +kernel
theorem dX8_crew_87 : decode cX8_crew 87 = .ok (.iload 5, 2) := by decide +kernel
theorem dX8_crew_89 : decode cX8_crew 89 = .ok (.istore 5, 2) := by decide +kernel
theorem dX8_crew_91 : decode cX8_crew 91 = .ok (.iload 7, 2) := by decide +kernel
theorem dX8_crew_93 : decode cX8_crew 93 = .ok (.iload 4, 2) := by decide +kernel
theorem dX8_crew_95 : decode cX8_crew 95 = .ok (.if_icmp .le 8, 3) := by decide +kernel
theorem dX8_crew_98 : decode cX8_crew 98 = .ok (.iload 7, 2) := by decide +kernel
theorem dX8_crew_100 : decode cX8_crew 100 = .ok (.goto 5, 3) := by decide +kernel
theorem dX8_crew_103 : decode cX8_crew 103 = .ok (.iload 4, 2) := by decide +kernel
theorem dX8_crew_105 : decode cX8_crew 105 = .ok (.istore 4, 2) := by decide +kernel
theorem dX8_crew_107 : decode cX8_crew 107 = .ok (.iinc 6 1, 3) := by decide +kernel
theorem dX8_crew_110 : decode cX8_crew 110 = .ok (.goto (-50), 3) := by decide +kernel
theorem dX8_crew_113 : decode cX8_crew 113 = .ok (.aload_n 0, 1) := by decide +kernel
theorem dX8_crew_114 : decode cX8_crew 114 = .ok (.iload 5, 2) := by decide +kernel
theorem dX8_crew_116 : decode cX8_crew 116 = .ok (.iload_n 1, 1) := by decide +kernel
theorem dX8_crew_117 : decode cX8_crew 117 = .ok (.invokevirtual 150, 3) := by decide +kernel
theorem dX8_crew_120 : decode cX8_crew 120 = .ok (.istore 6, 2) := by decide +kernel
theorem dX8_crew_122 : decode cX8_crew 122 = .ok (.iload_n 2, 1) := by decide +kernel
theorem dX8_crew_123 : decode cX8_crew 123 = .ok (.iconst (-1), 1) := by decide +kernel
theorem dX8_crew_124 : decode cX8_crew 124 = .ok (.if_icmp .ne 8, 3) := by decide +kernel
theorem dX8_crew_127 : decode cX8_crew 127 = .ok (.iload 4, 2) := by decide +kernel
theorem dX8_crew_129 : decode cX8_crew 129 = .ok (.goto 11, 3) := by decide +kernel
theorem dX8_crew_132 : decode cX8_crew 132 = .ok (.aload_n 0, 1) := by decide +kernel
theorem dX8_crew_133 : decode cX8_crew 133 = .ok (.getfield 36, 3) := by decide +kernel
theorem dX8_crew_136 : decode cX8_crew 136 = .ok (.iload_n 2, 1) := by decide +kernel
theorem dX8_crew_137 : decode cX8_crew 137 = .ok (.iaload, 1) := by decide +kernel
theorem dX8_crew_138 : decode cX8_crew 138 = .ok (.iconst 1, 1) := by decide +kernel
theorem dX8_crew_139 : decode cX8_crew 139 = .ok (.isub, 1) := by decide +kernel
theorem dX8_crew_140 : decode cX8_crew 140 = .ok (.ireturn, 1) := by decide +kernel
theorem dX8_layFour_0 : decode cX8_layFour 0 = .ok (.aload_n 0, 1) := by decide +kernel
theorem dX8_layFour_1 : decode cX8_layFour 1 = .ok (.getfield 7, 3) := by decide +kernel
theorem dX8_layFour_4 : decode cX8_layFour 4 = .ok (.iload_n 1, 1) := by decide +kernel
theorem dX8_layFour_5 : decode cX8_layFour 5 = .ok (.iload_n 2, 1) := by decide +kernel
theorem dX8_layFour_6 : decode cX8_layFour 6 = .ok (.iastore, 1) := by decide +kernel
theorem dX8_layFour_7 : decode cX8_layFour 7 = .ok (.aload_n 0, 1) := by decide +kernel
theorem dX8_layFour_8 : decode cX8_layFour 8 = .ok (.getfield 7, 3) := by decide +kernel
theorem dX8_layFour_11 : decode cX8_layFour 11 = .ok (.iload_n 1, 1) := by decide +kernel
theorem dX8_layFour_12 : decode cX8_layFour 12 = .ok (.iconst 1, 1) := by decide +kernel
theorem dX8_layFour_13 : decode cX8_layFour 13 = .ok (.iadd, 1) := by decide +kernel
theorem dX8_layFour_14 : decode cX8_layFour 14 = .ok (.iload_n 3, 1) := by decide +kernel
theorem dX8_layFour_15 : decode cX8_layFour 15 = .ok (.iastore, 1) := by decide +kernel
theorem dX8_layFour_16 : decode cX8_layFour 16 = .ok (.aload_n 0, 1) := by decide +kernel
theorem dX8_layFour_17 : decode cX8_layFour 17 = .ok (.getfield 7, 3) := by decide +kernel
theorem dX8_layFour_20 : decode cX8_layFour 20 = .ok (.iload_n 1, 1) := by decide +kernel
theorem dX8_layFour_21 : decode cX8_layFour 21 = .ok (.iconst 2, 1) := by decide +kernel
theorem dX8_layFour_22 : decode cX8_layFour 22 = .ok (.iadd, 1) := by decide +kernel
theorem dX8_layFour_23 : decode cX8_layFour 23 = .ok (.iload 4, 2) := by decide +kernel
theorem dX8_layFour_25 : decode cX8_layFour 25 = .ok (.iastore, 1) := by decide +kernel
theorem dX8_layFour_26 : decode cX8_layFour 26 = .ok (.aload_n 0, 1) := by decide +kernel
theorem dX8_layFour_27 : decode cX8_layFour 27 = .ok (.getfield 7, 3) := by decide +kernel
theorem dX8_layFour_30 : decode cX8_layFour 30 = .ok (.iload_n 1, 1) := by decide +kernel
theorem dX8_layFour_31 : decode cX8_layFour 31 = .ok (.iconst 3, 1) := by decide +kernel
theorem dX8_layFour_32 : decode cX8_layFour 32 = .ok (.iadd, 1) := by decide +kernel
theorem dX8_layFour_33 : decode cX8_layFour 33 = .ok (.iload 5, 2) := by decide +kernel
theorem dX8_layFour_35 : decode cX8_layFour 35 = .ok (.iastore, 1) := by decide +kernel
theorem dX8_layFour_36 : decode cX8_layFour 36 = .ok (.return_, 1) := by decide +kernel
set_option maxRecDepth 20000 in
theorem ggX8_seen_X8_isMan : GoodIn wsX8_seen wsX8_isMan := goodIn_r _ [8, 9, 10, 11, 7, 12, 3, 13, 14, 15, 29, 30, 31, 32, 33, 34, 35, 36, 37, 38, 39, 40, 41, 42, 43, 44, 45, 46, 47] (by decide +kernel) (by decide +kernel)
set_option maxRecDepth 20000 in
theorem gX8_seen_X8_isMan : GoodIn wsX8_seen (wsV RX8 120 RX8 yX8_isMan wsX8_isMan) := goodIn_app (goodIn_of _ (by decide +kernel)) ggX8_seen_X8_isMan
set_option maxRecDepth 20000 in
theorem ggX8_seen_X8_in : GoodIn wsX8_seen wsX8_in := goodIn_r _ [15] (by decide +kernel) (by decide +kernel)
set_option maxRecDepth 20000 in
theorem gX8_seen_X8_in : GoodIn wsX8_seen (va_wsS RX8 59 yX8_in wsX8_in) := goodIn_app (goodIn_of _ (by decide +kernel)) ggX8_seen_X8_in
set_option maxRecDepth 20000 in
theorem ggX8_seen_X8_bad : GoodIn wsX8_seen wsX8_bad := goodIn_r _ [19, 20, 29, 30, 31, 32, 33, 34, 35, 36, 37, 38, 39, 40, 41, 42, 43, 44, 45, 46, 47] (by decide +kernel) (by decide +kernel)
set_option maxRecDepth 20000 in
theorem gX8_seen_X8_bad : GoodIn wsX8_seen (wsV RX8 73 RX8 yX8_bad wsX8_bad) := goodIn_app (goodIn_of _ (by decide +kernel)) ggX8_seen_X8_bad
set_option maxRecDepth 20000 in
theorem ggX8_seen_X8_full : GoodIn wsX8_seen wsX8_full := goodIn_r _ [24, 20, 29, 30, 31, 32, 33, 34, 35, 36, 37, 38, 39, 40, 41, 42, 43, 44, 45, 46, 47] (by decide +kernel) (by decide +kernel)
set_option maxRecDepth 20000 in
theorem gX8_seen_X8_full : GoodIn wsX8_seen (wsV RX8 77 RX8 yX8_full wsX8_full) := goodIn_app (goodIn_of _ (by decide +kernel)) ggX8_seen_X8_full
set_option maxRecDepth 20000 in
theorem ggX8_seen_X8_layFour : GoodIn wsX8_seen wsX8_layFour := goodIn_r _ [28, 3, 29, 30, 31, 32, 33, 34, 35, 36, 37, 38, 39, 40, 41, 42, 43, 44, 45, 46, 47] (by decide +kernel) (by decide +kernel)
set_option maxRecDepth 20000 in
theorem gX8_seen_X8_layFour : GoodIn wsX8_seen (wsV RX8 156 RX8 yX8_layFour wsX8_layFour) := goodIn_app (goodIn_of _ (by decide +kernel)) ggX8_seen_X8_layFour
theorem dX8_seen_0 : decode cX8_seen 0 = .ok (.aload_n 0, 1) := by decide +kernel
theorem dX8_seen_1 : decode cX8_seen 1 = .ok (.iload_n 1, 1) := by decide +kernel
theorem dX8_seen_2 : decode cX8_seen 2 = .ok (.invokevirtual 120, 3) := by decide +kernel
theorem dX8_seen_5 : decode cX8_seen 5 = .ok (.ifCond .eq 38, 3) := by decide +kernel
theorem dX8_seen_8 : decode cX8_seen 8 = .ok (.iload_n 2, 1) := by decide +kernel
theorem dX8_seen_9 : decode cX8_seen 9 = .ok (.i2l, 1) := by decide +kernel
theorem dX8_seen_10 : decode cX8_seen 10 = .ok (.lconst 0, 1) := by decide +kernel
theorem dX8_seen_11 : decode cX8_seen 11 = .ok (.ldc2_w 154, 3) := by decide +kernel
theorem dX8_seen_14 : decode cX8_seen 14 = .ok (.invokestatic 59, 3) := by decide +kernel
theorem dX8_seen_17 : decode cX8_seen 17 = .ok (.ifCond .eq 26, 3) := by decide +kernel
theorem dX8_seen_20 : decode cX8_seen 20 = .ok (.iload_n 3, 1) := by decide +kernel
theorem dX8_seen_21 : decode cX8_seen 21 = .ok (.i2l, 1) := by decide +kernel
theorem dX8_seen_22 : decode cX8_seen 22 = .ok (.lconst 0, 1) := by decide +kernel
theorem dX8_seen_23 : decode cX8_seen 23 = .ok (.ldc2_w 67, 3) := by decide +kernel
theorem dX8_seen_26 : decode cX8_seen 26 = .ok (.invokestatic 59, 3) := by decide +kernel
theorem dX8_seen_29 : decode cX8_seen 29 = .ok (.ifCond .eq 14, 3) := by decide +kernel
theorem dX8_seen_32 : decode cX8_seen 32 = .ok (.iload 4, 2) := by decide +kernel
theorem dX8_seen_34 : decode cX8_seen 34 = .ok (.i2l, 1) := by decide +kernel
theorem dX8_seen_35 : decode cX8_seen 35 = .ok (.lconst 0, 1) := by decide +kernel
theorem dX8_seen_36 : decode cX8_seen 36 = .ok (.lconst 1, 1) := by decide +kernel
theorem dX8_seen_37 : decode cX8_seen 37 = .ok (.invokestatic 59, 3) := by decide +kernel
theorem dX8_seen_40 : decode cX8_seen 40 = .ok (.ifCond .ne 10, 3) := by decide +kernel
theorem dX8_seen_43 : decode cX8_seen 43 = .ok (.aload_n 0, 1) := by decide +kernel
theorem dX8_seen_44 : decode cX8_seen 44 = .ok (.bipush (-2), 2) := by decide +kernel
theorem dX8_seen_46 : decode cX8_seen 46 = .ok (.invokevirtual 73, 3) := by decide +kernel
theorem dX8_seen_49 : decode cX8_seen 49 = .ok (.ireturn, 1) := by decide +kernel
theorem dX8_seen_50 : decode cX8_seen 50 = .ok (.aload_n 0, 1) := by decide +kernel
theorem dX8_seen_51 : decode cX8_seen 51 = .ok (.getfield 7, 3) := by decide +kernel
theorem dX8_seen_54 : decode cX8_seen 54 = .ok (.iconst 2, 1) := by decide +kernel
theorem dX8_seen_55 : decode cX8_seen 55 = .ok (.iaload, 1) := by decide +kernel
theorem dX8_seen_56 : decode cX8_seen 56 = .ok (.iconst 5, 1) := by decide +kernel
theorem dX8_seen_57 : decode cX8_seen 57 = .ok (.if_icmp .ne 8, 3) := by decide +kernel
theorem dX8_seen_60 : decode cX8_seen 60 = .ok (.aload_n 0, 1) := by decide +kernel
theorem dX8_seen_61 : decode cX8_seen 61 = .ok (.invokevirtual 77, 3) := by decide +kernel
theorem dX8_seen_64 : decode cX8_seen 64 = .ok (.ireturn, 1) := by decide +kernel
theorem dX8_seen_65 : decode cX8_seen 65 = .ok (.aload_n 0, 1) := by decide +kernel
theorem dX8_seen_66 : decode cX8_seen 66 = .ok (.bipush 36, 2) := by decide +kernel
theorem dX8_seen_68 : decode cX8_seen 68 = .ok (.iconst 4, 1) := by decide +kernel
theorem dX8_seen_69 : decode cX8_seen 69 = .ok (.aload_n 0, 1) := by decide +kernel
theorem dX8_seen_70 : decode cX8_seen 70 = .ok (.getfield 7, 3) := by decide +kernel
theorem dX8_seen_73 : decode cX8_seen 73 = .ok (.iconst 2, 1) := by decide +kernel
theorem dX8_seen_74 : decode cX8_seen 74 = .ok (.iaload, 1) := by decide +kernel
theorem dX8_seen_75 : decode cX8_seen 75 = .ok (.imul, 1) := by decide +kernel
theorem dX8_seen_76 : decode cX8_seen 76 = .ok (.iadd, 1) := by decide +kernel
theorem dX8_seen_77 : decode cX8_seen 77 = .ok (.iload_n 1, 1) := by decide +kernel
theorem dX8_seen_78 : decode cX8_seen 78 = .ok (.iload_n 2, 1) := by decide +kernel
theorem dX8_seen_79 : decode cX8_seen 79 = .ok (.iload_n 3, 1) := by decide +kernel
theorem dX8_seen_80 : decode cX8_seen 80 = .ok (.iload 4, 2) := by decide +kernel
theorem dX8_seen_82 : decode cX8_seen 82 = .ok (.invokevirtual 156, 3) := by decide +kernel
theorem dX8_seen_85 : decode cX8_seen 85 = .ok (.aload_n 0, 1) := by decide +kernel
theorem dX8_seen_86 : decode cX8_seen 86 = .ok (.getfield 7, 3) := by decide +kernel
theorem dX8_seen_89 : decode cX8_seen 89 = .ok (.iconst 2, 1) := by decide +kernel
theorem dX8_seen_90 : decode cX8_seen 90 = .ok (.dup2, 1) := by decide +kernel
theorem dX8_seen_91 : decode cX8_seen 91 = .ok (.iaload, 1) := by decide +kernel
theorem dX8_seen_92 : decode cX8_seen 92 = .ok (.iconst 1, 1) := by decide +kernel
theorem dX8_seen_93 : decode cX8_seen 93 = .ok (.iadd, 1) := by decide +kernel
theorem dX8_seen_94 : decode cX8_seen 94 = .ok (.iastore, 1) := by decide +kernel
theorem dX8_seen_95 : decode cX8_seen 95 = .ok (.aload_n 0, 1) := by decide +kernel
theorem dX8_seen_96 : decode cX8_seen 96 = .ok (.getfield 7, 3) := by decide +kernel
theorem dX8_seen_99 : decode cX8_seen 99 = .ok (.iconst 2, 1) := by decide +kernel
theorem dX8_seen_100 : decode cX8_seen 100 = .ok (.iaload, 1) := by decide +kernel
theorem dX8_seen_101 : decode cX8_seen 101 = .ok (.ireturn, 1) := by decide +kernel
set_option maxRecDepth 20000 in
theorem ggX8_isSkilledBy_X8_likedAs : GoodIn wsX8_isSkilledBy wsX8_likedAs := goodIn_r _ [5] (by decide +kernel) (by decide +kernel)
set_option maxRecDepth 20000 in
theorem gX8_isSkilledBy_X8_likedAs : GoodIn wsX8_isSkilledBy (va_wsS RX8 101 yX8_likedAs wsX8_likedAs) := goodIn_app (goodIn_of _ (by decide +kernel)) ggX8_isSkilledBy_X8_likedAs
theorem dX8_isSkilledBy_0 : decode cX8_isSkilledBy 0 = .ok (.iconst 1, 1) := by decide +kernel
theorem dX8_isSkilledBy_1 : decode cX8_isSkilledBy 1 = .ok (.istore_n 3, 1) := by decide +kernel
theorem dX8_isSkilledBy_2 : decode cX8_isSkilledBy 2 = .ok (.iconst 0, 1) := by decide +kernel
theorem dX8_isSkilledBy_3 : decode cX8_isSkilledBy 3 = .ok (.istore 4, 2) := by decide +kernel
theorem dX8_isSkilledBy_5 : decode cX8_isSkilledBy 5 = .ok (.iload 4, 2) := by decide +kernel
theorem dX8_isSkilledBy_7 : decode cX8_isSkilledBy 7 = .ok (.aload_n 0, 1) := by decide +kernel
theorem dX8_isSkilledBy_8 : decode cX8_isSkilledBy 8 = .ok (.getfield 7, 3) := by decide +kernel
theorem dX8_isSkilledBy_11 : decode cX8_isSkilledBy 11 = .ok (.iconst 2, 1) := by decide +kernel
theorem dX8_isSkilledBy_12 : decode cX8_isSkilledBy 12 = .ok (.iaload, 1) := by decide +kernel
theorem dX8_isSkilledBy_13 : decode cX8_isSkilledBy 13 = .ok (.if_icmp .ge 103, 3) := by decide +kernel
theorem dX8_isSkilledBy_16 : decode cX8_isSkilledBy 16 = .ok (.bipush 36, 2) := by decide +kernel
theorem dX8_isSkilledBy_18 : decode cX8_isSkilledBy 18 = .ok (.iconst 4, 1) := by decide +kernel
theorem dX8_isSkilledBy_19 : decode cX8_isSkilledBy 19 = .ok (.iload 4, 2) := by decide +kernel
theorem dX8_isSkilledBy_21 : decode cX8_isSkilledBy 21 = .ok (.imul, 1) := by decide +kernel
theorem dX8_isSkilledBy_22 : decode cX8_isSkilledBy 22 = .ok (.iadd, 1) := by decide +kernel
theorem dX8_isSkilledBy_23 : decode cX8_isSkilledBy 23 = .ok (.istore 5, 2) := by decide +kernel
theorem dX8_isSkilledBy_25 : decode cX8_isSkilledBy 25 = .ok (.aload_n 0, 1) := by decide +kernel
theorem dX8_isSkilledBy_26 : decode cX8_isSkilledBy 26 = .ok (.getfield 7, 3) := by decide +kernel
theorem dX8_isSkilledBy_29 : decode cX8_isSkilledBy 29 = .ok (.bipush 20, 2) := by decide +kernel
theorem dX8_isSkilledBy_31 : decode cX8_isSkilledBy 31 = .ok (.iload_n 1, 1) := by decide +kernel
theorem dX8_isSkilledBy_32 : decode cX8_isSkilledBy 32 = .ok (.iadd, 1) := by decide +kernel
theorem dX8_isSkilledBy_33 : decode cX8_isSkilledBy 33 = .ok (.iaload, 1) := by decide +kernel
theorem dX8_isSkilledBy_34 : decode cX8_isSkilledBy 34 = .ok (.iload_n 2, 1) := by decide +kernel
theorem dX8_isSkilledBy_35 : decode cX8_isSkilledBy 35 = .ok (.aload_n 0, 1) := by decide +kernel
theorem dX8_isSkilledBy_36 : decode cX8_isSkilledBy 36 = .ok (.getfield 7, 3) := by decide +kernel
theorem dX8_isSkilledBy_39 : decode cX8_isSkilledBy 39 = .ok (.iload 5, 2) := by decide +kernel
theorem dX8_isSkilledBy_41 : decode cX8_isSkilledBy 41 = .ok (.iconst 1, 1) := by decide +kernel
theorem dX8_isSkilledBy_42 : decode cX8_isSkilledBy 42 = .ok (.iadd, 1) := by decide +kernel
theorem dX8_isSkilledBy_43 : decode cX8_isSkilledBy 43 = .ok (.iaload, 1) := by decide +kernel
theorem dX8_isSkilledBy_44 : decode cX8_isSkilledBy 44 = .ok (.invokestatic 101, 3) := by decide +kernel
theorem dX8_isSkilledBy_47 : decode cX8_isSkilledBy 47 = .ok (.aload_n 0, 1) := by decide +kernel
theorem dX8_isSkilledBy_48 : decode cX8_isSkilledBy 48 = .ok (.getfield 7, 3) := by decide +kernel
theorem dX8_isSkilledBy_51 : decode cX8_isSkilledBy 51 = .ok (.iload 5, 2) := by decide +kernel
theorem dX8_isSkilledBy_53 : decode cX8_isSkilledBy 53 = .ok (.iconst 2, 1) := by decide +kernel
theorem dX8_isSkilledBy_54 : decode cX8_isSkilledBy 54 = .ok (.iadd, 1) := by decide +kernel
theorem dX8_isSkilledBy_55 : decode cX8_isSkilledBy 55 = .ok (.iaload, 1) := by decide +kernel
theorem dX8_isSkilledBy_56 : decode cX8_isSkilledBy 56 = .ok (.if_icmp .gt 7, 3) := by decide +kernel
theorem dX8_isSkilledBy_59 : decode cX8_isSkilledBy 59 = .ok (.iconst 1, 1) := by decide +kernel
theorem dX8_isSkilledBy_60 : decode cX8_isSkilledBy 60 = .ok (.goto 4, 3) := by decide +kernel
theorem dX8_isSkilledBy_63 : decode cX8_isSkilledBy 63 = .ok (.iconst 0, 1) := by decide +kernel
theorem dX8_isSkilledBy_64 : decode cX8_isSkilledBy 64 = .ok (.istore 6, 2) := by decide +kernel
theorem dX8_isSkilledBy_66 : decode cX8_isSkilledBy 66 = .ok (.iload_n 3, 1) := by decide +kernel
theorem dX8_isSkilledBy_67 : decode cX8_isSkilledBy 67 = .ok (.ifCond .eq 41, 3) := by decide +kernel
theorem dX8_isSkilledBy_70 : decode cX8_isSkilledBy 70 = .ok (.aload_n 0, 1) := by decide +kernel
theorem dX8_isSkilledBy_71 : decode cX8_isSkilledBy 71 = .ok (.getfield 7, 3) := by decide +kernel
theorem dX8_isSkilledBy_74 : decode cX8_isSkilledBy 74 = .ok (.iload 5, 2) := by decide +kernel
theorem dX8_isSkilledBy_76 : decode cX8_isSkilledBy 76 = .ok (.iaload, 1) := by decide +kernel
theorem dX8_isSkilledBy_77 : decode cX8_isSkilledBy 77 = .ok (.iload_n 1, 1) := by decide +kernel
theorem dX8_isSkilledBy_78 : decode cX8_isSkilledBy 78 = .ok (.if_icmp .ne 26, 3) := by decide +kernel
theorem dX8_isSkilledBy_81 : decode cX8_isSkilledBy 81 = .ok (.iload 6, 2) := by decide +kernel
theorem dX8_isSkilledBy_83 : decode cX8_isSkilledBy 83 = .ok (.aload_n 0, 1) := by decide +kernel
theorem dX8_isSkilledBy_84 : decode cX8_isSkilledBy 84 = .ok (.getfield 7, 3) := by decide +kernel
theorem dX8_isSkilledBy_87 : decode cX8_isSkilledBy 87 = .ok (.iload 5, 2) := by decide +kernel
theorem dX8_isSkilledBy_89 : decode cX8_isSkilledBy 89 = .ok (.iconst 3, 1) := by decide +kernel
theorem dX8_isSkilledBy_90 : decode cX8_isSkilledBy 90 = .ok (.iadd, 1) := by decide +kernel
theorem dX8_isSkilledBy_91 : decode cX8_isSkilledBy 91 = .ok (.iaload, 1) := by decide +kernel
theorem dX8_isSkilledBy_92 : decode cX8_isSkilledBy 92 = .ok (.iconst 1, 1) := by decide +kernel
theorem dX8_isSkilledBy_93 : decode cX8_isSkilledBy 93 = .ok (.if_icmp .ne 7, 3) := by decide +kernel
theorem dX8_isSkilledBy_96 : decode cX8_isSkilledBy 96 = .ok (.iconst 1, 1) := by decide +kernel
theorem dX8_isSkilledBy_97 : decode cX8_isSkilledBy 97 = .ok (.goto 4, 3) := by decide +kernel
theorem dX8_isSkilledBy_100 : decode cX8_isSkilledBy 100 = .ok (.iconst 0, 1) := by decide +kernel
theorem dX8_isSkilledBy_101 : decode cX8_isSkilledBy 101 = .ok (.if_icmp .ne 7, 3) := by decide +kernel
theorem dX8_isSkilledBy_104 : decode cX8_isSkilledBy 104 = .ok (.iconst 1, 1) := by decide +kernel
theorem dX8_isSkilledBy_105 : decode cX8_isSkilledBy 105 = .ok (.goto 4, 3) := by decide +kernel
theorem dX8_isSkilledBy_108 : decode cX8_isSkilledBy 108 = .ok (.iconst 0, 1) := by decide +kernel
theorem dX8_isSkilledBy_109 : decode cX8_isSkilledBy 109 = .ok (.istore_n 3, 1) := by decide +kernel
theorem dX8_isSkilledBy_110 : decode cX8_isSkilledBy 110 = .ok (.iinc 4 1, 3) := by decide +kernel
theorem dX8_isSkilledBy_113 : decode cX8_isSkilledBy 113 = .ok (.goto (-108), 3) := by decide +kernel
theorem dX8_isSkilledBy_116 : decode cX8_isSkilledBy 116 = .ok (.iload_n 3, 1) := by decide +kernel
theorem dX8_isSkilledBy_117 : decode cX8_isSkilledBy 117 = .ok (.ireturn, 1) := by decide +kernel
set_option maxRecDepth 20000 in
theorem ggX8_skilled_X8_isMan : GoodIn wsX8_skilled wsX8_isMan := goodIn_r _ [6, 7, 8, 9, 5, 10, 11, 12, 13, 14, 27, 28, 29, 30, 31, 32, 33, 34, 35, 36, 37, 38, 39, 40, 41, 42, 43, 44, 45] (by decide +kernel) (by decide +kernel)
set_option maxRecDepth 20000 in
theorem gX8_skilled_X8_isMan : GoodIn wsX8_skilled (wsV RX8 120 RX8 yX8_isMan wsX8_isMan) := goodIn_app (goodIn_of _ (by decide +kernel)) ggX8_skilled_X8_isMan
set_option maxRecDepth 20000 in
theorem ggX8_skilled_X8_in : GoodIn wsX8_skilled wsX8_in := goodIn_r _ [14] (by decide +kernel) (by decide +kernel)
set_option maxRecDepth 20000 in
theorem gX8_skilled_X8_in : GoodIn wsX8_skilled (va_wsS RX8 59 yX8_in wsX8_in) := goodIn_app (goodIn_of _ (by decide +kernel)) ggX8_skilled_X8_in
set_option maxRecDepth 20000 in
theorem ggX8_skilled_X8_bad : GoodIn wsX8_skilled wsX8_bad := goodIn_r _ [18, 19, 27, 28, 29, 30, 31, 32, 33, 34, 35, 36, 37, 38, 39, 40, 41, 42, 43, 44, 45] (by decide +kernel) (by decide +kernel)
set_option maxRecDepth 20000 in
theorem gX8_skilled_X8_bad : GoodIn wsX8_skilled (wsV RX8 73 RX8 yX8_bad wsX8_bad) := goodIn_app (goodIn_of _ (by decide +kernel)) ggX8_skilled_X8_bad
set_option maxRecDepth 20000 in
theorem ggX8_skilled_X8_isSkilledBy : GoodIn wsX8_skilled wsX8_isSkilledBy := goodIn_r _ [23, 11, 24, 25, 5, 26, 27, 28, 29, 30, 31, 32, 33, 34, 35, 36, 37, 38, 39, 40, 41, 42, 43, 44, 45] (by decide +kernel) (by decide +kernel)
set_option maxRecDepth 20000 in
theorem gX8_skilled_X8_isSkilledBy : GoodIn wsX8_skilled (wsV RX8 162 RX8 yX8_isSkilledBy wsX8_isSkilledBy) := goodIn_app (goodIn_of _ (by decide +kernel)) ggX8_skilled_X8_isSkilledBy
theorem dX8_skilled_0 : decode cX8_skilled 0 = .ok (.aload_n 0, 1) := by decide +kernel
theorem dX8_skilled_1 : decode cX8_skilled 1 = .ok (.iload_n 1, 1) := by decide +kernel
theorem dX8_skilled_2 : decode cX8_skilled 2 = .ok (.invokevirtual 120, 3) := by decide +kernel
theorem dX8_skilled_5 : decode cX8_skilled 5 = .ok (.ifCond .eq 15, 3) := by decide +kernel
theorem dX8_skilled_8 : decode cX8_skilled 8 = .ok (.iload_n 2, 1) := by decide +kernel
theorem dX8_skilled_9 : decode cX8_skilled 9 = .ok (.i2l, 1) := by decide +kernel
theorem dX8_skilled_10 : decode cX8_skilled 10 = .ok (.lconst 0, 1) := by decide +kernel
theorem dX8_skilled_11 : decode cX8_skilled 11 = .ok (.ldc2_w 160, 3) := by decide +kernel
theorem dX8_skilled_14 : decode cX8_skilled 14 = .ok (.invokestatic 59, 3) := by decide +kernel
theorem dX8_skilled_17 : decode cX8_skilled 17 = .ok (.ifCond .ne 10, 3) := by decide +kernel
theorem dX8_skilled_20 : decode cX8_skilled 20 = .ok (.aload_n 0, 1) := by decide +kernel
theorem dX8_skilled_21 : decode cX8_skilled 21 = .ok (.bipush (-2), 2) := by decide +kernel
theorem dX8_skilled_23 : decode cX8_skilled 23 = .ok (.invokevirtual 73, 3) := by decide +kernel
theorem dX8_skilled_26 : decode cX8_skilled 26 = .ok (.ireturn, 1) := by decide +kernel
theorem dX8_skilled_27 : decode cX8_skilled 27 = .ok (.iconst 0, 1) := by decide +kernel
theorem dX8_skilled_28 : decode cX8_skilled 28 = .ok (.istore_n 3, 1) := by decide +kernel
theorem dX8_skilled_29 : decode cX8_skilled 29 = .ok (.iconst (-1), 1) := by decide +kernel
theorem dX8_skilled_30 : decode cX8_skilled 30 = .ok (.istore 4, 2) := by decide +kernel
theorem dX8_skilled_32 : decode cX8_skilled 32 = .ok (.iconst (-1), 1) := by decide +kernel
theorem dX8_skilled_33 : decode cX8_skilled 33 = .ok (.istore 5, 2) := by decide +kernel
theorem dX8_skilled_35 : decode cX8_skilled 35 = .ok (.iconst 1, 1) := by decide +kernel
theorem dX8_skilled_36 : decode cX8_skilled 36 = .ok (.istore 6, 2) := by decide +kernel
theorem dX8_skilled_38 : decode cX8_skilled 38 = .ok (.iload 6, 2) := by decide +kernel
theorem dX8_skilled_40 : decode cX8_skilled 40 = .ok (.bipush 10, 2) := by decide +kernel
theorem dX8_skilled_42 : decode cX8_skilled 42 = .ok (.if_icmp .ge 39, 3) := by decide +kernel
theorem dX8_skilled_45 : decode cX8_skilled 45 = .ok (.aload_n 0, 1) := by decide +kernel
theorem dX8_skilled_46 : decode cX8_skilled 46 = .ok (.iload_n 1, 1) := by decide +kernel
theorem dX8_skilled_47 : decode cX8_skilled 47 = .ok (.iload 6, 2) := by decide +kernel
theorem dX8_skilled_49 : decode cX8_skilled 49 = .ok (.invokevirtual 162, 3) := by decide +kernel
theorem dX8_skilled_52 : decode cX8_skilled 52 = .ok (.ifCond .eq 23, 3) := by decide +kernel
theorem dX8_skilled_55 : decode cX8_skilled 55 = .ok (.iload_n 3, 1) := by decide +kernel
theorem dX8_skilled_56 : decode cX8_skilled 56 = .ok (.ifCond .ne 8, 3) := by decide +kernel
theorem dX8_skilled_59 : decode cX8_skilled 59 = .ok (.iload 6, 2) := by decide +kernel
theorem dX8_skilled_61 : decode cX8_skilled 61 = .ok (.goto 5, 3) := by decide +kernel
theorem dX8_skilled_64 : decode cX8_skilled 64 = .ok (.iload 4, 2) := by decide +kernel
theorem dX8_skilled_66 : decode cX8_skilled 66 = .ok (.istore 4, 2) := by decide +kernel
theorem dX8_skilled_68 : decode cX8_skilled 68 = .ok (.iload 6, 2) := by decide +kernel
theorem dX8_skilled_70 : decode cX8_skilled 70 = .ok (.istore 5, 2) := by decide +kernel
theorem dX8_skilled_72 : decode cX8_skilled 72 = .ok (.iinc 3 1, 3) := by decide +kernel
theorem dX8_skilled_75 : decode cX8_skilled 75 = .ok (.iinc 6 1, 3) := by decide +kernel
theorem dX8_skilled_78 : decode cX8_skilled 78 = .ok (.goto (-40), 3) := by decide +kernel
theorem dX8_skilled_81 : decode cX8_skilled 81 = .ok (.iload_n 2, 1) := by decide +kernel
theorem dX8_skilled_82 : decode cX8_skilled 82 = .ok (.ifCond .ne 7, 3) := by decide +kernel
theorem dX8_skilled_85 : decode cX8_skilled 85 = .ok (.iload_n 3, 1) := by decide +kernel
theorem dX8_skilled_86 : decode cX8_skilled 86 = .ok (.goto 15, 3) := by decide +kernel
theorem dX8_skilled_89 : decode cX8_skilled 89 = .ok (.iload_n 2, 1) := by decide +kernel
theorem dX8_skilled_90 : decode cX8_skilled 90 = .ok (.iconst 1, 1) := by decide +kernel
theorem dX8_skilled_91 : decode cX8_skilled 91 = .ok (.if_icmp .ne 8, 3) := by decide +kernel
theorem dX8_skilled_94 : decode cX8_skilled 94 = .ok (.iload 4, 2) := by decide +kernel
theorem dX8_skilled_96 : decode cX8_skilled 96 = .ok (.goto 5, 3) := by decide +kernel
theorem dX8_skilled_99 : decode cX8_skilled 99 = .ok (.iload 5, 2) := by decide +kernel
theorem dX8_skilled_101 : decode cX8_skilled 101 = .ok (.ireturn, 1) := by decide +kernel
set_option maxRecDepth 20000 in
theorem ggX8_tell_X8_isMan : GoodIn wsX8_tell wsX8_isMan := goodIn_r _ [7, 8, 9, 10, 6, 11, 2, 12, 13, 14, 27, 28, 29, 30, 31, 32, 33, 34, 35, 36, 37, 38, 39, 40, 41, 42, 43, 44, 45] (by decide +kernel) (by decide +kernel)
set_option maxRecDepth 20000 in
theorem gX8_tell_X8_isMan : GoodIn wsX8_tell (wsV RX8 120 RX8 yX8_isMan wsX8_isMan) := goodIn_app (goodIn_of _ (by decide +kernel)) ggX8_tell_X8_isMan
set_option maxRecDepth 20000 in
theorem ggX8_tell_X8_bad : GoodIn wsX8_tell wsX8_bad := goodIn_r _ [18, 19, 27, 28, 29, 30, 31, 32, 33, 34, 35, 36, 37, 38, 39, 40, 41, 42, 43, 44, 45] (by decide +kernel) (by decide +kernel)
set_option maxRecDepth 20000 in
theorem gX8_tell_X8_bad : GoodIn wsX8_tell (wsV RX8 73 RX8 yX8_bad wsX8_bad) := goodIn_app (goodIn_of _ (by decide +kernel)) ggX8_tell_X8_bad
set_option maxRecDepth 20000 in
theorem ggX8_tell_X8_likedAs : GoodIn wsX8_tell wsX8_likedAs := goodIn_r _ [22] (by decide +kernel) (by decide +kernel)
set_option maxRecDepth 20000 in
theorem gX8_tell_X8_likedAs : GoodIn wsX8_tell (va_wsS RX8 101 yX8_likedAs wsX8_likedAs) := goodIn_app (goodIn_of _ (by decide +kernel)) ggX8_tell_X8_likedAs
set_option maxRecDepth 20000 in
theorem ggX8_tell_X8_isSkilledBy : GoodIn wsX8_tell wsX8_isSkilledBy := goodIn_r _ [26, 2, 20, 21, 6, 22, 27, 28, 29, 30, 31, 32, 33, 34, 35, 36, 37, 38, 39, 40, 41, 42, 43, 44, 45] (by decide +kernel) (by decide +kernel)
set_option maxRecDepth 20000 in
theorem gX8_tell_X8_isSkilledBy : GoodIn wsX8_tell (wsV RX8 162 RX8 yX8_isSkilledBy wsX8_isSkilledBy) := goodIn_app (goodIn_of _ (by decide +kernel)) ggX8_tell_X8_isSkilledBy
theorem dX8_tell_0 : decode cX8_tell 0 = .ok (.aload_n 0, 1) := by decide +kernel
theorem dX8_tell_1 : decode cX8_tell 1 = .ok (.iload_n 1, 1) := by decide +kernel
theorem dX8_tell_2 : decode cX8_tell 2 = .ok (.invokevirtual 120, 3) := by decide +kernel
theorem dX8_tell_5 : decode cX8_tell 5 = .ok (.ifCond .ne 10, 3) := by decide +kernel
theorem dX8_tell_8 : decode cX8_tell 8 = .ok (.aload_n 0, 1) := by decide +kernel
theorem dX8_tell_9 : decode cX8_tell 9 = .ok (.bipush (-2), 2) := by decide +kernel
theorem dX8_tell_11 : decode cX8_tell 11 = .ok (.invokevirtual 73, 3) := by decide +kernel
theorem dX8_tell_14 : decode cX8_tell 14 = .ok (.ireturn, 1) := by decide +kernel
theorem dX8_tell_15 : decode cX8_tell 15 = .ok (.iconst (-1), 1) := by decide +kernel
theorem dX8_tell_16 : decode cX8_tell 16 = .ok (.istore_n 2, 1) := by decide +kernel
theorem dX8_tell_17 : decode cX8_tell 17 = .ok (.ldc 146, 2) := by decide +kernel
theorem dX8_tell_19 : decode cX8_tell 19 = .ok (.istore_n 3, 1) := by decide +kernel
theorem dX8_tell_20 : decode cX8_tell 20 = .ok (.iconst 0, 1) := by decide +kernel
theorem dX8_tell_21 : decode cX8_tell 21 = .ok (.istore 4, 2) := by decide +kernel
theorem dX8_tell_23 : decode cX8_tell 23 = .ok (.iload 4, 2) := by decide +kernel
theorem dX8_tell_25 : decode cX8_tell 25 = .ok (.bipush 6, 2) := by decide +kernel
theorem dX8_tell_27 : decode cX8_tell 27 = .ok (.if_icmp .ge 183, 3) := by decide +kernel
theorem dX8_tell_30 : decode cX8_tell 30 = .ok (.iconst 0, 1) := by decide +kernel
theorem dX8_tell_31 : decode cX8_tell 31 = .ok (.istore 5, 2) := by decide +kernel
theorem dX8_tell_33 : decode cX8_tell 33 = .ok (.iload 5, 2) := by decide +kernel
theorem dX8_tell_35 : decode cX8_tell 35 = .ok (.bipush 30, 2) := by decide +kernel
theorem dX8_tell_37 : decode cX8_tell 37 = .ok (.if_icmp .gt 167, 3) := by decide +kernel
theorem dX8_tell_40 : decode cX8_tell 40 = .ok (.iconst 0, 1) := by decide +kernel
theorem dX8_tell_41 : decode cX8_tell 41 = .ok (.istore 6, 2) := by decide +kernel
theorem dX8_tell_43 : decode cX8_tell 43 = .ok (.iconst 0, 1) := by decide +kernel
theorem dX8_tell_44 : decode cX8_tell 44 = .ok (.istore 7, 2) := by decide +kernel
theorem dX8_tell_46 : decode cX8_tell 46 = .ok (.iconst 1, 1) := by decide +kernel
theorem dX8_tell_47 : decode cX8_tell 47 = .ok (.istore 8, 2) := by decide +kernel
theorem dX8_tell_49 : decode cX8_tell 49 = .ok (.iload 8, 2) := by decide +kernel
theorem dX8_tell_51 : decode cX8_tell 51 = .ok (.bipush 10, 2) := by decide +kernel
theorem dX8_tell_53 : decode cX8_tell 53 = .ok (.if_icmp .ge 87, 3) := by decide +kernel
theorem dX8_tell_56 : decode cX8_tell 56 = .ok (.aload_n 0, 1) := by decide +kernel
theorem dX8_tell_57 : decode cX8_tell 57 = .ok (.getfield 7, 3) := by decide +kernel
theorem dX8_tell_60 : decode cX8_tell 60 = .ok (.bipush 20, 2) := by decide +kernel
theorem dX8_tell_62 : decode cX8_tell 62 = .ok (.iload_n 1, 1) := by decide +kernel
theorem dX8_tell_63 : decode cX8_tell 63 = .ok (.iadd, 1) := by decide +kernel
theorem dX8_tell_64 : decode cX8_tell 64 = .ok (.iaload, 1) := by decide +kernel
theorem dX8_tell_65 : decode cX8_tell 65 = .ok (.iload 8, 2) := by decide +kernel
theorem dX8_tell_67 : decode cX8_tell 67 = .ok (.iload 4, 2) := by decide +kernel
theorem dX8_tell_69 : decode cX8_tell 69 = .ok (.invokestatic 101, 3) := by decide +kernel
theorem dX8_tell_72 : decode cX8_tell 72 = .ok (.iload 5, 2) := by decide +kernel
theorem dX8_tell_74 : decode cX8_tell 74 = .ok (.if_icmp .gt 7, 3) := by decide +kernel
theorem dX8_tell_77 : decode cX8_tell 77 = .ok (.iconst 1, 1) := by decide +kernel
theorem dX8_tell_78 : decode cX8_tell 78 = .ok (.goto 4, 3) := by decide +kernel
theorem dX8_tell_81 : decode cX8_tell 81 = .ok (.iconst 0, 1) := by decide +kernel
theorem dX8_tell_82 : decode cX8_tell 82 = .ok (.istore 9, 2) := by decide +kernel
theorem dX8_tell_84 : decode cX8_tell 84 = .ok (.iload 6, 2) := by decide +kernel
theorem dX8_tell_86 : decode cX8_tell 86 = .ok (.aload_n 0, 1) := by decide +kernel
theorem dX8_tell_87 : decode cX8_tell 87 = .ok (.iload_n 1, 1) := by decide +kernel
theorem dX8_tell_88 : decode cX8_tell 88 = .ok (.iload 8, 2) := by decide +kernel
theorem dX8_tell_90 : decode cX8_tell 90 = .ok (.invokevirtual 162, 3) := by decide +kernel
theorem dX8_tell_93 : decode cX8_tell 93 = .ok (.ifCond .eq 12, 3) := by decide +kernel
theorem dX8_tell_96 : decode cX8_tell 96 = .ok (.iload 9, 2) := by decide +kernel
theorem dX8_tell_98 : decode cX8_tell 98 = .ok (.ifCond .eq 7, 3) := by decide +kernel
theorem dX8_tell_101 : decode cX8_tell 101 = .ok (.iconst 1, 1) := by decide +kernel
theorem dX8_tell_102 : decode cX8_tell 102 = .ok (.goto 4, 3) := by decide +kernel
theorem dX8_tell_105 : decode cX8_tell 105 = .ok (.iconst 0, 1) := by decide +kernel
theorem dX8_tell_106 : decode cX8_tell 106 = .ok (.iadd, 1) := by decide +kernel
theorem dX8_tell_107 : decode cX8_tell 107 = .ok (.istore 6, 2) := by decide +kernel
theorem dX8_tell_109 : decode cX8_tell 109 = .ok (.iload 7, 2) := by decide +kernel
theorem dX8_tell_111 : decode cX8_tell 111 = .ok (.aload_n 0, 1) := by decide +kernel
theorem dX8_tell_112 : decode cX8_tell 112 = .ok (.iload_n 1, 1) := by decide +kernel
theorem dX8_tell_113 : decode cX8_tell 113 = .ok (.iload 8, 2) := by decide +kernel
theorem dX8_tell_115 : decode cX8_tell 115 = .ok (.invokevirtual 162, 3) := by decide +kernel
theorem dX8_tell_118 : decode cX8_tell 118 = .ok (.ifCond .eq 12, 3) := by decide +kernel
theorem dX8_tell_121 : decode cX8_tell 121 = .ok (.iload 9, 2) := by decide +kernel
theorem dX8_tell_123 : decode cX8_tell 123 = .ok (.ifCond .ne 7, 3) := by decide +kernel
theorem dX8_tell_126 : decode cX8_tell 126 = .ok (.iconst 1, 1) := by decide +kernel
theorem dX8_tell_127 : decode cX8_tell 127 = .ok (.goto 4, 3) := by decide +kernel
theorem dX8_tell_130 : decode cX8_tell 130 = .ok (.iconst 0, 1) := by decide +kernel
theorem dX8_tell_131 : decode cX8_tell 131 = .ok (.iadd, 1) := by decide +kernel
theorem dX8_tell_132 : decode cX8_tell 132 = .ok (.istore 7, 2) := by decide +kernel
theorem dX8_tell_134 : decode cX8_tell 134 = .ok (.iinc 8 1, 3) := by decide +kernel
theorem dX8_tell_137 : decode cX8_tell 137 = .ok (.goto (-88), 3) := by decide +kernel
theorem dX8_tell_140 : decode cX8_tell 140 = .ok (.iload 6, 2) := by decide +kernel
theorem dX8_tell_142 : decode cX8_tell 142 = .ok (.iload 7, 2) := by decide +kernel
theorem dX8_tell_144 : decode cX8_tell 144 = .ok (.if_icmp .le 8, 3) := by decide +kernel
theorem dX8_tell_147 : decode cX8_tell 147 = .ok (.iload 6, 2) := by decide +kernel
theorem dX8_tell_149 : decode cX8_tell 149 = .ok (.goto 5, 3) := by decide +kernel
theorem dX8_tell_152 : decode cX8_tell 152 = .ok (.iload 7, 2) := by decide +kernel
theorem dX8_tell_154 : decode cX8_tell 154 = .ok (.istore 8, 2) := by decide +kernel
theorem dX8_tell_156 : decode cX8_tell 156 = .ok (.iload 8, 2) := by decide +kernel
theorem dX8_tell_158 : decode cX8_tell 158 = .ok (.ifCond .le 20, 3) := by decide +kernel
theorem dX8_tell_161 : decode cX8_tell 161 = .ok (.iload 8, 2) := by decide +kernel
theorem dX8_tell_163 : decode cX8_tell 163 = .ok (.iload_n 3, 1) := by decide +kernel
theorem dX8_tell_164 : decode cX8_tell 164 = .ok (.if_icmp .ge 14, 3) := by decide +kernel
theorem dX8_tell_167 : decode cX8_tell 167 = .ok (.bipush 100, 2) := by decide +kernel
theorem dX8_tell_169 : decode cX8_tell 169 = .ok (.iload 4, 2) := by decide +kernel
theorem dX8_tell_171 : decode cX8_tell 171 = .ok (.imul, 1) := by decide +kernel
theorem dX8_tell_172 : decode cX8_tell 172 = .ok (.iload 5, 2) := by decide +kernel
theorem dX8_tell_174 : decode cX8_tell 174 = .ok (.iadd, 1) := by decide +kernel
theorem dX8_tell_175 : decode cX8_tell 175 = .ok (.goto 4, 3) := by decide +kernel
theorem dX8_tell_178 : decode cX8_tell 178 = .ok (.iload_n 2, 1) := by decide +kernel
theorem dX8_tell_179 : decode cX8_tell 179 = .ok (.istore_n 2, 1) := by decide +kernel
theorem dX8_tell_180 : decode cX8_tell 180 = .ok (.iload 8, 2) := by decide +kernel
theorem dX8_tell_182 : decode cX8_tell 182 = .ok (.ifCond .le 14, 3) := by decide +kernel
theorem dX8_tell_185 : decode cX8_tell 185 = .ok (.iload 8, 2) := by decide +kernel
theorem dX8_tell_187 : decode cX8_tell 187 = .ok (.iload_n 3, 1) := by decide +kernel
theorem dX8_tell_188 : decode cX8_tell 188 = .ok (.if_icmp .ge 8, 3) := by decide +kernel
theorem dX8_tell_191 : decode cX8_tell 191 = .ok (.iload 8, 2) := by decide +kernel
theorem dX8_tell_193 : decode cX8_tell 193 = .ok (.goto 4, 3) := by decide +kernel
theorem dX8_tell_196 : decode cX8_tell 196 = .ok (.iload_n 3, 1) := by decide +kernel
theorem dX8_tell_197 : decode cX8_tell 197 = .ok (.istore_n 3, 1) := by decide +kernel
theorem dX8_tell_198 : decode cX8_tell 198 = .ok (.iinc 5 1, 3) := by decide +kernel
theorem dX8_tell_201 : decode cX8_tell 201 = .ok (.goto (-168), 3) := by decide +kernel
theorem dX8_tell_204 : decode cX8_tell 204 = .ok (.iinc 4 1, 3) := by decide +kernel
theorem dX8_tell_207 : decode cX8_tell 207 = .ok (.goto (-184), 3) := by decide +kernel
theorem dX8_tell_210 : decode cX8_tell 210 = .ok (.iload_n 2, 1) := by decide +kernel
theorem dX8_tell_211 : decode cX8_tell 211 = .ok (.ireturn, 1) := by decide +kernel
set_option maxRecDepth 20000 in
theorem ggX8_note_X8_isShip : GoodIn wsX8_note wsX8_isShip := goodIn_r _ [8, 3, 9, 10, 7, 11, 29, 30, 31, 32, 33, 34, 35, 36, 37, 38, 39, 40, 41, 42, 43, 44, 45, 46, 47] (by decide +kernel) (by decide +kernel)
set_option maxRecDepth 20000 in
theorem gX8_note_X8_isShip : GoodIn wsX8_note (wsV RX8 83 RX8 yX8_isShip wsX8_isShip) := goodIn_app (goodIn_of _ (by decide +kernel)) ggX8_note_X8_isShip
set_option maxRecDepth 20000 in
theorem ggX8_note_X8_isFar : GoodIn wsX8_note wsX8_isFar := goodIn_r _ [14, 15, 9, 10, 7, 11] (by decide +kernel) (by decide +kernel)
set_option maxRecDepth 20000 in
theorem gX8_note_X8_isFar : GoodIn wsX8_note (va_wsS RX8 132 yX8_isFar wsX8_isFar) := goodIn_app (goodIn_of _ (by decide +kernel)) ggX8_note_X8_isFar
set_option maxRecDepth 20000 in
theorem ggX8_note_X8_in : GoodIn wsX8_note wsX8_in := goodIn_r _ [11] (by decide +kernel) (by decide +kernel)
set_option maxRecDepth 20000 in
theorem gX8_note_X8_in : GoodIn wsX8_note (va_wsS RX8 59 yX8_in wsX8_in) := goodIn_app (goodIn_of _ (by decide +kernel)) ggX8_note_X8_in
set_option maxRecDepth 20000 in
theorem ggX8_note_X8_bad : GoodIn wsX8_note wsX8_bad := goodIn_r _ [19, 20, 29, 30, 31, 32, 33, 34, 35, 36, 37, 38, 39, 40, 41, 42, 43, 44, 45, 46, 47] (by decide +kernel) (by decide +kernel)
set_option maxRecDepth 20000 in
theorem gX8_note_X8_bad : GoodIn wsX8_note (wsV RX8 73 RX8 yX8_bad wsX8_bad) := goodIn_app (goodIn_of _ (by decide +kernel)) ggX8_note_X8_bad
set_option maxRecDepth 20000 in
theorem ggX8_note_X8_full : GoodIn wsX8_note wsX8_full := goodIn_r _ [24, 20, 29, 30, 31, 32, 33, 34, 35, 36, 37, 38, 39, 40, 41, 42, 43, 44, 45, 46, 47] (by decide +kernel) (by decide +kernel)
set_option maxRecDepth 20000 in
theorem gX8_note_X8_full : GoodIn wsX8_note (wsV RX8 77 RX8 yX8_full wsX8_full) := goodIn_app (goodIn_of _ (by decide +kernel)) ggX8_note_X8_full
set_option maxRecDepth 20000 in
theorem ggX8_note_X8_layFour : GoodIn wsX8_note wsX8_layFour := goodIn_r _ [28, 3, 29, 30, 31, 32, 33, 34, 35, 36, 37, 38, 39, 40, 41, 42, 43, 44, 45, 46, 47] (by decide +kernel) (by decide +kernel)
set_option maxRecDepth 20000 in
theorem gX8_note_X8_layFour : GoodIn wsX8_note (wsV RX8 156 RX8 yX8_layFour wsX8_layFour) := goodIn_app (goodIn_of _ (by decide +kernel)) ggX8_note_X8_layFour
theorem dX8_note_0 : decode cX8_note 0 = .ok (.aload_n 0, 1) := by decide +kernel
theorem dX8_note_1 : decode cX8_note 1 = .ok (.iload_n 1, 1) := by decide +kernel
theorem dX8_note_2 : decode cX8_note 2 = .ok (.invokevirtual 83, 3) := by decide +kernel
theorem dX8_note_5 : decode cX8_note 5 = .ok (.ifCond .eq 35, 3) := by decide +kernel
theorem dX8_note_8 : decode cX8_note 8 = .ok (.iload_n 2, 1) := by decide +kernel
theorem dX8_note_9 : decode cX8_note 9 = .ok (.invokestatic 132, 3) := by decide +kernel
theorem dX8_note_12 : decode cX8_note 12 = .ok (.ifCond .eq 28, 3) := by decide +kernel
theorem dX8_note_15 : decode cX8_note 15 = .ok (.iload_n 3, 1) := by decide +kernel
theorem dX8_note_16 : decode cX8_note 16 = .ok (.i2l, 1) := by decide +kernel
theorem dX8_note_17 : decode cX8_note 17 = .ok (.lconst 0, 1) := by decide +kernel
theorem dX8_note_18 : decode cX8_note 18 = .ok (.ldc2_w 139, 3) := by decide +kernel
theorem dX8_note_21 : decode cX8_note 21 = .ok (.invokestatic 59, 3) := by decide +kernel
theorem dX8_note_24 : decode cX8_note 24 = .ok (.ifCond .eq 16, 3) := by decide +kernel
theorem dX8_note_27 : decode cX8_note 27 = .ok (.iload 4, 2) := by decide +kernel
theorem dX8_note_29 : decode cX8_note 29 = .ok (.i2l, 1) := by decide +kernel
theorem dX8_note_30 : decode cX8_note 30 = .ok (.lconst 0, 1) := by decide +kernel
theorem dX8_note_31 : decode cX8_note 31 = .ok (.ldc2_w 154, 3) := by decide +kernel
theorem dX8_note_34 : decode cX8_note 34 = .ok (.invokestatic 59, 3) := by decide +kernel
theorem dX8_note_37 : decode cX8_note 37 = .ok (.ifCond .ne 10, 3) := by decide +kernel
theorem dX8_note_40 : decode cX8_note 40 = .ok (.aload_n 0, 1) := by decide +kernel
theorem dX8_note_41 : decode cX8_note 41 = .ok (.bipush (-2), 2) := by decide +kernel
theorem dX8_note_43 : decode cX8_note 43 = .ok (.invokevirtual 73, 3) := by decide +kernel
theorem dX8_note_46 : decode cX8_note 46 = .ok (.ireturn, 1) := by decide +kernel
theorem dX8_note_47 : decode cX8_note 47 = .ok (.aload_n 0, 1) := by decide +kernel
theorem dX8_note_48 : decode cX8_note 48 = .ok (.getfield 7, 3) := by decide +kernel
theorem dX8_note_51 : decode cX8_note 51 = .ok (.iconst 3, 1) := by decide +kernel
theorem dX8_note_52 : decode cX8_note 52 = .ok (.iaload, 1) := by decide +kernel
theorem dX8_note_53 : decode cX8_note 53 = .ok (.bipush 6, 2) := by decide +kernel
theorem dX8_note_55 : decode cX8_note 55 = .ok (.if_icmp .ne 8, 3) := by decide +kernel
theorem dX8_note_58 : decode cX8_note 58 = .ok (.aload_n 0, 1) := by decide +kernel
theorem dX8_note_59 : decode cX8_note 59 = .ok (.invokevirtual 77, 3) := by decide +kernel
theorem dX8_note_62 : decode cX8_note 62 = .ok (.ireturn, 1) := by decide +kernel
theorem dX8_note_63 : decode cX8_note 63 = .ok (.aload_n 0, 1) := by decide +kernel
theorem dX8_note_64 : decode cX8_note 64 = .ok (.bipush 56, 2) := by decide +kernel
theorem dX8_note_66 : decode cX8_note 66 = .ok (.iconst 4, 1) := by decide +kernel
theorem dX8_note_67 : decode cX8_note 67 = .ok (.aload_n 0, 1) := by decide +kernel
theorem dX8_note_68 : decode cX8_note 68 = .ok (.getfield 7, 3) := by decide +kernel
theorem dX8_note_71 : decode cX8_note 71 = .ok (.iconst 3, 1) := by decide +kernel
theorem dX8_note_72 : decode cX8_note 72 = .ok (.iaload, 1) := by decide +kernel
theorem dX8_note_73 : decode cX8_note 73 = .ok (.imul, 1) := by decide +kernel
theorem dX8_note_74 : decode cX8_note 74 = .ok (.iadd, 1) := by decide +kernel
theorem dX8_note_75 : decode cX8_note 75 = .ok (.iload_n 1, 1) := by decide +kernel
theorem dX8_note_76 : decode cX8_note 76 = .ok (.iload_n 2, 1) := by decide +kernel
theorem dX8_note_77 : decode cX8_note 77 = .ok (.iload_n 3, 1) := by decide +kernel
theorem dX8_note_78 : decode cX8_note 78 = .ok (.iload 4, 2) := by decide +kernel
theorem dX8_note_80 : decode cX8_note 80 = .ok (.invokevirtual 156, 3) := by decide +kernel
theorem dX8_note_83 : decode cX8_note 83 = .ok (.aload_n 0, 1) := by decide +kernel
theorem dX8_note_84 : decode cX8_note 84 = .ok (.getfield 7, 3) := by decide +kernel
theorem dX8_note_87 : decode cX8_note 87 = .ok (.iconst 3, 1) := by decide +kernel
theorem dX8_note_88 : decode cX8_note 88 = .ok (.dup2, 1) := by decide +kernel
theorem dX8_note_89 : decode cX8_note 89 = .ok (.iaload, 1) := by decide +kernel
theorem dX8_note_90 : decode cX8_note 90 = .ok (.iconst 1, 1) := by decide +kernel
theorem dX8_note_91 : decode cX8_note 91 = .ok (.iadd, 1) := by decide +kernel
theorem dX8_note_92 : decode cX8_note 92 = .ok (.iastore, 1) := by decide +kernel
theorem dX8_note_93 : decode cX8_note 93 = .ok (.aload_n 0, 1) := by decide +kernel
theorem dX8_note_94 : decode cX8_note 94 = .ok (.getfield 7, 3) := by decide +kernel
theorem dX8_note_97 : decode cX8_note 97 = .ok (.iconst 3, 1) := by decide +kernel
theorem dX8_note_98 : decode cX8_note 98 = .ok (.iaload, 1) := by decide +kernel
theorem dX8_note_99 : decode cX8_note 99 = .ok (.ireturn, 1) := by decide +kernel
set_option maxRecDepth 20000 in
theorem ggX8_mark_X8_isMan : GoodIn wsX8_mark wsX8_isMan := goodIn_r _ [8, 9, 10, 11, 7, 12, 3, 13, 14, 15, 33, 34, 35, 36, 37, 38, 39, 40, 41, 42, 43, 44, 45, 46, 47, 48, 49, 50, 51] (by decide +kernel) (by decide +kernel)
set_option maxRecDepth 20000 in
theorem gX8_mark_X8_isMan : GoodIn wsX8_mark (wsV RX8 120 RX8 yX8_isMan wsX8_isMan) := goodIn_app (goodIn_of _ (by decide +kernel)) ggX8_mark_X8_isMan
set_option maxRecDepth 20000 in
theorem ggX8_mark_X8_isSkill : GoodIn wsX8_mark wsX8_isSkill := goodIn_r _ [18, 19, 13, 14, 7, 15] (by decide +kernel) (by decide +kernel)
set_option maxRecDepth 20000 in
theorem gX8_mark_X8_isSkill : GoodIn wsX8_mark (va_wsS RX8 80 yX8_isSkill wsX8_isSkill) := goodIn_app (goodIn_of _ (by decide +kernel)) ggX8_mark_X8_isSkill
set_option maxRecDepth 20000 in
theorem ggX8_mark_X8_in : GoodIn wsX8_mark wsX8_in := goodIn_r _ [15] (by decide +kernel) (by decide +kernel)
set_option maxRecDepth 20000 in
theorem gX8_mark_X8_in : GoodIn wsX8_mark (va_wsS RX8 59 yX8_in wsX8_in) := goodIn_app (goodIn_of _ (by decide +kernel)) ggX8_mark_X8_in
set_option maxRecDepth 20000 in
theorem ggX8_mark_X8_bad : GoodIn wsX8_mark wsX8_bad := goodIn_r _ [23, 24, 33, 34, 35, 36, 37, 38, 39, 40, 41, 42, 43, 44, 45, 46, 47, 48, 49, 50, 51] (by decide +kernel) (by decide +kernel)
set_option maxRecDepth 20000 in
theorem gX8_mark_X8_bad : GoodIn wsX8_mark (wsV RX8 73 RX8 yX8_bad wsX8_bad) := goodIn_app (goodIn_of _ (by decide +kernel)) ggX8_mark_X8_bad
set_option maxRecDepth 20000 in
theorem ggX8_mark_X8_full : GoodIn wsX8_mark wsX8_full := goodIn_r _ [28, 24, 33, 34, 35, 36, 37, 38, 39, 40, 41, 42, 43, 44, 45, 46, 47, 48, 49, 50, 51] (by decide +kernel) (by decide +kernel)
set_option maxRecDepth 20000 in
theorem gX8_mark_X8_full : GoodIn wsX8_mark (wsV RX8 77 RX8 yX8_full wsX8_full) := goodIn_app (goodIn_of _ (by decide +kernel)) ggX8_mark_X8_full
set_option maxRecDepth 20000 in
theorem ggX8_mark_X8_layFour : GoodIn wsX8_mark wsX8_layFour := goodIn_r _ [32, 3, 33, 34, 35, 36, 37, 38, 39, 40, 41, 42, 43, 44, 45, 46, 47, 48, 49, 50, 51] (by decide +kernel) (by decide +kernel)
set_option maxRecDepth 20000 in
theorem gX8_mark_X8_layFour : GoodIn wsX8_mark (wsV RX8 156 RX8 yX8_layFour wsX8_layFour) := goodIn_app (goodIn_of _ (by decide +kernel)) ggX8_mark_X8_layFour
theorem dX8_mark_0 : decode cX8_mark 0 = .ok (.aload_n 0, 1) := by decide +kernel
theorem dX8_mark_1 : decode cX8_mark 1 = .ok (.iload_n 1, 1) := by decide +kernel
theorem dX8_mark_2 : decode cX8_mark 2 = .ok (.invokevirtual 120, 3) := by decide +kernel
theorem dX8_mark_5 : decode cX8_mark 5 = .ok (.ifCond .eq 35, 3) := by decide +kernel
theorem dX8_mark_8 : decode cX8_mark 8 = .ok (.iload_n 2, 1) := by decide +kernel
theorem dX8_mark_9 : decode cX8_mark 9 = .ok (.invokestatic 80, 3) := by decide +kernel
theorem dX8_mark_12 : decode cX8_mark 12 = .ok (.ifCond .eq 28, 3) := by decide +kernel
theorem dX8_mark_15 : decode cX8_mark 15 = .ok (.iload_n 3, 1) := by decide +kernel
theorem dX8_mark_16 : decode cX8_mark 16 = .ok (.i2l, 1) := by decide +kernel
theorem dX8_mark_17 : decode cX8_mark 17 = .ok (.lconst 0, 1) := by decide +kernel
theorem dX8_mark_18 : decode cX8_mark 18 = .ok (.ldc2_w 154, 3) := by decide +kernel
theorem dX8_mark_21 : decode cX8_mark 21 = .ok (.invokestatic 59, 3) := by decide +kernel
theorem dX8_mark_24 : decode cX8_mark 24 = .ok (.ifCond .eq 16, 3) := by decide +kernel
theorem dX8_mark_27 : decode cX8_mark 27 = .ok (.iload 4, 2) := by decide +kernel
theorem dX8_mark_29 : decode cX8_mark 29 = .ok (.i2l, 1) := by decide +kernel
theorem dX8_mark_30 : decode cX8_mark 30 = .ok (.lconst 0, 1) := by decide +kernel
theorem dX8_mark_31 : decode cX8_mark 31 = .ok (.ldc2_w 166, 3) := by decide +kernel
theorem dX8_mark_34 : decode cX8_mark 34 = .ok (.invokestatic 59, 3) := by decide +kernel
theorem dX8_mark_37 : decode cX8_mark 37 = .ok (.ifCond .ne 10, 3) := by decide +kernel
theorem dX8_mark_40 : decode cX8_mark 40 = .ok (.aload_n 0, 1) := by decide +kernel
theorem dX8_mark_41 : decode cX8_mark 41 = .ok (.bipush (-2), 2) := by decide +kernel
theorem dX8_mark_43 : decode cX8_mark 43 = .ok (.invokevirtual 73, 3) := by decide +kernel
theorem dX8_mark_46 : decode cX8_mark 46 = .ok (.ireturn, 1) := by decide +kernel
theorem dX8_mark_47 : decode cX8_mark 47 = .ok (.aload_n 0, 1) := by decide +kernel
theorem dX8_mark_48 : decode cX8_mark 48 = .ok (.getfield 7, 3) := by decide +kernel
theorem dX8_mark_51 : decode cX8_mark 51 = .ok (.iconst 4, 1) := by decide +kernel
theorem dX8_mark_52 : decode cX8_mark 52 = .ok (.iaload, 1) := by decide +kernel
theorem dX8_mark_53 : decode cX8_mark 53 = .ok (.bipush 6, 2) := by decide +kernel
theorem dX8_mark_55 : decode cX8_mark 55 = .ok (.if_icmp .ne 8, 3) := by decide +kernel
theorem dX8_mark_58 : decode cX8_mark 58 = .ok (.aload_n 0, 1) := by decide +kernel
theorem dX8_mark_59 : decode cX8_mark 59 = .ok (.invokevirtual 77, 3) := by decide +kernel
theorem dX8_mark_62 : decode cX8_mark 62 = .ok (.ireturn, 1) := by decide +kernel
theorem dX8_mark_63 : decode cX8_mark 63 = .ok (.aload_n 0, 1) := by decide +kernel
theorem dX8_mark_64 : decode cX8_mark 64 = .ok (.bipush 80, 2) := by decide +kernel
theorem dX8_mark_66 : decode cX8_mark 66 = .ok (.iconst 4, 1) := by decide +kernel
theorem dX8_mark_67 : decode cX8_mark 67 = .ok (.aload_n 0, 1) := by decide +kernel
theorem dX8_mark_68 : decode cX8_mark 68 = .ok (.getfield 7, 3) := by decide +kernel
theorem dX8_mark_71 : decode cX8_mark 71 = .ok (.iconst 4, 1) := by decide +kernel
theorem dX8_mark_72 : decode cX8_mark 72 = .ok (.iaload, 1) := by decide +kernel
theorem dX8_mark_73 : decode cX8_mark 73 = .ok (.imul, 1) := by decide +kernel
theorem dX8_mark_74 : decode cX8_mark 74 = .ok (.iadd, 1) := by decide +kernel
theorem dX8_mark_75 : decode cX8_mark 75 = .ok (.iload_n 1, 1) := by decide +kernel
theorem dX8_mark_76 : decode cX8_mark 76 = .ok (.iload_n 2, 1) := by decide +kernel
theorem dX8_mark_77 : decode cX8_mark 77 = .ok (.iload_n 3, 1) := by decide +kernel
theorem dX8_mark_78 : decode cX8_mark 78 = .ok (.iload 4, 2) := by decide +kernel
theorem dX8_mark_80 : decode cX8_mark 80 = .ok (.invokevirtual 156, 3) := by decide +kernel
theorem dX8_mark_83 : decode cX8_mark 83 = .ok (.aload_n 0, 1) := by decide +kernel
theorem dX8_mark_84 : decode cX8_mark 84 = .ok (.getfield 7, 3) := by decide +kernel
theorem dX8_mark_87 : decode cX8_mark 87 = .ok (.iconst 4, 1) := by decide +kernel
theorem dX8_mark_88 : decode cX8_mark 88 = .ok (.dup2, 1) := by decide +kernel
theorem dX8_mark_89 : decode cX8_mark 89 = .ok (.iaload, 1) := by decide +kernel
theorem dX8_mark_90 : decode cX8_mark 90 = .ok (.iconst 1, 1) := by decide +kernel
theorem dX8_mark_91 : decode cX8_mark 91 = .ok (.iadd, 1) := by decide +kernel
theorem dX8_mark_92 : decode cX8_mark 92 = .ok (.iastore, 1) := by decide +kernel
theorem dX8_mark_93 : decode cX8_mark 93 = .ok (.aload_n 0, 1) := by decide +kernel
theorem dX8_mark_94 : decode cX8_mark 94 = .ok (.getfield 7, 3) := by decide +kernel
theorem dX8_mark_97 : decode cX8_mark 97 = .ok (.iconst 4, 1) := by decide +kernel
theorem dX8_mark_98 : decode cX8_mark 98 = .ok (.iaload, 1) := by decide +kernel
theorem dX8_mark_99 : decode cX8_mark 99 = .ok (.ireturn, 1) := by decide +kernel
set_option maxRecDepth 20000 in
theorem ggX8_forget_X8_in : GoodIn wsX8_forget wsX8_in := goodIn_r _ [6] (by decide +kernel) (by decide +kernel)
set_option maxRecDepth 20000 in
theorem gX8_forget_X8_in : GoodIn wsX8_forget (va_wsS RX8 59 yX8_in wsX8_in) := goodIn_app (goodIn_of _ (by decide +kernel)) ggX8_forget_X8_in
set_option maxRecDepth 20000 in
theorem ggX8_forget_X8_bad : GoodIn wsX8_forget wsX8_bad := goodIn_r _ [10, 11, 12, 13, 14, 15, 16, 17, 18, 19, 20, 21, 22, 23, 24, 25, 26, 27, 28, 29, 30] (by decide +kernel) (by decide +kernel)
set_option maxRecDepth 20000 in
theorem gX8_forget_X8_bad : GoodIn wsX8_forget (wsV RX8 73 RX8 yX8_bad wsX8_bad) := goodIn_app (goodIn_of _ (by decide +kernel)) ggX8_forget_X8_bad
theorem dX8_forget_0 : decode cX8_forget 0 = .ok (.iload_n 1, 1) := by decide +kernel
theorem dX8_forget_1 : decode cX8_forget 1 = .ok (.i2l, 1) := by decide +kernel
theorem dX8_forget_2 : decode cX8_forget 2 = .ok (.lconst 0, 1) := by decide +kernel
theorem dX8_forget_3 : decode cX8_forget 3 = .ok (.ldc2_w 160, 3) := by decide +kernel
theorem dX8_forget_6 : decode cX8_forget 6 = .ok (.invokestatic 59, 3) := by decide +kernel
theorem dX8_forget_9 : decode cX8_forget 9 = .ok (.ifCond .ne 10, 3) := by decide +kernel
theorem dX8_forget_12 : decode cX8_forget 12 = .ok (.aload_n 0, 1) := by decide +kernel
theorem dX8_forget_13 : decode cX8_forget 13 = .ok (.bipush (-2), 2) := by decide +kernel
theorem dX8_forget_15 : decode cX8_forget 15 = .ok (.invokevirtual 73, 3) := by decide +kernel
theorem dX8_forget_18 : decode cX8_forget 18 = .ok (.ireturn, 1) := by decide +kernel
theorem dX8_forget_19 : decode cX8_forget 19 = .ok (.aload_n 0, 1) := by decide +kernel
theorem dX8_forget_20 : decode cX8_forget 20 = .ok (.getfield 7, 3) := by decide +kernel
theorem dX8_forget_23 : decode cX8_forget 23 = .ok (.iconst 2, 1) := by decide +kernel
theorem dX8_forget_24 : decode cX8_forget 24 = .ok (.iload_n 1, 1) := by decide +kernel
theorem dX8_forget_25 : decode cX8_forget 25 = .ok (.iadd, 1) := by decide +kernel
theorem dX8_forget_26 : decode cX8_forget 26 = .ok (.iaload, 1) := by decide +kernel
theorem dX8_forget_27 : decode cX8_forget 27 = .ok (.istore_n 2, 1) := by decide +kernel
theorem dX8_forget_28 : decode cX8_forget 28 = .ok (.aload_n 0, 1) := by decide +kernel
theorem dX8_forget_29 : decode cX8_forget 29 = .ok (.getfield 7, 3) := by decide +kernel
theorem dX8_forget_32 : decode cX8_forget 32 = .ok (.iconst 2, 1) := by decide +kernel
theorem dX8_forget_33 : decode cX8_forget 33 = .ok (.iload_n 1, 1) := by decide +kernel
theorem dX8_forget_34 : decode cX8_forget 34 = .ok (.iadd, 1) := by decide +kernel
theorem dX8_forget_35 : decode cX8_forget 35 = .ok (.iconst 0, 1) := by decide +kernel
theorem dX8_forget_36 : decode cX8_forget 36 = .ok (.iastore, 1) := by decide +kernel
theorem dX8_forget_37 : decode cX8_forget 37 = .ok (.iload_n 2, 1) := by decide +kernel
theorem dX8_forget_38 : decode cX8_forget 38 = .ok (.ireturn, 1) := by decide +kernel
set_option maxRecDepth 20000 in
theorem ggX8_kindsBy_X8_needsAs : GoodIn wsX8_kindsBy wsX8_needsAs := goodIn_r _ [5] (by decide +kernel) (by decide +kernel)
set_option maxRecDepth 20000 in
theorem gX8_kindsBy_X8_needsAs : GoodIn wsX8_kindsBy (va_wsS RX8 97 yX8_needsAs wsX8_needsAs) := goodIn_app (goodIn_of _ (by decide +kernel)) ggX8_kindsBy_X8_needsAs
set_option maxRecDepth 20000 in
theorem ggX8_kindsBy_X8_likedAs : GoodIn wsX8_kindsBy wsX8_likedAs := goodIn_r _ [8] (by decide +kernel) (by decide +kernel)
set_option maxRecDepth 20000 in
theorem gX8_kindsBy_X8_likedAs : GoodIn wsX8_kindsBy (va_wsS RX8 101 yX8_likedAs wsX8_likedAs) := goodIn_app (goodIn_of _ (by decide +kernel)) ggX8_kindsBy_X8_likedAs
theorem dX8_kindsBy_0 : decode cX8_kindsBy 0 = .ok (.iconst 0, 1) := by decide +kernel
theorem dX8_kindsBy_1 : decode cX8_kindsBy 1 = .ok (.istore 5, 2) := by decide +kernel
theorem dX8_kindsBy_3 : decode cX8_kindsBy 3 = .ok (.iconst 0, 1) := by decide +kernel
theorem dX8_kindsBy_4 : decode cX8_kindsBy 4 = .ok (.istore 6, 2) := by decide +kernel
theorem dX8_kindsBy_6 : decode cX8_kindsBy 6 = .ok (.iload 6, 2) := by decide +kernel
theorem dX8_kindsBy_8 : decode cX8_kindsBy 8 = .ok (.bipush 6, 2) := by decide +kernel
theorem dX8_kindsBy_10 : decode cX8_kindsBy 10 = .ok (.if_icmp .ge 146, 3) := by decide +kernel
theorem dX8_kindsBy_13 : decode cX8_kindsBy 13 = .ok (.iconst 1, 1) := by decide +kernel
theorem dX8_kindsBy_14 : decode cX8_kindsBy 14 = .ok (.istore 7, 2) := by decide +kernel
theorem dX8_kindsBy_16 : decode cX8_kindsBy 16 = .ok (.iconst 0, 1) := by decide +kernel
theorem dX8_kindsBy_17 : decode cX8_kindsBy 17 = .ok (.istore 8, 2) := by decide +kernel
theorem dX8_kindsBy_19 : decode cX8_kindsBy 19 = .ok (.iload 8, 2) := by decide +kernel
theorem dX8_kindsBy_21 : decode cX8_kindsBy 21 = .ok (.iload_n 3, 1) := by decide +kernel
theorem dX8_kindsBy_22 : decode cX8_kindsBy 22 = .ok (.if_icmp .ge 110, 3) := by decide +kernel
theorem dX8_kindsBy_25 : decode cX8_kindsBy 25 = .ok (.iload_n 2, 1) := by decide +kernel
theorem dX8_kindsBy_26 : decode cX8_kindsBy 26 = .ok (.iconst 4, 1) := by decide +kernel
theorem dX8_kindsBy_27 : decode cX8_kindsBy 27 = .ok (.iload 8, 2) := by decide +kernel
theorem dX8_kindsBy_29 : decode cX8_kindsBy 29 = .ok (.imul, 1) := by decide +kernel
theorem dX8_kindsBy_30 : decode cX8_kindsBy 30 = .ok (.iadd, 1) := by decide +kernel
theorem dX8_kindsBy_31 : decode cX8_kindsBy 31 = .ok (.istore 9, 2) := by decide +kernel
theorem dX8_kindsBy_33 : decode cX8_kindsBy 33 = .ok (.iload 4, 2) := by decide +kernel
theorem dX8_kindsBy_35 : decode cX8_kindsBy 35 = .ok (.ifCond .eq 29, 3) := by decide +kernel
theorem dX8_kindsBy_38 : decode cX8_kindsBy 38 = .ok (.iload 6, 2) := by decide +kernel
theorem dX8_kindsBy_40 : decode cX8_kindsBy 40 = .ok (.aload_n 0, 1) := by decide +kernel
theorem dX8_kindsBy_41 : decode cX8_kindsBy 41 = .ok (.getfield 7, 3) := by decide +kernel
theorem dX8_kindsBy_44 : decode cX8_kindsBy 44 = .ok (.iload 9, 2) := by decide +kernel
theorem dX8_kindsBy_46 : decode cX8_kindsBy 46 = .ok (.iconst 1, 1) := by decide +kernel
theorem dX8_kindsBy_47 : decode cX8_kindsBy 47 = .ok (.iadd, 1) := by decide +kernel
theorem dX8_kindsBy_48 : decode cX8_kindsBy 48 = .ok (.iaload, 1) := by decide +kernel
theorem dX8_kindsBy_49 : decode cX8_kindsBy 49 = .ok (.aload_n 0, 1) := by decide +kernel
theorem dX8_kindsBy_50 : decode cX8_kindsBy 50 = .ok (.getfield 7, 3) := by decide +kernel
theorem dX8_kindsBy_53 : decode cX8_kindsBy 53 = .ok (.iload 9, 2) := by decide +kernel
theorem dX8_kindsBy_55 : decode cX8_kindsBy 55 = .ok (.iconst 2, 1) := by decide +kernel
theorem dX8_kindsBy_56 : decode cX8_kindsBy 56 = .ok (.iadd, 1) := by decide +kernel
theorem dX8_kindsBy_57 : decode cX8_kindsBy 57 = .ok (.iaload, 1) := by decide +kernel
theorem dX8_kindsBy_58 : decode cX8_kindsBy 58 = .ok (.invokestatic 97, 3) := by decide +kernel
theorem dX8_kindsBy_61 : decode cX8_kindsBy 61 = .ok (.goto 26, 3) := by decide +kernel
theorem dX8_kindsBy_64 : decode cX8_kindsBy 64 = .ok (.iload 6, 2) := by decide +kernel
theorem dX8_kindsBy_66 : decode cX8_kindsBy 66 = .ok (.aload_n 0, 1) := by decide +kernel
theorem dX8_kindsBy_67 : decode cX8_kindsBy 67 = .ok (.getfield 7, 3) := by decide +kernel
theorem dX8_kindsBy_70 : decode cX8_kindsBy 70 = .ok (.iload 9, 2) := by decide +kernel
theorem dX8_kindsBy_72 : decode cX8_kindsBy 72 = .ok (.iconst 1, 1) := by decide +kernel
theorem dX8_kindsBy_73 : decode cX8_kindsBy 73 = .ok (.iadd, 1) := by decide +kernel
theorem dX8_kindsBy_74 : decode cX8_kindsBy 74 = .ok (.iaload, 1) := by decide +kernel
theorem dX8_kindsBy_75 : decode cX8_kindsBy 75 = .ok (.aload_n 0, 1) := by decide +kernel
theorem dX8_kindsBy_76 : decode cX8_kindsBy 76 = .ok (.getfield 7, 3) := by decide +kernel
theorem dX8_kindsBy_79 : decode cX8_kindsBy 79 = .ok (.iload 9, 2) := by decide +kernel
theorem dX8_kindsBy_81 : decode cX8_kindsBy 81 = .ok (.iconst 2, 1) := by decide +kernel
theorem dX8_kindsBy_82 : decode cX8_kindsBy 82 = .ok (.iadd, 1) := by decide +kernel
theorem dX8_kindsBy_83 : decode cX8_kindsBy 83 = .ok (.iaload, 1) := by decide +kernel
theorem dX8_kindsBy_84 : decode cX8_kindsBy 84 = .ok (.invokestatic 101, 3) := by decide +kernel
theorem dX8_kindsBy_87 : decode cX8_kindsBy 87 = .ok (.istore 10, 2) := by decide +kernel
theorem dX8_kindsBy_89 : decode cX8_kindsBy 89 = .ok (.iload 7, 2) := by decide +kernel
theorem dX8_kindsBy_91 : decode cX8_kindsBy 91 = .ok (.ifCond .eq 32, 3) := by decide +kernel
theorem dX8_kindsBy_94 : decode cX8_kindsBy 94 = .ok (.aload_n 0, 1) := by decide +kernel
theorem dX8_kindsBy_95 : decode cX8_kindsBy 95 = .ok (.getfield 7, 3) := by decide +kernel
theorem dX8_kindsBy_98 : decode cX8_kindsBy 98 = .ok (.iload 9, 2) := by decide +kernel
theorem dX8_kindsBy_100 : decode cX8_kindsBy 100 = .ok (.iaload, 1) := by decide +kernel
theorem dX8_kindsBy_101 : decode cX8_kindsBy 101 = .ok (.iload_n 1, 1) := by decide +kernel
theorem dX8_kindsBy_102 : decode cX8_kindsBy 102 = .ok (.if_icmp .ne 17, 3) := by decide +kernel
theorem dX8_kindsBy_105 : decode cX8_kindsBy 105 = .ok (.iload 10, 2) := by decide +kernel
theorem dX8_kindsBy_107 : decode cX8_kindsBy 107 = .ok (.aload_n 0, 1) := by decide +kernel
theorem dX8_kindsBy_108 : decode cX8_kindsBy 108 = .ok (.getfield 7, 3) := by decide +kernel
theorem dX8_kindsBy_111 : decode cX8_kindsBy 111 = .ok (.iload 9, 2) := by decide +kernel
theorem dX8_kindsBy_113 : decode cX8_kindsBy 113 = .ok (.iconst 3, 1) := by decide +kernel
theorem dX8_kindsBy_114 : decode cX8_kindsBy 114 = .ok (.iadd, 1) := by decide +kernel
theorem dX8_kindsBy_115 : decode cX8_kindsBy 115 = .ok (.iaload, 1) := by decide +kernel
theorem dX8_kindsBy_116 : decode cX8_kindsBy 116 = .ok (.if_icmp .ne 7, 3) := by decide +kernel
theorem dX8_kindsBy_119 : decode cX8_kindsBy 119 = .ok (.iconst 1, 1) := by decide +kernel
theorem dX8_kindsBy_120 : decode cX8_kindsBy 120 = .ok (.goto 4, 3) := by decide +kernel
theorem dX8_kindsBy_123 : decode cX8_kindsBy 123 = .ok (.iconst 0, 1) := by decide +kernel
theorem dX8_kindsBy_124 : decode cX8_kindsBy 124 = .ok (.istore 7, 2) := by decide +kernel
theorem dX8_kindsBy_126 : decode cX8_kindsBy 126 = .ok (.iinc 8 1, 3) := by decide +kernel
theorem dX8_kindsBy_129 : decode cX8_kindsBy 129 = .ok (.goto (-110), 3) := by decide +kernel
theorem dX8_kindsBy_132 : decode cX8_kindsBy 132 = .ok (.iload 5, 2) := by decide +kernel
theorem dX8_kindsBy_134 : decode cX8_kindsBy 134 = .ok (.iload 7, 2) := by decide +kernel
theorem dX8_kindsBy_136 : decode cX8_kindsBy 136 = .ok (.ifCond .eq 10, 3) := by decide +kernel
theorem dX8_kindsBy_139 : decode cX8_kindsBy 139 = .ok (.iconst 1, 1) := by decide +kernel
theorem dX8_kindsBy_140 : decode cX8_kindsBy 140 = .ok (.iload 6, 2) := by decide +kernel
theorem dX8_kindsBy_142 : decode cX8_kindsBy 142 = .ok (.ishl, 1) := by decide +kernel
theorem dX8_kindsBy_143 : decode cX8_kindsBy 143 = .ok (.goto 4, 3) := by decide +kernel
theorem dX8_kindsBy_146 : decode cX8_kindsBy 146 = .ok (.iconst 0, 1) := by decide +kernel
theorem dX8_kindsBy_147 : decode cX8_kindsBy 147 = .ok (.ior, 1) := by decide +kernel
theorem dX8_kindsBy_148 : decode cX8_kindsBy 148 = .ok (.istore 5, 2) := by decide +kernel
theorem dX8_kindsBy_150 : decode cX8_kindsBy 150 = .ok (.iinc 6 1, 3) := by decide +kernel
theorem dX8_kindsBy_153 : decode cX8_kindsBy 153 = .ok (.goto (-147), 3) := by decide +kernel
theorem dX8_kindsBy_156 : decode cX8_kindsBy 156 = .ok (.iload 5, 2) := by decide +kernel
theorem dX8_kindsBy_158 : decode cX8_kindsBy 158 = .ok (.ireturn, 1) := by decide +kernel
set_option maxRecDepth 20000 in
theorem ggX8_kindsOfShip_X8_kindsBy : GoodIn wsX8_kindsOfShip wsX8_kindsBy := goodIn_r _ [6, 1, 7, 8, 5, 9, 10, 11, 12, 13, 14, 15, 16, 17, 18, 19, 20, 21, 22, 23, 24, 25, 26, 27, 28, 29, 30, 31] (by decide +kernel) (by decide +kernel)
set_option maxRecDepth 20000 in
theorem gX8_kindsOfShip_X8_kindsBy : GoodIn wsX8_kindsOfShip (wsV RX8 168 RX8 yX8_kindsBy wsX8_kindsBy) := goodIn_app (goodIn_of _ (by decide +kernel)) ggX8_kindsOfShip_X8_kindsBy
theorem dX8_kindsOfShip_0 : decode cX8_kindsOfShip 0 = .ok (.aload_n 0, 1) := by decide +kernel
theorem dX8_kindsOfShip_1 : decode cX8_kindsOfShip 1 = .ok (.iload_n 1, 1) := by decide +kernel
theorem dX8_kindsOfShip_2 : decode cX8_kindsOfShip 2 = .ok (.bipush 56, 2) := by decide +kernel
theorem dX8_kindsOfShip_4 : decode cX8_kindsOfShip 4 = .ok (.aload_n 0, 1) := by decide +kernel
theorem dX8_kindsOfShip_5 : decode cX8_kindsOfShip 5 = .ok (.getfield 7, 3) := by decide +kernel
theorem dX8_kindsOfShip_8 : decode cX8_kindsOfShip 8 = .ok (.iconst 3, 1) := by decide +kernel
theorem dX8_kindsOfShip_9 : decode cX8_kindsOfShip 9 = .ok (.iaload, 1) := by decide +kernel
theorem dX8_kindsOfShip_10 : decode cX8_kindsOfShip 10 = .ok (.iconst 1, 1) := by decide +kernel
theorem dX8_kindsOfShip_11 : decode cX8_kindsOfShip 11 = .ok (.invokevirtual 168, 3) := by decide +kernel
theorem dX8_kindsOfShip_14 : decode cX8_kindsOfShip 14 = .ok (.ireturn, 1) := by decide +kernel
set_option maxRecDepth 20000 in
theorem ggX8_kindsOfMan_X8_kindsBy : GoodIn wsX8_kindsOfMan wsX8_kindsBy := goodIn_r _ [6, 1, 7, 8, 5, 9, 10, 11, 12, 13, 14, 15, 16, 17, 18, 19, 20, 21, 22, 23, 24, 25, 26, 27, 28, 29, 30, 31] (by decide +kernel) (by decide +kernel)
set_option maxRecDepth 20000 in
theorem gX8_kindsOfMan_X8_kindsBy : GoodIn wsX8_kindsOfMan (wsV RX8 168 RX8 yX8_kindsBy wsX8_kindsBy) := goodIn_app (goodIn_of _ (by decide +kernel)) ggX8_kindsOfMan_X8_kindsBy
theorem dX8_kindsOfMan_0 : decode cX8_kindsOfMan 0 = .ok (.aload_n 0, 1) := by decide +kernel
theorem dX8_kindsOfMan_1 : decode cX8_kindsOfMan 1 = .ok (.iload_n 1, 1) := by decide +kernel
theorem dX8_kindsOfMan_2 : decode cX8_kindsOfMan 2 = .ok (.bipush 80, 2) := by decide +kernel
theorem dX8_kindsOfMan_4 : decode cX8_kindsOfMan 4 = .ok (.aload_n 0, 1) := by decide +kernel
theorem dX8_kindsOfMan_5 : decode cX8_kindsOfMan 5 = .ok (.getfield 7, 3) := by decide +kernel
theorem dX8_kindsOfMan_8 : decode cX8_kindsOfMan 8 = .ok (.iconst 4, 1) := by decide +kernel
theorem dX8_kindsOfMan_9 : decode cX8_kindsOfMan 9 = .ok (.iaload, 1) := by decide +kernel
theorem dX8_kindsOfMan_10 : decode cX8_kindsOfMan 10 = .ok (.iconst 0, 1) := by decide +kernel
theorem dX8_kindsOfMan_11 : decode cX8_kindsOfMan 11 = .ok (.invokevirtual 168, 3) := by decide +kernel
theorem dX8_kindsOfMan_14 : decode cX8_kindsOfMan 14 = .ok (.ireturn, 1) := by decide +kernel
set_option maxRecDepth 20000 in
theorem ggX8_mostAlike_X8_has : GoodIn wsX8_mostAlike wsX8_has := goodIn_r _ [5] (by decide +kernel) (by decide +kernel)
set_option maxRecDepth 20000 in
theorem gX8_mostAlike_X8_has : GoodIn wsX8_mostAlike (va_wsS RX8 172 yX8_has wsX8_has) := goodIn_app (goodIn_of _ (by decide +kernel)) ggX8_mostAlike_X8_has
theorem dX8_mostAlike_0 : decode cX8_mostAlike 0 = .ok (.iconst 0, 1) := by decide +kernel
theorem dX8_mostAlike_1 : decode cX8_mostAlike 1 = .ok (.istore_n 2, 1) := by decide +kernel
theorem dX8_mostAlike_2 : decode cX8_mostAlike 2 = .ok (.iconst 0, 1) := by decide +kernel
theorem dX8_mostAlike_3 : decode cX8_mostAlike 3 = .ok (.istore_n 3, 1) := by decide +kernel
theorem dX8_mostAlike_4 : decode cX8_mostAlike 4 = .ok (.iload_n 3, 1) := by decide +kernel
theorem dX8_mostAlike_5 : decode cX8_mostAlike 5 = .ok (.bipush 6, 2) := by decide +kernel
theorem dX8_mostAlike_7 : decode cX8_mostAlike 7 = .ok (.if_icmp .ge 84, 3) := by decide +kernel
theorem dX8_mostAlike_10 : decode cX8_mostAlike 10 = .ok (.iconst 0, 1) := by decide +kernel
theorem dX8_mostAlike_11 : decode cX8_mostAlike 11 = .ok (.istore 4, 2) := by decide +kernel
theorem dX8_mostAlike_13 : decode cX8_mostAlike 13 = .ok (.iconst 0, 1) := by decide +kernel
theorem dX8_mostAlike_14 : decode cX8_mostAlike 14 = .ok (.istore 5, 2) := by decide +kernel
theorem dX8_mostAlike_16 : decode cX8_mostAlike 16 = .ok (.iload 5, 2) := by decide +kernel
theorem dX8_mostAlike_18 : decode cX8_mostAlike 18 = .ok (.bipush 6, 2) := by decide +kernel
theorem dX8_mostAlike_20 : decode cX8_mostAlike 20 = .ok (.if_icmp .ge 52, 3) := by decide +kernel
theorem dX8_mostAlike_23 : decode cX8_mostAlike 23 = .ok (.iload_n 1, 1) := by decide +kernel
theorem dX8_mostAlike_24 : decode cX8_mostAlike 24 = .ok (.iload_n 3, 1) := by decide +kernel
theorem dX8_mostAlike_25 : decode cX8_mostAlike 25 = .ok (.invokestatic 172, 3) := by decide +kernel
theorem dX8_mostAlike_28 : decode cX8_mostAlike 28 = .ok (.ifCond .eq 44, 3) := by decide +kernel
theorem dX8_mostAlike_31 : decode cX8_mostAlike 31 = .ok (.iload 4, 2) := by decide +kernel
theorem dX8_mostAlike_33 : decode cX8_mostAlike 33 = .ok (.iload_n 1, 1) := by decide +kernel
theorem dX8_mostAlike_34 : decode cX8_mostAlike 34 = .ok (.iload 5, 2) := by decide +kernel
theorem dX8_mostAlike_36 : decode cX8_mostAlike 36 = .ok (.invokestatic 172, 3) := by decide +kernel
theorem dX8_mostAlike_39 : decode cX8_mostAlike 39 = .ok (.ifCond .eq 23, 3) := by decide +kernel
theorem dX8_mostAlike_42 : decode cX8_mostAlike 42 = .ok (.aload_n 0, 1) := by decide +kernel
theorem dX8_mostAlike_43 : decode cX8_mostAlike 43 = .ok (.getfield 39, 3) := by decide +kernel
theorem dX8_mostAlike_46 : decode cX8_mostAlike 46 = .ok (.iload_n 3, 1) := by decide +kernel
theorem dX8_mostAlike_47 : decode cX8_mostAlike 47 = .ok (.iaload, 1) := by decide +kernel
theorem dX8_mostAlike_48 : decode cX8_mostAlike 48 = .ok (.aload_n 0, 1) := by decide +kernel
theorem dX8_mostAlike_49 : decode cX8_mostAlike 49 = .ok (.getfield 39, 3) := by decide +kernel
theorem dX8_mostAlike_52 : decode cX8_mostAlike 52 = .ok (.iload 5, 2) := by decide +kernel
theorem dX8_mostAlike_54 : decode cX8_mostAlike 54 = .ok (.iaload, 1) := by decide +kernel
theorem dX8_mostAlike_55 : decode cX8_mostAlike 55 = .ok (.if_icmp .ne 7, 3) := by decide +kernel
theorem dX8_mostAlike_58 : decode cX8_mostAlike 58 = .ok (.iconst 1, 1) := by decide +kernel
theorem dX8_mostAlike_59 : decode cX8_mostAlike 59 = .ok (.goto 4, 3) := by decide +kernel
theorem dX8_mostAlike_62 : decode cX8_mostAlike 62 = .ok (.iconst 0, 1) := by decide +kernel
theorem dX8_mostAlike_63 : decode cX8_mostAlike 63 = .ok (.iadd, 1) := by decide +kernel
theorem dX8_mostAlike_64 : decode cX8_mostAlike 64 = .ok (.istore 4, 2) := by decide +kernel
theorem dX8_mostAlike_66 : decode cX8_mostAlike 66 = .ok (.iinc 5 1, 3) := by decide +kernel
theorem dX8_mostAlike_69 : decode cX8_mostAlike 69 = .ok (.goto (-53), 3) := by decide +kernel
theorem dX8_mostAlike_72 : decode cX8_mostAlike 72 = .ok (.iload 4, 2) := by decide +kernel
theorem dX8_mostAlike_74 : decode cX8_mostAlike 74 = .ok (.iload_n 2, 1) := by decide +kernel
theorem dX8_mostAlike_75 : decode cX8_mostAlike 75 = .ok (.if_icmp .le 8, 3) := by decide +kernel
theorem dX8_mostAlike_78 : decode cX8_mostAlike 78 = .ok (.iload 4, 2) := by decide +kernel
theorem dX8_mostAlike_80 : decode cX8_mostAlike 80 = .ok (.goto 4, 3) := by decide +kernel
theorem dX8_mostAlike_83 : decode cX8_mostAlike 83 = .ok (.iload_n 2, 1) := by decide +kernel
theorem dX8_mostAlike_84 : decode cX8_mostAlike 84 = .ok (.istore_n 2, 1) := by decide +kernel
theorem dX8_mostAlike_85 : decode cX8_mostAlike 85 = .ok (.iinc 3 1, 3) := by decide +kernel
theorem dX8_mostAlike_88 : decode cX8_mostAlike 88 = .ok (.goto (-84), 3) := by decide +kernel
theorem dX8_mostAlike_91 : decode cX8_mostAlike 91 = .ok (.iload_n 2, 1) := by decide +kernel
theorem dX8_mostAlike_92 : decode cX8_mostAlike 92 = .ok (.ireturn, 1) := by decide +kernel
set_option maxRecDepth 20000 in
theorem ggX8_is_X8_isShip : GoodIn wsX8_is wsX8_isShip := goodIn_r _ [5, 6, 7, 8, 4, 9, 29, 30, 31, 32, 33, 34, 35, 36, 37, 38, 39, 40, 41, 42, 43, 44, 45, 46, 47] (by decide +kernel) (by decide +kernel)
set_option maxRecDepth 20000 in
theorem gX8_is_X8_isShip : GoodIn wsX8_is (wsV RX8 83 RX8 yX8_isShip wsX8_isShip) := goodIn_app (goodIn_of _ (by decide +kernel)) ggX8_is_X8_isShip
set_option maxRecDepth 20000 in
theorem ggX8_is_X8_kindsOfShip : GoodIn wsX8_is wsX8_kindsOfShip := goodIn_r _ [13, 6, 14, 15, 16, 4, 17, 18, 19, 20, 21, 22, 23, 29, 30, 31, 32, 33, 34, 35, 36, 37, 38, 39, 40, 41, 42, 43, 44, 45, 46, 47] (by decide +kernel) (by decide +kernel)
set_option maxRecDepth 20000 in
theorem gX8_is_X8_kindsOfShip : GoodIn wsX8_is (wsV RX8 175 RX8 yX8_kindsOfShip wsX8_kindsOfShip) := goodIn_app (goodIn_of _ (by decide +kernel)) ggX8_is_X8_kindsOfShip
set_option maxRecDepth 20000 in
theorem ggX8_is_X8_bad : GoodIn wsX8_is wsX8_bad := goodIn_r _ [27, 28, 29, 30, 31, 32, 33, 34, 35, 36, 37, 38, 39, 40, 41, 42, 43, 44, 45, 46, 47] (by decide +kernel) (by decide +kernel)
set_option maxRecDepth 20000 in
theorem gX8_is_X8_bad : GoodIn wsX8_is (wsV RX8 73 RX8 yX8_bad wsX8_bad) := goodIn_app (goodIn_of _ (by decide +kernel)) ggX8_is_X8_bad
theorem dX8_is_0 : decode cX8_is 0 = .ok (.aload_n 0, 1) := by decide +kernel
theorem dX8_is_1 : decode cX8_is 1 = .ok (.iload_n 1, 1) := by decide +kernel
theorem dX8_is_2 : decode cX8_is 2 = .ok (.invokevirtual 83, 3) := by decide +kernel
theorem dX8_is_5 : decode cX8_is 5 = .ok (.ifCond .eq 11, 3) := by decide +kernel
theorem dX8_is_8 : decode cX8_is 8 = .ok (.aload_n 0, 1) := by decide +kernel
theorem dX8_is_9 : decode cX8_is 9 = .ok (.iload_n 1, 1) := by decide +kernel
theorem dX8_is_10 : decode cX8_is 10 = .ok (.invokevirtual 175, 3) := by decide +kernel
theorem dX8_is_13 : decode cX8_is 13 = .ok (.goto 9, 3) := by decide +kernel
theorem dX8_is_16 : decode cX8_is 16 = .ok (.aload_n 0, 1) := by decide +kernel
theorem dX8_is_17 : decode cX8_is 17 = .ok (.bipush (-2), 2) := by decide +kernel
theorem dX8_is_19 : decode cX8_is 19 = .ok (.invokevirtual 73, 3) := by decide +kernel
theorem dX8_is_22 : decode cX8_is 22 = .ok (.ireturn, 1) := by decide +kernel
set_option maxRecDepth 20000 in
theorem ggX8_look_X8_isShip : GoodIn wsX8_look wsX8_isShip := goodIn_r _ [7, 8, 9, 10, 6, 11, 38, 39, 40, 41, 42, 43, 44, 45, 46, 47, 48, 49, 50, 51, 52, 53, 54, 55, 56] (by decide +kernel) (by decide +kernel)
set_option maxRecDepth 20000 in
theorem gX8_look_X8_isShip : GoodIn wsX8_look (wsV RX8 83 RX8 yX8_isShip wsX8_isShip) := goodIn_app (goodIn_of _ (by decide +kernel)) ggX8_look_X8_isShip
set_option maxRecDepth 20000 in
theorem ggX8_look_X8_bad : GoodIn wsX8_look wsX8_bad := goodIn_r _ [15, 16, 38, 39, 40, 41, 42, 43, 44, 45, 46, 47, 48, 49, 50, 51, 52, 53, 54, 55, 56] (by decide +kernel) (by decide +kernel)
set_option maxRecDepth 20000 in
theorem gX8_look_X8_bad : GoodIn wsX8_look (wsV RX8 73 RX8 yX8_bad wsX8_bad) := goodIn_app (goodIn_of _ (by decide +kernel)) ggX8_look_X8_bad
set_option maxRecDepth 20000 in
theorem ggX8_look_X8_kindsOfShip : GoodIn wsX8_look wsX8_kindsOfShip := goodIn_r _ [20, 8, 21, 22, 23, 6, 24, 25, 26, 27, 28, 29, 30, 38, 39, 40, 41, 42, 43, 44, 45, 46, 47, 48, 49, 50, 51, 52, 53, 54, 55, 56] (by decide +kernel) (by decide +kernel)
set_option maxRecDepth 20000 in
theorem gX8_look_X8_kindsOfShip : GoodIn wsX8_look (wsV RX8 175 RX8 yX8_kindsOfShip wsX8_kindsOfShip) := goodIn_app (goodIn_of _ (by decide +kernel)) ggX8_look_X8_kindsOfShip
set_option maxRecDepth 20000 in
theorem ggX8_look_X8_needsAs : GoodIn wsX8_look wsX8_needsAs := goodIn_r _ [27] (by decide +kernel) (by decide +kernel)
set_option maxRecDepth 20000 in
theorem gX8_look_X8_needsAs : GoodIn wsX8_look (va_wsS RX8 97 yX8_needsAs wsX8_needsAs) := goodIn_app (goodIn_of _ (by decide +kernel)) ggX8_look_X8_needsAs
set_option maxRecDepth 20000 in
theorem ggX8_look_X8_mostAlike : GoodIn wsX8_look wsX8_mostAlike := goodIn_r _ [34, 2, 35, 36, 6, 37, 38, 39, 40, 41, 42, 43, 44, 45, 46, 47, 48, 49, 50, 51, 52, 53, 54, 55, 56] (by decide +kernel) (by decide +kernel)
set_option maxRecDepth 20000 in
theorem gX8_look_X8_mostAlike : GoodIn wsX8_look (wsV RX8 178 RX8 yX8_mostAlike wsX8_mostAlike) := goodIn_app (goodIn_of _ (by decide +kernel)) ggX8_look_X8_mostAlike
theorem dX8_look_0 : decode cX8_look 0 = .ok (.aload_n 0, 1) := by decide +kernel
theorem dX8_look_1 : decode cX8_look 1 = .ok (.iload_n 1, 1) := by decide +kernel
theorem dX8_look_2 : decode cX8_look 2 = .ok (.invokevirtual 83, 3) := by decide +kernel
theorem dX8_look_5 : decode cX8_look 5 = .ok (.ifCond .ne 10, 3) := by decide +kernel
theorem dX8_look_8 : decode cX8_look 8 = .ok (.aload_n 0, 1) := by decide +kernel
theorem dX8_look_9 : decode cX8_look 9 = .ok (.bipush (-2), 2) := by decide +kernel
theorem dX8_look_11 : decode cX8_look 11 = .ok (.invokevirtual 73, 3) := by decide +kernel
theorem dX8_look_14 : decode cX8_look 14 = .ok (.ireturn, 1) := by decide +kernel
theorem dX8_look_15 : decode cX8_look 15 = .ok (.aload_n 0, 1) := by decide +kernel
theorem dX8_look_16 : decode cX8_look 16 = .ok (.iload_n 1, 1) := by decide +kernel
theorem dX8_look_17 : decode cX8_look 17 = .ok (.invokevirtual 175, 3) := by decide +kernel
theorem dX8_look_20 : decode cX8_look 20 = .ok (.istore_n 2, 1) := by decide +kernel
theorem dX8_look_21 : decode cX8_look 21 = .ok (.iconst (-1), 1) := by decide +kernel
theorem dX8_look_22 : decode cX8_look 22 = .ok (.istore_n 3, 1) := by decide +kernel
theorem dX8_look_23 : decode cX8_look 23 = .ok (.ldc 146, 2) := by decide +kernel
theorem dX8_look_25 : decode cX8_look 25 = .ok (.istore 4, 2) := by decide +kernel
theorem dX8_look_27 : decode cX8_look 27 = .ok (.iconst 1, 1) := by decide +kernel
theorem dX8_look_28 : decode cX8_look 28 = .ok (.istore 5, 2) := by decide +kernel
theorem dX8_look_30 : decode cX8_look 30 = .ok (.iload 5, 2) := by decide +kernel
theorem dX8_look_32 : decode cX8_look 32 = .ok (.bipush 30, 2) := by decide +kernel
theorem dX8_look_34 : decode cX8_look 34 = .ok (.if_icmp .gt 104, 3) := by decide +kernel
theorem dX8_look_37 : decode cX8_look 37 = .ok (.iload_n 2, 1) := by decide +kernel
theorem dX8_look_38 : decode cX8_look 38 = .ok (.ifCond .le 100, 3) := by decide +kernel
theorem dX8_look_41 : decode cX8_look 41 = .ok (.iconst 0, 1) := by decide +kernel
theorem dX8_look_42 : decode cX8_look 42 = .ok (.istore 6, 2) := by decide +kernel
theorem dX8_look_44 : decode cX8_look 44 = .ok (.iload 6, 2) := by decide +kernel
theorem dX8_look_46 : decode cX8_look 46 = .ok (.bipush 9, 2) := by decide +kernel
theorem dX8_look_48 : decode cX8_look 48 = .ok (.if_icmp .ge 84, 3) := by decide +kernel
theorem dX8_look_51 : decode cX8_look 51 = .ok (.iconst 0, 1) := by decide +kernel
theorem dX8_look_52 : decode cX8_look 52 = .ok (.istore 7, 2) := by decide +kernel
theorem dX8_look_54 : decode cX8_look 54 = .ok (.iload 7, 2) := by decide +kernel
theorem dX8_look_56 : decode cX8_look 56 = .ok (.bipush 6, 2) := by decide +kernel
theorem dX8_look_58 : decode cX8_look 58 = .ok (.if_icmp .ge 25, 3) := by decide +kernel
theorem dX8_look_61 : decode cX8_look 61 = .ok (.aload_n 0, 1) := by decide +kernel
theorem dX8_look_62 : decode cX8_look 62 = .ok (.getfield 39, 3) := by decide +kernel
theorem dX8_look_65 : decode cX8_look 65 = .ok (.iload 7, 2) := by decide +kernel
theorem dX8_look_67 : decode cX8_look 67 = .ok (.iload 7, 2) := by decide +kernel
theorem dX8_look_69 : decode cX8_look 69 = .ok (.iload 5, 2) := by decide +kernel
theorem dX8_look_71 : decode cX8_look 71 = .ok (.iload 6, 2) := by decide +kernel
theorem dX8_look_73 : decode cX8_look 73 = .ok (.invokestatic 97, 3) := by decide +kernel
theorem dX8_look_76 : decode cX8_look 76 = .ok (.iastore, 1) := by decide +kernel
theorem dX8_look_77 : decode cX8_look 77 = .ok (.iinc 7 1, 3) := by decide +kernel
theorem dX8_look_80 : decode cX8_look 80 = .ok (.goto (-26), 3) := by decide +kernel
theorem dX8_look_83 : decode cX8_look 83 = .ok (.aload_n 0, 1) := by decide +kernel
theorem dX8_look_84 : decode cX8_look 84 = .ok (.iload_n 2, 1) := by decide +kernel
theorem dX8_look_85 : decode cX8_look 85 = .ok (.invokevirtual 178, 3) := by decide +kernel
theorem dX8_look_88 : decode cX8_look 88 = .ok (.istore 7, 2) := by decide +kernel
theorem dX8_look_90 : decode cX8_look 90 = .ok (.iload 7, 2) := by decide +kernel
theorem dX8_look_92 : decode cX8_look 92 = .ok (.iload 4, 2) := by decide +kernel
theorem dX8_look_94 : decode cX8_look 94 = .ok (.if_icmp .ge 14, 3) := by decide +kernel
theorem dX8_look_97 : decode cX8_look 97 = .ok (.bipush 10, 2) := by decide +kernel
theorem dX8_look_99 : decode cX8_look 99 = .ok (.iload 5, 2) := by decide +kernel
theorem dX8_look_101 : decode cX8_look 101 = .ok (.imul, 1) := by decide +kernel
theorem dX8_look_102 : decode cX8_look 102 = .ok (.iload 6, 2) := by decide +kernel
theorem dX8_look_104 : decode cX8_look 104 = .ok (.iadd, 1) := by decide +kernel
theorem dX8_look_105 : decode cX8_look 105 = .ok (.goto 4, 3) := by decide +kernel
theorem dX8_look_108 : decode cX8_look 108 = .ok (.iload_n 3, 1) := by decide +kernel
theorem dX8_look_109 : decode cX8_look 109 = .ok (.istore_n 3, 1) := by decide +kernel
theorem dX8_look_110 : decode cX8_look 110 = .ok (.iload 7, 2) := by decide +kernel
theorem dX8_look_112 : decode cX8_look 112 = .ok (.iload 4, 2) := by decide +kernel
theorem dX8_look_114 : decode cX8_look 114 = .ok (.if_icmp .ge 8, 3) := by decide +kernel
theorem dX8_look_117 : decode cX8_look 117 = .ok (.iload 7, 2) := by decide +kernel
theorem dX8_look_119 : decode cX8_look 119 = .ok (.goto 5, 3) := by decide +kernel
theorem dX8_look_122 : decode cX8_look 122 = .ok (.iload 4, 2) := by decide +kernel
theorem dX8_look_124 : decode cX8_look 124 = .ok (.istore 4, 2) := by decide +kernel
theorem dX8_look_126 : decode cX8_look 126 = .ok (.iinc 6 1, 3) := by decide +kernel
theorem dX8_look_129 : decode cX8_look 129 = .ok (.goto (-85), 3) := by decide +kernel
theorem dX8_look_132 : decode cX8_look 132 = .ok (.iinc 5 1, 3) := by decide +kernel
theorem dX8_look_135 : decode cX8_look 135 = .ok (.goto (-105), 3) := by decide +kernel
theorem dX8_look_138 : decode cX8_look 138 = .ok (.iload_n 3, 1) := by decide +kernel
theorem dX8_look_139 : decode cX8_look 139 = .ok (.ireturn, 1) := by decide +kernel
set_option maxRecDepth 20000 in
theorem ggX8_kinds_X8_isMan : GoodIn wsX8_kinds wsX8_isMan := goodIn_r _ [5, 6, 7, 8, 4, 9, 10, 11, 12, 13, 33, 34, 35, 36, 37, 38, 39, 40, 41, 42, 43, 44, 45, 46, 47, 48, 49, 50, 51] (by decide +kernel) (by decide +kernel)
set_option maxRecDepth 20000 in
theorem gX8_kinds_X8_isMan : GoodIn wsX8_kinds (wsV RX8 120 RX8 yX8_isMan wsX8_isMan) := goodIn_app (goodIn_of _ (by decide +kernel)) ggX8_kinds_X8_isMan
set_option maxRecDepth 20000 in
theorem ggX8_kinds_X8_kindsOfMan : GoodIn wsX8_kinds wsX8_kindsOfMan := goodIn_r _ [17, 10, 18, 19, 20, 4, 21, 22, 23, 24, 25, 26, 27, 33, 34, 35, 36, 37, 38, 39, 40, 41, 42, 43, 44, 45, 46, 47, 48, 49, 50, 51] (by decide +kernel) (by decide +kernel)
set_option maxRecDepth 20000 in
theorem gX8_kinds_X8_kindsOfMan : GoodIn wsX8_kinds (wsV RX8 181 RX8 yX8_kindsOfMan wsX8_kindsOfMan) := goodIn_app (goodIn_of _ (by decide +kernel)) ggX8_kinds_X8_kindsOfMan
set_option maxRecDepth 20000 in
theorem ggX8_kinds_X8_bad : GoodIn wsX8_kinds wsX8_bad := goodIn_r _ [31, 32, 33, 34, 35, 36, 37, 38, 39, 40, 41, 42, 43, 44, 45, 46, 47, 48, 49, 50, 51] (by decide +kernel) (by decide +kernel)
set_option maxRecDepth 20000 in
theorem gX8_kinds_X8_bad : GoodIn wsX8_kinds (wsV RX8 73 RX8 yX8_bad wsX8_bad) := goodIn_app (goodIn_of _ (by decide +kernel)) ggX8_kinds_X8_bad
theorem dX8_kinds_0 : decode cX8_kinds 0 = .ok (.aload_n 0, 1) := by decide +kernel
theorem dX8_kinds_1 : decode cX8_kinds 1 = .ok (.iload_n 1, 1) := by decide +kernel
theorem dX8_kinds_2 : decode cX8_kinds 2 = .ok (.invokevirtual 120, 3) := by decide +kernel
theorem dX8_kinds_5 : decode cX8_kinds 5 = .ok (.ifCond .eq 11, 3) := by decide +kernel
theorem dX8_kinds_8 : decode cX8_kinds 8 = .ok (.aload_n 0, 1) := by decide +kernel
theorem dX8_kinds_9 : decode cX8_kinds 9 = .ok (.iload_n 1, 1) := by decide +kernel
theorem dX8_kinds_10 : decode cX8_kinds 10 = .ok (.invokevirtual 181, 3) := by decide +kernel
theorem dX8_kinds_13 : decode cX8_kinds 13 = .ok (.goto 9, 3) := by decide +kernel
theorem dX8_kinds_16 : decode cX8_kinds 16 = .ok (.aload_n 0, 1) := by decide +kernel
theorem dX8_kinds_17 : decode cX8_kinds 17 = .ok (.bipush (-2), 2) := by decide +kernel
theorem dX8_kinds_19 : decode cX8_kinds 19 = .ok (.invokevirtual 73, 3) := by decide +kernel
theorem dX8_kinds_22 : decode cX8_kinds 22 = .ok (.ireturn, 1) := by decide +kernel
set_option maxRecDepth 20000 in
theorem ggX8_ask_X8_isMan : GoodIn wsX8_ask wsX8_isMan := goodIn_r _ [8, 9, 10, 11, 7, 12, 3, 13, 14, 15, 42, 43, 44, 45, 46, 47, 48, 49, 50, 51, 52, 53, 54, 55, 56, 57, 58, 59, 60] (by decide +kernel) (by decide +kernel)
set_option maxRecDepth 20000 in
theorem gX8_ask_X8_isMan : GoodIn wsX8_ask (wsV RX8 120 RX8 yX8_isMan wsX8_isMan) := goodIn_app (goodIn_of _ (by decide +kernel)) ggX8_ask_X8_isMan
set_option maxRecDepth 20000 in
theorem ggX8_ask_X8_bad : GoodIn wsX8_ask wsX8_bad := goodIn_r _ [19, 20, 42, 43, 44, 45, 46, 47, 48, 49, 50, 51, 52, 53, 54, 55, 56, 57, 58, 59, 60] (by decide +kernel) (by decide +kernel)
set_option maxRecDepth 20000 in
theorem gX8_ask_X8_bad : GoodIn wsX8_ask (wsV RX8 73 RX8 yX8_bad wsX8_bad) := goodIn_app (goodIn_of _ (by decide +kernel)) ggX8_ask_X8_bad
set_option maxRecDepth 20000 in
theorem ggX8_ask_X8_kindsOfMan : GoodIn wsX8_ask wsX8_kindsOfMan := goodIn_r _ [24, 3, 25, 26, 27, 7, 28, 29, 30, 31, 32, 33, 34, 42, 43, 44, 45, 46, 47, 48, 49, 50, 51, 52, 53, 54, 55, 56, 57, 58, 59, 60] (by decide +kernel) (by decide +kernel)
set_option maxRecDepth 20000 in
theorem gX8_ask_X8_kindsOfMan : GoodIn wsX8_ask (wsV RX8 181 RX8 yX8_kindsOfMan wsX8_kindsOfMan) := goodIn_app (goodIn_of _ (by decide +kernel)) ggX8_ask_X8_kindsOfMan
set_option maxRecDepth 20000 in
theorem ggX8_ask_X8_likedAs : GoodIn wsX8_ask wsX8_likedAs := goodIn_r _ [34] (by decide +kernel) (by decide +kernel)
set_option maxRecDepth 20000 in
theorem gX8_ask_X8_likedAs : GoodIn wsX8_ask (va_wsS RX8 101 yX8_likedAs wsX8_likedAs) := goodIn_app (goodIn_of _ (by decide +kernel)) ggX8_ask_X8_likedAs
set_option maxRecDepth 20000 in
theorem ggX8_ask_X8_mostAlike : GoodIn wsX8_ask wsX8_mostAlike := goodIn_r _ [38, 2, 39, 40, 7, 41, 42, 43, 44, 45, 46, 47, 48, 49, 50, 51, 52, 53, 54, 55, 56, 57, 58, 59, 60] (by decide +kernel) (by decide +kernel)
set_option maxRecDepth 20000 in
theorem gX8_ask_X8_mostAlike : GoodIn wsX8_ask (wsV RX8 178 RX8 yX8_mostAlike wsX8_mostAlike) := goodIn_app (goodIn_of _ (by decide +kernel)) ggX8_ask_X8_mostAlike
theorem dX8_ask_0 : decode cX8_ask 0 = .ok (.aload_n 0, 1) := by decide +kernel
theorem dX8_ask_1 : decode cX8_ask 1 = .ok (.iload_n 1, 1) := by decide +kernel
theorem dX8_ask_2 : decode cX8_ask 2 = .ok (.invokevirtual 120, 3) := by decide +kernel
theorem dX8_ask_5 : decode cX8_ask 5 = .ok (.ifCond .ne 10, 3) := by decide +kernel
theorem dX8_ask_8 : decode cX8_ask 8 = .ok (.aload_n 0, 1) := by decide +kernel
theorem dX8_ask_9 : decode cX8_ask 9 = .ok (.bipush (-2), 2) := by decide +kernel
theorem dX8_ask_11 : decode cX8_ask 11 = .ok (.invokevirtual 73, 3) := by decide +kernel
theorem dX8_ask_14 : decode cX8_ask 14 = .ok (.ireturn, 1) := by decide +kernel
theorem dX8_ask_15 : decode cX8_ask 15 = .ok (.aload_n 0, 1) := by decide +kernel
theorem dX8_ask_16 : decode cX8_ask 16 = .ok (.iload_n 1, 1) := by decide +kernel
theorem dX8_ask_17 : decode cX8_ask 17 = .ok (.invokevirtual 181, 3) := by decide +kernel
theorem dX8_ask_20 : decode cX8_ask 20 = .ok (.istore_n 2, 1) := by decide +kernel
theorem dX8_ask_21 : decode cX8_ask 21 = .ok (.iconst (-1), 1) := by decide +kernel
theorem dX8_ask_22 : decode cX8_ask 22 = .ok (.istore_n 3, 1) := by decide +kernel
theorem dX8_ask_23 : decode cX8_ask 23 = .ok (.ldc 146, 2) := by decide +kernel
theorem dX8_ask_25 : decode cX8_ask 25 = .ok (.istore 4, 2) := by decide +kernel
theorem dX8_ask_27 : decode cX8_ask 27 = .ok (.iconst 0, 1) := by decide +kernel
theorem dX8_ask_28 : decode cX8_ask 28 = .ok (.istore 5, 2) := by decide +kernel
theorem dX8_ask_30 : decode cX8_ask 30 = .ok (.iload 5, 2) := by decide +kernel
theorem dX8_ask_32 : decode cX8_ask 32 = .ok (.bipush 10, 2) := by decide +kernel
theorem dX8_ask_34 : decode cX8_ask 34 = .ok (.if_icmp .ge 89, 3) := by decide +kernel
theorem dX8_ask_37 : decode cX8_ask 37 = .ok (.iload_n 2, 1) := by decide +kernel
theorem dX8_ask_38 : decode cX8_ask 38 = .ok (.ifCond .le 85, 3) := by decide +kernel
theorem dX8_ask_41 : decode cX8_ask 41 = .ok (.iconst 0, 1) := by decide +kernel
theorem dX8_ask_42 : decode cX8_ask 42 = .ok (.istore 6, 2) := by decide +kernel
theorem dX8_ask_44 : decode cX8_ask 44 = .ok (.iload 6, 2) := by decide +kernel
theorem dX8_ask_46 : decode cX8_ask 46 = .ok (.bipush 6, 2) := by decide +kernel
theorem dX8_ask_48 : decode cX8_ask 48 = .ok (.if_icmp .ge 32, 3) := by decide +kernel
theorem dX8_ask_51 : decode cX8_ask 51 = .ok (.aload_n 0, 1) := by decide +kernel
theorem dX8_ask_52 : decode cX8_ask 52 = .ok (.getfield 39, 3) := by decide +kernel
theorem dX8_ask_55 : decode cX8_ask 55 = .ok (.iload 6, 2) := by decide +kernel
theorem dX8_ask_57 : decode cX8_ask 57 = .ok (.iload 6, 2) := by decide +kernel
theorem dX8_ask_59 : decode cX8_ask 59 = .ok (.aload_n 0, 1) := by decide +kernel
theorem dX8_ask_60 : decode cX8_ask 60 = .ok (.getfield 7, 3) := by decide +kernel
theorem dX8_ask_63 : decode cX8_ask 63 = .ok (.bipush 28, 2) := by decide +kernel
theorem dX8_ask_65 : decode cX8_ask 65 = .ok (.iload_n 1, 1) := by decide +kernel
theorem dX8_ask_66 : decode cX8_ask 66 = .ok (.iadd, 1) := by decide +kernel
theorem dX8_ask_67 : decode cX8_ask 67 = .ok (.iaload, 1) := by decide +kernel
theorem dX8_ask_68 : decode cX8_ask 68 = .ok (.iload 5, 2) := by decide +kernel
theorem dX8_ask_70 : decode cX8_ask 70 = .ok (.invokestatic 101, 3) := by decide +kernel
theorem dX8_ask_73 : decode cX8_ask 73 = .ok (.iastore, 1) := by decide +kernel
theorem dX8_ask_74 : decode cX8_ask 74 = .ok (.iinc 6 1, 3) := by decide +kernel
theorem dX8_ask_77 : decode cX8_ask 77 = .ok (.goto (-33), 3) := by decide +kernel
theorem dX8_ask_80 : decode cX8_ask 80 = .ok (.aload_n 0, 1) := by decide +kernel
theorem dX8_ask_81 : decode cX8_ask 81 = .ok (.iload_n 2, 1) := by decide +kernel
theorem dX8_ask_82 : decode cX8_ask 82 = .ok (.invokevirtual 178, 3) := by decide +kernel
theorem dX8_ask_85 : decode cX8_ask 85 = .ok (.istore 6, 2) := by decide +kernel
theorem dX8_ask_87 : decode cX8_ask 87 = .ok (.iload 6, 2) := by decide +kernel
theorem dX8_ask_89 : decode cX8_ask 89 = .ok (.iload 4, 2) := by decide +kernel
theorem dX8_ask_91 : decode cX8_ask 91 = .ok (.if_icmp .ge 8, 3) := by decide +kernel
theorem dX8_ask_94 : decode cX8_ask 94 = .ok (.iload 5, 2) := by decide +kernel
theorem dX8_ask_96 : decode cX8_ask 96 = .ok (.goto 4, 3) := by decide +kernel
theorem dX8_ask_99 : decode cX8_ask 99 = .ok (.iload_n 3, 1) := by decide +kernel
theorem dX8_ask_100 : decode cX8_ask 100 = .ok (.istore_n 3, 1) := by decide +kernel
theorem dX8_ask_101 : decode cX8_ask 101 = .ok (.iload 6, 2) := by decide +kernel
theorem dX8_ask_103 : decode cX8_ask 103 = .ok (.iload 4, 2) := by decide +kernel
theorem dX8_ask_105 : decode cX8_ask 105 = .ok (.if_icmp .ge 8, 3) := by decide +kernel
theorem dX8_ask_108 : decode cX8_ask 108 = .ok (.iload 6, 2) := by decide +kernel
theorem dX8_ask_110 : decode cX8_ask 110 = .ok (.goto 5, 3) := by decide +kernel
theorem dX8_ask_113 : decode cX8_ask 113 = .ok (.iload 4, 2) := by decide +kernel
theorem dX8_ask_115 : decode cX8_ask 115 = .ok (.istore 4, 2) := by decide +kernel
theorem dX8_ask_117 : decode cX8_ask 117 = .ok (.iinc 5 1, 3) := by decide +kernel
theorem dX8_ask_120 : decode cX8_ask 120 = .ok (.goto (-90), 3) := by decide +kernel
theorem dX8_ask_123 : decode cX8_ask 123 = .ok (.iload_n 3, 1) := by decide +kernel
theorem dX8_ask_124 : decode cX8_ask 124 = .ok (.ireturn, 1) := by decide +kernel
set_option maxRecDepth 20000 in
theorem ggX8_canBehind_X8_layHand : GoodIn wsX8_canBehind wsX8_layHand := goodIn_r _ [6, 1, 7, 32, 33, 34, 35, 36, 37, 38, 39, 40, 41, 42, 43, 44, 45, 46, 47, 48, 49, 50] (by decide +kernel) (by decide +kernel)
set_option maxRecDepth 20000 in
theorem gX8_canBehind_X8_layHand : GoodIn wsX8_canBehind (wsV RX8 141 RX8 yX8_layHand wsX8_layHand) := goodIn_app (goodIn_of _ (by decide +kernel)) ggX8_canBehind_X8_layHand
set_option maxRecDepth 20000 in
theorem ggX8_canBehind_X8_goCall : GoodIn wsX8_canBehind wsX8_goCall := goodIn_r _ [10, 11, 12, 5, 13, 14, 15, 16, 17, 18, 19] (by decide +kernel) (by decide +kernel)
set_option maxRecDepth 20000 in
theorem gX8_canBehind_X8_goCall : GoodIn wsX8_canBehind (va_wsS RX8 117 yX8_goCall wsX8_goCall) := goodIn_app (goodIn_of _ (by decide +kernel)) ggX8_canBehind_X8_goCall
set_option maxRecDepth 20000 in
theorem ggX8_canBehind_X8_canSail : GoodIn wsX8_canBehind wsX8_canSail := goodIn_r _ [22, 23, 24, 5, 25, 26, 27, 28, 29, 30, 31] (by decide +kernel) (by decide +kernel)
set_option maxRecDepth 20000 in
theorem gX8_canBehind_X8_canSail : GoodIn wsX8_canBehind (va_wsS RX8 135 yX8_canSail wsX8_canSail) := goodIn_app (goodIn_of _ (by decide +kernel)) ggX8_canBehind_X8_canSail
theorem dX8_canBehind_0 : decode cX8_canBehind 0 = .ok (.aload_n 0, 1) := by decide +kernel
theorem dX8_canBehind_1 : decode cX8_canBehind 1 = .ok (.invokevirtual 141, 3) := by decide +kernel
theorem dX8_canBehind_4 : decode cX8_canBehind 4 = .ok (.aload_n 0, 1) := by decide +kernel
theorem dX8_canBehind_5 : decode cX8_canBehind 5 = .ok (.getfield 27, 3) := by decide +kernel
theorem dX8_canBehind_8 : decode cX8_canBehind 8 = .ok (.iload_n 1, 1) := by decide +kernel
theorem dX8_canBehind_9 : decode cX8_canBehind 9 = .ok (.invokestatic 117, 3) := by decide +kernel
theorem dX8_canBehind_12 : decode cX8_canBehind 12 = .ok (.istore_n 3, 1) := by decide +kernel
theorem dX8_canBehind_13 : decode cX8_canBehind 13 = .ok (.aload_n 0, 1) := by decide +kernel
theorem dX8_canBehind_14 : decode cX8_canBehind 14 = .ok (.getfield 27, 3) := by decide +kernel
theorem dX8_canBehind_17 : decode cX8_canBehind 17 = .ok (.iload_n 1, 1) := by decide +kernel
theorem dX8_canBehind_18 : decode cX8_canBehind 18 = .ok (.iload_n 2, 1) := by decide +kernel
theorem dX8_canBehind_19 : decode cX8_canBehind 19 = .ok (.invokestatic 135, 3) := by decide +kernel
theorem dX8_canBehind_22 : decode cX8_canBehind 22 = .ok (.ireturn, 1) := by decide +kernel
theorem dX8_getsBy_0 : decode cX8_getsBy 0 = .ok (.iload_n 0, 1) := by decide +kernel
theorem dX8_getsBy_1 : decode cX8_getsBy 1 = .ok (.iconst 1, 1) := by decide +kernel
theorem dX8_getsBy_2 : decode cX8_getsBy 2 = .ok (.if_icmp .ne 17, 3) := by decide +kernel
theorem dX8_getsBy_5 : decode cX8_getsBy 5 = .ok (.iload_n 2, 1) := by decide +kernel
theorem dX8_getsBy_6 : decode cX8_getsBy 6 = .ok (.ifCond .eq 8, 3) := by decide +kernel
theorem dX8_getsBy_9 : decode cX8_getsBy 9 = .ok (.bipush 6, 2) := by decide +kernel
theorem dX8_getsBy_11 : decode cX8_getsBy 11 = .ok (.goto 18, 3) := by decide +kernel
theorem dX8_getsBy_14 : decode cX8_getsBy 14 = .ok (.bipush (-4), 2) := by decide +kernel
theorem dX8_getsBy_16 : decode cX8_getsBy 16 = .ok (.goto 13, 3) := by decide +kernel
theorem dX8_getsBy_19 : decode cX8_getsBy 19 = .ok (.iload_n 3, 1) := by decide +kernel
theorem dX8_getsBy_20 : decode cX8_getsBy 20 = .ok (.ifCond .eq 7, 3) := by decide +kernel
theorem dX8_getsBy_23 : decode cX8_getsBy 23 = .ok (.iconst 2, 1) := by decide +kernel
theorem dX8_getsBy_24 : decode cX8_getsBy 24 = .ok (.goto 5, 3) := by decide +kernel
theorem dX8_getsBy_27 : decode cX8_getsBy 27 = .ok (.bipush (-2), 2) := by decide +kernel
theorem dX8_getsBy_29 : decode cX8_getsBy 29 = .ok (.istore 4, 2) := by decide +kernel
theorem dX8_getsBy_31 : decode cX8_getsBy 31 = .ok (.iload_n 0, 1) := by decide +kernel
theorem dX8_getsBy_32 : decode cX8_getsBy 32 = .ok (.iconst 1, 1) := by decide +kernel
theorem dX8_getsBy_33 : decode cX8_getsBy 33 = .ok (.if_icmp .ne 15, 3) := by decide +kernel
theorem dX8_getsBy_36 : decode cX8_getsBy 36 = .ok (.iload_n 1, 1) := by decide +kernel
theorem dX8_getsBy_37 : decode cX8_getsBy 37 = .ok (.iconst 1, 1) := by decide +kernel
theorem dX8_getsBy_38 : decode cX8_getsBy 38 = .ok (.if_icmp .ne 10, 3) := by decide +kernel
theorem dX8_getsBy_41 : decode cX8_getsBy 41 = .ok (.iload 4, 2) := by decide +kernel
theorem dX8_getsBy_43 : decode cX8_getsBy 43 = .ok (.iconst 3, 1) := by decide +kernel
theorem dX8_getsBy_44 : decode cX8_getsBy 44 = .ok (.isub, 1) := by decide +kernel
theorem dX8_getsBy_45 : decode cX8_getsBy 45 = .ok (.goto 5, 3) := by decide +kernel
theorem dX8_getsBy_48 : decode cX8_getsBy 48 = .ok (.iload 4, 2) := by decide +kernel
theorem dX8_getsBy_50 : decode cX8_getsBy 50 = .ok (.ireturn, 1) := by decide +kernel
set_option maxRecDepth 20000 in
theorem ggX8_water_X8_isShip : GoodIn wsX8_water wsX8_isShip := goodIn_r _ [6, 1, 7, 8, 5, 9, 55, 56, 57, 58, 59, 60, 61, 62, 63, 64, 65, 66, 67, 68, 69, 70, 71, 72, 73] (by decide +kernel) (by decide +kernel)
set_option maxRecDepth 20000 in
theorem gX8_water_X8_isShip : GoodIn wsX8_water (wsV RX8 83 RX8 yX8_isShip wsX8_isShip) := goodIn_app (goodIn_of _ (by decide +kernel)) ggX8_water_X8_isShip
set_option maxRecDepth 20000 in
theorem ggX8_water_X8_isFar : GoodIn wsX8_water wsX8_isFar := goodIn_r _ [12, 13, 7, 8, 5, 9] (by decide +kernel) (by decide +kernel)
set_option maxRecDepth 20000 in
theorem gX8_water_X8_isFar : GoodIn wsX8_water (va_wsS RX8 132 yX8_isFar wsX8_isFar) := goodIn_app (goodIn_of _ (by decide +kernel)) ggX8_water_X8_isFar
set_option maxRecDepth 20000 in
theorem ggX8_water_X8_bad : GoodIn wsX8_water wsX8_bad := goodIn_r _ [17, 18, 55, 56, 57, 58, 59, 60, 61, 62, 63, 64, 65, 66, 67, 68, 69, 70, 71, 72, 73] (by decide +kernel) (by decide +kernel)
set_option maxRecDepth 20000 in
theorem gX8_water_X8_bad : GoodIn wsX8_water (wsV RX8 73 RX8 yX8_bad wsX8_bad) := goodIn_app (goodIn_of _ (by decide +kernel)) ggX8_water_X8_bad
set_option maxRecDepth 20000 in
theorem ggX8_water_X8_canBehind : GoodIn wsX8_water wsX8_canBehind := goodIn_r _ [22, 23, 24, 25, 26, 5, 27, 1, 28, 29, 30, 31, 32, 33, 34, 35, 36, 37, 38, 39, 40, 41, 42, 43, 44, 45, 46, 47, 48, 49, 50, 51, 55, 56, 57, 58, 59, 60, 61, 62, 63, 64, 65, 66, 67, 68, 69, 70, 71, 72, 73] (by decide +kernel) (by decide +kernel)
set_option maxRecDepth 20000 in
theorem gX8_water_X8_canBehind : GoodIn wsX8_water (wsV RX8 184 RX8 yX8_canBehind wsX8_canBehind) := goodIn_app (goodIn_of _ (by decide +kernel)) ggX8_water_X8_canBehind
set_option maxRecDepth 20000 in
theorem ggX8_water_X8_canSail : GoodIn wsX8_water wsX8_canSail := goodIn_r _ [42, 43, 44, 5, 45, 46, 47, 48, 49, 50, 51] (by decide +kernel) (by decide +kernel)
set_option maxRecDepth 20000 in
theorem gX8_water_X8_canSail : GoodIn wsX8_water (va_wsS RX8 135 yX8_canSail wsX8_canSail) := goodIn_app (goodIn_of _ (by decide +kernel)) ggX8_water_X8_canSail
set_option maxRecDepth 20000 in
theorem ggX8_water_X8_getsBy : GoodIn wsX8_water wsX8_getsBy := goodIn_r _ [54] (by decide +kernel) (by decide +kernel)
set_option maxRecDepth 20000 in
theorem gX8_water_X8_getsBy : GoodIn wsX8_water (va_wsS RX8 187 yX8_getsBy wsX8_getsBy) := goodIn_app (goodIn_of _ (by decide +kernel)) ggX8_water_X8_getsBy
theorem dX8_water_0 : decode cX8_water 0 = .ok (.aload_n 0, 1) := by decide +kernel
theorem dX8_water_1 : decode cX8_water 1 = .ok (.iload_n 1, 1) := by decide +kernel
theorem dX8_water_2 : decode cX8_water 2 = .ok (.invokevirtual 83, 3) := by decide +kernel
theorem dX8_water_5 : decode cX8_water 5 = .ok (.ifCond .eq 23, 3) := by decide +kernel
theorem dX8_water_8 : decode cX8_water 8 = .ok (.aload_n 0, 1) := by decide +kernel
theorem dX8_water_9 : decode cX8_water 9 = .ok (.iload_n 2, 1) := by decide +kernel
theorem dX8_water_10 : decode cX8_water 10 = .ok (.invokevirtual 83, 3) := by decide +kernel
theorem dX8_water_13 : decode cX8_water 13 = .ok (.ifCond .eq 15, 3) := by decide +kernel
theorem dX8_water_16 : decode cX8_water 16 = .ok (.iload_n 1, 1) := by decide +kernel
theorem dX8_water_17 : decode cX8_water 17 = .ok (.iload_n 2, 1) := by decide +kernel
theorem dX8_water_18 : decode cX8_water 18 = .ok (.if_icmp .eq 10, 3) := by decide +kernel
theorem dX8_water_21 : decode cX8_water 21 = .ok (.iload_n 3, 1) := by decide +kernel
theorem dX8_water_22 : decode cX8_water 22 = .ok (.invokestatic 132, 3) := by decide +kernel
theorem dX8_water_25 : decode cX8_water 25 = .ok (.ifCond .ne 10, 3) := by decide +kernel
theorem dX8_water_28 : decode cX8_water 28 = .ok (.aload_n 0, 1) := by decide +kernel
theorem dX8_water_29 : decode cX8_water 29 = .ok (.bipush (-2), 2) := by decide +kernel
theorem dX8_water_31 : decode cX8_water 31 = .ok (.invokevirtual 73, 3) := by decide +kernel
theorem dX8_water_34 : decode cX8_water 34 = .ok (.ireturn, 1) := by decide +kernel
theorem dX8_water_35 : decode cX8_water 35 = .ok (.aload_n 0, 1) := by decide +kernel
theorem dX8_water_36 : decode cX8_water 36 = .ok (.iload_n 1, 1) := by decide +kernel
theorem dX8_water_37 : decode cX8_water 37 = .ok (.iload_n 3, 1) := by decide +kernel
theorem dX8_water_38 : decode cX8_water 38 = .ok (.invokevirtual 184, 3) := by decide +kernel
theorem dX8_water_41 : decode cX8_water 41 = .ok (.istore 4, 2) := by decide +kernel
theorem dX8_water_43 : decode cX8_water 43 = .ok (.aload_n 0, 1) := by decide +kernel
theorem dX8_water_44 : decode cX8_water 44 = .ok (.iload_n 2, 1) := by decide +kernel
theorem dX8_water_45 : decode cX8_water 45 = .ok (.iload_n 3, 1) := by decide +kernel
theorem dX8_water_46 : decode cX8_water 46 = .ok (.invokevirtual 184, 3) := by decide +kernel
theorem dX8_water_49 : decode cX8_water 49 = .ok (.istore 5, 2) := by decide +kernel
theorem dX8_water_51 : decode cX8_water 51 = .ok (.aload_n 0, 1) := by decide +kernel
theorem dX8_water_52 : decode cX8_water 52 = .ok (.getfield 7, 3) := by decide +kernel
theorem dX8_water_55 : decode cX8_water 55 = .ok (.iload_n 1, 1) := by decide +kernel
theorem dX8_water_56 : decode cX8_water 56 = .ok (.iload_n 3, 1) := by decide +kernel
theorem dX8_water_57 : decode cX8_water 57 = .ok (.invokestatic 135, 3) := by decide +kernel
theorem dX8_water_60 : decode cX8_water 60 = .ok (.istore 6, 2) := by decide +kernel
theorem dX8_water_62 : decode cX8_water 62 = .ok (.aload_n 0, 1) := by decide +kernel
theorem dX8_water_63 : decode cX8_water 63 = .ok (.getfield 7, 3) := by decide +kernel
theorem dX8_water_66 : decode cX8_water 66 = .ok (.iload_n 2, 1) := by decide +kernel
theorem dX8_water_67 : decode cX8_water 67 = .ok (.iload_n 3, 1) := by decide +kernel
theorem dX8_water_68 : decode cX8_water 68 = .ok (.invokestatic 135, 3) := by decide +kernel
theorem dX8_water_71 : decode cX8_water 71 = .ok (.istore 7, 2) := by decide +kernel
theorem dX8_water_73 : decode cX8_water 73 = .ok (.iconst 0, 1) := by decide +kernel
theorem dX8_water_74 : decode cX8_water 74 = .ok (.istore 8, 2) := by decide +kernel
theorem dX8_water_76 : decode cX8_water 76 = .ok (.iconst 0, 1) := by decide +kernel
theorem dX8_water_77 : decode cX8_water 77 = .ok (.istore 9, 2) := by decide +kernel
theorem dX8_water_79 : decode cX8_water 79 = .ok (.iload 9, 2) := by decide +kernel
theorem dX8_water_81 : decode cX8_water 81 = .ok (.iconst 4, 1) := by decide +kernel
theorem dX8_water_82 : decode cX8_water 82 = .ok (.if_icmp .ge 100, 3) := by decide +kernel
theorem dX8_water_85 : decode cX8_water 85 = .ok (.iload 9, 2) := by decide +kernel
theorem dX8_water_87 : decode cX8_water 87 = .ok (.iconst 1, 1) := by decide +kernel
theorem dX8_water_88 : decode cX8_water 88 = .ok (.iand, 1) := by decide +kernel
theorem dX8_water_89 : decode cX8_water 89 = .ok (.istore 10, 2) := by decide +kernel
theorem dX8_water_91 : decode cX8_water 91 = .ok (.iload 9, 2) := by decide +kernel
theorem dX8_water_93 : decode cX8_water 93 = .ok (.iconst 1, 1) := by decide +kernel
theorem dX8_water_94 : decode cX8_water 94 = .ok (.ishr, 1) := by decide +kernel
theorem dX8_water_95 : decode cX8_water 95 = .ok (.istore 11, 2) := by decide +kernel
theorem dX8_water_97 : decode cX8_water 97 = .ok (.iload 10, 2) := by decide +kernel
theorem dX8_water_99 : decode cX8_water 99 = .ok (.iload 11, 2) := by decide +kernel
theorem dX8_water_101 : decode cX8_water 101 = .ok (.iload 4, 2) := by decide +kernel
theorem dX8_water_103 : decode cX8_water 103 = .ok (.iload 6, 2) := by decide +kernel
theorem dX8_water_105 : decode cX8_water 105 = .ok (.invokestatic 187, 3) := by decide +kernel
theorem dX8_water_108 : decode cX8_water 108 = .ok (.iconst 1, 1) := by decide +kernel
theorem dX8_water_109 : decode cX8_water 109 = .ok (.iload 10, 2) := by decide +kernel
theorem dX8_water_111 : decode cX8_water 111 = .ok (.isub, 1) := by decide +kernel
theorem dX8_water_112 : decode cX8_water 112 = .ok (.iload 11, 2) := by decide +kernel
theorem dX8_water_114 : decode cX8_water 114 = .ok (.iload 4, 2) := by decide +kernel
theorem dX8_water_116 : decode cX8_water 116 = .ok (.iload 6, 2) := by decide +kernel
theorem dX8_water_118 : decode cX8_water 118 = .ok (.invokestatic 187, 3) := by decide +kernel
theorem dX8_water_121 : decode cX8_water 121 = .ok (.if_icmp .lt 34, 3) := by decide +kernel
theorem dX8_water_124 : decode cX8_water 124 = .ok (.iload 11, 2) := by decide +kernel
theorem dX8_water_126 : decode cX8_water 126 = .ok (.iload 10, 2) := by decide +kernel
theorem dX8_water_128 : decode cX8_water 128 = .ok (.iload 5, 2) := by decide +kernel
theorem dX8_water_130 : decode cX8_water 130 = .ok (.iload 7, 2) := by decide +kernel
theorem dX8_water_132 : decode cX8_water 132 = .ok (.invokestatic 187, 3) := by decide +kernel
theorem dX8_water_135 : decode cX8_water 135 = .ok (.iconst 1, 1) := by decide +kernel
theorem dX8_water_136 : decode cX8_water 136 = .ok (.iload 11, 2) := by decide +kernel
theorem dX8_water_138 : decode cX8_water 138 = .ok (.isub, 1) := by decide +kernel
theorem dX8_water_139 : decode cX8_water 139 = .ok (.iload 10, 2) := by decide +kernel
theorem dX8_water_141 : decode cX8_water 141 = .ok (.iload 5, 2) := by decide +kernel
theorem dX8_water_143 : decode cX8_water 143 = .ok (.iload 7, 2) := by decide +kernel
theorem dX8_water_145 : decode cX8_water 145 = .ok (.invokestatic 187, 3) := by decide +kernel
theorem dX8_water_148 : decode cX8_water 148 = .ok (.if_icmp .lt 7, 3) := by decide +kernel
theorem dX8_water_151 : decode cX8_water 151 = .ok (.iconst 1, 1) := by decide +kernel
theorem dX8_water_152 : decode cX8_water 152 = .ok (.goto 4, 3) := by decide +kernel
theorem dX8_water_155 : decode cX8_water 155 = .ok (.iconst 0, 1) := by decide +kernel
theorem dX8_water_156 : decode cX8_water 156 = .ok (.istore 12, 2) := by decide +kernel
theorem dX8_water_158 : decode cX8_water 158 = .ok (.iload 8, 2) := by decide +kernel
theorem dX8_water_160 : decode cX8_water 160 = .ok (.iload 12, 2) := by decide +kernel
theorem dX8_water_162 : decode cX8_water 162 = .ok (.ifCond .eq 10, 3) := by decide +kernel
theorem dX8_water_165 : decode cX8_water 165 = .ok (.iconst 1, 1) := by decide +kernel
theorem dX8_water_166 : decode cX8_water 166 = .ok (.iload 9, 2) := by decide +kernel
theorem dX8_water_168 : decode cX8_water 168 = .ok (.ishl, 1) := by decide +kernel
theorem dX8_water_169 : decode cX8_water 169 = .ok (.goto 4, 3) := by decide +kernel
theorem dX8_water_172 : decode cX8_water 172 = .ok (.iconst 0, 1) := by decide +kernel
theorem dX8_water_173 : decode cX8_water 173 = .ok (.ior, 1) := by decide +kernel
theorem dX8_water_174 : decode cX8_water 174 = .ok (.istore 8, 2) := by decide +kernel
theorem dX8_water_176 : decode cX8_water 176 = .ok (.iinc 9 1, 3) := by decide +kernel
theorem dX8_water_179 : decode cX8_water 179 = .ok (.goto (-100), 3) := by decide +kernel
theorem dX8_water_182 : decode cX8_water 182 = .ok (.iload 8, 2) := by decide +kernel
theorem dX8_water_184 : decode cX8_water 184 = .ok (.ireturn, 1) := by decide +kernel
theorem dX8_fraction_0 : decode cX8_fraction 0 = .ok (.lload_n 1, 1) := by decide +kernel
theorem dX8_fraction_1 : decode cX8_fraction 1 = .ok (.lstore 5, 2) := by decide +kernel
theorem dX8_fraction_3 : decode cX8_fraction 3 = .ok (.lload_n 3, 1) := by decide +kernel
theorem dX8_fraction_4 : decode cX8_fraction 4 = .ok (.lstore 7, 2) := by decide +kernel
theorem dX8_fraction_6 : decode cX8_fraction 6 = .ok (.lload 7, 2) := by decide +kernel
theorem dX8_fraction_8 : decode cX8_fraction 8 = .ok (.lconst 0, 1) := by decide +kernel
theorem dX8_fraction_9 : decode cX8_fraction 9 = .ok (.lcmp, 1) := by decide +kernel
theorem dX8_fraction_10 : decode cX8_fraction 10 = .ok (.ifCond .eq 21, 3) := by decide +kernel
theorem dX8_fraction_13 : decode cX8_fraction 13 = .ok (.lload 5, 2) := by decide +kernel
theorem dX8_fraction_15 : decode cX8_fraction 15 = .ok (.lload 7, 2) := by decide +kernel
theorem dX8_fraction_17 : decode cX8_fraction 17 = .ok (.lrem, 1) := by decide +kernel
theorem dX8_fraction_18 : decode cX8_fraction 18 = .ok (.lstore 9, 2) := by decide +kernel
theorem dX8_fraction_20 : decode cX8_fraction 20 = .ok (.lload 7, 2) := by decide +kernel
theorem dX8_fraction_22 : decode cX8_fraction 22 = .ok (.lstore 5, 2) := by decide +kernel
theorem dX8_fraction_24 : decode cX8_fraction 24 = .ok (.lload 9, 2) := by decide +kernel
theorem dX8_fraction_26 : decode cX8_fraction 26 = .ok (.lstore 7, 2) := by decide +kernel
theorem dX8_fraction_28 : decode cX8_fraction 28 = .ok (.goto (-22), 3) := by decide +kernel
theorem dX8_fraction_31 : decode cX8_fraction 31 = .ok (.aload_n 0, 1) := by decide +kernel
theorem dX8_fraction_32 : decode cX8_fraction 32 = .ok (.lload_n 1, 1) := by decide +kernel
theorem dX8_fraction_33 : decode cX8_fraction 33 = .ok (.lload 5, 2) := by decide +kernel
theorem dX8_fraction_35 : decode cX8_fraction 35 = .ok (.ldiv, 1) := by decide +kernel
theorem dX8_fraction_36 : decode cX8_fraction 36 = .ok (.putfield 191, 3) := by decide +kernel
theorem dX8_fraction_39 : decode cX8_fraction 39 = .ok (.aload_n 0, 1) := by decide +kernel
theorem dX8_fraction_40 : decode cX8_fraction 40 = .ok (.lload_n 3, 1) := by decide +kernel
theorem dX8_fraction_41 : decode cX8_fraction 41 = .ok (.lload 5, 2) := by decide +kernel
theorem dX8_fraction_43 : decode cX8_fraction 43 = .ok (.ldiv, 1) := by decide +kernel
theorem dX8_fraction_44 : decode cX8_fraction 44 = .ok (.putfield 23, 3) := by decide +kernel
theorem dX8_fraction_47 : decode cX8_fraction 47 = .ok (.return_, 1) := by decide +kernel
set_option maxRecDepth 20000 in
theorem ggX8_lots_X8_isMan : GoodIn wsX8_lots wsX8_isMan := goodIn_r _ [7, 8, 9, 10, 6, 11, 2, 12, 13, 14, 33, 34, 35, 36, 37, 38, 39, 40, 41, 42, 43, 44, 45, 46, 47, 48, 49, 50, 51] (by decide +kernel) (by decide +kernel)
set_option maxRecDepth 20000 in
theorem gX8_lots_X8_isMan : GoodIn wsX8_lots (wsV RX8 120 RX8 yX8_isMan wsX8_isMan) := goodIn_app (goodIn_of _ (by decide +kernel)) ggX8_lots_X8_isMan
set_option maxRecDepth 20000 in
theorem ggX8_lots_X8_in : GoodIn wsX8_lots wsX8_in := goodIn_r _ [14] (by decide +kernel) (by decide +kernel)
set_option maxRecDepth 20000 in
theorem gX8_lots_X8_in : GoodIn wsX8_lots (va_wsS RX8 59 yX8_in wsX8_in) := goodIn_app (goodIn_of _ (by decide +kernel)) ggX8_lots_X8_in
set_option maxRecDepth 20000 in
theorem ggX8_lots_X8_bad : GoodIn wsX8_lots wsX8_bad := goodIn_r _ [18, 19, 33, 34, 35, 36, 37, 38, 39, 40, 41, 42, 43, 44, 45, 46, 47, 48, 49, 50, 51] (by decide +kernel) (by decide +kernel)
set_option maxRecDepth 20000 in
theorem gX8_lots_X8_bad : GoodIn wsX8_lots (wsV RX8 73 RX8 yX8_bad wsX8_bad) := goodIn_app (goodIn_of _ (by decide +kernel)) ggX8_lots_X8_bad
set_option maxRecDepth 20000 in
theorem ggX8_lots_X8_no : GoodIn wsX8_lots wsX8_no := goodIn_r _ [23, 19, 33, 34, 35, 36, 37, 38, 39, 40, 41, 42, 43, 44, 45, 46, 47, 48, 49, 50, 51] (by decide +kernel) (by decide +kernel)
set_option maxRecDepth 20000 in
theorem gX8_lots_X8_no : GoodIn wsX8_lots (wsV RX8 111 RX8 yX8_no wsX8_no) := goodIn_app (goodIn_of _ (by decide +kernel)) ggX8_lots_X8_no
set_option maxRecDepth 20000 in
theorem ggX8_lots_X8_aboard : GoodIn wsX8_lots wsX8_aboard := goodIn_r _ [26] (by decide +kernel) (by decide +kernel)
set_option maxRecDepth 20000 in
theorem gX8_lots_X8_aboard : GoodIn wsX8_lots (va_wsS RX8 90 yX8_aboard wsX8_aboard) := goodIn_app (goodIn_of _ (by decide +kernel)) ggX8_lots_X8_aboard
set_option maxRecDepth 20000 in
theorem ggX8_lots_X8_fraction : GoodIn wsX8_lots wsX8_fraction := goodIn_r _ [30, 31, 32, 33, 34, 35, 36, 37, 38, 39, 40, 41, 42, 43, 44, 45, 46, 47, 48, 49, 50, 51] (by decide +kernel) (by decide +kernel)
set_option maxRecDepth 20000 in
theorem gX8_lots_X8_fraction : GoodIn wsX8_lots (wsV RX8 194 RX8 yX8_fraction wsX8_fraction) := goodIn_app (goodIn_of _ (by decide +kernel)) ggX8_lots_X8_fraction
theorem dX8_lots_0 : decode cX8_lots 0 = .ok (.aload_n 0, 1) := by decide +kernel
theorem dX8_lots_1 : decode cX8_lots 1 = .ok (.iload_n 1, 1) := by decide +kernel
theorem dX8_lots_2 : decode cX8_lots 2 = .ok (.invokevirtual 120, 3) := by decide +kernel
theorem dX8_lots_5 : decode cX8_lots 5 = .ok (.ifCond .eq 15, 3) := by decide +kernel
theorem dX8_lots_8 : decode cX8_lots 8 = .ok (.iload_n 2, 1) := by decide +kernel
theorem dX8_lots_9 : decode cX8_lots 9 = .ok (.i2l, 1) := by decide +kernel
theorem dX8_lots_10 : decode cX8_lots 10 = .ok (.lconst 0, 1) := by decide +kernel
theorem dX8_lots_11 : decode cX8_lots 11 = .ok (.ldc2_w 139, 3) := by decide +kernel
theorem dX8_lots_14 : decode cX8_lots 14 = .ok (.invokestatic 59, 3) := by decide +kernel
theorem dX8_lots_17 : decode cX8_lots 17 = .ok (.ifCond .ne 10, 3) := by decide +kernel
theorem dX8_lots_20 : decode cX8_lots 20 = .ok (.aload_n 0, 1) := by decide +kernel
theorem dX8_lots_21 : decode cX8_lots 21 = .ok (.bipush (-2), 2) := by decide +kernel
theorem dX8_lots_23 : decode cX8_lots 23 = .ok (.invokevirtual 73, 3) := by decide +kernel
theorem dX8_lots_26 : decode cX8_lots 26 = .ok (.ireturn, 1) := by decide +kernel
theorem dX8_lots_27 : decode cX8_lots 27 = .ok (.aload_n 0, 1) := by decide +kernel
theorem dX8_lots_28 : decode cX8_lots 28 = .ok (.getfield 7, 3) := by decide +kernel
theorem dX8_lots_31 : decode cX8_lots 31 = .ok (.bipush 6, 2) := by decide +kernel
theorem dX8_lots_33 : decode cX8_lots 33 = .ok (.iload_n 1, 1) := by decide +kernel
theorem dX8_lots_34 : decode cX8_lots 34 = .ok (.iadd, 1) := by decide +kernel
theorem dX8_lots_35 : decode cX8_lots 35 = .ok (.iaload, 1) := by decide +kernel
theorem dX8_lots_36 : decode cX8_lots 36 = .ok (.iconst 1, 1) := by decide +kernel
theorem dX8_lots_37 : decode cX8_lots 37 = .ok (.isub, 1) := by decide +kernel
theorem dX8_lots_38 : decode cX8_lots 38 = .ok (.istore_n 3, 1) := by decide +kernel
theorem dX8_lots_39 : decode cX8_lots 39 = .ok (.iload_n 3, 1) := by decide +kernel
theorem dX8_lots_40 : decode cX8_lots 40 = .ok (.iconst (-1), 1) := by decide +kernel
theorem dX8_lots_41 : decode cX8_lots 41 = .ok (.if_icmp .ne 8, 3) := by decide +kernel
theorem dX8_lots_44 : decode cX8_lots 44 = .ok (.aload_n 0, 1) := by decide +kernel
theorem dX8_lots_45 : decode cX8_lots 45 = .ok (.invokevirtual 111, 3) := by decide +kernel
theorem dX8_lots_48 : decode cX8_lots 48 = .ok (.ireturn, 1) := by decide +kernel
theorem dX8_lots_49 : decode cX8_lots 49 = .ok (.aload_n 0, 1) := by decide +kernel
theorem dX8_lots_50 : decode cX8_lots 50 = .ok (.getfield 7, 3) := by decide +kernel
theorem dX8_lots_53 : decode cX8_lots 53 = .ok (.iload_n 3, 1) := by decide +kernel
theorem dX8_lots_54 : decode cX8_lots 54 = .ok (.invokestatic 90, 3) := by decide +kernel
theorem dX8_lots_57 : decode cX8_lots 57 = .ok (.istore 4, 2) := by decide +kernel
theorem dX8_lots_59 : decode cX8_lots 59 = .ok (.aload_n 0, 1) := by decide +kernel
theorem dX8_lots_60 : decode cX8_lots 60 = .ok (.iload_n 2, 1) := by decide +kernel
theorem dX8_lots_61 : decode cX8_lots 61 = .ok (.iload 4, 2) := by decide +kernel
theorem dX8_lots_63 : decode cX8_lots 63 = .ok (.if_icmp .ge 8, 3) := by decide +kernel
theorem dX8_lots_66 : decode cX8_lots 66 = .ok (.iload_n 2, 1) := by decide +kernel
theorem dX8_lots_67 : decode cX8_lots 67 = .ok (.i2l, 1) := by decide +kernel
theorem dX8_lots_68 : decode cX8_lots 68 = .ok (.goto 6, 3) := by decide +kernel
theorem dX8_lots_71 : decode cX8_lots 71 = .ok (.iload 4, 2) := by decide +kernel
theorem dX8_lots_73 : decode cX8_lots 73 = .ok (.i2l, 1) := by decide +kernel
theorem dX8_lots_74 : decode cX8_lots 74 = .ok (.iload 4, 2) := by decide +kernel
theorem dX8_lots_76 : decode cX8_lots 76 = .ok (.i2l, 1) := by decide +kernel
theorem dX8_lots_77 : decode cX8_lots 77 = .ok (.invokevirtual 194, 3) := by decide +kernel
theorem dX8_lots_80 : decode cX8_lots 80 = .ok (.iconst 1, 1) := by decide +kernel
theorem dX8_lots_81 : decode cX8_lots 81 = .ok (.ireturn, 1) := by decide +kernel
set_option maxRecDepth 20000 in
theorem ggX8_centuries_X8_in : GoodIn wsX8_centuries wsX8_in := goodIn_r _ [14] (by decide +kernel) (by decide +kernel)
set_option maxRecDepth 20000 in
theorem gX8_centuries_X8_in : GoodIn wsX8_centuries (va_wsS RX8 59 yX8_in wsX8_in) := goodIn_app (goodIn_of _ (by decide +kernel)) ggX8_centuries_X8_in
set_option maxRecDepth 20000 in
theorem ggX8_centuries_X8_bad : GoodIn wsX8_centuries wsX8_bad := goodIn_r _ [18, 19, 52, 53, 54, 55, 56, 57, 58, 59, 60, 61, 62, 63, 64, 65, 66, 67, 68, 69, 70] (by decide +kernel) (by decide +kernel)
set_option maxRecDepth 20000 in
theorem gX8_centuries_X8_bad : GoodIn wsX8_centuries (wsV RX8 73 RX8 yX8_bad wsX8_bad) := goodIn_app (goodIn_of _ (by decide +kernel)) ggX8_centuries_X8_bad
set_option maxRecDepth 20000 in
theorem ggX8_centuries_X8_layHand : GoodIn wsX8_centuries wsX8_layHand := goodIn_r _ [23, 10, 24, 52, 53, 54, 55, 56, 57, 58, 59, 60, 61, 62, 63, 64, 65, 66, 67, 68, 69, 70] (by decide +kernel) (by decide +kernel)
set_option maxRecDepth 20000 in
theorem gX8_centuries_X8_layHand : GoodIn wsX8_centuries (wsV RX8 141 RX8 yX8_layHand wsX8_layHand) := goodIn_app (goodIn_of _ (by decide +kernel)) ggX8_centuries_X8_layHand
set_option maxRecDepth 20000 in
theorem ggX8_centuries_X8_isShip : GoodIn wsX8_centuries wsX8_isShip := goodIn_r _ [28, 24, 11, 12, 13, 14, 52, 53, 54, 55, 56, 57, 58, 59, 60, 61, 62, 63, 64, 65, 66, 67, 68, 69, 70] (by decide +kernel) (by decide +kernel)
set_option maxRecDepth 20000 in
theorem gX8_centuries_X8_isShip : GoodIn wsX8_centuries (wsV RX8 83 RX8 yX8_isShip wsX8_isShip) := goodIn_app (goodIn_of _ (by decide +kernel)) ggX8_centuries_X8_isShip
set_option maxRecDepth 20000 in
theorem ggX8_centuries_X8_goCall : GoodIn wsX8_centuries wsX8_goCall := goodIn_r _ [31, 32, 33, 13, 34, 35, 36, 37, 38, 39, 40] (by decide +kernel) (by decide +kernel)
set_option maxRecDepth 20000 in
theorem gX8_centuries_X8_goCall : GoodIn wsX8_centuries (va_wsS RX8 117 yX8_goCall wsX8_goCall) := goodIn_app (goodIn_of _ (by decide +kernel)) ggX8_centuries_X8_goCall
set_option maxRecDepth 20000 in
theorem ggX8_centuries_X8_isMan : GoodIn wsX8_centuries wsX8_isMan := goodIn_r _ [44, 45, 46, 47, 13, 48, 24, 11, 12, 14, 52, 53, 54, 55, 56, 57, 58, 59, 60, 61, 62, 63, 64, 65, 66, 67, 68, 69, 70] (by decide +kernel) (by decide +kernel)
set_option maxRecDepth 20000 in
theorem gX8_centuries_X8_isMan : GoodIn wsX8_centuries (wsV RX8 120 RX8 yX8_isMan wsX8_isMan) := goodIn_app (goodIn_of _ (by decide +kernel)) ggX8_centuries_X8_isMan
set_option maxRecDepth 20000 in
theorem ggX8_centuries_X8_skillsIn : GoodIn wsX8_centuries wsX8_skillsIn := goodIn_r _ [51] (by decide +kernel) (by decide +kernel)
set_option maxRecDepth 20000 in
theorem gX8_centuries_X8_skillsIn : GoodIn wsX8_centuries (va_wsS RX8 94 yX8_skillsIn wsX8_skillsIn) := goodIn_app (goodIn_of _ (by decide +kernel)) ggX8_centuries_X8_skillsIn
theorem dX8_centuries_0 : decode cX8_centuries 0 = .ok (.iload_n 1, 1) := by decide +kernel
theorem dX8_centuries_1 : decode cX8_centuries 1 = .ok (.i2l, 1) := by decide +kernel
theorem dX8_centuries_2 : decode cX8_centuries 2 = .ok (.lconst 0, 1) := by decide +kernel
theorem dX8_centuries_3 : decode cX8_centuries 3 = .ok (.ldc2_w 198, 3) := by decide +kernel
theorem dX8_centuries_6 : decode cX8_centuries 6 = .ok (.invokestatic 59, 3) := by decide +kernel
theorem dX8_centuries_9 : decode cX8_centuries 9 = .ok (.ifCond .eq 15, 3) := by decide +kernel
theorem dX8_centuries_12 : decode cX8_centuries 12 = .ok (.iload_n 2, 1) := by decide +kernel
theorem dX8_centuries_13 : decode cX8_centuries 13 = .ok (.i2l, 1) := by decide +kernel
theorem dX8_centuries_14 : decode cX8_centuries 14 = .ok (.lconst 0, 1) := by decide +kernel
theorem dX8_centuries_15 : decode cX8_centuries 15 = .ok (.ldc2_w 200, 3) := by decide +kernel
theorem dX8_centuries_18 : decode cX8_centuries 18 = .ok (.invokestatic 59, 3) := by decide +kernel
theorem dX8_centuries_21 : decode cX8_centuries 21 = .ok (.ifCond .ne 10, 3) := by decide +kernel
theorem dX8_centuries_24 : decode cX8_centuries 24 = .ok (.aload_n 0, 1) := by decide +kernel
theorem dX8_centuries_25 : decode cX8_centuries 25 = .ok (.bipush (-2), 2) := by decide +kernel
theorem dX8_centuries_27 : decode cX8_centuries 27 = .ok (.invokevirtual 73, 3) := by decide +kernel
theorem dX8_centuries_30 : decode cX8_centuries 30 = .ok (.ireturn, 1) := by decide +kernel
theorem dX8_centuries_31 : decode cX8_centuries 31 = .ok (.iload_n 1, 1) := by decide +kernel
theorem dX8_centuries_32 : decode cX8_centuries 32 = .ok (.i2l, 1) := by decide +kernel
theorem dX8_centuries_33 : decode cX8_centuries 33 = .ok (.lstore_n 3, 1) := by decide +kernel
theorem dX8_centuries_34 : decode cX8_centuries 34 = .ok (.aload_n 0, 1) := by decide +kernel
theorem dX8_centuries_35 : decode cX8_centuries 35 = .ok (.invokevirtual 141, 3) := by decide +kernel
theorem dX8_centuries_38 : decode cX8_centuries 38 = .ok (.iconst 0, 1) := by decide +kernel
theorem dX8_centuries_39 : decode cX8_centuries 39 = .ok (.istore 5, 2) := by decide +kernel
theorem dX8_centuries_41 : decode cX8_centuries 41 = .ok (.iload 5, 2) := by decide +kernel
theorem dX8_centuries_43 : decode cX8_centuries 43 = .ok (.iload_n 2, 1) := by decide +kernel
theorem dX8_centuries_44 : decode cX8_centuries 44 = .ok (.if_icmp .ge 122, 3) := by decide +kernel
theorem dX8_centuries_47 : decode cX8_centuries 47 = .ok (.lload_n 3, 1) := by decide +kernel
theorem dX8_centuries_48 : decode cX8_centuries 48 = .ok (.ldc2_w 202, 3) := by decide +kernel
theorem dX8_centuries_51 : decode cX8_centuries 51 = .ok (.lmul, 1) := by decide +kernel
theorem dX8_centuries_52 : decode cX8_centuries 52 = .ok (.ldc2_w 204, 3) := by decide +kernel
theorem dX8_centuries_55 : decode cX8_centuries 55 = .ok (.ladd, 1) := by decide +kernel
theorem dX8_centuries_56 : decode cX8_centuries 56 = .ok (.ldc2_w 206, 3) := by decide +kernel
theorem dX8_centuries_59 : decode cX8_centuries 59 = .ok (.lrem, 1) := by decide +kernel
theorem dX8_centuries_60 : decode cX8_centuries 60 = .ok (.lstore_n 3, 1) := by decide +kernel
theorem dX8_centuries_61 : decode cX8_centuries 61 = .ok (.lload_n 3, 1) := by decide +kernel
theorem dX8_centuries_62 : decode cX8_centuries 62 = .ok (.ldc2_w 208, 3) := by decide +kernel
theorem dX8_centuries_65 : decode cX8_centuries 65 = .ok (.ldiv, 1) := by decide +kernel
theorem dX8_centuries_66 : decode cX8_centuries 66 = .ok (.ldc2_w 127, 3) := by decide +kernel
theorem dX8_centuries_69 : decode cX8_centuries 69 = .ok (.lrem, 1) := by decide +kernel
theorem dX8_centuries_70 : decode cX8_centuries 70 = .ok (.l2i, 1) := by decide +kernel
theorem dX8_centuries_71 : decode cX8_centuries 71 = .ok (.istore 6, 2) := by decide +kernel
theorem dX8_centuries_73 : decode cX8_centuries 73 = .ok (.lload_n 3, 1) := by decide +kernel
theorem dX8_centuries_74 : decode cX8_centuries 74 = .ok (.ldc2_w 210, 3) := by decide +kernel
theorem dX8_centuries_77 : decode cX8_centuries 77 = .ok (.ldiv, 1) := by decide +kernel
theorem dX8_centuries_78 : decode cX8_centuries 78 = .ok (.ldc2_w 212, 3) := by decide +kernel
theorem dX8_centuries_81 : decode cX8_centuries 81 = .ok (.lrem, 1) := by decide +kernel
theorem dX8_centuries_82 : decode cX8_centuries 82 = .ok (.l2i, 1) := by decide +kernel
theorem dX8_centuries_83 : decode cX8_centuries 83 = .ok (.istore 7, 2) := by decide +kernel
theorem dX8_centuries_85 : decode cX8_centuries 85 = .ok (.aload_n 0, 1) := by decide +kernel
theorem dX8_centuries_86 : decode cX8_centuries 86 = .ok (.iload 6, 2) := by decide +kernel
theorem dX8_centuries_88 : decode cX8_centuries 88 = .ok (.invokevirtual 83, 3) := by decide +kernel
theorem dX8_centuries_91 : decode cX8_centuries 91 = .ok (.ifCond .eq 24, 3) := by decide +kernel
theorem dX8_centuries_94 : decode cX8_centuries 94 = .ok (.iload 7, 2) := by decide +kernel
theorem dX8_centuries_96 : decode cX8_centuries 96 = .ok (.bipush 8, 2) := by decide +kernel
theorem dX8_centuries_98 : decode cX8_centuries 98 = .ok (.if_icmp .lt 17, 3) := by decide +kernel
theorem dX8_centuries_101 : decode cX8_centuries 101 = .ok (.aload_n 0, 1) := by decide +kernel
theorem dX8_centuries_102 : decode cX8_centuries 102 = .ok (.getfield 27, 3) := by decide +kernel
theorem dX8_centuries_105 : decode cX8_centuries 105 = .ok (.iload 6, 2) := by decide +kernel
theorem dX8_centuries_107 : decode cX8_centuries 107 = .ok (.invokestatic 117, 3) := by decide +kernel
theorem dX8_centuries_110 : decode cX8_centuries 110 = .ok (.istore 8, 2) := by decide +kernel
theorem dX8_centuries_112 : decode cX8_centuries 112 = .ok (.goto 48, 3) := by decide +kernel
theorem dX8_centuries_115 : decode cX8_centuries 115 = .ok (.aload_n 0, 1) := by decide +kernel
theorem dX8_centuries_116 : decode cX8_centuries 116 = .ok (.iload 6, 2) := by decide +kernel
theorem dX8_centuries_118 : decode cX8_centuries 118 = .ok (.invokevirtual 83, 3) := by decide +kernel
theorem dX8_centuries_121 : decode cX8_centuries 121 = .ok (.ifCond .eq 39, 3) := by decide +kernel
theorem dX8_centuries_124 : decode cX8_centuries 124 = .ok (.aload_n 0, 1) := by decide +kernel
theorem dX8_centuries_125 : decode cX8_centuries 125 = .ok (.iload 7, 2) := by decide +kernel
theorem dX8_centuries_127 : decode cX8_centuries 127 = .ok (.invokevirtual 120, 3) := by decide +kernel
theorem dX8_centuries_130 : decode cX8_centuries 130 = .ok (.ifCond .eq 30, 3) := by decide +kernel
theorem dX8_centuries_133 : decode cX8_centuries 133 = .ok (.aload_n 0, 1) := by decide +kernel
theorem dX8_centuries_134 : decode cX8_centuries 134 = .ok (.getfield 27, 3) := by decide +kernel
theorem dX8_centuries_137 : decode cX8_centuries 137 = .ok (.bipush 6, 2) := by decide +kernel
theorem dX8_centuries_139 : decode cX8_centuries 139 = .ok (.iload 7, 2) := by decide +kernel
theorem dX8_centuries_141 : decode cX8_centuries 141 = .ok (.iadd, 1) := by decide +kernel
theorem dX8_centuries_142 : decode cX8_centuries 142 = .ok (.iaload, 1) := by decide +kernel
theorem dX8_centuries_143 : decode cX8_centuries 143 = .ok (.ifCond .ne 17, 3) := by decide +kernel
theorem dX8_centuries_146 : decode cX8_centuries 146 = .ok (.aload_n 0, 1) := by decide +kernel
theorem dX8_centuries_147 : decode cX8_centuries 147 = .ok (.getfield 27, 3) := by decide +kernel
theorem dX8_centuries_150 : decode cX8_centuries 150 = .ok (.bipush 6, 2) := by decide +kernel
theorem dX8_centuries_152 : decode cX8_centuries 152 = .ok (.iload 7, 2) := by decide +kernel
theorem dX8_centuries_154 : decode cX8_centuries 154 = .ok (.iadd, 1) := by decide +kernel
theorem dX8_centuries_155 : decode cX8_centuries 155 = .ok (.iload 6, 2) := by decide +kernel
theorem dX8_centuries_157 : decode cX8_centuries 157 = .ok (.iconst 1, 1) := by decide +kernel
theorem dX8_centuries_158 : decode cX8_centuries 158 = .ok (.iadd, 1) := by decide +kernel
theorem dX8_centuries_159 : decode cX8_centuries 159 = .ok (.iastore, 1) := by decide +kernel
theorem dX8_centuries_160 : decode cX8_centuries 160 = .ok (.iinc 5 1, 3) := by decide +kernel
theorem dX8_centuries_163 : decode cX8_centuries 163 = .ok (.goto (-122), 3) := by decide +kernel
theorem dX8_centuries_166 : decode cX8_centuries 166 = .ok (.aload_n 0, 1) := by decide +kernel
theorem dX8_centuries_167 : decode cX8_centuries 167 = .ok (.getfield 27, 3) := by decide +kernel
theorem dX8_centuries_170 : decode cX8_centuries 170 = .ok (.iconst 0, 1) := by decide +kernel
theorem dX8_centuries_171 : decode cX8_centuries 171 = .ok (.invokestatic 94, 3) := by decide +kernel
theorem dX8_centuries_174 : decode cX8_centuries 174 = .ok (.ireturn, 1) := by decide +kernel
set_option maxRecDepth 20000 in
theorem ggX8_type_X8_in : GoodIn wsX8_type wsX8_in := goodIn_r _ [7] (by decide +kernel) (by decide +kernel)
set_option maxRecDepth 20000 in
theorem gX8_type_X8_in : GoodIn wsX8_type (va_wsS RX8 59 yX8_in wsX8_in) := goodIn_app (goodIn_of _ (by decide +kernel)) ggX8_type_X8_in
set_option maxRecDepth 20000 in
theorem ggX8_type_X8_bad : GoodIn wsX8_type wsX8_bad := goodIn_r _ [11, 12, 17, 18, 19, 20, 21, 22, 23, 24, 25, 26, 27, 28, 29, 30, 31, 32, 33, 34, 35] (by decide +kernel) (by decide +kernel)
set_option maxRecDepth 20000 in
theorem gX8_type_X8_bad : GoodIn wsX8_type (wsV RX8 73 RX8 yX8_bad wsX8_bad) := goodIn_app (goodIn_of _ (by decide +kernel)) ggX8_type_X8_bad
set_option maxRecDepth 20000 in
theorem ggX8_type_X8_full : GoodIn wsX8_type wsX8_full := goodIn_r _ [16, 12, 17, 18, 19, 20, 21, 22, 23, 24, 25, 26, 27, 28, 29, 30, 31, 32, 33, 34, 35] (by decide +kernel) (by decide +kernel)
set_option maxRecDepth 20000 in
theorem gX8_type_X8_full : GoodIn wsX8_type (wsV RX8 77 RX8 yX8_full wsX8_full) := goodIn_app (goodIn_of _ (by decide +kernel)) ggX8_type_X8_full
theorem dX8_type_0 : decode cX8_type 0 = .ok (.iload_n 1, 1) := by decide +kernel
theorem dX8_type_1 : decode cX8_type 1 = .ok (.i2l, 1) := by decide +kernel
theorem dX8_type_2 : decode cX8_type 2 = .ok (.lconst 0, 1) := by decide +kernel
theorem dX8_type_3 : decode cX8_type 3 = .ok (.ldc2_w 214, 3) := by decide +kernel
theorem dX8_type_6 : decode cX8_type 6 = .ok (.invokestatic 59, 3) := by decide +kernel
theorem dX8_type_9 : decode cX8_type 9 = .ok (.ifCond .ne 10, 3) := by decide +kernel
theorem dX8_type_12 : decode cX8_type 12 = .ok (.aload_n 0, 1) := by decide +kernel
theorem dX8_type_13 : decode cX8_type 13 = .ok (.bipush (-2), 2) := by decide +kernel
theorem dX8_type_15 : decode cX8_type 15 = .ok (.invokevirtual 73, 3) := by decide +kernel
theorem dX8_type_18 : decode cX8_type 18 = .ok (.ireturn, 1) := by decide +kernel
theorem dX8_type_19 : decode cX8_type 19 = .ok (.aload_n 0, 1) := by decide +kernel
theorem dX8_type_20 : decode cX8_type 20 = .ok (.getfield 216, 3) := by decide +kernel
theorem dX8_type_23 : decode cX8_type 23 = .ok (.sipush 150, 3) := by decide +kernel
theorem dX8_type_26 : decode cX8_type 26 = .ok (.if_icmp .ne 8, 3) := by decide +kernel
theorem dX8_type_29 : decode cX8_type 29 = .ok (.aload_n 0, 1) := by decide +kernel
theorem dX8_type_30 : decode cX8_type 30 = .ok (.invokevirtual 77, 3) := by decide +kernel
theorem dX8_type_33 : decode cX8_type 33 = .ok (.ireturn, 1) := by decide +kernel
theorem dX8_type_34 : decode cX8_type 34 = .ok (.aload_n 0, 1) := by decide +kernel
theorem dX8_type_35 : decode cX8_type 35 = .ok (.getfield 42, 3) := by decide +kernel
theorem dX8_type_38 : decode cX8_type 38 = .ok (.aload_n 0, 1) := by decide +kernel
theorem dX8_type_39 : decode cX8_type 39 = .ok (.getfield 216, 3) := by decide +kernel
theorem dX8_type_42 : decode cX8_type 42 = .ok (.iload_n 1, 1) := by decide +kernel
theorem dX8_type_43 : decode cX8_type 43 = .ok (.iastore, 1) := by decide +kernel
theorem dX8_type_44 : decode cX8_type 44 = .ok (.aload_n 0, 1) := by decide +kernel
theorem dX8_type_45 : decode cX8_type 45 = .ok (.dup, 1) := by decide +kernel
theorem dX8_type_46 : decode cX8_type 46 = .ok (.getfield 216, 3) := by decide +kernel
theorem dX8_type_49 : decode cX8_type 49 = .ok (.iconst 1, 1) := by decide +kernel
theorem dX8_type_50 : decode cX8_type 50 = .ok (.iadd, 1) := by decide +kernel
theorem dX8_type_51 : decode cX8_type 51 = .ok (.putfield 216, 3) := by decide +kernel
theorem dX8_type_54 : decode cX8_type 54 = .ok (.aload_n 0, 1) := by decide +kernel
theorem dX8_type_55 : decode cX8_type 55 = .ok (.getfield 216, 3) := by decide +kernel
theorem dX8_type_58 : decode cX8_type 58 = .ok (.ireturn, 1) := by decide +kernel
theorem dX8_clear_0 : decode cX8_clear 0 = .ok (.aload_n 0, 1) := by decide +kernel
theorem dX8_clear_1 : decode cX8_clear 1 = .ok (.getfield 216, 3) := by decide +kernel
theorem dX8_clear_4 : decode cX8_clear 4 = .ok (.istore_n 1, 1) := by decide +kernel
theorem dX8_clear_5 : decode cX8_clear 5 = .ok (.aload_n 0, 1) := by decide +kernel
theorem dX8_clear_6 : decode cX8_clear 6 = .ok (.iconst 0, 1) := by decide +kernel
theorem dX8_clear_7 : decode cX8_clear 7 = .ok (.putfield 216, 3) := by decide +kernel
theorem dX8_clear_10 : decode cX8_clear 10 = .ok (.iload_n 1, 1) := by decide +kernel
theorem dX8_clear_11 : decode cX8_clear 11 = .ok (.ireturn, 1) := by decide +kernel
set_option maxRecDepth 20000 in
theorem ggX8_isSmall_X8_in : GoodIn wsX8_isSmall wsX8_in := goodIn_r _ [6] (by decide +kernel) (by decide +kernel)
set_option maxRecDepth 20000 in
theorem gX8_isSmall_X8_in : GoodIn wsX8_isSmall (va_wsS RX8 59 yX8_in wsX8_in) := goodIn_app (goodIn_of _ (by decide +kernel)) ggX8_isSmall_X8_in
theorem dX8_isSmall_0 : decode cX8_isSmall 0 = .ok (.iload_n 0, 1) := by decide +kernel
theorem dX8_isSmall_1 : decode cX8_isSmall 1 = .ok (.i2l, 1) := by decide +kernel
theorem dX8_isSmall_2 : decode cX8_isSmall 2 = .ok (.ldc2_w 220, 3) := by decide +kernel
theorem dX8_isSmall_5 : decode cX8_isSmall 5 = .ok (.ldc2_w 222, 3) := by decide +kernel
theorem dX8_isSmall_8 : decode cX8_isSmall 8 = .ok (.invokestatic 59, 3) := by decide +kernel
theorem dX8_isSmall_11 : decode cX8_isSmall 11 = .ok (.ireturn, 1) := by decide +kernel
set_option maxRecDepth 20000 in
theorem ggX8_isFigure_X8_in : GoodIn wsX8_isFigure wsX8_in := goodIn_r _ [6] (by decide +kernel) (by decide +kernel)
set_option maxRecDepth 20000 in
theorem gX8_isFigure_X8_in : GoodIn wsX8_isFigure (va_wsS RX8 59 yX8_in wsX8_in) := goodIn_app (goodIn_of _ (by decide +kernel)) ggX8_isFigure_X8_in
theorem dX8_isFigure_0 : decode cX8_isFigure 0 = .ok (.iload_n 0, 1) := by decide +kernel
theorem dX8_isFigure_1 : decode cX8_isFigure 1 = .ok (.i2l, 1) := by decide +kernel
theorem dX8_isFigure_2 : decode cX8_isFigure 2 = .ok (.ldc2_w 224, 3) := by decide +kernel
theorem dX8_isFigure_5 : decode cX8_isFigure 5 = .ok (.ldc2_w 226, 3) := by decide +kernel
theorem dX8_isFigure_8 : decode cX8_isFigure 8 = .ok (.invokestatic 59, 3) := by decide +kernel
theorem dX8_isFigure_11 : decode cX8_isFigure 11 = .ok (.ireturn, 1) := by decide +kernel
set_option maxRecDepth 20000 in
theorem ggX8_lookAt_X8_isSmall : GoodIn wsX8_lookAt wsX8_isSmall := goodIn_r _ [10, 11, 12, 13, 14, 9, 15] (by decide +kernel) (by decide +kernel)
set_option maxRecDepth 20000 in
theorem gX8_lookAt_X8_isSmall : GoodIn wsX8_lookAt (va_wsS RX8 240 yX8_isSmall wsX8_isSmall) := goodIn_app (goodIn_of _ (by decide +kernel)) ggX8_lookAt_X8_isSmall
set_option maxRecDepth 20000 in
theorem ggX8_lookAt_X8_isFigure : GoodIn wsX8_lookAt wsX8_isFigure := goodIn_r _ [18, 19, 20, 13, 14, 9, 15] (by decide +kernel) (by decide +kernel)
set_option maxRecDepth 20000 in
theorem gX8_lookAt_X8_isFigure : GoodIn wsX8_lookAt (va_wsS RX8 243 yX8_isFigure wsX8_isFigure) := goodIn_app (goodIn_of _ (by decide +kernel)) ggX8_lookAt_X8_isFigure
theorem dX8_lookAt_0 : decode cX8_lookAt 0 = .ok (.aload_n 0, 1) := by decide +kernel
theorem dX8_lookAt_1 : decode cX8_lookAt 1 = .ok (.iload_n 1, 1) := by decide +kernel
theorem dX8_lookAt_2 : decode cX8_lookAt 2 = .ok (.putfield 228, 3) := by decide +kernel
theorem dX8_lookAt_5 : decode cX8_lookAt 5 = .ok (.aload_n 0, 1) := by decide +kernel
theorem dX8_lookAt_6 : decode cX8_lookAt 6 = .ok (.getfield 228, 3) := by decide +kernel
theorem dX8_lookAt_9 : decode cX8_lookAt 9 = .ok (.aload_n 0, 1) := by decide +kernel
theorem dX8_lookAt_10 : decode cX8_lookAt 10 = .ok (.getfield 216, 3) := by decide +kernel
theorem dX8_lookAt_13 : decode cX8_lookAt 13 = .ok (.if_icmp .ge 30, 3) := by decide +kernel
theorem dX8_lookAt_16 : decode cX8_lookAt 16 = .ok (.aload_n 0, 1) := by decide +kernel
theorem dX8_lookAt_17 : decode cX8_lookAt 17 = .ok (.getfield 42, 3) := by decide +kernel
theorem dX8_lookAt_20 : decode cX8_lookAt 20 = .ok (.aload_n 0, 1) := by decide +kernel
theorem dX8_lookAt_21 : decode cX8_lookAt 21 = .ok (.getfield 228, 3) := by decide +kernel
theorem dX8_lookAt_24 : decode cX8_lookAt 24 = .ok (.iaload, 1) := by decide +kernel
theorem dX8_lookAt_25 : decode cX8_lookAt 25 = .ok (.bipush 32, 2) := by decide +kernel
theorem dX8_lookAt_27 : decode cX8_lookAt 27 = .ok (.if_icmp .ne 16, 3) := by decide +kernel
theorem dX8_lookAt_30 : decode cX8_lookAt 30 = .ok (.aload_n 0, 1) := by decide +kernel
theorem dX8_lookAt_31 : decode cX8_lookAt 31 = .ok (.dup, 1) := by decide +kernel
theorem dX8_lookAt_32 : decode cX8_lookAt 32 = .ok (.getfield 228, 3) := by decide +kernel
theorem dX8_lookAt_35 : decode cX8_lookAt 35 = .ok (.iconst 1, 1) := by decide +kernel
theorem dX8_lookAt_36 : decode cX8_lookAt 36 = .ok (.iadd, 1) := by decide +kernel
theorem dX8_lookAt_37 : decode cX8_lookAt 37 = .ok (.putfield 228, 3) := by decide +kernel
theorem dX8_lookAt_40 : decode cX8_lookAt 40 = .ok (.goto (-35), 3) := by decide +kernel
theorem dX8_lookAt_43 : decode cX8_lookAt 43 = .ok (.aload_n 0, 1) := by decide +kernel
theorem dX8_lookAt_44 : decode cX8_lookAt 44 = .ok (.iconst 0, 1) := by decide +kernel
theorem dX8_lookAt_45 : decode cX8_lookAt 45 = .ok (.putfield 231, 3) := by decide +kernel
theorem dX8_lookAt_48 : decode cX8_lookAt 48 = .ok (.aload_n 0, 1) := by decide +kernel
theorem dX8_lookAt_49 : decode cX8_lookAt 49 = .ok (.iconst 0, 1) := by decide +kernel
theorem dX8_lookAt_50 : decode cX8_lookAt 50 = .ok (.putfield 234, 3) := by decide +kernel
theorem dX8_lookAt_53 : decode cX8_lookAt 53 = .ok (.aload_n 0, 1) := by decide +kernel
theorem dX8_lookAt_54 : decode cX8_lookAt 54 = .ok (.iconst 0, 1) := by decide +kernel
theorem dX8_lookAt_55 : decode cX8_lookAt 55 = .ok (.putfield 237, 3) := by decide +kernel
theorem dX8_lookAt_58 : decode cX8_lookAt 58 = .ok (.aload_n 0, 1) := by decide +kernel
theorem dX8_lookAt_59 : decode cX8_lookAt 59 = .ok (.getfield 228, 3) := by decide +kernel
theorem dX8_lookAt_62 : decode cX8_lookAt 62 = .ok (.aload_n 0, 1) := by decide +kernel
theorem dX8_lookAt_63 : decode cX8_lookAt 63 = .ok (.getfield 216, 3) := by decide +kernel
theorem dX8_lookAt_66 : decode cX8_lookAt 66 = .ok (.if_icmp .ne 4, 3) := by decide +kernel
theorem dX8_lookAt_69 : decode cX8_lookAt 69 = .ok (.return_, 1) := by decide +kernel
theorem dX8_lookAt_70 : decode cX8_lookAt 70 = .ok (.aload_n 0, 1) := by decide +kernel
theorem dX8_lookAt_71 : decode cX8_lookAt 71 = .ok (.getfield 42, 3) := by decide +kernel
theorem dX8_lookAt_74 : decode cX8_lookAt 74 = .ok (.aload_n 0, 1) := by decide +kernel
theorem dX8_lookAt_75 : decode cX8_lookAt 75 = .ok (.getfield 228, 3) := by decide +kernel
theorem dX8_lookAt_78 : decode cX8_lookAt 78 = .ok (.iaload, 1) := by decide +kernel
theorem dX8_lookAt_79 : decode cX8_lookAt 79 = .ok (.istore_n 2, 1) := by decide +kernel
theorem dX8_lookAt_80 : decode cX8_lookAt 80 = .ok (.aload_n 0, 1) := by decide +kernel
theorem dX8_lookAt_81 : decode cX8_lookAt 81 = .ok (.iload_n 2, 1) := by decide +kernel
theorem dX8_lookAt_82 : decode cX8_lookAt 82 = .ok (.invokestatic 240, 3) := by decide +kernel
theorem dX8_lookAt_85 : decode cX8_lookAt 85 = .ok (.ifCond .eq 7, 3) := by decide +kernel
theorem dX8_lookAt_88 : decode cX8_lookAt 88 = .ok (.iconst 1, 1) := by decide +kernel
theorem dX8_lookAt_89 : decode cX8_lookAt 89 = .ok (.goto 25, 3) := by decide +kernel
theorem dX8_lookAt_92 : decode cX8_lookAt 92 = .ok (.iload_n 2, 1) := by decide +kernel
theorem dX8_lookAt_93 : decode cX8_lookAt 93 = .ok (.invokestatic 243, 3) := by decide +kernel
theorem dX8_lookAt_96 : decode cX8_lookAt 96 = .ok (.ifCond .eq 7, 3) := by decide +kernel
theorem dX8_lookAt_99 : decode cX8_lookAt 99 = .ok (.iconst 2, 1) := by decide +kernel
theorem dX8_lookAt_100 : decode cX8_lookAt 100 = .ok (.goto 14, 3) := by decide +kernel
theorem dX8_lookAt_103 : decode cX8_lookAt 103 = .ok (.iload_n 2, 1) := by decide +kernel
theorem dX8_lookAt_104 : decode cX8_lookAt 104 = .ok (.bipush 59, 2) := by decide +kernel
theorem dX8_lookAt_106 : decode cX8_lookAt 106 = .ok (.if_icmp .ne 7, 3) := by decide +kernel
theorem dX8_lookAt_109 : decode cX8_lookAt 109 = .ok (.iconst 3, 1) := by decide +kernel
theorem dX8_lookAt_110 : decode cX8_lookAt 110 = .ok (.goto 4, 3) := by decide +kernel
theorem dX8_lookAt_113 : decode cX8_lookAt 113 = .ok (.iconst 4, 1) := by decide +kernel
theorem dX8_lookAt_114 : decode cX8_lookAt 114 = .ok (.putfield 234, 3) := by decide +kernel
theorem dX8_lookAt_117 : decode cX8_lookAt 117 = .ok (.aload_n 0, 1) := by decide +kernel
theorem dX8_lookAt_118 : decode cX8_lookAt 118 = .ok (.iconst 1, 1) := by decide +kernel
theorem dX8_lookAt_119 : decode cX8_lookAt 119 = .ok (.putfield 231, 3) := by decide +kernel
theorem dX8_lookAt_122 : decode cX8_lookAt 122 = .ok (.aload_n 0, 1) := by decide +kernel
theorem dX8_lookAt_123 : decode cX8_lookAt 123 = .ok (.getfield 234, 3) := by decide +kernel
theorem dX8_lookAt_126 : decode cX8_lookAt 126 = .ok (.iconst 3, 1) := by decide +kernel
theorem dX8_lookAt_127 : decode cX8_lookAt 127 = .ok (.if_icmp .ge 7, 3) := by decide +kernel
theorem dX8_lookAt_130 : decode cX8_lookAt 130 = .ok (.iconst 1, 1) := by decide +kernel
theorem dX8_lookAt_131 : decode cX8_lookAt 131 = .ok (.goto 4, 3) := by decide +kernel
theorem dX8_lookAt_134 : decode cX8_lookAt 134 = .ok (.iconst 0, 1) := by decide +kernel
theorem dX8_lookAt_135 : decode cX8_lookAt 135 = .ok (.istore_n 3, 1) := by decide +kernel
theorem dX8_lookAt_136 : decode cX8_lookAt 136 = .ok (.iload_n 3, 1) := by decide +kernel
theorem dX8_lookAt_137 : decode cX8_lookAt 137 = .ok (.ifCond .eq 78, 3) := by decide +kernel
theorem dX8_lookAt_140 : decode cX8_lookAt 140 = .ok (.aload_n 0, 1) := by decide +kernel
theorem dX8_lookAt_141 : decode cX8_lookAt 141 = .ok (.getfield 228, 3) := by decide +kernel
theorem dX8_lookAt_144 : decode cX8_lookAt 144 = .ok (.aload_n 0, 1) := by decide +kernel
theorem dX8_lookAt_145 : decode cX8_lookAt 145 = .ok (.getfield 231, 3) := by decide +kernel
theorem dX8_lookAt_148 : decode cX8_lookAt 148 = .ok (.iadd, 1) := by decide +kernel
theorem dX8_lookAt_149 : decode cX8_lookAt 149 = .ok (.aload_n 0, 1) := by decide +kernel
theorem dX8_lookAt_150 : decode cX8_lookAt 150 = .ok (.getfield 216, 3) := by decide +kernel
theorem dX8_lookAt_153 : decode cX8_lookAt 153 = .ok (.if_icmp .ge 62, 3) := by decide +kernel
theorem dX8_lookAt_156 : decode cX8_lookAt 156 = .ok (.aload_n 0, 1) := by decide +kernel
theorem dX8_lookAt_157 : decode cX8_lookAt 157 = .ok (.getfield 42, 3) := by decide +kernel
theorem dX8_lookAt_160 : decode cX8_lookAt 160 = .ok (.aload_n 0, 1) := by decide +kernel
theorem dX8_lookAt_161 : decode cX8_lookAt 161 = .ok (.getfield 228, 3) := by decide +kernel
theorem dX8_lookAt_164 : decode cX8_lookAt 164 = .ok (.aload_n 0, 1) := by decide +kernel
theorem dX8_lookAt_165 : decode cX8_lookAt 165 = .ok (.getfield 231, 3) := by decide +kernel
theorem dX8_lookAt_168 : decode cX8_lookAt 168 = .ok (.iadd, 1) := by decide +kernel
theorem dX8_lookAt_169 : decode cX8_lookAt 169 = .ok (.iaload, 1) := by decide +kernel
theorem dX8_lookAt_170 : decode cX8_lookAt 170 = .ok (.istore 4, 2) := by decide +kernel
theorem dX8_lookAt_172 : decode cX8_lookAt 172 = .ok (.aload_n 0, 1) := by decide +kernel
theorem dX8_lookAt_173 : decode cX8_lookAt 173 = .ok (.getfield 234, 3) := by decide +kernel
theorem dX8_lookAt_176 : decode cX8_lookAt 176 = .ok (.iconst 1, 1) := by decide +kernel
theorem dX8_lookAt_177 : decode cX8_lookAt 177 = .ok (.if_icmp .ne 11, 3) := by decide +kernel
theorem dX8_lookAt_180 : decode cX8_lookAt 180 = .ok (.iload 4, 2) := by decide +kernel
theorem dX8_lookAt_182 : decode cX8_lookAt 182 = .ok (.invokestatic 240, 3) := by decide +kernel
theorem dX8_lookAt_185 : decode cX8_lookAt 185 = .ok (.goto 8, 3) := by decide +kernel
theorem dX8_lookAt_188 : decode cX8_lookAt 188 = .ok (.iload 4, 2) := by decide +kernel
theorem dX8_lookAt_190 : decode cX8_lookAt 190 = .ok (.invokestatic 243, 3) := by decide +kernel
theorem dX8_lookAt_193 : decode cX8_lookAt 193 = .ok (.istore_n 3, 1) := by decide +kernel
theorem dX8_lookAt_194 : decode cX8_lookAt 194 = .ok (.aload_n 0, 1) := by decide +kernel
theorem dX8_lookAt_195 : decode cX8_lookAt 195 = .ok (.dup, 1) := by decide +kernel
theorem dX8_lookAt_196 : decode cX8_lookAt 196 = .ok (.getfield 231, 3) := by decide +kernel
theorem dX8_lookAt_199 : decode cX8_lookAt 199 = .ok (.iload_n 3, 1) := by decide +kernel
theorem dX8_lookAt_200 : decode cX8_lookAt 200 = .ok (.ifCond .eq 7, 3) := by decide +kernel
theorem dX8_lookAt_203 : decode cX8_lookAt 203 = .ok (.iconst 1, 1) := by decide +kernel
theorem dX8_lookAt_204 : decode cX8_lookAt 204 = .ok (.goto 4, 3) := by decide +kernel
theorem dX8_lookAt_207 : decode cX8_lookAt 207 = .ok (.iconst 0, 1) := by decide +kernel
theorem dX8_lookAt_208 : decode cX8_lookAt 208 = .ok (.iadd, 1) := by decide +kernel
theorem dX8_lookAt_209 : decode cX8_lookAt 209 = .ok (.putfield 231, 3) := by decide +kernel
theorem dX8_lookAt_212 : decode cX8_lookAt 212 = .ok (.goto (-76), 3) := by decide +kernel
theorem dX8_lookAt_215 : decode cX8_lookAt 215 = .ok (.iconst 0, 1) := by decide +kernel
theorem dX8_lookAt_216 : decode cX8_lookAt 216 = .ok (.istore 4, 2) := by decide +kernel
theorem dX8_lookAt_218 : decode cX8_lookAt 218 = .ok (.iload 4, 2) := by decide +kernel
theorem dX8_lookAt_220 : decode cX8_lookAt 220 = .ok (.aload_n 0, 1) := by decide +kernel
theorem dX8_lookAt_221 : decode cX8_lookAt 221 = .ok (.getfield 231, 3) := by decide +kernel
theorem dX8_lookAt_224 : decode cX8_lookAt 224 = .ok (.if_icmp .ge 50, 3) := by decide +kernel
theorem dX8_lookAt_227 : decode cX8_lookAt 227 = .ok (.iload 4, 2) := by decide +kernel
theorem dX8_lookAt_229 : decode cX8_lookAt 229 = .ok (.iconst 2, 1) := by decide +kernel
theorem dX8_lookAt_230 : decode cX8_lookAt 230 = .ok (.if_icmp .ge 44, 3) := by decide +kernel
theorem dX8_lookAt_233 : decode cX8_lookAt 233 = .ok (.aload_n 0, 1) := by decide +kernel
theorem dX8_lookAt_234 : decode cX8_lookAt 234 = .ok (.getfield 234, 3) := by decide +kernel
theorem dX8_lookAt_237 : decode cX8_lookAt 237 = .ok (.iconst 2, 1) := by decide +kernel
theorem dX8_lookAt_238 : decode cX8_lookAt 238 = .ok (.if_icmp .ne 36, 3) := by decide +kernel
theorem dX8_lookAt_241 : decode cX8_lookAt 241 = .ok (.aload_n 0, 1) := by decide +kernel
theorem dX8_lookAt_242 : decode cX8_lookAt 242 = .ok (.bipush 10, 2) := by decide +kernel
theorem dX8_lookAt_244 : decode cX8_lookAt 244 = .ok (.aload_n 0, 1) := by decide +kernel
theorem dX8_lookAt_245 : decode cX8_lookAt 245 = .ok (.getfield 237, 3) := by decide +kernel
theorem dX8_lookAt_248 : decode cX8_lookAt 248 = .ok (.imul, 1) := by decide +kernel
theorem dX8_lookAt_249 : decode cX8_lookAt 249 = .ok (.aload_n 0, 1) := by decide +kernel
theorem dX8_lookAt_250 : decode cX8_lookAt 250 = .ok (.getfield 42, 3) := by decide +kernel
theorem dX8_lookAt_253 : decode cX8_lookAt 253 = .ok (.aload_n 0, 1) := by decide +kernel
theorem dX8_lookAt_254 : decode cX8_lookAt 254 = .ok (.getfield 228, 3) := by decide +kernel
theorem dX8_lookAt_257 : decode cX8_lookAt 257 = .ok (.iload 4, 2) := by decide +kernel
theorem dX8_lookAt_259 : decode cX8_lookAt 259 = .ok (.iadd, 1) := by decide +kernel
theorem dX8_lookAt_260 : decode cX8_lookAt 260 = .ok (.iaload, 1) := by decide +kernel
theorem dX8_lookAt_261 : decode cX8_lookAt 261 = .ok (.iadd, 1) := by decide +kernel
theorem dX8_lookAt_262 : decode cX8_lookAt 262 = .ok (.bipush 48, 2) := by decide +kernel
theorem dX8_lookAt_264 : decode cX8_lookAt 264 = .ok (.isub, 1) := by decide +kernel
theorem dX8_lookAt_265 : decode cX8_lookAt 265 = .ok (.putfield 237, 3) := by decide +kernel
theorem dX8_lookAt_268 : decode cX8_lookAt 268 = .ok (.iinc 4 1, 3) := by decide +kernel
theorem dX8_lookAt_271 : decode cX8_lookAt 271 = .ok (.goto (-53), 3) := by decide +kernel
theorem dX8_lookAt_274 : decode cX8_lookAt 274 = .ok (.aload_n 0, 1) := by decide +kernel
theorem dX8_lookAt_275 : decode cX8_lookAt 275 = .ok (.aload_n 0, 1) := by decide +kernel
theorem dX8_lookAt_276 : decode cX8_lookAt 276 = .ok (.getfield 234, 3) := by decide +kernel
theorem dX8_lookAt_279 : decode cX8_lookAt 279 = .ok (.iconst 2, 1) := by decide +kernel
theorem dX8_lookAt_280 : decode cX8_lookAt 280 = .ok (.if_icmp .ne 15, 3) := by decide +kernel
theorem dX8_lookAt_283 : decode cX8_lookAt 283 = .ok (.aload_n 0, 1) := by decide +kernel
theorem dX8_lookAt_284 : decode cX8_lookAt 284 = .ok (.getfield 231, 3) := by decide +kernel
theorem dX8_lookAt_287 : decode cX8_lookAt 287 = .ok (.iconst 2, 1) := by decide +kernel
theorem dX8_lookAt_288 : decode cX8_lookAt 288 = .ok (.if_icmp .le 7, 3) := by decide +kernel
theorem dX8_lookAt_291 : decode cX8_lookAt 291 = .ok (.iconst 4, 1) := by decide +kernel
theorem dX8_lookAt_292 : decode cX8_lookAt 292 = .ok (.goto 7, 3) := by decide +kernel
theorem dX8_lookAt_295 : decode cX8_lookAt 295 = .ok (.aload_n 0, 1) := by decide +kernel
theorem dX8_lookAt_296 : decode cX8_lookAt 296 = .ok (.getfield 234, 3) := by decide +kernel
theorem dX8_lookAt_299 : decode cX8_lookAt 299 = .ok (.putfield 234, 3) := by decide +kernel
theorem dX8_lookAt_302 : decode cX8_lookAt 302 = .ok (.return_, 1) := by decide +kernel
set_option maxRecDepth 20000 in
theorem ggX8_goBehind_X8_lookAt : GoodIn wsX8_goBehind wsX8_lookAt := goodIn_r _ [7, 1, 8, 9, 2, 10, 11, 12, 13, 6, 14, 15, 16, 17, 18, 19, 20, 21, 22, 23, 24, 25, 26, 27, 28, 29, 30, 31, 32, 33, 34, 35, 36, 37, 38, 39, 40, 41, 42, 43] (by decide +kernel) (by decide +kernel)
set_option maxRecDepth 20000 in
theorem gX8_goBehind_X8_lookAt : GoodIn wsX8_goBehind (wsV RX8 246 RX8 yX8_lookAt wsX8_lookAt) := goodIn_app (goodIn_of _ (by decide +kernel)) ggX8_goBehind_X8_lookAt
theorem dX8_goBehind_0 : decode cX8_goBehind 0 = .ok (.aload_n 0, 1) := by decide +kernel
theorem dX8_goBehind_1 : decode cX8_goBehind 1 = .ok (.aload_n 0, 1) := by decide +kernel
theorem dX8_goBehind_2 : decode cX8_goBehind 2 = .ok (.getfield 228, 3) := by decide +kernel
theorem dX8_goBehind_5 : decode cX8_goBehind 5 = .ok (.aload_n 0, 1) := by decide +kernel
theorem dX8_goBehind_6 : decode cX8_goBehind 6 = .ok (.getfield 231, 3) := by decide +kernel
theorem dX8_goBehind_9 : decode cX8_goBehind 9 = .ok (.iadd, 1) := by decide +kernel
theorem dX8_goBehind_10 : decode cX8_goBehind 10 = .ok (.invokevirtual 246, 3) := by decide +kernel
theorem dX8_goBehind_13 : decode cX8_goBehind 13 = .ok (.return_, 1) := by decide +kernel
theorem dX8_spells_0 : decode cX8_spells 0 = .ok (.aload_n 0, 1) := by decide +kernel
theorem dX8_spells_1 : decode cX8_spells 1 = .ok (.getfield 234, 3) := by decide +kernel
theorem dX8_spells_4 : decode cX8_spells 4 = .ok (.iconst 1, 1) := by decide +kernel
theorem dX8_spells_5 : decode cX8_spells 5 = .ok (.if_icmp .ne 15, 3) := by decide +kernel
theorem dX8_spells_8 : decode cX8_spells 8 = .ok (.aload_n 0, 1) := by decide +kernel
theorem dX8_spells_9 : decode cX8_spells 9 = .ok (.getfield 231, 3) := by decide +kernel
theorem dX8_spells_12 : decode cX8_spells 12 = .ok (.iload_n 1, 1) := by decide +kernel
theorem dX8_spells_13 : decode cX8_spells 13 = .ok (.if_icmp .ne 7, 3) := by decide +kernel
theorem dX8_spells_16 : decode cX8_spells 16 = .ok (.iconst 1, 1) := by decide +kernel
theorem dX8_spells_17 : decode cX8_spells 17 = .ok (.goto 4, 3) := by decide +kernel
theorem dX8_spells_20 : decode cX8_spells 20 = .ok (.iconst 0, 1) := by decide +kernel
theorem dX8_spells_21 : decode cX8_spells 21 = .ok (.istore 8, 2) := by decide +kernel
theorem dX8_spells_23 : decode cX8_spells 23 = .ok (.iconst 0, 1) := by decide +kernel
theorem dX8_spells_24 : decode cX8_spells 24 = .ok (.istore 9, 2) := by decide +kernel
theorem dX8_spells_26 : decode cX8_spells 26 = .ok (.iload 9, 2) := by decide +kernel
theorem dX8_spells_28 : decode cX8_spells 28 = .ok (.iload_n 1, 1) := by decide +kernel
theorem dX8_spells_29 : decode cX8_spells 29 = .ok (.if_icmp .ge 90, 3) := by decide +kernel
theorem dX8_spells_32 : decode cX8_spells 32 = .ok (.iload 8, 2) := by decide +kernel
theorem dX8_spells_34 : decode cX8_spells 34 = .ok (.ifCond .eq 85, 3) := by decide +kernel
theorem dX8_spells_37 : decode cX8_spells 37 = .ok (.aload_n 0, 1) := by decide +kernel
theorem dX8_spells_38 : decode cX8_spells 38 = .ok (.getfield 42, 3) := by decide +kernel
theorem dX8_spells_41 : decode cX8_spells 41 = .ok (.aload_n 0, 1) := by decide +kernel
theorem dX8_spells_42 : decode cX8_spells 42 = .ok (.getfield 228, 3) := by decide +kernel
theorem dX8_spells_45 : decode cX8_spells 45 = .ok (.iload 9, 2) := by decide +kernel
theorem dX8_spells_47 : decode cX8_spells 47 = .ok (.iadd, 1) := by decide +kernel
theorem dX8_spells_48 : decode cX8_spells 48 = .ok (.iaload, 1) := by decide +kernel
theorem dX8_spells_49 : decode cX8_spells 49 = .ok (.iload 9, 2) := by decide +kernel
theorem dX8_spells_51 : decode cX8_spells 51 = .ok (.ifCond .ne 7, 3) := by decide +kernel
theorem dX8_spells_54 : decode cX8_spells 54 = .ok (.iload_n 2, 1) := by decide +kernel
theorem dX8_spells_55 : decode cX8_spells 55 = .ok (.goto 48, 3) := by decide +kernel
theorem dX8_spells_58 : decode cX8_spells 58 = .ok (.iload 9, 2) := by decide +kernel
theorem dX8_spells_60 : decode cX8_spells 60 = .ok (.iconst 1, 1) := by decide +kernel
theorem dX8_spells_61 : decode cX8_spells 61 = .ok (.if_icmp .ne 7, 3) := by decide +kernel
theorem dX8_spells_64 : decode cX8_spells 64 = .ok (.iload_n 3, 1) := by decide +kernel
theorem dX8_spells_65 : decode cX8_spells 65 = .ok (.goto 38, 3) := by decide +kernel
theorem dX8_spells_68 : decode cX8_spells 68 = .ok (.iload 9, 2) := by decide +kernel
theorem dX8_spells_70 : decode cX8_spells 70 = .ok (.iconst 2, 1) := by decide +kernel
theorem dX8_spells_71 : decode cX8_spells 71 = .ok (.if_icmp .ne 8, 3) := by decide +kernel
theorem dX8_spells_74 : decode cX8_spells 74 = .ok (.iload 4, 2) := by decide +kernel
theorem dX8_spells_76 : decode cX8_spells 76 = .ok (.goto 27, 3) := by decide +kernel
theorem dX8_spells_79 : decode cX8_spells 79 = .ok (.iload 9, 2) := by decide +kernel
theorem dX8_spells_81 : decode cX8_spells 81 = .ok (.iconst 3, 1) := by decide +kernel
theorem dX8_spells_82 : decode cX8_spells 82 = .ok (.if_icmp .ne 8, 3) := by decide +kernel
theorem dX8_spells_85 : decode cX8_spells 85 = .ok (.iload 5, 2) := by decide +kernel
theorem dX8_spells_87 : decode cX8_spells 87 = .ok (.goto 16, 3) := by decide +kernel
theorem dX8_spells_90 : decode cX8_spells 90 = .ok (.iload 9, 2) := by decide +kernel
theorem dX8_spells_92 : decode cX8_spells 92 = .ok (.iconst 4, 1) := by decide +kernel
theorem dX8_spells_93 : decode cX8_spells 93 = .ok (.if_icmp .ne 8, 3) := by decide +kernel
theorem dX8_spells_96 : decode cX8_spells 96 = .ok (.iload 6, 2) := by decide +kernel
theorem dX8_spells_98 : decode cX8_spells 98 = .ok (.goto 5, 3) := by decide +kernel
theorem dX8_spells_101 : decode cX8_spells 101 = .ok (.iload 7, 2) := by decide +kernel
theorem dX8_spells_103 : decode cX8_spells 103 = .ok (.if_icmp .ne 7, 3) := by decide +kernel
theorem dX8_spells_106 : decode cX8_spells 106 = .ok (.iconst 1, 1) := by decide +kernel
theorem dX8_spells_107 : decode cX8_spells 107 = .ok (.goto 4, 3) := by decide +kernel
theorem dX8_spells_110 : decode cX8_spells 110 = .ok (.iconst 0, 1) := by decide +kernel
theorem dX8_spells_111 : decode cX8_spells 111 = .ok (.istore 8, 2) := by decide +kernel
theorem dX8_spells_113 : decode cX8_spells 113 = .ok (.iinc 9 1, 3) := by decide +kernel
theorem dX8_spells_116 : decode cX8_spells 116 = .ok (.goto (-90), 3) := by decide +kernel
theorem dX8_spells_119 : decode cX8_spells 119 = .ok (.iload 8, 2) := by decide +kernel
theorem dX8_spells_121 : decode cX8_spells 121 = .ok (.ireturn, 1) := by decide +kernel
set_option maxRecDepth 20000 in
theorem ggX8_takes_X8_in : GoodIn wsX8_takes wsX8_in := goodIn_r _ [7] (by decide +kernel) (by decide +kernel)
set_option maxRecDepth 20000 in
theorem gX8_takes_X8_in : GoodIn wsX8_takes (va_wsS RX8 59 yX8_in wsX8_in) := goodIn_app (goodIn_of _ (by decide +kernel)) ggX8_takes_X8_in
set_option maxRecDepth 20000 in
theorem ggX8_takes_X8_goBehind : GoodIn wsX8_takes wsX8_goBehind := goodIn_r _ [11, 12, 13, 14, 15, 16, 6, 17, 18, 19, 1, 2, 20, 21, 22, 23, 24, 4, 5, 7, 25, 26, 27, 28, 29, 30, 31, 32, 33, 34, 35, 36, 37, 38, 39, 40, 41, 42, 43, 44, 45, 46, 47, 48] (by decide +kernel) (by decide +kernel)
set_option maxRecDepth 20000 in
theorem gX8_takes_X8_goBehind : GoodIn wsX8_takes (wsV RX8 250 RX8 yX8_goBehind wsX8_goBehind) := goodIn_app (goodIn_of _ (by decide +kernel)) ggX8_takes_X8_goBehind
theorem dX8_takes_0 : decode cX8_takes 0 = .ok (.aload_n 0, 1) := by decide +kernel
theorem dX8_takes_1 : decode cX8_takes 1 = .ok (.getfield 234, 3) := by decide +kernel
theorem dX8_takes_4 : decode cX8_takes 4 = .ok (.iconst 2, 1) := by decide +kernel
theorem dX8_takes_5 : decode cX8_takes 5 = .ok (.if_icmp .ne 18, 3) := by decide +kernel
theorem dX8_takes_8 : decode cX8_takes 8 = .ok (.aload_n 0, 1) := by decide +kernel
theorem dX8_takes_9 : decode cX8_takes 9 = .ok (.getfield 237, 3) := by decide +kernel
theorem dX8_takes_12 : decode cX8_takes 12 = .ok (.i2l, 1) := by decide +kernel
theorem dX8_takes_13 : decode cX8_takes 13 = .ok (.iload_n 2, 1) := by decide +kernel
theorem dX8_takes_14 : decode cX8_takes 14 = .ok (.i2l, 1) := by decide +kernel
theorem dX8_takes_15 : decode cX8_takes 15 = .ok (.iload_n 3, 1) := by decide +kernel
theorem dX8_takes_16 : decode cX8_takes 16 = .ok (.i2l, 1) := by decide +kernel
theorem dX8_takes_17 : decode cX8_takes 17 = .ok (.invokestatic 59, 3) := by decide +kernel
theorem dX8_takes_20 : decode cX8_takes 20 = .ok (.ifCond .ne 5, 3) := by decide +kernel
theorem dX8_takes_23 : decode cX8_takes 23 = .ok (.iconst 0, 1) := by decide +kernel
theorem dX8_takes_24 : decode cX8_takes 24 = .ok (.ireturn, 1) := by decide +kernel
theorem dX8_takes_25 : decode cX8_takes 25 = .ok (.aload_n 0, 1) := by decide +kernel
theorem dX8_takes_26 : decode cX8_takes 26 = .ok (.getfield 48, 3) := by decide +kernel
theorem dX8_takes_29 : decode cX8_takes 29 = .ok (.iload_n 1, 1) := by decide +kernel
theorem dX8_takes_30 : decode cX8_takes 30 = .ok (.aload_n 0, 1) := by decide +kernel
theorem dX8_takes_31 : decode cX8_takes 31 = .ok (.getfield 237, 3) := by decide +kernel
theorem dX8_takes_34 : decode cX8_takes 34 = .ok (.iastore, 1) := by decide +kernel
theorem dX8_takes_35 : decode cX8_takes 35 = .ok (.aload_n 0, 1) := by decide +kernel
theorem dX8_takes_36 : decode cX8_takes 36 = .ok (.invokevirtual 250, 3) := by decide +kernel
theorem dX8_takes_39 : decode cX8_takes 39 = .ok (.iconst 1, 1) := by decide +kernel
theorem dX8_takes_40 : decode cX8_takes 40 = .ok (.ireturn, 1) := by decide +kernel
set_option maxRecDepth 20000 in
theorem ggX8_takesShip_X8_goBehind : GoodIn wsX8_takesShip wsX8_goBehind := goodIn_r _ [7, 8, 9, 10, 11, 12, 6, 13, 14, 15, 16, 17, 18, 19, 20, 21, 22, 23, 24, 25, 26, 27, 28, 29, 30, 35, 36, 37, 38, 39, 40, 41, 42, 43, 44, 45, 46, 47, 48, 49, 50, 51, 52, 53] (by decide +kernel) (by decide +kernel)
set_option maxRecDepth 20000 in
theorem gX8_takesShip_X8_goBehind : GoodIn wsX8_takesShip (wsV RX8 250 RX8 yX8_goBehind wsX8_goBehind) := goodIn_app (goodIn_of _ (by decide +kernel)) ggX8_takesShip_X8_goBehind
set_option maxRecDepth 20000 in
theorem ggX8_takesShip_X8_takes : GoodIn wsX8_takesShip wsX8_takes := goodIn_r _ [34, 16, 17, 2, 23, 24, 6, 25, 3, 4, 5, 7, 8, 9, 10, 11, 12, 13, 14, 15, 18, 19, 20, 21, 22, 26, 27, 28, 29, 30, 35, 36, 37, 38, 39, 40, 41, 42, 43, 44, 45, 46, 47, 48, 49, 50, 51, 52, 53] (by decide +kernel) (by decide +kernel)
set_option maxRecDepth 20000 in
theorem gX8_takesShip_X8_takes : GoodIn wsX8_takesShip (wsV RX8 253 RX8 yX8_takes wsX8_takes) := goodIn_app (goodIn_of _ (by decide +kernel)) ggX8_takesShip_X8_takes
theorem dX8_takesShip_0 : decode cX8_takesShip 0 = .ok (.aload_n 0, 1) := by decide +kernel
theorem dX8_takesShip_1 : decode cX8_takesShip 1 = .ok (.getfield 45, 3) := by decide +kernel
theorem dX8_takesShip_4 : decode cX8_takesShip 4 = .ok (.iconst 1, 1) := by decide +kernel
theorem dX8_takesShip_5 : decode cX8_takesShip 5 = .ok (.iaload, 1) := by decide +kernel
theorem dX8_takesShip_6 : decode cX8_takesShip 6 = .ok (.iconst 3, 1) := by decide +kernel
theorem dX8_takesShip_7 : decode cX8_takesShip 7 = .ok (.if_icmp .ne 5, 3) := by decide +kernel
theorem dX8_takesShip_10 : decode cX8_takesShip 10 = .ok (.iconst 0, 1) := by decide +kernel
theorem dX8_takesShip_11 : decode cX8_takesShip 11 = .ok (.ireturn, 1) := by decide +kernel
theorem dX8_takesShip_12 : decode cX8_takesShip 12 = .ok (.aload_n 0, 1) := by decide +kernel
theorem dX8_takesShip_13 : decode cX8_takesShip 13 = .ok (.invokevirtual 250, 3) := by decide +kernel
theorem dX8_takesShip_16 : decode cX8_takesShip 16 = .ok (.aload_n 0, 1) := by decide +kernel
theorem dX8_takesShip_17 : decode cX8_takesShip 17 = .ok (.iconst 0, 1) := by decide +kernel
theorem dX8_takesShip_18 : decode cX8_takesShip 18 = .ok (.iconst 0, 1) := by decide +kernel
theorem dX8_takesShip_19 : decode cX8_takesShip 19 = .ok (.iconst 5, 1) := by decide +kernel
theorem dX8_takesShip_20 : decode cX8_takesShip 20 = .ok (.invokevirtual 253, 3) := by decide +kernel
theorem dX8_takesShip_23 : decode cX8_takesShip 23 = .ok (.ifCond .ne 5, 3) := by decide +kernel
theorem dX8_takesShip_26 : decode cX8_takesShip 26 = .ok (.iconst 0, 1) := by decide +kernel
theorem dX8_takesShip_27 : decode cX8_takesShip 27 = .ok (.ireturn, 1) := by decide +kernel
theorem dX8_takesShip_28 : decode cX8_takesShip 28 = .ok (.aload_n 0, 1) := by decide +kernel
theorem dX8_takesShip_29 : decode cX8_takesShip 29 = .ok (.getfield 45, 3) := by decide +kernel
theorem dX8_takesShip_32 : decode cX8_takesShip 32 = .ok (.bipush 17, 2) := by decide +kernel
theorem dX8_takesShip_34 : decode cX8_takesShip 34 = .ok (.aload_n 0, 1) := by decide +kernel
theorem dX8_takesShip_35 : decode cX8_takesShip 35 = .ok (.getfield 45, 3) := by decide +kernel
theorem dX8_takesShip_38 : decode cX8_takesShip 38 = .ok (.iconst 1, 1) := by decide +kernel
theorem dX8_takesShip_39 : decode cX8_takesShip 39 = .ok (.iaload, 1) := by decide +kernel
theorem dX8_takesShip_40 : decode cX8_takesShip 40 = .ok (.iadd, 1) := by decide +kernel
theorem dX8_takesShip_41 : decode cX8_takesShip 41 = .ok (.aload_n 0, 1) := by decide +kernel
theorem dX8_takesShip_42 : decode cX8_takesShip 42 = .ok (.getfield 48, 3) := by decide +kernel
theorem dX8_takesShip_45 : decode cX8_takesShip 45 = .ok (.iconst 0, 1) := by decide +kernel
theorem dX8_takesShip_46 : decode cX8_takesShip 46 = .ok (.iaload, 1) := by decide +kernel
theorem dX8_takesShip_47 : decode cX8_takesShip 47 = .ok (.iastore, 1) := by decide +kernel
theorem dX8_takesShip_48 : decode cX8_takesShip 48 = .ok (.aload_n 0, 1) := by decide +kernel
theorem dX8_takesShip_49 : decode cX8_takesShip 49 = .ok (.getfield 45, 3) := by decide +kernel
theorem dX8_takesShip_52 : decode cX8_takesShip 52 = .ok (.iconst 1, 1) := by decide +kernel
theorem dX8_takesShip_53 : decode cX8_takesShip 53 = .ok (.dup2, 1) := by decide +kernel
theorem dX8_takesShip_54 : decode cX8_takesShip 54 = .ok (.iaload, 1) := by decide +kernel
theorem dX8_takesShip_55 : decode cX8_takesShip 55 = .ok (.iconst 1, 1) := by decide +kernel
theorem dX8_takesShip_56 : decode cX8_takesShip 56 = .ok (.iadd, 1) := by decide +kernel
theorem dX8_takesShip_57 : decode cX8_takesShip 57 = .ok (.iastore, 1) := by decide +kernel
theorem dX8_takesShip_58 : decode cX8_takesShip 58 = .ok (.iconst 1, 1) := by decide +kernel
theorem dX8_takesShip_59 : decode cX8_takesShip 59 = .ok (.ireturn, 1) := by decide +kernel
set_option maxRecDepth 20000 in
theorem ggX8_takesMan_X8_goBehind : GoodIn wsX8_takesMan wsX8_goBehind := goodIn_r _ [9, 10, 11, 12, 13, 14, 8, 15, 16, 17, 2, 3, 18, 19, 20, 21, 22, 23, 24, 25, 26, 27, 28, 29, 30, 38, 39, 40, 41, 42, 43, 44, 45, 46, 47, 48, 49, 50, 51, 52, 53, 54, 55, 56] (by decide +kernel) (by decide +kernel)
set_option maxRecDepth 20000 in
theorem gX8_takesMan_X8_goBehind : GoodIn wsX8_takesMan (wsV RX8 250 RX8 yX8_goBehind wsX8_goBehind) := goodIn_app (goodIn_of _ (by decide +kernel)) ggX8_takesMan_X8_goBehind
set_option maxRecDepth 20000 in
theorem ggX8_takesMan_X8_takes : GoodIn wsX8_takesMan wsX8_takes := goodIn_r _ [34, 2, 3, 4, 23, 24, 8, 25, 5, 6, 7, 9, 10, 11, 12, 13, 14, 15, 16, 17, 18, 19, 20, 21, 22, 26, 27, 28, 29, 30, 38, 39, 40, 41, 42, 43, 44, 45, 46, 47, 48, 49, 50, 51, 52, 53, 54, 55, 56] (by decide +kernel) (by decide +kernel)
set_option maxRecDepth 20000 in
theorem gX8_takesMan_X8_takes : GoodIn wsX8_takesMan (wsV RX8 253 RX8 yX8_takes wsX8_takes) := goodIn_app (goodIn_of _ (by decide +kernel)) ggX8_takesMan_X8_takes
set_option maxRecDepth 20000 in
theorem ggX8_takesMan_X8_layMan : GoodIn wsX8_takesMan wsX8_layMan := goodIn_r _ [37] (by decide +kernel) (by decide +kernel)
set_option maxRecDepth 20000 in
theorem gX8_takesMan_X8_layMan : GoodIn wsX8_takesMan (va_wsS RX8 86 yX8_layMan wsX8_layMan) := goodIn_app (goodIn_of _ (by decide +kernel)) ggX8_takesMan_X8_layMan
theorem dX8_takesMan_0 : decode cX8_takesMan 0 = .ok (.aload_n 0, 1) := by decide +kernel
theorem dX8_takesMan_1 : decode cX8_takesMan 1 = .ok (.getfield 45, 3) := by decide +kernel
theorem dX8_takesMan_4 : decode cX8_takesMan 4 = .ok (.iconst 0, 1) := by decide +kernel
theorem dX8_takesMan_5 : decode cX8_takesMan 5 = .ok (.iaload, 1) := by decide +kernel
theorem dX8_takesMan_6 : decode cX8_takesMan 6 = .ok (.bipush 8, 2) := by decide +kernel
theorem dX8_takesMan_8 : decode cX8_takesMan 8 = .ok (.if_icmp .ne 5, 3) := by decide +kernel
theorem dX8_takesMan_11 : decode cX8_takesMan 11 = .ok (.iconst 0, 1) := by decide +kernel
theorem dX8_takesMan_12 : decode cX8_takesMan 12 = .ok (.ireturn, 1) := by decide +kernel
theorem dX8_takesMan_13 : decode cX8_takesMan 13 = .ok (.aload_n 0, 1) := by decide +kernel
theorem dX8_takesMan_14 : decode cX8_takesMan 14 = .ok (.invokevirtual 250, 3) := by decide +kernel
theorem dX8_takesMan_17 : decode cX8_takesMan 17 = .ok (.aload_n 0, 1) := by decide +kernel
theorem dX8_takesMan_18 : decode cX8_takesMan 18 = .ok (.iconst 0, 1) := by decide +kernel
theorem dX8_takesMan_19 : decode cX8_takesMan 19 = .ok (.iconst 0, 1) := by decide +kernel
theorem dX8_takesMan_20 : decode cX8_takesMan 20 = .ok (.iconst 5, 1) := by decide +kernel
theorem dX8_takesMan_21 : decode cX8_takesMan 21 = .ok (.invokevirtual 253, 3) := by decide +kernel
theorem dX8_takesMan_24 : decode cX8_takesMan 24 = .ok (.ifCond .eq 55, 3) := by decide +kernel
theorem dX8_takesMan_27 : decode cX8_takesMan 27 = .ok (.aload_n 0, 1) := by decide +kernel
theorem dX8_takesMan_28 : decode cX8_takesMan 28 = .ok (.iconst 1, 1) := by decide +kernel
theorem dX8_takesMan_29 : decode cX8_takesMan 29 = .ok (.iconst 1, 1) := by decide +kernel
theorem dX8_takesMan_30 : decode cX8_takesMan 30 = .ok (.bipush 9, 2) := by decide +kernel
theorem dX8_takesMan_32 : decode cX8_takesMan 32 = .ok (.invokevirtual 253, 3) := by decide +kernel
theorem dX8_takesMan_35 : decode cX8_takesMan 35 = .ok (.ifCond .eq 44, 3) := by decide +kernel
theorem dX8_takesMan_38 : decode cX8_takesMan 38 = .ok (.aload_n 0, 1) := by decide +kernel
theorem dX8_takesMan_39 : decode cX8_takesMan 39 = .ok (.getfield 234, 3) := by decide +kernel
theorem dX8_takesMan_42 : decode cX8_takesMan 42 = .ok (.iconst 2, 1) := by decide +kernel
theorem dX8_takesMan_43 : decode cX8_takesMan 43 = .ok (.if_icmp .ne 36, 3) := by decide +kernel
theorem dX8_takesMan_46 : decode cX8_takesMan 46 = .ok (.aload_n 0, 1) := by decide +kernel
theorem dX8_takesMan_47 : decode cX8_takesMan 47 = .ok (.getfield 237, 3) := by decide +kernel
theorem dX8_takesMan_50 : decode cX8_takesMan 50 = .ok (.bipush 9, 2) := by decide +kernel
theorem dX8_takesMan_52 : decode cX8_takesMan 52 = .ok (.if_icmp .eq 16, 3) := by decide +kernel
theorem dX8_takesMan_55 : decode cX8_takesMan 55 = .ok (.aload_n 0, 1) := by decide +kernel
theorem dX8_takesMan_56 : decode cX8_takesMan 56 = .ok (.getfield 237, 3) := by decide +kernel
theorem dX8_takesMan_59 : decode cX8_takesMan 59 = .ok (.aload_n 0, 1) := by decide +kernel
theorem dX8_takesMan_60 : decode cX8_takesMan 60 = .ok (.getfield 45, 3) := by decide +kernel
theorem dX8_takesMan_63 : decode cX8_takesMan 63 = .ok (.iconst 1, 1) := by decide +kernel
theorem dX8_takesMan_64 : decode cX8_takesMan 64 = .ok (.iaload, 1) := by decide +kernel
theorem dX8_takesMan_65 : decode cX8_takesMan 65 = .ok (.if_icmp .ge 14, 3) := by decide +kernel
theorem dX8_takesMan_68 : decode cX8_takesMan 68 = .ok (.aload_n 0, 1) := by decide +kernel
theorem dX8_takesMan_69 : decode cX8_takesMan 69 = .ok (.iconst 2, 1) := by decide +kernel
theorem dX8_takesMan_70 : decode cX8_takesMan 70 = .ok (.iconst 0, 1) := by decide +kernel
theorem dX8_takesMan_71 : decode cX8_takesMan 71 = .ok (.bipush 9, 2) := by decide +kernel
theorem dX8_takesMan_73 : decode cX8_takesMan 73 = .ok (.invokevirtual 253, 3) := by decide +kernel
theorem dX8_takesMan_76 : decode cX8_takesMan 76 = .ok (.ifCond .ne 5, 3) := by decide +kernel
theorem dX8_takesMan_79 : decode cX8_takesMan 79 = .ok (.iconst 0, 1) := by decide +kernel
theorem dX8_takesMan_80 : decode cX8_takesMan 80 = .ok (.ireturn, 1) := by decide +kernel
theorem dX8_takesMan_81 : decode cX8_takesMan 81 = .ok (.aload_n 0, 1) := by decide +kernel
theorem dX8_takesMan_82 : decode cX8_takesMan 82 = .ok (.getfield 45, 3) := by decide +kernel
theorem dX8_takesMan_85 : decode cX8_takesMan 85 = .ok (.aload_n 0, 1) := by decide +kernel
theorem dX8_takesMan_86 : decode cX8_takesMan 86 = .ok (.getfield 48, 3) := by decide +kernel
theorem dX8_takesMan_89 : decode cX8_takesMan 89 = .ok (.iconst 0, 1) := by decide +kernel
theorem dX8_takesMan_90 : decode cX8_takesMan 90 = .ok (.iaload, 1) := by decide +kernel
theorem dX8_takesMan_91 : decode cX8_takesMan 91 = .ok (.aload_n 0, 1) := by decide +kernel
theorem dX8_takesMan_92 : decode cX8_takesMan 92 = .ok (.getfield 48, 3) := by decide +kernel
theorem dX8_takesMan_95 : decode cX8_takesMan 95 = .ok (.iconst 1, 1) := by decide +kernel
theorem dX8_takesMan_96 : decode cX8_takesMan 96 = .ok (.iaload, 1) := by decide +kernel
theorem dX8_takesMan_97 : decode cX8_takesMan 97 = .ok (.aload_n 0, 1) := by decide +kernel
theorem dX8_takesMan_98 : decode cX8_takesMan 98 = .ok (.getfield 48, 3) := by decide +kernel
theorem dX8_takesMan_101 : decode cX8_takesMan 101 = .ok (.iconst 2, 1) := by decide +kernel
theorem dX8_takesMan_102 : decode cX8_takesMan 102 = .ok (.iaload, 1) := by decide +kernel
theorem dX8_takesMan_103 : decode cX8_takesMan 103 = .ok (.bipush 9, 2) := by decide +kernel
theorem dX8_takesMan_105 : decode cX8_takesMan 105 = .ok (.if_icmp .ne 7, 3) := by decide +kernel
theorem dX8_takesMan_108 : decode cX8_takesMan 108 = .ok (.iconst 0, 1) := by decide +kernel
theorem dX8_takesMan_109 : decode cX8_takesMan 109 = .ok (.goto 11, 3) := by decide +kernel
theorem dX8_takesMan_112 : decode cX8_takesMan 112 = .ok (.aload_n 0, 1) := by decide +kernel
theorem dX8_takesMan_113 : decode cX8_takesMan 113 = .ok (.getfield 48, 3) := by decide +kernel
theorem dX8_takesMan_116 : decode cX8_takesMan 116 = .ok (.iconst 2, 1) := by decide +kernel
theorem dX8_takesMan_117 : decode cX8_takesMan 117 = .ok (.iaload, 1) := by decide +kernel
theorem dX8_takesMan_118 : decode cX8_takesMan 118 = .ok (.iconst 1, 1) := by decide +kernel
theorem dX8_takesMan_119 : decode cX8_takesMan 119 = .ok (.iadd, 1) := by decide +kernel
theorem dX8_takesMan_120 : decode cX8_takesMan 120 = .ok (.invokestatic 86, 3) := by decide +kernel
theorem dX8_takesMan_123 : decode cX8_takesMan 123 = .ok (.iconst 1, 1) := by decide +kernel
theorem dX8_takesMan_124 : decode cX8_takesMan 124 = .ok (.ireturn, 1) := by decide +kernel
set_option maxRecDepth 20000 in
theorem ggX8_takesCall_X8_goBehind : GoodIn wsX8_takesCall wsX8_goBehind := goodIn_r _ [8, 9, 10, 11, 12, 13, 7, 14, 15, 16, 1, 2, 17, 18, 19, 20, 21, 22, 23, 24, 25, 26, 27, 28, 29, 45, 46, 47, 48, 49, 50, 51, 52, 53, 54, 55, 56, 57, 58, 59, 60, 61, 62, 63] (by decide +kernel) (by decide +kernel)
set_option maxRecDepth 20000 in
theorem gX8_takesCall_X8_goBehind : GoodIn wsX8_takesCall (wsV RX8 250 RX8 yX8_goBehind wsX8_goBehind) := goodIn_app (goodIn_of _ (by decide +kernel)) ggX8_takesCall_X8_goBehind
set_option maxRecDepth 20000 in
theorem ggX8_takesCall_X8_in : GoodIn wsX8_takesCall wsX8_in := goodIn_r _ [24] (by decide +kernel) (by decide +kernel)
set_option maxRecDepth 20000 in
theorem gX8_takesCall_X8_in : GoodIn wsX8_takesCall (va_wsS RX8 59 yX8_in wsX8_in) := goodIn_app (goodIn_of _ (by decide +kernel)) ggX8_takesCall_X8_in
set_option maxRecDepth 20000 in
theorem ggX8_takesCall_X8_aboard : GoodIn wsX8_takesCall wsX8_aboard := goodIn_r _ [32] (by decide +kernel) (by decide +kernel)
set_option maxRecDepth 20000 in
theorem gX8_takesCall_X8_aboard : GoodIn wsX8_takesCall (va_wsS RX8 90 yX8_aboard wsX8_aboard) := goodIn_app (goodIn_of _ (by decide +kernel)) ggX8_takesCall_X8_aboard
set_option maxRecDepth 20000 in
theorem ggX8_takesCall_X8_goCall : GoodIn wsX8_takesCall wsX8_goCall := goodIn_r _ [35, 36, 37, 7, 38, 39, 40, 41, 42, 43, 44] (by decide +kernel) (by decide +kernel)
set_option maxRecDepth 20000 in
theorem gX8_takesCall_X8_goCall : GoodIn wsX8_takesCall (va_wsS RX8 117 yX8_goCall wsX8_goCall) := goodIn_app (goodIn_of _ (by decide +kernel)) ggX8_takesCall_X8_goCall
theorem dX8_takesCall_0 : decode cX8_takesCall 0 = .ok (.aload_n 0, 1) := by decide +kernel
theorem dX8_takesCall_1 : decode cX8_takesCall 1 = .ok (.invokevirtual 250, 3) := by decide +kernel
theorem dX8_takesCall_4 : decode cX8_takesCall 4 = .ok (.aload_n 0, 1) := by decide +kernel
theorem dX8_takesCall_5 : decode cX8_takesCall 5 = .ok (.getfield 234, 3) := by decide +kernel
theorem dX8_takesCall_8 : decode cX8_takesCall 8 = .ok (.iconst 2, 1) := by decide +kernel
theorem dX8_takesCall_9 : decode cX8_takesCall 9 = .ok (.if_icmp .ne 38, 3) := by decide +kernel
theorem dX8_takesCall_12 : decode cX8_takesCall 12 = .ok (.aload_n 0, 1) := by decide +kernel
theorem dX8_takesCall_13 : decode cX8_takesCall 13 = .ok (.getfield 237, 3) := by decide +kernel
theorem dX8_takesCall_16 : decode cX8_takesCall 16 = .ok (.i2l, 1) := by decide +kernel
theorem dX8_takesCall_17 : decode cX8_takesCall 17 = .ok (.lconst 0, 1) := by decide +kernel
theorem dX8_takesCall_18 : decode cX8_takesCall 18 = .ok (.aload_n 0, 1) := by decide +kernel
theorem dX8_takesCall_19 : decode cX8_takesCall 19 = .ok (.getfield 45, 3) := by decide +kernel
theorem dX8_takesCall_22 : decode cX8_takesCall 22 = .ok (.iconst 1, 1) := by decide +kernel
theorem dX8_takesCall_23 : decode cX8_takesCall 23 = .ok (.iaload, 1) := by decide +kernel
theorem dX8_takesCall_24 : decode cX8_takesCall 24 = .ok (.iconst 1, 1) := by decide +kernel
theorem dX8_takesCall_25 : decode cX8_takesCall 25 = .ok (.isub, 1) := by decide +kernel
theorem dX8_takesCall_26 : decode cX8_takesCall 26 = .ok (.i2l, 1) := by decide +kernel
theorem dX8_takesCall_27 : decode cX8_takesCall 27 = .ok (.invokestatic 59, 3) := by decide +kernel
theorem dX8_takesCall_30 : decode cX8_takesCall 30 = .ok (.ifCond .eq 17, 3) := by decide +kernel
theorem dX8_takesCall_33 : decode cX8_takesCall 33 = .ok (.aload_n 0, 1) := by decide +kernel
theorem dX8_takesCall_34 : decode cX8_takesCall 34 = .ok (.getfield 45, 3) := by decide +kernel
theorem dX8_takesCall_37 : decode cX8_takesCall 37 = .ok (.aload_n 0, 1) := by decide +kernel
theorem dX8_takesCall_38 : decode cX8_takesCall 38 = .ok (.getfield 237, 3) := by decide +kernel
theorem dX8_takesCall_41 : decode cX8_takesCall 41 = .ok (.invokestatic 90, 3) := by decide +kernel
theorem dX8_takesCall_44 : decode cX8_takesCall 44 = .ok (.ifCond .ne 5, 3) := by decide +kernel
theorem dX8_takesCall_47 : decode cX8_takesCall 47 = .ok (.iconst 0, 1) := by decide +kernel
theorem dX8_takesCall_48 : decode cX8_takesCall 48 = .ok (.ireturn, 1) := by decide +kernel
theorem dX8_takesCall_49 : decode cX8_takesCall 49 = .ok (.aload_n 0, 1) := by decide +kernel
theorem dX8_takesCall_50 : decode cX8_takesCall 50 = .ok (.getfield 45, 3) := by decide +kernel
theorem dX8_takesCall_53 : decode cX8_takesCall 53 = .ok (.aload_n 0, 1) := by decide +kernel
theorem dX8_takesCall_54 : decode cX8_takesCall 54 = .ok (.getfield 237, 3) := by decide +kernel
theorem dX8_takesCall_57 : decode cX8_takesCall 57 = .ok (.invokestatic 117, 3) := by decide +kernel
theorem dX8_takesCall_60 : decode cX8_takesCall 60 = .ok (.istore_n 1, 1) := by decide +kernel
theorem dX8_takesCall_61 : decode cX8_takesCall 61 = .ok (.aload_n 0, 1) := by decide +kernel
theorem dX8_takesCall_62 : decode cX8_takesCall 62 = .ok (.invokevirtual 250, 3) := by decide +kernel
theorem dX8_takesCall_65 : decode cX8_takesCall 65 = .ok (.iconst 1, 1) := by decide +kernel
theorem dX8_takesCall_66 : decode cX8_takesCall 66 = .ok (.ireturn, 1) := by decide +kernel
set_option maxRecDepth 20000 in
theorem ggX8_takesBoard_X8_goBehind : GoodIn wsX8_takesBoard wsX8_goBehind := goodIn_r _ [9, 10, 11, 12, 13, 14, 8, 15, 16, 17, 2, 3, 18, 19, 20, 21, 22, 23, 24, 25, 26, 27, 28, 29, 30, 35, 36, 37, 38, 39, 40, 41, 42, 43, 44, 45, 46, 47, 48, 49, 50, 51, 52, 53] (by decide +kernel) (by decide +kernel)
set_option maxRecDepth 20000 in
theorem gX8_takesBoard_X8_goBehind : GoodIn wsX8_takesBoard (wsV RX8 250 RX8 yX8_goBehind wsX8_goBehind) := goodIn_app (goodIn_of _ (by decide +kernel)) ggX8_takesBoard_X8_goBehind
set_option maxRecDepth 20000 in
theorem ggX8_takesBoard_X8_takes : GoodIn wsX8_takesBoard wsX8_takes := goodIn_r _ [34, 2, 3, 4, 23, 24, 8, 25, 5, 6, 7, 9, 10, 11, 12, 13, 14, 15, 16, 17, 18, 19, 20, 21, 22, 26, 27, 28, 29, 30, 35, 36, 37, 38, 39, 40, 41, 42, 43, 44, 45, 46, 47, 48, 49, 50, 51, 52, 53] (by decide +kernel) (by decide +kernel)
set_option maxRecDepth 20000 in
theorem gX8_takesBoard_X8_takes : GoodIn wsX8_takesBoard (wsV RX8 253 RX8 yX8_takes wsX8_takes) := goodIn_app (goodIn_of _ (by decide +kernel)) ggX8_takesBoard_X8_takes
set_option maxRecDepth 20000 in
theorem ggX8_takesBoard_X8_in : GoodIn wsX8_takesBoard wsX8_in := goodIn_r _ [25] (by decide +kernel) (by decide +kernel)
set_option maxRecDepth 20000 in
theorem gX8_takesBoard_X8_in : GoodIn wsX8_takesBoard (va_wsS RX8 59 yX8_in wsX8_in) := goodIn_app (goodIn_of _ (by decide +kernel)) ggX8_takesBoard_X8_in
theorem dX8_takesBoard_0 : decode cX8_takesBoard 0 = .ok (.aload_n 0, 1) := by decide +kernel
theorem dX8_takesBoard_1 : decode cX8_takesBoard 1 = .ok (.invokevirtual 250, 3) := by decide +kernel
theorem dX8_takesBoard_4 : decode cX8_takesBoard 4 = .ok (.aload_n 0, 1) := by decide +kernel
theorem dX8_takesBoard_5 : decode cX8_takesBoard 5 = .ok (.iconst 0, 1) := by decide +kernel
theorem dX8_takesBoard_6 : decode cX8_takesBoard 6 = .ok (.iconst 0, 1) := by decide +kernel
theorem dX8_takesBoard_7 : decode cX8_takesBoard 7 = .ok (.aload_n 0, 1) := by decide +kernel
theorem dX8_takesBoard_8 : decode cX8_takesBoard 8 = .ok (.getfield 45, 3) := by decide +kernel
theorem dX8_takesBoard_11 : decode cX8_takesBoard 11 = .ok (.iconst 1, 1) := by decide +kernel
theorem dX8_takesBoard_12 : decode cX8_takesBoard 12 = .ok (.iaload, 1) := by decide +kernel
theorem dX8_takesBoard_13 : decode cX8_takesBoard 13 = .ok (.iconst 1, 1) := by decide +kernel
theorem dX8_takesBoard_14 : decode cX8_takesBoard 14 = .ok (.isub, 1) := by decide +kernel
theorem dX8_takesBoard_15 : decode cX8_takesBoard 15 = .ok (.invokevirtual 253, 3) := by decide +kernel
theorem dX8_takesBoard_18 : decode cX8_takesBoard 18 = .ok (.ifCond .eq 47, 3) := by decide +kernel
theorem dX8_takesBoard_21 : decode cX8_takesBoard 21 = .ok (.aload_n 0, 1) := by decide +kernel
theorem dX8_takesBoard_22 : decode cX8_takesBoard 22 = .ok (.getfield 234, 3) := by decide +kernel
theorem dX8_takesBoard_25 : decode cX8_takesBoard 25 = .ok (.iconst 2, 1) := by decide +kernel
theorem dX8_takesBoard_26 : decode cX8_takesBoard 26 = .ok (.if_icmp .ne 39, 3) := by decide +kernel
theorem dX8_takesBoard_29 : decode cX8_takesBoard 29 = .ok (.aload_n 0, 1) := by decide +kernel
theorem dX8_takesBoard_30 : decode cX8_takesBoard 30 = .ok (.getfield 237, 3) := by decide +kernel
theorem dX8_takesBoard_33 : decode cX8_takesBoard 33 = .ok (.i2l, 1) := by decide +kernel
theorem dX8_takesBoard_34 : decode cX8_takesBoard 34 = .ok (.lconst 0, 1) := by decide +kernel
theorem dX8_takesBoard_35 : decode cX8_takesBoard 35 = .ok (.aload_n 0, 1) := by decide +kernel
theorem dX8_takesBoard_36 : decode cX8_takesBoard 36 = .ok (.getfield 45, 3) := by decide +kernel
theorem dX8_takesBoard_39 : decode cX8_takesBoard 39 = .ok (.iconst 0, 1) := by decide +kernel
theorem dX8_takesBoard_40 : decode cX8_takesBoard 40 = .ok (.iaload, 1) := by decide +kernel
theorem dX8_takesBoard_41 : decode cX8_takesBoard 41 = .ok (.iconst 1, 1) := by decide +kernel
theorem dX8_takesBoard_42 : decode cX8_takesBoard 42 = .ok (.isub, 1) := by decide +kernel
theorem dX8_takesBoard_43 : decode cX8_takesBoard 43 = .ok (.i2l, 1) := by decide +kernel
theorem dX8_takesBoard_44 : decode cX8_takesBoard 44 = .ok (.invokestatic 59, 3) := by decide +kernel
theorem dX8_takesBoard_47 : decode cX8_takesBoard 47 = .ok (.ifCond .eq 18, 3) := by decide +kernel
theorem dX8_takesBoard_50 : decode cX8_takesBoard 50 = .ok (.aload_n 0, 1) := by decide +kernel
theorem dX8_takesBoard_51 : decode cX8_takesBoard 51 = .ok (.getfield 45, 3) := by decide +kernel
theorem dX8_takesBoard_54 : decode cX8_takesBoard 54 = .ok (.bipush 6, 2) := by decide +kernel
theorem dX8_takesBoard_56 : decode cX8_takesBoard 56 = .ok (.aload_n 0, 1) := by decide +kernel
theorem dX8_takesBoard_57 : decode cX8_takesBoard 57 = .ok (.getfield 237, 3) := by decide +kernel
theorem dX8_takesBoard_60 : decode cX8_takesBoard 60 = .ok (.iadd, 1) := by decide +kernel
theorem dX8_takesBoard_61 : decode cX8_takesBoard 61 = .ok (.iaload, 1) := by decide +kernel
theorem dX8_takesBoard_62 : decode cX8_takesBoard 62 = .ok (.ifCond .eq 5, 3) := by decide +kernel
theorem dX8_takesBoard_65 : decode cX8_takesBoard 65 = .ok (.iconst 0, 1) := by decide +kernel
theorem dX8_takesBoard_66 : decode cX8_takesBoard 66 = .ok (.ireturn, 1) := by decide +kernel
theorem dX8_takesBoard_67 : decode cX8_takesBoard 67 = .ok (.aload_n 0, 1) := by decide +kernel
theorem dX8_takesBoard_68 : decode cX8_takesBoard 68 = .ok (.getfield 45, 3) := by decide +kernel
theorem dX8_takesBoard_71 : decode cX8_takesBoard 71 = .ok (.bipush 6, 2) := by decide +kernel
theorem dX8_takesBoard_73 : decode cX8_takesBoard 73 = .ok (.aload_n 0, 1) := by decide +kernel
theorem dX8_takesBoard_74 : decode cX8_takesBoard 74 = .ok (.getfield 237, 3) := by decide +kernel
theorem dX8_takesBoard_77 : decode cX8_takesBoard 77 = .ok (.iadd, 1) := by decide +kernel
theorem dX8_takesBoard_78 : decode cX8_takesBoard 78 = .ok (.aload_n 0, 1) := by decide +kernel
theorem dX8_takesBoard_79 : decode cX8_takesBoard 79 = .ok (.getfield 48, 3) := by decide +kernel
theorem dX8_takesBoard_82 : decode cX8_takesBoard 82 = .ok (.iconst 0, 1) := by decide +kernel
theorem dX8_takesBoard_83 : decode cX8_takesBoard 83 = .ok (.iaload, 1) := by decide +kernel
theorem dX8_takesBoard_84 : decode cX8_takesBoard 84 = .ok (.iconst 1, 1) := by decide +kernel
theorem dX8_takesBoard_85 : decode cX8_takesBoard 85 = .ok (.iadd, 1) := by decide +kernel
theorem dX8_takesBoard_86 : decode cX8_takesBoard 86 = .ok (.iastore, 1) := by decide +kernel
theorem dX8_takesBoard_87 : decode cX8_takesBoard 87 = .ok (.aload_n 0, 1) := by decide +kernel
theorem dX8_takesBoard_88 : decode cX8_takesBoard 88 = .ok (.invokevirtual 250, 3) := by decide +kernel
theorem dX8_takesBoard_91 : decode cX8_takesBoard 91 = .ok (.iconst 1, 1) := by decide +kernel
theorem dX8_takesBoard_92 : decode cX8_takesBoard 92 = .ok (.ireturn, 1) := by decide +kernel
set_option maxRecDepth 20000 in
theorem ggX8_takesItem_X8_spells : GoodIn wsX8_takesItem wsX8_spells := goodIn_r _ [5, 6, 7, 8, 9, 73, 74, 75, 76, 77, 78, 79, 80, 81, 82, 83, 84, 85, 86, 87, 88, 89, 90, 91] (by decide +kernel) (by decide +kernel)
set_option maxRecDepth 20000 in
theorem gX8_takesItem_X8_spells : GoodIn wsX8_takesItem (wsV RX8 257 RX8 yX8_spells wsX8_spells) := goodIn_app (goodIn_of _ (by decide +kernel)) ggX8_takesItem_X8_spells
set_option maxRecDepth 20000 in
theorem ggX8_takesItem_X8_takesShip : GoodIn wsX8_takesItem wsX8_takesShip := goodIn_r _ [13, 14, 15, 16, 17, 18, 4, 19, 9, 7, 20, 21, 22, 23, 24, 8, 6, 25, 26, 27, 28, 29, 30, 31, 32, 33, 34, 35, 36, 37, 38, 39, 40, 41, 42, 73, 74, 75, 76, 77, 78, 79, 80, 81, 82, 83, 84, 85, 86, 87, 88, 89, 90, 91] (by decide +kernel) (by decide +kernel)
set_option maxRecDepth 20000 in
theorem gX8_takesItem_X8_takesShip : GoodIn wsX8_takesItem (wsV RX8 261 RX8 yX8_takesShip wsX8_takesShip) := goodIn_app (goodIn_of _ (by decide +kernel)) ggX8_takesItem_X8_takesShip
set_option maxRecDepth 20000 in
theorem ggX8_takesItem_X8_takesMan : GoodIn wsX8_takesItem wsX8_takesMan := goodIn_r _ [46, 14, 6, 25, 15, 16, 17, 18, 4, 19, 9, 7, 20, 21, 22, 23, 24, 8, 26, 27, 28, 29, 30, 31, 32, 33, 34, 35, 36, 37, 38, 39, 40, 41, 42, 47, 48, 49, 73, 74, 75, 76, 77, 78, 79, 80, 81, 82, 83, 84, 85, 86, 87, 88, 89, 90, 91] (by decide +kernel) (by decide +kernel)
set_option maxRecDepth 20000 in
theorem gX8_takesItem_X8_takesMan : GoodIn wsX8_takesItem (wsV RX8 265 RX8 yX8_takesMan wsX8_takesMan) := goodIn_app (goodIn_of _ (by decide +kernel)) ggX8_takesItem_X8_takesMan
set_option maxRecDepth 20000 in
theorem ggX8_takesItem_X8_takesCall : GoodIn wsX8_takesItem wsX8_takesCall := goodIn_r _ [53, 6, 25, 14, 16, 17, 18, 4, 19, 9, 7, 20, 21, 22, 23, 24, 8, 26, 27, 28, 29, 30, 31, 32, 33, 34, 35, 36, 37, 38, 54, 55, 56, 57, 58, 59, 60, 61, 62, 63, 64, 65, 66, 67, 68, 73, 74, 75, 76, 77, 78, 79, 80, 81, 82, 83, 84, 85, 86, 87, 88, 89, 90, 91] (by decide +kernel) (by decide +kernel)
set_option maxRecDepth 20000 in
theorem gX8_takesItem_X8_takesCall : GoodIn wsX8_takesItem (wsV RX8 268 RX8 yX8_takesCall wsX8_takesCall) := goodIn_app (goodIn_of _ (by decide +kernel)) ggX8_takesItem_X8_takesCall
set_option maxRecDepth 20000 in
theorem ggX8_takesItem_X8_takesBoard : GoodIn wsX8_takesItem wsX8_takesBoard := goodIn_r _ [72, 14, 6, 25, 15, 16, 17, 18, 4, 19, 9, 7, 20, 21, 22, 23, 24, 8, 26, 27, 28, 29, 30, 31, 32, 33, 34, 35, 36, 37, 38, 39, 40, 41, 42, 73, 74, 75, 76, 77, 78, 79, 80, 81, 82, 83, 84, 85, 86, 87, 88, 89, 90, 91] (by decide +kernel) (by decide +kernel)
set_option maxRecDepth 20000 in
theorem gX8_takesItem_X8_takesBoard : GoodIn wsX8_takesItem (wsV RX8 271 RX8 yX8_takesBoard wsX8_takesBoard) := goodIn_app (goodIn_of _ (by decide +kernel)) ggX8_takesItem_X8_takesBoard
theorem dX8_takesItem_0 : decode cX8_takesItem 0 = .ok (.aload_n 0, 1) := by decide +kernel
theorem dX8_takesItem_1 : decode cX8_takesItem 1 = .ok (.iconst 4, 1) := by decide +kernel
theorem dX8_takesItem_2 : decode cX8_takesItem 2 = .ok (.bipush 115, 2) := by decide +kernel
theorem dX8_takesItem_4 : decode cX8_takesItem 4 = .ok (.bipush 104, 2) := by decide +kernel
theorem dX8_takesItem_6 : decode cX8_takesItem 6 = .ok (.bipush 105, 2) := by decide +kernel
theorem dX8_takesItem_8 : decode cX8_takesItem 8 = .ok (.bipush 112, 2) := by decide +kernel
theorem dX8_takesItem_10 : decode cX8_takesItem 10 = .ok (.iconst 0, 1) := by decide +kernel
theorem dX8_takesItem_11 : decode cX8_takesItem 11 = .ok (.iconst 0, 1) := by decide +kernel
theorem dX8_takesItem_12 : decode cX8_takesItem 12 = .ok (.invokevirtual 257, 3) := by decide +kernel
theorem dX8_takesItem_15 : decode cX8_takesItem 15 = .ok (.ifCond .eq 8, 3) := by decide +kernel
theorem dX8_takesItem_18 : decode cX8_takesItem 18 = .ok (.aload_n 0, 1) := by decide +kernel
theorem dX8_takesItem_19 : decode cX8_takesItem 19 = .ok (.invokevirtual 261, 3) := by decide +kernel
theorem dX8_takesItem_22 : decode cX8_takesItem 22 = .ok (.ireturn, 1) := by decide +kernel
theorem dX8_takesItem_23 : decode cX8_takesItem 23 = .ok (.aload_n 0, 1) := by decide +kernel
theorem dX8_takesItem_24 : decode cX8_takesItem 24 = .ok (.iconst 3, 1) := by decide +kernel
theorem dX8_takesItem_25 : decode cX8_takesItem 25 = .ok (.bipush 109, 2) := by decide +kernel
theorem dX8_takesItem_27 : decode cX8_takesItem 27 = .ok (.bipush 97, 2) := by decide +kernel
theorem dX8_takesItem_29 : decode cX8_takesItem 29 = .ok (.bipush 110, 2) := by decide +kernel
theorem dX8_takesItem_31 : decode cX8_takesItem 31 = .ok (.iconst 0, 1) := by decide +kernel
theorem dX8_takesItem_32 : decode cX8_takesItem 32 = .ok (.iconst 0, 1) := by decide +kernel
theorem dX8_takesItem_33 : decode cX8_takesItem 33 = .ok (.iconst 0, 1) := by decide +kernel
theorem dX8_takesItem_34 : decode cX8_takesItem 34 = .ok (.invokevirtual 257, 3) := by decide +kernel
theorem dX8_takesItem_37 : decode cX8_takesItem 37 = .ok (.ifCond .eq 8, 3) := by decide +kernel
theorem dX8_takesItem_40 : decode cX8_takesItem 40 = .ok (.aload_n 0, 1) := by decide +kernel
theorem dX8_takesItem_41 : decode cX8_takesItem 41 = .ok (.invokevirtual 265, 3) := by decide +kernel
theorem dX8_takesItem_44 : decode cX8_takesItem 44 = .ok (.ireturn, 1) := by decide +kernel
theorem dX8_takesItem_45 : decode cX8_takesItem 45 = .ok (.aload_n 0, 1) := by decide +kernel
theorem dX8_takesItem_46 : decode cX8_takesItem 46 = .ok (.iconst 4, 1) := by decide +kernel
theorem dX8_takesItem_47 : decode cX8_takesItem 47 = .ok (.bipush 99, 2) := by decide +kernel
theorem dX8_takesItem_49 : decode cX8_takesItem 49 = .ok (.bipush 97, 2) := by decide +kernel
theorem dX8_takesItem_51 : decode cX8_takesItem 51 = .ok (.bipush 108, 2) := by decide +kernel
theorem dX8_takesItem_53 : decode cX8_takesItem 53 = .ok (.bipush 108, 2) := by decide +kernel
theorem dX8_takesItem_55 : decode cX8_takesItem 55 = .ok (.iconst 0, 1) := by decide +kernel
theorem dX8_takesItem_56 : decode cX8_takesItem 56 = .ok (.iconst 0, 1) := by decide +kernel
theorem dX8_takesItem_57 : decode cX8_takesItem 57 = .ok (.invokevirtual 257, 3) := by decide +kernel
theorem dX8_takesItem_60 : decode cX8_takesItem 60 = .ok (.ifCond .eq 8, 3) := by decide +kernel
theorem dX8_takesItem_63 : decode cX8_takesItem 63 = .ok (.aload_n 0, 1) := by decide +kernel
theorem dX8_takesItem_64 : decode cX8_takesItem 64 = .ok (.invokevirtual 268, 3) := by decide +kernel
theorem dX8_takesItem_67 : decode cX8_takesItem 67 = .ok (.ireturn, 1) := by decide +kernel
theorem dX8_takesItem_68 : decode cX8_takesItem 68 = .ok (.aload_n 0, 1) := by decide +kernel
theorem dX8_takesItem_69 : decode cX8_takesItem 69 = .ok (.iconst 5, 1) := by decide +kernel
theorem dX8_takesItem_70 : decode cX8_takesItem 70 = .ok (.bipush 98, 2) := by decide +kernel
theorem dX8_takesItem_72 : decode cX8_takesItem 72 = .ok (.bipush 111, 2) := by decide +kernel
theorem dX8_takesItem_74 : decode cX8_takesItem 74 = .ok (.bipush 97, 2) := by decide +kernel
theorem dX8_takesItem_76 : decode cX8_takesItem 76 = .ok (.bipush 114, 2) := by decide +kernel
theorem dX8_takesItem_78 : decode cX8_takesItem 78 = .ok (.bipush 100, 2) := by decide +kernel
theorem dX8_takesItem_80 : decode cX8_takesItem 80 = .ok (.iconst 0, 1) := by decide +kernel
theorem dX8_takesItem_81 : decode cX8_takesItem 81 = .ok (.invokevirtual 257, 3) := by decide +kernel
theorem dX8_takesItem_84 : decode cX8_takesItem 84 = .ok (.ifCond .eq 14, 3) := by decide +kernel
theorem dX8_takesItem_87 : decode cX8_takesItem 87 = .ok (.aload_n 0, 1) := by decide +kernel
theorem dX8_takesItem_88 : decode cX8_takesItem 88 = .ok (.invokevirtual 271, 3) := by decide +kernel
theorem dX8_takesItem_91 : decode cX8_takesItem 91 = .ok (.ifCond .eq 7, 3) := by decide +kernel
theorem dX8_takesItem_94 : decode cX8_takesItem 94 = .ok (.iconst 1, 1) := by decide +kernel
theorem dX8_takesItem_95 : decode cX8_takesItem 95 = .ok (.goto 4, 3) := by decide +kernel
theorem dX8_takesItem_98 : decode cX8_takesItem 98 = .ok (.iconst 0, 1) := by decide +kernel
theorem dX8_takesItem_99 : decode cX8_takesItem 99 = .ok (.ireturn, 1) := by decide +kernel
set_option maxRecDepth 20000 in
theorem ggX8_read_X8_lookAt : GoodIn wsX8_read wsX8_lookAt := goodIn_r _ [9, 1, 10, 11, 12, 2, 13, 14, 15, 8, 16, 17, 18, 19, 20, 21, 22, 23, 24, 25, 26, 81, 82, 83, 84, 85, 86, 87, 88, 89, 90, 91, 92, 93, 94, 95, 96, 97, 98, 99] (by decide +kernel) (by decide +kernel)
set_option maxRecDepth 20000 in
theorem gX8_read_X8_lookAt : GoodIn wsX8_read (wsV RX8 246 RX8 yX8_lookAt wsX8_lookAt) := goodIn_app (goodIn_of _ (by decide +kernel)) ggX8_read_X8_lookAt
set_option maxRecDepth 20000 in
theorem ggX8_read_X8_spells : GoodIn wsX8_read wsX8_spells := goodIn_r _ [30, 2, 12, 11, 1, 81, 82, 83, 84, 85, 86, 87, 88, 89, 90, 91, 92, 93, 94, 95, 96, 97, 98, 99] (by decide +kernel) (by decide +kernel)
set_option maxRecDepth 20000 in
theorem gX8_read_X8_spells : GoodIn wsX8_read (wsV RX8 257 RX8 yX8_spells wsX8_spells) := goodIn_app (goodIn_of _ (by decide +kernel)) ggX8_read_X8_spells
set_option maxRecDepth 20000 in
theorem ggX8_read_X8_goBehind : GoodIn wsX8_read wsX8_goBehind := goodIn_r _ [34, 1, 12, 5, 6, 7, 8, 9, 10, 11, 2, 13, 14, 15, 16, 17, 18, 19, 20, 21, 22, 23, 24, 25, 26, 81, 82, 83, 84, 85, 86, 87, 88, 89, 90, 91, 92, 93, 94, 95, 96, 97, 98, 99] (by decide +kernel) (by decide +kernel)
set_option maxRecDepth 20000 in
theorem gX8_read_X8_goBehind : GoodIn wsX8_read (wsV RX8 250 RX8 yX8_goBehind wsX8_goBehind) := goodIn_app (goodIn_of _ (by decide +kernel)) ggX8_read_X8_goBehind
set_option maxRecDepth 20000 in
theorem ggX8_read_X8_begin : GoodIn wsX8_read wsX8_begin := goodIn_r _ [37] (by decide +kernel) (by decide +kernel)
set_option maxRecDepth 20000 in
theorem gX8_read_X8_begin : GoodIn wsX8_read (va_wsS RX8 51 yX8_begin wsX8_begin) := goodIn_app (goodIn_of _ (by decide +kernel)) ggX8_read_X8_begin
set_option maxRecDepth 20000 in
theorem ggX8_read_X8_takesItem : GoodIn wsX8_read wsX8_takesItem := goodIn_r _ [41, 27, 28, 29, 8, 30, 2, 12, 11, 1, 42, 43, 44, 45, 3, 46, 31, 32, 33, 34, 5, 6, 7, 9, 10, 13, 14, 15, 16, 17, 18, 19, 20, 21, 22, 23, 24, 25, 26, 47, 48, 49, 50, 51, 52, 53, 54, 55, 56, 57, 58, 59, 60, 61, 62, 63, 64, 65, 66, 67, 68, 69, 70, 71, 72, 73, 74, 75, 76, 77, 78, 79, 80, 81, 82, 83, 84, 85, 86, 87, 88, 89, 90, 91, 92, 93, 94, 95, 96, 97, 98, 99] (by decide +kernel) (by decide +kernel)
set_option maxRecDepth 20000 in
theorem gX8_read_X8_takesItem : GoodIn wsX8_read (wsV RX8 274 RX8 yX8_takesItem wsX8_takesItem) := goodIn_app (goodIn_of _ (by decide +kernel)) ggX8_read_X8_takesItem
theorem dX8_read_0 : decode cX8_read 0 = .ok (.aload_n 0, 1) := by decide +kernel
theorem dX8_read_1 : decode cX8_read 1 = .ok (.iconst 0, 1) := by decide +kernel
theorem dX8_read_2 : decode cX8_read 2 = .ok (.invokevirtual 246, 3) := by decide +kernel
theorem dX8_read_5 : decode cX8_read 5 = .ok (.aload_n 0, 1) := by decide +kernel
theorem dX8_read_6 : decode cX8_read 6 = .ok (.bipush 6, 2) := by decide +kernel
theorem dX8_read_8 : decode cX8_read 8 = .ok (.bipush 105, 2) := by decide +kernel
theorem dX8_read_10 : decode cX8_read 10 = .ok (.bipush 115, 2) := by decide +kernel
theorem dX8_read_12 : decode cX8_read 12 = .ok (.bipush 108, 2) := by decide +kernel
theorem dX8_read_14 : decode cX8_read 14 = .ok (.bipush 97, 2) := by decide +kernel
theorem dX8_read_16 : decode cX8_read 16 = .ok (.bipush 110, 2) := by decide +kernel
theorem dX8_read_18 : decode cX8_read 18 = .ok (.bipush 100, 2) := by decide +kernel
theorem dX8_read_20 : decode cX8_read 20 = .ok (.invokevirtual 257, 3) := by decide +kernel
theorem dX8_read_23 : decode cX8_read 23 = .ok (.ifCond .ne 11, 3) := by decide +kernel
theorem dX8_read_26 : decode cX8_read 26 = .ok (.bipush (-10), 2) := by decide +kernel
theorem dX8_read_28 : decode cX8_read 28 = .ok (.aload_n 0, 1) := by decide +kernel
theorem dX8_read_29 : decode cX8_read 29 = .ok (.getfield 228, 3) := by decide +kernel
theorem dX8_read_32 : decode cX8_read 32 = .ok (.isub, 1) := by decide +kernel
theorem dX8_read_33 : decode cX8_read 33 = .ok (.ireturn, 1) := by decide +kernel
theorem dX8_read_34 : decode cX8_read 34 = .ok (.aload_n 0, 1) := by decide +kernel
theorem dX8_read_35 : decode cX8_read 35 = .ok (.invokevirtual 250, 3) := by decide +kernel
theorem dX8_read_38 : decode cX8_read 38 = .ok (.aload_n 0, 1) := by decide +kernel
theorem dX8_read_39 : decode cX8_read 39 = .ok (.getfield 234, 3) := by decide +kernel
theorem dX8_read_42 : decode cX8_read 42 = .ok (.iconst 3, 1) := by decide +kernel
theorem dX8_read_43 : decode cX8_read 43 = .ok (.if_icmp .eq 11, 3) := by decide +kernel
theorem dX8_read_46 : decode cX8_read 46 = .ok (.bipush (-10), 2) := by decide +kernel
theorem dX8_read_48 : decode cX8_read 48 = .ok (.aload_n 0, 1) := by decide +kernel
theorem dX8_read_49 : decode cX8_read 49 = .ok (.getfield 228, 3) := by decide +kernel
theorem dX8_read_52 : decode cX8_read 52 = .ok (.isub, 1) := by decide +kernel
theorem dX8_read_53 : decode cX8_read 53 = .ok (.ireturn, 1) := by decide +kernel
theorem dX8_read_54 : decode cX8_read 54 = .ok (.aload_n 0, 1) := by decide +kernel
theorem dX8_read_55 : decode cX8_read 55 = .ok (.invokevirtual 250, 3) := by decide +kernel
theorem dX8_read_58 : decode cX8_read 58 = .ok (.aload_n 0, 1) := by decide +kernel
theorem dX8_read_59 : decode cX8_read 59 = .ok (.getfield 45, 3) := by decide +kernel
theorem dX8_read_62 : decode cX8_read 62 = .ok (.invokestatic 51, 3) := by decide +kernel
theorem dX8_read_65 : decode cX8_read 65 = .ok (.iconst 1, 1) := by decide +kernel
theorem dX8_read_66 : decode cX8_read 66 = .ok (.istore_n 1, 1) := by decide +kernel
theorem dX8_read_67 : decode cX8_read 67 = .ok (.aload_n 0, 1) := by decide +kernel
theorem dX8_read_68 : decode cX8_read 68 = .ok (.getfield 234, 3) := by decide +kernel
theorem dX8_read_71 : decode cX8_read 71 = .ok (.ifCond .eq 36, 3) := by decide +kernel
theorem dX8_read_74 : decode cX8_read 74 = .ok (.aload_n 0, 1) := by decide +kernel
theorem dX8_read_75 : decode cX8_read 75 = .ok (.invokevirtual 274, 3) := by decide +kernel
theorem dX8_read_78 : decode cX8_read 78 = .ok (.ifCond .eq 11, 3) := by decide +kernel
theorem dX8_read_81 : decode cX8_read 81 = .ok (.aload_n 0, 1) := by decide +kernel
theorem dX8_read_82 : decode cX8_read 82 = .ok (.getfield 234, 3) := by decide +kernel
theorem dX8_read_85 : decode cX8_read 85 = .ok (.iconst 3, 1) := by decide +kernel
theorem dX8_read_86 : decode cX8_read 86 = .ok (.if_icmp .eq 11, 3) := by decide +kernel
theorem dX8_read_89 : decode cX8_read 89 = .ok (.bipush (-10), 2) := by decide +kernel
theorem dX8_read_91 : decode cX8_read 91 = .ok (.aload_n 0, 1) := by decide +kernel
theorem dX8_read_92 : decode cX8_read 92 = .ok (.getfield 228, 3) := by decide +kernel
theorem dX8_read_95 : decode cX8_read 95 = .ok (.isub, 1) := by decide +kernel
theorem dX8_read_96 : decode cX8_read 96 = .ok (.ireturn, 1) := by decide +kernel
theorem dX8_read_97 : decode cX8_read 97 = .ok (.aload_n 0, 1) := by decide +kernel
theorem dX8_read_98 : decode cX8_read 98 = .ok (.invokevirtual 250, 3) := by decide +kernel
theorem dX8_read_101 : decode cX8_read 101 = .ok (.iinc 1 1, 3) := by decide +kernel
theorem dX8_read_104 : decode cX8_read 104 = .ok (.goto (-37), 3) := by decide +kernel
theorem dX8_read_107 : decode cX8_read 107 = .ok (.iconst 0, 1) := by decide +kernel
theorem dX8_read_108 : decode cX8_read 108 = .ok (.istore_n 2, 1) := by decide +kernel
theorem dX8_read_109 : decode cX8_read 109 = .ok (.iload_n 2, 1) := by decide +kernel
theorem dX8_read_110 : decode cX8_read 110 = .ok (.bipush 104, 2) := by decide +kernel
theorem dX8_read_112 : decode cX8_read 112 = .ok (.if_icmp .ge 21, 3) := by decide +kernel
theorem dX8_read_115 : decode cX8_read 115 = .ok (.aload_n 0, 1) := by decide +kernel
theorem dX8_read_116 : decode cX8_read 116 = .ok (.getfield 7, 3) := by decide +kernel
theorem dX8_read_119 : decode cX8_read 119 = .ok (.iload_n 2, 1) := by decide +kernel
theorem dX8_read_120 : decode cX8_read 120 = .ok (.aload_n 0, 1) := by decide +kernel
theorem dX8_read_121 : decode cX8_read 121 = .ok (.getfield 45, 3) := by decide +kernel
theorem dX8_read_124 : decode cX8_read 124 = .ok (.iload_n 2, 1) := by decide +kernel
theorem dX8_read_125 : decode cX8_read 125 = .ok (.iaload, 1) := by decide +kernel
theorem dX8_read_126 : decode cX8_read 126 = .ok (.iastore, 1) := by decide +kernel
theorem dX8_read_127 : decode cX8_read 127 = .ok (.iinc 2 1, 3) := by decide +kernel
theorem dX8_read_130 : decode cX8_read 130 = .ok (.goto (-21), 3) := by decide +kernel
theorem dX8_read_133 : decode cX8_read 133 = .ok (.iload_n 1, 1) := by decide +kernel
theorem dX8_read_134 : decode cX8_read 134 = .ok (.ireturn, 1) := by decide +kernel
set_option maxRecDepth 20000 in
theorem ggX8_part_X8_bad : GoodIn wsX8_part wsX8_bad := goodIn_r _ [7, 8, 9, 10, 11, 12, 13, 14, 15, 16, 17, 18, 19, 20, 21, 22, 23, 24, 25, 26, 27] (by decide +kernel) (by decide +kernel)
set_option maxRecDepth 20000 in
theorem gX8_part_X8_bad : GoodIn wsX8_part (wsV RX8 73 RX8 yX8_bad wsX8_bad) := goodIn_app (goodIn_of _ (by decide +kernel)) ggX8_part_X8_bad
theorem dX8_part_0 : decode cX8_part 0 = .ok (.iload_n 1, 1) := by decide +kernel
theorem dX8_part_1 : decode cX8_part 1 = .ok (.ifCond .ne 10, 3) := by decide +kernel
theorem dX8_part_4 : decode cX8_part 4 = .ok (.aload_n 0, 1) := by decide +kernel
theorem dX8_part_5 : decode cX8_part 5 = .ok (.getfield 191, 3) := by decide +kernel
theorem dX8_part_8 : decode cX8_part 8 = .ok (.goto 22, 3) := by decide +kernel
theorem dX8_part_11 : decode cX8_part 11 = .ok (.iload_n 1, 1) := by decide +kernel
theorem dX8_part_12 : decode cX8_part 12 = .ok (.iconst 1, 1) := by decide +kernel
theorem dX8_part_13 : decode cX8_part 13 = .ok (.if_icmp .ne 10, 3) := by decide +kernel
theorem dX8_part_16 : decode cX8_part 16 = .ok (.aload_n 0, 1) := by decide +kernel
theorem dX8_part_17 : decode cX8_part 17 = .ok (.getfield 23, 3) := by decide +kernel
theorem dX8_part_20 : decode cX8_part 20 = .ok (.goto 10, 3) := by decide +kernel
theorem dX8_part_23 : decode cX8_part 23 = .ok (.aload_n 0, 1) := by decide +kernel
theorem dX8_part_24 : decode cX8_part 24 = .ok (.bipush (-2), 2) := by decide +kernel
theorem dX8_part_26 : decode cX8_part 26 = .ok (.invokevirtual 73, 3) := by decide +kernel
theorem dX8_part_29 : decode cX8_part 29 = .ok (.i2l, 1) := by decide +kernel
theorem dX8_part_30 : decode cX8_part 30 = .ok (.lreturn, 1) := by decide +kernel
set_option maxRecDepth 20000 in
theorem ggX8_image_X8_in : GoodIn wsX8_image wsX8_in := goodIn_r _ [7] (by decide +kernel) (by decide +kernel)
set_option maxRecDepth 20000 in
theorem gX8_image_X8_in : GoodIn wsX8_image (va_wsS RX8 59 yX8_in wsX8_in) := goodIn_app (goodIn_of _ (by decide +kernel)) ggX8_image_X8_in
set_option maxRecDepth 20000 in
theorem ggX8_image_X8_bad : GoodIn wsX8_image wsX8_bad := goodIn_r _ [11, 12, 13, 14, 15, 16, 17, 18, 19, 20, 21, 22, 23, 24, 25, 26, 27, 28, 29, 30, 31] (by decide +kernel) (by decide +kernel)
set_option maxRecDepth 20000 in
theorem gX8_image_X8_bad : GoodIn wsX8_image (wsV RX8 73 RX8 yX8_bad wsX8_bad) := goodIn_app (goodIn_of _ (by decide +kernel)) ggX8_image_X8_bad
theorem dX8_image_0 : decode cX8_image 0 = .ok (.iload_n 1, 1) := by decide +kernel
theorem dX8_image_1 : decode cX8_image 1 = .ok (.i2l, 1) := by decide +kernel
theorem dX8_image_2 : decode cX8_image 2 = .ok (.lconst 0, 1) := by decide +kernel
theorem dX8_image_3 : decode cX8_image 3 = .ok (.lconst 1, 1) := by decide +kernel
theorem dX8_image_4 : decode cX8_image 4 = .ok (.invokestatic 59, 3) := by decide +kernel
theorem dX8_image_7 : decode cX8_image 7 = .ok (.ifCond .ne 10, 3) := by decide +kernel
theorem dX8_image_10 : decode cX8_image 10 = .ok (.aload_n 0, 1) := by decide +kernel
theorem dX8_image_11 : decode cX8_image 11 = .ok (.bipush (-2), 2) := by decide +kernel
theorem dX8_image_13 : decode cX8_image 13 = .ok (.invokevirtual 73, 3) := by decide +kernel
theorem dX8_image_16 : decode cX8_image 16 = .ok (.ireturn, 1) := by decide +kernel
theorem dX8_image_17 : decode cX8_image 17 = .ok (.iconst 0, 1) := by decide +kernel
theorem dX8_image_18 : decode cX8_image 18 = .ok (.istore_n 2, 1) := by decide +kernel
theorem dX8_image_19 : decode cX8_image 19 = .ok (.iload_n 2, 1) := by decide +kernel
theorem dX8_image_20 : decode cX8_image 20 = .ok (.sipush 192, 3) := by decide +kernel
theorem dX8_image_23 : decode cX8_image 23 = .ok (.if_icmp .ge 27, 3) := by decide +kernel
theorem dX8_image_26 : decode cX8_image 26 = .ok (.aload_n 0, 1) := by decide +kernel
theorem dX8_image_27 : decode cX8_image 27 = .ok (.getfield 13, 3) := by decide +kernel
theorem dX8_image_30 : decode cX8_image 30 = .ok (.sipush 192, 3) := by decide +kernel
theorem dX8_image_33 : decode cX8_image 33 = .ok (.iload_n 1, 1) := by decide +kernel
theorem dX8_image_34 : decode cX8_image 34 = .ok (.imul, 1) := by decide +kernel
theorem dX8_image_35 : decode cX8_image 35 = .ok (.iload_n 2, 1) := by decide +kernel
theorem dX8_image_36 : decode cX8_image 36 = .ok (.iadd, 1) := by decide +kernel
theorem dX8_image_37 : decode cX8_image 37 = .ok (.aload_n 0, 1) := by decide +kernel
theorem dX8_image_38 : decode cX8_image 38 = .ok (.getfield 7, 3) := by decide +kernel
theorem dX8_image_41 : decode cX8_image 41 = .ok (.iload_n 2, 1) := by decide +kernel
theorem dX8_image_42 : decode cX8_image 42 = .ok (.iaload, 1) := by decide +kernel
theorem dX8_image_43 : decode cX8_image 43 = .ok (.iastore, 1) := by decide +kernel
theorem dX8_image_44 : decode cX8_image 44 = .ok (.iinc 2 1, 3) := by decide +kernel
theorem dX8_image_47 : decode cX8_image 47 = .ok (.goto (-28), 3) := by decide +kernel
theorem dX8_image_50 : decode cX8_image 50 = .ok (.aload_n 0, 1) := by decide +kernel
theorem dX8_image_51 : decode cX8_image 51 = .ok (.getfield 16, 3) := by decide +kernel
theorem dX8_image_54 : decode cX8_image 54 = .ok (.iload_n 1, 1) := by decide +kernel
theorem dX8_image_55 : decode cX8_image 55 = .ok (.iconst 1, 1) := by decide +kernel
theorem dX8_image_56 : decode cX8_image 56 = .ok (.bastore, 1) := by decide +kernel
theorem dX8_image_57 : decode cX8_image 57 = .ok (.iconst 1, 1) := by decide +kernel
theorem dX8_image_58 : decode cX8_image 58 = .ok (.ireturn, 1) := by decide +kernel
set_option maxRecDepth 20000 in
theorem ggX8_from_X8_in : GoodIn wsX8_from wsX8_in := goodIn_r _ [7] (by decide +kernel) (by decide +kernel)
set_option maxRecDepth 20000 in
theorem gX8_from_X8_in : GoodIn wsX8_from (va_wsS RX8 59 yX8_in wsX8_in) := goodIn_app (goodIn_of _ (by decide +kernel)) ggX8_from_X8_in
set_option maxRecDepth 20000 in
theorem ggX8_from_X8_bad : GoodIn wsX8_from wsX8_bad := goodIn_r _ [11, 12, 17, 18, 19, 20, 21, 22, 23, 24, 25, 26, 27, 28, 29, 30, 31, 32, 33, 34, 35] (by decide +kernel) (by decide +kernel)
set_option maxRecDepth 20000 in
theorem gX8_from_X8_bad : GoodIn wsX8_from (wsV RX8 73 RX8 yX8_bad wsX8_bad) := goodIn_app (goodIn_of _ (by decide +kernel)) ggX8_from_X8_bad
set_option maxRecDepth 20000 in
theorem ggX8_from_X8_no : GoodIn wsX8_from wsX8_no := goodIn_r _ [16, 12, 17, 18, 19, 20, 21, 22, 23, 24, 25, 26, 27, 28, 29, 30, 31, 32, 33, 34, 35] (by decide +kernel) (by decide +kernel)
set_option maxRecDepth 20000 in
theorem gX8_from_X8_no : GoodIn wsX8_from (wsV RX8 111 RX8 yX8_no wsX8_no) := goodIn_app (goodIn_of _ (by decide +kernel)) ggX8_from_X8_no
theorem dX8_from_0 : decode cX8_from 0 = .ok (.iload_n 1, 1) := by decide +kernel
theorem dX8_from_1 : decode cX8_from 1 = .ok (.i2l, 1) := by decide +kernel
theorem dX8_from_2 : decode cX8_from 2 = .ok (.lconst 0, 1) := by decide +kernel
theorem dX8_from_3 : decode cX8_from 3 = .ok (.lconst 1, 1) := by decide +kernel
theorem dX8_from_4 : decode cX8_from 4 = .ok (.invokestatic 59, 3) := by decide +kernel
theorem dX8_from_7 : decode cX8_from 7 = .ok (.ifCond .ne 10, 3) := by decide +kernel
theorem dX8_from_10 : decode cX8_from 10 = .ok (.aload_n 0, 1) := by decide +kernel
theorem dX8_from_11 : decode cX8_from 11 = .ok (.bipush (-2), 2) := by decide +kernel
theorem dX8_from_13 : decode cX8_from 13 = .ok (.invokevirtual 73, 3) := by decide +kernel
theorem dX8_from_16 : decode cX8_from 16 = .ok (.ireturn, 1) := by decide +kernel
theorem dX8_from_17 : decode cX8_from 17 = .ok (.aload_n 0, 1) := by decide +kernel
theorem dX8_from_18 : decode cX8_from 18 = .ok (.getfield 16, 3) := by decide +kernel
theorem dX8_from_21 : decode cX8_from 21 = .ok (.iload_n 1, 1) := by decide +kernel
theorem dX8_from_22 : decode cX8_from 22 = .ok (.baload, 1) := by decide +kernel
theorem dX8_from_23 : decode cX8_from 23 = .ok (.ifCond .ne 8, 3) := by decide +kernel
theorem dX8_from_26 : decode cX8_from 26 = .ok (.aload_n 0, 1) := by decide +kernel
theorem dX8_from_27 : decode cX8_from 27 = .ok (.invokevirtual 111, 3) := by decide +kernel
theorem dX8_from_30 : decode cX8_from 30 = .ok (.ireturn, 1) := by decide +kernel
theorem dX8_from_31 : decode cX8_from 31 = .ok (.iconst 0, 1) := by decide +kernel
theorem dX8_from_32 : decode cX8_from 32 = .ok (.istore_n 2, 1) := by decide +kernel
theorem dX8_from_33 : decode cX8_from 33 = .ok (.iload_n 2, 1) := by decide +kernel
theorem dX8_from_34 : decode cX8_from 34 = .ok (.sipush 192, 3) := by decide +kernel
theorem dX8_from_37 : decode cX8_from 37 = .ok (.if_icmp .ge 27, 3) := by decide +kernel
theorem dX8_from_40 : decode cX8_from 40 = .ok (.aload_n 0, 1) := by decide +kernel
theorem dX8_from_41 : decode cX8_from 41 = .ok (.getfield 7, 3) := by decide +kernel
theorem dX8_from_44 : decode cX8_from 44 = .ok (.iload_n 2, 1) := by decide +kernel
theorem dX8_from_45 : decode cX8_from 45 = .ok (.aload_n 0, 1) := by decide +kernel
theorem dX8_from_46 : decode cX8_from 46 = .ok (.getfield 13, 3) := by decide +kernel
theorem dX8_from_49 : decode cX8_from 49 = .ok (.sipush 192, 3) := by decide +kernel
theorem dX8_from_52 : decode cX8_from 52 = .ok (.iload_n 1, 1) := by decide +kernel
theorem dX8_from_53 : decode cX8_from 53 = .ok (.imul, 1) := by decide +kernel
theorem dX8_from_54 : decode cX8_from 54 = .ok (.iload_n 2, 1) := by decide +kernel
theorem dX8_from_55 : decode cX8_from 55 = .ok (.iadd, 1) := by decide +kernel
theorem dX8_from_56 : decode cX8_from 56 = .ok (.iaload, 1) := by decide +kernel
theorem dX8_from_57 : decode cX8_from 57 = .ok (.iastore, 1) := by decide +kernel
theorem dX8_from_58 : decode cX8_from 58 = .ok (.iinc 2 1, 3) := by decide +kernel
theorem dX8_from_61 : decode cX8_from 61 = .ok (.goto (-28), 3) := by decide +kernel
theorem dX8_from_64 : decode cX8_from 64 = .ok (.iconst 1, 1) := by decide +kernel
theorem dX8_from_65 : decode cX8_from 65 = .ok (.ireturn, 1) := by decide +kernel
set_option maxRecDepth 20000 in
theorem ggX8_status_X8_in : GoodIn wsX8_status wsX8_in := goodIn_r _ [6] (by decide +kernel) (by decide +kernel)
set_option maxRecDepth 20000 in
theorem gX8_status_X8_in : GoodIn wsX8_status (va_wsS RX8 59 yX8_in wsX8_in) := goodIn_app (goodIn_of _ (by decide +kernel)) ggX8_status_X8_in
set_option maxRecDepth 20000 in
theorem ggX8_status_X8_bad : GoodIn wsX8_status wsX8_bad := goodIn_r _ [10, 2, 11, 12, 13, 14, 15, 16, 17, 18, 19, 20, 21, 22, 23, 24, 25, 26, 27, 28, 29] (by decide +kernel) (by decide +kernel)
set_option maxRecDepth 20000 in
theorem gX8_status_X8_bad : GoodIn wsX8_status (wsV RX8 73 RX8 yX8_bad wsX8_bad) := goodIn_app (goodIn_of _ (by decide +kernel)) ggX8_status_X8_bad
theorem dX8_status_0 : decode cX8_status 0 = .ok (.iload_n 1, 1) := by decide +kernel
theorem dX8_status_1 : decode cX8_status 1 = .ok (.i2l, 1) := by decide +kernel
theorem dX8_status_2 : decode cX8_status 2 = .ok (.lconst 0, 1) := by decide +kernel
theorem dX8_status_3 : decode cX8_status 3 = .ok (.ldc2_w 160, 3) := by decide +kernel
theorem dX8_status_6 : decode cX8_status 6 = .ok (.invokestatic 59, 3) := by decide +kernel
theorem dX8_status_9 : decode cX8_status 9 = .ok (.ifCond .eq 12, 3) := by decide +kernel
theorem dX8_status_12 : decode cX8_status 12 = .ok (.aload_n 0, 1) := by decide +kernel
theorem dX8_status_13 : decode cX8_status 13 = .ok (.getfield 20, 3) := by decide +kernel
theorem dX8_status_16 : decode cX8_status 16 = .ok (.iload_n 1, 1) := by decide +kernel
theorem dX8_status_17 : decode cX8_status 17 = .ok (.iaload, 1) := by decide +kernel
theorem dX8_status_18 : decode cX8_status 18 = .ok (.goto 8, 3) := by decide +kernel
theorem dX8_status_21 : decode cX8_status 21 = .ok (.aload_n 0, 1) := by decide +kernel
theorem dX8_status_22 : decode cX8_status 22 = .ok (.iconst (-1), 1) := by decide +kernel
theorem dX8_status_23 : decode cX8_status 23 = .ok (.invokevirtual 73, 3) := by decide +kernel
theorem dX8_status_26 : decode cX8_status 26 = .ok (.ireturn, 1) := by decide +kernel
set_option maxRecDepth 20000 in
theorem ggX8_counted_X8_many : GoodIn wsX8_counted wsX8_many := goodIn_r _ [7, 1, 17, 18, 19, 20, 21, 22, 23, 24, 25, 26, 27, 28, 29, 30, 31, 32, 33, 34, 35] (by decide +kernel) (by decide +kernel)
set_option maxRecDepth 20000 in
theorem gX8_counted_X8_many : GoodIn wsX8_counted (wsV RX8 55 RX8 yX8_many wsX8_many) := goodIn_app (goodIn_of _ (by decide +kernel)) ggX8_counted_X8_many
set_option maxRecDepth 20000 in
theorem ggX8_counted_X8_ashore : GoodIn wsX8_counted wsX8_ashore := goodIn_r _ [10, 11, 12, 6, 13] (by decide +kernel) (by decide +kernel)
set_option maxRecDepth 20000 in
theorem gX8_counted_X8_ashore : GoodIn wsX8_counted (va_wsS RX8 123 yX8_ashore wsX8_ashore) := goodIn_app (goodIn_of _ (by decide +kernel)) ggX8_counted_X8_ashore
set_option maxRecDepth 20000 in
theorem ggX8_counted_X8_skillsIn : GoodIn wsX8_counted wsX8_skillsIn := goodIn_r _ [16] (by decide +kernel) (by decide +kernel)
set_option maxRecDepth 20000 in
theorem gX8_counted_X8_skillsIn : GoodIn wsX8_counted (va_wsS RX8 94 yX8_skillsIn wsX8_skillsIn) := goodIn_app (goodIn_of _ (by decide +kernel)) ggX8_counted_X8_skillsIn
theorem dX8_counted_0 : decode cX8_counted 0 = .ok (.iload_n 1, 1) := by decide +kernel
theorem dX8_counted_1 : decode cX8_counted 1 = .ok (.tableswitch 113 0 9 #[55, 60, 67, 75, 84, 113, 113, 113, 113, 108], 55) := by decide +kernel
theorem dX8_counted_56 : decode cX8_counted 56 = .ok (.aload_n 0, 1) := by decide +kernel
theorem dX8_counted_57 : decode cX8_counted 57 = .ok (.invokevirtual 55, 3) := by decide +kernel
theorem dX8_counted_60 : decode cX8_counted 60 = .ok (.ireturn, 1) := by decide +kernel
theorem dX8_counted_61 : decode cX8_counted 61 = .ok (.aload_n 0, 1) := by decide +kernel
theorem dX8_counted_62 : decode cX8_counted 62 = .ok (.getfield 7, 3) := by decide +kernel
theorem dX8_counted_65 : decode cX8_counted 65 = .ok (.iconst 1, 1) := by decide +kernel
theorem dX8_counted_66 : decode cX8_counted 66 = .ok (.iaload, 1) := by decide +kernel
theorem dX8_counted_67 : decode cX8_counted 67 = .ok (.ireturn, 1) := by decide +kernel
theorem dX8_counted_68 : decode cX8_counted 68 = .ok (.aload_n 0, 1) := by decide +kernel
theorem dX8_counted_69 : decode cX8_counted 69 = .ok (.getfield 7, 3) := by decide +kernel
theorem dX8_counted_72 : decode cX8_counted 72 = .ok (.invokestatic 123, 3) := by decide +kernel
theorem dX8_counted_75 : decode cX8_counted 75 = .ok (.ireturn, 1) := by decide +kernel
theorem dX8_counted_76 : decode cX8_counted 76 = .ok (.aload_n 0, 1) := by decide +kernel
theorem dX8_counted_77 : decode cX8_counted 77 = .ok (.getfield 7, 3) := by decide +kernel
theorem dX8_counted_80 : decode cX8_counted 80 = .ok (.iconst 0, 1) := by decide +kernel
theorem dX8_counted_81 : decode cX8_counted 81 = .ok (.invokestatic 94, 3) := by decide +kernel
theorem dX8_counted_84 : decode cX8_counted 84 = .ok (.ireturn, 1) := by decide +kernel
theorem dX8_counted_85 : decode cX8_counted 85 = .ok (.aload_n 0, 1) := by decide +kernel
theorem dX8_counted_86 : decode cX8_counted 86 = .ok (.getfield 7, 3) := by decide +kernel
theorem dX8_counted_89 : decode cX8_counted 89 = .ok (.bipush 14, 2) := by decide +kernel
theorem dX8_counted_91 : decode cX8_counted 91 = .ok (.iaload, 1) := by decide +kernel
theorem dX8_counted_92 : decode cX8_counted 92 = .ok (.aload_n 0, 1) := by decide +kernel
theorem dX8_counted_93 : decode cX8_counted 93 = .ok (.getfield 7, 3) := by decide +kernel
theorem dX8_counted_96 : decode cX8_counted 96 = .ok (.bipush 15, 2) := by decide +kernel
theorem dX8_counted_98 : decode cX8_counted 98 = .ok (.iaload, 1) := by decide +kernel
theorem dX8_counted_99 : decode cX8_counted 99 = .ok (.iadd, 1) := by decide +kernel
theorem dX8_counted_100 : decode cX8_counted 100 = .ok (.aload_n 0, 1) := by decide +kernel
theorem dX8_counted_101 : decode cX8_counted 101 = .ok (.getfield 7, 3) := by decide +kernel
theorem dX8_counted_104 : decode cX8_counted 104 = .ok (.bipush 16, 2) := by decide +kernel
theorem dX8_counted_106 : decode cX8_counted 106 = .ok (.iaload, 1) := by decide +kernel
theorem dX8_counted_107 : decode cX8_counted 107 = .ok (.iadd, 1) := by decide +kernel
theorem dX8_counted_108 : decode cX8_counted 108 = .ok (.ireturn, 1) := by decide +kernel
theorem dX8_counted_109 : decode cX8_counted 109 = .ok (.aload_n 0, 1) := by decide +kernel
theorem dX8_counted_110 : decode cX8_counted 110 = .ok (.getfield 216, 3) := by decide +kernel
theorem dX8_counted_113 : decode cX8_counted 113 = .ok (.ireturn, 1) := by decide +kernel
theorem dX8_counted_114 : decode cX8_counted 114 = .ok (.aload_n 0, 1) := by decide +kernel
theorem dX8_counted_115 : decode cX8_counted 115 = .ok (.getfield 7, 3) := by decide +kernel
theorem dX8_counted_118 : decode cX8_counted 118 = .ok (.iconst 2, 1) := by decide +kernel
theorem dX8_counted_119 : decode cX8_counted 119 = .ok (.iload_n 1, 1) := by decide +kernel
theorem dX8_counted_120 : decode cX8_counted 120 = .ok (.iadd, 1) := by decide +kernel
theorem dX8_counted_121 : decode cX8_counted 121 = .ok (.iconst 5, 1) := by decide +kernel
theorem dX8_counted_122 : decode cX8_counted 122 = .ok (.isub, 1) := by decide +kernel
theorem dX8_counted_123 : decode cX8_counted 123 = .ok (.iaload, 1) := by decide +kernel
theorem dX8_counted_124 : decode cX8_counted 124 = .ok (.ireturn, 1) := by decide +kernel
set_option maxRecDepth 20000 in
theorem ggX8_count_X8_in : GoodIn wsX8_count wsX8_in := goodIn_r _ [5] (by decide +kernel) (by decide +kernel)
set_option maxRecDepth 20000 in
theorem gX8_count_X8_in : GoodIn wsX8_count (va_wsS RX8 59 yX8_in wsX8_in) := goodIn_app (goodIn_of _ (by decide +kernel)) ggX8_count_X8_in
set_option maxRecDepth 20000 in
theorem ggX8_count_X8_counted : GoodIn wsX8_count wsX8_counted := goodIn_r _ [9, 10, 11, 12, 13, 14, 4, 15, 16, 17, 18, 19, 20, 21, 22, 23, 24, 30, 31, 32, 33, 34, 35, 36, 37, 38, 39, 40, 41, 42, 43, 44, 45, 46, 47, 48] (by decide +kernel) (by decide +kernel)
set_option maxRecDepth 20000 in
theorem gX8_count_X8_counted : GoodIn wsX8_count (wsV RX8 277 RX8 yX8_counted wsX8_counted) := goodIn_app (goodIn_of _ (by decide +kernel)) ggX8_count_X8_counted
set_option maxRecDepth 20000 in
theorem ggX8_count_X8_bad : GoodIn wsX8_count wsX8_bad := goodIn_r _ [28, 29, 30, 31, 32, 33, 34, 35, 36, 37, 38, 39, 40, 41, 42, 43, 44, 45, 46, 47, 48] (by decide +kernel) (by decide +kernel)
set_option maxRecDepth 20000 in
theorem gX8_count_X8_bad : GoodIn wsX8_count (wsV RX8 73 RX8 yX8_bad wsX8_bad) := goodIn_app (goodIn_of _ (by decide +kernel)) ggX8_count_X8_bad
theorem dX8_count_0 : decode cX8_count 0 = .ok (.iload_n 1, 1) := by decide +kernel
theorem dX8_count_1 : decode cX8_count 1 = .ok (.i2l, 1) := by decide +kernel
theorem dX8_count_2 : decode cX8_count 2 = .ok (.lconst 0, 1) := by decide +kernel
theorem dX8_count_3 : decode cX8_count 3 = .ok (.ldc2_w 65, 3) := by decide +kernel
theorem dX8_count_6 : decode cX8_count 6 = .ok (.invokestatic 59, 3) := by decide +kernel
theorem dX8_count_9 : decode cX8_count 9 = .ok (.ifCond .eq 11, 3) := by decide +kernel
theorem dX8_count_12 : decode cX8_count 12 = .ok (.aload_n 0, 1) := by decide +kernel
theorem dX8_count_13 : decode cX8_count 13 = .ok (.iload_n 1, 1) := by decide +kernel
theorem dX8_count_14 : decode cX8_count 14 = .ok (.invokevirtual 277, 3) := by decide +kernel
theorem dX8_count_17 : decode cX8_count 17 = .ok (.goto 9, 3) := by decide +kernel
theorem dX8_count_20 : decode cX8_count 20 = .ok (.aload_n 0, 1) := by decide +kernel
theorem dX8_count_21 : decode cX8_count 21 = .ok (.bipush (-2), 2) := by decide +kernel
theorem dX8_count_23 : decode cX8_count 23 = .ok (.invokevirtual 73, 3) := by decide +kernel
theorem dX8_count_26 : decode cX8_count 26 = .ok (.ireturn, 1) := by decide +kernel
theorem dX8_sums_0 : decode cX8_sums 0 = .ok (.lload_n 1, 1) := by decide +kernel
theorem dX8_sums_1 : decode cX8_sums 1 = .ok (.lstore 5, 2) := by decide +kernel
theorem dX8_sums_3 : decode cX8_sums 3 = .ok (.iconst 0, 1) := by decide +kernel
theorem dX8_sums_4 : decode cX8_sums 4 = .ok (.istore 7, 2) := by decide +kernel
theorem dX8_sums_6 : decode cX8_sums 6 = .ok (.iload 7, 2) := by decide +kernel
theorem dX8_sums_8 : decode cX8_sums 8 = .ok (.iload 4, 2) := by decide +kernel
theorem dX8_sums_10 : decode cX8_sums 10 = .ok (.if_icmp .ge 28, 3) := by decide +kernel
theorem dX8_sums_13 : decode cX8_sums 13 = .ok (.ldc2_w 280, 3) := by decide +kernel
theorem dX8_sums_16 : decode cX8_sums 16 = .ok (.lload 5, 2) := by decide +kernel
theorem dX8_sums_18 : decode cX8_sums 18 = .ok (.lmul, 1) := by decide +kernel
theorem dX8_sums_19 : decode cX8_sums 19 = .ok (.aload_n 0, 1) := by decide +kernel
theorem dX8_sums_20 : decode cX8_sums 20 = .ok (.getfield 7, 3) := by decide +kernel
theorem dX8_sums_23 : decode cX8_sums 23 = .ok (.iload_n 3, 1) := by decide +kernel
theorem dX8_sums_24 : decode cX8_sums 24 = .ok (.iload 7, 2) := by decide +kernel
theorem dX8_sums_26 : decode cX8_sums 26 = .ok (.iadd, 1) := by decide +kernel
theorem dX8_sums_27 : decode cX8_sums 27 = .ok (.iaload, 1) := by decide +kernel
theorem dX8_sums_28 : decode cX8_sums 28 = .ok (.i2l, 1) := by decide +kernel
theorem dX8_sums_29 : decode cX8_sums 29 = .ok (.ladd, 1) := by decide +kernel
theorem dX8_sums_30 : decode cX8_sums 30 = .ok (.lstore 5, 2) := by decide +kernel
theorem dX8_sums_32 : decode cX8_sums 32 = .ok (.iinc 7 1, 3) := by decide +kernel
theorem dX8_sums_35 : decode cX8_sums 35 = .ok (.goto (-29), 3) := by decide +kernel
theorem dX8_sums_38 : decode cX8_sums 38 = .ok (.lload 5, 2) := by decide +kernel
theorem dX8_sums_40 : decode cX8_sums 40 = .ok (.lreturn, 1) := by decide +kernel
set_option maxRecDepth 20000 in
theorem ggX8_digest_X8_counted : GoodIn wsX8_digest wsX8_counted := goodIn_r _ [10, 3, 11, 12, 13, 14, 9, 15, 16, 17, 18, 19, 20, 21, 22, 23, 24, 29, 30, 31, 32, 33, 34, 35, 36, 37, 38, 39, 40, 41, 42, 43, 44, 45, 46, 47] (by decide +kernel) (by decide +kernel)
set_option maxRecDepth 20000 in
theorem gX8_digest_X8_counted : GoodIn wsX8_digest (wsV RX8 277 RX8 yX8_counted wsX8_counted) := goodIn_app (goodIn_of _ (by decide +kernel)) ggX8_digest_X8_counted
set_option maxRecDepth 20000 in
theorem ggX8_digest_X8_many : GoodIn wsX8_digest wsX8_many := goodIn_r _ [15, 3, 29, 30, 31, 32, 33, 34, 35, 36, 37, 38, 39, 40, 41, 42, 43, 44, 45, 46, 47] (by decide +kernel) (by decide +kernel)
set_option maxRecDepth 20000 in
theorem gX8_digest_X8_many : GoodIn wsX8_digest (wsV RX8 55 RX8 yX8_many wsX8_many) := goodIn_app (goodIn_of _ (by decide +kernel)) ggX8_digest_X8_many
set_option maxRecDepth 20000 in
theorem ggX8_digest_X8_sums : GoodIn wsX8_digest wsX8_sums := goodIn_r _ [28, 2, 3, 29, 30, 31, 32, 33, 34, 35, 36, 37, 38, 39, 40, 41, 42, 43, 44, 45, 46, 47] (by decide +kernel) (by decide +kernel)
set_option maxRecDepth 20000 in
theorem gX8_digest_X8_sums : GoodIn wsX8_digest (wsV RX8 284 RX8 yX8_sums wsX8_sums) := goodIn_app (goodIn_of _ (by decide +kernel)) ggX8_digest_X8_sums
theorem dX8_digest_0 : decode cX8_digest 0 = .ok (.ldc2_w 282, 3) := by decide +kernel
theorem dX8_digest_3 : decode cX8_digest 3 = .ok (.lstore_n 1, 1) := by decide +kernel
theorem dX8_digest_4 : decode cX8_digest 4 = .ok (.iconst 0, 1) := by decide +kernel
theorem dX8_digest_5 : decode cX8_digest 5 = .ok (.istore_n 3, 1) := by decide +kernel
theorem dX8_digest_6 : decode cX8_digest 6 = .ok (.iload_n 3, 1) := by decide +kernel
theorem dX8_digest_7 : decode cX8_digest 7 = .ok (.bipush 10, 2) := by decide +kernel
theorem dX8_digest_9 : decode cX8_digest 9 = .ok (.if_icmp .ge 22, 3) := by decide +kernel
theorem dX8_digest_12 : decode cX8_digest 12 = .ok (.ldc2_w 280, 3) := by decide +kernel
theorem dX8_digest_15 : decode cX8_digest 15 = .ok (.lload_n 1, 1) := by decide +kernel
theorem dX8_digest_16 : decode cX8_digest 16 = .ok (.lmul, 1) := by decide +kernel
theorem dX8_digest_17 : decode cX8_digest 17 = .ok (.aload_n 0, 1) := by decide +kernel
theorem dX8_digest_18 : decode cX8_digest 18 = .ok (.iload_n 3, 1) := by decide +kernel
theorem dX8_digest_19 : decode cX8_digest 19 = .ok (.invokevirtual 277, 3) := by decide +kernel
theorem dX8_digest_22 : decode cX8_digest 22 = .ok (.i2l, 1) := by decide +kernel
theorem dX8_digest_23 : decode cX8_digest 23 = .ok (.ladd, 1) := by decide +kernel
theorem dX8_digest_24 : decode cX8_digest 24 = .ok (.lstore_n 1, 1) := by decide +kernel
theorem dX8_digest_25 : decode cX8_digest 25 = .ok (.iinc 3 1, 3) := by decide +kernel
theorem dX8_digest_28 : decode cX8_digest 28 = .ok (.goto (-22), 3) := by decide +kernel
theorem dX8_digest_31 : decode cX8_digest 31 = .ok (.iconst 0, 1) := by decide +kernel
theorem dX8_digest_32 : decode cX8_digest 32 = .ok (.istore_n 3, 1) := by decide +kernel
theorem dX8_digest_33 : decode cX8_digest 33 = .ok (.iload_n 3, 1) := by decide +kernel
theorem dX8_digest_34 : decode cX8_digest 34 = .ok (.aload_n 0, 1) := by decide +kernel
theorem dX8_digest_35 : decode cX8_digest 35 = .ok (.getfield 7, 3) := by decide +kernel
theorem dX8_digest_38 : decode cX8_digest 38 = .ok (.iconst 1, 1) := by decide +kernel
theorem dX8_digest_39 : decode cX8_digest 39 = .ok (.iaload, 1) := by decide +kernel
theorem dX8_digest_40 : decode cX8_digest 40 = .ok (.if_icmp .ge 41, 3) := by decide +kernel
theorem dX8_digest_43 : decode cX8_digest 43 = .ok (.ldc2_w 280, 3) := by decide +kernel
theorem dX8_digest_46 : decode cX8_digest 46 = .ok (.ldc2_w 280, 3) := by decide +kernel
theorem dX8_digest_49 : decode cX8_digest 49 = .ok (.lload_n 1, 1) := by decide +kernel
theorem dX8_digest_50 : decode cX8_digest 50 = .ok (.lmul, 1) := by decide +kernel
theorem dX8_digest_51 : decode cX8_digest 51 = .ok (.aload_n 0, 1) := by decide +kernel
theorem dX8_digest_52 : decode cX8_digest 52 = .ok (.getfield 7, 3) := by decide +kernel
theorem dX8_digest_55 : decode cX8_digest 55 = .ok (.bipush 17, 2) := by decide +kernel
theorem dX8_digest_57 : decode cX8_digest 57 = .ok (.iload_n 3, 1) := by decide +kernel
theorem dX8_digest_58 : decode cX8_digest 58 = .ok (.iadd, 1) := by decide +kernel
theorem dX8_digest_59 : decode cX8_digest 59 = .ok (.iaload, 1) := by decide +kernel
theorem dX8_digest_60 : decode cX8_digest 60 = .ok (.i2l, 1) := by decide +kernel
theorem dX8_digest_61 : decode cX8_digest 61 = .ok (.ladd, 1) := by decide +kernel
theorem dX8_digest_62 : decode cX8_digest 62 = .ok (.lmul, 1) := by decide +kernel
theorem dX8_digest_63 : decode cX8_digest 63 = .ok (.aload_n 0, 1) := by decide +kernel
theorem dX8_digest_64 : decode cX8_digest 64 = .ok (.getfield 7, 3) := by decide +kernel
theorem dX8_digest_67 : decode cX8_digest 67 = .ok (.bipush 14, 2) := by decide +kernel
theorem dX8_digest_69 : decode cX8_digest 69 = .ok (.iload_n 3, 1) := by decide +kernel
theorem dX8_digest_70 : decode cX8_digest 70 = .ok (.iadd, 1) := by decide +kernel
theorem dX8_digest_71 : decode cX8_digest 71 = .ok (.iaload, 1) := by decide +kernel
theorem dX8_digest_72 : decode cX8_digest 72 = .ok (.i2l, 1) := by decide +kernel
theorem dX8_digest_73 : decode cX8_digest 73 = .ok (.ladd, 1) := by decide +kernel
theorem dX8_digest_74 : decode cX8_digest 74 = .ok (.lstore_n 1, 1) := by decide +kernel
theorem dX8_digest_75 : decode cX8_digest 75 = .ok (.iinc 3 1, 3) := by decide +kernel
theorem dX8_digest_78 : decode cX8_digest 78 = .ok (.goto (-45), 3) := by decide +kernel
theorem dX8_digest_81 : decode cX8_digest 81 = .ok (.iconst 0, 1) := by decide +kernel
theorem dX8_digest_82 : decode cX8_digest 82 = .ok (.istore_n 3, 1) := by decide +kernel
theorem dX8_digest_83 : decode cX8_digest 83 = .ok (.iload_n 3, 1) := by decide +kernel
theorem dX8_digest_84 : decode cX8_digest 84 = .ok (.aload_n 0, 1) := by decide +kernel
theorem dX8_digest_85 : decode cX8_digest 85 = .ok (.invokevirtual 55, 3) := by decide +kernel
theorem dX8_digest_88 : decode cX8_digest 88 = .ok (.if_icmp .ge 58, 3) := by decide +kernel
theorem dX8_digest_91 : decode cX8_digest 91 = .ok (.ldc2_w 280, 3) := by decide +kernel
theorem dX8_digest_94 : decode cX8_digest 94 = .ok (.ldc2_w 280, 3) := by decide +kernel
theorem dX8_digest_97 : decode cX8_digest 97 = .ok (.ldc2_w 280, 3) := by decide +kernel
theorem dX8_digest_100 : decode cX8_digest 100 = .ok (.lload_n 1, 1) := by decide +kernel
theorem dX8_digest_101 : decode cX8_digest 101 = .ok (.lmul, 1) := by decide +kernel
theorem dX8_digest_102 : decode cX8_digest 102 = .ok (.aload_n 0, 1) := by decide +kernel
theorem dX8_digest_103 : decode cX8_digest 103 = .ok (.getfield 7, 3) := by decide +kernel
theorem dX8_digest_106 : decode cX8_digest 106 = .ok (.bipush 20, 2) := by decide +kernel
theorem dX8_digest_108 : decode cX8_digest 108 = .ok (.iload_n 3, 1) := by decide +kernel
theorem dX8_digest_109 : decode cX8_digest 109 = .ok (.iadd, 1) := by decide +kernel
theorem dX8_digest_110 : decode cX8_digest 110 = .ok (.iaload, 1) := by decide +kernel
theorem dX8_digest_111 : decode cX8_digest 111 = .ok (.i2l, 1) := by decide +kernel
theorem dX8_digest_112 : decode cX8_digest 112 = .ok (.ladd, 1) := by decide +kernel
theorem dX8_digest_113 : decode cX8_digest 113 = .ok (.lmul, 1) := by decide +kernel
theorem dX8_digest_114 : decode cX8_digest 114 = .ok (.aload_n 0, 1) := by decide +kernel
theorem dX8_digest_115 : decode cX8_digest 115 = .ok (.getfield 7, 3) := by decide +kernel
theorem dX8_digest_118 : decode cX8_digest 118 = .ok (.bipush 28, 2) := by decide +kernel
theorem dX8_digest_120 : decode cX8_digest 120 = .ok (.iload_n 3, 1) := by decide +kernel
theorem dX8_digest_121 : decode cX8_digest 121 = .ok (.iadd, 1) := by decide +kernel
theorem dX8_digest_122 : decode cX8_digest 122 = .ok (.iaload, 1) := by decide +kernel
theorem dX8_digest_123 : decode cX8_digest 123 = .ok (.i2l, 1) := by decide +kernel
theorem dX8_digest_124 : decode cX8_digest 124 = .ok (.ladd, 1) := by decide +kernel
theorem dX8_digest_125 : decode cX8_digest 125 = .ok (.lmul, 1) := by decide +kernel
theorem dX8_digest_126 : decode cX8_digest 126 = .ok (.aload_n 0, 1) := by decide +kernel
theorem dX8_digest_127 : decode cX8_digest 127 = .ok (.getfield 7, 3) := by decide +kernel
theorem dX8_digest_130 : decode cX8_digest 130 = .ok (.bipush 6, 2) := by decide +kernel
theorem dX8_digest_132 : decode cX8_digest 132 = .ok (.iload_n 3, 1) := by decide +kernel
theorem dX8_digest_133 : decode cX8_digest 133 = .ok (.iadd, 1) := by decide +kernel
theorem dX8_digest_134 : decode cX8_digest 134 = .ok (.iaload, 1) := by decide +kernel
theorem dX8_digest_135 : decode cX8_digest 135 = .ok (.i2l, 1) := by decide +kernel
theorem dX8_digest_136 : decode cX8_digest 136 = .ok (.ladd, 1) := by decide +kernel
theorem dX8_digest_137 : decode cX8_digest 137 = .ok (.lconst 1, 1) := by decide +kernel
theorem dX8_digest_138 : decode cX8_digest 138 = .ok (.lsub, 1) := by decide +kernel
theorem dX8_digest_139 : decode cX8_digest 139 = .ok (.lstore_n 1, 1) := by decide +kernel
theorem dX8_digest_140 : decode cX8_digest 140 = .ok (.iinc 3 1, 3) := by decide +kernel
theorem dX8_digest_143 : decode cX8_digest 143 = .ok (.goto (-60), 3) := by decide +kernel
theorem dX8_digest_146 : decode cX8_digest 146 = .ok (.aload_n 0, 1) := by decide +kernel
theorem dX8_digest_147 : decode cX8_digest 147 = .ok (.lload_n 1, 1) := by decide +kernel
theorem dX8_digest_148 : decode cX8_digest 148 = .ok (.bipush 36, 2) := by decide +kernel
theorem dX8_digest_150 : decode cX8_digest 150 = .ok (.iconst 4, 1) := by decide +kernel
theorem dX8_digest_151 : decode cX8_digest 151 = .ok (.aload_n 0, 1) := by decide +kernel
theorem dX8_digest_152 : decode cX8_digest 152 = .ok (.getfield 7, 3) := by decide +kernel
theorem dX8_digest_155 : decode cX8_digest 155 = .ok (.iconst 2, 1) := by decide +kernel
theorem dX8_digest_156 : decode cX8_digest 156 = .ok (.iaload, 1) := by decide +kernel
theorem dX8_digest_157 : decode cX8_digest 157 = .ok (.imul, 1) := by decide +kernel
theorem dX8_digest_158 : decode cX8_digest 158 = .ok (.invokevirtual 284, 3) := by decide +kernel
theorem dX8_digest_161 : decode cX8_digest 161 = .ok (.lstore_n 1, 1) := by decide +kernel
theorem dX8_digest_162 : decode cX8_digest 162 = .ok (.aload_n 0, 1) := by decide +kernel
theorem dX8_digest_163 : decode cX8_digest 163 = .ok (.lload_n 1, 1) := by decide +kernel
theorem dX8_digest_164 : decode cX8_digest 164 = .ok (.bipush 56, 2) := by decide +kernel
theorem dX8_digest_166 : decode cX8_digest 166 = .ok (.iconst 4, 1) := by decide +kernel
theorem dX8_digest_167 : decode cX8_digest 167 = .ok (.aload_n 0, 1) := by decide +kernel
theorem dX8_digest_168 : decode cX8_digest 168 = .ok (.getfield 7, 3) := by decide +kernel
theorem dX8_digest_171 : decode cX8_digest 171 = .ok (.iconst 3, 1) := by decide +kernel
theorem dX8_digest_172 : decode cX8_digest 172 = .ok (.iaload, 1) := by decide +kernel
theorem dX8_digest_173 : decode cX8_digest 173 = .ok (.imul, 1) := by decide +kernel
theorem dX8_digest_174 : decode cX8_digest 174 = .ok (.invokevirtual 284, 3) := by decide +kernel
theorem dX8_digest_177 : decode cX8_digest 177 = .ok (.lstore_n 1, 1) := by decide +kernel
theorem dX8_digest_178 : decode cX8_digest 178 = .ok (.aload_n 0, 1) := by decide +kernel
theorem dX8_digest_179 : decode cX8_digest 179 = .ok (.lload_n 1, 1) := by decide +kernel
theorem dX8_digest_180 : decode cX8_digest 180 = .ok (.bipush 80, 2) := by decide +kernel
theorem dX8_digest_182 : decode cX8_digest 182 = .ok (.iconst 4, 1) := by decide +kernel
theorem dX8_digest_183 : decode cX8_digest 183 = .ok (.aload_n 0, 1) := by decide +kernel
theorem dX8_digest_184 : decode cX8_digest 184 = .ok (.getfield 7, 3) := by decide +kernel
theorem dX8_digest_187 : decode cX8_digest 187 = .ok (.iconst 4, 1) := by decide +kernel
theorem dX8_digest_188 : decode cX8_digest 188 = .ok (.iaload, 1) := by decide +kernel
theorem dX8_digest_189 : decode cX8_digest 189 = .ok (.imul, 1) := by decide +kernel
theorem dX8_digest_190 : decode cX8_digest 190 = .ok (.invokevirtual 284, 3) := by decide +kernel
theorem dX8_digest_193 : decode cX8_digest 193 = .ok (.lstore_n 1, 1) := by decide +kernel
theorem dX8_digest_194 : decode cX8_digest 194 = .ok (.ldc2_w 280, 3) := by decide +kernel
theorem dX8_digest_197 : decode cX8_digest 197 = .ok (.ldc2_w 280, 3) := by decide +kernel
theorem dX8_digest_200 : decode cX8_digest 200 = .ok (.lload_n 1, 1) := by decide +kernel
theorem dX8_digest_201 : decode cX8_digest 201 = .ok (.lmul, 1) := by decide +kernel
theorem dX8_digest_202 : decode cX8_digest 202 = .ok (.aload_n 0, 1) := by decide +kernel
theorem dX8_digest_203 : decode cX8_digest 203 = .ok (.getfield 191, 3) := by decide +kernel
theorem dX8_digest_206 : decode cX8_digest 206 = .ok (.ladd, 1) := by decide +kernel
theorem dX8_digest_207 : decode cX8_digest 207 = .ok (.lmul, 1) := by decide +kernel
theorem dX8_digest_208 : decode cX8_digest 208 = .ok (.aload_n 0, 1) := by decide +kernel
theorem dX8_digest_209 : decode cX8_digest 209 = .ok (.getfield 23, 3) := by decide +kernel
theorem dX8_digest_212 : decode cX8_digest 212 = .ok (.ladd, 1) := by decide +kernel
theorem dX8_digest_213 : decode cX8_digest 213 = .ok (.lreturn, 1) := by decide +kernel
