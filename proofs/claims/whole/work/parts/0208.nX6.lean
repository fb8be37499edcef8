theorem dX6_init_0 : decode cX6_init 0 = .ok (.aload_n 0, 1) := by decide +kernel
theorem dX6_init_1 : decode cX6_init 1 = .ok (.invokespecial 3, 3) := by decide +kernel
theorem dX6_init_4 : decode cX6_init 4 = .ok (.aload_n 0, 1) := by decide +kernel
theorem dX6_init_5 : decode cX6_init 5 = .ok (.sipush 150, 3) := by decide +kernel
theorem dX6_init_8 : decode cX6_init 8 = .ok (.newarray .byte, 2) := by decide +kernel
theorem dX6_init_10 : decode cX6_init 10 = .ok (.putfield 9, 3) := by decide +kernel
theorem dX6_init_13 : decode cX6_init 13 = .ok (.aload_n 0, 1) := by decide +kernel
theorem dX6_init_14 : decode cX6_init 14 = .ok (.iconst 0, 1) := by decide +kernel
theorem dX6_init_15 : decode cX6_init 15 = .ok (.putfield 15, 3) := by decide +kernel
theorem dX6_init_18 : decode cX6_init 18 = .ok (.aload_n 0, 1) := by decide +kernel
theorem dX6_init_19 : decode cX6_init 19 = .ok (.iconst 0, 1) := by decide +kernel
theorem dX6_init_20 : decode cX6_init 20 = .ok (.putfield 19, 3) := by decide +kernel
theorem dX6_init_23 : decode cX6_init 23 = .ok (.aload_n 0, 1) := by decide +kernel
theorem dX6_init_24 : decode cX6_init 24 = .ok (.iconst 0, 1) := by decide +kernel
theorem dX6_init_25 : decode cX6_init 25 = .ok (.putfield 22, 3) := by decide +kernel
theorem dX6_init_28 : decode cX6_init 28 = .ok (.aload_n 0, 1) := by decide +kernel
theorem dX6_init_29 : decode cX6_init 29 = .ok (.iconst 0, 1) := by decide +kernel
theorem dX6_init_30 : decode cX6_init 30 = .ok (.putfield 25, 3) := by decide +kernel
theorem dX6_init_33 : decode cX6_init 33 = .ok (.aload_n 0, 1) := by decide +kernel
theorem dX6_init_34 : decode cX6_init 34 = .ok (.iconst 0, 1) := by decide +kernel
theorem dX6_init_35 : decode cX6_init 35 = .ok (.putfield 28, 3) := by decide +kernel
theorem dX6_init_38 : decode cX6_init 38 = .ok (.return_, 1) := by decide +kernel
theorem dX6_size_0 : decode cX6_size 0 = .ok (.aload_n 0, 1) := by decide +kernel
theorem dX6_size_1 : decode cX6_size 1 = .ok (.getfield 15, 3) := by decide +kernel
theorem dX6_size_4 : decode cX6_size 4 = .ok (.ireturn, 1) := by decide +kernel
theorem dX6_append_0 : decode cX6_append 0 = .ok (.aload_n 0, 1) := by decide +kernel
theorem dX6_append_1 : decode cX6_append 1 = .ok (.getfield 15, 3) := by decide +kernel
theorem dX6_append_4 : decode cX6_append 4 = .ok (.sipush 150, 3) := by decide +kernel
theorem dX6_append_7 : decode cX6_append 7 = .ok (.if_icmp .ge 24, 3) := by decide +kernel
theorem dX6_append_10 : decode cX6_append 10 = .ok (.aload_n 0, 1) := by decide +kernel
theorem dX6_append_11 : decode cX6_append 11 = .ok (.getfield 9, 3) := by decide +kernel
theorem dX6_append_14 : decode cX6_append 14 = .ok (.aload_n 0, 1) := by decide +kernel
theorem dX6_append_15 : decode cX6_append 15 = .ok (.getfield 15, 3) := by decide +kernel
theorem dX6_append_18 : decode cX6_append 18 = .ok (.iload_n 1, 1) := by decide +kernel
theorem dX6_append_19 : decode cX6_append 19 = .ok (.i2b, 1) := by decide +kernel
theorem dX6_append_20 : decode cX6_append 20 = .ok (.bastore, 1) := by decide +kernel
theorem dX6_append_21 : decode cX6_append 21 = .ok (.aload_n 0, 1) := by decide +kernel
theorem dX6_append_22 : decode cX6_append 22 = .ok (.dup, 1) := by decide +kernel
theorem dX6_append_23 : decode cX6_append 23 = .ok (.getfield 15, 3) := by decide +kernel
theorem dX6_append_26 : decode cX6_append 26 = .ok (.iconst 1, 1) := by decide +kernel
theorem dX6_append_27 : decode cX6_append 27 = .ok (.iadd, 1) := by decide +kernel
theorem dX6_append_28 : decode cX6_append 28 = .ok (.putfield 15, 3) := by decide +kernel
theorem dX6_append_31 : decode cX6_append 31 = .ok (.aload_n 0, 1) := by decide +kernel
theorem dX6_append_32 : decode cX6_append 32 = .ok (.getfield 15, 3) := by decide +kernel
theorem dX6_append_35 : decode cX6_append 35 = .ok (.ireturn, 1) := by decide +kernel
theorem dX6_empty_0 : decode cX6_empty 0 = .ok (.aload_n 0, 1) := by decide +kernel
theorem dX6_empty_1 : decode cX6_empty 1 = .ok (.getfield 15, 3) := by decide +kernel
theorem dX6_empty_4 : decode cX6_empty 4 = .ok (.istore_n 1, 1) := by decide +kernel
theorem dX6_empty_5 : decode cX6_empty 5 = .ok (.aload_n 0, 1) := by decide +kernel
theorem dX6_empty_6 : decode cX6_empty 6 = .ok (.iconst 0, 1) := by decide +kernel
theorem dX6_empty_7 : decode cX6_empty 7 = .ok (.putfield 15, 3) := by decide +kernel
theorem dX6_empty_10 : decode cX6_empty 10 = .ok (.iload_n 1, 1) := by decide +kernel
theorem dX6_empty_11 : decode cX6_empty 11 = .ok (.ireturn, 1) := by decide +kernel
set_option maxRecDepth 20000 in
theorem ggX6_readOnto_X4_empty : GoodIn wsX6_readOnto wsX4_empty := goodIn_r _ [8, 9, 10, 11, 12, 13, 14, 15, 16, 17, 18, 19, 20, 165, 166, 167, 168, 169, 170, 171, 172, 173, 174, 175, 176, 177, 178] (by decide +kernel) (by decide +kernel)
set_option maxRecDepth 20000 in
theorem gX6_readOnto_X4_empty : GoodIn wsX6_readOnto (wsV RX6 31 RX4 yX4_empty wsX4_empty) := goodIn_app (goodIn_of _ (by decide +kernel)) ggX6_readOnto_X4_empty
set_option maxRecDepth 20000 in
theorem ggX6_readOnto_X6_nextToken : GoodIn wsX6_readOnto wsX6_nextToken := goodIn_r _ [25, 1, 3, 26, 2, 27, 28, 29, 24, 30, 31, 32, 33, 34, 35, 36, 159, 160, 161, 162, 163, 164] (by decide +kernel) (by decide +kernel)
set_option maxRecDepth 20000 in
theorem gX6_readOnto_X6_nextToken : GoodIn wsX6_readOnto (wsV RX6 36 RX6 yX6_nextToken wsX6_nextToken) := goodIn_app (goodIn_of _ (by decide +kernel)) ggX6_readOnto_X6_nextToken
set_option maxRecDepth 20000 in
theorem ggX6_readOnto_X6_readItem : GoodIn wsX6_readOnto wsX6_readItem := goodIn_r _ [40, 2, 41, 42, 43, 24, 44, 1, 3, 26, 31, 45, 46, 47, 48, 49, 50, 51, 52, 53, 54, 55, 56, 57, 58, 59, 60, 61, 62, 63, 64, 65, 66, 67, 68, 69, 70, 71, 72, 73, 74, 75, 76, 77, 78, 79, 80, 81, 82, 83, 84, 85, 86, 87, 88, 89, 90, 91, 92, 93, 94, 95, 96, 97, 98, 99, 100, 101, 102, 36, 21, 22, 23, 25, 27, 28, 29, 30, 32, 33, 34, 35, 103, 104, 105, 7, 106, 9, 107, 108, 14, 15, 16, 17, 18, 19, 20, 109, 110, 111, 112, 113, 114, 115, 116, 117, 118, 119, 120, 121, 10, 122, 123, 124, 125, 126, 127, 128, 129, 130, 131, 132, 133, 134, 135, 136, 137, 138, 139, 140, 141, 142, 143, 144, 145, 146, 147, 148, 149, 150, 151, 152, 153, 154, 155, 156, 157, 158, 159, 160, 161, 162, 163, 164, 165, 166, 167, 168, 169, 170, 171, 172, 173, 174, 175, 176, 177, 178] (by decide +kernel) (by decide +kernel)
set_option maxRecDepth 20000 in
theorem gX6_readOnto_X6_readItem : GoodIn wsX6_readOnto (wsV RX6 39 RX6 yX6_readItem wsX6_readItem) := goodIn_app (goodIn_of _ (by decide +kernel)) ggX6_readOnto_X6_readItem
theorem dX6_readOnto_0 : decode cX6_readOnto 0 = .ok (.aload_n 1, 1) := by decide +kernel
theorem dX6_readOnto_1 : decode cX6_readOnto 1 = .ok (.invokevirtual 31, 3) := by decide +kernel
theorem dX6_readOnto_4 : decode cX6_readOnto 4 = .ok (.aload_n 0, 1) := by decide +kernel
theorem dX6_readOnto_5 : decode cX6_readOnto 5 = .ok (.iconst 0, 1) := by decide +kernel
theorem dX6_readOnto_6 : decode cX6_readOnto 6 = .ok (.putfield 25, 3) := by decide +kernel
theorem dX6_readOnto_9 : decode cX6_readOnto 9 = .ok (.iconst 0, 1) := by decide +kernel
theorem dX6_readOnto_10 : decode cX6_readOnto 10 = .ok (.istore_n 2, 1) := by decide +kernel
theorem dX6_readOnto_11 : decode cX6_readOnto 11 = .ok (.iload_n 2, 1) := by decide +kernel
theorem dX6_readOnto_12 : decode cX6_readOnto 12 = .ok (.sipush 150, 3) := by decide +kernel
theorem dX6_readOnto_15 : decode cX6_readOnto 15 = .ok (.if_icmp .gt 46, 3) := by decide +kernel
theorem dX6_readOnto_18 : decode cX6_readOnto 18 = .ok (.aload_n 0, 1) := by decide +kernel
theorem dX6_readOnto_19 : decode cX6_readOnto 19 = .ok (.invokevirtual 36, 3) := by decide +kernel
theorem dX6_readOnto_22 : decode cX6_readOnto 22 = .ok (.aload_n 0, 1) := by decide +kernel
theorem dX6_readOnto_23 : decode cX6_readOnto 23 = .ok (.getfield 19, 3) := by decide +kernel
theorem dX6_readOnto_26 : decode cX6_readOnto 26 = .ok (.ifCond .ne 9, 3) := by decide +kernel
theorem dX6_readOnto_29 : decode cX6_readOnto 29 = .ok (.iload_n 2, 1) := by decide +kernel
theorem dX6_readOnto_30 : decode cX6_readOnto 30 = .ok (.ifCond .le 5, 3) := by decide +kernel
theorem dX6_readOnto_33 : decode cX6_readOnto 33 = .ok (.iload_n 2, 1) := by decide +kernel
theorem dX6_readOnto_34 : decode cX6_readOnto 34 = .ok (.ireturn, 1) := by decide +kernel
theorem dX6_readOnto_35 : decode cX6_readOnto 35 = .ok (.aload_n 0, 1) := by decide +kernel
theorem dX6_readOnto_36 : decode cX6_readOnto 36 = .ok (.aload_n 1, 1) := by decide +kernel
theorem dX6_readOnto_37 : decode cX6_readOnto 37 = .ok (.iload_n 2, 1) := by decide +kernel
theorem dX6_readOnto_38 : decode cX6_readOnto 38 = .ok (.ifCond .ne 7, 3) := by decide +kernel
theorem dX6_readOnto_41 : decode cX6_readOnto 41 = .ok (.iconst 1, 1) := by decide +kernel
theorem dX6_readOnto_42 : decode cX6_readOnto 42 = .ok (.goto 4, 3) := by decide +kernel
theorem dX6_readOnto_45 : decode cX6_readOnto 45 = .ok (.iconst 0, 1) := by decide +kernel
theorem dX6_readOnto_46 : decode cX6_readOnto 46 = .ok (.invokevirtual 39, 3) := by decide +kernel
theorem dX6_readOnto_49 : decode cX6_readOnto 49 = .ok (.ifCond .ne 6, 3) := by decide +kernel
theorem dX6_readOnto_52 : decode cX6_readOnto 52 = .ok (.goto 9, 3) := by decide +kernel
theorem dX6_readOnto_55 : decode cX6_readOnto 55 = .ok (.iinc 2 1, 3) := by decide +kernel
theorem dX6_readOnto_58 : decode cX6_readOnto 58 = .ok (.goto (-47), 3) := by decide +kernel
theorem dX6_readOnto_61 : decode cX6_readOnto 61 = .ok (.bipush (-10), 2) := by decide +kernel
theorem dX6_readOnto_63 : decode cX6_readOnto 63 = .ok (.aload_n 0, 1) := by decide +kernel
theorem dX6_readOnto_64 : decode cX6_readOnto 64 = .ok (.getfield 22, 3) := by decide +kernel
theorem dX6_readOnto_67 : decode cX6_readOnto 67 = .ok (.isub, 1) := by decide +kernel
theorem dX6_readOnto_68 : decode cX6_readOnto 68 = .ok (.ireturn, 1) := by decide +kernel
set_option maxRecDepth 20000 in
theorem ggX6_readItem_X6_isWord : GoodIn wsX6_readItem wsX6_isWord := goodIn_r _ [6, 7, 8, 9, 10, 11, 12, 13, 14, 15, 16, 17, 18, 19, 20, 21, 22, 23, 24, 25, 26, 27, 28, 29, 30, 31, 32, 33, 34, 35, 36, 37, 38, 39, 40, 41, 42, 43, 44, 45, 46, 47, 48, 49, 50, 51, 52, 53, 54, 55, 56, 57, 58, 59, 148, 149, 150, 151, 152, 153] (by decide +kernel) (by decide +kernel)
set_option maxRecDepth 20000 in
theorem gX6_readItem_X6_isWord : GoodIn wsX6_readItem (wsV RX6 45 RX6 yX6_isWord wsX6_isWord) := goodIn_app (goodIn_of _ (by decide +kernel)) ggX6_readItem_X6_isWord
set_option maxRecDepth 20000 in
theorem ggX6_readItem_X6_readShip : GoodIn wsX6_readItem wsX6_readShip := goodIn_r _ [63, 64, 65, 66, 67, 5, 68, 1, 69, 70, 71, 72, 73, 7, 8, 9, 74, 75, 76, 77, 10, 78, 79, 80, 81, 82, 83, 84, 85, 86, 87, 88, 89, 90, 91, 92, 93, 94, 95, 96, 154, 155, 156, 157, 158, 159, 160, 161, 162, 163, 164, 148, 149, 150, 151, 152, 153, 165, 166, 167] (by decide +kernel) (by decide +kernel)
set_option maxRecDepth 20000 in
theorem gX6_readItem_X6_readShip : GoodIn wsX6_readItem (wsV RX6 51 RX6 yX6_readShip wsX6_readShip) := goodIn_app (goodIn_of _ (by decide +kernel)) ggX6_readItem_X6_readShip
set_option maxRecDepth 20000 in
theorem ggX6_readItem_X6_readMan : GoodIn wsX6_readItem wsX6_readMan := goodIn_r _ [100, 101, 65, 66, 67, 5, 68, 1, 69, 70, 71, 72, 73, 7, 8, 9, 74, 75, 76, 77, 10, 78, 79, 80, 81, 102, 103, 104, 85, 105, 87, 106, 107, 108, 109, 110, 111, 112, 113, 90, 91, 92, 93, 94, 95, 96, 154, 155, 156, 157, 158, 159, 160, 161, 162, 163, 164, 148, 149, 150, 151, 152, 153, 165, 166, 167] (by decide +kernel) (by decide +kernel)
set_option maxRecDepth 20000 in
theorem gX6_readItem_X6_readMan : GoodIn wsX6_readItem (wsV RX6 57 RX6 yX6_readMan wsX6_readMan) := goodIn_app (goodIn_of _ (by decide +kernel)) ggX6_readItem_X6_readMan
set_option maxRecDepth 20000 in
theorem ggX6_readItem_X6_readCall : GoodIn wsX6_readItem wsX6_readCall := goodIn_r _ [117, 64, 65, 66, 67, 5, 68, 1, 69, 70, 71, 72, 73, 7, 8, 9, 74, 75, 76, 77, 10, 78, 79, 80, 81, 102, 103, 104, 85, 105, 87, 118, 119, 120, 121, 113, 89, 122, 123, 124, 125, 126, 127, 128, 129, 110, 111, 112, 130, 131, 132, 133, 134, 154, 155, 156, 157, 158, 159, 160, 161, 162, 163, 164, 148, 149, 150, 151, 152, 153] (by decide +kernel) (by decide +kernel)
set_option maxRecDepth 20000 in
theorem gX6_readItem_X6_readCall : GoodIn wsX6_readItem (wsV RX6 62 RX6 yX6_readCall wsX6_readCall) := goodIn_app (goodIn_of _ (by decide +kernel)) ggX6_readItem_X6_readCall
set_option maxRecDepth 20000 in
theorem ggX6_readItem_X6_readBoard : GoodIn wsX6_readItem wsX6_readBoard := goodIn_r _ [138, 64, 101, 139, 65, 66, 67, 5, 68, 1, 69, 70, 71, 72, 73, 7, 8, 9, 74, 75, 76, 77, 10, 78, 79, 80, 81, 102, 103, 104, 85, 105, 87, 140, 141, 142, 143, 110, 144, 145, 146, 147, 113, 154, 155, 156, 157, 158, 159, 160, 161, 162, 163, 164, 148, 149, 150, 151, 152, 153] (by decide +kernel) (by decide +kernel)
set_option maxRecDepth 20000 in
theorem gX6_readItem_X6_readBoard : GoodIn wsX6_readItem (wsV RX6 67 RX6 yX6_readBoard wsX6_readBoard) := goodIn_app (goodIn_of _ (by decide +kernel)) ggX6_readItem_X6_readBoard
set_option maxRecDepth 20000 in
theorem ggX6_readItem_X6_nextToken : GoodIn wsX6_readItem wsX6_nextToken := goodIn_r _ [73, 7, 8, 9, 1, 74, 75, 76, 5, 77, 10, 78, 79, 80, 81, 69, 148, 149, 150, 151, 152, 153] (by decide +kernel) (by decide +kernel)
set_option maxRecDepth 20000 in
theorem gX6_readItem_X6_nextToken : GoodIn wsX6_readItem (wsV RX6 36 RX6 yX6_nextToken wsX6_nextToken) := goodIn_app (goodIn_of _ (by decide +kernel)) ggX6_readItem_X6_nextToken
theorem dX6_readItem_0 : decode cX6_readItem 0 = .ok (.aload_n 0, 1) := by decide +kernel
theorem dX6_readItem_1 : decode cX6_readItem 1 = .ok (.getfield 19, 3) := by decide +kernel
theorem dX6_readItem_4 : decode cX6_readItem 4 = .ok (.iconst 1, 1) := by decide +kernel
theorem dX6_readItem_5 : decode cX6_readItem 5 = .ok (.if_icmp .eq 5, 3) := by decide +kernel
theorem dX6_readItem_8 : decode cX6_readItem 8 = .ok (.iconst 0, 1) := by decide +kernel
theorem dX6_readItem_9 : decode cX6_readItem 9 = .ok (.ireturn, 1) := by decide +kernel
theorem dX6_readItem_10 : decode cX6_readItem 10 = .ok (.iconst 0, 1) := by decide +kernel
theorem dX6_readItem_11 : decode cX6_readItem 11 = .ok (.istore_n 3, 1) := by decide +kernel
theorem dX6_readItem_12 : decode cX6_readItem 12 = .ok (.iload_n 2, 1) := by decide +kernel
theorem dX6_readItem_13 : decode cX6_readItem 13 = .ok (.ifCond .eq 13, 3) := by decide +kernel
theorem dX6_readItem_16 : decode cX6_readItem 16 = .ok (.aload_n 0, 1) := by decide +kernel
theorem dX6_readItem_17 : decode cX6_readItem 17 = .ok (.ldc 43, 2) := by decide +kernel
theorem dX6_readItem_19 : decode cX6_readItem 19 = .ok (.invokevirtual 45, 3) := by decide +kernel
theorem dX6_readItem_22 : decode cX6_readItem 22 = .ok (.istore_n 3, 1) := by decide +kernel
theorem dX6_readItem_23 : decode cX6_readItem 23 = .ok (.goto 72, 3) := by decide +kernel
theorem dX6_readItem_26 : decode cX6_readItem 26 = .ok (.aload_n 0, 1) := by decide +kernel
theorem dX6_readItem_27 : decode cX6_readItem 27 = .ok (.ldc 49, 2) := by decide +kernel
theorem dX6_readItem_29 : decode cX6_readItem 29 = .ok (.invokevirtual 45, 3) := by decide +kernel
theorem dX6_readItem_32 : decode cX6_readItem 32 = .ok (.ifCond .eq 12, 3) := by decide +kernel
theorem dX6_readItem_35 : decode cX6_readItem 35 = .ok (.aload_n 0, 1) := by decide +kernel
theorem dX6_readItem_36 : decode cX6_readItem 36 = .ok (.aload_n 1, 1) := by decide +kernel
theorem dX6_readItem_37 : decode cX6_readItem 37 = .ok (.invokevirtual 51, 3) := by decide +kernel
theorem dX6_readItem_40 : decode cX6_readItem 40 = .ok (.istore_n 3, 1) := by decide +kernel
theorem dX6_readItem_41 : decode cX6_readItem 41 = .ok (.goto 54, 3) := by decide +kernel
theorem dX6_readItem_44 : decode cX6_readItem 44 = .ok (.aload_n 0, 1) := by decide +kernel
theorem dX6_readItem_45 : decode cX6_readItem 45 = .ok (.ldc 55, 2) := by decide +kernel
theorem dX6_readItem_47 : decode cX6_readItem 47 = .ok (.invokevirtual 45, 3) := by decide +kernel
theorem dX6_readItem_50 : decode cX6_readItem 50 = .ok (.ifCond .eq 12, 3) := by decide +kernel
theorem dX6_readItem_53 : decode cX6_readItem 53 = .ok (.aload_n 0, 1) := by decide +kernel
theorem dX6_readItem_54 : decode cX6_readItem 54 = .ok (.aload_n 1, 1) := by decide +kernel
theorem dX6_readItem_55 : decode cX6_readItem 55 = .ok (.invokevirtual 57, 3) := by decide +kernel
theorem dX6_readItem_58 : decode cX6_readItem 58 = .ok (.istore_n 3, 1) := by decide +kernel
theorem dX6_readItem_59 : decode cX6_readItem 59 = .ok (.goto 36, 3) := by decide +kernel
theorem dX6_readItem_62 : decode cX6_readItem 62 = .ok (.aload_n 0, 1) := by decide +kernel
theorem dX6_readItem_63 : decode cX6_readItem 63 = .ok (.ldc 60, 2) := by decide +kernel
theorem dX6_readItem_65 : decode cX6_readItem 65 = .ok (.invokevirtual 45, 3) := by decide +kernel
theorem dX6_readItem_68 : decode cX6_readItem 68 = .ok (.ifCond .eq 12, 3) := by decide +kernel
theorem dX6_readItem_71 : decode cX6_readItem 71 = .ok (.aload_n 0, 1) := by decide +kernel
theorem dX6_readItem_72 : decode cX6_readItem 72 = .ok (.aload_n 1, 1) := by decide +kernel
theorem dX6_readItem_73 : decode cX6_readItem 73 = .ok (.invokevirtual 62, 3) := by decide +kernel
theorem dX6_readItem_76 : decode cX6_readItem 76 = .ok (.istore_n 3, 1) := by decide +kernel
theorem dX6_readItem_77 : decode cX6_readItem 77 = .ok (.goto 18, 3) := by decide +kernel
theorem dX6_readItem_80 : decode cX6_readItem 80 = .ok (.aload_n 0, 1) := by decide +kernel
theorem dX6_readItem_81 : decode cX6_readItem 81 = .ok (.ldc 65, 2) := by decide +kernel
theorem dX6_readItem_83 : decode cX6_readItem 83 = .ok (.invokevirtual 45, 3) := by decide +kernel
theorem dX6_readItem_86 : decode cX6_readItem 86 = .ok (.ifCond .eq 9, 3) := by decide +kernel
theorem dX6_readItem_89 : decode cX6_readItem 89 = .ok (.aload_n 0, 1) := by decide +kernel
theorem dX6_readItem_90 : decode cX6_readItem 90 = .ok (.aload_n 1, 1) := by decide +kernel
theorem dX6_readItem_91 : decode cX6_readItem 91 = .ok (.invokevirtual 67, 3) := by decide +kernel
theorem dX6_readItem_94 : decode cX6_readItem 94 = .ok (.istore_n 3, 1) := by decide +kernel
theorem dX6_readItem_95 : decode cX6_readItem 95 = .ok (.iload_n 3, 1) := by decide +kernel
theorem dX6_readItem_96 : decode cX6_readItem 96 = .ok (.ifCond .ne 5, 3) := by decide +kernel
theorem dX6_readItem_99 : decode cX6_readItem 99 = .ok (.iconst 0, 1) := by decide +kernel
theorem dX6_readItem_100 : decode cX6_readItem 100 = .ok (.ireturn, 1) := by decide +kernel
theorem dX6_readItem_101 : decode cX6_readItem 101 = .ok (.aload_n 0, 1) := by decide +kernel
theorem dX6_readItem_102 : decode cX6_readItem 102 = .ok (.invokevirtual 36, 3) := by decide +kernel
theorem dX6_readItem_105 : decode cX6_readItem 105 = .ok (.aload_n 0, 1) := by decide +kernel
theorem dX6_readItem_106 : decode cX6_readItem 106 = .ok (.getfield 19, 3) := by decide +kernel
theorem dX6_readItem_109 : decode cX6_readItem 109 = .ok (.iconst 3, 1) := by decide +kernel
theorem dX6_readItem_110 : decode cX6_readItem 110 = .ok (.if_icmp .ne 7, 3) := by decide +kernel
theorem dX6_readItem_113 : decode cX6_readItem 113 = .ok (.iconst 1, 1) := by decide +kernel
theorem dX6_readItem_114 : decode cX6_readItem 114 = .ok (.goto 4, 3) := by decide +kernel
theorem dX6_readItem_117 : decode cX6_readItem 117 = .ok (.iconst 0, 1) := by decide +kernel
theorem dX6_readItem_118 : decode cX6_readItem 118 = .ok (.ireturn, 1) := by decide +kernel
set_option maxRecDepth 20000 in
theorem ggX6_readShip_X6_nextNumber : GoodIn wsX6_readShip wsX6_nextNumber := goodIn_r _ [6, 7, 8, 9, 10, 11, 5, 12, 13, 14, 15, 16, 17, 18, 19, 20, 21, 22, 23, 24, 51, 52, 53, 54, 55, 56] (by decide +kernel) (by decide +kernel)
set_option maxRecDepth 20000 in
theorem gX6_readShip_X6_nextNumber : GoodIn wsX6_readShip (wsV RX6 73 RX6 yX6_nextNumber wsX6_nextNumber) := goodIn_app (goodIn_of _ (by decide +kernel)) ggX6_readShip_X6_nextNumber
set_option maxRecDepth 20000 in
theorem ggX6_readShip_X4_addShip : GoodIn wsX6_readShip wsX4_addShip := goodIn_r _ [29, 30, 31, 32, 33, 34, 35, 36, 37, 38, 39, 40, 41, 42, 43, 44, 45, 46, 47, 48, 49, 50, 57, 58, 59] (by decide +kernel) (by decide +kernel)
set_option maxRecDepth 20000 in
theorem gX6_readShip_X4_addShip : GoodIn wsX6_readShip (wsV RX6 77 RX4 yX4_addShip wsX4_addShip) := goodIn_app (goodIn_of _ (by decide +kernel)) ggX6_readShip_X4_addShip
theorem dX6_readShip_0 : decode cX6_readShip 0 = .ok (.aload_n 1, 1) := by decide +kernel
theorem dX6_readShip_1 : decode cX6_readShip 1 = .ok (.getfield 70, 3) := by decide +kernel
theorem dX6_readShip_4 : decode cX6_readShip 4 = .ok (.iconst 3, 1) := by decide +kernel
theorem dX6_readShip_5 : decode cX6_readShip 5 = .ok (.if_icmp .lt 5, 3) := by decide +kernel
theorem dX6_readShip_8 : decode cX6_readShip 8 = .ok (.iconst 0, 1) := by decide +kernel
theorem dX6_readShip_9 : decode cX6_readShip 9 = .ok (.ireturn, 1) := by decide +kernel
theorem dX6_readShip_10 : decode cX6_readShip 10 = .ok (.aload_n 0, 1) := by decide +kernel
theorem dX6_readShip_11 : decode cX6_readShip 11 = .ok (.iconst 0, 1) := by decide +kernel
theorem dX6_readShip_12 : decode cX6_readShip 12 = .ok (.iconst 5, 1) := by decide +kernel
theorem dX6_readShip_13 : decode cX6_readShip 13 = .ok (.invokevirtual 73, 3) := by decide +kernel
theorem dX6_readShip_16 : decode cX6_readShip 16 = .ok (.istore_n 2, 1) := by decide +kernel
theorem dX6_readShip_17 : decode cX6_readShip 17 = .ok (.iload_n 2, 1) := by decide +kernel
theorem dX6_readShip_18 : decode cX6_readShip 18 = .ok (.iconst (-1), 1) := by decide +kernel
theorem dX6_readShip_19 : decode cX6_readShip 19 = .ok (.if_icmp .eq 16, 3) := by decide +kernel
theorem dX6_readShip_22 : decode cX6_readShip 22 = .ok (.aload_n 1, 1) := by decide +kernel
theorem dX6_readShip_23 : decode cX6_readShip 23 = .ok (.iload_n 2, 1) := by decide +kernel
theorem dX6_readShip_24 : decode cX6_readShip 24 = .ok (.invokevirtual 77, 3) := by decide +kernel
theorem dX6_readShip_27 : decode cX6_readShip 27 = .ok (.iconst (-1), 1) := by decide +kernel
theorem dX6_readShip_28 : decode cX6_readShip 28 = .ok (.if_icmp .eq 7, 3) := by decide +kernel
theorem dX6_readShip_31 : decode cX6_readShip 31 = .ok (.iconst 1, 1) := by decide +kernel
theorem dX6_readShip_32 : decode cX6_readShip 32 = .ok (.goto 4, 3) := by decide +kernel
theorem dX6_readShip_35 : decode cX6_readShip 35 = .ok (.iconst 0, 1) := by decide +kernel
theorem dX6_readShip_36 : decode cX6_readShip 36 = .ok (.ireturn, 1) := by decide +kernel
set_option maxRecDepth 20000 in
theorem ggX6_readMan_X6_nextNumber : GoodIn wsX6_readMan wsX6_nextNumber := goodIn_r _ [6, 7, 8, 9, 10, 11, 5, 12, 13, 14, 15, 16, 17, 18, 19, 20, 21, 22, 23, 24, 57, 58, 59, 60, 61, 62] (by decide +kernel) (by decide +kernel)
set_option maxRecDepth 20000 in
theorem gX6_readMan_X6_nextNumber : GoodIn wsX6_readMan (wsV RX6 73 RX6 yX6_nextNumber wsX6_nextNumber) := goodIn_app (goodIn_of _ (by decide +kernel)) ggX6_readMan_X6_nextNumber
set_option maxRecDepth 20000 in
theorem ggX6_readMan_X4_hasShip : GoodIn wsX6_readMan wsX4_hasShip := goodIn_r _ [29, 30, 46, 47, 48, 49, 50, 51, 52, 53, 54, 55, 56] (by decide +kernel) (by decide +kernel)
set_option maxRecDepth 20000 in
theorem gX6_readMan_X4_hasShip : GoodIn wsX6_readMan (wsV RX6 84 RX4 yX4_hasShip wsX4_hasShip) := goodIn_app (goodIn_of _ (by decide +kernel)) ggX6_readMan_X4_hasShip
set_option maxRecDepth 20000 in
theorem ggX6_readMan_X4_addMan : GoodIn wsX6_readMan wsX4_addMan := goodIn_r _ [34, 35, 36, 37, 38, 39, 40, 41, 42, 43, 44, 45, 46, 47, 48, 49, 50, 51, 52, 53, 54, 55, 56, 63, 64, 65] (by decide +kernel) (by decide +kernel)
set_option maxRecDepth 20000 in
theorem gX6_readMan_X4_addMan : GoodIn wsX6_readMan (wsV RX6 88 RX4 yX4_addMan wsX4_addMan) := goodIn_app (goodIn_of _ (by decide +kernel)) ggX6_readMan_X4_addMan
theorem dX6_readMan_0 : decode cX6_readMan 0 = .ok (.aload_n 1, 1) := by decide +kernel
theorem dX6_readMan_1 : decode cX6_readMan 1 = .ok (.getfield 81, 3) := by decide +kernel
theorem dX6_readMan_4 : decode cX6_readMan 4 = .ok (.bipush 8, 2) := by decide +kernel
theorem dX6_readMan_6 : decode cX6_readMan 6 = .ok (.if_icmp .lt 5, 3) := by decide +kernel
theorem dX6_readMan_9 : decode cX6_readMan 9 = .ok (.iconst 0, 1) := by decide +kernel
theorem dX6_readMan_10 : decode cX6_readMan 10 = .ok (.ireturn, 1) := by decide +kernel
theorem dX6_readMan_11 : decode cX6_readMan 11 = .ok (.aload_n 0, 1) := by decide +kernel
theorem dX6_readMan_12 : decode cX6_readMan 12 = .ok (.iconst 0, 1) := by decide +kernel
theorem dX6_readMan_13 : decode cX6_readMan 13 = .ok (.iconst 5, 1) := by decide +kernel
theorem dX6_readMan_14 : decode cX6_readMan 14 = .ok (.invokevirtual 73, 3) := by decide +kernel
theorem dX6_readMan_17 : decode cX6_readMan 17 = .ok (.istore_n 2, 1) := by decide +kernel
theorem dX6_readMan_18 : decode cX6_readMan 18 = .ok (.iload_n 2, 1) := by decide +kernel
theorem dX6_readMan_19 : decode cX6_readMan 19 = .ok (.iconst (-1), 1) := by decide +kernel
theorem dX6_readMan_20 : decode cX6_readMan 20 = .ok (.if_icmp .ne 5, 3) := by decide +kernel
theorem dX6_readMan_23 : decode cX6_readMan 23 = .ok (.iconst 0, 1) := by decide +kernel
theorem dX6_readMan_24 : decode cX6_readMan 24 = .ok (.ireturn, 1) := by decide +kernel
theorem dX6_readMan_25 : decode cX6_readMan 25 = .ok (.aload_n 0, 1) := by decide +kernel
theorem dX6_readMan_26 : decode cX6_readMan 26 = .ok (.iconst 1, 1) := by decide +kernel
theorem dX6_readMan_27 : decode cX6_readMan 27 = .ok (.bipush 9, 2) := by decide +kernel
theorem dX6_readMan_29 : decode cX6_readMan 29 = .ok (.invokevirtual 73, 3) := by decide +kernel
theorem dX6_readMan_32 : decode cX6_readMan 32 = .ok (.istore_n 3, 1) := by decide +kernel
theorem dX6_readMan_33 : decode cX6_readMan 33 = .ok (.iload_n 3, 1) := by decide +kernel
theorem dX6_readMan_34 : decode cX6_readMan 34 = .ok (.iconst (-1), 1) := by decide +kernel
theorem dX6_readMan_35 : decode cX6_readMan 35 = .ok (.if_icmp .ne 5, 3) := by decide +kernel
theorem dX6_readMan_38 : decode cX6_readMan 38 = .ok (.iconst 0, 1) := by decide +kernel
theorem dX6_readMan_39 : decode cX6_readMan 39 = .ok (.ireturn, 1) := by decide +kernel
theorem dX6_readMan_40 : decode cX6_readMan 40 = .ok (.aload_n 0, 1) := by decide +kernel
theorem dX6_readMan_41 : decode cX6_readMan 41 = .ok (.iconst 0, 1) := by decide +kernel
theorem dX6_readMan_42 : decode cX6_readMan 42 = .ok (.bipush 9, 2) := by decide +kernel
theorem dX6_readMan_44 : decode cX6_readMan 44 = .ok (.invokevirtual 73, 3) := by decide +kernel
theorem dX6_readMan_47 : decode cX6_readMan 47 = .ok (.istore 4, 2) := by decide +kernel
theorem dX6_readMan_49 : decode cX6_readMan 49 = .ok (.iload 4, 2) := by decide +kernel
theorem dX6_readMan_51 : decode cX6_readMan 51 = .ok (.bipush 9, 2) := by decide +kernel
theorem dX6_readMan_53 : decode cX6_readMan 53 = .ok (.if_icmp .eq 14, 3) := by decide +kernel
theorem dX6_readMan_56 : decode cX6_readMan 56 = .ok (.aload_n 1, 1) := by decide +kernel
theorem dX6_readMan_57 : decode cX6_readMan 57 = .ok (.iload 4, 2) := by decide +kernel
theorem dX6_readMan_59 : decode cX6_readMan 59 = .ok (.invokevirtual 84, 3) := by decide +kernel
theorem dX6_readMan_62 : decode cX6_readMan 62 = .ok (.ifCond .ne 5, 3) := by decide +kernel
theorem dX6_readMan_65 : decode cX6_readMan 65 = .ok (.iconst 0, 1) := by decide +kernel
theorem dX6_readMan_66 : decode cX6_readMan 66 = .ok (.ireturn, 1) := by decide +kernel
theorem dX6_readMan_67 : decode cX6_readMan 67 = .ok (.aload_n 1, 1) := by decide +kernel
theorem dX6_readMan_68 : decode cX6_readMan 68 = .ok (.iload_n 2, 1) := by decide +kernel
theorem dX6_readMan_69 : decode cX6_readMan 69 = .ok (.iload_n 3, 1) := by decide +kernel
theorem dX6_readMan_70 : decode cX6_readMan 70 = .ok (.iload 4, 2) := by decide +kernel
theorem dX6_readMan_72 : decode cX6_readMan 72 = .ok (.bipush 9, 2) := by decide +kernel
theorem dX6_readMan_74 : decode cX6_readMan 74 = .ok (.if_icmp .ne 7, 3) := by decide +kernel
theorem dX6_readMan_77 : decode cX6_readMan 77 = .ok (.iconst (-1), 1) := by decide +kernel
theorem dX6_readMan_78 : decode cX6_readMan 78 = .ok (.goto 5, 3) := by decide +kernel
theorem dX6_readMan_81 : decode cX6_readMan 81 = .ok (.iload 4, 2) := by decide +kernel
theorem dX6_readMan_83 : decode cX6_readMan 83 = .ok (.invokevirtual 88, 3) := by decide +kernel
theorem dX6_readMan_86 : decode cX6_readMan 86 = .ok (.iconst (-1), 1) := by decide +kernel
theorem dX6_readMan_87 : decode cX6_readMan 87 = .ok (.if_icmp .eq 7, 3) := by decide +kernel
theorem dX6_readMan_90 : decode cX6_readMan 90 = .ok (.iconst 1, 1) := by decide +kernel
theorem dX6_readMan_91 : decode cX6_readMan 91 = .ok (.goto 4, 3) := by decide +kernel
theorem dX6_readMan_94 : decode cX6_readMan 94 = .ok (.iconst 0, 1) := by decide +kernel
theorem dX6_readMan_95 : decode cX6_readMan 95 = .ok (.ireturn, 1) := by decide +kernel
set_option maxRecDepth 20000 in
theorem ggX6_readCall_X6_nextNumber : GoodIn wsX6_readCall wsX6_nextNumber := goodIn_r _ [6, 7, 8, 9, 10, 11, 5, 12, 13, 14, 15, 16, 17, 18, 19, 20, 21, 22, 23, 24, 64, 65, 66, 67, 68, 69] (by decide +kernel) (by decide +kernel)
set_option maxRecDepth 20000 in
theorem gX6_readCall_X6_nextNumber : GoodIn wsX6_readCall (wsV RX6 73 RX6 yX6_nextNumber wsX6_nextNumber) := goodIn_app (goodIn_of _ (by decide +kernel)) ggX6_readCall_X6_nextNumber
set_option maxRecDepth 20000 in
theorem ggX6_readCall_X4_hasShip : GoodIn wsX6_readCall wsX4_hasShip := goodIn_r _ [29, 30, 53, 54, 55, 56, 57, 58, 59, 60, 61, 62, 63] (by decide +kernel) (by decide +kernel)
set_option maxRecDepth 20000 in
theorem gX6_readCall_X4_hasShip : GoodIn wsX6_readCall (wsV RX6 84 RX4 yX4_hasShip wsX4_hasShip) := goodIn_app (goodIn_of _ (by decide +kernel)) ggX6_readCall_X4_hasShip
set_option maxRecDepth 20000 in
theorem ggX6_readCall_X4_leaveOne : GoodIn wsX6_readCall wsX4_leaveOne := goodIn_r _ [34, 35, 36, 37, 38, 39, 40, 41, 42, 43, 28, 44, 45, 46, 47, 48, 26, 27, 29, 30, 49, 50, 51, 52, 53, 54, 55, 56, 57, 58, 59, 60, 61, 62, 63] (by decide +kernel) (by decide +kernel)
set_option maxRecDepth 20000 in
theorem gX6_readCall_X4_leaveOne : GoodIn wsX6_readCall (wsV RX6 92 RX4 yX4_leaveOne wsX4_leaveOne) := goodIn_app (goodIn_of _ (by decide +kernel)) ggX6_readCall_X4_leaveOne
theorem dX6_readCall_0 : decode cX6_readCall 0 = .ok (.aload_n 0, 1) := by decide +kernel
theorem dX6_readCall_1 : decode cX6_readCall 1 = .ok (.iconst 0, 1) := by decide +kernel
theorem dX6_readCall_2 : decode cX6_readCall 2 = .ok (.aload_n 1, 1) := by decide +kernel
theorem dX6_readCall_3 : decode cX6_readCall 3 = .ok (.getfield 70, 3) := by decide +kernel
theorem dX6_readCall_6 : decode cX6_readCall 6 = .ok (.iconst 1, 1) := by decide +kernel
theorem dX6_readCall_7 : decode cX6_readCall 7 = .ok (.isub, 1) := by decide +kernel
theorem dX6_readCall_8 : decode cX6_readCall 8 = .ok (.invokevirtual 73, 3) := by decide +kernel
theorem dX6_readCall_11 : decode cX6_readCall 11 = .ok (.istore_n 2, 1) := by decide +kernel
theorem dX6_readCall_12 : decode cX6_readCall 12 = .ok (.aload_n 1, 1) := by decide +kernel
theorem dX6_readCall_13 : decode cX6_readCall 13 = .ok (.iload_n 2, 1) := by decide +kernel
theorem dX6_readCall_14 : decode cX6_readCall 14 = .ok (.invokevirtual 84, 3) := by decide +kernel
theorem dX6_readCall_17 : decode cX6_readCall 17 = .ok (.ifCond .eq 16, 3) := by decide +kernel
theorem dX6_readCall_20 : decode cX6_readCall 20 = .ok (.aload_n 1, 1) := by decide +kernel
theorem dX6_readCall_21 : decode cX6_readCall 21 = .ok (.iload_n 2, 1) := by decide +kernel
theorem dX6_readCall_22 : decode cX6_readCall 22 = .ok (.invokevirtual 92, 3) := by decide +kernel
theorem dX6_readCall_25 : decode cX6_readCall 25 = .ok (.iconst (-1), 1) := by decide +kernel
theorem dX6_readCall_26 : decode cX6_readCall 26 = .ok (.if_icmp .eq 7, 3) := by decide +kernel
theorem dX6_readCall_29 : decode cX6_readCall 29 = .ok (.iconst 1, 1) := by decide +kernel
theorem dX6_readCall_30 : decode cX6_readCall 30 = .ok (.goto 4, 3) := by decide +kernel
theorem dX6_readCall_33 : decode cX6_readCall 33 = .ok (.iconst 0, 1) := by decide +kernel
theorem dX6_readCall_34 : decode cX6_readCall 34 = .ok (.ireturn, 1) := by decide +kernel
set_option maxRecDepth 20000 in
theorem ggX6_readBoard_X6_nextNumber : GoodIn wsX6_readBoard wsX6_nextNumber := goodIn_r _ [8, 9, 10, 11, 12, 13, 7, 14, 15, 16, 17, 18, 19, 20, 21, 22, 23, 24, 25, 26, 54, 55, 56, 57, 58, 59] (by decide +kernel) (by decide +kernel)
set_option maxRecDepth 20000 in
theorem gX6_readBoard_X6_nextNumber : GoodIn wsX6_readBoard (wsV RX6 73 RX6 yX6_nextNumber wsX6_nextNumber) := goodIn_app (goodIn_of _ (by decide +kernel)) ggX6_readBoard_X6_nextNumber
set_option maxRecDepth 20000 in
theorem ggX6_readBoard_X4_hasShip : GoodIn wsX6_readBoard wsX4_hasShip := goodIn_r _ [31, 32, 43, 44, 45, 46, 47, 48, 49, 50, 51, 52, 53] (by decide +kernel) (by decide +kernel)
set_option maxRecDepth 20000 in
theorem gX6_readBoard_X4_hasShip : GoodIn wsX6_readBoard (wsV RX6 84 RX4 yX4_hasShip wsX4_hasShip) := goodIn_app (goodIn_of _ (by decide +kernel)) ggX6_readBoard_X4_hasShip
set_option maxRecDepth 20000 in
theorem ggX6_readBoard_X4_hasMan : GoodIn wsX6_readBoard wsX4_hasMan := goodIn_r _ [36, 37, 43, 44, 45, 46, 47, 48, 49, 50, 51, 52, 53] (by decide +kernel) (by decide +kernel)
set_option maxRecDepth 20000 in
theorem gX6_readBoard_X4_hasMan : GoodIn wsX6_readBoard (wsV RX6 95 RX4 yX4_hasMan wsX4_hasMan) := goodIn_app (goodIn_of _ (by decide +kernel)) ggX6_readBoard_X4_hasMan
set_option maxRecDepth 20000 in
theorem ggX6_readBoard_X4_takeAboard : GoodIn wsX6_readBoard wsX4_takeAboard := goodIn_r _ [41, 42, 43, 44, 45, 46, 47, 48, 49, 50, 51, 52, 53] (by decide +kernel) (by decide +kernel)
set_option maxRecDepth 20000 in
theorem gX6_readBoard_X4_takeAboard : GoodIn wsX6_readBoard (wsV RX6 102 RX4 yX4_takeAboard wsX4_takeAboard) := goodIn_app (goodIn_of _ (by decide +kernel)) ggX6_readBoard_X4_takeAboard
theorem dX6_readBoard_0 : decode cX6_readBoard 0 = .ok (.aload_n 0, 1) := by decide +kernel
theorem dX6_readBoard_1 : decode cX6_readBoard 1 = .ok (.iconst 0, 1) := by decide +kernel
theorem dX6_readBoard_2 : decode cX6_readBoard 2 = .ok (.aload_n 1, 1) := by decide +kernel
theorem dX6_readBoard_3 : decode cX6_readBoard 3 = .ok (.getfield 70, 3) := by decide +kernel
theorem dX6_readBoard_6 : decode cX6_readBoard 6 = .ok (.iconst 1, 1) := by decide +kernel
theorem dX6_readBoard_7 : decode cX6_readBoard 7 = .ok (.isub, 1) := by decide +kernel
theorem dX6_readBoard_8 : decode cX6_readBoard 8 = .ok (.invokevirtual 73, 3) := by decide +kernel
theorem dX6_readBoard_11 : decode cX6_readBoard 11 = .ok (.istore_n 2, 1) := by decide +kernel
theorem dX6_readBoard_12 : decode cX6_readBoard 12 = .ok (.aload_n 1, 1) := by decide +kernel
theorem dX6_readBoard_13 : decode cX6_readBoard 13 = .ok (.iload_n 2, 1) := by decide +kernel
theorem dX6_readBoard_14 : decode cX6_readBoard 14 = .ok (.invokevirtual 84, 3) := by decide +kernel
theorem dX6_readBoard_17 : decode cX6_readBoard 17 = .ok (.ifCond .ne 5, 3) := by decide +kernel
theorem dX6_readBoard_20 : decode cX6_readBoard 20 = .ok (.iconst 0, 1) := by decide +kernel
theorem dX6_readBoard_21 : decode cX6_readBoard 21 = .ok (.ireturn, 1) := by decide +kernel
theorem dX6_readBoard_22 : decode cX6_readBoard 22 = .ok (.aload_n 0, 1) := by decide +kernel
theorem dX6_readBoard_23 : decode cX6_readBoard 23 = .ok (.iconst 0, 1) := by decide +kernel
theorem dX6_readBoard_24 : decode cX6_readBoard 24 = .ok (.aload_n 1, 1) := by decide +kernel
theorem dX6_readBoard_25 : decode cX6_readBoard 25 = .ok (.getfield 81, 3) := by decide +kernel
theorem dX6_readBoard_28 : decode cX6_readBoard 28 = .ok (.iconst 1, 1) := by decide +kernel
theorem dX6_readBoard_29 : decode cX6_readBoard 29 = .ok (.isub, 1) := by decide +kernel
theorem dX6_readBoard_30 : decode cX6_readBoard 30 = .ok (.invokevirtual 73, 3) := by decide +kernel
theorem dX6_readBoard_33 : decode cX6_readBoard 33 = .ok (.istore_n 3, 1) := by decide +kernel
theorem dX6_readBoard_34 : decode cX6_readBoard 34 = .ok (.aload_n 1, 1) := by decide +kernel
theorem dX6_readBoard_35 : decode cX6_readBoard 35 = .ok (.iload_n 3, 1) := by decide +kernel
theorem dX6_readBoard_36 : decode cX6_readBoard 36 = .ok (.invokevirtual 95, 3) := by decide +kernel
theorem dX6_readBoard_39 : decode cX6_readBoard 39 = .ok (.ifCond .eq 13, 3) := by decide +kernel
theorem dX6_readBoard_42 : decode cX6_readBoard 42 = .ok (.aload_n 1, 1) := by decide +kernel
theorem dX6_readBoard_43 : decode cX6_readBoard 43 = .ok (.getfield 98, 3) := by decide +kernel
theorem dX6_readBoard_46 : decode cX6_readBoard 46 = .ok (.iload_n 3, 1) := by decide +kernel
theorem dX6_readBoard_47 : decode cX6_readBoard 47 = .ok (.iaload, 1) := by decide +kernel
theorem dX6_readBoard_48 : decode cX6_readBoard 48 = .ok (.iconst (-1), 1) := by decide +kernel
theorem dX6_readBoard_49 : decode cX6_readBoard 49 = .ok (.if_icmp .eq 5, 3) := by decide +kernel
theorem dX6_readBoard_52 : decode cX6_readBoard 52 = .ok (.iconst 0, 1) := by decide +kernel
theorem dX6_readBoard_53 : decode cX6_readBoard 53 = .ok (.ireturn, 1) := by decide +kernel
theorem dX6_readBoard_54 : decode cX6_readBoard 54 = .ok (.aload_n 1, 1) := by decide +kernel
theorem dX6_readBoard_55 : decode cX6_readBoard 55 = .ok (.iload_n 2, 1) := by decide +kernel
theorem dX6_readBoard_56 : decode cX6_readBoard 56 = .ok (.iload_n 3, 1) := by decide +kernel
theorem dX6_readBoard_57 : decode cX6_readBoard 57 = .ok (.invokevirtual 102, 3) := by decide +kernel
theorem dX6_readBoard_60 : decode cX6_readBoard 60 = .ok (.iconst 1, 1) := by decide +kernel
theorem dX6_readBoard_61 : decode cX6_readBoard 61 = .ok (.ireturn, 1) := by decide +kernel
set_option maxRecDepth 20000 in
theorem ggX6_nextNumber_X6_nextToken : GoodIn wsX6_nextNumber wsX6_nextToken := goodIn_r _ [7, 8, 9, 10, 1, 11, 12, 13, 6, 14, 15, 16, 17, 18, 19, 2, 20, 21, 22, 23, 24, 25] (by decide +kernel) (by decide +kernel)
set_option maxRecDepth 20000 in
theorem gX6_nextNumber_X6_nextToken : GoodIn wsX6_nextNumber (wsV RX6 36 RX6 yX6_nextToken wsX6_nextToken) := goodIn_app (goodIn_of _ (by decide +kernel)) ggX6_nextNumber_X6_nextToken
theorem dX6_nextNumber_0 : decode cX6_nextNumber 0 = .ok (.aload_n 0, 1) := by decide +kernel
theorem dX6_nextNumber_1 : decode cX6_nextNumber 1 = .ok (.invokevirtual 36, 3) := by decide +kernel
theorem dX6_nextNumber_4 : decode cX6_nextNumber 4 = .ok (.aload_n 0, 1) := by decide +kernel
theorem dX6_nextNumber_5 : decode cX6_nextNumber 5 = .ok (.getfield 19, 3) := by decide +kernel
theorem dX6_nextNumber_8 : decode cX6_nextNumber 8 = .ok (.iconst 2, 1) := by decide +kernel
theorem dX6_nextNumber_9 : decode cX6_nextNumber 9 = .ok (.if_icmp .ne 26, 3) := by decide +kernel
theorem dX6_nextNumber_12 : decode cX6_nextNumber 12 = .ok (.aload_n 0, 1) := by decide +kernel
theorem dX6_nextNumber_13 : decode cX6_nextNumber 13 = .ok (.getfield 28, 3) := by decide +kernel
theorem dX6_nextNumber_16 : decode cX6_nextNumber 16 = .ok (.iload_n 1, 1) := by decide +kernel
theorem dX6_nextNumber_17 : decode cX6_nextNumber 17 = .ok (.if_icmp .lt 18, 3) := by decide +kernel
theorem dX6_nextNumber_20 : decode cX6_nextNumber 20 = .ok (.aload_n 0, 1) := by decide +kernel
theorem dX6_nextNumber_21 : decode cX6_nextNumber 21 = .ok (.getfield 28, 3) := by decide +kernel
theorem dX6_nextNumber_24 : decode cX6_nextNumber 24 = .ok (.iload_n 2, 1) := by decide +kernel
theorem dX6_nextNumber_25 : decode cX6_nextNumber 25 = .ok (.if_icmp .gt 10, 3) := by decide +kernel
theorem dX6_nextNumber_28 : decode cX6_nextNumber 28 = .ok (.aload_n 0, 1) := by decide +kernel
theorem dX6_nextNumber_29 : decode cX6_nextNumber 29 = .ok (.getfield 28, 3) := by decide +kernel
theorem dX6_nextNumber_32 : decode cX6_nextNumber 32 = .ok (.goto 4, 3) := by decide +kernel
theorem dX6_nextNumber_35 : decode cX6_nextNumber 35 = .ok (.iconst (-1), 1) := by decide +kernel
theorem dX6_nextNumber_36 : decode cX6_nextNumber 36 = .ok (.ireturn, 1) := by decide +kernel
set_option maxRecDepth 20000 in
theorem ggX6_nextToken_X6_kindAt : GoodIn wsX6_nextToken wsX6_kindAt := goodIn_r _ [9, 3, 10, 16, 17, 18, 19, 20, 21] (by decide +kernel) (by decide +kernel)
set_option maxRecDepth 20000 in
theorem gX6_nextToken_X6_kindAt : GoodIn wsX6_nextToken (wsV RX6 106 RX6 yX6_kindAt wsX6_kindAt) := goodIn_app (goodIn_of _ (by decide +kernel)) ggX6_nextToken_X6_kindAt
set_option maxRecDepth 20000 in
theorem ggX6_nextToken_X6_weighFigures : GoodIn wsX6_nextToken wsX6_weighFigures := goodIn_r _ [14, 15, 2, 1, 10, 4, 16, 17, 18, 19, 20, 21] (by decide +kernel) (by decide +kernel)
set_option maxRecDepth 20000 in
theorem gX6_nextToken_X6_weighFigures : GoodIn wsX6_nextToken (wsV RX6 109 RX6 yX6_weighFigures wsX6_weighFigures) := goodIn_app (goodIn_of _ (by decide +kernel)) ggX6_nextToken_X6_weighFigures
theorem dX6_nextToken_0 : decode cX6_nextToken 0 = .ok (.aload_n 0, 1) := by decide +kernel
theorem dX6_nextToken_1 : decode cX6_nextToken 1 = .ok (.aload_n 0, 1) := by decide +kernel
theorem dX6_nextToken_2 : decode cX6_nextToken 2 = .ok (.getfield 25, 3) := by decide +kernel
theorem dX6_nextToken_5 : decode cX6_nextToken 5 = .ok (.putfield 22, 3) := by decide +kernel
theorem dX6_nextToken_8 : decode cX6_nextToken 8 = .ok (.aload_n 0, 1) := by decide +kernel
theorem dX6_nextToken_9 : decode cX6_nextToken 9 = .ok (.getfield 22, 3) := by decide +kernel
theorem dX6_nextToken_12 : decode cX6_nextToken 12 = .ok (.aload_n 0, 1) := by decide +kernel
theorem dX6_nextToken_13 : decode cX6_nextToken 13 = .ok (.getfield 15, 3) := by decide +kernel
theorem dX6_nextToken_16 : decode cX6_nextToken 16 = .ok (.if_icmp .ge 28, 3) := by decide +kernel
theorem dX6_nextToken_19 : decode cX6_nextToken 19 = .ok (.aload_n 0, 1) := by decide +kernel
theorem dX6_nextToken_20 : decode cX6_nextToken 20 = .ok (.aload_n 0, 1) := by decide +kernel
theorem dX6_nextToken_21 : decode cX6_nextToken 21 = .ok (.getfield 22, 3) := by decide +kernel
theorem dX6_nextToken_24 : decode cX6_nextToken 24 = .ok (.invokevirtual 106, 3) := by decide +kernel
theorem dX6_nextToken_27 : decode cX6_nextToken 27 = .ok (.iconst 4, 1) := by decide +kernel
theorem dX6_nextToken_28 : decode cX6_nextToken 28 = .ok (.if_icmp .ne 16, 3) := by decide +kernel
theorem dX6_nextToken_31 : decode cX6_nextToken 31 = .ok (.aload_n 0, 1) := by decide +kernel
theorem dX6_nextToken_32 : decode cX6_nextToken 32 = .ok (.dup, 1) := by decide +kernel
theorem dX6_nextToken_33 : decode cX6_nextToken 33 = .ok (.getfield 22, 3) := by decide +kernel
theorem dX6_nextToken_36 : decode cX6_nextToken 36 = .ok (.iconst 1, 1) := by decide +kernel
theorem dX6_nextToken_37 : decode cX6_nextToken 37 = .ok (.iadd, 1) := by decide +kernel
theorem dX6_nextToken_38 : decode cX6_nextToken 38 = .ok (.putfield 22, 3) := by decide +kernel
theorem dX6_nextToken_41 : decode cX6_nextToken 41 = .ok (.goto (-33), 3) := by decide +kernel
theorem dX6_nextToken_44 : decode cX6_nextToken 44 = .ok (.aload_n 0, 1) := by decide +kernel
theorem dX6_nextToken_45 : decode cX6_nextToken 45 = .ok (.aload_n 0, 1) := by decide +kernel
theorem dX6_nextToken_46 : decode cX6_nextToken 46 = .ok (.aload_n 0, 1) := by decide +kernel
theorem dX6_nextToken_47 : decode cX6_nextToken 47 = .ok (.getfield 22, 3) := by decide +kernel
theorem dX6_nextToken_50 : decode cX6_nextToken 50 = .ok (.invokevirtual 106, 3) := by decide +kernel
theorem dX6_nextToken_53 : decode cX6_nextToken 53 = .ok (.putfield 19, 3) := by decide +kernel
theorem dX6_nextToken_56 : decode cX6_nextToken 56 = .ok (.aload_n 0, 1) := by decide +kernel
theorem dX6_nextToken_57 : decode cX6_nextToken 57 = .ok (.aload_n 0, 1) := by decide +kernel
theorem dX6_nextToken_58 : decode cX6_nextToken 58 = .ok (.getfield 19, 3) := by decide +kernel
theorem dX6_nextToken_61 : decode cX6_nextToken 61 = .ok (.iconst 3, 1) := by decide +kernel
theorem dX6_nextToken_62 : decode cX6_nextToken 62 = .ok (.if_icmp .eq 11, 3) := by decide +kernel
theorem dX6_nextToken_65 : decode cX6_nextToken 65 = .ok (.aload_n 0, 1) := by decide +kernel
theorem dX6_nextToken_66 : decode cX6_nextToken 66 = .ok (.getfield 19, 3) := by decide +kernel
theorem dX6_nextToken_69 : decode cX6_nextToken 69 = .ok (.iconst 5, 1) := by decide +kernel
theorem dX6_nextToken_70 : decode cX6_nextToken 70 = .ok (.if_icmp .ne 12, 3) := by decide +kernel
theorem dX6_nextToken_73 : decode cX6_nextToken 73 = .ok (.aload_n 0, 1) := by decide +kernel
theorem dX6_nextToken_74 : decode cX6_nextToken 74 = .ok (.getfield 22, 3) := by decide +kernel
theorem dX6_nextToken_77 : decode cX6_nextToken 77 = .ok (.iconst 1, 1) := by decide +kernel
theorem dX6_nextToken_78 : decode cX6_nextToken 78 = .ok (.iadd, 1) := by decide +kernel
theorem dX6_nextToken_79 : decode cX6_nextToken 79 = .ok (.goto 7, 3) := by decide +kernel
theorem dX6_nextToken_82 : decode cX6_nextToken 82 = .ok (.aload_n 0, 1) := by decide +kernel
theorem dX6_nextToken_83 : decode cX6_nextToken 83 = .ok (.getfield 22, 3) := by decide +kernel
theorem dX6_nextToken_86 : decode cX6_nextToken 86 = .ok (.putfield 25, 3) := by decide +kernel
theorem dX6_nextToken_89 : decode cX6_nextToken 89 = .ok (.aload_n 0, 1) := by decide +kernel
theorem dX6_nextToken_90 : decode cX6_nextToken 90 = .ok (.getfield 19, 3) := by decide +kernel
theorem dX6_nextToken_93 : decode cX6_nextToken 93 = .ok (.iconst 1, 1) := by decide +kernel
theorem dX6_nextToken_94 : decode cX6_nextToken 94 = .ok (.if_icmp .eq 11, 3) := by decide +kernel
theorem dX6_nextToken_97 : decode cX6_nextToken 97 = .ok (.aload_n 0, 1) := by decide +kernel
theorem dX6_nextToken_98 : decode cX6_nextToken 98 = .ok (.getfield 19, 3) := by decide +kernel
theorem dX6_nextToken_101 : decode cX6_nextToken 101 = .ok (.iconst 2, 1) := by decide +kernel
theorem dX6_nextToken_102 : decode cX6_nextToken 102 = .ok (.if_icmp .ne 7, 3) := by decide +kernel
theorem dX6_nextToken_105 : decode cX6_nextToken 105 = .ok (.iconst 1, 1) := by decide +kernel
theorem dX6_nextToken_106 : decode cX6_nextToken 106 = .ok (.goto 4, 3) := by decide +kernel
theorem dX6_nextToken_109 : decode cX6_nextToken 109 = .ok (.iconst 0, 1) := by decide +kernel
theorem dX6_nextToken_110 : decode cX6_nextToken 110 = .ok (.istore_n 1, 1) := by decide +kernel
theorem dX6_nextToken_111 : decode cX6_nextToken 111 = .ok (.iload_n 1, 1) := by decide +kernel
theorem dX6_nextToken_112 : decode cX6_nextToken 112 = .ok (.ifCond .eq 42, 3) := by decide +kernel
theorem dX6_nextToken_115 : decode cX6_nextToken 115 = .ok (.aload_n 0, 1) := by decide +kernel
theorem dX6_nextToken_116 : decode cX6_nextToken 116 = .ok (.getfield 25, 3) := by decide +kernel
theorem dX6_nextToken_119 : decode cX6_nextToken 119 = .ok (.aload_n 0, 1) := by decide +kernel
theorem dX6_nextToken_120 : decode cX6_nextToken 120 = .ok (.getfield 15, 3) := by decide +kernel
theorem dX6_nextToken_123 : decode cX6_nextToken 123 = .ok (.if_icmp .ge 31, 3) := by decide +kernel
theorem dX6_nextToken_126 : decode cX6_nextToken 126 = .ok (.aload_n 0, 1) := by decide +kernel
theorem dX6_nextToken_127 : decode cX6_nextToken 127 = .ok (.aload_n 0, 1) := by decide +kernel
theorem dX6_nextToken_128 : decode cX6_nextToken 128 = .ok (.getfield 25, 3) := by decide +kernel
theorem dX6_nextToken_131 : decode cX6_nextToken 131 = .ok (.invokevirtual 106, 3) := by decide +kernel
theorem dX6_nextToken_134 : decode cX6_nextToken 134 = .ok (.aload_n 0, 1) := by decide +kernel
theorem dX6_nextToken_135 : decode cX6_nextToken 135 = .ok (.getfield 19, 3) := by decide +kernel
theorem dX6_nextToken_138 : decode cX6_nextToken 138 = .ok (.if_icmp .ne 16, 3) := by decide +kernel
theorem dX6_nextToken_141 : decode cX6_nextToken 141 = .ok (.aload_n 0, 1) := by decide +kernel
theorem dX6_nextToken_142 : decode cX6_nextToken 142 = .ok (.dup, 1) := by decide +kernel
theorem dX6_nextToken_143 : decode cX6_nextToken 143 = .ok (.getfield 25, 3) := by decide +kernel
theorem dX6_nextToken_146 : decode cX6_nextToken 146 = .ok (.iconst 1, 1) := by decide +kernel
theorem dX6_nextToken_147 : decode cX6_nextToken 147 = .ok (.iadd, 1) := by decide +kernel
theorem dX6_nextToken_148 : decode cX6_nextToken 148 = .ok (.putfield 25, 3) := by decide +kernel
theorem dX6_nextToken_151 : decode cX6_nextToken 151 = .ok (.goto (-40), 3) := by decide +kernel
theorem dX6_nextToken_154 : decode cX6_nextToken 154 = .ok (.aload_n 0, 1) := by decide +kernel
theorem dX6_nextToken_155 : decode cX6_nextToken 155 = .ok (.getfield 19, 3) := by decide +kernel
theorem dX6_nextToken_158 : decode cX6_nextToken 158 = .ok (.iconst 2, 1) := by decide +kernel
theorem dX6_nextToken_159 : decode cX6_nextToken 159 = .ok (.if_icmp .ne 7, 3) := by decide +kernel
theorem dX6_nextToken_162 : decode cX6_nextToken 162 = .ok (.aload_n 0, 1) := by decide +kernel
theorem dX6_nextToken_163 : decode cX6_nextToken 163 = .ok (.invokevirtual 109, 3) := by decide +kernel
theorem dX6_nextToken_166 : decode cX6_nextToken 166 = .ok (.return_, 1) := by decide +kernel
theorem dX6_weighFigures_0 : decode cX6_weighFigures 0 = .ok (.aload_n 0, 1) := by decide +kernel
theorem dX6_weighFigures_1 : decode cX6_weighFigures 1 = .ok (.iconst 0, 1) := by decide +kernel
theorem dX6_weighFigures_2 : decode cX6_weighFigures 2 = .ok (.putfield 28, 3) := by decide +kernel
theorem dX6_weighFigures_5 : decode cX6_weighFigures 5 = .ok (.aload_n 0, 1) := by decide +kernel
theorem dX6_weighFigures_6 : decode cX6_weighFigures 6 = .ok (.getfield 22, 3) := by decide +kernel
theorem dX6_weighFigures_9 : decode cX6_weighFigures 9 = .ok (.istore_n 1, 1) := by decide +kernel
theorem dX6_weighFigures_10 : decode cX6_weighFigures 10 = .ok (.iload_n 1, 1) := by decide +kernel
theorem dX6_weighFigures_11 : decode cX6_weighFigures 11 = .ok (.aload_n 0, 1) := by decide +kernel
theorem dX6_weighFigures_12 : decode cX6_weighFigures 12 = .ok (.getfield 22, 3) := by decide +kernel
theorem dX6_weighFigures_15 : decode cX6_weighFigures 15 = .ok (.iconst 2, 1) := by decide +kernel
theorem dX6_weighFigures_16 : decode cX6_weighFigures 16 = .ok (.iadd, 1) := by decide +kernel
theorem dX6_weighFigures_17 : decode cX6_weighFigures 17 = .ok (.if_icmp .ge 38, 3) := by decide +kernel
theorem dX6_weighFigures_20 : decode cX6_weighFigures 20 = .ok (.iload_n 1, 1) := by decide +kernel
theorem dX6_weighFigures_21 : decode cX6_weighFigures 21 = .ok (.aload_n 0, 1) := by decide +kernel
theorem dX6_weighFigures_22 : decode cX6_weighFigures 22 = .ok (.getfield 25, 3) := by decide +kernel
theorem dX6_weighFigures_25 : decode cX6_weighFigures 25 = .ok (.if_icmp .ge 30, 3) := by decide +kernel
theorem dX6_weighFigures_28 : decode cX6_weighFigures 28 = .ok (.aload_n 0, 1) := by decide +kernel
theorem dX6_weighFigures_29 : decode cX6_weighFigures 29 = .ok (.bipush 10, 2) := by decide +kernel
theorem dX6_weighFigures_31 : decode cX6_weighFigures 31 = .ok (.aload_n 0, 1) := by decide +kernel
theorem dX6_weighFigures_32 : decode cX6_weighFigures 32 = .ok (.getfield 28, 3) := by decide +kernel
theorem dX6_weighFigures_35 : decode cX6_weighFigures 35 = .ok (.imul, 1) := by decide +kernel
theorem dX6_weighFigures_36 : decode cX6_weighFigures 36 = .ok (.aload_n 0, 1) := by decide +kernel
theorem dX6_weighFigures_37 : decode cX6_weighFigures 37 = .ok (.getfield 9, 3) := by decide +kernel
theorem dX6_weighFigures_40 : decode cX6_weighFigures 40 = .ok (.iload_n 1, 1) := by decide +kernel
theorem dX6_weighFigures_41 : decode cX6_weighFigures 41 = .ok (.baload, 1) := by decide +kernel
theorem dX6_weighFigures_42 : decode cX6_weighFigures 42 = .ok (.iadd, 1) := by decide +kernel
theorem dX6_weighFigures_43 : decode cX6_weighFigures 43 = .ok (.bipush 48, 2) := by decide +kernel
theorem dX6_weighFigures_45 : decode cX6_weighFigures 45 = .ok (.isub, 1) := by decide +kernel
theorem dX6_weighFigures_46 : decode cX6_weighFigures 46 = .ok (.putfield 28, 3) := by decide +kernel
theorem dX6_weighFigures_49 : decode cX6_weighFigures 49 = .ok (.iinc 1 1, 3) := by decide +kernel
theorem dX6_weighFigures_52 : decode cX6_weighFigures 52 = .ok (.goto (-42), 3) := by decide +kernel
theorem dX6_weighFigures_55 : decode cX6_weighFigures 55 = .ok (.aload_n 0, 1) := by decide +kernel
theorem dX6_weighFigures_56 : decode cX6_weighFigures 56 = .ok (.getfield 25, 3) := by decide +kernel
theorem dX6_weighFigures_59 : decode cX6_weighFigures 59 = .ok (.aload_n 0, 1) := by decide +kernel
theorem dX6_weighFigures_60 : decode cX6_weighFigures 60 = .ok (.getfield 22, 3) := by decide +kernel
theorem dX6_weighFigures_63 : decode cX6_weighFigures 63 = .ok (.isub, 1) := by decide +kernel
theorem dX6_weighFigures_64 : decode cX6_weighFigures 64 = .ok (.iconst 2, 1) := by decide +kernel
theorem dX6_weighFigures_65 : decode cX6_weighFigures 65 = .ok (.if_icmp .le 8, 3) := by decide +kernel
theorem dX6_weighFigures_68 : decode cX6_weighFigures 68 = .ok (.aload_n 0, 1) := by decide +kernel
theorem dX6_weighFigures_69 : decode cX6_weighFigures 69 = .ok (.iconst 5, 1) := by decide +kernel
theorem dX6_weighFigures_70 : decode cX6_weighFigures 70 = .ok (.putfield 19, 3) := by decide +kernel
theorem dX6_weighFigures_73 : decode cX6_weighFigures 73 = .ok (.return_, 1) := by decide +kernel
theorem dX6_kindAt_0 : decode cX6_kindAt 0 = .ok (.iload_n 1, 1) := by decide +kernel
theorem dX6_kindAt_1 : decode cX6_kindAt 1 = .ok (.ifCond .lt 11, 3) := by decide +kernel
theorem dX6_kindAt_4 : decode cX6_kindAt 4 = .ok (.iload_n 1, 1) := by decide +kernel
theorem dX6_kindAt_5 : decode cX6_kindAt 5 = .ok (.aload_n 0, 1) := by decide +kernel
theorem dX6_kindAt_6 : decode cX6_kindAt 6 = .ok (.getfield 15, 3) := by decide +kernel
theorem dX6_kindAt_9 : decode cX6_kindAt 9 = .ok (.if_icmp .lt 5, 3) := by decide +kernel
theorem dX6_kindAt_12 : decode cX6_kindAt 12 = .ok (.iconst 0, 1) := by decide +kernel
theorem dX6_kindAt_13 : decode cX6_kindAt 13 = .ok (.ireturn, 1) := by decide +kernel
theorem dX6_kindAt_14 : decode cX6_kindAt 14 = .ok (.aload_n 0, 1) := by decide +kernel
theorem dX6_kindAt_15 : decode cX6_kindAt 15 = .ok (.getfield 9, 3) := by decide +kernel
theorem dX6_kindAt_18 : decode cX6_kindAt 18 = .ok (.iload_n 1, 1) := by decide +kernel
theorem dX6_kindAt_19 : decode cX6_kindAt 19 = .ok (.baload, 1) := by decide +kernel
theorem dX6_kindAt_20 : decode cX6_kindAt 20 = .ok (.istore_n 2, 1) := by decide +kernel
theorem dX6_kindAt_21 : decode cX6_kindAt 21 = .ok (.iload_n 2, 1) := by decide +kernel
theorem dX6_kindAt_22 : decode cX6_kindAt 22 = .ok (.bipush 97, 2) := by decide +kernel
theorem dX6_kindAt_24 : decode cX6_kindAt 24 = .ok (.if_icmp .lt 11, 3) := by decide +kernel
theorem dX6_kindAt_27 : decode cX6_kindAt 27 = .ok (.iload_n 2, 1) := by decide +kernel
theorem dX6_kindAt_28 : decode cX6_kindAt 28 = .ok (.bipush 122, 2) := by decide +kernel
theorem dX6_kindAt_30 : decode cX6_kindAt 30 = .ok (.if_icmp .gt 5, 3) := by decide +kernel
theorem dX6_kindAt_33 : decode cX6_kindAt 33 = .ok (.iconst 1, 1) := by decide +kernel
theorem dX6_kindAt_34 : decode cX6_kindAt 34 = .ok (.ireturn, 1) := by decide +kernel
theorem dX6_kindAt_35 : decode cX6_kindAt 35 = .ok (.iload_n 2, 1) := by decide +kernel
theorem dX6_kindAt_36 : decode cX6_kindAt 36 = .ok (.bipush 48, 2) := by decide +kernel
theorem dX6_kindAt_38 : decode cX6_kindAt 38 = .ok (.if_icmp .lt 11, 3) := by decide +kernel
theorem dX6_kindAt_41 : decode cX6_kindAt 41 = .ok (.iload_n 2, 1) := by decide +kernel
theorem dX6_kindAt_42 : decode cX6_kindAt 42 = .ok (.bipush 57, 2) := by decide +kernel
theorem dX6_kindAt_44 : decode cX6_kindAt 44 = .ok (.if_icmp .gt 5, 3) := by decide +kernel
theorem dX6_kindAt_47 : decode cX6_kindAt 47 = .ok (.iconst 2, 1) := by decide +kernel
theorem dX6_kindAt_48 : decode cX6_kindAt 48 = .ok (.ireturn, 1) := by decide +kernel
theorem dX6_kindAt_49 : decode cX6_kindAt 49 = .ok (.iload_n 2, 1) := by decide +kernel
theorem dX6_kindAt_50 : decode cX6_kindAt 50 = .ok (.bipush 59, 2) := by decide +kernel
theorem dX6_kindAt_52 : decode cX6_kindAt 52 = .ok (.if_icmp .ne 5, 3) := by decide +kernel
theorem dX6_kindAt_55 : decode cX6_kindAt 55 = .ok (.iconst 3, 1) := by decide +kernel
theorem dX6_kindAt_56 : decode cX6_kindAt 56 = .ok (.ireturn, 1) := by decide +kernel
theorem dX6_kindAt_57 : decode cX6_kindAt 57 = .ok (.iload_n 2, 1) := by decide +kernel
theorem dX6_kindAt_58 : decode cX6_kindAt 58 = .ok (.bipush 32, 2) := by decide +kernel
theorem dX6_kindAt_60 : decode cX6_kindAt 60 = .ok (.if_icmp .ne 7, 3) := by decide +kernel
theorem dX6_kindAt_63 : decode cX6_kindAt 63 = .ok (.iconst 4, 1) := by decide +kernel
theorem dX6_kindAt_64 : decode cX6_kindAt 64 = .ok (.goto 4, 3) := by decide +kernel
theorem dX6_kindAt_67 : decode cX6_kindAt 67 = .ok (.iconst 5, 1) := by decide +kernel
theorem dX6_kindAt_68 : decode cX6_kindAt 68 = .ok (.ireturn, 1) := by decide +kernel
set_option maxRecDepth 20000 in
theorem ggX6_isWord_J0_length_8abf5 : GoodIn wsX6_isWord wsJ0_length_8abf5 := goodIn_r _ [9, 10, 11, 12, 13, 8, 14, 15, 16] (by decide +kernel) (by decide +kernel)
set_option maxRecDepth 20000 in
theorem gX6_isWord_J0_length_8abf5 : GoodIn wsX6_isWord (wsV RX6 112 RJ0 yJ0_length_8abf5 wsJ0_length_8abf5) := goodIn_app (goodIn_of _ (by decide +kernel)) ggX6_isWord_J0_length_8abf5
set_option maxRecDepth 20000 in
theorem ggX6_isWord_J0_charAt_5068e : GoodIn wsX6_isWord wsJ0_charAt_5068e := goodIn_r _ [20, 10, 21, 22, 23, 8, 24, 15, 16, 25, 26, 27, 28, 29, 30, 31, 32, 33, 34, 35, 36, 37, 38, 39, 40, 41, 42, 43, 44, 45, 46, 47, 48, 49, 50, 51, 52, 53] (by decide +kernel) (by decide +kernel)
set_option maxRecDepth 20000 in
theorem gX6_isWord_J0_charAt_5068e : GoodIn wsX6_isWord (wsV RX6 117 RJ0 yJ0_charAt_5068e wsJ0_charAt_5068e) := goodIn_app (goodIn_of _ (by decide +kernel)) ggX6_isWord_J0_charAt_5068e
theorem dX6_isWord_0 : decode cX6_isWord 0 = .ok (.aload_n 1, 1) := by decide +kernel
theorem dX6_isWord_1 : decode cX6_isWord 1 = .ok (.invokevirtual 112, 3) := by decide +kernel
theorem dX6_isWord_4 : decode cX6_isWord 4 = .ok (.aload_n 0, 1) := by decide +kernel
theorem dX6_isWord_5 : decode cX6_isWord 5 = .ok (.getfield 25, 3) := by decide +kernel
theorem dX6_isWord_8 : decode cX6_isWord 8 = .ok (.aload_n 0, 1) := by decide +kernel
theorem dX6_isWord_9 : decode cX6_isWord 9 = .ok (.getfield 22, 3) := by decide +kernel
theorem dX6_isWord_12 : decode cX6_isWord 12 = .ok (.isub, 1) := by decide +kernel
theorem dX6_isWord_13 : decode cX6_isWord 13 = .ok (.if_icmp .ne 21, 3) := by decide +kernel
theorem dX6_isWord_16 : decode cX6_isWord 16 = .ok (.aload_n 0, 1) := by decide +kernel
theorem dX6_isWord_17 : decode cX6_isWord 17 = .ok (.getfield 22, 3) := by decide +kernel
theorem dX6_isWord_20 : decode cX6_isWord 20 = .ok (.ifCond .lt 14, 3) := by decide +kernel
theorem dX6_isWord_23 : decode cX6_isWord 23 = .ok (.aload_n 0, 1) := by decide +kernel
theorem dX6_isWord_24 : decode cX6_isWord 24 = .ok (.getfield 25, 3) := by decide +kernel
theorem dX6_isWord_27 : decode cX6_isWord 27 = .ok (.aload_n 0, 1) := by decide +kernel
theorem dX6_isWord_28 : decode cX6_isWord 28 = .ok (.getfield 15, 3) := by decide +kernel
theorem dX6_isWord_31 : decode cX6_isWord 31 = .ok (.if_icmp .le 5, 3) := by decide +kernel
theorem dX6_isWord_34 : decode cX6_isWord 34 = .ok (.iconst 0, 1) := by decide +kernel
theorem dX6_isWord_35 : decode cX6_isWord 35 = .ok (.ireturn, 1) := by decide +kernel
theorem dX6_isWord_36 : decode cX6_isWord 36 = .ok (.iconst 0, 1) := by decide +kernel
theorem dX6_isWord_37 : decode cX6_isWord 37 = .ok (.istore_n 2, 1) := by decide +kernel
theorem dX6_isWord_38 : decode cX6_isWord 38 = .ok (.iload_n 2, 1) := by decide +kernel
theorem dX6_isWord_39 : decode cX6_isWord 39 = .ok (.aload_n 1, 1) := by decide +kernel
theorem dX6_isWord_40 : decode cX6_isWord 40 = .ok (.invokevirtual 112, 3) := by decide +kernel
theorem dX6_isWord_43 : decode cX6_isWord 43 = .ok (.if_icmp .ge 30, 3) := by decide +kernel
theorem dX6_isWord_46 : decode cX6_isWord 46 = .ok (.aload_n 1, 1) := by decide +kernel
theorem dX6_isWord_47 : decode cX6_isWord 47 = .ok (.iload_n 2, 1) := by decide +kernel
theorem dX6_isWord_48 : decode cX6_isWord 48 = .ok (.invokevirtual 117, 3) := by decide +kernel
theorem dX6_isWord_51 : decode cX6_isWord 51 = .ok (.aload_n 0, 1) := by decide +kernel
theorem dX6_isWord_52 : decode cX6_isWord 52 = .ok (.getfield 9, 3) := by decide +kernel
theorem dX6_isWord_55 : decode cX6_isWord 55 = .ok (.aload_n 0, 1) := by decide +kernel
theorem dX6_isWord_56 : decode cX6_isWord 56 = .ok (.getfield 22, 3) := by decide +kernel
theorem dX6_isWord_59 : decode cX6_isWord 59 = .ok (.iload_n 2, 1) := by decide +kernel
theorem dX6_isWord_60 : decode cX6_isWord 60 = .ok (.iadd, 1) := by decide +kernel
theorem dX6_isWord_61 : decode cX6_isWord 61 = .ok (.baload, 1) := by decide +kernel
theorem dX6_isWord_62 : decode cX6_isWord 62 = .ok (.if_icmp .eq 5, 3) := by decide +kernel
theorem dX6_isWord_65 : decode cX6_isWord 65 = .ok (.iconst 0, 1) := by decide +kernel
theorem dX6_isWord_66 : decode cX6_isWord 66 = .ok (.ireturn, 1) := by decide +kernel
theorem dX6_isWord_67 : decode cX6_isWord 67 = .ok (.iinc 2 1, 3) := by decide +kernel
theorem dX6_isWord_70 : decode cX6_isWord 70 = .ok (.goto (-32), 3) := by decide +kernel
theorem dX6_isWord_73 : decode cX6_isWord 73 = .ok (.iconst 1, 1) := by decide +kernel
theorem dX6_isWord_74 : decode cX6_isWord 74 = .ok (.ireturn, 1) := by decide +kernel
