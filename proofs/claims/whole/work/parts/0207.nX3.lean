theorem dX3_init_0 : decode cX3_init 0 = .ok (.aload_n 0, 1) := by decide +kernel
theorem dX3_init_1 : decode cX3_init 1 = .ok (.invokespecial 3, 3) := by decide +kernel
theorem dX3_init_4 : decode cX3_init 4 = .ok (.aload_n 0, 1) := by decide +kernel
theorem dX3_init_5 : decode cX3_init 5 = .ok (.bipush 6, 2) := by decide +kernel
theorem dX3_init_7 : decode cX3_init 7 = .ok (.newarray .int, 2) := by decide +kernel
theorem dX3_init_9 : decode cX3_init 9 = .ok (.putfield 9, 3) := by decide +kernel
theorem dX3_init_12 : decode cX3_init 12 = .ok (.return_, 1) := by decide +kernel
set_option maxRecDepth 20000 in
theorem ggX3_skillsOf_X3_fitsSights : GoodIn wsX3_skillsOf wsX3_fitsSights := goodIn_r _ [5, 6, 7, 8, 9, 10, 11, 12, 13, 14, 15, 16, 17, 18, 19, 20, 21, 22, 23, 24, 25, 26, 27, 28, 29, 30, 31, 32, 33, 34, 35, 36] (by decide +kernel) (by decide +kernel)
set_option maxRecDepth 20000 in
theorem gX3_skillsOf_X3_fitsSights : GoodIn wsX3_skillsOf (wsV RX3 15 RX3 yX3_fitsSights wsX3_fitsSights) := goodIn_app (goodIn_of _ (by decide +kernel)) ggX3_skillsOf_X3_fitsSights
theorem dX3_skillsOf_0 : decode cX3_skillsOf 0 = .ok (.iconst 0, 1) := by decide +kernel
theorem dX3_skillsOf_1 : decode cX3_skillsOf 1 = .ok (.istore_n 3, 1) := by decide +kernel
theorem dX3_skillsOf_2 : decode cX3_skillsOf 2 = .ok (.iconst 1, 1) := by decide +kernel
theorem dX3_skillsOf_3 : decode cX3_skillsOf 3 = .ok (.istore 4, 2) := by decide +kernel
theorem dX3_skillsOf_5 : decode cX3_skillsOf 5 = .ok (.iload 4, 2) := by decide +kernel
theorem dX3_skillsOf_7 : decode cX3_skillsOf 7 = .ok (.bipush 9, 2) := by decide +kernel
theorem dX3_skillsOf_9 : decode cX3_skillsOf 9 = .ok (.if_icmp .gt 27, 3) := by decide +kernel
theorem dX3_skillsOf_12 : decode cX3_skillsOf 12 = .ok (.aload_n 0, 1) := by decide +kernel
theorem dX3_skillsOf_13 : decode cX3_skillsOf 13 = .ok (.aload_n 1, 1) := by decide +kernel
theorem dX3_skillsOf_14 : decode cX3_skillsOf 14 = .ok (.iload_n 2, 1) := by decide +kernel
theorem dX3_skillsOf_15 : decode cX3_skillsOf 15 = .ok (.iload 4, 2) := by decide +kernel
theorem dX3_skillsOf_17 : decode cX3_skillsOf 17 = .ok (.invokevirtual 15, 3) := by decide +kernel
theorem dX3_skillsOf_20 : decode cX3_skillsOf 20 = .ok (.ifCond .eq 10, 3) := by decide +kernel
theorem dX3_skillsOf_23 : decode cX3_skillsOf 23 = .ok (.iload_n 3, 1) := by decide +kernel
theorem dX3_skillsOf_24 : decode cX3_skillsOf 24 = .ok (.iconst 1, 1) := by decide +kernel
theorem dX3_skillsOf_25 : decode cX3_skillsOf 25 = .ok (.iload 4, 2) := by decide +kernel
theorem dX3_skillsOf_27 : decode cX3_skillsOf 27 = .ok (.ishl, 1) := by decide +kernel
theorem dX3_skillsOf_28 : decode cX3_skillsOf 28 = .ok (.ior, 1) := by decide +kernel
theorem dX3_skillsOf_29 : decode cX3_skillsOf 29 = .ok (.istore_n 3, 1) := by decide +kernel
theorem dX3_skillsOf_30 : decode cX3_skillsOf 30 = .ok (.iinc 4 1, 3) := by decide +kernel
theorem dX3_skillsOf_33 : decode cX3_skillsOf 33 = .ok (.goto (-28), 3) := by decide +kernel
theorem dX3_skillsOf_36 : decode cX3_skillsOf 36 = .ok (.iload_n 3, 1) := by decide +kernel
theorem dX3_skillsOf_37 : decode cX3_skillsOf 37 = .ok (.ireturn, 1) := by decide +kernel
set_option maxRecDepth 20000 in
theorem ggX3_fitsSights_X2_size : GoodIn wsX3_fitsSights wsX2_size := goodIn_r _ [7, 8, 29, 30, 31] (by decide +kernel) (by decide +kernel)
set_option maxRecDepth 20000 in
theorem gX3_fitsSights_X2_size : GoodIn wsX3_fitsSights (wsV RX3 25 RX2 yX2_size wsX2_size) := goodIn_app (goodIn_of _ (by decide +kernel)) ggX3_fitsSights_X2_size
set_option maxRecDepth 20000 in
theorem ggX3_fitsSights_X2_cell : GoodIn wsX3_fitsSights wsX2_cell := goodIn_r _ [12, 8, 13, 29, 30, 31] (by decide +kernel) (by decide +kernel)
set_option maxRecDepth 20000 in
theorem gX3_fitsSights_X2_cell : GoodIn wsX3_fitsSights (wsV RX3 31 RX2 yX2_cell wsX2_cell) := goodIn_app (goodIn_of _ (by decide +kernel)) ggX3_fitsSights_X2_cell
set_option maxRecDepth 20000 in
theorem ggX3_fitsSights_X5_liked : GoodIn wsX3_fitsSights wsX5_liked := goodIn_r _ [17] (by decide +kernel) (by decide +kernel)
set_option maxRecDepth 20000 in
theorem gX3_fitsSights_X5_liked : GoodIn wsX3_fitsSights (va_wsS RX3 38 yX5_liked wsX5_liked) := goodIn_app (goodIn_of _ (by decide +kernel)) ggX3_fitsSights_X5_liked
theorem dX3_fitsSights_0 : decode cX3_fitsSights 0 = .ok (.aload_n 1, 1) := by decide +kernel
theorem dX3_fitsSights_1 : decode cX3_fitsSights 1 = .ok (.getfield 19, 3) := by decide +kernel
theorem dX3_fitsSights_4 : decode cX3_fitsSights 4 = .ok (.astore 4, 2) := by decide +kernel
theorem dX3_fitsSights_6 : decode cX3_fitsSights 6 = .ok (.iconst 0, 1) := by decide +kernel
theorem dX3_fitsSights_7 : decode cX3_fitsSights 7 = .ok (.istore 5, 2) := by decide +kernel
theorem dX3_fitsSights_9 : decode cX3_fitsSights 9 = .ok (.iload 5, 2) := by decide +kernel
theorem dX3_fitsSights_11 : decode cX3_fitsSights 11 = .ok (.aload 4, 2) := by decide +kernel
theorem dX3_fitsSights_13 : decode cX3_fitsSights 13 = .ok (.invokevirtual 25, 3) := by decide +kernel
theorem dX3_fitsSights_16 : decode cX3_fitsSights 16 = .ok (.if_icmp .ge 81, 3) := by decide +kernel
theorem dX3_fitsSights_19 : decode cX3_fitsSights 19 = .ok (.aload 4, 2) := by decide +kernel
theorem dX3_fitsSights_21 : decode cX3_fitsSights 21 = .ok (.iload 5, 2) := by decide +kernel
theorem dX3_fitsSights_23 : decode cX3_fitsSights 23 = .ok (.iconst 0, 1) := by decide +kernel
theorem dX3_fitsSights_24 : decode cX3_fitsSights 24 = .ok (.invokevirtual 31, 3) := by decide +kernel
theorem dX3_fitsSights_27 : decode cX3_fitsSights 27 = .ok (.iload_n 2, 1) := by decide +kernel
theorem dX3_fitsSights_28 : decode cX3_fitsSights 28 = .ok (.if_icmp .ne 63, 3) := by decide +kernel
theorem dX3_fitsSights_31 : decode cX3_fitsSights 31 = .ok (.aload_n 1, 1) := by decide +kernel
theorem dX3_fitsSights_32 : decode cX3_fitsSights 32 = .ok (.getfield 35, 3) := by decide +kernel
theorem dX3_fitsSights_35 : decode cX3_fitsSights 35 = .ok (.iload_n 2, 1) := by decide +kernel
theorem dX3_fitsSights_36 : decode cX3_fitsSights 36 = .ok (.iaload, 1) := by decide +kernel
theorem dX3_fitsSights_37 : decode cX3_fitsSights 37 = .ok (.iload_n 3, 1) := by decide +kernel
theorem dX3_fitsSights_38 : decode cX3_fitsSights 38 = .ok (.aload 4, 2) := by decide +kernel
theorem dX3_fitsSights_40 : decode cX3_fitsSights 40 = .ok (.iload 5, 2) := by decide +kernel
theorem dX3_fitsSights_42 : decode cX3_fitsSights 42 = .ok (.iconst 1, 1) := by decide +kernel
theorem dX3_fitsSights_43 : decode cX3_fitsSights 43 = .ok (.invokevirtual 31, 3) := by decide +kernel
theorem dX3_fitsSights_46 : decode cX3_fitsSights 46 = .ok (.invokestatic 38, 3) := by decide +kernel
theorem dX3_fitsSights_49 : decode cX3_fitsSights 49 = .ok (.aload 4, 2) := by decide +kernel
theorem dX3_fitsSights_51 : decode cX3_fitsSights 51 = .ok (.iload 5, 2) := by decide +kernel
theorem dX3_fitsSights_53 : decode cX3_fitsSights 53 = .ok (.iconst 2, 1) := by decide +kernel
theorem dX3_fitsSights_54 : decode cX3_fitsSights 54 = .ok (.invokevirtual 31, 3) := by decide +kernel
theorem dX3_fitsSights_57 : decode cX3_fitsSights 57 = .ok (.if_icmp .gt 7, 3) := by decide +kernel
theorem dX3_fitsSights_60 : decode cX3_fitsSights 60 = .ok (.iconst 1, 1) := by decide +kernel
theorem dX3_fitsSights_61 : decode cX3_fitsSights 61 = .ok (.goto 4, 3) := by decide +kernel
theorem dX3_fitsSights_64 : decode cX3_fitsSights 64 = .ok (.iconst 0, 1) := by decide +kernel
theorem dX3_fitsSights_65 : decode cX3_fitsSights 65 = .ok (.istore 6, 2) := by decide +kernel
theorem dX3_fitsSights_67 : decode cX3_fitsSights 67 = .ok (.iload 6, 2) := by decide +kernel
theorem dX3_fitsSights_69 : decode cX3_fitsSights 69 = .ok (.aload 4, 2) := by decide +kernel
theorem dX3_fitsSights_71 : decode cX3_fitsSights 71 = .ok (.iload 5, 2) := by decide +kernel
theorem dX3_fitsSights_73 : decode cX3_fitsSights 73 = .ok (.iconst 3, 1) := by decide +kernel
theorem dX3_fitsSights_74 : decode cX3_fitsSights 74 = .ok (.invokevirtual 31, 3) := by decide +kernel
theorem dX3_fitsSights_77 : decode cX3_fitsSights 77 = .ok (.iconst 1, 1) := by decide +kernel
theorem dX3_fitsSights_78 : decode cX3_fitsSights 78 = .ok (.if_icmp .ne 7, 3) := by decide +kernel
theorem dX3_fitsSights_81 : decode cX3_fitsSights 81 = .ok (.iconst 1, 1) := by decide +kernel
theorem dX3_fitsSights_82 : decode cX3_fitsSights 82 = .ok (.goto 4, 3) := by decide +kernel
theorem dX3_fitsSights_85 : decode cX3_fitsSights 85 = .ok (.iconst 0, 1) := by decide +kernel
theorem dX3_fitsSights_86 : decode cX3_fitsSights 86 = .ok (.if_icmp .eq 5, 3) := by decide +kernel
theorem dX3_fitsSights_89 : decode cX3_fitsSights 89 = .ok (.iconst 0, 1) := by decide +kernel
theorem dX3_fitsSights_90 : decode cX3_fitsSights 90 = .ok (.ireturn, 1) := by decide +kernel
theorem dX3_fitsSights_91 : decode cX3_fitsSights 91 = .ok (.iinc 5 1, 3) := by decide +kernel
theorem dX3_fitsSights_94 : decode cX3_fitsSights 94 = .ok (.goto (-85), 3) := by decide +kernel
theorem dX3_fitsSights_97 : decode cX3_fitsSights 97 = .ok (.iconst 1, 1) := by decide +kernel
theorem dX3_fitsSights_98 : decode cX3_fitsSights 98 = .ok (.ireturn, 1) := by decide +kernel
set_option maxRecDepth 20000 in
theorem ggX3_bestSight_X3_leavingAt : GoodIn wsX3_bestSight wsX3_leavingAt := goodIn_r _ [8, 9, 10, 11, 12] (by decide +kernel) (by decide +kernel)
set_option maxRecDepth 20000 in
theorem gX3_bestSight_X3_leavingAt : GoodIn wsX3_bestSight (va_wsS RX3 44 yX3_leavingAt wsX3_leavingAt) := goodIn_app (goodIn_of _ (by decide +kernel)) ggX3_bestSight_X3_leavingAt
set_option maxRecDepth 20000 in
theorem ggX3_bestSight_J6_bitCount_0f7a4 : GoodIn wsX3_bestSight wsJ6_bitCount_0f7a4 := goodIn_r _ [16, 17, 18, 19] (by decide +kernel) (by decide +kernel)
set_option maxRecDepth 20000 in
theorem gX3_bestSight_J6_bitCount_0f7a4 : GoodIn wsX3_bestSight (va_wsS RX3 48 yJ6_bitCount_0f7a4 wsJ6_bitCount_0f7a4) := goodIn_app (goodIn_of _ (by decide +kernel)) ggX3_bestSight_J6_bitCount_0f7a4
theorem dX3_bestSight_0 : decode cX3_bestSight 0 = .ok (.iconst (-1), 1) := by decide +kernel
theorem dX3_bestSight_1 : decode cX3_bestSight 1 = .ok (.istore_n 3, 1) := by decide +kernel
theorem dX3_bestSight_2 : decode cX3_bestSight 2 = .ok (.bipush 10, 2) := by decide +kernel
theorem dX3_bestSight_4 : decode cX3_bestSight 4 = .ok (.istore 4, 2) := by decide +kernel
theorem dX3_bestSight_6 : decode cX3_bestSight 6 = .ok (.iconst 0, 1) := by decide +kernel
theorem dX3_bestSight_7 : decode cX3_bestSight 7 = .ok (.istore 5, 2) := by decide +kernel
theorem dX3_bestSight_9 : decode cX3_bestSight 9 = .ok (.iload_n 2, 1) := by decide +kernel
theorem dX3_bestSight_10 : decode cX3_bestSight 10 = .ok (.ifCond .eq 76, 3) := by decide +kernel
theorem dX3_bestSight_13 : decode cX3_bestSight 13 = .ok (.iload 5, 2) := by decide +kernel
theorem dX3_bestSight_15 : decode cX3_bestSight 15 = .ok (.iconst 5, 1) := by decide +kernel
theorem dX3_bestSight_16 : decode cX3_bestSight 16 = .ok (.if_icmp .gt 70, 3) := by decide +kernel
theorem dX3_bestSight_19 : decode cX3_bestSight 19 = .ok (.iconst 0, 1) := by decide +kernel
theorem dX3_bestSight_20 : decode cX3_bestSight 20 = .ok (.istore 6, 2) := by decide +kernel
theorem dX3_bestSight_22 : decode cX3_bestSight 22 = .ok (.iload 6, 2) := by decide +kernel
theorem dX3_bestSight_24 : decode cX3_bestSight 24 = .ok (.bipush 30, 2) := by decide +kernel
theorem dX3_bestSight_26 : decode cX3_bestSight 26 = .ok (.if_icmp .gt 54, 3) := by decide +kernel
theorem dX3_bestSight_29 : decode cX3_bestSight 29 = .ok (.iload_n 1, 1) := by decide +kernel
theorem dX3_bestSight_30 : decode cX3_bestSight 30 = .ok (.iload_n 2, 1) := by decide +kernel
theorem dX3_bestSight_31 : decode cX3_bestSight 31 = .ok (.iload 5, 2) := by decide +kernel
theorem dX3_bestSight_33 : decode cX3_bestSight 33 = .ok (.iload 6, 2) := by decide +kernel
theorem dX3_bestSight_35 : decode cX3_bestSight 35 = .ok (.invokestatic 44, 3) := by decide +kernel
theorem dX3_bestSight_38 : decode cX3_bestSight 38 = .ok (.istore 7, 2) := by decide +kernel
theorem dX3_bestSight_40 : decode cX3_bestSight 40 = .ok (.iload 7, 2) := by decide +kernel
theorem dX3_bestSight_42 : decode cX3_bestSight 42 = .ok (.iload_n 2, 1) := by decide +kernel
theorem dX3_bestSight_43 : decode cX3_bestSight 43 = .ok (.invokestatic 48, 3) := by decide +kernel
theorem dX3_bestSight_46 : decode cX3_bestSight 46 = .ok (.iload 7, 2) := by decide +kernel
theorem dX3_bestSight_48 : decode cX3_bestSight 48 = .ok (.isub, 1) := by decide +kernel
theorem dX3_bestSight_49 : decode cX3_bestSight 49 = .ok (.invokestatic 54, 3) := by decide +kernel
theorem dX3_bestSight_52 : decode cX3_bestSight 52 = .ok (.istore 8, 2) := by decide +kernel
theorem dX3_bestSight_54 : decode cX3_bestSight 54 = .ok (.iload 8, 2) := by decide +kernel
theorem dX3_bestSight_56 : decode cX3_bestSight 56 = .ok (.iload 4, 2) := by decide +kernel
theorem dX3_bestSight_58 : decode cX3_bestSight 58 = .ok (.if_icmp .ge 16, 3) := by decide +kernel
theorem dX3_bestSight_61 : decode cX3_bestSight 61 = .ok (.iload 8, 2) := by decide +kernel
theorem dX3_bestSight_63 : decode cX3_bestSight 63 = .ok (.istore 4, 2) := by decide +kernel
theorem dX3_bestSight_65 : decode cX3_bestSight 65 = .ok (.bipush 100, 2) := by decide +kernel
theorem dX3_bestSight_67 : decode cX3_bestSight 67 = .ok (.iload 5, 2) := by decide +kernel
theorem dX3_bestSight_69 : decode cX3_bestSight 69 = .ok (.imul, 1) := by decide +kernel
theorem dX3_bestSight_70 : decode cX3_bestSight 70 = .ok (.iload 6, 2) := by decide +kernel
theorem dX3_bestSight_72 : decode cX3_bestSight 72 = .ok (.iadd, 1) := by decide +kernel
theorem dX3_bestSight_73 : decode cX3_bestSight 73 = .ok (.istore_n 3, 1) := by decide +kernel
theorem dX3_bestSight_74 : decode cX3_bestSight 74 = .ok (.iinc 6 1, 3) := by decide +kernel
theorem dX3_bestSight_77 : decode cX3_bestSight 77 = .ok (.goto (-55), 3) := by decide +kernel
theorem dX3_bestSight_80 : decode cX3_bestSight 80 = .ok (.iinc 5 1, 3) := by decide +kernel
theorem dX3_bestSight_83 : decode cX3_bestSight 83 = .ok (.goto (-74), 3) := by decide +kernel
theorem dX3_bestSight_86 : decode cX3_bestSight 86 = .ok (.iload_n 3, 1) := by decide +kernel
theorem dX3_bestSight_87 : decode cX3_bestSight 87 = .ok (.ireturn, 1) := by decide +kernel
set_option maxRecDepth 20000 in
theorem ggX3_leavingAt_X5_liked : GoodIn wsX3_leavingAt wsX5_liked := goodIn_r _ [4] (by decide +kernel) (by decide +kernel)
set_option maxRecDepth 20000 in
theorem gX3_leavingAt_X5_liked : GoodIn wsX3_leavingAt (va_wsS RX3 38 yX5_liked wsX5_liked) := goodIn_app (goodIn_of _ (by decide +kernel)) ggX3_leavingAt_X5_liked
theorem dX3_leavingAt_0 : decode cX3_leavingAt 0 = .ok (.iconst 0, 1) := by decide +kernel
theorem dX3_leavingAt_1 : decode cX3_leavingAt 1 = .ok (.istore 4, 2) := by decide +kernel
theorem dX3_leavingAt_3 : decode cX3_leavingAt 3 = .ok (.iconst 1, 1) := by decide +kernel
theorem dX3_leavingAt_4 : decode cX3_leavingAt 4 = .ok (.istore 5, 2) := by decide +kernel
theorem dX3_leavingAt_6 : decode cX3_leavingAt 6 = .ok (.iload 5, 2) := by decide +kernel
theorem dX3_leavingAt_8 : decode cX3_leavingAt 8 = .ok (.bipush 9, 2) := by decide +kernel
theorem dX3_leavingAt_10 : decode cX3_leavingAt 10 = .ok (.if_icmp .gt 33, 3) := by decide +kernel
theorem dX3_leavingAt_13 : decode cX3_leavingAt 13 = .ok (.iload_n 1, 1) := by decide +kernel
theorem dX3_leavingAt_14 : decode cX3_leavingAt 14 = .ok (.iload 5, 2) := by decide +kernel
theorem dX3_leavingAt_16 : decode cX3_leavingAt 16 = .ok (.ishr, 1) := by decide +kernel
theorem dX3_leavingAt_17 : decode cX3_leavingAt 17 = .ok (.iconst 1, 1) := by decide +kernel
theorem dX3_leavingAt_18 : decode cX3_leavingAt 18 = .ok (.iand, 1) := by decide +kernel
theorem dX3_leavingAt_19 : decode cX3_leavingAt 19 = .ok (.iconst 1, 1) := by decide +kernel
theorem dX3_leavingAt_20 : decode cX3_leavingAt 20 = .ok (.if_icmp .ne 17, 3) := by decide +kernel
theorem dX3_leavingAt_23 : decode cX3_leavingAt 23 = .ok (.iload_n 0, 1) := by decide +kernel
theorem dX3_leavingAt_24 : decode cX3_leavingAt 24 = .ok (.iload 5, 2) := by decide +kernel
theorem dX3_leavingAt_26 : decode cX3_leavingAt 26 = .ok (.iload_n 2, 1) := by decide +kernel
theorem dX3_leavingAt_27 : decode cX3_leavingAt 27 = .ok (.invokestatic 38, 3) := by decide +kernel
theorem dX3_leavingAt_30 : decode cX3_leavingAt 30 = .ok (.iload_n 3, 1) := by decide +kernel
theorem dX3_leavingAt_31 : decode cX3_leavingAt 31 = .ok (.if_icmp .gt 6, 3) := by decide +kernel
theorem dX3_leavingAt_34 : decode cX3_leavingAt 34 = .ok (.iinc 4 1, 3) := by decide +kernel
theorem dX3_leavingAt_37 : decode cX3_leavingAt 37 = .ok (.iinc 5 1, 3) := by decide +kernel
theorem dX3_leavingAt_40 : decode cX3_leavingAt 40 = .ok (.goto (-34), 3) := by decide +kernel
theorem dX3_leavingAt_43 : decode cX3_leavingAt 43 = .ok (.iload 4, 2) := by decide +kernel
theorem dX3_leavingAt_45 : decode cX3_leavingAt 45 = .ok (.ireturn, 1) := by decide +kernel
set_option maxRecDepth 20000 in
theorem ggX3_shipKindsOf_X3_fitsNotes : GoodIn wsX3_shipKindsOf wsX3_fitsNotes := goodIn_r _ [5, 6, 7, 8, 9, 10, 11, 12, 13, 14, 15, 16, 17, 18, 19, 20, 32, 33, 34] (by decide +kernel) (by decide +kernel)
set_option maxRecDepth 20000 in
theorem gX3_shipKindsOf_X3_fitsNotes : GoodIn wsX3_shipKindsOf (va_wsS RX3 62 yX3_fitsNotes wsX3_fitsNotes) := goodIn_app (goodIn_of _ (by decide +kernel)) ggX3_shipKindsOf_X3_fitsNotes
theorem dX3_shipKindsOf_0 : decode cX3_shipKindsOf 0 = .ok (.iconst 0, 1) := by decide +kernel
theorem dX3_shipKindsOf_1 : decode cX3_shipKindsOf 1 = .ok (.istore_n 3, 1) := by decide +kernel
theorem dX3_shipKindsOf_2 : decode cX3_shipKindsOf 2 = .ok (.iconst 0, 1) := by decide +kernel
theorem dX3_shipKindsOf_3 : decode cX3_shipKindsOf 3 = .ok (.istore 4, 2) := by decide +kernel
theorem dX3_shipKindsOf_5 : decode cX3_shipKindsOf 5 = .ok (.iload 4, 2) := by decide +kernel
theorem dX3_shipKindsOf_7 : decode cX3_shipKindsOf 7 = .ok (.bipush 6, 2) := by decide +kernel
theorem dX3_shipKindsOf_9 : decode cX3_shipKindsOf 9 = .ok (.if_icmp .ge 29, 3) := by decide +kernel
theorem dX3_shipKindsOf_12 : decode cX3_shipKindsOf 12 = .ok (.aload_n 1, 1) := by decide +kernel
theorem dX3_shipKindsOf_13 : decode cX3_shipKindsOf 13 = .ok (.getfield 59, 3) := by decide +kernel
theorem dX3_shipKindsOf_16 : decode cX3_shipKindsOf 16 = .ok (.iload_n 2, 1) := by decide +kernel
theorem dX3_shipKindsOf_17 : decode cX3_shipKindsOf 17 = .ok (.iload 4, 2) := by decide +kernel
theorem dX3_shipKindsOf_19 : decode cX3_shipKindsOf 19 = .ok (.invokestatic 62, 3) := by decide +kernel
theorem dX3_shipKindsOf_22 : decode cX3_shipKindsOf 22 = .ok (.ifCond .eq 10, 3) := by decide +kernel
theorem dX3_shipKindsOf_25 : decode cX3_shipKindsOf 25 = .ok (.iload_n 3, 1) := by decide +kernel
theorem dX3_shipKindsOf_26 : decode cX3_shipKindsOf 26 = .ok (.iconst 1, 1) := by decide +kernel
theorem dX3_shipKindsOf_27 : decode cX3_shipKindsOf 27 = .ok (.iload 4, 2) := by decide +kernel
theorem dX3_shipKindsOf_29 : decode cX3_shipKindsOf 29 = .ok (.ishl, 1) := by decide +kernel
theorem dX3_shipKindsOf_30 : decode cX3_shipKindsOf 30 = .ok (.ior, 1) := by decide +kernel
theorem dX3_shipKindsOf_31 : decode cX3_shipKindsOf 31 = .ok (.istore_n 3, 1) := by decide +kernel
theorem dX3_shipKindsOf_32 : decode cX3_shipKindsOf 32 = .ok (.iinc 4 1, 3) := by decide +kernel
theorem dX3_shipKindsOf_35 : decode cX3_shipKindsOf 35 = .ok (.goto (-30), 3) := by decide +kernel
theorem dX3_shipKindsOf_38 : decode cX3_shipKindsOf 38 = .ok (.iload_n 3, 1) := by decide +kernel
theorem dX3_shipKindsOf_39 : decode cX3_shipKindsOf 39 = .ok (.ireturn, 1) := by decide +kernel
set_option maxRecDepth 20000 in
theorem ggX3_fitsNotes_X2_size : GoodIn wsX3_fitsNotes wsX2_size := goodIn_r _ [5, 6, 16, 17, 18] (by decide +kernel) (by decide +kernel)
set_option maxRecDepth 20000 in
theorem gX3_fitsNotes_X2_size : GoodIn wsX3_fitsNotes (wsV RX3 25 RX2 yX2_size wsX2_size) := goodIn_app (goodIn_of _ (by decide +kernel)) ggX3_fitsNotes_X2_size
set_option maxRecDepth 20000 in
theorem ggX3_fitsNotes_X2_cell : GoodIn wsX3_fitsNotes wsX2_cell := goodIn_r _ [10, 6, 11, 16, 17, 18] (by decide +kernel) (by decide +kernel)
set_option maxRecDepth 20000 in
theorem gX3_fitsNotes_X2_cell : GoodIn wsX3_fitsNotes (wsV RX3 31 RX2 yX2_cell wsX2_cell) := goodIn_app (goodIn_of _ (by decide +kernel)) ggX3_fitsNotes_X2_cell
set_option maxRecDepth 20000 in
theorem ggX3_fitsNotes_X5_need : GoodIn wsX3_fitsNotes wsX5_need := goodIn_r _ [15] (by decide +kernel) (by decide +kernel)
set_option maxRecDepth 20000 in
theorem gX3_fitsNotes_X5_need : GoodIn wsX3_fitsNotes (va_wsS RX3 66 yX5_need wsX5_need) := goodIn_app (goodIn_of _ (by decide +kernel)) ggX3_fitsNotes_X5_need
theorem dX3_fitsNotes_0 : decode cX3_fitsNotes 0 = .ok (.iconst 0, 1) := by decide +kernel
theorem dX3_fitsNotes_1 : decode cX3_fitsNotes 1 = .ok (.istore_n 3, 1) := by decide +kernel
theorem dX3_fitsNotes_2 : decode cX3_fitsNotes 2 = .ok (.iload_n 3, 1) := by decide +kernel
theorem dX3_fitsNotes_3 : decode cX3_fitsNotes 3 = .ok (.aload_n 0, 1) := by decide +kernel
theorem dX3_fitsNotes_4 : decode cX3_fitsNotes 4 = .ok (.invokevirtual 25, 3) := by decide +kernel
theorem dX3_fitsNotes_7 : decode cX3_fitsNotes 7 = .ok (.if_icmp .ge 46, 3) := by decide +kernel
theorem dX3_fitsNotes_10 : decode cX3_fitsNotes 10 = .ok (.aload_n 0, 1) := by decide +kernel
theorem dX3_fitsNotes_11 : decode cX3_fitsNotes 11 = .ok (.iload_n 3, 1) := by decide +kernel
theorem dX3_fitsNotes_12 : decode cX3_fitsNotes 12 = .ok (.iconst 0, 1) := by decide +kernel
theorem dX3_fitsNotes_13 : decode cX3_fitsNotes 13 = .ok (.invokevirtual 31, 3) := by decide +kernel
theorem dX3_fitsNotes_16 : decode cX3_fitsNotes 16 = .ok (.iload_n 1, 1) := by decide +kernel
theorem dX3_fitsNotes_17 : decode cX3_fitsNotes 17 = .ok (.if_icmp .ne 30, 3) := by decide +kernel
theorem dX3_fitsNotes_20 : decode cX3_fitsNotes 20 = .ok (.iload_n 2, 1) := by decide +kernel
theorem dX3_fitsNotes_21 : decode cX3_fitsNotes 21 = .ok (.aload_n 0, 1) := by decide +kernel
theorem dX3_fitsNotes_22 : decode cX3_fitsNotes 22 = .ok (.iload_n 3, 1) := by decide +kernel
theorem dX3_fitsNotes_23 : decode cX3_fitsNotes 23 = .ok (.iconst 1, 1) := by decide +kernel
theorem dX3_fitsNotes_24 : decode cX3_fitsNotes 24 = .ok (.invokevirtual 31, 3) := by decide +kernel
theorem dX3_fitsNotes_27 : decode cX3_fitsNotes 27 = .ok (.aload_n 0, 1) := by decide +kernel
theorem dX3_fitsNotes_28 : decode cX3_fitsNotes 28 = .ok (.iload_n 3, 1) := by decide +kernel
theorem dX3_fitsNotes_29 : decode cX3_fitsNotes 29 = .ok (.iconst 2, 1) := by decide +kernel
theorem dX3_fitsNotes_30 : decode cX3_fitsNotes 30 = .ok (.invokevirtual 31, 3) := by decide +kernel
theorem dX3_fitsNotes_33 : decode cX3_fitsNotes 33 = .ok (.invokestatic 66, 3) := by decide +kernel
theorem dX3_fitsNotes_36 : decode cX3_fitsNotes 36 = .ok (.aload_n 0, 1) := by decide +kernel
theorem dX3_fitsNotes_37 : decode cX3_fitsNotes 37 = .ok (.iload_n 3, 1) := by decide +kernel
theorem dX3_fitsNotes_38 : decode cX3_fitsNotes 38 = .ok (.iconst 3, 1) := by decide +kernel
theorem dX3_fitsNotes_39 : decode cX3_fitsNotes 39 = .ok (.invokevirtual 31, 3) := by decide +kernel
theorem dX3_fitsNotes_42 : decode cX3_fitsNotes 42 = .ok (.if_icmp .eq 5, 3) := by decide +kernel
theorem dX3_fitsNotes_45 : decode cX3_fitsNotes 45 = .ok (.iconst 0, 1) := by decide +kernel
theorem dX3_fitsNotes_46 : decode cX3_fitsNotes 46 = .ok (.ireturn, 1) := by decide +kernel
theorem dX3_fitsNotes_47 : decode cX3_fitsNotes 47 = .ok (.iinc 3 1, 3) := by decide +kernel
theorem dX3_fitsNotes_50 : decode cX3_fitsNotes 50 = .ok (.goto (-48), 3) := by decide +kernel
theorem dX3_fitsNotes_53 : decode cX3_fitsNotes 53 = .ok (.iconst 1, 1) := by decide +kernel
theorem dX3_fitsNotes_54 : decode cX3_fitsNotes 54 = .ok (.ireturn, 1) := by decide +kernel
set_option maxRecDepth 20000 in
theorem ggX3_bestNote_X5_need : GoodIn wsX3_bestNote wsX5_need := goodIn_r _ [5] (by decide +kernel) (by decide +kernel)
set_option maxRecDepth 20000 in
theorem gX3_bestNote_X5_need : GoodIn wsX3_bestNote (va_wsS RX3 66 yX5_need wsX5_need) := goodIn_app (goodIn_of _ (by decide +kernel)) ggX3_bestNote_X5_need
set_option maxRecDepth 20000 in
theorem ggX3_bestNote_X3_mostAlike : GoodIn wsX3_bestNote wsX3_mostAlike := goodIn_r _ [10, 1, 11, 12, 13, 14, 15] (by decide +kernel) (by decide +kernel)
set_option maxRecDepth 20000 in
theorem gX3_bestNote_X3_mostAlike : GoodIn wsX3_bestNote (wsV RX3 69 RX3 yX3_mostAlike wsX3_mostAlike) := goodIn_app (goodIn_of _ (by decide +kernel)) ggX3_bestNote_X3_mostAlike
theorem dX3_bestNote_0 : decode cX3_bestNote 0 = .ok (.iconst (-1), 1) := by decide +kernel
theorem dX3_bestNote_1 : decode cX3_bestNote 1 = .ok (.istore_n 2, 1) := by decide +kernel
theorem dX3_bestNote_2 : decode cX3_bestNote 2 = .ok (.bipush 7, 2) := by decide +kernel
theorem dX3_bestNote_4 : decode cX3_bestNote 4 = .ok (.istore_n 3, 1) := by decide +kernel
theorem dX3_bestNote_5 : decode cX3_bestNote 5 = .ok (.iconst 1, 1) := by decide +kernel
theorem dX3_bestNote_6 : decode cX3_bestNote 6 = .ok (.istore 4, 2) := by decide +kernel
theorem dX3_bestNote_8 : decode cX3_bestNote 8 = .ok (.iload_n 1, 1) := by decide +kernel
theorem dX3_bestNote_9 : decode cX3_bestNote 9 = .ok (.ifCond .eq 89, 3) := by decide +kernel
theorem dX3_bestNote_12 : decode cX3_bestNote 12 = .ok (.iload 4, 2) := by decide +kernel
theorem dX3_bestNote_14 : decode cX3_bestNote 14 = .ok (.bipush 30, 2) := by decide +kernel
theorem dX3_bestNote_16 : decode cX3_bestNote 16 = .ok (.if_icmp .gt 82, 3) := by decide +kernel
theorem dX3_bestNote_19 : decode cX3_bestNote 19 = .ok (.iconst 0, 1) := by decide +kernel
theorem dX3_bestNote_20 : decode cX3_bestNote 20 = .ok (.istore 5, 2) := by decide +kernel
theorem dX3_bestNote_22 : decode cX3_bestNote 22 = .ok (.iload 5, 2) := by decide +kernel
theorem dX3_bestNote_24 : decode cX3_bestNote 24 = .ok (.bipush 8, 2) := by decide +kernel
theorem dX3_bestNote_26 : decode cX3_bestNote 26 = .ok (.if_icmp .gt 66, 3) := by decide +kernel
theorem dX3_bestNote_29 : decode cX3_bestNote 29 = .ok (.iconst 0, 1) := by decide +kernel
theorem dX3_bestNote_30 : decode cX3_bestNote 30 = .ok (.istore 6, 2) := by decide +kernel
theorem dX3_bestNote_32 : decode cX3_bestNote 32 = .ok (.iload 6, 2) := by decide +kernel
theorem dX3_bestNote_34 : decode cX3_bestNote 34 = .ok (.bipush 6, 2) := by decide +kernel
theorem dX3_bestNote_36 : decode cX3_bestNote 36 = .ok (.if_icmp .ge 25, 3) := by decide +kernel
theorem dX3_bestNote_39 : decode cX3_bestNote 39 = .ok (.aload_n 0, 1) := by decide +kernel
theorem dX3_bestNote_40 : decode cX3_bestNote 40 = .ok (.getfield 9, 3) := by decide +kernel
theorem dX3_bestNote_43 : decode cX3_bestNote 43 = .ok (.iload 6, 2) := by decide +kernel
theorem dX3_bestNote_45 : decode cX3_bestNote 45 = .ok (.iload 6, 2) := by decide +kernel
theorem dX3_bestNote_47 : decode cX3_bestNote 47 = .ok (.iload 4, 2) := by decide +kernel
theorem dX3_bestNote_49 : decode cX3_bestNote 49 = .ok (.iload 5, 2) := by decide +kernel
theorem dX3_bestNote_51 : decode cX3_bestNote 51 = .ok (.invokestatic 66, 3) := by decide +kernel
theorem dX3_bestNote_54 : decode cX3_bestNote 54 = .ok (.iastore, 1) := by decide +kernel
theorem dX3_bestNote_55 : decode cX3_bestNote 55 = .ok (.iinc 6 1, 3) := by decide +kernel
theorem dX3_bestNote_58 : decode cX3_bestNote 58 = .ok (.goto (-26), 3) := by decide +kernel
theorem dX3_bestNote_61 : decode cX3_bestNote 61 = .ok (.aload_n 0, 1) := by decide +kernel
theorem dX3_bestNote_62 : decode cX3_bestNote 62 = .ok (.iload_n 1, 1) := by decide +kernel
theorem dX3_bestNote_63 : decode cX3_bestNote 63 = .ok (.invokevirtual 69, 3) := by decide +kernel
theorem dX3_bestNote_66 : decode cX3_bestNote 66 = .ok (.istore 6, 2) := by decide +kernel
theorem dX3_bestNote_68 : decode cX3_bestNote 68 = .ok (.iload 6, 2) := by decide +kernel
theorem dX3_bestNote_70 : decode cX3_bestNote 70 = .ok (.iload_n 3, 1) := by decide +kernel
theorem dX3_bestNote_71 : decode cX3_bestNote 71 = .ok (.if_icmp .ge 15, 3) := by decide +kernel
theorem dX3_bestNote_74 : decode cX3_bestNote 74 = .ok (.iload 6, 2) := by decide +kernel
theorem dX3_bestNote_76 : decode cX3_bestNote 76 = .ok (.istore_n 3, 1) := by decide +kernel
theorem dX3_bestNote_77 : decode cX3_bestNote 77 = .ok (.bipush 10, 2) := by decide +kernel
theorem dX3_bestNote_79 : decode cX3_bestNote 79 = .ok (.iload 4, 2) := by decide +kernel
theorem dX3_bestNote_81 : decode cX3_bestNote 81 = .ok (.imul, 1) := by decide +kernel
theorem dX3_bestNote_82 : decode cX3_bestNote 82 = .ok (.iload 5, 2) := by decide +kernel
theorem dX3_bestNote_84 : decode cX3_bestNote 84 = .ok (.iadd, 1) := by decide +kernel
theorem dX3_bestNote_85 : decode cX3_bestNote 85 = .ok (.istore_n 2, 1) := by decide +kernel
theorem dX3_bestNote_86 : decode cX3_bestNote 86 = .ok (.iinc 5 1, 3) := by decide +kernel
theorem dX3_bestNote_89 : decode cX3_bestNote 89 = .ok (.goto (-67), 3) := by decide +kernel
theorem dX3_bestNote_92 : decode cX3_bestNote 92 = .ok (.iinc 4 1, 3) := by decide +kernel
theorem dX3_bestNote_95 : decode cX3_bestNote 95 = .ok (.goto (-87), 3) := by decide +kernel
theorem dX3_bestNote_98 : decode cX3_bestNote 98 = .ok (.iload_n 2, 1) := by decide +kernel
theorem dX3_bestNote_99 : decode cX3_bestNote 99 = .ok (.ireturn, 1) := by decide +kernel
set_option maxRecDepth 20000 in
theorem ggX3_manKindsOf_X3_fitsMarks : GoodIn wsX3_manKindsOf wsX3_fitsMarks := goodIn_r _ [5, 6, 7, 8, 9, 10, 11, 12, 13, 14, 15, 16, 17, 18, 19, 20, 32, 33, 34] (by decide +kernel) (by decide +kernel)
set_option maxRecDepth 20000 in
theorem gX3_manKindsOf_X3_fitsMarks : GoodIn wsX3_manKindsOf (va_wsS RX3 75 yX3_fitsMarks wsX3_fitsMarks) := goodIn_app (goodIn_of _ (by decide +kernel)) ggX3_manKindsOf_X3_fitsMarks
theorem dX3_manKindsOf_0 : decode cX3_manKindsOf 0 = .ok (.iconst 0, 1) := by decide +kernel
theorem dX3_manKindsOf_1 : decode cX3_manKindsOf 1 = .ok (.istore_n 3, 1) := by decide +kernel
theorem dX3_manKindsOf_2 : decode cX3_manKindsOf 2 = .ok (.iconst 0, 1) := by decide +kernel
theorem dX3_manKindsOf_3 : decode cX3_manKindsOf 3 = .ok (.istore 4, 2) := by decide +kernel
theorem dX3_manKindsOf_5 : decode cX3_manKindsOf 5 = .ok (.iload 4, 2) := by decide +kernel
theorem dX3_manKindsOf_7 : decode cX3_manKindsOf 7 = .ok (.bipush 6, 2) := by decide +kernel
theorem dX3_manKindsOf_9 : decode cX3_manKindsOf 9 = .ok (.if_icmp .ge 29, 3) := by decide +kernel
theorem dX3_manKindsOf_12 : decode cX3_manKindsOf 12 = .ok (.aload_n 1, 1) := by decide +kernel
theorem dX3_manKindsOf_13 : decode cX3_manKindsOf 13 = .ok (.getfield 72, 3) := by decide +kernel
theorem dX3_manKindsOf_16 : decode cX3_manKindsOf 16 = .ok (.iload_n 2, 1) := by decide +kernel
theorem dX3_manKindsOf_17 : decode cX3_manKindsOf 17 = .ok (.iload 4, 2) := by decide +kernel
theorem dX3_manKindsOf_19 : decode cX3_manKindsOf 19 = .ok (.invokestatic 75, 3) := by decide +kernel
theorem dX3_manKindsOf_22 : decode cX3_manKindsOf 22 = .ok (.ifCond .eq 10, 3) := by decide +kernel
theorem dX3_manKindsOf_25 : decode cX3_manKindsOf 25 = .ok (.iload_n 3, 1) := by decide +kernel
theorem dX3_manKindsOf_26 : decode cX3_manKindsOf 26 = .ok (.iconst 1, 1) := by decide +kernel
theorem dX3_manKindsOf_27 : decode cX3_manKindsOf 27 = .ok (.iload 4, 2) := by decide +kernel
theorem dX3_manKindsOf_29 : decode cX3_manKindsOf 29 = .ok (.ishl, 1) := by decide +kernel
theorem dX3_manKindsOf_30 : decode cX3_manKindsOf 30 = .ok (.ior, 1) := by decide +kernel
theorem dX3_manKindsOf_31 : decode cX3_manKindsOf 31 = .ok (.istore_n 3, 1) := by decide +kernel
theorem dX3_manKindsOf_32 : decode cX3_manKindsOf 32 = .ok (.iinc 4 1, 3) := by decide +kernel
theorem dX3_manKindsOf_35 : decode cX3_manKindsOf 35 = .ok (.goto (-30), 3) := by decide +kernel
theorem dX3_manKindsOf_38 : decode cX3_manKindsOf 38 = .ok (.iload_n 3, 1) := by decide +kernel
theorem dX3_manKindsOf_39 : decode cX3_manKindsOf 39 = .ok (.ireturn, 1) := by decide +kernel
set_option maxRecDepth 20000 in
theorem ggX3_fitsMarks_X2_size : GoodIn wsX3_fitsMarks wsX2_size := goodIn_r _ [5, 6, 16, 17, 18] (by decide +kernel) (by decide +kernel)
set_option maxRecDepth 20000 in
theorem gX3_fitsMarks_X2_size : GoodIn wsX3_fitsMarks (wsV RX3 25 RX2 yX2_size wsX2_size) := goodIn_app (goodIn_of _ (by decide +kernel)) ggX3_fitsMarks_X2_size
set_option maxRecDepth 20000 in
theorem ggX3_fitsMarks_X2_cell : GoodIn wsX3_fitsMarks wsX2_cell := goodIn_r _ [10, 6, 11, 16, 17, 18] (by decide +kernel) (by decide +kernel)
set_option maxRecDepth 20000 in
theorem gX3_fitsMarks_X2_cell : GoodIn wsX3_fitsMarks (wsV RX3 31 RX2 yX2_cell wsX2_cell) := goodIn_app (goodIn_of _ (by decide +kernel)) ggX3_fitsMarks_X2_cell
set_option maxRecDepth 20000 in
theorem ggX3_fitsMarks_X5_liked : GoodIn wsX3_fitsMarks wsX5_liked := goodIn_r _ [15] (by decide +kernel) (by decide +kernel)
set_option maxRecDepth 20000 in
theorem gX3_fitsMarks_X5_liked : GoodIn wsX3_fitsMarks (va_wsS RX3 38 yX5_liked wsX5_liked) := goodIn_app (goodIn_of _ (by decide +kernel)) ggX3_fitsMarks_X5_liked
theorem dX3_fitsMarks_0 : decode cX3_fitsMarks 0 = .ok (.iconst 0, 1) := by decide +kernel
theorem dX3_fitsMarks_1 : decode cX3_fitsMarks 1 = .ok (.istore_n 3, 1) := by decide +kernel
theorem dX3_fitsMarks_2 : decode cX3_fitsMarks 2 = .ok (.iload_n 3, 1) := by decide +kernel
theorem dX3_fitsMarks_3 : decode cX3_fitsMarks 3 = .ok (.aload_n 0, 1) := by decide +kernel
theorem dX3_fitsMarks_4 : decode cX3_fitsMarks 4 = .ok (.invokevirtual 25, 3) := by decide +kernel
theorem dX3_fitsMarks_7 : decode cX3_fitsMarks 7 = .ok (.if_icmp .ge 46, 3) := by decide +kernel
theorem dX3_fitsMarks_10 : decode cX3_fitsMarks 10 = .ok (.aload_n 0, 1) := by decide +kernel
theorem dX3_fitsMarks_11 : decode cX3_fitsMarks 11 = .ok (.iload_n 3, 1) := by decide +kernel
theorem dX3_fitsMarks_12 : decode cX3_fitsMarks 12 = .ok (.iconst 0, 1) := by decide +kernel
theorem dX3_fitsMarks_13 : decode cX3_fitsMarks 13 = .ok (.invokevirtual 31, 3) := by decide +kernel
theorem dX3_fitsMarks_16 : decode cX3_fitsMarks 16 = .ok (.iload_n 1, 1) := by decide +kernel
theorem dX3_fitsMarks_17 : decode cX3_fitsMarks 17 = .ok (.if_icmp .ne 30, 3) := by decide +kernel
theorem dX3_fitsMarks_20 : decode cX3_fitsMarks 20 = .ok (.iload_n 2, 1) := by decide +kernel
theorem dX3_fitsMarks_21 : decode cX3_fitsMarks 21 = .ok (.aload_n 0, 1) := by decide +kernel
theorem dX3_fitsMarks_22 : decode cX3_fitsMarks 22 = .ok (.iload_n 3, 1) := by decide +kernel
theorem dX3_fitsMarks_23 : decode cX3_fitsMarks 23 = .ok (.iconst 1, 1) := by decide +kernel
theorem dX3_fitsMarks_24 : decode cX3_fitsMarks 24 = .ok (.invokevirtual 31, 3) := by decide +kernel
theorem dX3_fitsMarks_27 : decode cX3_fitsMarks 27 = .ok (.aload_n 0, 1) := by decide +kernel
theorem dX3_fitsMarks_28 : decode cX3_fitsMarks 28 = .ok (.iload_n 3, 1) := by decide +kernel
theorem dX3_fitsMarks_29 : decode cX3_fitsMarks 29 = .ok (.iconst 2, 1) := by decide +kernel
theorem dX3_fitsMarks_30 : decode cX3_fitsMarks 30 = .ok (.invokevirtual 31, 3) := by decide +kernel
theorem dX3_fitsMarks_33 : decode cX3_fitsMarks 33 = .ok (.invokestatic 38, 3) := by decide +kernel
theorem dX3_fitsMarks_36 : decode cX3_fitsMarks 36 = .ok (.aload_n 0, 1) := by decide +kernel
theorem dX3_fitsMarks_37 : decode cX3_fitsMarks 37 = .ok (.iload_n 3, 1) := by decide +kernel
theorem dX3_fitsMarks_38 : decode cX3_fitsMarks 38 = .ok (.iconst 3, 1) := by decide +kernel
theorem dX3_fitsMarks_39 : decode cX3_fitsMarks 39 = .ok (.invokevirtual 31, 3) := by decide +kernel
theorem dX3_fitsMarks_42 : decode cX3_fitsMarks 42 = .ok (.if_icmp .eq 5, 3) := by decide +kernel
theorem dX3_fitsMarks_45 : decode cX3_fitsMarks 45 = .ok (.iconst 0, 1) := by decide +kernel
theorem dX3_fitsMarks_46 : decode cX3_fitsMarks 46 = .ok (.ireturn, 1) := by decide +kernel
theorem dX3_fitsMarks_47 : decode cX3_fitsMarks 47 = .ok (.iinc 3 1, 3) := by decide +kernel
theorem dX3_fitsMarks_50 : decode cX3_fitsMarks 50 = .ok (.goto (-48), 3) := by decide +kernel
theorem dX3_fitsMarks_53 : decode cX3_fitsMarks 53 = .ok (.iconst 1, 1) := by decide +kernel
theorem dX3_fitsMarks_54 : decode cX3_fitsMarks 54 = .ok (.ireturn, 1) := by decide +kernel
set_option maxRecDepth 20000 in
theorem ggX3_bestMark_X5_liked : GoodIn wsX3_bestMark wsX5_liked := goodIn_r _ [5] (by decide +kernel) (by decide +kernel)
set_option maxRecDepth 20000 in
theorem gX3_bestMark_X5_liked : GoodIn wsX3_bestMark (va_wsS RX3 38 yX5_liked wsX5_liked) := goodIn_app (goodIn_of _ (by decide +kernel)) ggX3_bestMark_X5_liked
set_option maxRecDepth 20000 in
theorem ggX3_bestMark_X3_mostAlike : GoodIn wsX3_bestMark wsX3_mostAlike := goodIn_r _ [10, 1, 11, 12, 13, 14, 15] (by decide +kernel) (by decide +kernel)
set_option maxRecDepth 20000 in
theorem gX3_bestMark_X3_mostAlike : GoodIn wsX3_bestMark (wsV RX3 69 RX3 yX3_mostAlike wsX3_mostAlike) := goodIn_app (goodIn_of _ (by decide +kernel)) ggX3_bestMark_X3_mostAlike
theorem dX3_bestMark_0 : decode cX3_bestMark 0 = .ok (.iconst (-1), 1) := by decide +kernel
theorem dX3_bestMark_1 : decode cX3_bestMark 1 = .ok (.istore_n 3, 1) := by decide +kernel
theorem dX3_bestMark_2 : decode cX3_bestMark 2 = .ok (.bipush 7, 2) := by decide +kernel
theorem dX3_bestMark_4 : decode cX3_bestMark 4 = .ok (.istore 4, 2) := by decide +kernel
theorem dX3_bestMark_6 : decode cX3_bestMark 6 = .ok (.iconst 0, 1) := by decide +kernel
theorem dX3_bestMark_7 : decode cX3_bestMark 7 = .ok (.istore 5, 2) := by decide +kernel
theorem dX3_bestMark_9 : decode cX3_bestMark 9 = .ok (.iload_n 2, 1) := by decide +kernel
theorem dX3_bestMark_10 : decode cX3_bestMark 10 = .ok (.ifCond .eq 68, 3) := by decide +kernel
theorem dX3_bestMark_13 : decode cX3_bestMark 13 = .ok (.iload 5, 2) := by decide +kernel
theorem dX3_bestMark_15 : decode cX3_bestMark 15 = .ok (.bipush 9, 2) := by decide +kernel
theorem dX3_bestMark_17 : decode cX3_bestMark 17 = .ok (.if_icmp .gt 61, 3) := by decide +kernel
theorem dX3_bestMark_20 : decode cX3_bestMark 20 = .ok (.iconst 0, 1) := by decide +kernel
theorem dX3_bestMark_21 : decode cX3_bestMark 21 = .ok (.istore 6, 2) := by decide +kernel
theorem dX3_bestMark_23 : decode cX3_bestMark 23 = .ok (.iload 6, 2) := by decide +kernel
theorem dX3_bestMark_25 : decode cX3_bestMark 25 = .ok (.bipush 6, 2) := by decide +kernel
theorem dX3_bestMark_27 : decode cX3_bestMark 27 = .ok (.if_icmp .ge 24, 3) := by decide +kernel
theorem dX3_bestMark_30 : decode cX3_bestMark 30 = .ok (.aload_n 0, 1) := by decide +kernel
theorem dX3_bestMark_31 : decode cX3_bestMark 31 = .ok (.getfield 9, 3) := by decide +kernel
theorem dX3_bestMark_34 : decode cX3_bestMark 34 = .ok (.iload 6, 2) := by decide +kernel
theorem dX3_bestMark_36 : decode cX3_bestMark 36 = .ok (.iload 6, 2) := by decide +kernel
theorem dX3_bestMark_38 : decode cX3_bestMark 38 = .ok (.iload_n 1, 1) := by decide +kernel
theorem dX3_bestMark_39 : decode cX3_bestMark 39 = .ok (.iload 5, 2) := by decide +kernel
theorem dX3_bestMark_41 : decode cX3_bestMark 41 = .ok (.invokestatic 38, 3) := by decide +kernel
theorem dX3_bestMark_44 : decode cX3_bestMark 44 = .ok (.iastore, 1) := by decide +kernel
theorem dX3_bestMark_45 : decode cX3_bestMark 45 = .ok (.iinc 6 1, 3) := by decide +kernel
theorem dX3_bestMark_48 : decode cX3_bestMark 48 = .ok (.goto (-25), 3) := by decide +kernel
theorem dX3_bestMark_51 : decode cX3_bestMark 51 = .ok (.aload_n 0, 1) := by decide +kernel
theorem dX3_bestMark_52 : decode cX3_bestMark 52 = .ok (.iload_n 2, 1) := by decide +kernel
theorem dX3_bestMark_53 : decode cX3_bestMark 53 = .ok (.invokevirtual 69, 3) := by decide +kernel
theorem dX3_bestMark_56 : decode cX3_bestMark 56 = .ok (.istore 6, 2) := by decide +kernel
theorem dX3_bestMark_58 : decode cX3_bestMark 58 = .ok (.iload 6, 2) := by decide +kernel
theorem dX3_bestMark_60 : decode cX3_bestMark 60 = .ok (.iload 4, 2) := by decide +kernel
theorem dX3_bestMark_62 : decode cX3_bestMark 62 = .ok (.if_icmp .ge 10, 3) := by decide +kernel
theorem dX3_bestMark_65 : decode cX3_bestMark 65 = .ok (.iload 6, 2) := by decide +kernel
theorem dX3_bestMark_67 : decode cX3_bestMark 67 = .ok (.istore 4, 2) := by decide +kernel
theorem dX3_bestMark_69 : decode cX3_bestMark 69 = .ok (.iload 5, 2) := by decide +kernel
theorem dX3_bestMark_71 : decode cX3_bestMark 71 = .ok (.istore_n 3, 1) := by decide +kernel
theorem dX3_bestMark_72 : decode cX3_bestMark 72 = .ok (.iinc 5 1, 3) := by decide +kernel
theorem dX3_bestMark_75 : decode cX3_bestMark 75 = .ok (.goto (-66), 3) := by decide +kernel
theorem dX3_bestMark_78 : decode cX3_bestMark 78 = .ok (.iload_n 3, 1) := by decide +kernel
theorem dX3_bestMark_79 : decode cX3_bestMark 79 = .ok (.ireturn, 1) := by decide +kernel
theorem dX3_mostAlike_0 : decode cX3_mostAlike 0 = .ok (.iconst 0, 1) := by decide +kernel
theorem dX3_mostAlike_1 : decode cX3_mostAlike 1 = .ok (.istore_n 2, 1) := by decide +kernel
theorem dX3_mostAlike_2 : decode cX3_mostAlike 2 = .ok (.iconst 0, 1) := by decide +kernel
theorem dX3_mostAlike_3 : decode cX3_mostAlike 3 = .ok (.istore_n 3, 1) := by decide +kernel
theorem dX3_mostAlike_4 : decode cX3_mostAlike 4 = .ok (.iload_n 3, 1) := by decide +kernel
theorem dX3_mostAlike_5 : decode cX3_mostAlike 5 = .ok (.bipush 6, 2) := by decide +kernel
theorem dX3_mostAlike_7 : decode cX3_mostAlike 7 = .ok (.if_icmp .ge 68, 3) := by decide +kernel
theorem dX3_mostAlike_10 : decode cX3_mostAlike 10 = .ok (.iconst 0, 1) := by decide +kernel
theorem dX3_mostAlike_11 : decode cX3_mostAlike 11 = .ok (.istore 4, 2) := by decide +kernel
theorem dX3_mostAlike_13 : decode cX3_mostAlike 13 = .ok (.iconst 0, 1) := by decide +kernel
theorem dX3_mostAlike_14 : decode cX3_mostAlike 14 = .ok (.istore 5, 2) := by decide +kernel
theorem dX3_mostAlike_16 : decode cX3_mostAlike 16 = .ok (.iload 5, 2) := by decide +kernel
theorem dX3_mostAlike_18 : decode cX3_mostAlike 18 = .ok (.bipush 6, 2) := by decide +kernel
theorem dX3_mostAlike_20 : decode cX3_mostAlike 20 = .ok (.if_icmp .ge 42, 3) := by decide +kernel
theorem dX3_mostAlike_23 : decode cX3_mostAlike 23 = .ok (.iload_n 1, 1) := by decide +kernel
theorem dX3_mostAlike_24 : decode cX3_mostAlike 24 = .ok (.iload_n 3, 1) := by decide +kernel
theorem dX3_mostAlike_25 : decode cX3_mostAlike 25 = .ok (.ishr, 1) := by decide +kernel
theorem dX3_mostAlike_26 : decode cX3_mostAlike 26 = .ok (.iload_n 1, 1) := by decide +kernel
theorem dX3_mostAlike_27 : decode cX3_mostAlike 27 = .ok (.iload 5, 2) := by decide +kernel
theorem dX3_mostAlike_29 : decode cX3_mostAlike 29 = .ok (.ishr, 1) := by decide +kernel
theorem dX3_mostAlike_30 : decode cX3_mostAlike 30 = .ok (.iand, 1) := by decide +kernel
theorem dX3_mostAlike_31 : decode cX3_mostAlike 31 = .ok (.iconst 1, 1) := by decide +kernel
theorem dX3_mostAlike_32 : decode cX3_mostAlike 32 = .ok (.iand, 1) := by decide +kernel
theorem dX3_mostAlike_33 : decode cX3_mostAlike 33 = .ok (.iconst 1, 1) := by decide +kernel
theorem dX3_mostAlike_34 : decode cX3_mostAlike 34 = .ok (.if_icmp .ne 22, 3) := by decide +kernel
theorem dX3_mostAlike_37 : decode cX3_mostAlike 37 = .ok (.aload_n 0, 1) := by decide +kernel
theorem dX3_mostAlike_38 : decode cX3_mostAlike 38 = .ok (.getfield 9, 3) := by decide +kernel
theorem dX3_mostAlike_41 : decode cX3_mostAlike 41 = .ok (.iload_n 3, 1) := by decide +kernel
theorem dX3_mostAlike_42 : decode cX3_mostAlike 42 = .ok (.iaload, 1) := by decide +kernel
theorem dX3_mostAlike_43 : decode cX3_mostAlike 43 = .ok (.aload_n 0, 1) := by decide +kernel
theorem dX3_mostAlike_44 : decode cX3_mostAlike 44 = .ok (.getfield 9, 3) := by decide +kernel
theorem dX3_mostAlike_47 : decode cX3_mostAlike 47 = .ok (.iload 5, 2) := by decide +kernel
theorem dX3_mostAlike_49 : decode cX3_mostAlike 49 = .ok (.iaload, 1) := by decide +kernel
theorem dX3_mostAlike_50 : decode cX3_mostAlike 50 = .ok (.if_icmp .ne 6, 3) := by decide +kernel
theorem dX3_mostAlike_53 : decode cX3_mostAlike 53 = .ok (.iinc 4 1, 3) := by decide +kernel
theorem dX3_mostAlike_56 : decode cX3_mostAlike 56 = .ok (.iinc 5 1, 3) := by decide +kernel
theorem dX3_mostAlike_59 : decode cX3_mostAlike 59 = .ok (.goto (-43), 3) := by decide +kernel
theorem dX3_mostAlike_62 : decode cX3_mostAlike 62 = .ok (.iload_n 2, 1) := by decide +kernel
theorem dX3_mostAlike_63 : decode cX3_mostAlike 63 = .ok (.iload 4, 2) := by decide +kernel
theorem dX3_mostAlike_65 : decode cX3_mostAlike 65 = .ok (.invokestatic 54, 3) := by decide +kernel
theorem dX3_mostAlike_68 : decode cX3_mostAlike 68 = .ok (.istore_n 2, 1) := by decide +kernel
theorem dX3_mostAlike_69 : decode cX3_mostAlike 69 = .ok (.iinc 3 1, 3) := by decide +kernel
theorem dX3_mostAlike_72 : decode cX3_mostAlike 72 = .ok (.goto (-68), 3) := by decide +kernel
theorem dX3_mostAlike_75 : decode cX3_mostAlike 75 = .ok (.iload_n 2, 1) := by decide +kernel
theorem dX3_mostAlike_76 : decode cX3_mostAlike 76 = .ok (.ireturn, 1) := by decide +kernel
