theorem dX5_need_0 : decode cX5_need 0 = .ok (.iconst 2, 1) := by decide +kernel
theorem dX5_need_1 : decode cX5_need 1 = .ok (.iload_n 1, 1) := by decide +kernel
theorem dX5_need_2 : decode cX5_need 2 = .ok (.imul, 1) := by decide +kernel
theorem dX5_need_3 : decode cX5_need 3 = .ok (.istore_n 3, 1) := by decide +kernel
theorem dX5_need_4 : decode cX5_need 4 = .ok (.iload_n 3, 1) := by decide +kernel
theorem dX5_need_5 : decode cX5_need 5 = .ok (.iconst 4, 1) := by decide +kernel
theorem dX5_need_6 : decode cX5_need 6 = .ok (.iadd, 1) := by decide +kernel
theorem dX5_need_7 : decode cX5_need 7 = .ok (.istore 4, 2) := by decide +kernel
theorem dX5_need_9 : decode cX5_need 9 = .ok (.iload_n 3, 1) := by decide +kernel
theorem dX5_need_10 : decode cX5_need 10 = .ok (.iconst 1, 1) := by decide +kernel
theorem dX5_need_11 : decode cX5_need 11 = .ok (.iadd, 1) := by decide +kernel
theorem dX5_need_12 : decode cX5_need 12 = .ok (.iconst 2, 1) := by decide +kernel
theorem dX5_need_13 : decode cX5_need 13 = .ok (.idiv, 1) := by decide +kernel
theorem dX5_need_14 : decode cX5_need 14 = .ok (.istore 5, 2) := by decide +kernel
theorem dX5_need_16 : decode cX5_need 16 = .ok (.iload_n 0, 1) := by decide +kernel
theorem dX5_need_17 : decode cX5_need 17 = .ok (.tableswitch 95 1 5 #[35, 38, 41, 62, 75], 35) := by decide +kernel
theorem dX5_need_52 : decode cX5_need 52 = .ok (.iload 4, 2) := by decide +kernel
theorem dX5_need_54 : decode cX5_need 54 = .ok (.ireturn, 1) := by decide +kernel
theorem dX5_need_55 : decode cX5_need 55 = .ok (.iload 5, 2) := by decide +kernel
theorem dX5_need_57 : decode cX5_need 57 = .ok (.ireturn, 1) := by decide +kernel
theorem dX5_need_58 : decode cX5_need 58 = .ok (.iload 4, 2) := by decide +kernel
theorem dX5_need_60 : decode cX5_need 60 = .ok (.iconst 2, 1) := by decide +kernel
theorem dX5_need_61 : decode cX5_need 61 = .ok (.iload_n 2, 1) := by decide +kernel
theorem dX5_need_62 : decode cX5_need 62 = .ok (.imul, 1) := by decide +kernel
theorem dX5_need_63 : decode cX5_need 63 = .ok (.isub, 1) := by decide +kernel
theorem dX5_need_64 : decode cX5_need 64 = .ok (.iconst 1, 1) := by decide +kernel
theorem dX5_need_65 : decode cX5_need 65 = .ok (.if_icmp .ge 7, 3) := by decide +kernel
theorem dX5_need_68 : decode cX5_need 68 = .ok (.iconst 1, 1) := by decide +kernel
theorem dX5_need_69 : decode cX5_need 69 = .ok (.goto 9, 3) := by decide +kernel
theorem dX5_need_72 : decode cX5_need 72 = .ok (.iload 4, 2) := by decide +kernel
theorem dX5_need_74 : decode cX5_need 74 = .ok (.iconst 2, 1) := by decide +kernel
theorem dX5_need_75 : decode cX5_need 75 = .ok (.iload_n 2, 1) := by decide +kernel
theorem dX5_need_76 : decode cX5_need 76 = .ok (.imul, 1) := by decide +kernel
theorem dX5_need_77 : decode cX5_need 77 = .ok (.isub, 1) := by decide +kernel
theorem dX5_need_78 : decode cX5_need 78 = .ok (.ireturn, 1) := by decide +kernel
theorem dX5_need_79 : decode cX5_need 79 = .ok (.iload_n 2, 1) := by decide +kernel
theorem dX5_need_80 : decode cX5_need 80 = .ok (.iconst 4, 1) := by decide +kernel
theorem dX5_need_81 : decode cX5_need 81 = .ok (.if_icmp .lt 9, 3) := by decide +kernel
theorem dX5_need_84 : decode cX5_need 84 = .ok (.iload_n 3, 1) := by decide +kernel
theorem dX5_need_85 : decode cX5_need 85 = .ok (.iconst 5, 1) := by decide +kernel
theorem dX5_need_86 : decode cX5_need 86 = .ok (.iadd, 1) := by decide +kernel
theorem dX5_need_87 : decode cX5_need 87 = .ok (.goto 4, 3) := by decide +kernel
theorem dX5_need_90 : decode cX5_need 90 = .ok (.iload_n 3, 1) := by decide +kernel
theorem dX5_need_91 : decode cX5_need 91 = .ok (.ireturn, 1) := by decide +kernel
theorem dX5_need_92 : decode cX5_need 92 = .ok (.iload_n 2, 1) := by decide +kernel
theorem dX5_need_93 : decode cX5_need 93 = .ok (.iconst 2, 1) := by decide +kernel
theorem dX5_need_94 : decode cX5_need 94 = .ok (.if_icmp .gt 15, 3) := by decide +kernel
theorem dX5_need_97 : decode cX5_need 97 = .ok (.iload 5, 2) := by decide +kernel
theorem dX5_need_99 : decode cX5_need 99 = .ok (.bipush 9, 2) := by decide +kernel
theorem dX5_need_101 : decode cX5_need 101 = .ok (.if_icmp .le 8, 3) := by decide +kernel
theorem dX5_need_104 : decode cX5_need 104 = .ok (.bipush 9, 2) := by decide +kernel
theorem dX5_need_106 : decode cX5_need 106 = .ok (.goto 5, 3) := by decide +kernel
theorem dX5_need_109 : decode cX5_need 109 = .ok (.iload 5, 2) := by decide +kernel
theorem dX5_need_111 : decode cX5_need 111 = .ok (.ireturn, 1) := by decide +kernel
theorem dX5_need_112 : decode cX5_need 112 = .ok (.iload_n 3, 1) := by decide +kernel
theorem dX5_need_113 : decode cX5_need 113 = .ok (.ireturn, 1) := by decide +kernel
theorem dX5_liked_0 : decode cX5_liked 0 = .ok (.iload_n 1, 1) := by decide +kernel
theorem dX5_liked_1 : decode cX5_liked 1 = .ok (.istore_n 3, 1) := by decide +kernel
theorem dX5_liked_2 : decode cX5_liked 2 = .ok (.iload_n 3, 1) := by decide +kernel
theorem dX5_liked_3 : decode cX5_liked 3 = .ok (.iconst 5, 1) := by decide +kernel
theorem dX5_liked_4 : decode cX5_liked 4 = .ok (.iadd, 1) := by decide +kernel
theorem dX5_liked_5 : decode cX5_liked 5 = .ok (.istore 4, 2) := by decide +kernel
theorem dX5_liked_7 : decode cX5_liked 7 = .ok (.iload_n 3, 1) := by decide +kernel
theorem dX5_liked_8 : decode cX5_liked 8 = .ok (.iload_n 2, 1) := by decide +kernel
theorem dX5_liked_9 : decode cX5_liked 9 = .ok (.if_icmp .ge 7, 3) := by decide +kernel
theorem dX5_liked_12 : decode cX5_liked 12 = .ok (.iconst 0, 1) := by decide +kernel
theorem dX5_liked_13 : decode cX5_liked 13 = .ok (.goto 6, 3) := by decide +kernel
theorem dX5_liked_16 : decode cX5_liked 16 = .ok (.iload_n 3, 1) := by decide +kernel
theorem dX5_liked_17 : decode cX5_liked 17 = .ok (.iload_n 2, 1) := by decide +kernel
theorem dX5_liked_18 : decode cX5_liked 18 = .ok (.isub, 1) := by decide +kernel
theorem dX5_liked_19 : decode cX5_liked 19 = .ok (.istore 5, 2) := by decide +kernel
theorem dX5_liked_21 : decode cX5_liked 21 = .ok (.iload_n 0, 1) := by decide +kernel
theorem dX5_liked_22 : decode cX5_liked 22 = .ok (.tableswitch 83 1 5 #[34, 37, 40, 55, 66], 34) := by decide +kernel
theorem dX5_liked_56 : decode cX5_liked 56 = .ok (.iload 4, 2) := by decide +kernel
theorem dX5_liked_58 : decode cX5_liked 58 = .ok (.ireturn, 1) := by decide +kernel
theorem dX5_liked_59 : decode cX5_liked 59 = .ok (.iload 5, 2) := by decide +kernel
theorem dX5_liked_61 : decode cX5_liked 61 = .ok (.ireturn, 1) := by decide +kernel
theorem dX5_liked_62 : decode cX5_liked 62 = .ok (.iload_n 2, 1) := by decide +kernel
theorem dX5_liked_63 : decode cX5_liked 63 = .ok (.iconst 2, 1) := by decide +kernel
theorem dX5_liked_64 : decode cX5_liked 64 = .ok (.if_icmp .lt 10, 3) := by decide +kernel
theorem dX5_liked_67 : decode cX5_liked 67 = .ok (.iconst 2, 1) := by decide +kernel
theorem dX5_liked_68 : decode cX5_liked 68 = .ok (.iload 4, 2) := by decide +kernel
theorem dX5_liked_70 : decode cX5_liked 70 = .ok (.imul, 1) := by decide +kernel
theorem dX5_liked_71 : decode cX5_liked 71 = .ok (.goto 5, 3) := by decide +kernel
theorem dX5_liked_74 : decode cX5_liked 74 = .ok (.iload 4, 2) := by decide +kernel
theorem dX5_liked_76 : decode cX5_liked 76 = .ok (.ireturn, 1) := by decide +kernel
theorem dX5_liked_77 : decode cX5_liked 77 = .ok (.iload_n 2, 1) := by decide +kernel
theorem dX5_liked_78 : decode cX5_liked 78 = .ok (.iconst 3, 1) := by decide +kernel
theorem dX5_liked_79 : decode cX5_liked 79 = .ok (.if_icmp .ge 7, 3) := by decide +kernel
theorem dX5_liked_82 : decode cX5_liked 82 = .ok (.iconst 0, 1) := by decide +kernel
theorem dX5_liked_83 : decode cX5_liked 83 = .ok (.goto 4, 3) := by decide +kernel
theorem dX5_liked_86 : decode cX5_liked 86 = .ok (.iload_n 3, 1) := by decide +kernel
theorem dX5_liked_87 : decode cX5_liked 87 = .ok (.ireturn, 1) := by decide +kernel
theorem dX5_liked_88 : decode cX5_liked 88 = .ok (.iload_n 2, 1) := by decide +kernel
theorem dX5_liked_89 : decode cX5_liked 89 = .ok (.iconst 5, 1) := by decide +kernel
theorem dX5_liked_90 : decode cX5_liked 90 = .ok (.irem, 1) := by decide +kernel
theorem dX5_liked_91 : decode cX5_liked 91 = .ok (.iconst 4, 1) := by decide +kernel
theorem dX5_liked_92 : decode cX5_liked 92 = .ok (.if_icmp .ne 7, 3) := by decide +kernel
theorem dX5_liked_95 : decode cX5_liked 95 = .ok (.iconst 0, 1) := by decide +kernel
theorem dX5_liked_96 : decode cX5_liked 96 = .ok (.goto 8, 3) := by decide +kernel
theorem dX5_liked_99 : decode cX5_liked 99 = .ok (.iload 5, 2) := by decide +kernel
theorem dX5_liked_101 : decode cX5_liked 101 = .ok (.bipush 9, 2) := by decide +kernel
theorem dX5_liked_103 : decode cX5_liked 103 = .ok (.iadd, 1) := by decide +kernel
theorem dX5_liked_104 : decode cX5_liked 104 = .ok (.ireturn, 1) := by decide +kernel
theorem dX5_liked_105 : decode cX5_liked 105 = .ok (.iload_n 3, 1) := by decide +kernel
theorem dX5_liked_106 : decode cX5_liked 106 = .ok (.ireturn, 1) := by decide +kernel
