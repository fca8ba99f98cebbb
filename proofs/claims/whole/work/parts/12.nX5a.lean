theorem dX5_init_0 : decode cX5_init 0 = .ok (.aload_n 0, 1) := by decide +kernel
theorem dX5_init_1 : decode cX5_init 1 = .ok (.invokespecial 1, 3) := by decide +kernel
theorem dX5_init_4 : decode cX5_init 4 = .ok (.aload_n 0, 1) := by decide +kernel
theorem dX5_init_5 : decode cX5_init 5 = .ok (.bipush 80, 2) := by decide +kernel
theorem dX5_init_7 : decode cX5_init 7 = .ok (.newarray .int, 2) := by decide +kernel
theorem dX5_init_9 : decode cX5_init 9 = .ok (.putfield 7, 3) := by decide +kernel
theorem dX5_init_12 : decode cX5_init 12 = .ok (.aload_n 0, 1) := by decide +kernel
theorem dX5_init_13 : decode cX5_init 13 = .ok (.sipush 640, 3) := by decide +kernel
theorem dX5_init_16 : decode cX5_init 16 = .ok (.newarray .int, 2) := by decide +kernel
theorem dX5_init_18 : decode cX5_init 18 = .ok (.putfield 13, 3) := by decide +kernel
theorem dX5_init_21 : decode cX5_init 21 = .ok (.aload_n 0, 1) := by decide +kernel
theorem dX5_init_22 : decode cX5_init 22 = .ok (.iconst 3, 1) := by decide +kernel
theorem dX5_init_23 : decode cX5_init 23 = .ok (.newarray .int, 2) := by decide +kernel
theorem dX5_init_25 : decode cX5_init 25 = .ok (.putfield 16, 3) := by decide +kernel
theorem dX5_init_28 : decode cX5_init 28 = .ok (.aload_n 0, 1) := by decide +kernel
theorem dX5_init_29 : decode cX5_init 29 = .ok (.bipush 100, 2) := by decide +kernel
theorem dX5_init_31 : decode cX5_init 31 = .ok (.newarray .int, 2) := by decide +kernel
theorem dX5_init_33 : decode cX5_init 33 = .ok (.putfield 19, 3) := by decide +kernel
theorem dX5_init_36 : decode cX5_init 36 = .ok (.aload_n 0, 1) := by decide +kernel
theorem dX5_init_37 : decode cX5_init 37 = .ok (.iconst (-1), 1) := by decide +kernel
theorem dX5_init_38 : decode cX5_init 38 = .ok (.putfield 22, 3) := by decide +kernel
theorem dX5_init_41 : decode cX5_init 41 = .ok (.aload_n 0, 1) := by decide +kernel
theorem dX5_init_42 : decode cX5_init 42 = .ok (.bipush 36, 2) := by decide +kernel
theorem dX5_init_44 : decode cX5_init 44 = .ok (.newarray .int, 2) := by decide +kernel
theorem dX5_init_46 : decode cX5_init 46 = .ok (.putfield 26, 3) := by decide +kernel
theorem dX5_init_49 : decode cX5_init 49 = .ok (.aload_n 0, 1) := by decide +kernel
theorem dX5_init_50 : decode cX5_init 50 = .ok (.sipush 128, 3) := by decide +kernel
theorem dX5_init_53 : decode cX5_init 53 = .ok (.newarray .int, 2) := by decide +kernel
theorem dX5_init_55 : decode cX5_init 55 = .ok (.putfield 29, 3) := by decide +kernel
theorem dX5_init_58 : decode cX5_init 58 = .ok (.aload_n 0, 1) := by decide +kernel
theorem dX5_init_59 : decode cX5_init 59 = .ok (.sipush 128, 3) := by decide +kernel
theorem dX5_init_62 : decode cX5_init 62 = .ok (.newarray .int, 2) := by decide +kernel
theorem dX5_init_64 : decode cX5_init 64 = .ok (.putfield 32, 3) := by decide +kernel
theorem dX5_init_67 : decode cX5_init 67 = .ok (.aload_n 0, 1) := by decide +kernel
theorem dX5_init_68 : decode cX5_init 68 = .ok (.bipush 36, 2) := by decide +kernel
theorem dX5_init_70 : decode cX5_init 70 = .ok (.newarray .int, 2) := by decide +kernel
theorem dX5_init_72 : decode cX5_init 72 = .ok (.putfield 35, 3) := by decide +kernel
theorem dX5_init_75 : decode cX5_init 75 = .ok (.aload_n 0, 1) := by decide +kernel
theorem dX5_init_76 : decode cX5_init 76 = .ok (.iconst 4, 1) := by decide +kernel
theorem dX5_init_77 : decode cX5_init 77 = .ok (.newarray .int, 2) := by decide +kernel
theorem dX5_init_79 : decode cX5_init 79 = .ok (.putfield 38, 3) := by decide +kernel
theorem dX5_init_82 : decode cX5_init 82 = .ok (.aload_n 0, 1) := by decide +kernel
theorem dX5_init_83 : decode cX5_init 83 = .ok (.getfield 7, 3) := by decide +kernel
theorem dX5_init_86 : decode cX5_init 86 = .ok (.iconst 0, 1) := by decide +kernel
theorem dX5_init_87 : decode cX5_init 87 = .ok (.iconst 4, 1) := by decide +kernel
theorem dX5_init_88 : decode cX5_init 88 = .ok (.iastore, 1) := by decide +kernel
theorem dX5_init_89 : decode cX5_init 89 = .ok (.aload_n 0, 1) := by decide +kernel
theorem dX5_init_90 : decode cX5_init 90 = .ok (.getfield 7, 3) := by decide +kernel
theorem dX5_init_93 : decode cX5_init 93 = .ok (.iconst 1, 1) := by decide +kernel
theorem dX5_init_94 : decode cX5_init 94 = .ok (.iconst 4, 1) := by decide +kernel
theorem dX5_init_95 : decode cX5_init 95 = .ok (.iastore, 1) := by decide +kernel
theorem dX5_init_96 : decode cX5_init 96 = .ok (.aload_n 0, 1) := by decide +kernel
theorem dX5_init_97 : decode cX5_init 97 = .ok (.getfield 7, 3) := by decide +kernel
theorem dX5_init_100 : decode cX5_init 100 = .ok (.iconst 2, 1) := by decide +kernel
theorem dX5_init_101 : decode cX5_init 101 = .ok (.bipush 10, 2) := by decide +kernel
theorem dX5_init_103 : decode cX5_init 103 = .ok (.iastore, 1) := by decide +kernel
theorem dX5_init_104 : decode cX5_init 104 = .ok (.aload_n 0, 1) := by decide +kernel
theorem dX5_init_105 : decode cX5_init 105 = .ok (.getfield 7, 3) := by decide +kernel
theorem dX5_init_108 : decode cX5_init 108 = .ok (.iconst 3, 1) := by decide +kernel
theorem dX5_init_109 : decode cX5_init 109 = .ok (.iconst 2, 1) := by decide +kernel
theorem dX5_init_110 : decode cX5_init 110 = .ok (.iastore, 1) := by decide +kernel
theorem dX5_init_111 : decode cX5_init 111 = .ok (.aload_n 0, 1) := by decide +kernel
theorem dX5_init_112 : decode cX5_init 112 = .ok (.getfield 7, 3) := by decide +kernel
theorem dX5_init_115 : decode cX5_init 115 = .ok (.iconst 4, 1) := by decide +kernel
theorem dX5_init_116 : decode cX5_init 116 = .ok (.iconst 1, 1) := by decide +kernel
theorem dX5_init_117 : decode cX5_init 117 = .ok (.iastore, 1) := by decide +kernel
theorem dX5_init_118 : decode cX5_init 118 = .ok (.aload_n 0, 1) := by decide +kernel
theorem dX5_init_119 : decode cX5_init 119 = .ok (.getfield 7, 3) := by decide +kernel
theorem dX5_init_122 : decode cX5_init 122 = .ok (.bipush 6, 2) := by decide +kernel
theorem dX5_init_124 : decode cX5_init 124 = .ok (.bipush 9, 2) := by decide +kernel
theorem dX5_init_126 : decode cX5_init 126 = .ok (.iastore, 1) := by decide +kernel
theorem dX5_init_127 : decode cX5_init 127 = .ok (.aload_n 0, 1) := by decide +kernel
theorem dX5_init_128 : decode cX5_init 128 = .ok (.getfield 7, 3) := by decide +kernel
theorem dX5_init_131 : decode cX5_init 131 = .ok (.bipush 7, 2) := by decide +kernel
theorem dX5_init_133 : decode cX5_init 133 = .ok (.iconst 4, 1) := by decide +kernel
theorem dX5_init_134 : decode cX5_init 134 = .ok (.iastore, 1) := by decide +kernel
theorem dX5_init_135 : decode cX5_init 135 = .ok (.return_, 1) := by decide +kernel
theorem dX5_in_0 : decode cX5_in 0 = .ok (.iload_n 0, 1) := by decide +kernel
theorem dX5_in_1 : decode cX5_in 1 = .ok (.iload_n 1, 1) := by decide +kernel
theorem dX5_in_2 : decode cX5_in 2 = .ok (.if_icmp .lt 12, 3) := by decide +kernel
theorem dX5_in_5 : decode cX5_in 5 = .ok (.iload_n 0, 1) := by decide +kernel
theorem dX5_in_6 : decode cX5_in 6 = .ok (.iload_n 2, 1) := by decide +kernel
theorem dX5_in_7 : decode cX5_in 7 = .ok (.if_icmp .gt 7, 3) := by decide +kernel
theorem dX5_in_10 : decode cX5_in 10 = .ok (.iconst 1, 1) := by decide +kernel
theorem dX5_in_11 : decode cX5_in 11 = .ok (.goto 4, 3) := by decide +kernel
theorem dX5_in_14 : decode cX5_in 14 = .ok (.iconst 0, 1) := by decide +kernel
theorem dX5_in_15 : decode cX5_in 15 = .ok (.ireturn, 1) := by decide +kernel
theorem dX5_far_0 : decode cX5_far 0 = .ok (.iload_n 0, 1) := by decide +kernel
theorem dX5_far_1 : decode cX5_far 1 = .ok (.iload_n 1, 1) := by decide +kernel
theorem dX5_far_2 : decode cX5_far 2 = .ok (.if_icmp .ge 9, 3) := by decide +kernel
theorem dX5_far_5 : decode cX5_far 5 = .ok (.iload_n 1, 1) := by decide +kernel
theorem dX5_far_6 : decode cX5_far 6 = .ok (.iload_n 0, 1) := by decide +kernel
theorem dX5_far_7 : decode cX5_far 7 = .ok (.isub, 1) := by decide +kernel
theorem dX5_far_8 : decode cX5_far 8 = .ok (.goto 6, 3) := by decide +kernel
theorem dX5_far_11 : decode cX5_far 11 = .ok (.iload_n 0, 1) := by decide +kernel
theorem dX5_far_12 : decode cX5_far 12 = .ok (.iload_n 1, 1) := by decide +kernel
theorem dX5_far_13 : decode cX5_far 13 = .ok (.isub, 1) := by decide +kernel
theorem dX5_far_14 : decode cX5_far 14 = .ok (.ireturn, 1) := by decide +kernel
theorem dX5_bad_0 : decode cX5_bad 0 = .ok (.aload_n 0, 1) := by decide +kernel
theorem dX5_bad_1 : decode cX5_bad 1 = .ok (.getfield 16, 3) := by decide +kernel
theorem dX5_bad_4 : decode cX5_bad 4 = .ok (.iconst 0, 1) := by decide +kernel
theorem dX5_bad_5 : decode cX5_bad 5 = .ok (.dup2, 1) := by decide +kernel
theorem dX5_bad_6 : decode cX5_bad 6 = .ok (.iaload, 1) := by decide +kernel
theorem dX5_bad_7 : decode cX5_bad 7 = .ok (.iconst 1, 1) := by decide +kernel
theorem dX5_bad_8 : decode cX5_bad 8 = .ok (.iadd, 1) := by decide +kernel
theorem dX5_bad_9 : decode cX5_bad 9 = .ok (.iastore, 1) := by decide +kernel
theorem dX5_bad_10 : decode cX5_bad 10 = .ok (.bipush (-2), 2) := by decide +kernel
theorem dX5_bad_12 : decode cX5_bad 12 = .ok (.ireturn, 1) := by decide +kernel
theorem dX5_no_0 : decode cX5_no 0 = .ok (.aload_n 0, 1) := by decide +kernel
theorem dX5_no_1 : decode cX5_no 1 = .ok (.getfield 16, 3) := by decide +kernel
theorem dX5_no_4 : decode cX5_no 4 = .ok (.iconst 1, 1) := by decide +kernel
theorem dX5_no_5 : decode cX5_no 5 = .ok (.dup2, 1) := by decide +kernel
theorem dX5_no_6 : decode cX5_no 6 = .ok (.iaload, 1) := by decide +kernel
theorem dX5_no_7 : decode cX5_no 7 = .ok (.iconst 1, 1) := by decide +kernel
theorem dX5_no_8 : decode cX5_no 8 = .ok (.iadd, 1) := by decide +kernel
theorem dX5_no_9 : decode cX5_no 9 = .ok (.iastore, 1) := by decide +kernel
theorem dX5_no_10 : decode cX5_no 10 = .ok (.bipush (-3), 2) := by decide +kernel
theorem dX5_no_12 : decode cX5_no 12 = .ok (.ireturn, 1) := by decide +kernel
theorem dX5_full_0 : decode cX5_full 0 = .ok (.aload_n 0, 1) := by decide +kernel
theorem dX5_full_1 : decode cX5_full 1 = .ok (.getfield 16, 3) := by decide +kernel
theorem dX5_full_4 : decode cX5_full 4 = .ok (.iconst 2, 1) := by decide +kernel
theorem dX5_full_5 : decode cX5_full 5 = .ok (.dup2, 1) := by decide +kernel
theorem dX5_full_6 : decode cX5_full 6 = .ok (.iaload, 1) := by decide +kernel
theorem dX5_full_7 : decode cX5_full 7 = .ok (.iconst 1, 1) := by decide +kernel
theorem dX5_full_8 : decode cX5_full 8 = .ok (.iadd, 1) := by decide +kernel
theorem dX5_full_9 : decode cX5_full 9 = .ok (.iastore, 1) := by decide +kernel
theorem dX5_full_10 : decode cX5_full 10 = .ok (.bipush (-4), 2) := by decide +kernel
theorem dX5_full_12 : decode cX5_full 12 = .ok (.ireturn, 1) := by decide +kernel
theorem dX5_dots_0 : decode cX5_dots 0 = .ok (.aload_n 0, 1) := by decide +kernel
theorem dX5_dots_1 : decode cX5_dots 1 = .ok (.getfield 7, 3) := by decide +kernel
theorem dX5_dots_4 : decode cX5_dots 4 = .ok (.iconst 0, 1) := by decide +kernel
theorem dX5_dots_5 : decode cX5_dots 5 = .ok (.iaload, 1) := by decide +kernel
theorem dX5_dots_6 : decode cX5_dots 6 = .ok (.aload_n 0, 1) := by decide +kernel
theorem dX5_dots_7 : decode cX5_dots 7 = .ok (.getfield 7, 3) := by decide +kernel
theorem dX5_dots_10 : decode cX5_dots 10 = .ok (.iconst 1, 1) := by decide +kernel
theorem dX5_dots_11 : decode cX5_dots 11 = .ok (.iaload, 1) := by decide +kernel
theorem dX5_dots_12 : decode cX5_dots 12 = .ok (.imul, 1) := by decide +kernel
theorem dX5_dots_13 : decode cX5_dots 13 = .ok (.ireturn, 1) := by decide +kernel
set_option maxRecDepth 20000 in
theorem ggX5_isDot_X5_in : GoodIn wsX5_isDot wsX5_in := goodIn_r _ [5] (by decide +kernel) (by decide +kernel)
set_option maxRecDepth 20000 in
theorem gX5_isDot_X5_in : GoodIn wsX5_isDot (va_wsS RX5 41 yX5_in wsX5_in) := goodIn_app (goodIn_of _ (by decide +kernel)) ggX5_isDot_X5_in
theorem dX5_isDot_0 : decode cX5_isDot 0 = .ok (.iload_n 1, 1) := by decide +kernel
theorem dX5_isDot_1 : decode cX5_isDot 1 = .ok (.iconst 0, 1) := by decide +kernel
theorem dX5_isDot_2 : decode cX5_isDot 2 = .ok (.aload_n 0, 1) := by decide +kernel
theorem dX5_isDot_3 : decode cX5_isDot 3 = .ok (.getfield 7, 3) := by decide +kernel
theorem dX5_isDot_6 : decode cX5_isDot 6 = .ok (.iconst 0, 1) := by decide +kernel
theorem dX5_isDot_7 : decode cX5_isDot 7 = .ok (.iaload, 1) := by decide +kernel
theorem dX5_isDot_8 : decode cX5_isDot 8 = .ok (.iconst 1, 1) := by decide +kernel
theorem dX5_isDot_9 : decode cX5_isDot 9 = .ok (.isub, 1) := by decide +kernel
theorem dX5_isDot_10 : decode cX5_isDot 10 = .ok (.invokestatic 41, 3) := by decide +kernel
theorem dX5_isDot_13 : decode cX5_isDot 13 = .ok (.ifCond .eq 23, 3) := by decide +kernel
theorem dX5_isDot_16 : decode cX5_isDot 16 = .ok (.iload_n 2, 1) := by decide +kernel
theorem dX5_isDot_17 : decode cX5_isDot 17 = .ok (.iconst 0, 1) := by decide +kernel
theorem dX5_isDot_18 : decode cX5_isDot 18 = .ok (.aload_n 0, 1) := by decide +kernel
theorem dX5_isDot_19 : decode cX5_isDot 19 = .ok (.getfield 7, 3) := by decide +kernel
theorem dX5_isDot_22 : decode cX5_isDot 22 = .ok (.iconst 1, 1) := by decide +kernel
theorem dX5_isDot_23 : decode cX5_isDot 23 = .ok (.iaload, 1) := by decide +kernel
theorem dX5_isDot_24 : decode cX5_isDot 24 = .ok (.iconst 1, 1) := by decide +kernel
theorem dX5_isDot_25 : decode cX5_isDot 25 = .ok (.isub, 1) := by decide +kernel
theorem dX5_isDot_26 : decode cX5_isDot 26 = .ok (.invokestatic 41, 3) := by decide +kernel
theorem dX5_isDot_29 : decode cX5_isDot 29 = .ok (.ifCond .eq 7, 3) := by decide +kernel
theorem dX5_isDot_32 : decode cX5_isDot 32 = .ok (.iconst 1, 1) := by decide +kernel
theorem dX5_isDot_33 : decode cX5_isDot 33 = .ok (.goto 4, 3) := by decide +kernel
theorem dX5_isDot_36 : decode cX5_isDot 36 = .ok (.iconst 0, 1) := by decide +kernel
theorem dX5_isDot_37 : decode cX5_isDot 37 = .ok (.ireturn, 1) := by decide +kernel
theorem dX5_numberOf_0 : decode cX5_numberOf 0 = .ok (.aload_n 0, 1) := by decide +kernel
theorem dX5_numberOf_1 : decode cX5_numberOf 1 = .ok (.getfield 7, 3) := by decide +kernel
theorem dX5_numberOf_4 : decode cX5_numberOf 4 = .ok (.iconst 0, 1) := by decide +kernel
theorem dX5_numberOf_5 : decode cX5_numberOf 5 = .ok (.iaload, 1) := by decide +kernel
theorem dX5_numberOf_6 : decode cX5_numberOf 6 = .ok (.iload_n 2, 1) := by decide +kernel
theorem dX5_numberOf_7 : decode cX5_numberOf 7 = .ok (.imul, 1) := by decide +kernel
theorem dX5_numberOf_8 : decode cX5_numberOf 8 = .ok (.iload_n 1, 1) := by decide +kernel
theorem dX5_numberOf_9 : decode cX5_numberOf 9 = .ok (.iadd, 1) := by decide +kernel
theorem dX5_numberOf_10 : decode cX5_numberOf 10 = .ok (.ireturn, 1) := by decide +kernel
theorem dX5_bring_0 : decode cX5_bring 0 = .ok (.iconst 0, 1) := by decide +kernel
theorem dX5_bring_1 : decode cX5_bring 1 = .ok (.istore 5, 2) := by decide +kernel
theorem dX5_bring_3 : decode cX5_bring 3 = .ok (.iload 5, 2) := by decide +kernel
theorem dX5_bring_5 : decode cX5_bring 5 = .ok (.iload 4, 2) := by decide +kernel
theorem dX5_bring_7 : decode cX5_bring 7 = .ok (.if_icmp .ge 21, 3) := by decide +kernel
theorem dX5_bring_10 : decode cX5_bring 10 = .ok (.aload_n 2, 1) := by decide +kernel
theorem dX5_bring_11 : decode cX5_bring 11 = .ok (.iload_n 3, 1) := by decide +kernel
theorem dX5_bring_12 : decode cX5_bring 12 = .ok (.iload 5, 2) := by decide +kernel
theorem dX5_bring_14 : decode cX5_bring 14 = .ok (.iadd, 1) := by decide +kernel
theorem dX5_bring_15 : decode cX5_bring 15 = .ok (.aload_n 0, 1) := by decide +kernel
theorem dX5_bring_16 : decode cX5_bring 16 = .ok (.iload_n 1, 1) := by decide +kernel
theorem dX5_bring_17 : decode cX5_bring 17 = .ok (.iload 5, 2) := by decide +kernel
theorem dX5_bring_19 : decode cX5_bring 19 = .ok (.iadd, 1) := by decide +kernel
theorem dX5_bring_20 : decode cX5_bring 20 = .ok (.iaload, 1) := by decide +kernel
theorem dX5_bring_21 : decode cX5_bring 21 = .ok (.iastore, 1) := by decide +kernel
theorem dX5_bring_22 : decode cX5_bring 22 = .ok (.iinc 5 1, 3) := by decide +kernel
theorem dX5_bring_25 : decode cX5_bring 25 = .ok (.goto (-22), 3) := by decide +kernel
theorem dX5_bring_28 : decode cX5_bring 28 = .ok (.return_, 1) := by decide +kernel
set_option maxRecDepth 20000 in
theorem ggX5_leaves_X5_bring : GoodIn wsX5_leaves wsX5_bring := goodIn_r _ [7] (by decide +kernel) (by decide +kernel)
set_option maxRecDepth 20000 in
theorem gX5_leaves_X5_bring : GoodIn wsX5_leaves (va_wsS RX5 48 yX5_bring wsX5_bring) := goodIn_app (goodIn_of _ (by decide +kernel)) ggX5_leaves_X5_bring
theorem dX5_leaves_0 : decode cX5_leaves 0 = .ok (.aload_n 0, 1) := by decide +kernel
theorem dX5_leaves_1 : decode cX5_leaves 1 = .ok (.getfield 45, 3) := by decide +kernel
theorem dX5_leaves_4 : decode cX5_leaves 4 = .ok (.bipush 8, 2) := by decide +kernel
theorem dX5_leaves_6 : decode cX5_leaves 6 = .ok (.if_icmp .ne 30, 3) := by decide +kernel
theorem dX5_leaves_9 : decode cX5_leaves 9 = .ok (.aload_n 0, 1) := by decide +kernel
theorem dX5_leaves_10 : decode cX5_leaves 10 = .ok (.getfield 13, 3) := by decide +kernel
theorem dX5_leaves_13 : decode cX5_leaves 13 = .ok (.bipush 80, 2) := by decide +kernel
theorem dX5_leaves_15 : decode cX5_leaves 15 = .ok (.aload_n 0, 1) := by decide +kernel
theorem dX5_leaves_16 : decode cX5_leaves 16 = .ok (.getfield 13, 3) := by decide +kernel
theorem dX5_leaves_19 : decode cX5_leaves 19 = .ok (.iconst 0, 1) := by decide +kernel
theorem dX5_leaves_20 : decode cX5_leaves 20 = .ok (.sipush 560, 3) := by decide +kernel
theorem dX5_leaves_23 : decode cX5_leaves 23 = .ok (.invokestatic 48, 3) := by decide +kernel
theorem dX5_leaves_26 : decode cX5_leaves 26 = .ok (.aload_n 0, 1) := by decide +kernel
theorem dX5_leaves_27 : decode cX5_leaves 27 = .ok (.dup, 1) := by decide +kernel
theorem dX5_leaves_28 : decode cX5_leaves 28 = .ok (.getfield 45, 3) := by decide +kernel
theorem dX5_leaves_31 : decode cX5_leaves 31 = .ok (.iconst 1, 1) := by decide +kernel
theorem dX5_leaves_32 : decode cX5_leaves 32 = .ok (.isub, 1) := by decide +kernel
theorem dX5_leaves_33 : decode cX5_leaves 33 = .ok (.putfield 45, 3) := by decide +kernel
theorem dX5_leaves_36 : decode cX5_leaves 36 = .ok (.aload_n 0, 1) := by decide +kernel
theorem dX5_leaves_37 : decode cX5_leaves 37 = .ok (.getfield 7, 3) := by decide +kernel
theorem dX5_leaves_40 : decode cX5_leaves 40 = .ok (.iconst 0, 1) := by decide +kernel
theorem dX5_leaves_41 : decode cX5_leaves 41 = .ok (.aload_n 0, 1) := by decide +kernel
theorem dX5_leaves_42 : decode cX5_leaves 42 = .ok (.getfield 13, 3) := by decide +kernel
theorem dX5_leaves_45 : decode cX5_leaves 45 = .ok (.bipush 80, 2) := by decide +kernel
theorem dX5_leaves_47 : decode cX5_leaves 47 = .ok (.aload_n 0, 1) := by decide +kernel
theorem dX5_leaves_48 : decode cX5_leaves 48 = .ok (.getfield 45, 3) := by decide +kernel
theorem dX5_leaves_51 : decode cX5_leaves 51 = .ok (.imul, 1) := by decide +kernel
theorem dX5_leaves_52 : decode cX5_leaves 52 = .ok (.bipush 80, 2) := by decide +kernel
theorem dX5_leaves_54 : decode cX5_leaves 54 = .ok (.invokestatic 48, 3) := by decide +kernel
theorem dX5_leaves_57 : decode cX5_leaves 57 = .ok (.aload_n 0, 1) := by decide +kernel
theorem dX5_leaves_58 : decode cX5_leaves 58 = .ok (.dup, 1) := by decide +kernel
theorem dX5_leaves_59 : decode cX5_leaves 59 = .ok (.getfield 45, 3) := by decide +kernel
theorem dX5_leaves_62 : decode cX5_leaves 62 = .ok (.iconst 1, 1) := by decide +kernel
theorem dX5_leaves_63 : decode cX5_leaves 63 = .ok (.iadd, 1) := by decide +kernel
theorem dX5_leaves_64 : decode cX5_leaves 64 = .ok (.putfield 45, 3) := by decide +kernel
theorem dX5_leaves_67 : decode cX5_leaves 67 = .ok (.return_, 1) := by decide +kernel
set_option maxRecDepth 20000 in
theorem ggX5_over_X5_isDot : GoodIn wsX5_over wsX5_isDot := goodIn_r _ [6, 1, 7, 8, 5, 9, 14, 15, 16, 17, 18, 19, 20, 21, 22, 23, 24, 25, 26, 27, 28] (by decide +kernel) (by decide +kernel)
set_option maxRecDepth 20000 in
theorem gX5_over_X5_isDot : GoodIn wsX5_over (wsV RX5 52 RX5 yX5_isDot wsX5_isDot) := goodIn_app (goodIn_of _ (by decide +kernel)) ggX5_over_X5_isDot
set_option maxRecDepth 20000 in
theorem ggX5_over_X5_numberOf : GoodIn wsX5_over wsX5_numberOf := goodIn_r _ [13, 1, 14, 15, 16, 17, 18, 19, 20, 21, 22, 23, 24, 25, 26, 27, 28] (by decide +kernel) (by decide +kernel)
set_option maxRecDepth 20000 in
theorem gX5_over_X5_numberOf : GoodIn wsX5_over (wsV RX5 56 RX5 yX5_numberOf wsX5_numberOf) := goodIn_app (goodIn_of _ (by decide +kernel)) ggX5_over_X5_numberOf
theorem dX5_over_0 : decode cX5_over 0 = .ok (.iload_n 1, 1) := by decide +kernel
theorem dX5_over_1 : decode cX5_over 1 = .ok (.aload_n 0, 1) := by decide +kernel
theorem dX5_over_2 : decode cX5_over 2 = .ok (.getfield 7, 3) := by decide +kernel
theorem dX5_over_5 : decode cX5_over 5 = .ok (.iconst 0, 1) := by decide +kernel
theorem dX5_over_6 : decode cX5_over 6 = .ok (.iaload, 1) := by decide +kernel
theorem dX5_over_7 : decode cX5_over 7 = .ok (.irem, 1) := by decide +kernel
theorem dX5_over_8 : decode cX5_over 8 = .ok (.iload_n 2, 1) := by decide +kernel
theorem dX5_over_9 : decode cX5_over 9 = .ok (.iconst 1, 1) := by decide +kernel
theorem dX5_over_10 : decode cX5_over 10 = .ok (.if_icmp .ne 7, 3) := by decide +kernel
theorem dX5_over_13 : decode cX5_over 13 = .ok (.iconst 0, 1) := by decide +kernel
theorem dX5_over_14 : decode cX5_over 14 = .ok (.goto 13, 3) := by decide +kernel
theorem dX5_over_17 : decode cX5_over 17 = .ok (.iload_n 2, 1) := by decide +kernel
theorem dX5_over_18 : decode cX5_over 18 = .ok (.iconst 3, 1) := by decide +kernel
theorem dX5_over_19 : decode cX5_over 19 = .ok (.if_icmp .ne 7, 3) := by decide +kernel
theorem dX5_over_22 : decode cX5_over 22 = .ok (.iconst (-1), 1) := by decide +kernel
theorem dX5_over_23 : decode cX5_over 23 = .ok (.goto 4, 3) := by decide +kernel
theorem dX5_over_26 : decode cX5_over 26 = .ok (.iconst 1, 1) := by decide +kernel
theorem dX5_over_27 : decode cX5_over 27 = .ok (.iadd, 1) := by decide +kernel
theorem dX5_over_28 : decode cX5_over 28 = .ok (.istore_n 3, 1) := by decide +kernel
theorem dX5_over_29 : decode cX5_over 29 = .ok (.iload_n 1, 1) := by decide +kernel
theorem dX5_over_30 : decode cX5_over 30 = .ok (.aload_n 0, 1) := by decide +kernel
theorem dX5_over_31 : decode cX5_over 31 = .ok (.getfield 7, 3) := by decide +kernel
theorem dX5_over_34 : decode cX5_over 34 = .ok (.iconst 0, 1) := by decide +kernel
theorem dX5_over_35 : decode cX5_over 35 = .ok (.iaload, 1) := by decide +kernel
theorem dX5_over_36 : decode cX5_over 36 = .ok (.idiv, 1) := by decide +kernel
theorem dX5_over_37 : decode cX5_over 37 = .ok (.iload_n 2, 1) := by decide +kernel
theorem dX5_over_38 : decode cX5_over 38 = .ok (.ifCond .ne 7, 3) := by decide +kernel
theorem dX5_over_41 : decode cX5_over 41 = .ok (.iconst 0, 1) := by decide +kernel
theorem dX5_over_42 : decode cX5_over 42 = .ok (.goto 4, 3) := by decide +kernel
theorem dX5_over_45 : decode cX5_over 45 = .ok (.iconst 1, 1) := by decide +kernel
theorem dX5_over_46 : decode cX5_over 46 = .ok (.iadd, 1) := by decide +kernel
theorem dX5_over_47 : decode cX5_over 47 = .ok (.istore 4, 2) := by decide +kernel
theorem dX5_over_49 : decode cX5_over 49 = .ok (.aload_n 0, 1) := by decide +kernel
theorem dX5_over_50 : decode cX5_over 50 = .ok (.iload_n 3, 1) := by decide +kernel
theorem dX5_over_51 : decode cX5_over 51 = .ok (.iload 4, 2) := by decide +kernel
theorem dX5_over_53 : decode cX5_over 53 = .ok (.invokevirtual 52, 3) := by decide +kernel
theorem dX5_over_56 : decode cX5_over 56 = .ok (.ifCond .eq 30, 3) := by decide +kernel
theorem dX5_over_59 : decode cX5_over 59 = .ok (.iload_n 2, 1) := by decide +kernel
theorem dX5_over_60 : decode cX5_over 60 = .ok (.iconst 2, 1) := by decide +kernel
theorem dX5_over_61 : decode cX5_over 61 = .ok (.if_icmp .lt 15, 3) := by decide +kernel
theorem dX5_over_64 : decode cX5_over 64 = .ok (.aload_n 0, 1) := by decide +kernel
theorem dX5_over_65 : decode cX5_over 65 = .ok (.getfield 7, 3) := by decide +kernel
theorem dX5_over_68 : decode cX5_over 68 = .ok (.bipush 7, 2) := by decide +kernel
theorem dX5_over_70 : decode cX5_over 70 = .ok (.iaload, 1) := by decide +kernel
theorem dX5_over_71 : decode cX5_over 71 = .ok (.bipush 8, 2) := by decide +kernel
theorem dX5_over_73 : decode cX5_over 73 = .ok (.if_icmp .ne 13, 3) := by decide +kernel
theorem dX5_over_76 : decode cX5_over 76 = .ok (.aload_n 0, 1) := by decide +kernel
theorem dX5_over_77 : decode cX5_over 77 = .ok (.iload_n 3, 1) := by decide +kernel
theorem dX5_over_78 : decode cX5_over 78 = .ok (.iload 4, 2) := by decide +kernel
theorem dX5_over_80 : decode cX5_over 80 = .ok (.invokevirtual 56, 3) := by decide +kernel
theorem dX5_over_83 : decode cX5_over 83 = .ok (.goto 4, 3) := by decide +kernel
theorem dX5_over_86 : decode cX5_over 86 = .ok (.iconst (-1), 1) := by decide +kernel
theorem dX5_over_87 : decode cX5_over 87 = .ok (.ireturn, 1) := by decide +kernel
set_option maxRecDepth 20000 in
theorem ggX5_weight_X5_over : GoodIn wsX5_weight wsX5_over := goodIn_r _ [8, 3, 9, 10, 11, 7, 12, 13, 14, 15, 16, 17, 18, 19, 23, 24, 25, 26, 27, 28, 29, 30, 31, 32, 33, 34, 35, 36, 37] (by decide +kernel) (by decide +kernel)
set_option maxRecDepth 20000 in
theorem gX5_weight_X5_over : GoodIn wsX5_weight (wsV RX5 63 RX5 yX5_over wsX5_over) := goodIn_app (goodIn_of _ (by decide +kernel)) ggX5_weight_X5_over
set_option maxRecDepth 20000 in
theorem ggX5_weight_X5_far : GoodIn wsX5_weight wsX5_far := goodIn_r _ [22] (by decide +kernel) (by decide +kernel)
set_option maxRecDepth 20000 in
theorem gX5_weight_X5_far : GoodIn wsX5_weight (va_wsS RX5 66 yX5_far wsX5_far) := goodIn_app (goodIn_of _ (by decide +kernel)) ggX5_weight_X5_far
theorem dX5_weight_0 : decode cX5_weight 0 = .ok (.aload_n 0, 1) := by decide +kernel
theorem dX5_weight_1 : decode cX5_weight 1 = .ok (.getfield 22, 3) := by decide +kernel
theorem dX5_weight_4 : decode cX5_weight 4 = .ok (.iconst 4, 1) := by decide +kernel
theorem dX5_weight_5 : decode cX5_weight 5 = .ok (.iload_n 1, 1) := by decide +kernel
theorem dX5_weight_6 : decode cX5_weight 6 = .ok (.imul, 1) := by decide +kernel
theorem dX5_weight_7 : decode cX5_weight 7 = .ok (.iload_n 2, 1) := by decide +kernel
theorem dX5_weight_8 : decode cX5_weight 8 = .ok (.iadd, 1) := by decide +kernel
theorem dX5_weight_9 : decode cX5_weight 9 = .ok (.if_icmp .ne 8, 3) := by decide +kernel
theorem dX5_weight_12 : decode cX5_weight 12 = .ok (.aload_n 0, 1) := by decide +kernel
theorem dX5_weight_13 : decode cX5_weight 13 = .ok (.getfield 60, 3) := by decide +kernel
theorem dX5_weight_16 : decode cX5_weight 16 = .ok (.ireturn, 1) := by decide +kernel
theorem dX5_weight_17 : decode cX5_weight 17 = .ok (.aload_n 0, 1) := by decide +kernel
theorem dX5_weight_18 : decode cX5_weight 18 = .ok (.iload_n 1, 1) := by decide +kernel
theorem dX5_weight_19 : decode cX5_weight 19 = .ok (.iload_n 2, 1) := by decide +kernel
theorem dX5_weight_20 : decode cX5_weight 20 = .ok (.invokevirtual 63, 3) := by decide +kernel
theorem dX5_weight_23 : decode cX5_weight 23 = .ok (.istore_n 3, 1) := by decide +kernel
theorem dX5_weight_24 : decode cX5_weight 24 = .ok (.aload_n 0, 1) := by decide +kernel
theorem dX5_weight_25 : decode cX5_weight 25 = .ok (.getfield 7, 3) := by decide +kernel
theorem dX5_weight_28 : decode cX5_weight 28 = .ok (.iconst 2, 1) := by decide +kernel
theorem dX5_weight_29 : decode cX5_weight 29 = .ok (.iaload, 1) := by decide +kernel
theorem dX5_weight_30 : decode cX5_weight 30 = .ok (.aload_n 0, 1) := by decide +kernel
theorem dX5_weight_31 : decode cX5_weight 31 = .ok (.getfield 7, 3) := by decide +kernel
theorem dX5_weight_34 : decode cX5_weight 34 = .ok (.iconst 3, 1) := by decide +kernel
theorem dX5_weight_35 : decode cX5_weight 35 = .ok (.iaload, 1) := by decide +kernel
theorem dX5_weight_36 : decode cX5_weight 36 = .ok (.aload_n 0, 1) := by decide +kernel
theorem dX5_weight_37 : decode cX5_weight 37 = .ok (.getfield 7, 3) := by decide +kernel
theorem dX5_weight_40 : decode cX5_weight 40 = .ok (.bipush 8, 2) := by decide +kernel
theorem dX5_weight_42 : decode cX5_weight 42 = .ok (.iload_n 1, 1) := by decide +kernel
theorem dX5_weight_43 : decode cX5_weight 43 = .ok (.iadd, 1) := by decide +kernel
theorem dX5_weight_44 : decode cX5_weight 44 = .ok (.iaload, 1) := by decide +kernel
theorem dX5_weight_45 : decode cX5_weight 45 = .ok (.aload_n 0, 1) := by decide +kernel
theorem dX5_weight_46 : decode cX5_weight 46 = .ok (.getfield 7, 3) := by decide +kernel
theorem dX5_weight_49 : decode cX5_weight 49 = .ok (.bipush 8, 2) := by decide +kernel
theorem dX5_weight_51 : decode cX5_weight 51 = .ok (.iload_n 3, 1) := by decide +kernel
theorem dX5_weight_52 : decode cX5_weight 52 = .ok (.iadd, 1) := by decide +kernel
theorem dX5_weight_53 : decode cX5_weight 53 = .ok (.iaload, 1) := by decide +kernel
theorem dX5_weight_54 : decode cX5_weight 54 = .ok (.invokestatic 66, 3) := by decide +kernel
theorem dX5_weight_57 : decode cX5_weight 57 = .ok (.imul, 1) := by decide +kernel
theorem dX5_weight_58 : decode cX5_weight 58 = .ok (.isub, 1) := by decide +kernel
theorem dX5_weight_59 : decode cX5_weight 59 = .ok (.istore 4, 2) := by decide +kernel
theorem dX5_weight_61 : decode cX5_weight 61 = .ok (.iload 4, 2) := by decide +kernel
theorem dX5_weight_63 : decode cX5_weight 63 = .ok (.iconst 1, 1) := by decide +kernel
theorem dX5_weight_64 : decode cX5_weight 64 = .ok (.if_icmp .ge 7, 3) := by decide +kernel
theorem dX5_weight_67 : decode cX5_weight 67 = .ok (.iconst 1, 1) := by decide +kernel
theorem dX5_weight_68 : decode cX5_weight 68 = .ok (.goto 5, 3) := by decide +kernel
theorem dX5_weight_71 : decode cX5_weight 71 = .ok (.iload 4, 2) := by decide +kernel
theorem dX5_weight_73 : decode cX5_weight 73 = .ok (.istore 4, 2) := by decide +kernel
theorem dX5_weight_75 : decode cX5_weight 75 = .ok (.iload_n 2, 1) := by decide +kernel
theorem dX5_weight_76 : decode cX5_weight 76 = .ok (.iconst 1, 1) := by decide +kernel
theorem dX5_weight_77 : decode cX5_weight 77 = .ok (.if_icmp .le 19, 3) := by decide +kernel
theorem dX5_weight_80 : decode cX5_weight 80 = .ok (.iload 4, 2) := by decide +kernel
theorem dX5_weight_82 : decode cX5_weight 82 = .ok (.iconst 2, 1) := by decide +kernel
theorem dX5_weight_83 : decode cX5_weight 83 = .ok (.if_icmp .ge 7, 3) := by decide +kernel
theorem dX5_weight_86 : decode cX5_weight 86 = .ok (.iconst 1, 1) := by decide +kernel
theorem dX5_weight_87 : decode cX5_weight 87 = .ok (.goto 7, 3) := by decide +kernel
theorem dX5_weight_90 : decode cX5_weight 90 = .ok (.iload 4, 2) := by decide +kernel
theorem dX5_weight_92 : decode cX5_weight 92 = .ok (.iconst 2, 1) := by decide +kernel
theorem dX5_weight_93 : decode cX5_weight 93 = .ok (.idiv, 1) := by decide +kernel
theorem dX5_weight_94 : decode cX5_weight 94 = .ok (.istore 4, 2) := by decide +kernel
theorem dX5_weight_96 : decode cX5_weight 96 = .ok (.iload 4, 2) := by decide +kernel
theorem dX5_weight_98 : decode cX5_weight 98 = .ok (.ireturn, 1) := by decide +kernel
set_option maxRecDepth 20000 in
theorem ggX5_pull_X5_far : GoodIn wsX5_pull wsX5_far := goodIn_r _ [5] (by decide +kernel) (by decide +kernel)
set_option maxRecDepth 20000 in
theorem gX5_pull_X5_far : GoodIn wsX5_pull (va_wsS RX5 66 yX5_far wsX5_far) := goodIn_app (goodIn_of _ (by decide +kernel)) ggX5_pull_X5_far
theorem dX5_pull_0 : decode cX5_pull 0 = .ok (.aload_n 0, 1) := by decide +kernel
theorem dX5_pull_1 : decode cX5_pull 1 = .ok (.getfield 7, 3) := by decide +kernel
theorem dX5_pull_4 : decode cX5_pull 4 = .ok (.iconst 4, 1) := by decide +kernel
theorem dX5_pull_5 : decode cX5_pull 5 = .ok (.iaload, 1) := by decide +kernel
theorem dX5_pull_6 : decode cX5_pull 6 = .ok (.aload_n 0, 1) := by decide +kernel
theorem dX5_pull_7 : decode cX5_pull 7 = .ok (.getfield 7, 3) := by decide +kernel
theorem dX5_pull_10 : decode cX5_pull 10 = .ok (.bipush 8, 2) := by decide +kernel
theorem dX5_pull_12 : decode cX5_pull 12 = .ok (.iload_n 1, 1) := by decide +kernel
theorem dX5_pull_13 : decode cX5_pull 13 = .ok (.iadd, 1) := by decide +kernel
theorem dX5_pull_14 : decode cX5_pull 14 = .ok (.iaload, 1) := by decide +kernel
theorem dX5_pull_15 : decode cX5_pull 15 = .ok (.aload_n 0, 1) := by decide +kernel
theorem dX5_pull_16 : decode cX5_pull 16 = .ok (.getfield 7, 3) := by decide +kernel
theorem dX5_pull_19 : decode cX5_pull 19 = .ok (.iload_n 2, 1) := by decide +kernel
theorem dX5_pull_20 : decode cX5_pull 20 = .ok (.iconst 1, 1) := by decide +kernel
theorem dX5_pull_21 : decode cX5_pull 21 = .ok (.if_icmp .ne 7, 3) := by decide +kernel
theorem dX5_pull_24 : decode cX5_pull 24 = .ok (.iconst 5, 1) := by decide +kernel
theorem dX5_pull_25 : decode cX5_pull 25 = .ok (.goto 5, 3) := by decide +kernel
theorem dX5_pull_28 : decode cX5_pull 28 = .ok (.bipush 6, 2) := by decide +kernel
theorem dX5_pull_30 : decode cX5_pull 30 = .ok (.iaload, 1) := by decide +kernel
theorem dX5_pull_31 : decode cX5_pull 31 = .ok (.invokestatic 66, 3) := by decide +kernel
theorem dX5_pull_34 : decode cX5_pull 34 = .ok (.imul, 1) := by decide +kernel
theorem dX5_pull_35 : decode cX5_pull 35 = .ok (.ireturn, 1) := by decide +kernel
set_option maxRecDepth 20000 in
theorem ggX5_holdsMarks_X5_bring : GoodIn wsX5_holdsMarks wsX5_bring := goodIn_r _ [6] (by decide +kernel) (by decide +kernel)
set_option maxRecDepth 20000 in
theorem gX5_holdsMarks_X5_bring : GoodIn wsX5_holdsMarks (va_wsS RX5 48 yX5_bring wsX5_bring) := goodIn_app (goodIn_of _ (by decide +kernel)) ggX5_holdsMarks_X5_bring
theorem dX5_holdsMarks_0 : decode cX5_holdsMarks 0 = .ok (.aload_n 0, 1) := by decide +kernel
theorem dX5_holdsMarks_1 : decode cX5_holdsMarks 1 = .ok (.getfield 7, 3) := by decide +kernel
theorem dX5_holdsMarks_4 : decode cX5_holdsMarks 4 = .ok (.bipush 44, 2) := by decide +kernel
theorem dX5_holdsMarks_6 : decode cX5_holdsMarks 6 = .ok (.aload_n 0, 1) := by decide +kernel
theorem dX5_holdsMarks_7 : decode cX5_holdsMarks 7 = .ok (.getfield 26, 3) := by decide +kernel
theorem dX5_holdsMarks_10 : decode cX5_holdsMarks 10 = .ok (.iconst 0, 1) := by decide +kernel
theorem dX5_holdsMarks_11 : decode cX5_holdsMarks 11 = .ok (.bipush 36, 2) := by decide +kernel
theorem dX5_holdsMarks_13 : decode cX5_holdsMarks 13 = .ok (.invokestatic 48, 3) := by decide +kernel
theorem dX5_holdsMarks_16 : decode cX5_holdsMarks 16 = .ok (.return_, 1) := by decide +kernel
set_option maxRecDepth 20000 in
theorem ggX5_cutTo_X5_weight : GoodIn wsX5_cutTo wsX5_weight := goodIn_r _ [5, 6, 7, 8, 9, 10, 11, 4, 12, 13, 14, 15, 16, 17, 18, 19, 20, 21, 22, 23, 24, 25, 26, 27, 28, 29, 30, 31, 32, 33, 34, 35, 36, 37, 38, 39, 40, 41] (by decide +kernel) (by decide +kernel)
set_option maxRecDepth 20000 in
theorem gX5_cutTo_X5_weight : GoodIn wsX5_cutTo (wsV RX5 69 RX5 yX5_weight wsX5_weight) := goodIn_app (goodIn_of _ (by decide +kernel)) ggX5_cutTo_X5_weight
theorem dX5_cutTo_0 : decode cX5_cutTo 0 = .ok (.iload 4, 2) := by decide +kernel
theorem dX5_cutTo_2 : decode cX5_cutTo 2 = .ok (.iload 5, 2) := by decide +kernel
theorem dX5_cutTo_4 : decode cX5_cutTo 4 = .ok (.ishr, 1) := by decide +kernel
theorem dX5_cutTo_5 : decode cX5_cutTo 5 = .ok (.iconst 1, 1) := by decide +kernel
theorem dX5_cutTo_6 : decode cX5_cutTo 6 = .ok (.iand, 1) := by decide +kernel
theorem dX5_cutTo_7 : decode cX5_cutTo 7 = .ok (.iload_n 3, 1) := by decide +kernel
theorem dX5_cutTo_8 : decode cX5_cutTo 8 = .ok (.if_icmp .ne 7, 3) := by decide +kernel
theorem dX5_cutTo_11 : decode cX5_cutTo 11 = .ok (.iconst 0, 1) := by decide +kernel
theorem dX5_cutTo_12 : decode cX5_cutTo 12 = .ok (.goto 9, 3) := by decide +kernel
theorem dX5_cutTo_15 : decode cX5_cutTo 15 = .ok (.aload_n 0, 1) := by decide +kernel
theorem dX5_cutTo_16 : decode cX5_cutTo 16 = .ok (.iload_n 1, 1) := by decide +kernel
theorem dX5_cutTo_17 : decode cX5_cutTo 17 = .ok (.iload_n 2, 1) := by decide +kernel
theorem dX5_cutTo_18 : decode cX5_cutTo 18 = .ok (.invokevirtual 69, 3) := by decide +kernel
theorem dX5_cutTo_21 : decode cX5_cutTo 21 = .ok (.ireturn, 1) := by decide +kernel
set_option maxRecDepth 20000 in
theorem ggX5_adds_X5_pull : GoodIn wsX5_adds wsX5_pull := goodIn_r _ [6, 1, 7, 8, 5, 9, 35, 36, 37, 38, 39, 40, 41, 42, 43, 44, 45, 46, 47, 48, 49] (by decide +kernel) (by decide +kernel)
set_option maxRecDepth 20000 in
theorem gX5_adds_X5_pull : GoodIn wsX5_adds (wsV RX5 72 RX5 yX5_pull wsX5_pull) := goodIn_app (goodIn_of _ (by decide +kernel)) ggX5_adds_X5_pull
set_option maxRecDepth 20000 in
theorem ggX5_adds_X5_cutTo : GoodIn wsX5_adds wsX5_cutTo := goodIn_r _ [13, 14, 15, 16, 5, 17, 18, 19, 1, 20, 21, 22, 23, 24, 25, 26, 27, 28, 29, 30, 31, 32, 33, 34, 7, 8, 9, 35, 36, 37, 38, 39, 40, 41, 42, 43, 44, 45, 46, 47, 48, 49] (by decide +kernel) (by decide +kernel)
set_option maxRecDepth 20000 in
theorem gX5_adds_X5_cutTo : GoodIn wsX5_adds (wsV RX5 75 RX5 yX5_cutTo wsX5_cutTo) := goodIn_app (goodIn_of _ (by decide +kernel)) ggX5_adds_X5_cutTo
theorem dX5_adds_0 : decode cX5_adds 0 = .ok (.aload_n 0, 1) := by decide +kernel
theorem dX5_adds_1 : decode cX5_adds 1 = .ok (.getfield 7, 3) := by decide +kernel
theorem dX5_adds_4 : decode cX5_adds 4 = .ok (.iconst 0, 1) := by decide +kernel
theorem dX5_adds_5 : decode cX5_adds 5 = .ok (.iaload, 1) := by decide +kernel
theorem dX5_adds_6 : decode cX5_adds 6 = .ok (.istore 4, 2) := by decide +kernel
theorem dX5_adds_8 : decode cX5_adds 8 = .ok (.iload_n 1, 1) := by decide +kernel
theorem dX5_adds_9 : decode cX5_adds 9 = .ok (.iload 4, 2) := by decide +kernel
theorem dX5_adds_11 : decode cX5_adds 11 = .ok (.irem, 1) := by decide +kernel
theorem dX5_adds_12 : decode cX5_adds 12 = .ok (.istore 5, 2) := by decide +kernel
theorem dX5_adds_14 : decode cX5_adds 14 = .ok (.iload_n 1, 1) := by decide +kernel
theorem dX5_adds_15 : decode cX5_adds 15 = .ok (.iload 4, 2) := by decide +kernel
theorem dX5_adds_17 : decode cX5_adds 17 = .ok (.if_icmp .lt 7, 3) := by decide +kernel
theorem dX5_adds_20 : decode cX5_adds 20 = .ok (.iconst 1, 1) := by decide +kernel
theorem dX5_adds_21 : decode cX5_adds 21 = .ok (.goto 4, 3) := by decide +kernel
theorem dX5_adds_24 : decode cX5_adds 24 = .ok (.iconst 0, 1) := by decide +kernel
theorem dX5_adds_25 : decode cX5_adds 25 = .ok (.istore 6, 2) := by decide +kernel
theorem dX5_adds_27 : decode cX5_adds 27 = .ok (.aload_n 0, 1) := by decide +kernel
theorem dX5_adds_28 : decode cX5_adds 28 = .ok (.iload_n 1, 1) := by decide +kernel
theorem dX5_adds_29 : decode cX5_adds 29 = .ok (.iload_n 2, 1) := by decide +kernel
theorem dX5_adds_30 : decode cX5_adds 30 = .ok (.invokevirtual 72, 3) := by decide +kernel
theorem dX5_adds_33 : decode cX5_adds 33 = .ok (.istore 7, 2) := by decide +kernel
theorem dX5_adds_35 : decode cX5_adds 35 = .ok (.iload 5, 2) := by decide +kernel
theorem dX5_adds_37 : decode cX5_adds 37 = .ok (.ifCond .le 19, 3) := by decide +kernel
theorem dX5_adds_40 : decode cX5_adds 40 = .ok (.iload 7, 2) := by decide +kernel
theorem dX5_adds_42 : decode cX5_adds 42 = .ok (.aload_n 0, 1) := by decide +kernel
theorem dX5_adds_43 : decode cX5_adds 43 = .ok (.iload_n 1, 1) := by decide +kernel
theorem dX5_adds_44 : decode cX5_adds 44 = .ok (.iconst 1, 1) := by decide +kernel
theorem dX5_adds_45 : decode cX5_adds 45 = .ok (.isub, 1) := by decide +kernel
theorem dX5_adds_46 : decode cX5_adds 46 = .ok (.iconst 0, 1) := by decide +kernel
theorem dX5_adds_47 : decode cX5_adds 47 = .ok (.iload_n 2, 1) := by decide +kernel
theorem dX5_adds_48 : decode cX5_adds 48 = .ok (.iload_n 3, 1) := by decide +kernel
theorem dX5_adds_49 : decode cX5_adds 49 = .ok (.iconst 0, 1) := by decide +kernel
theorem dX5_adds_50 : decode cX5_adds 50 = .ok (.invokevirtual 75, 3) := by decide +kernel
theorem dX5_adds_53 : decode cX5_adds 53 = .ok (.iadd, 1) := by decide +kernel
theorem dX5_adds_54 : decode cX5_adds 54 = .ok (.istore 7, 2) := by decide +kernel
theorem dX5_adds_56 : decode cX5_adds 56 = .ok (.iload 6, 2) := by decide +kernel
theorem dX5_adds_58 : decode cX5_adds 58 = .ok (.ifCond .eq 23, 3) := by decide +kernel
theorem dX5_adds_61 : decode cX5_adds 61 = .ok (.iload 7, 2) := by decide +kernel
theorem dX5_adds_63 : decode cX5_adds 63 = .ok (.aload_n 0, 1) := by decide +kernel
theorem dX5_adds_64 : decode cX5_adds 64 = .ok (.iload_n 1, 1) := by decide +kernel
theorem dX5_adds_65 : decode cX5_adds 65 = .ok (.iload 4, 2) := by decide +kernel
theorem dX5_adds_67 : decode cX5_adds 67 = .ok (.isub, 1) := by decide +kernel
theorem dX5_adds_68 : decode cX5_adds 68 = .ok (.iconst 1, 1) := by decide +kernel
theorem dX5_adds_69 : decode cX5_adds 69 = .ok (.iload_n 2, 1) := by decide +kernel
theorem dX5_adds_70 : decode cX5_adds 70 = .ok (.iload_n 3, 1) := by decide +kernel
theorem dX5_adds_71 : decode cX5_adds 71 = .ok (.iload 4, 2) := by decide +kernel
theorem dX5_adds_73 : decode cX5_adds 73 = .ok (.iconst 1, 1) := by decide +kernel
theorem dX5_adds_74 : decode cX5_adds 74 = .ok (.isub, 1) := by decide +kernel
theorem dX5_adds_75 : decode cX5_adds 75 = .ok (.invokevirtual 75, 3) := by decide +kernel
theorem dX5_adds_78 : decode cX5_adds 78 = .ok (.iadd, 1) := by decide +kernel
theorem dX5_adds_79 : decode cX5_adds 79 = .ok (.istore 7, 2) := by decide +kernel
theorem dX5_adds_81 : decode cX5_adds 81 = .ok (.iload 6, 2) := by decide +kernel
theorem dX5_adds_83 : decode cX5_adds 83 = .ok (.ifCond .eq 79, 3) := by decide +kernel
theorem dX5_adds_86 : decode cX5_adds 86 = .ok (.aload_n 0, 1) := by decide +kernel
theorem dX5_adds_87 : decode cX5_adds 87 = .ok (.getfield 7, 3) := by decide +kernel
theorem dX5_adds_90 : decode cX5_adds 90 = .ok (.bipush 7, 2) := by decide +kernel
theorem dX5_adds_92 : decode cX5_adds 92 = .ok (.iaload, 1) := by decide +kernel
theorem dX5_adds_93 : decode cX5_adds 93 = .ok (.bipush 8, 2) := by decide +kernel
theorem dX5_adds_95 : decode cX5_adds 95 = .ok (.if_icmp .ne 67, 3) := by decide +kernel
theorem dX5_adds_98 : decode cX5_adds 98 = .ok (.iload 7, 2) := by decide +kernel
theorem dX5_adds_100 : decode cX5_adds 100 = .ok (.iload 5, 2) := by decide +kernel
theorem dX5_adds_102 : decode cX5_adds 102 = .ok (.ifCond .le 21, 3) := by decide +kernel
theorem dX5_adds_105 : decode cX5_adds 105 = .ok (.aload_n 0, 1) := by decide +kernel
theorem dX5_adds_106 : decode cX5_adds 106 = .ok (.iload_n 1, 1) := by decide +kernel
theorem dX5_adds_107 : decode cX5_adds 107 = .ok (.iload 4, 2) := by decide +kernel
theorem dX5_adds_109 : decode cX5_adds 109 = .ok (.isub, 1) := by decide +kernel
theorem dX5_adds_110 : decode cX5_adds 110 = .ok (.iconst 1, 1) := by decide +kernel
theorem dX5_adds_111 : decode cX5_adds 111 = .ok (.isub, 1) := by decide +kernel
theorem dX5_adds_112 : decode cX5_adds 112 = .ok (.iconst 2, 1) := by decide +kernel
theorem dX5_adds_113 : decode cX5_adds 113 = .ok (.iload_n 2, 1) := by decide +kernel
theorem dX5_adds_114 : decode cX5_adds 114 = .ok (.iload_n 3, 1) := by decide +kernel
theorem dX5_adds_115 : decode cX5_adds 115 = .ok (.iload 4, 2) := by decide +kernel
theorem dX5_adds_117 : decode cX5_adds 117 = .ok (.invokevirtual 75, 3) := by decide +kernel
theorem dX5_adds_120 : decode cX5_adds 120 = .ok (.goto 4, 3) := by decide +kernel
theorem dX5_adds_123 : decode cX5_adds 123 = .ok (.iconst 0, 1) := by decide +kernel
theorem dX5_adds_124 : decode cX5_adds 124 = .ok (.iadd, 1) := by decide +kernel
theorem dX5_adds_125 : decode cX5_adds 125 = .ok (.istore 7, 2) := by decide +kernel
theorem dX5_adds_127 : decode cX5_adds 127 = .ok (.iload 7, 2) := by decide +kernel
theorem dX5_adds_129 : decode cX5_adds 129 = .ok (.iload 5, 2) := by decide +kernel
theorem dX5_adds_131 : decode cX5_adds 131 = .ok (.iload 4, 2) := by decide +kernel
theorem dX5_adds_133 : decode cX5_adds 133 = .ok (.iconst 1, 1) := by decide +kernel
theorem dX5_adds_134 : decode cX5_adds 134 = .ok (.isub, 1) := by decide +kernel
theorem dX5_adds_135 : decode cX5_adds 135 = .ok (.if_icmp .ge 23, 3) := by decide +kernel
theorem dX5_adds_138 : decode cX5_adds 138 = .ok (.aload_n 0, 1) := by decide +kernel
theorem dX5_adds_139 : decode cX5_adds 139 = .ok (.iload_n 1, 1) := by decide +kernel
theorem dX5_adds_140 : decode cX5_adds 140 = .ok (.iload 4, 2) := by decide +kernel
theorem dX5_adds_142 : decode cX5_adds 142 = .ok (.isub, 1) := by decide +kernel
theorem dX5_adds_143 : decode cX5_adds 143 = .ok (.iconst 1, 1) := by decide +kernel
theorem dX5_adds_144 : decode cX5_adds 144 = .ok (.iadd, 1) := by decide +kernel
theorem dX5_adds_145 : decode cX5_adds 145 = .ok (.iconst 3, 1) := by decide +kernel
theorem dX5_adds_146 : decode cX5_adds 146 = .ok (.iload_n 2, 1) := by decide +kernel
theorem dX5_adds_147 : decode cX5_adds 147 = .ok (.iload_n 3, 1) := by decide +kernel
theorem dX5_adds_148 : decode cX5_adds 148 = .ok (.iload 4, 2) := by decide +kernel
theorem dX5_adds_150 : decode cX5_adds 150 = .ok (.iconst 2, 1) := by decide +kernel
theorem dX5_adds_151 : decode cX5_adds 151 = .ok (.isub, 1) := by decide +kernel
theorem dX5_adds_152 : decode cX5_adds 152 = .ok (.invokevirtual 75, 3) := by decide +kernel
theorem dX5_adds_155 : decode cX5_adds 155 = .ok (.goto 4, 3) := by decide +kernel
theorem dX5_adds_158 : decode cX5_adds 158 = .ok (.iconst 0, 1) := by decide +kernel
theorem dX5_adds_159 : decode cX5_adds 159 = .ok (.iadd, 1) := by decide +kernel
theorem dX5_adds_160 : decode cX5_adds 160 = .ok (.istore 7, 2) := by decide +kernel
theorem dX5_adds_162 : decode cX5_adds 162 = .ok (.iload 7, 2) := by decide +kernel
theorem dX5_adds_164 : decode cX5_adds 164 = .ok (.ireturn, 1) := by decide +kernel
set_option maxRecDepth 20000 in
theorem ggX5_leastCost_X5_dots : GoodIn wsX5_leastCost wsX5_dots := goodIn_r _ [9, 1, 54, 55, 56, 57, 58, 59, 60, 61, 62, 63, 64, 65, 66, 67, 68] (by decide +kernel) (by decide +kernel)
set_option maxRecDepth 20000 in
theorem gX5_leastCost_X5_dots : GoodIn wsX5_leastCost (wsV RX5 80 RX5 yX5_dots wsX5_dots) := goodIn_app (goodIn_of _ (by decide +kernel)) ggX5_leastCost_X5_dots
set_option maxRecDepth 20000 in
theorem ggX5_leastCost_X5_goesOn : GoodIn wsX5_leastCost wsX5_goesOn := goodIn_r _ [13, 14, 2, 4, 15, 16, 17, 8, 18, 1, 19, 20, 21, 22, 23, 24, 25, 26, 27, 28, 29, 30, 31, 32, 33, 34, 35, 36, 37, 38, 39, 40, 41, 42, 43, 44, 45, 46, 47, 48, 49, 50, 54, 55, 56, 57, 58, 59, 60, 61, 62, 63, 64, 65, 66, 67, 68] (by decide +kernel) (by decide +kernel)
set_option maxRecDepth 20000 in
theorem gX5_leastCost_X5_goesOn : GoodIn wsX5_leastCost (wsV RX5 84 RX5 yX5_goesOn wsX5_goesOn) := goodIn_app (goodIn_of _ (by decide +kernel)) ggX5_leastCost_X5_goesOn
set_option maxRecDepth 20000 in
theorem ggX5_leastCost_X5_bring : GoodIn wsX5_leastCost wsX5_bring := goodIn_r _ [53] (by decide +kernel) (by decide +kernel)
set_option maxRecDepth 20000 in
theorem gX5_leastCost_X5_bring : GoodIn wsX5_leastCost (va_wsS RX5 48 yX5_bring wsX5_bring) := goodIn_app (goodIn_of _ (by decide +kernel)) ggX5_leastCost_X5_bring
theorem dX5_leastCost_0 : decode cX5_leastCost 0 = .ok (.iconst 2, 1) := by decide +kernel
theorem dX5_leastCost_1 : decode cX5_leastCost 1 = .ok (.aload_n 0, 1) := by decide +kernel
theorem dX5_leastCost_2 : decode cX5_leastCost 2 = .ok (.getfield 7, 3) := by decide +kernel
theorem dX5_leastCost_5 : decode cX5_leastCost 5 = .ok (.iconst 0, 1) := by decide +kernel
theorem dX5_leastCost_6 : decode cX5_leastCost 6 = .ok (.iaload, 1) := by decide +kernel
theorem dX5_leastCost_7 : decode cX5_leastCost 7 = .ok (.ishl, 1) := by decide +kernel
theorem dX5_leastCost_8 : decode cX5_leastCost 8 = .ok (.istore_n 1, 1) := by decide +kernel
theorem dX5_leastCost_9 : decode cX5_leastCost 9 = .ok (.iconst 0, 1) := by decide +kernel
theorem dX5_leastCost_10 : decode cX5_leastCost 10 = .ok (.istore_n 2, 1) := by decide +kernel
theorem dX5_leastCost_11 : decode cX5_leastCost 11 = .ok (.iload_n 2, 1) := by decide +kernel
theorem dX5_leastCost_12 : decode cX5_leastCost 12 = .ok (.iload_n 1, 1) := by decide +kernel
theorem dX5_leastCost_13 : decode cX5_leastCost 13 = .ok (.if_icmp .ge 25, 3) := by decide +kernel
theorem dX5_leastCost_16 : decode cX5_leastCost 16 = .ok (.aload_n 0, 1) := by decide +kernel
theorem dX5_leastCost_17 : decode cX5_leastCost 17 = .ok (.getfield 29, 3) := by decide +kernel
theorem dX5_leastCost_20 : decode cX5_leastCost 20 = .ok (.iload_n 2, 1) := by decide +kernel
theorem dX5_leastCost_21 : decode cX5_leastCost 21 = .ok (.iload_n 2, 1) := by decide +kernel
theorem dX5_leastCost_22 : decode cX5_leastCost 22 = .ok (.ifCond .ne 7, 3) := by decide +kernel
theorem dX5_leastCost_25 : decode cX5_leastCost 25 = .ok (.iconst 0, 1) := by decide +kernel
theorem dX5_leastCost_26 : decode cX5_leastCost 26 = .ok (.goto 5, 3) := by decide +kernel
theorem dX5_leastCost_29 : decode cX5_leastCost 29 = .ok (.ldc 79, 2) := by decide +kernel
theorem dX5_leastCost_31 : decode cX5_leastCost 31 = .ok (.iastore, 1) := by decide +kernel
theorem dX5_leastCost_32 : decode cX5_leastCost 32 = .ok (.iinc 2 1, 3) := by decide +kernel
theorem dX5_leastCost_35 : decode cX5_leastCost 35 = .ok (.goto (-24), 3) := by decide +kernel
theorem dX5_leastCost_38 : decode cX5_leastCost 38 = .ok (.iconst 0, 1) := by decide +kernel
theorem dX5_leastCost_39 : decode cX5_leastCost 39 = .ok (.istore_n 2, 1) := by decide +kernel
theorem dX5_leastCost_40 : decode cX5_leastCost 40 = .ok (.iload_n 2, 1) := by decide +kernel
theorem dX5_leastCost_41 : decode cX5_leastCost 41 = .ok (.aload_n 0, 1) := by decide +kernel
theorem dX5_leastCost_42 : decode cX5_leastCost 42 = .ok (.invokevirtual 80, 3) := by decide +kernel
theorem dX5_leastCost_45 : decode cX5_leastCost 45 = .ok (.if_icmp .ge 75, 3) := by decide +kernel
theorem dX5_leastCost_48 : decode cX5_leastCost 48 = .ok (.iconst 0, 1) := by decide +kernel
theorem dX5_leastCost_49 : decode cX5_leastCost 49 = .ok (.istore_n 3, 1) := by decide +kernel
theorem dX5_leastCost_50 : decode cX5_leastCost 50 = .ok (.iload_n 3, 1) := by decide +kernel
theorem dX5_leastCost_51 : decode cX5_leastCost 51 = .ok (.iload_n 1, 1) := by decide +kernel
theorem dX5_leastCost_52 : decode cX5_leastCost 52 = .ok (.if_icmp .ge 17, 3) := by decide +kernel
theorem dX5_leastCost_55 : decode cX5_leastCost 55 = .ok (.aload_n 0, 1) := by decide +kernel
theorem dX5_leastCost_56 : decode cX5_leastCost 56 = .ok (.getfield 32, 3) := by decide +kernel
theorem dX5_leastCost_59 : decode cX5_leastCost 59 = .ok (.iload_n 3, 1) := by decide +kernel
theorem dX5_leastCost_60 : decode cX5_leastCost 60 = .ok (.ldc 79, 2) := by decide +kernel
theorem dX5_leastCost_62 : decode cX5_leastCost 62 = .ok (.iastore, 1) := by decide +kernel
theorem dX5_leastCost_63 : decode cX5_leastCost 63 = .ok (.iinc 3 1, 3) := by decide +kernel
theorem dX5_leastCost_66 : decode cX5_leastCost 66 = .ok (.goto (-16), 3) := by decide +kernel
theorem dX5_leastCost_69 : decode cX5_leastCost 69 = .ok (.iconst 0, 1) := by decide +kernel
theorem dX5_leastCost_70 : decode cX5_leastCost 70 = .ok (.istore_n 3, 1) := by decide +kernel
theorem dX5_leastCost_71 : decode cX5_leastCost 71 = .ok (.iload_n 3, 1) := by decide +kernel
theorem dX5_leastCost_72 : decode cX5_leastCost 72 = .ok (.iload_n 1, 1) := by decide +kernel
theorem dX5_leastCost_73 : decode cX5_leastCost 73 = .ok (.if_icmp .ge 27, 3) := by decide +kernel
theorem dX5_leastCost_76 : decode cX5_leastCost 76 = .ok (.aload_n 0, 1) := by decide +kernel
theorem dX5_leastCost_77 : decode cX5_leastCost 77 = .ok (.getfield 29, 3) := by decide +kernel
theorem dX5_leastCost_80 : decode cX5_leastCost 80 = .ok (.iload_n 3, 1) := by decide +kernel
theorem dX5_leastCost_81 : decode cX5_leastCost 81 = .ok (.iaload, 1) := by decide +kernel
theorem dX5_leastCost_82 : decode cX5_leastCost 82 = .ok (.ldc 79, 2) := by decide +kernel
theorem dX5_leastCost_84 : decode cX5_leastCost 84 = .ok (.if_icmp .ge 10, 3) := by decide +kernel
theorem dX5_leastCost_87 : decode cX5_leastCost 87 = .ok (.aload_n 0, 1) := by decide +kernel
theorem dX5_leastCost_88 : decode cX5_leastCost 88 = .ok (.iload_n 2, 1) := by decide +kernel
theorem dX5_leastCost_89 : decode cX5_leastCost 89 = .ok (.iload_n 3, 1) := by decide +kernel
theorem dX5_leastCost_90 : decode cX5_leastCost 90 = .ok (.iload_n 1, 1) := by decide +kernel
theorem dX5_leastCost_91 : decode cX5_leastCost 91 = .ok (.invokevirtual 84, 3) := by decide +kernel
theorem dX5_leastCost_94 : decode cX5_leastCost 94 = .ok (.iinc 3 1, 3) := by decide +kernel
theorem dX5_leastCost_97 : decode cX5_leastCost 97 = .ok (.goto (-26), 3) := by decide +kernel
theorem dX5_leastCost_100 : decode cX5_leastCost 100 = .ok (.aload_n 0, 1) := by decide +kernel
theorem dX5_leastCost_101 : decode cX5_leastCost 101 = .ok (.getfield 32, 3) := by decide +kernel
theorem dX5_leastCost_104 : decode cX5_leastCost 104 = .ok (.iconst 0, 1) := by decide +kernel
theorem dX5_leastCost_105 : decode cX5_leastCost 105 = .ok (.aload_n 0, 1) := by decide +kernel
theorem dX5_leastCost_106 : decode cX5_leastCost 106 = .ok (.getfield 29, 3) := by decide +kernel
theorem dX5_leastCost_109 : decode cX5_leastCost 109 = .ok (.iconst 0, 1) := by decide +kernel
theorem dX5_leastCost_110 : decode cX5_leastCost 110 = .ok (.iload_n 1, 1) := by decide +kernel
theorem dX5_leastCost_111 : decode cX5_leastCost 111 = .ok (.invokestatic 48, 3) := by decide +kernel
theorem dX5_leastCost_114 : decode cX5_leastCost 114 = .ok (.iinc 2 1, 3) := by decide +kernel
theorem dX5_leastCost_117 : decode cX5_leastCost 117 = .ok (.goto (-77), 3) := by decide +kernel
theorem dX5_leastCost_120 : decode cX5_leastCost 120 = .ok (.ldc 79, 2) := by decide +kernel
theorem dX5_leastCost_122 : decode cX5_leastCost 122 = .ok (.istore_n 2, 1) := by decide +kernel
theorem dX5_leastCost_123 : decode cX5_leastCost 123 = .ok (.iconst 0, 1) := by decide +kernel
theorem dX5_leastCost_124 : decode cX5_leastCost 124 = .ok (.istore_n 3, 1) := by decide +kernel
theorem dX5_leastCost_125 : decode cX5_leastCost 125 = .ok (.iload_n 3, 1) := by decide +kernel
theorem dX5_leastCost_126 : decode cX5_leastCost 126 = .ok (.iload_n 1, 1) := by decide +kernel
theorem dX5_leastCost_127 : decode cX5_leastCost 127 = .ok (.if_icmp .ge 30, 3) := by decide +kernel
theorem dX5_leastCost_130 : decode cX5_leastCost 130 = .ok (.aload_n 0, 1) := by decide +kernel
theorem dX5_leastCost_131 : decode cX5_leastCost 131 = .ok (.getfield 29, 3) := by decide +kernel
theorem dX5_leastCost_134 : decode cX5_leastCost 134 = .ok (.iload_n 3, 1) := by decide +kernel
theorem dX5_leastCost_135 : decode cX5_leastCost 135 = .ok (.iaload, 1) := by decide +kernel
theorem dX5_leastCost_136 : decode cX5_leastCost 136 = .ok (.iload_n 2, 1) := by decide +kernel
theorem dX5_leastCost_137 : decode cX5_leastCost 137 = .ok (.if_icmp .ge 12, 3) := by decide +kernel
theorem dX5_leastCost_140 : decode cX5_leastCost 140 = .ok (.aload_n 0, 1) := by decide +kernel
theorem dX5_leastCost_141 : decode cX5_leastCost 141 = .ok (.getfield 29, 3) := by decide +kernel
theorem dX5_leastCost_144 : decode cX5_leastCost 144 = .ok (.iload_n 3, 1) := by decide +kernel
theorem dX5_leastCost_145 : decode cX5_leastCost 145 = .ok (.iaload, 1) := by decide +kernel
theorem dX5_leastCost_146 : decode cX5_leastCost 146 = .ok (.goto 4, 3) := by decide +kernel
theorem dX5_leastCost_149 : decode cX5_leastCost 149 = .ok (.iload_n 2, 1) := by decide +kernel
theorem dX5_leastCost_150 : decode cX5_leastCost 150 = .ok (.istore_n 2, 1) := by decide +kernel
theorem dX5_leastCost_151 : decode cX5_leastCost 151 = .ok (.iinc 3 1, 3) := by decide +kernel
theorem dX5_leastCost_154 : decode cX5_leastCost 154 = .ok (.goto (-29), 3) := by decide +kernel
theorem dX5_leastCost_157 : decode cX5_leastCost 157 = .ok (.iload_n 2, 1) := by decide +kernel
theorem dX5_leastCost_158 : decode cX5_leastCost 158 = .ok (.ireturn, 1) := by decide +kernel
set_option maxRecDepth 20000 in
theorem ggX5_goesOn_X5_adds : GoodIn wsX5_goesOn wsX5_adds := goodIn_r _ [8, 9, 10, 11, 12, 7, 13, 14, 15, 16, 17, 18, 19, 20, 21, 22, 23, 24, 25, 26, 27, 28, 29, 30, 31, 32, 33, 34, 35, 36, 37, 38, 39, 40, 41, 42, 43, 44, 45, 46, 47, 48, 49, 50, 51, 52, 53, 54, 55, 56] (by decide +kernel) (by decide +kernel)
set_option maxRecDepth 20000 in
theorem gX5_goesOn_X5_adds : GoodIn wsX5_goesOn (wsV RX5 88 RX5 yX5_adds wsX5_adds) := goodIn_app (goodIn_of _ (by decide +kernel)) ggX5_goesOn_X5_adds
theorem dX5_goesOn_0 : decode cX5_goesOn 0 = .ok (.iconst 0, 1) := by decide +kernel
theorem dX5_goesOn_1 : decode cX5_goesOn 1 = .ok (.istore 4, 2) := by decide +kernel
theorem dX5_goesOn_3 : decode cX5_goesOn 3 = .ok (.iload 4, 2) := by decide +kernel
theorem dX5_goesOn_5 : decode cX5_goesOn 5 = .ok (.iconst 2, 1) := by decide +kernel
theorem dX5_goesOn_6 : decode cX5_goesOn 6 = .ok (.if_icmp .ge 91, 3) := by decide +kernel
theorem dX5_goesOn_9 : decode cX5_goesOn 9 = .ok (.aload_n 0, 1) := by decide +kernel
theorem dX5_goesOn_10 : decode cX5_goesOn 10 = .ok (.getfield 26, 3) := by decide +kernel
theorem dX5_goesOn_13 : decode cX5_goesOn 13 = .ok (.iload_n 1, 1) := by decide +kernel
theorem dX5_goesOn_14 : decode cX5_goesOn 14 = .ok (.iaload, 1) := by decide +kernel
theorem dX5_goesOn_15 : decode cX5_goesOn 15 = .ok (.ifCond .eq 16, 3) := by decide +kernel
theorem dX5_goesOn_18 : decode cX5_goesOn 18 = .ok (.aload_n 0, 1) := by decide +kernel
theorem dX5_goesOn_19 : decode cX5_goesOn 19 = .ok (.getfield 26, 3) := by decide +kernel
theorem dX5_goesOn_22 : decode cX5_goesOn 22 = .ok (.iload_n 1, 1) := by decide +kernel
theorem dX5_goesOn_23 : decode cX5_goesOn 23 = .ok (.iaload, 1) := by decide +kernel
theorem dX5_goesOn_24 : decode cX5_goesOn 24 = .ok (.iconst 2, 1) := by decide +kernel
theorem dX5_goesOn_25 : decode cX5_goesOn 25 = .ok (.iload 4, 2) := by decide +kernel
theorem dX5_goesOn_27 : decode cX5_goesOn 27 = .ok (.isub, 1) := by decide +kernel
theorem dX5_goesOn_28 : decode cX5_goesOn 28 = .ok (.if_icmp .ne 63, 3) := by decide +kernel
theorem dX5_goesOn_31 : decode cX5_goesOn 31 = .ok (.iload_n 2, 1) := by decide +kernel
theorem dX5_goesOn_32 : decode cX5_goesOn 32 = .ok (.iconst 1, 1) := by decide +kernel
theorem dX5_goesOn_33 : decode cX5_goesOn 33 = .ok (.ishl, 1) := by decide +kernel
theorem dX5_goesOn_34 : decode cX5_goesOn 34 = .ok (.iload 4, 2) := by decide +kernel
theorem dX5_goesOn_36 : decode cX5_goesOn 36 = .ok (.ior, 1) := by decide +kernel
theorem dX5_goesOn_37 : decode cX5_goesOn 37 = .ok (.iload_n 3, 1) := by decide +kernel
theorem dX5_goesOn_38 : decode cX5_goesOn 38 = .ok (.iconst 1, 1) := by decide +kernel
theorem dX5_goesOn_39 : decode cX5_goesOn 39 = .ok (.isub, 1) := by decide +kernel
theorem dX5_goesOn_40 : decode cX5_goesOn 40 = .ok (.iand, 1) := by decide +kernel
theorem dX5_goesOn_41 : decode cX5_goesOn 41 = .ok (.istore 5, 2) := by decide +kernel
theorem dX5_goesOn_43 : decode cX5_goesOn 43 = .ok (.aload_n 0, 1) := by decide +kernel
theorem dX5_goesOn_44 : decode cX5_goesOn 44 = .ok (.getfield 29, 3) := by decide +kernel
theorem dX5_goesOn_47 : decode cX5_goesOn 47 = .ok (.iload_n 2, 1) := by decide +kernel
theorem dX5_goesOn_48 : decode cX5_goesOn 48 = .ok (.iaload, 1) := by decide +kernel
theorem dX5_goesOn_49 : decode cX5_goesOn 49 = .ok (.aload_n 0, 1) := by decide +kernel
theorem dX5_goesOn_50 : decode cX5_goesOn 50 = .ok (.iload_n 1, 1) := by decide +kernel
theorem dX5_goesOn_51 : decode cX5_goesOn 51 = .ok (.iload 4, 2) := by decide +kernel
theorem dX5_goesOn_53 : decode cX5_goesOn 53 = .ok (.iload_n 2, 1) := by decide +kernel
theorem dX5_goesOn_54 : decode cX5_goesOn 54 = .ok (.invokevirtual 88, 3) := by decide +kernel
theorem dX5_goesOn_57 : decode cX5_goesOn 57 = .ok (.iadd, 1) := by decide +kernel
theorem dX5_goesOn_58 : decode cX5_goesOn 58 = .ok (.istore 6, 2) := by decide +kernel
theorem dX5_goesOn_60 : decode cX5_goesOn 60 = .ok (.aload_n 0, 1) := by decide +kernel
theorem dX5_goesOn_61 : decode cX5_goesOn 61 = .ok (.getfield 32, 3) := by decide +kernel
theorem dX5_goesOn_64 : decode cX5_goesOn 64 = .ok (.iload 5, 2) := by decide +kernel
theorem dX5_goesOn_66 : decode cX5_goesOn 66 = .ok (.iload 6, 2) := by decide +kernel
theorem dX5_goesOn_68 : decode cX5_goesOn 68 = .ok (.aload_n 0, 1) := by decide +kernel
theorem dX5_goesOn_69 : decode cX5_goesOn 69 = .ok (.getfield 32, 3) := by decide +kernel
theorem dX5_goesOn_72 : decode cX5_goesOn 72 = .ok (.iload 5, 2) := by decide +kernel
theorem dX5_goesOn_74 : decode cX5_goesOn 74 = .ok (.iaload, 1) := by decide +kernel
theorem dX5_goesOn_75 : decode cX5_goesOn 75 = .ok (.if_icmp .ge 8, 3) := by decide +kernel
theorem dX5_goesOn_78 : decode cX5_goesOn 78 = .ok (.iload 6, 2) := by decide +kernel
theorem dX5_goesOn_80 : decode cX5_goesOn 80 = .ok (.goto 10, 3) := by decide +kernel
theorem dX5_goesOn_83 : decode cX5_goesOn 83 = .ok (.aload_n 0, 1) := by decide +kernel
theorem dX5_goesOn_84 : decode cX5_goesOn 84 = .ok (.getfield 32, 3) := by decide +kernel
theorem dX5_goesOn_87 : decode cX5_goesOn 87 = .ok (.iload 5, 2) := by decide +kernel
theorem dX5_goesOn_89 : decode cX5_goesOn 89 = .ok (.iaload, 1) := by decide +kernel
theorem dX5_goesOn_90 : decode cX5_goesOn 90 = .ok (.iastore, 1) := by decide +kernel
theorem dX5_goesOn_91 : decode cX5_goesOn 91 = .ok (.iinc 4 1, 3) := by decide +kernel
theorem dX5_goesOn_94 : decode cX5_goesOn 94 = .ok (.goto (-91), 3) := by decide +kernel
theorem dX5_goesOn_97 : decode cX5_goesOn 97 = .ok (.return_, 1) := by decide +kernel
set_option maxRecDepth 20000 in
theorem ggX5_costWith_X5_leastCost : GoodIn wsX5_costWith wsX5_leastCost := goodIn_r _ [6, 7, 8, 9, 10, 11, 12, 13, 5, 14, 15, 16, 17, 18, 1, 19, 20, 21, 22, 23, 24, 25, 26, 27, 28, 29, 30, 31, 32, 33, 34, 35, 36, 37, 38, 39, 40, 41, 42, 43, 44, 45, 46, 47, 48, 49, 50, 51, 52, 53, 54, 55, 56, 57, 58, 59, 60, 61, 62, 63, 64, 65, 66, 67, 68, 69, 70, 71, 72] (by decide +kernel) (by decide +kernel)
set_option maxRecDepth 20000 in
theorem gX5_costWith_X5_leastCost : GoodIn wsX5_costWith (wsV RX5 92 RX5 yX5_leastCost wsX5_leastCost) := goodIn_app (goodIn_of _ (by decide +kernel)) ggX5_costWith_X5_leastCost
theorem dX5_costWith_0 : decode cX5_costWith 0 = .ok (.aload_n 0, 1) := by decide +kernel
theorem dX5_costWith_1 : decode cX5_costWith 1 = .ok (.getfield 26, 3) := by decide +kernel
theorem dX5_costWith_4 : decode cX5_costWith 4 = .ok (.iload_n 1, 1) := by decide +kernel
theorem dX5_costWith_5 : decode cX5_costWith 5 = .ok (.iaload, 1) := by decide +kernel
theorem dX5_costWith_6 : decode cX5_costWith 6 = .ok (.istore_n 3, 1) := by decide +kernel
theorem dX5_costWith_7 : decode cX5_costWith 7 = .ok (.aload_n 0, 1) := by decide +kernel
theorem dX5_costWith_8 : decode cX5_costWith 8 = .ok (.getfield 26, 3) := by decide +kernel
theorem dX5_costWith_11 : decode cX5_costWith 11 = .ok (.iload_n 1, 1) := by decide +kernel
theorem dX5_costWith_12 : decode cX5_costWith 12 = .ok (.iload_n 2, 1) := by decide +kernel
theorem dX5_costWith_13 : decode cX5_costWith 13 = .ok (.iastore, 1) := by decide +kernel
theorem dX5_costWith_14 : decode cX5_costWith 14 = .ok (.aload_n 0, 1) := by decide +kernel
theorem dX5_costWith_15 : decode cX5_costWith 15 = .ok (.invokevirtual 92, 3) := by decide +kernel
theorem dX5_costWith_18 : decode cX5_costWith 18 = .ok (.istore 4, 2) := by decide +kernel
theorem dX5_costWith_20 : decode cX5_costWith 20 = .ok (.aload_n 0, 1) := by decide +kernel
theorem dX5_costWith_21 : decode cX5_costWith 21 = .ok (.getfield 26, 3) := by decide +kernel
theorem dX5_costWith_24 : decode cX5_costWith 24 = .ok (.iload_n 1, 1) := by decide +kernel
theorem dX5_costWith_25 : decode cX5_costWith 25 = .ok (.iload_n 3, 1) := by decide +kernel
theorem dX5_costWith_26 : decode cX5_costWith 26 = .ok (.iastore, 1) := by decide +kernel
theorem dX5_costWith_27 : decode cX5_costWith 27 = .ok (.iload 4, 2) := by decide +kernel
theorem dX5_costWith_29 : decode cX5_costWith 29 = .ok (.ireturn, 1) := by decide +kernel
set_option maxRecDepth 20000 in
theorem ggX5_bestCost_X5_holdsMarks : GoodIn wsX5_bestCost wsX5_holdsMarks := goodIn_r _ [5, 6, 7, 8, 9, 4, 10, 62, 63, 64, 65, 66, 67, 68, 69, 70, 71, 72, 73, 74, 75, 76] (by decide +kernel) (by decide +kernel)
set_option maxRecDepth 20000 in
theorem gX5_bestCost_X5_holdsMarks : GoodIn wsX5_bestCost (wsV RX5 95 RX5 yX5_holdsMarks wsX5_holdsMarks) := goodIn_app (goodIn_of _ (by decide +kernel)) ggX5_bestCost_X5_holdsMarks
set_option maxRecDepth 20000 in
theorem ggX5_bestCost_X5_leastCost : GoodIn wsX5_bestCost wsX5_leastCost := goodIn_r _ [14, 6, 15, 16, 17, 18, 19, 20, 4, 21, 22, 23, 24, 25, 7, 26, 27, 28, 29, 30, 31, 32, 33, 34, 35, 36, 37, 38, 39, 40, 41, 42, 43, 44, 45, 46, 47, 48, 49, 50, 51, 52, 53, 54, 55, 56, 57, 58, 59, 60, 61, 8, 9, 10, 62, 63, 64, 65, 66, 67, 68, 69, 70, 71, 72, 73, 74, 75, 76] (by decide +kernel) (by decide +kernel)
set_option maxRecDepth 20000 in
theorem gX5_bestCost_X5_leastCost : GoodIn wsX5_bestCost (wsV RX5 92 RX5 yX5_leastCost wsX5_leastCost) := goodIn_app (goodIn_of _ (by decide +kernel)) ggX5_bestCost_X5_leastCost
theorem dX5_bestCost_0 : decode cX5_bestCost 0 = .ok (.aload_n 0, 1) := by decide +kernel
theorem dX5_bestCost_1 : decode cX5_bestCost 1 = .ok (.invokevirtual 95, 3) := by decide +kernel
theorem dX5_bestCost_4 : decode cX5_bestCost 4 = .ok (.aload_n 0, 1) := by decide +kernel
theorem dX5_bestCost_5 : decode cX5_bestCost 5 = .ok (.invokevirtual 92, 3) := by decide +kernel
theorem dX5_bestCost_8 : decode cX5_bestCost 8 = .ok (.ireturn, 1) := by decide +kernel
set_option maxRecDepth 20000 in
theorem ggX5_mayBe_X5_costWith : GoodIn wsX5_mayBe wsX5_costWith := goodIn_r _ [6, 1, 7, 8, 9, 5, 10, 11, 12, 13, 14, 15, 16, 17, 18, 19, 20, 21, 22, 23, 24, 25, 26, 27, 28, 29, 30, 31, 32, 33, 34, 35, 36, 37, 38, 39, 40, 41, 42, 43, 44, 45, 46, 47, 48, 49, 50, 51, 52, 53, 54, 55, 56, 57, 58, 59, 60, 61, 62, 63, 64, 65, 66, 67, 68, 69, 70, 71, 72, 73, 74, 75, 76] (by decide +kernel) (by decide +kernel)
set_option maxRecDepth 20000 in
theorem gX5_mayBe_X5_costWith : GoodIn wsX5_mayBe (wsV RX5 98 RX5 yX5_costWith wsX5_costWith) := goodIn_app (goodIn_of _ (by decide +kernel)) ggX5_mayBe_X5_costWith
theorem dX5_mayBe_0 : decode cX5_mayBe 0 = .ok (.aload_n 0, 1) := by decide +kernel
theorem dX5_mayBe_1 : decode cX5_mayBe 1 = .ok (.getfield 26, 3) := by decide +kernel
theorem dX5_mayBe_4 : decode cX5_mayBe 4 = .ok (.iload_n 1, 1) := by decide +kernel
theorem dX5_mayBe_5 : decode cX5_mayBe 5 = .ok (.iaload, 1) := by decide +kernel
theorem dX5_mayBe_6 : decode cX5_mayBe 6 = .ok (.ifCond .eq 13, 3) := by decide +kernel
theorem dX5_mayBe_9 : decode cX5_mayBe 9 = .ok (.aload_n 0, 1) := by decide +kernel
theorem dX5_mayBe_10 : decode cX5_mayBe 10 = .ok (.getfield 26, 3) := by decide +kernel
theorem dX5_mayBe_13 : decode cX5_mayBe 13 = .ok (.iload_n 1, 1) := by decide +kernel
theorem dX5_mayBe_14 : decode cX5_mayBe 14 = .ok (.iaload, 1) := by decide +kernel
theorem dX5_mayBe_15 : decode cX5_mayBe 15 = .ok (.iload_n 2, 1) := by decide +kernel
theorem dX5_mayBe_16 : decode cX5_mayBe 16 = .ok (.if_icmp .ne 17, 3) := by decide +kernel
theorem dX5_mayBe_19 : decode cX5_mayBe 19 = .ok (.aload_n 0, 1) := by decide +kernel
theorem dX5_mayBe_20 : decode cX5_mayBe 20 = .ok (.iload_n 1, 1) := by decide +kernel
theorem dX5_mayBe_21 : decode cX5_mayBe 21 = .ok (.iload_n 2, 1) := by decide +kernel
theorem dX5_mayBe_22 : decode cX5_mayBe 22 = .ok (.invokevirtual 98, 3) := by decide +kernel
theorem dX5_mayBe_25 : decode cX5_mayBe 25 = .ok (.iload_n 3, 1) := by decide +kernel
theorem dX5_mayBe_26 : decode cX5_mayBe 26 = .ok (.if_icmp .ne 7, 3) := by decide +kernel
theorem dX5_mayBe_29 : decode cX5_mayBe 29 = .ok (.iconst 1, 1) := by decide +kernel
theorem dX5_mayBe_30 : decode cX5_mayBe 30 = .ok (.goto 4, 3) := by decide +kernel
theorem dX5_mayBe_33 : decode cX5_mayBe 33 = .ok (.iconst 0, 1) := by decide +kernel
theorem dX5_mayBe_34 : decode cX5_mayBe 34 = .ok (.ireturn, 1) := by decide +kernel
set_option maxRecDepth 20000 in
theorem ggX5_sideOf_X5_bestCost : GoodIn wsX5_sideOf wsX5_bestCost := goodIn_r _ [5, 6, 7, 8, 4, 9, 10, 11, 12, 13, 14, 15, 16, 17, 18, 19, 20, 21, 22, 23, 24, 25, 26, 27, 28, 29, 30, 31, 32, 33, 34, 35, 36, 37, 38, 39, 40, 41, 42, 43, 44, 45, 46, 47, 48, 49, 50, 51, 52, 53, 54, 55, 56, 57, 58, 59, 60, 61, 62, 63, 64, 65, 74, 75, 76, 77, 78, 79, 80, 81, 82, 83, 84, 85, 86, 87, 88] (by decide +kernel) (by decide +kernel)
set_option maxRecDepth 20000 in
theorem gX5_sideOf_X5_bestCost : GoodIn wsX5_sideOf (wsV RX5 101 RX5 yX5_bestCost wsX5_bestCost) := goodIn_app (goodIn_of _ (by decide +kernel)) ggX5_sideOf_X5_bestCost
set_option maxRecDepth 20000 in
theorem ggX5_sideOf_X5_dots : GoodIn wsX5_sideOf wsX5_dots := goodIn_r _ [25, 10, 74, 75, 76, 77, 78, 79, 80, 81, 82, 83, 84, 85, 86, 87, 88] (by decide +kernel) (by decide +kernel)
set_option maxRecDepth 20000 in
theorem gX5_sideOf_X5_dots : GoodIn wsX5_sideOf (wsV RX5 80 RX5 yX5_dots wsX5_dots) := goodIn_app (goodIn_of _ (by decide +kernel)) ggX5_sideOf_X5_dots
set_option maxRecDepth 20000 in
theorem ggX5_sideOf_X5_mayBe : GoodIn wsX5_sideOf wsX5_mayBe := goodIn_r _ [69, 11, 70, 71, 72, 4, 73, 15, 16, 17, 18, 10, 19, 20, 21, 22, 23, 24, 25, 26, 27, 28, 29, 30, 31, 32, 33, 34, 35, 36, 37, 38, 39, 40, 41, 42, 43, 44, 45, 46, 47, 48, 49, 50, 51, 52, 53, 54, 55, 56, 57, 58, 59, 60, 61, 62, 63, 64, 65, 12, 13, 14, 74, 75, 76, 77, 78, 79, 80, 81, 82, 83, 84, 85, 86, 87, 88] (by decide +kernel) (by decide +kernel)
set_option maxRecDepth 20000 in
theorem gX5_sideOf_X5_mayBe : GoodIn wsX5_sideOf (wsV RX5 104 RX5 yX5_mayBe wsX5_mayBe) := goodIn_app (goodIn_of _ (by decide +kernel)) ggX5_sideOf_X5_mayBe
theorem dX5_sideOf_0 : decode cX5_sideOf 0 = .ok (.aload_n 0, 1) := by decide +kernel
theorem dX5_sideOf_1 : decode cX5_sideOf 1 = .ok (.invokevirtual 101, 3) := by decide +kernel
theorem dX5_sideOf_4 : decode cX5_sideOf 4 = .ok (.istore_n 2, 1) := by decide +kernel
theorem dX5_sideOf_5 : decode cX5_sideOf 5 = .ok (.lconst 0, 1) := by decide +kernel
theorem dX5_sideOf_6 : decode cX5_sideOf 6 = .ok (.lstore_n 3, 1) := by decide +kernel
theorem dX5_sideOf_7 : decode cX5_sideOf 7 = .ok (.iconst 0, 1) := by decide +kernel
theorem dX5_sideOf_8 : decode cX5_sideOf 8 = .ok (.istore 5, 2) := by decide +kernel
theorem dX5_sideOf_10 : decode cX5_sideOf 10 = .ok (.iload 5, 2) := by decide +kernel
theorem dX5_sideOf_12 : decode cX5_sideOf 12 = .ok (.aload_n 0, 1) := by decide +kernel
theorem dX5_sideOf_13 : decode cX5_sideOf 13 = .ok (.invokevirtual 80, 3) := by decide +kernel
theorem dX5_sideOf_16 : decode cX5_sideOf 16 = .ok (.if_icmp .ge 58, 3) := by decide +kernel
theorem dX5_sideOf_19 : decode cX5_sideOf 19 = .ok (.iload_n 1, 1) := by decide +kernel
theorem dX5_sideOf_20 : decode cX5_sideOf 20 = .ok (.ifCond .ne 22, 3) := by decide +kernel
theorem dX5_sideOf_23 : decode cX5_sideOf 23 = .ok (.aload_n 0, 1) := by decide +kernel
theorem dX5_sideOf_24 : decode cX5_sideOf 24 = .ok (.iload 5, 2) := by decide +kernel
theorem dX5_sideOf_26 : decode cX5_sideOf 26 = .ok (.iconst 2, 1) := by decide +kernel
theorem dX5_sideOf_27 : decode cX5_sideOf 27 = .ok (.iload_n 2, 1) := by decide +kernel
theorem dX5_sideOf_28 : decode cX5_sideOf 28 = .ok (.invokevirtual 104, 3) := by decide +kernel
theorem dX5_sideOf_31 : decode cX5_sideOf 31 = .ok (.ifCond .ne 7, 3) := by decide +kernel
theorem dX5_sideOf_34 : decode cX5_sideOf 34 = .ok (.iconst 1, 1) := by decide +kernel
theorem dX5_sideOf_35 : decode cX5_sideOf 35 = .ok (.goto 15, 3) := by decide +kernel
theorem dX5_sideOf_38 : decode cX5_sideOf 38 = .ok (.iconst 0, 1) := by decide +kernel
theorem dX5_sideOf_39 : decode cX5_sideOf 39 = .ok (.goto 11, 3) := by decide +kernel
theorem dX5_sideOf_42 : decode cX5_sideOf 42 = .ok (.aload_n 0, 1) := by decide +kernel
theorem dX5_sideOf_43 : decode cX5_sideOf 43 = .ok (.iload 5, 2) := by decide +kernel
theorem dX5_sideOf_45 : decode cX5_sideOf 45 = .ok (.iconst 1, 1) := by decide +kernel
theorem dX5_sideOf_46 : decode cX5_sideOf 46 = .ok (.iload_n 2, 1) := by decide +kernel
theorem dX5_sideOf_47 : decode cX5_sideOf 47 = .ok (.invokevirtual 104, 3) := by decide +kernel
theorem dX5_sideOf_50 : decode cX5_sideOf 50 = .ok (.istore 6, 2) := by decide +kernel
theorem dX5_sideOf_52 : decode cX5_sideOf 52 = .ok (.lload_n 3, 1) := by decide +kernel
theorem dX5_sideOf_53 : decode cX5_sideOf 53 = .ok (.iload 6, 2) := by decide +kernel
theorem dX5_sideOf_55 : decode cX5_sideOf 55 = .ok (.ifCond .eq 10, 3) := by decide +kernel
theorem dX5_sideOf_58 : decode cX5_sideOf 58 = .ok (.lconst 1, 1) := by decide +kernel
theorem dX5_sideOf_59 : decode cX5_sideOf 59 = .ok (.iload 5, 2) := by decide +kernel
theorem dX5_sideOf_61 : decode cX5_sideOf 61 = .ok (.lshl, 1) := by decide +kernel
theorem dX5_sideOf_62 : decode cX5_sideOf 62 = .ok (.goto 4, 3) := by decide +kernel
theorem dX5_sideOf_65 : decode cX5_sideOf 65 = .ok (.lconst 0, 1) := by decide +kernel
theorem dX5_sideOf_66 : decode cX5_sideOf 66 = .ok (.lor, 1) := by decide +kernel
theorem dX5_sideOf_67 : decode cX5_sideOf 67 = .ok (.lstore_n 3, 1) := by decide +kernel
theorem dX5_sideOf_68 : decode cX5_sideOf 68 = .ok (.iinc 5 1, 3) := by decide +kernel
theorem dX5_sideOf_71 : decode cX5_sideOf 71 = .ok (.goto (-61), 3) := by decide +kernel
theorem dX5_sideOf_74 : decode cX5_sideOf 74 = .ok (.lload_n 3, 1) := by decide +kernel
theorem dX5_sideOf_75 : decode cX5_sideOf 75 = .ok (.lreturn, 1) := by decide +kernel
theorem dX5_isIn_0 : decode cX5_isIn 0 = .ok (.lload_n 0, 1) := by decide +kernel
theorem dX5_isIn_1 : decode cX5_isIn 1 = .ok (.iload_n 2, 1) := by decide +kernel
theorem dX5_isIn_2 : decode cX5_isIn 2 = .ok (.lshr, 1) := by decide +kernel
theorem dX5_isIn_3 : decode cX5_isIn 3 = .ok (.lconst 1, 1) := by decide +kernel
theorem dX5_isIn_4 : decode cX5_isIn 4 = .ok (.land, 1) := by decide +kernel
theorem dX5_isIn_5 : decode cX5_isIn 5 = .ok (.lconst 1, 1) := by decide +kernel
theorem dX5_isIn_6 : decode cX5_isIn 6 = .ok (.lcmp, 1) := by decide +kernel
theorem dX5_isIn_7 : decode cX5_isIn 7 = .ok (.ifCond .ne 7, 3) := by decide +kernel
theorem dX5_isIn_10 : decode cX5_isIn 10 = .ok (.iconst 1, 1) := by decide +kernel
theorem dX5_isIn_11 : decode cX5_isIn 11 = .ok (.goto 4, 3) := by decide +kernel
theorem dX5_isIn_14 : decode cX5_isIn 14 = .ok (.iconst 0, 1) := by decide +kernel
theorem dX5_isIn_15 : decode cX5_isIn 15 = .ok (.ireturn, 1) := by decide +kernel
set_option maxRecDepth 20000 in
theorem ggX5_picture_X5_in : GoodIn wsX5_picture wsX5_in := goodIn_r _ [5] (by decide +kernel) (by decide +kernel)
set_option maxRecDepth 20000 in
theorem gX5_picture_X5_in : GoodIn wsX5_picture (va_wsS RX5 41 yX5_in wsX5_in) := goodIn_app (goodIn_of _ (by decide +kernel)) ggX5_picture_X5_in
set_option maxRecDepth 20000 in
theorem ggX5_picture_X5_bad : GoodIn wsX5_picture wsX5_bad := goodIn_r _ [9, 10, 24, 25, 26, 27, 28, 29, 30, 31, 32, 33, 34, 35, 36, 37, 38] (by decide +kernel) (by decide +kernel)
set_option maxRecDepth 20000 in
theorem gX5_picture_X5_bad : GoodIn wsX5_picture (wsV RX5 107 RX5 yX5_bad wsX5_bad) := goodIn_app (goodIn_of _ (by decide +kernel)) ggX5_picture_X5_bad
set_option maxRecDepth 20000 in
theorem ggX5_picture_X5_leaves : GoodIn wsX5_picture wsX5_leaves := goodIn_r _ [14, 15, 16, 1, 17, 18, 4, 19, 24, 25, 26, 27, 28, 29, 30, 31, 32, 33, 34, 35, 36, 37, 38] (by decide +kernel) (by decide +kernel)
set_option maxRecDepth 20000 in
theorem gX5_picture_X5_leaves : GoodIn wsX5_picture (wsV RX5 110 RX5 yX5_leaves wsX5_leaves) := goodIn_app (goodIn_of _ (by decide +kernel)) ggX5_picture_X5_leaves
set_option maxRecDepth 20000 in
theorem ggX5_picture_X5_dots : GoodIn wsX5_picture wsX5_dots := goodIn_r _ [23, 1, 24, 25, 26, 27, 28, 29, 30, 31, 32, 33, 34, 35, 36, 37, 38] (by decide +kernel) (by decide +kernel)
set_option maxRecDepth 20000 in
theorem gX5_picture_X5_dots : GoodIn wsX5_picture (wsV RX5 80 RX5 yX5_dots wsX5_dots) := goodIn_app (goodIn_of _ (by decide +kernel)) ggX5_picture_X5_dots
theorem dX5_picture_0 : decode cX5_picture 0 = .ok (.iload_n 1, 1) := by decide +kernel
theorem dX5_picture_1 : decode cX5_picture 1 = .ok (.iconst 2, 1) := by decide +kernel
theorem dX5_picture_2 : decode cX5_picture 2 = .ok (.bipush 6, 2) := by decide +kernel
theorem dX5_picture_4 : decode cX5_picture 4 = .ok (.invokestatic 41, 3) := by decide +kernel
theorem dX5_picture_7 : decode cX5_picture 7 = .ok (.ifCond .eq 13, 3) := by decide +kernel
theorem dX5_picture_10 : decode cX5_picture 10 = .ok (.iload_n 2, 1) := by decide +kernel
theorem dX5_picture_11 : decode cX5_picture 11 = .ok (.iconst 2, 1) := by decide +kernel
theorem dX5_picture_12 : decode cX5_picture 12 = .ok (.bipush 6, 2) := by decide +kernel
theorem dX5_picture_14 : decode cX5_picture 14 = .ok (.invokestatic 41, 3) := by decide +kernel
theorem dX5_picture_17 : decode cX5_picture 17 = .ok (.ifCond .ne 8, 3) := by decide +kernel
theorem dX5_picture_20 : decode cX5_picture 20 = .ok (.aload_n 0, 1) := by decide +kernel
theorem dX5_picture_21 : decode cX5_picture 21 = .ok (.invokevirtual 107, 3) := by decide +kernel
theorem dX5_picture_24 : decode cX5_picture 24 = .ok (.ireturn, 1) := by decide +kernel
theorem dX5_picture_25 : decode cX5_picture 25 = .ok (.aload_n 0, 1) := by decide +kernel
theorem dX5_picture_26 : decode cX5_picture 26 = .ok (.invokevirtual 110, 3) := by decide +kernel
theorem dX5_picture_29 : decode cX5_picture 29 = .ok (.aload_n 0, 1) := by decide +kernel
theorem dX5_picture_30 : decode cX5_picture 30 = .ok (.getfield 7, 3) := by decide +kernel
theorem dX5_picture_33 : decode cX5_picture 33 = .ok (.iconst 0, 1) := by decide +kernel
theorem dX5_picture_34 : decode cX5_picture 34 = .ok (.iload_n 1, 1) := by decide +kernel
theorem dX5_picture_35 : decode cX5_picture 35 = .ok (.iastore, 1) := by decide +kernel
theorem dX5_picture_36 : decode cX5_picture 36 = .ok (.aload_n 0, 1) := by decide +kernel
theorem dX5_picture_37 : decode cX5_picture 37 = .ok (.getfield 7, 3) := by decide +kernel
theorem dX5_picture_40 : decode cX5_picture 40 = .ok (.iconst 1, 1) := by decide +kernel
theorem dX5_picture_41 : decode cX5_picture 41 = .ok (.iload_n 2, 1) := by decide +kernel
theorem dX5_picture_42 : decode cX5_picture 42 = .ok (.iastore, 1) := by decide +kernel
theorem dX5_picture_43 : decode cX5_picture 43 = .ok (.bipush 8, 2) := by decide +kernel
theorem dX5_picture_45 : decode cX5_picture 45 = .ok (.istore_n 3, 1) := by decide +kernel
theorem dX5_picture_46 : decode cX5_picture 46 = .ok (.iload_n 3, 1) := by decide +kernel
theorem dX5_picture_47 : decode cX5_picture 47 = .ok (.bipush 80, 2) := by decide +kernel
theorem dX5_picture_49 : decode cX5_picture 49 = .ok (.if_icmp .ge 16, 3) := by decide +kernel
theorem dX5_picture_52 : decode cX5_picture 52 = .ok (.aload_n 0, 1) := by decide +kernel
theorem dX5_picture_53 : decode cX5_picture 53 = .ok (.getfield 7, 3) := by decide +kernel
theorem dX5_picture_56 : decode cX5_picture 56 = .ok (.iload_n 3, 1) := by decide +kernel
theorem dX5_picture_57 : decode cX5_picture 57 = .ok (.iconst 0, 1) := by decide +kernel
theorem dX5_picture_58 : decode cX5_picture 58 = .ok (.iastore, 1) := by decide +kernel
theorem dX5_picture_59 : decode cX5_picture 59 = .ok (.iinc 3 1, 3) := by decide +kernel
theorem dX5_picture_62 : decode cX5_picture 62 = .ok (.goto (-16), 3) := by decide +kernel
theorem dX5_picture_65 : decode cX5_picture 65 = .ok (.aload_n 0, 1) := by decide +kernel
theorem dX5_picture_66 : decode cX5_picture 66 = .ok (.invokevirtual 80, 3) := by decide +kernel
theorem dX5_picture_69 : decode cX5_picture 69 = .ok (.ireturn, 1) := by decide +kernel
set_option maxRecDepth 20000 in
theorem ggX5_shade_X5_isDot : GoodIn wsX5_shade wsX5_isDot := goodIn_r _ [6, 1, 7, 8, 5, 9, 28, 29, 30, 31, 32, 33, 34, 35, 36, 37, 38, 39, 40, 41, 42] (by decide +kernel) (by decide +kernel)
set_option maxRecDepth 20000 in
theorem gX5_shade_X5_isDot : GoodIn wsX5_shade (wsV RX5 52 RX5 yX5_isDot wsX5_isDot) := goodIn_app (goodIn_of _ (by decide +kernel)) ggX5_shade_X5_isDot
set_option maxRecDepth 20000 in
theorem ggX5_shade_X5_in : GoodIn wsX5_shade wsX5_in := goodIn_r _ [9] (by decide +kernel) (by decide +kernel)
set_option maxRecDepth 20000 in
theorem gX5_shade_X5_in : GoodIn wsX5_shade (va_wsS RX5 41 yX5_in wsX5_in) := goodIn_app (goodIn_of _ (by decide +kernel)) ggX5_shade_X5_in
set_option maxRecDepth 20000 in
theorem ggX5_shade_X5_bad : GoodIn wsX5_shade wsX5_bad := goodIn_r _ [13, 14, 28, 29, 30, 31, 32, 33, 34, 35, 36, 37, 38, 39, 40, 41, 42] (by decide +kernel) (by decide +kernel)
set_option maxRecDepth 20000 in
theorem gX5_shade_X5_bad : GoodIn wsX5_shade (wsV RX5 107 RX5 yX5_bad wsX5_bad) := goodIn_app (goodIn_of _ (by decide +kernel)) ggX5_shade_X5_bad
set_option maxRecDepth 20000 in
theorem ggX5_shade_X5_leaves : GoodIn wsX5_shade wsX5_leaves := goodIn_r _ [18, 19, 20, 1, 21, 22, 5, 23, 28, 29, 30, 31, 32, 33, 34, 35, 36, 37, 38, 39, 40, 41, 42] (by decide +kernel) (by decide +kernel)
set_option maxRecDepth 20000 in
theorem gX5_shade_X5_leaves : GoodIn wsX5_shade (wsV RX5 110 RX5 yX5_leaves wsX5_leaves) := goodIn_app (goodIn_of _ (by decide +kernel)) ggX5_shade_X5_leaves
set_option maxRecDepth 20000 in
theorem ggX5_shade_X5_numberOf : GoodIn wsX5_shade wsX5_numberOf := goodIn_r _ [27, 1, 28, 29, 30, 31, 32, 33, 34, 35, 36, 37, 38, 39, 40, 41, 42] (by decide +kernel) (by decide +kernel)
set_option maxRecDepth 20000 in
theorem gX5_shade_X5_numberOf : GoodIn wsX5_shade (wsV RX5 56 RX5 yX5_numberOf wsX5_numberOf) := goodIn_app (goodIn_of _ (by decide +kernel)) ggX5_shade_X5_numberOf
theorem dX5_shade_0 : decode cX5_shade 0 = .ok (.aload_n 0, 1) := by decide +kernel
theorem dX5_shade_1 : decode cX5_shade 1 = .ok (.iload_n 1, 1) := by decide +kernel
theorem dX5_shade_2 : decode cX5_shade 2 = .ok (.iload_n 2, 1) := by decide +kernel
theorem dX5_shade_3 : decode cX5_shade 3 = .ok (.invokevirtual 52, 3) := by decide +kernel
theorem dX5_shade_6 : decode cX5_shade 6 = .ok (.ifCond .eq 13, 3) := by decide +kernel
theorem dX5_shade_9 : decode cX5_shade 9 = .ok (.iload_n 3, 1) := by decide +kernel
theorem dX5_shade_10 : decode cX5_shade 10 = .ok (.iconst 0, 1) := by decide +kernel
theorem dX5_shade_11 : decode cX5_shade 11 = .ok (.bipush 9, 2) := by decide +kernel
theorem dX5_shade_13 : decode cX5_shade 13 = .ok (.invokestatic 41, 3) := by decide +kernel
theorem dX5_shade_16 : decode cX5_shade 16 = .ok (.ifCond .ne 8, 3) := by decide +kernel
theorem dX5_shade_19 : decode cX5_shade 19 = .ok (.aload_n 0, 1) := by decide +kernel
theorem dX5_shade_20 : decode cX5_shade 20 = .ok (.invokevirtual 107, 3) := by decide +kernel
theorem dX5_shade_23 : decode cX5_shade 23 = .ok (.ireturn, 1) := by decide +kernel
theorem dX5_shade_24 : decode cX5_shade 24 = .ok (.aload_n 0, 1) := by decide +kernel
theorem dX5_shade_25 : decode cX5_shade 25 = .ok (.invokevirtual 110, 3) := by decide +kernel
theorem dX5_shade_28 : decode cX5_shade 28 = .ok (.aload_n 0, 1) := by decide +kernel
theorem dX5_shade_29 : decode cX5_shade 29 = .ok (.getfield 7, 3) := by decide +kernel
theorem dX5_shade_32 : decode cX5_shade 32 = .ok (.bipush 8, 2) := by decide +kernel
theorem dX5_shade_34 : decode cX5_shade 34 = .ok (.aload_n 0, 1) := by decide +kernel
theorem dX5_shade_35 : decode cX5_shade 35 = .ok (.iload_n 1, 1) := by decide +kernel
theorem dX5_shade_36 : decode cX5_shade 36 = .ok (.iload_n 2, 1) := by decide +kernel
theorem dX5_shade_37 : decode cX5_shade 37 = .ok (.invokevirtual 56, 3) := by decide +kernel
theorem dX5_shade_40 : decode cX5_shade 40 = .ok (.iadd, 1) := by decide +kernel
theorem dX5_shade_41 : decode cX5_shade 41 = .ok (.iaload, 1) := by decide +kernel
theorem dX5_shade_42 : decode cX5_shade 42 = .ok (.istore 4, 2) := by decide +kernel
theorem dX5_shade_44 : decode cX5_shade 44 = .ok (.aload_n 0, 1) := by decide +kernel
theorem dX5_shade_45 : decode cX5_shade 45 = .ok (.getfield 7, 3) := by decide +kernel
theorem dX5_shade_48 : decode cX5_shade 48 = .ok (.bipush 8, 2) := by decide +kernel
theorem dX5_shade_50 : decode cX5_shade 50 = .ok (.aload_n 0, 1) := by decide +kernel
theorem dX5_shade_51 : decode cX5_shade 51 = .ok (.iload_n 1, 1) := by decide +kernel
theorem dX5_shade_52 : decode cX5_shade 52 = .ok (.iload_n 2, 1) := by decide +kernel
theorem dX5_shade_53 : decode cX5_shade 53 = .ok (.invokevirtual 56, 3) := by decide +kernel
theorem dX5_shade_56 : decode cX5_shade 56 = .ok (.iadd, 1) := by decide +kernel
theorem dX5_shade_57 : decode cX5_shade 57 = .ok (.iload_n 3, 1) := by decide +kernel
theorem dX5_shade_58 : decode cX5_shade 58 = .ok (.iastore, 1) := by decide +kernel
theorem dX5_shade_59 : decode cX5_shade 59 = .ok (.iload 4, 2) := by decide +kernel
theorem dX5_shade_61 : decode cX5_shade 61 = .ok (.ireturn, 1) := by decide +kernel
set_option maxRecDepth 20000 in
theorem ggX5_draws_X5_in : GoodIn wsX5_draws wsX5_in := goodIn_r _ [10] (by decide +kernel) (by decide +kernel)
set_option maxRecDepth 20000 in
theorem gX5_draws_X5_in : GoodIn wsX5_draws (va_wsS RX5 41 yX5_in wsX5_in) := goodIn_app (goodIn_of _ (by decide +kernel)) ggX5_draws_X5_in
set_option maxRecDepth 20000 in
theorem ggX5_draws_X5_bad : GoodIn wsX5_draws wsX5_bad := goodIn_r _ [14, 15, 29, 30, 31, 32, 33, 34, 35, 36, 37, 38, 39, 40, 41, 42, 43] (by decide +kernel) (by decide +kernel)
set_option maxRecDepth 20000 in
theorem gX5_draws_X5_bad : GoodIn wsX5_draws (wsV RX5 107 RX5 yX5_bad wsX5_bad) := goodIn_app (goodIn_of _ (by decide +kernel)) ggX5_draws_X5_bad
set_option maxRecDepth 20000 in
theorem ggX5_draws_X5_leaves : GoodIn wsX5_draws wsX5_leaves := goodIn_r _ [19, 20, 21, 6, 22, 23, 9, 24, 29, 30, 31, 32, 33, 34, 35, 36, 37, 38, 39, 40, 41, 42, 43] (by decide +kernel) (by decide +kernel)
set_option maxRecDepth 20000 in
theorem gX5_draws_X5_leaves : GoodIn wsX5_draws (wsV RX5 110 RX5 yX5_leaves wsX5_leaves) := goodIn_app (goodIn_of _ (by decide +kernel)) ggX5_draws_X5_leaves
set_option maxRecDepth 20000 in
theorem ggX5_draws_X5_dots : GoodIn wsX5_draws wsX5_dots := goodIn_r _ [28, 6, 29, 30, 31, 32, 33, 34, 35, 36, 37, 38, 39, 40, 41, 42, 43] (by decide +kernel) (by decide +kernel)
set_option maxRecDepth 20000 in
theorem gX5_draws_X5_dots : GoodIn wsX5_draws (wsV RX5 80 RX5 yX5_dots wsX5_dots) := goodIn_app (goodIn_of _ (by decide +kernel)) ggX5_draws_X5_dots
theorem dX5_draws_0 : decode cX5_draws 0 = .ok (.iload_n 1, 1) := by decide +kernel
theorem dX5_draws_1 : decode cX5_draws 1 = .ok (.iconst 0, 1) := by decide +kernel
theorem dX5_draws_2 : decode cX5_draws 2 = .ok (.ldc 113, 2) := by decide +kernel
theorem dX5_draws_4 : decode cX5_draws 4 = .ok (.invokestatic 41, 3) := by decide +kernel
theorem dX5_draws_7 : decode cX5_draws 7 = .ok (.ifCond .eq 13, 3) := by decide +kernel
theorem dX5_draws_10 : decode cX5_draws 10 = .ok (.iload_n 2, 1) := by decide +kernel
theorem dX5_draws_11 : decode cX5_draws 11 = .ok (.iconst 1, 1) := by decide +kernel
theorem dX5_draws_12 : decode cX5_draws 12 = .ok (.bipush 10, 2) := by decide +kernel
theorem dX5_draws_14 : decode cX5_draws 14 = .ok (.invokestatic 41, 3) := by decide +kernel
theorem dX5_draws_17 : decode cX5_draws 17 = .ok (.ifCond .ne 8, 3) := by decide +kernel
theorem dX5_draws_20 : decode cX5_draws 20 = .ok (.aload_n 0, 1) := by decide +kernel
theorem dX5_draws_21 : decode cX5_draws 21 = .ok (.invokevirtual 107, 3) := by decide +kernel
theorem dX5_draws_24 : decode cX5_draws 24 = .ok (.ireturn, 1) := by decide +kernel
theorem dX5_draws_25 : decode cX5_draws 25 = .ok (.aload_n 0, 1) := by decide +kernel
theorem dX5_draws_26 : decode cX5_draws 26 = .ok (.invokevirtual 110, 3) := by decide +kernel
theorem dX5_draws_29 : decode cX5_draws 29 = .ok (.iload_n 1, 1) := by decide +kernel
theorem dX5_draws_30 : decode cX5_draws 30 = .ok (.i2l, 1) := by decide +kernel
theorem dX5_draws_31 : decode cX5_draws 31 = .ok (.lstore_n 3, 1) := by decide +kernel
theorem dX5_draws_32 : decode cX5_draws 32 = .ok (.iconst 0, 1) := by decide +kernel
theorem dX5_draws_33 : decode cX5_draws 33 = .ok (.istore 5, 2) := by decide +kernel
theorem dX5_draws_35 : decode cX5_draws 35 = .ok (.iconst 0, 1) := by decide +kernel
theorem dX5_draws_36 : decode cX5_draws 36 = .ok (.istore 6, 2) := by decide +kernel
theorem dX5_draws_38 : decode cX5_draws 38 = .ok (.iload 6, 2) := by decide +kernel
theorem dX5_draws_40 : decode cX5_draws 40 = .ok (.aload_n 0, 1) := by decide +kernel
theorem dX5_draws_41 : decode cX5_draws 41 = .ok (.invokevirtual 80, 3) := by decide +kernel
theorem dX5_draws_44 : decode cX5_draws 44 = .ok (.if_icmp .ge 53, 3) := by decide +kernel
theorem dX5_draws_47 : decode cX5_draws 47 = .ok (.lload_n 3, 1) := by decide +kernel
theorem dX5_draws_48 : decode cX5_draws 48 = .ok (.ldc2_w 114, 3) := by decide +kernel
theorem dX5_draws_51 : decode cX5_draws 51 = .ok (.lmul, 1) := by decide +kernel
theorem dX5_draws_52 : decode cX5_draws 52 = .ok (.ldc2_w 116, 3) := by decide +kernel
theorem dX5_draws_55 : decode cX5_draws 55 = .ok (.ladd, 1) := by decide +kernel
theorem dX5_draws_56 : decode cX5_draws 56 = .ok (.ldc2_w 118, 3) := by decide +kernel
theorem dX5_draws_59 : decode cX5_draws 59 = .ok (.lrem, 1) := by decide +kernel
theorem dX5_draws_60 : decode cX5_draws 60 = .ok (.lstore_n 3, 1) := by decide +kernel
theorem dX5_draws_61 : decode cX5_draws 61 = .ok (.lload_n 3, 1) := by decide +kernel
theorem dX5_draws_62 : decode cX5_draws 62 = .ok (.ldc2_w 120, 3) := by decide +kernel
theorem dX5_draws_65 : decode cX5_draws 65 = .ok (.ldiv, 1) := by decide +kernel
theorem dX5_draws_66 : decode cX5_draws 66 = .ok (.iload_n 2, 1) := by decide +kernel
theorem dX5_draws_67 : decode cX5_draws 67 = .ok (.i2l, 1) := by decide +kernel
theorem dX5_draws_68 : decode cX5_draws 68 = .ok (.lrem, 1) := by decide +kernel
theorem dX5_draws_69 : decode cX5_draws 69 = .ok (.l2i, 1) := by decide +kernel
theorem dX5_draws_70 : decode cX5_draws 70 = .ok (.istore 7, 2) := by decide +kernel
theorem dX5_draws_72 : decode cX5_draws 72 = .ok (.aload_n 0, 1) := by decide +kernel
theorem dX5_draws_73 : decode cX5_draws 73 = .ok (.getfield 7, 3) := by decide +kernel
theorem dX5_draws_76 : decode cX5_draws 76 = .ok (.bipush 8, 2) := by decide +kernel
theorem dX5_draws_78 : decode cX5_draws 78 = .ok (.iload 6, 2) := by decide +kernel
theorem dX5_draws_80 : decode cX5_draws 80 = .ok (.iadd, 1) := by decide +kernel
theorem dX5_draws_81 : decode cX5_draws 81 = .ok (.iload 7, 2) := by decide +kernel
theorem dX5_draws_83 : decode cX5_draws 83 = .ok (.iastore, 1) := by decide +kernel
theorem dX5_draws_84 : decode cX5_draws 84 = .ok (.iload 5, 2) := by decide +kernel
theorem dX5_draws_86 : decode cX5_draws 86 = .ok (.iload 7, 2) := by decide +kernel
theorem dX5_draws_88 : decode cX5_draws 88 = .ok (.iadd, 1) := by decide +kernel
theorem dX5_draws_89 : decode cX5_draws 89 = .ok (.istore 5, 2) := by decide +kernel
theorem dX5_draws_91 : decode cX5_draws 91 = .ok (.iinc 6 1, 3) := by decide +kernel
theorem dX5_draws_94 : decode cX5_draws 94 = .ok (.goto (-56), 3) := by decide +kernel
theorem dX5_draws_97 : decode cX5_draws 97 = .ok (.iload 5, 2) := by decide +kernel
theorem dX5_draws_99 : decode cX5_draws 99 = .ok (.ireturn, 1) := by decide +kernel
set_option maxRecDepth 20000 in
theorem ggX5_blot_X5_isDot : GoodIn wsX5_blot wsX5_isDot := goodIn_r _ [6, 1, 7, 8, 5, 9, 31, 32, 33, 34, 35, 36, 37, 38, 39, 40, 41, 42, 43, 44, 45] (by decide +kernel) (by decide +kernel)
set_option maxRecDepth 20000 in
theorem gX5_blot_X5_isDot : GoodIn wsX5_blot (wsV RX5 52 RX5 yX5_isDot wsX5_isDot) := goodIn_app (goodIn_of _ (by decide +kernel)) ggX5_blot_X5_isDot
set_option maxRecDepth 20000 in
theorem ggX5_blot_X5_in : GoodIn wsX5_blot wsX5_in := goodIn_r _ [9] (by decide +kernel) (by decide +kernel)
set_option maxRecDepth 20000 in
theorem gX5_blot_X5_in : GoodIn wsX5_blot (va_wsS RX5 41 yX5_in wsX5_in) := goodIn_app (goodIn_of _ (by decide +kernel)) ggX5_blot_X5_in
set_option maxRecDepth 20000 in
theorem ggX5_blot_X5_bad : GoodIn wsX5_blot wsX5_bad := goodIn_r _ [13, 14, 31, 32, 33, 34, 35, 36, 37, 38, 39, 40, 41, 42, 43, 44, 45] (by decide +kernel) (by decide +kernel)
set_option maxRecDepth 20000 in
theorem gX5_blot_X5_bad : GoodIn wsX5_blot (wsV RX5 107 RX5 yX5_bad wsX5_bad) := goodIn_app (goodIn_of _ (by decide +kernel)) ggX5_blot_X5_bad
set_option maxRecDepth 20000 in
theorem ggX5_blot_X5_leaves : GoodIn wsX5_blot wsX5_leaves := goodIn_r _ [18, 19, 20, 1, 21, 22, 5, 23, 31, 32, 33, 34, 35, 36, 37, 38, 39, 40, 41, 42, 43, 44, 45] (by decide +kernel) (by decide +kernel)
set_option maxRecDepth 20000 in
theorem gX5_blot_X5_leaves : GoodIn wsX5_blot (wsV RX5 110 RX5 yX5_leaves wsX5_leaves) := goodIn_app (goodIn_of _ (by decide +kernel)) ggX5_blot_X5_leaves
set_option maxRecDepth 20000 in
theorem ggX5_blot_X5_dots : GoodIn wsX5_blot wsX5_dots := goodIn_r _ [27, 1, 31, 32, 33, 34, 35, 36, 37, 38, 39, 40, 41, 42, 43, 44, 45] (by decide +kernel) (by decide +kernel)
set_option maxRecDepth 20000 in
theorem gX5_blot_X5_dots : GoodIn wsX5_blot (wsV RX5 80 RX5 yX5_dots wsX5_dots) := goodIn_app (goodIn_of _ (by decide +kernel)) ggX5_blot_X5_dots
set_option maxRecDepth 20000 in
theorem ggX5_blot_X5_far : GoodIn wsX5_blot wsX5_far := goodIn_r _ [30] (by decide +kernel) (by decide +kernel)
set_option maxRecDepth 20000 in
theorem gX5_blot_X5_far : GoodIn wsX5_blot (va_wsS RX5 66 yX5_far wsX5_far) := goodIn_app (goodIn_of _ (by decide +kernel)) ggX5_blot_X5_far
theorem dX5_blot_0 : decode cX5_blot 0 = .ok (.aload_n 0, 1) := by decide +kernel
theorem dX5_blot_1 : decode cX5_blot 1 = .ok (.iload_n 1, 1) := by decide +kernel
theorem dX5_blot_2 : decode cX5_blot 2 = .ok (.iload_n 2, 1) := by decide +kernel
theorem dX5_blot_3 : decode cX5_blot 3 = .ok (.invokevirtual 52, 3) := by decide +kernel
theorem dX5_blot_6 : decode cX5_blot 6 = .ok (.ifCond .eq 24, 3) := by decide +kernel
theorem dX5_blot_9 : decode cX5_blot 9 = .ok (.iload_n 3, 1) := by decide +kernel
theorem dX5_blot_10 : decode cX5_blot 10 = .ok (.iconst 0, 1) := by decide +kernel
theorem dX5_blot_11 : decode cX5_blot 11 = .ok (.bipush 10, 2) := by decide +kernel
theorem dX5_blot_13 : decode cX5_blot 13 = .ok (.invokestatic 41, 3) := by decide +kernel
theorem dX5_blot_16 : decode cX5_blot 16 = .ok (.ifCond .eq 14, 3) := by decide +kernel
theorem dX5_blot_19 : decode cX5_blot 19 = .ok (.iload 4, 2) := by decide +kernel
theorem dX5_blot_21 : decode cX5_blot 21 = .ok (.iconst 0, 1) := by decide +kernel
theorem dX5_blot_22 : decode cX5_blot 22 = .ok (.bipush 9, 2) := by decide +kernel
theorem dX5_blot_24 : decode cX5_blot 24 = .ok (.invokestatic 41, 3) := by decide +kernel
theorem dX5_blot_27 : decode cX5_blot 27 = .ok (.ifCond .ne 8, 3) := by decide +kernel
theorem dX5_blot_30 : decode cX5_blot 30 = .ok (.aload_n 0, 1) := by decide +kernel
theorem dX5_blot_31 : decode cX5_blot 31 = .ok (.invokevirtual 107, 3) := by decide +kernel
theorem dX5_blot_34 : decode cX5_blot 34 = .ok (.ireturn, 1) := by decide +kernel
theorem dX5_blot_35 : decode cX5_blot 35 = .ok (.aload_n 0, 1) := by decide +kernel
theorem dX5_blot_36 : decode cX5_blot 36 = .ok (.invokevirtual 110, 3) := by decide +kernel
theorem dX5_blot_39 : decode cX5_blot 39 = .ok (.iconst 0, 1) := by decide +kernel
theorem dX5_blot_40 : decode cX5_blot 40 = .ok (.istore 5, 2) := by decide +kernel
theorem dX5_blot_42 : decode cX5_blot 42 = .ok (.iconst 0, 1) := by decide +kernel
theorem dX5_blot_43 : decode cX5_blot 43 = .ok (.istore 6, 2) := by decide +kernel
theorem dX5_blot_45 : decode cX5_blot 45 = .ok (.iload 6, 2) := by decide +kernel
theorem dX5_blot_47 : decode cX5_blot 47 = .ok (.aload_n 0, 1) := by decide +kernel
theorem dX5_blot_48 : decode cX5_blot 48 = .ok (.invokevirtual 80, 3) := by decide +kernel
theorem dX5_blot_51 : decode cX5_blot 51 = .ok (.if_icmp .ge 55, 3) := by decide +kernel
theorem dX5_blot_54 : decode cX5_blot 54 = .ok (.iload 6, 2) := by decide +kernel
theorem dX5_blot_56 : decode cX5_blot 56 = .ok (.aload_n 0, 1) := by decide +kernel
theorem dX5_blot_57 : decode cX5_blot 57 = .ok (.getfield 7, 3) := by decide +kernel
theorem dX5_blot_60 : decode cX5_blot 60 = .ok (.iconst 0, 1) := by decide +kernel
theorem dX5_blot_61 : decode cX5_blot 61 = .ok (.iaload, 1) := by decide +kernel
theorem dX5_blot_62 : decode cX5_blot 62 = .ok (.irem, 1) := by decide +kernel
theorem dX5_blot_63 : decode cX5_blot 63 = .ok (.iload_n 1, 1) := by decide +kernel
theorem dX5_blot_64 : decode cX5_blot 64 = .ok (.invokestatic 66, 3) := by decide +kernel
theorem dX5_blot_67 : decode cX5_blot 67 = .ok (.iload 6, 2) := by decide +kernel
theorem dX5_blot_69 : decode cX5_blot 69 = .ok (.aload_n 0, 1) := by decide +kernel
theorem dX5_blot_70 : decode cX5_blot 70 = .ok (.getfield 7, 3) := by decide +kernel
theorem dX5_blot_73 : decode cX5_blot 73 = .ok (.iconst 0, 1) := by decide +kernel
theorem dX5_blot_74 : decode cX5_blot 74 = .ok (.iaload, 1) := by decide +kernel
theorem dX5_blot_75 : decode cX5_blot 75 = .ok (.idiv, 1) := by decide +kernel
theorem dX5_blot_76 : decode cX5_blot 76 = .ok (.iload_n 2, 1) := by decide +kernel
theorem dX5_blot_77 : decode cX5_blot 77 = .ok (.invokestatic 66, 3) := by decide +kernel
theorem dX5_blot_80 : decode cX5_blot 80 = .ok (.iadd, 1) := by decide +kernel
theorem dX5_blot_81 : decode cX5_blot 81 = .ok (.iload_n 3, 1) := by decide +kernel
theorem dX5_blot_82 : decode cX5_blot 82 = .ok (.if_icmp .gt 18, 3) := by decide +kernel
theorem dX5_blot_85 : decode cX5_blot 85 = .ok (.aload_n 0, 1) := by decide +kernel
theorem dX5_blot_86 : decode cX5_blot 86 = .ok (.getfield 7, 3) := by decide +kernel
theorem dX5_blot_89 : decode cX5_blot 89 = .ok (.bipush 8, 2) := by decide +kernel
theorem dX5_blot_91 : decode cX5_blot 91 = .ok (.iload 6, 2) := by decide +kernel
theorem dX5_blot_93 : decode cX5_blot 93 = .ok (.iadd, 1) := by decide +kernel
theorem dX5_blot_94 : decode cX5_blot 94 = .ok (.iload 4, 2) := by decide +kernel
theorem dX5_blot_96 : decode cX5_blot 96 = .ok (.iastore, 1) := by decide +kernel
theorem dX5_blot_97 : decode cX5_blot 97 = .ok (.iinc 5 1, 3) := by decide +kernel
theorem dX5_blot_100 : decode cX5_blot 100 = .ok (.iinc 6 1, 3) := by decide +kernel
theorem dX5_blot_103 : decode cX5_blot 103 = .ok (.goto (-58), 3) := by decide +kernel
theorem dX5_blot_106 : decode cX5_blot 106 = .ok (.iload 5, 2) := by decide +kernel
theorem dX5_blot_108 : decode cX5_blot 108 = .ok (.ireturn, 1) := by decide +kernel
set_option maxRecDepth 20000 in
theorem ggX5_mark_X5_isDot : GoodIn wsX5_mark wsX5_isDot := goodIn_r _ [6, 1, 7, 8, 5, 9, 28, 29, 30, 31, 32, 33, 34, 35, 36, 37, 38, 39, 40, 41, 42] (by decide +kernel) (by decide +kernel)
set_option maxRecDepth 20000 in
theorem gX5_mark_X5_isDot : GoodIn wsX5_mark (wsV RX5 52 RX5 yX5_isDot wsX5_isDot) := goodIn_app (goodIn_of _ (by decide +kernel)) ggX5_mark_X5_isDot
set_option maxRecDepth 20000 in
theorem ggX5_mark_X5_in : GoodIn wsX5_mark wsX5_in := goodIn_r _ [9] (by decide +kernel) (by decide +kernel)
set_option maxRecDepth 20000 in
theorem gX5_mark_X5_in : GoodIn wsX5_mark (va_wsS RX5 41 yX5_in wsX5_in) := goodIn_app (goodIn_of _ (by decide +kernel)) ggX5_mark_X5_in
set_option maxRecDepth 20000 in
theorem ggX5_mark_X5_bad : GoodIn wsX5_mark wsX5_bad := goodIn_r _ [13, 14, 28, 29, 30, 31, 32, 33, 34, 35, 36, 37, 38, 39, 40, 41, 42] (by decide +kernel) (by decide +kernel)
set_option maxRecDepth 20000 in
theorem gX5_mark_X5_bad : GoodIn wsX5_mark (wsV RX5 107 RX5 yX5_bad wsX5_bad) := goodIn_app (goodIn_of _ (by decide +kernel)) ggX5_mark_X5_bad
set_option maxRecDepth 20000 in
theorem ggX5_mark_X5_leaves : GoodIn wsX5_mark wsX5_leaves := goodIn_r _ [18, 19, 20, 1, 21, 22, 5, 23, 28, 29, 30, 31, 32, 33, 34, 35, 36, 37, 38, 39, 40, 41, 42] (by decide +kernel) (by decide +kernel)
set_option maxRecDepth 20000 in
theorem gX5_mark_X5_leaves : GoodIn wsX5_mark (wsV RX5 110 RX5 yX5_leaves wsX5_leaves) := goodIn_app (goodIn_of _ (by decide +kernel)) ggX5_mark_X5_leaves
set_option maxRecDepth 20000 in
theorem ggX5_mark_X5_numberOf : GoodIn wsX5_mark wsX5_numberOf := goodIn_r _ [27, 1, 28, 29, 30, 31, 32, 33, 34, 35, 36, 37, 38, 39, 40, 41, 42] (by decide +kernel) (by decide +kernel)
set_option maxRecDepth 20000 in
theorem gX5_mark_X5_numberOf : GoodIn wsX5_mark (wsV RX5 56 RX5 yX5_numberOf wsX5_numberOf) := goodIn_app (goodIn_of _ (by decide +kernel)) ggX5_mark_X5_numberOf
theorem dX5_mark_0 : decode cX5_mark 0 = .ok (.aload_n 0, 1) := by decide +kernel
theorem dX5_mark_1 : decode cX5_mark 1 = .ok (.iload_n 1, 1) := by decide +kernel
theorem dX5_mark_2 : decode cX5_mark 2 = .ok (.iload_n 2, 1) := by decide +kernel
theorem dX5_mark_3 : decode cX5_mark 3 = .ok (.invokevirtual 52, 3) := by decide +kernel
theorem dX5_mark_6 : decode cX5_mark 6 = .ok (.ifCond .eq 12, 3) := by decide +kernel
theorem dX5_mark_9 : decode cX5_mark 9 = .ok (.iload_n 3, 1) := by decide +kernel
theorem dX5_mark_10 : decode cX5_mark 10 = .ok (.iconst 0, 1) := by decide +kernel
theorem dX5_mark_11 : decode cX5_mark 11 = .ok (.iconst 2, 1) := by decide +kernel
theorem dX5_mark_12 : decode cX5_mark 12 = .ok (.invokestatic 41, 3) := by decide +kernel
theorem dX5_mark_15 : decode cX5_mark 15 = .ok (.ifCond .ne 8, 3) := by decide +kernel
theorem dX5_mark_18 : decode cX5_mark 18 = .ok (.aload_n 0, 1) := by decide +kernel
theorem dX5_mark_19 : decode cX5_mark 19 = .ok (.invokevirtual 107, 3) := by decide +kernel
theorem dX5_mark_22 : decode cX5_mark 22 = .ok (.ireturn, 1) := by decide +kernel
theorem dX5_mark_23 : decode cX5_mark 23 = .ok (.aload_n 0, 1) := by decide +kernel
theorem dX5_mark_24 : decode cX5_mark 24 = .ok (.invokevirtual 110, 3) := by decide +kernel
theorem dX5_mark_27 : decode cX5_mark 27 = .ok (.aload_n 0, 1) := by decide +kernel
theorem dX5_mark_28 : decode cX5_mark 28 = .ok (.getfield 7, 3) := by decide +kernel
theorem dX5_mark_31 : decode cX5_mark 31 = .ok (.bipush 44, 2) := by decide +kernel
theorem dX5_mark_33 : decode cX5_mark 33 = .ok (.aload_n 0, 1) := by decide +kernel
theorem dX5_mark_34 : decode cX5_mark 34 = .ok (.iload_n 1, 1) := by decide +kernel
theorem dX5_mark_35 : decode cX5_mark 35 = .ok (.iload_n 2, 1) := by decide +kernel
theorem dX5_mark_36 : decode cX5_mark 36 = .ok (.invokevirtual 56, 3) := by decide +kernel
theorem dX5_mark_39 : decode cX5_mark 39 = .ok (.iadd, 1) := by decide +kernel
theorem dX5_mark_40 : decode cX5_mark 40 = .ok (.iaload, 1) := by decide +kernel
theorem dX5_mark_41 : decode cX5_mark 41 = .ok (.istore 4, 2) := by decide +kernel
theorem dX5_mark_43 : decode cX5_mark 43 = .ok (.aload_n 0, 1) := by decide +kernel
theorem dX5_mark_44 : decode cX5_mark 44 = .ok (.getfield 7, 3) := by decide +kernel
theorem dX5_mark_47 : decode cX5_mark 47 = .ok (.bipush 44, 2) := by decide +kernel
theorem dX5_mark_49 : decode cX5_mark 49 = .ok (.aload_n 0, 1) := by decide +kernel
theorem dX5_mark_50 : decode cX5_mark 50 = .ok (.iload_n 1, 1) := by decide +kernel
theorem dX5_mark_51 : decode cX5_mark 51 = .ok (.iload_n 2, 1) := by decide +kernel
theorem dX5_mark_52 : decode cX5_mark 52 = .ok (.invokevirtual 56, 3) := by decide +kernel
theorem dX5_mark_55 : decode cX5_mark 55 = .ok (.iadd, 1) := by decide +kernel
theorem dX5_mark_56 : decode cX5_mark 56 = .ok (.iload_n 3, 1) := by decide +kernel
theorem dX5_mark_57 : decode cX5_mark 57 = .ok (.iastore, 1) := by decide +kernel
theorem dX5_mark_58 : decode cX5_mark 58 = .ok (.iload 4, 2) := by decide +kernel
theorem dX5_mark_60 : decode cX5_mark 60 = .ok (.ireturn, 1) := by decide +kernel
theorem dX5_nearest_0 : decode cX5_nearest 0 = .ok (.iconst 2, 1) := by decide +kernel
theorem dX5_nearest_1 : decode cX5_nearest 1 = .ok (.iload_n 0, 1) := by decide +kernel
theorem dX5_nearest_2 : decode cX5_nearest 2 = .ok (.imul, 1) := by decide +kernel
theorem dX5_nearest_3 : decode cX5_nearest 3 = .ok (.iload_n 1, 1) := by decide +kernel
theorem dX5_nearest_4 : decode cX5_nearest 4 = .ok (.iadd, 1) := by decide +kernel
theorem dX5_nearest_5 : decode cX5_nearest 5 = .ok (.istore_n 2, 1) := by decide +kernel
theorem dX5_nearest_6 : decode cX5_nearest 6 = .ok (.iload_n 2, 1) := by decide +kernel
theorem dX5_nearest_7 : decode cX5_nearest 7 = .ok (.iconst 2, 1) := by decide +kernel
theorem dX5_nearest_8 : decode cX5_nearest 8 = .ok (.iload_n 1, 1) := by decide +kernel
theorem dX5_nearest_9 : decode cX5_nearest 9 = .ok (.imul, 1) := by decide +kernel
theorem dX5_nearest_10 : decode cX5_nearest 10 = .ok (.idiv, 1) := by decide +kernel
theorem dX5_nearest_11 : decode cX5_nearest 11 = .ok (.istore_n 3, 1) := by decide +kernel
theorem dX5_nearest_12 : decode cX5_nearest 12 = .ok (.iload_n 2, 1) := by decide +kernel
theorem dX5_nearest_13 : decode cX5_nearest 13 = .ok (.ifCond .ge 17, 3) := by decide +kernel
theorem dX5_nearest_16 : decode cX5_nearest 16 = .ok (.iload_n 2, 1) := by decide +kernel
theorem dX5_nearest_17 : decode cX5_nearest 17 = .ok (.iconst 2, 1) := by decide +kernel
theorem dX5_nearest_18 : decode cX5_nearest 18 = .ok (.iload_n 1, 1) := by decide +kernel
theorem dX5_nearest_19 : decode cX5_nearest 19 = .ok (.imul, 1) := by decide +kernel
theorem dX5_nearest_20 : decode cX5_nearest 20 = .ok (.irem, 1) := by decide +kernel
theorem dX5_nearest_21 : decode cX5_nearest 21 = .ok (.ifCond .eq 9, 3) := by decide +kernel
theorem dX5_nearest_24 : decode cX5_nearest 24 = .ok (.iload_n 3, 1) := by decide +kernel
theorem dX5_nearest_25 : decode cX5_nearest 25 = .ok (.iconst 1, 1) := by decide +kernel
theorem dX5_nearest_26 : decode cX5_nearest 26 = .ok (.isub, 1) := by decide +kernel
theorem dX5_nearest_27 : decode cX5_nearest 27 = .ok (.goto 4, 3) := by decide +kernel
theorem dX5_nearest_30 : decode cX5_nearest 30 = .ok (.iload_n 3, 1) := by decide +kernel
theorem dX5_nearest_31 : decode cX5_nearest 31 = .ok (.ireturn, 1) := by decide +kernel
set_option maxRecDepth 20000 in
theorem ggX5_strokes_X5_far : GoodIn wsX5_strokes wsX5_far := goodIn_r _ [5] (by decide +kernel) (by decide +kernel)
set_option maxRecDepth 20000 in
theorem gX5_strokes_X5_far : GoodIn wsX5_strokes (va_wsS RX5 66 yX5_far wsX5_far) := goodIn_app (goodIn_of _ (by decide +kernel)) ggX5_strokes_X5_far
set_option maxRecDepth 20000 in
theorem ggX5_strokes_X5_nearest : GoodIn wsX5_strokes wsX5_nearest := goodIn_r _ [8] (by decide +kernel) (by decide +kernel)
set_option maxRecDepth 20000 in
theorem gX5_strokes_X5_nearest : GoodIn wsX5_strokes (va_wsS RX5 122 yX5_nearest wsX5_nearest) := goodIn_app (goodIn_of _ (by decide +kernel)) ggX5_strokes_X5_nearest
set_option maxRecDepth 20000 in
theorem ggX5_strokes_X5_numberOf : GoodIn wsX5_strokes wsX5_numberOf := goodIn_r _ [12, 1, 13, 14, 15, 16, 17, 18, 19, 20, 21, 22, 23, 24, 25, 26, 27] (by decide +kernel) (by decide +kernel)
set_option maxRecDepth 20000 in
theorem gX5_strokes_X5_numberOf : GoodIn wsX5_strokes (wsV RX5 56 RX5 yX5_numberOf wsX5_numberOf) := goodIn_app (goodIn_of _ (by decide +kernel)) ggX5_strokes_X5_numberOf
theorem dX5_strokes_0 : decode cX5_strokes 0 = .ok (.iload_n 2, 1) := by decide +kernel
theorem dX5_strokes_1 : decode cX5_strokes 1 = .ok (.iload 4, 2) := by decide +kernel
theorem dX5_strokes_3 : decode cX5_strokes 3 = .ok (.invokestatic 66, 3) := by decide +kernel
theorem dX5_strokes_6 : decode cX5_strokes 6 = .ok (.iload_n 3, 1) := by decide +kernel
theorem dX5_strokes_7 : decode cX5_strokes 7 = .ok (.iload 5, 2) := by decide +kernel
theorem dX5_strokes_9 : decode cX5_strokes 9 = .ok (.invokestatic 66, 3) := by decide +kernel
theorem dX5_strokes_12 : decode cX5_strokes 12 = .ok (.if_icmp .le 12, 3) := by decide +kernel
theorem dX5_strokes_15 : decode cX5_strokes 15 = .ok (.iload_n 2, 1) := by decide +kernel
theorem dX5_strokes_16 : decode cX5_strokes 16 = .ok (.iload 4, 2) := by decide +kernel
theorem dX5_strokes_18 : decode cX5_strokes 18 = .ok (.invokestatic 66, 3) := by decide +kernel
theorem dX5_strokes_21 : decode cX5_strokes 21 = .ok (.goto 9, 3) := by decide +kernel
theorem dX5_strokes_24 : decode cX5_strokes 24 = .ok (.iload_n 3, 1) := by decide +kernel
theorem dX5_strokes_25 : decode cX5_strokes 25 = .ok (.iload 5, 2) := by decide +kernel
theorem dX5_strokes_27 : decode cX5_strokes 27 = .ok (.invokestatic 66, 3) := by decide +kernel
theorem dX5_strokes_30 : decode cX5_strokes 30 = .ok (.istore 6, 2) := by decide +kernel
theorem dX5_strokes_32 : decode cX5_strokes 32 = .ok (.iconst 0, 1) := by decide +kernel
theorem dX5_strokes_33 : decode cX5_strokes 33 = .ok (.istore 7, 2) := by decide +kernel
theorem dX5_strokes_35 : decode cX5_strokes 35 = .ok (.iconst 0, 1) := by decide +kernel
theorem dX5_strokes_36 : decode cX5_strokes 36 = .ok (.istore 8, 2) := by decide +kernel
theorem dX5_strokes_38 : decode cX5_strokes 38 = .ok (.iload 8, 2) := by decide +kernel
theorem dX5_strokes_40 : decode cX5_strokes 40 = .ok (.iload 6, 2) := by decide +kernel
theorem dX5_strokes_42 : decode cX5_strokes 42 = .ok (.if_icmp .gt 101, 3) := by decide +kernel
theorem dX5_strokes_45 : decode cX5_strokes 45 = .ok (.iload 6, 2) := by decide +kernel
theorem dX5_strokes_47 : decode cX5_strokes 47 = .ok (.ifCond .ne 7, 3) := by decide +kernel
theorem dX5_strokes_50 : decode cX5_strokes 50 = .ok (.iload_n 2, 1) := by decide +kernel
theorem dX5_strokes_51 : decode cX5_strokes 51 = .ok (.goto 17, 3) := by decide +kernel
theorem dX5_strokes_54 : decode cX5_strokes 54 = .ok (.iload_n 2, 1) := by decide +kernel
theorem dX5_strokes_55 : decode cX5_strokes 55 = .ok (.iload 8, 2) := by decide +kernel
theorem dX5_strokes_57 : decode cX5_strokes 57 = .ok (.iload 4, 2) := by decide +kernel
theorem dX5_strokes_59 : decode cX5_strokes 59 = .ok (.iload_n 2, 1) := by decide +kernel
theorem dX5_strokes_60 : decode cX5_strokes 60 = .ok (.isub, 1) := by decide +kernel
theorem dX5_strokes_61 : decode cX5_strokes 61 = .ok (.imul, 1) := by decide +kernel
theorem dX5_strokes_62 : decode cX5_strokes 62 = .ok (.iload 6, 2) := by decide +kernel
theorem dX5_strokes_64 : decode cX5_strokes 64 = .ok (.invokestatic 122, 3) := by decide +kernel
theorem dX5_strokes_67 : decode cX5_strokes 67 = .ok (.iadd, 1) := by decide +kernel
theorem dX5_strokes_68 : decode cX5_strokes 68 = .ok (.istore 9, 2) := by decide +kernel
theorem dX5_strokes_70 : decode cX5_strokes 70 = .ok (.iload 6, 2) := by decide +kernel
theorem dX5_strokes_72 : decode cX5_strokes 72 = .ok (.ifCond .ne 7, 3) := by decide +kernel
theorem dX5_strokes_75 : decode cX5_strokes 75 = .ok (.iload_n 3, 1) := by decide +kernel
theorem dX5_strokes_76 : decode cX5_strokes 76 = .ok (.goto 17, 3) := by decide +kernel
theorem dX5_strokes_79 : decode cX5_strokes 79 = .ok (.iload_n 3, 1) := by decide +kernel
theorem dX5_strokes_80 : decode cX5_strokes 80 = .ok (.iload 8, 2) := by decide +kernel
theorem dX5_strokes_82 : decode cX5_strokes 82 = .ok (.iload 5, 2) := by decide +kernel
theorem dX5_strokes_84 : decode cX5_strokes 84 = .ok (.iload_n 3, 1) := by decide +kernel
theorem dX5_strokes_85 : decode cX5_strokes 85 = .ok (.isub, 1) := by decide +kernel
theorem dX5_strokes_86 : decode cX5_strokes 86 = .ok (.imul, 1) := by decide +kernel
theorem dX5_strokes_87 : decode cX5_strokes 87 = .ok (.iload 6, 2) := by decide +kernel
theorem dX5_strokes_89 : decode cX5_strokes 89 = .ok (.invokestatic 122, 3) := by decide +kernel
theorem dX5_strokes_92 : decode cX5_strokes 92 = .ok (.iadd, 1) := by decide +kernel
theorem dX5_strokes_93 : decode cX5_strokes 93 = .ok (.istore 10, 2) := by decide +kernel
theorem dX5_strokes_95 : decode cX5_strokes 95 = .ok (.bipush 44, 2) := by decide +kernel
theorem dX5_strokes_97 : decode cX5_strokes 97 = .ok (.aload_n 0, 1) := by decide +kernel
theorem dX5_strokes_98 : decode cX5_strokes 98 = .ok (.iload 9, 2) := by decide +kernel
theorem dX5_strokes_100 : decode cX5_strokes 100 = .ok (.iload 10, 2) := by decide +kernel
theorem dX5_strokes_102 : decode cX5_strokes 102 = .ok (.invokevirtual 56, 3) := by decide +kernel
theorem dX5_strokes_105 : decode cX5_strokes 105 = .ok (.iadd, 1) := by decide +kernel
theorem dX5_strokes_106 : decode cX5_strokes 106 = .ok (.istore 11, 2) := by decide +kernel
theorem dX5_strokes_108 : decode cX5_strokes 108 = .ok (.iload 7, 2) := by decide +kernel
theorem dX5_strokes_110 : decode cX5_strokes 110 = .ok (.aload_n 0, 1) := by decide +kernel
theorem dX5_strokes_111 : decode cX5_strokes 111 = .ok (.getfield 7, 3) := by decide +kernel
theorem dX5_strokes_114 : decode cX5_strokes 114 = .ok (.iload 11, 2) := by decide +kernel
theorem dX5_strokes_116 : decode cX5_strokes 116 = .ok (.iaload, 1) := by decide +kernel
theorem dX5_strokes_117 : decode cX5_strokes 117 = .ok (.iload_n 1, 1) := by decide +kernel
theorem dX5_strokes_118 : decode cX5_strokes 118 = .ok (.if_icmp .ne 7, 3) := by decide +kernel
theorem dX5_strokes_121 : decode cX5_strokes 121 = .ok (.iconst 0, 1) := by decide +kernel
theorem dX5_strokes_122 : decode cX5_strokes 122 = .ok (.goto 4, 3) := by decide +kernel
theorem dX5_strokes_125 : decode cX5_strokes 125 = .ok (.iconst 1, 1) := by decide +kernel
theorem dX5_strokes_126 : decode cX5_strokes 126 = .ok (.iadd, 1) := by decide +kernel
theorem dX5_strokes_127 : decode cX5_strokes 127 = .ok (.istore 7, 2) := by decide +kernel
theorem dX5_strokes_129 : decode cX5_strokes 129 = .ok (.aload_n 0, 1) := by decide +kernel
theorem dX5_strokes_130 : decode cX5_strokes 130 = .ok (.getfield 7, 3) := by decide +kernel
theorem dX5_strokes_133 : decode cX5_strokes 133 = .ok (.iload 11, 2) := by decide +kernel
theorem dX5_strokes_135 : decode cX5_strokes 135 = .ok (.iload_n 1, 1) := by decide +kernel
theorem dX5_strokes_136 : decode cX5_strokes 136 = .ok (.iastore, 1) := by decide +kernel
theorem dX5_strokes_137 : decode cX5_strokes 137 = .ok (.iinc 8 1, 3) := by decide +kernel
theorem dX5_strokes_140 : decode cX5_strokes 140 = .ok (.goto (-102), 3) := by decide +kernel
theorem dX5_strokes_143 : decode cX5_strokes 143 = .ok (.iload 7, 2) := by decide +kernel
theorem dX5_strokes_145 : decode cX5_strokes 145 = .ok (.ireturn, 1) := by decide +kernel
set_option maxRecDepth 20000 in
theorem ggX5_stroke_X5_in : GoodIn wsX5_stroke wsX5_in := goodIn_r _ [4] (by decide +kernel) (by decide +kernel)
set_option maxRecDepth 20000 in
theorem gX5_stroke_X5_in : GoodIn wsX5_stroke (va_wsS RX5 41 yX5_in wsX5_in) := goodIn_app (goodIn_of _ (by decide +kernel)) ggX5_stroke_X5_in
set_option maxRecDepth 20000 in
theorem ggX5_stroke_X5_isDot : GoodIn wsX5_stroke wsX5_isDot := goodIn_r _ [8, 9, 1, 2, 3, 4, 38, 39, 40, 41, 42, 43, 44, 45, 46, 47, 48, 49, 50, 51, 52] (by decide +kernel) (by decide +kernel)
set_option maxRecDepth 20000 in
theorem gX5_stroke_X5_isDot : GoodIn wsX5_stroke (wsV RX5 52 RX5 yX5_isDot wsX5_isDot) := goodIn_app (goodIn_of _ (by decide +kernel)) ggX5_stroke_X5_isDot
set_option maxRecDepth 20000 in
theorem ggX5_stroke_X5_bad : GoodIn wsX5_stroke wsX5_bad := goodIn_r _ [13, 14, 38, 39, 40, 41, 42, 43, 44, 45, 46, 47, 48, 49, 50, 51, 52] (by decide +kernel) (by decide +kernel)
set_option maxRecDepth 20000 in
theorem gX5_stroke_X5_bad : GoodIn wsX5_stroke (wsV RX5 107 RX5 yX5_bad wsX5_bad) := goodIn_app (goodIn_of _ (by decide +kernel)) ggX5_stroke_X5_bad
set_option maxRecDepth 20000 in
theorem ggX5_stroke_X5_leaves : GoodIn wsX5_stroke wsX5_leaves := goodIn_r _ [18, 19, 20, 9, 21, 22, 3, 23, 38, 39, 40, 41, 42, 43, 44, 45, 46, 47, 48, 49, 50, 51, 52] (by decide +kernel) (by decide +kernel)
set_option maxRecDepth 20000 in
theorem gX5_stroke_X5_leaves : GoodIn wsX5_stroke (wsV RX5 110 RX5 yX5_leaves wsX5_leaves) := goodIn_app (goodIn_of _ (by decide +kernel)) ggX5_stroke_X5_leaves
set_option maxRecDepth 20000 in
theorem ggX5_stroke_X5_strokes : GoodIn wsX5_stroke wsX5_strokes := goodIn_r _ [27, 9, 28, 29, 3, 30, 31, 32, 33, 34, 35, 36, 37, 38, 39, 40, 41, 42, 43, 44, 45, 46, 47, 48, 49, 50, 51, 52] (by decide +kernel) (by decide +kernel)
set_option maxRecDepth 20000 in
theorem gX5_stroke_X5_strokes : GoodIn wsX5_stroke (wsV RX5 125 RX5 yX5_strokes wsX5_strokes) := goodIn_app (goodIn_of _ (by decide +kernel)) ggX5_stroke_X5_strokes
theorem dX5_stroke_0 : decode cX5_stroke 0 = .ok (.iload_n 1, 1) := by decide +kernel
theorem dX5_stroke_1 : decode cX5_stroke 1 = .ok (.iconst 0, 1) := by decide +kernel
theorem dX5_stroke_2 : decode cX5_stroke 2 = .ok (.iconst 2, 1) := by decide +kernel
theorem dX5_stroke_3 : decode cX5_stroke 3 = .ok (.invokestatic 41, 3) := by decide +kernel
theorem dX5_stroke_6 : decode cX5_stroke 6 = .ok (.ifCond .eq 23, 3) := by decide +kernel
theorem dX5_stroke_9 : decode cX5_stroke 9 = .ok (.aload_n 0, 1) := by decide +kernel
theorem dX5_stroke_10 : decode cX5_stroke 10 = .ok (.iload_n 2, 1) := by decide +kernel
theorem dX5_stroke_11 : decode cX5_stroke 11 = .ok (.iload_n 3, 1) := by decide +kernel
theorem dX5_stroke_12 : decode cX5_stroke 12 = .ok (.invokevirtual 52, 3) := by decide +kernel
theorem dX5_stroke_15 : decode cX5_stroke 15 = .ok (.ifCond .eq 14, 3) := by decide +kernel
theorem dX5_stroke_18 : decode cX5_stroke 18 = .ok (.aload_n 0, 1) := by decide +kernel
theorem dX5_stroke_19 : decode cX5_stroke 19 = .ok (.iload 4, 2) := by decide +kernel
theorem dX5_stroke_21 : decode cX5_stroke 21 = .ok (.iload 5, 2) := by decide +kernel
theorem dX5_stroke_23 : decode cX5_stroke 23 = .ok (.invokevirtual 52, 3) := by decide +kernel
theorem dX5_stroke_26 : decode cX5_stroke 26 = .ok (.ifCond .ne 8, 3) := by decide +kernel
theorem dX5_stroke_29 : decode cX5_stroke 29 = .ok (.aload_n 0, 1) := by decide +kernel
theorem dX5_stroke_30 : decode cX5_stroke 30 = .ok (.invokevirtual 107, 3) := by decide +kernel
theorem dX5_stroke_33 : decode cX5_stroke 33 = .ok (.ireturn, 1) := by decide +kernel
theorem dX5_stroke_34 : decode cX5_stroke 34 = .ok (.aload_n 0, 1) := by decide +kernel
theorem dX5_stroke_35 : decode cX5_stroke 35 = .ok (.invokevirtual 110, 3) := by decide +kernel
theorem dX5_stroke_38 : decode cX5_stroke 38 = .ok (.aload_n 0, 1) := by decide +kernel
theorem dX5_stroke_39 : decode cX5_stroke 39 = .ok (.iload_n 1, 1) := by decide +kernel
theorem dX5_stroke_40 : decode cX5_stroke 40 = .ok (.iload_n 2, 1) := by decide +kernel
theorem dX5_stroke_41 : decode cX5_stroke 41 = .ok (.iload_n 3, 1) := by decide +kernel
theorem dX5_stroke_42 : decode cX5_stroke 42 = .ok (.iload 4, 2) := by decide +kernel
theorem dX5_stroke_44 : decode cX5_stroke 44 = .ok (.iload 5, 2) := by decide +kernel
theorem dX5_stroke_46 : decode cX5_stroke 46 = .ok (.invokevirtual 125, 3) := by decide +kernel
theorem dX5_stroke_49 : decode cX5_stroke 49 = .ok (.ireturn, 1) := by decide +kernel
set_option maxRecDepth 20000 in
theorem ggX5_isTold_X5_in : GoodIn wsX5_isTold wsX5_in := goodIn_r _ [4] (by decide +kernel) (by decide +kernel)
set_option maxRecDepth 20000 in
theorem gX5_isTold_X5_in : GoodIn wsX5_isTold (va_wsS RX5 41 yX5_in wsX5_in) := goodIn_app (goodIn_of _ (by decide +kernel)) ggX5_isTold_X5_in
theorem dX5_isTold_0 : decode cX5_isTold 0 = .ok (.iload_n 0, 1) := by decide +kernel
theorem dX5_isTold_1 : decode cX5_isTold 1 = .ok (.lookupswitch 52 #[(0, 27), (5, 35)], 27) := by decide +kernel
theorem dX5_isTold_28 : decode cX5_isTold 28 = .ok (.iload_n 1, 1) := by decide +kernel
theorem dX5_isTold_29 : decode cX5_isTold 29 = .ok (.iconst 1, 1) := by decide +kernel
theorem dX5_isTold_30 : decode cX5_isTold 30 = .ok (.bipush 50, 2) := by decide +kernel
theorem dX5_isTold_32 : decode cX5_isTold 32 = .ok (.invokestatic 41, 3) := by decide +kernel
theorem dX5_isTold_35 : decode cX5_isTold 35 = .ok (.ireturn, 1) := by decide +kernel
theorem dX5_isTold_36 : decode cX5_isTold 36 = .ok (.iload_n 1, 1) := by decide +kernel
theorem dX5_isTold_37 : decode cX5_isTold 37 = .ok (.iconst 4, 1) := by decide +kernel
theorem dX5_isTold_38 : decode cX5_isTold 38 = .ok (.if_icmp .eq 9, 3) := by decide +kernel
theorem dX5_isTold_41 : decode cX5_isTold 41 = .ok (.iload_n 1, 1) := by decide +kernel
theorem dX5_isTold_42 : decode cX5_isTold 42 = .ok (.bipush 8, 2) := by decide +kernel
theorem dX5_isTold_44 : decode cX5_isTold 44 = .ok (.if_icmp .ne 7, 3) := by decide +kernel
theorem dX5_isTold_47 : decode cX5_isTold 47 = .ok (.iconst 1, 1) := by decide +kernel
theorem dX5_isTold_48 : decode cX5_isTold 48 = .ok (.goto 4, 3) := by decide +kernel
theorem dX5_isTold_51 : decode cX5_isTold 51 = .ok (.iconst 0, 1) := by decide +kernel
theorem dX5_isTold_52 : decode cX5_isTold 52 = .ok (.ireturn, 1) := by decide +kernel
theorem dX5_isTold_53 : decode cX5_isTold 53 = .ok (.iload_n 0, 1) := by decide +kernel
theorem dX5_isTold_54 : decode cX5_isTold 54 = .ok (.iconst 1, 1) := by decide +kernel
theorem dX5_isTold_55 : decode cX5_isTold 55 = .ok (.iconst 4, 1) := by decide +kernel
theorem dX5_isTold_56 : decode cX5_isTold 56 = .ok (.invokestatic 41, 3) := by decide +kernel
theorem dX5_isTold_59 : decode cX5_isTold 59 = .ok (.ifCond .eq 17, 3) := by decide +kernel
theorem dX5_isTold_62 : decode cX5_isTold 62 = .ok (.iload_n 1, 1) := by decide +kernel
theorem dX5_isTold_63 : decode cX5_isTold 63 = .ok (.iconst 0, 1) := by decide +kernel
theorem dX5_isTold_64 : decode cX5_isTold 64 = .ok (.bipush 9, 2) := by decide +kernel
theorem dX5_isTold_66 : decode cX5_isTold 66 = .ok (.invokestatic 41, 3) := by decide +kernel
theorem dX5_isTold_69 : decode cX5_isTold 69 = .ok (.ifCond .eq 7, 3) := by decide +kernel
theorem dX5_isTold_72 : decode cX5_isTold 72 = .ok (.iconst 1, 1) := by decide +kernel
theorem dX5_isTold_73 : decode cX5_isTold 73 = .ok (.goto 4, 3) := by decide +kernel
theorem dX5_isTold_76 : decode cX5_isTold 76 = .ok (.iconst 0, 1) := by decide +kernel
theorem dX5_isTold_77 : decode cX5_isTold 77 = .ok (.ireturn, 1) := by decide +kernel
set_option maxRecDepth 20000 in
theorem ggX5_sets_X5_isTold : GoodIn wsX5_sets wsX5_isTold := goodIn_r _ [5, 6, 7, 4, 8] (by decide +kernel) (by decide +kernel)
set_option maxRecDepth 20000 in
theorem gX5_sets_X5_isTold : GoodIn wsX5_sets (va_wsS RX5 128 yX5_isTold wsX5_isTold) := goodIn_app (goodIn_of _ (by decide +kernel)) ggX5_sets_X5_isTold
set_option maxRecDepth 20000 in
theorem ggX5_sets_X5_bad : GoodIn wsX5_sets wsX5_bad := goodIn_r _ [12, 13, 23, 24, 25, 26, 27, 28, 29, 30, 31, 32, 33, 34, 35, 36, 37] (by decide +kernel) (by decide +kernel)
set_option maxRecDepth 20000 in
theorem gX5_sets_X5_bad : GoodIn wsX5_sets (wsV RX5 107 RX5 yX5_bad wsX5_bad) := goodIn_app (goodIn_of _ (by decide +kernel)) ggX5_sets_X5_bad
set_option maxRecDepth 20000 in
theorem ggX5_sets_X5_leaves : GoodIn wsX5_sets wsX5_leaves := goodIn_r _ [17, 18, 19, 1, 20, 21, 4, 22, 23, 24, 25, 26, 27, 28, 29, 30, 31, 32, 33, 34, 35, 36, 37] (by decide +kernel) (by decide +kernel)
set_option maxRecDepth 20000 in
theorem gX5_sets_X5_leaves : GoodIn wsX5_sets (wsV RX5 110 RX5 yX5_leaves wsX5_leaves) := goodIn_app (goodIn_of _ (by decide +kernel)) ggX5_sets_X5_leaves
theorem dX5_sets_0 : decode cX5_sets 0 = .ok (.iload_n 1, 1) := by decide +kernel
theorem dX5_sets_1 : decode cX5_sets 1 = .ok (.iload_n 2, 1) := by decide +kernel
theorem dX5_sets_2 : decode cX5_sets 2 = .ok (.invokestatic 128, 3) := by decide +kernel
theorem dX5_sets_5 : decode cX5_sets 5 = .ok (.ifCond .ne 8, 3) := by decide +kernel
theorem dX5_sets_8 : decode cX5_sets 8 = .ok (.aload_n 0, 1) := by decide +kernel
theorem dX5_sets_9 : decode cX5_sets 9 = .ok (.invokevirtual 107, 3) := by decide +kernel
theorem dX5_sets_12 : decode cX5_sets 12 = .ok (.ireturn, 1) := by decide +kernel
theorem dX5_sets_13 : decode cX5_sets 13 = .ok (.aload_n 0, 1) := by decide +kernel
theorem dX5_sets_14 : decode cX5_sets 14 = .ok (.invokevirtual 110, 3) := by decide +kernel
theorem dX5_sets_17 : decode cX5_sets 17 = .ok (.aload_n 0, 1) := by decide +kernel
theorem dX5_sets_18 : decode cX5_sets 18 = .ok (.getfield 7, 3) := by decide +kernel
theorem dX5_sets_21 : decode cX5_sets 21 = .ok (.iconst 2, 1) := by decide +kernel
theorem dX5_sets_22 : decode cX5_sets 22 = .ok (.iload_n 1, 1) := by decide +kernel
theorem dX5_sets_23 : decode cX5_sets 23 = .ok (.iadd, 1) := by decide +kernel
theorem dX5_sets_24 : decode cX5_sets 24 = .ok (.iaload, 1) := by decide +kernel
theorem dX5_sets_25 : decode cX5_sets 25 = .ok (.istore_n 3, 1) := by decide +kernel
theorem dX5_sets_26 : decode cX5_sets 26 = .ok (.aload_n 0, 1) := by decide +kernel
theorem dX5_sets_27 : decode cX5_sets 27 = .ok (.getfield 7, 3) := by decide +kernel
theorem dX5_sets_30 : decode cX5_sets 30 = .ok (.iconst 2, 1) := by decide +kernel
theorem dX5_sets_31 : decode cX5_sets 31 = .ok (.iload_n 1, 1) := by decide +kernel
theorem dX5_sets_32 : decode cX5_sets 32 = .ok (.iadd, 1) := by decide +kernel
theorem dX5_sets_33 : decode cX5_sets 33 = .ok (.iload_n 2, 1) := by decide +kernel
theorem dX5_sets_34 : decode cX5_sets 34 = .ok (.iastore, 1) := by decide +kernel
theorem dX5_sets_35 : decode cX5_sets 35 = .ok (.iload_n 3, 1) := by decide +kernel
theorem dX5_sets_36 : decode cX5_sets 36 = .ok (.ireturn, 1) := by decide +kernel
set_option maxRecDepth 20000 in
theorem ggX5_dot_X5_isDot : GoodIn wsX5_dot wsX5_isDot := goodIn_r _ [6, 1, 7, 8, 5, 9, 26, 27, 28, 29, 30, 31, 32, 33, 34, 35, 36, 37, 38, 39, 40] (by decide +kernel) (by decide +kernel)
set_option maxRecDepth 20000 in
theorem gX5_dot_X5_isDot : GoodIn wsX5_dot (wsV RX5 52 RX5 yX5_isDot wsX5_isDot) := goodIn_app (goodIn_of _ (by decide +kernel)) ggX5_dot_X5_isDot
set_option maxRecDepth 20000 in
theorem ggX5_dot_X5_in : GoodIn wsX5_dot wsX5_in := goodIn_r _ [9] (by decide +kernel) (by decide +kernel)
set_option maxRecDepth 20000 in
theorem gX5_dot_X5_in : GoodIn wsX5_dot (va_wsS RX5 41 yX5_in wsX5_in) := goodIn_app (goodIn_of _ (by decide +kernel)) ggX5_dot_X5_in
set_option maxRecDepth 20000 in
theorem ggX5_dot_X5_bad : GoodIn wsX5_dot wsX5_bad := goodIn_r _ [13, 14, 26, 27, 28, 29, 30, 31, 32, 33, 34, 35, 36, 37, 38, 39, 40] (by decide +kernel) (by decide +kernel)
set_option maxRecDepth 20000 in
theorem gX5_dot_X5_bad : GoodIn wsX5_dot (wsV RX5 107 RX5 yX5_bad wsX5_bad) := goodIn_app (goodIn_of _ (by decide +kernel)) ggX5_dot_X5_bad
set_option maxRecDepth 20000 in
theorem ggX5_dot_X5_numberOf : GoodIn wsX5_dot wsX5_numberOf := goodIn_r _ [18, 1, 26, 27, 28, 29, 30, 31, 32, 33, 34, 35, 36, 37, 38, 39, 40] (by decide +kernel) (by decide +kernel)
set_option maxRecDepth 20000 in
theorem gX5_dot_X5_numberOf : GoodIn wsX5_dot (wsV RX5 56 RX5 yX5_numberOf wsX5_numberOf) := goodIn_app (goodIn_of _ (by decide +kernel)) ggX5_dot_X5_numberOf
set_option maxRecDepth 20000 in
theorem ggX5_dot_X5_pull : GoodIn wsX5_dot wsX5_pull := goodIn_r _ [22, 1, 23, 24, 5, 25, 26, 27, 28, 29, 30, 31, 32, 33, 34, 35, 36, 37, 38, 39, 40] (by decide +kernel) (by decide +kernel)
set_option maxRecDepth 20000 in
theorem gX5_dot_X5_pull : GoodIn wsX5_dot (wsV RX5 72 RX5 yX5_pull wsX5_pull) := goodIn_app (goodIn_of _ (by decide +kernel)) ggX5_dot_X5_pull
theorem dX5_dot_0 : decode cX5_dot 0 = .ok (.aload_n 0, 1) := by decide +kernel
theorem dX5_dot_1 : decode cX5_dot 1 = .ok (.iload_n 1, 1) := by decide +kernel
theorem dX5_dot_2 : decode cX5_dot 2 = .ok (.iload_n 2, 1) := by decide +kernel
theorem dX5_dot_3 : decode cX5_dot 3 = .ok (.invokevirtual 52, 3) := by decide +kernel
theorem dX5_dot_6 : decode cX5_dot 6 = .ok (.ifCond .eq 12, 3) := by decide +kernel
theorem dX5_dot_9 : decode cX5_dot 9 = .ok (.iload_n 3, 1) := by decide +kernel
theorem dX5_dot_10 : decode cX5_dot 10 = .ok (.iconst 0, 1) := by decide +kernel
theorem dX5_dot_11 : decode cX5_dot 11 = .ok (.iconst 3, 1) := by decide +kernel
theorem dX5_dot_12 : decode cX5_dot 12 = .ok (.invokestatic 41, 3) := by decide +kernel
theorem dX5_dot_15 : decode cX5_dot 15 = .ok (.ifCond .ne 8, 3) := by decide +kernel
theorem dX5_dot_18 : decode cX5_dot 18 = .ok (.aload_n 0, 1) := by decide +kernel
theorem dX5_dot_19 : decode cX5_dot 19 = .ok (.invokevirtual 107, 3) := by decide +kernel
theorem dX5_dot_22 : decode cX5_dot 22 = .ok (.ireturn, 1) := by decide +kernel
theorem dX5_dot_23 : decode cX5_dot 23 = .ok (.aload_n 0, 1) := by decide +kernel
theorem dX5_dot_24 : decode cX5_dot 24 = .ok (.iload_n 1, 1) := by decide +kernel
theorem dX5_dot_25 : decode cX5_dot 25 = .ok (.iload_n 2, 1) := by decide +kernel
theorem dX5_dot_26 : decode cX5_dot 26 = .ok (.invokevirtual 56, 3) := by decide +kernel
theorem dX5_dot_29 : decode cX5_dot 29 = .ok (.istore 4, 2) := by decide +kernel
theorem dX5_dot_31 : decode cX5_dot 31 = .ok (.iload_n 3, 1) := by decide +kernel
theorem dX5_dot_32 : decode cX5_dot 32 = .ok (.ifCond .ne 16, 3) := by decide +kernel
theorem dX5_dot_35 : decode cX5_dot 35 = .ok (.aload_n 0, 1) := by decide +kernel
theorem dX5_dot_36 : decode cX5_dot 36 = .ok (.getfield 7, 3) := by decide +kernel
theorem dX5_dot_39 : decode cX5_dot 39 = .ok (.bipush 8, 2) := by decide +kernel
theorem dX5_dot_41 : decode cX5_dot 41 = .ok (.iload 4, 2) := by decide +kernel
theorem dX5_dot_43 : decode cX5_dot 43 = .ok (.iadd, 1) := by decide +kernel
theorem dX5_dot_44 : decode cX5_dot 44 = .ok (.iaload, 1) := by decide +kernel
theorem dX5_dot_45 : decode cX5_dot 45 = .ok (.goto 30, 3) := by decide +kernel
theorem dX5_dot_48 : decode cX5_dot 48 = .ok (.iload_n 3, 1) := by decide +kernel
theorem dX5_dot_49 : decode cX5_dot 49 = .ok (.iconst 1, 1) := by decide +kernel
theorem dX5_dot_50 : decode cX5_dot 50 = .ok (.if_icmp .ne 16, 3) := by decide +kernel
theorem dX5_dot_53 : decode cX5_dot 53 = .ok (.aload_n 0, 1) := by decide +kernel
theorem dX5_dot_54 : decode cX5_dot 54 = .ok (.getfield 7, 3) := by decide +kernel
theorem dX5_dot_57 : decode cX5_dot 57 = .ok (.bipush 44, 2) := by decide +kernel
theorem dX5_dot_59 : decode cX5_dot 59 = .ok (.iload 4, 2) := by decide +kernel
theorem dX5_dot_61 : decode cX5_dot 61 = .ok (.iadd, 1) := by decide +kernel
theorem dX5_dot_62 : decode cX5_dot 62 = .ok (.iaload, 1) := by decide +kernel
theorem dX5_dot_63 : decode cX5_dot 63 = .ok (.goto 12, 3) := by decide +kernel
theorem dX5_dot_66 : decode cX5_dot 66 = .ok (.aload_n 0, 1) := by decide +kernel
theorem dX5_dot_67 : decode cX5_dot 67 = .ok (.iload 4, 2) := by decide +kernel
theorem dX5_dot_69 : decode cX5_dot 69 = .ok (.iconst 3, 1) := by decide +kernel
theorem dX5_dot_70 : decode cX5_dot 70 = .ok (.iload_n 3, 1) := by decide +kernel
theorem dX5_dot_71 : decode cX5_dot 71 = .ok (.isub, 1) := by decide +kernel
theorem dX5_dot_72 : decode cX5_dot 72 = .ok (.invokevirtual 72, 3) := by decide +kernel
theorem dX5_dot_75 : decode cX5_dot 75 = .ok (.ireturn, 1) := by decide +kernel
set_option maxRecDepth 20000 in
theorem ggX5_isLinked_X5_isDot : GoodIn wsX5_isLinked wsX5_isDot := goodIn_r _ [5, 6, 7, 8, 4, 9, 10, 11, 12, 13, 14, 15, 16, 17, 18, 19, 20, 21, 22, 23, 24] (by decide +kernel) (by decide +kernel)
set_option maxRecDepth 20000 in
theorem gX5_isLinked_X5_isDot : GoodIn wsX5_isLinked (wsV RX5 52 RX5 yX5_isDot wsX5_isDot) := goodIn_app (goodIn_of _ (by decide +kernel)) ggX5_isLinked_X5_isDot
set_option maxRecDepth 20000 in
theorem ggX5_isLinked_X5_in : GoodIn wsX5_isLinked wsX5_in := goodIn_r _ [9] (by decide +kernel) (by decide +kernel)
set_option maxRecDepth 20000 in
theorem gX5_isLinked_X5_in : GoodIn wsX5_isLinked (va_wsS RX5 41 yX5_in wsX5_in) := goodIn_app (goodIn_of _ (by decide +kernel)) ggX5_isLinked_X5_in
theorem dX5_isLinked_0 : decode cX5_isLinked 0 = .ok (.aload_n 0, 1) := by decide +kernel
theorem dX5_isLinked_1 : decode cX5_isLinked 1 = .ok (.iload_n 1, 1) := by decide +kernel
theorem dX5_isLinked_2 : decode cX5_isLinked 2 = .ok (.iload_n 2, 1) := by decide +kernel
theorem dX5_isLinked_3 : decode cX5_isLinked 3 = .ok (.invokevirtual 52, 3) := by decide +kernel
theorem dX5_isLinked_6 : decode cX5_isLinked 6 = .ok (.ifCond .eq 16, 3) := by decide +kernel
theorem dX5_isLinked_9 : decode cX5_isLinked 9 = .ok (.iload_n 3, 1) := by decide +kernel
theorem dX5_isLinked_10 : decode cX5_isLinked 10 = .ok (.iconst 0, 1) := by decide +kernel
theorem dX5_isLinked_11 : decode cX5_isLinked 11 = .ok (.iconst 3, 1) := by decide +kernel
theorem dX5_isLinked_12 : decode cX5_isLinked 12 = .ok (.invokestatic 41, 3) := by decide +kernel
theorem dX5_isLinked_15 : decode cX5_isLinked 15 = .ok (.ifCond .eq 7, 3) := by decide +kernel
theorem dX5_isLinked_18 : decode cX5_isLinked 18 = .ok (.iconst 1, 1) := by decide +kernel
theorem dX5_isLinked_19 : decode cX5_isLinked 19 = .ok (.goto 4, 3) := by decide +kernel
theorem dX5_isLinked_22 : decode cX5_isLinked 22 = .ok (.iconst 0, 1) := by decide +kernel
theorem dX5_isLinked_23 : decode cX5_isLinked 23 = .ok (.ireturn, 1) := by decide +kernel
set_option maxRecDepth 20000 in
theorem ggX5_link_X5_isLinked : GoodIn wsX5_link wsX5_isLinked := goodIn_r _ [5, 6, 7, 8, 4, 9, 10, 11, 12, 13, 36, 37, 38, 39, 40, 41, 42, 43, 44, 45, 46, 47, 48, 49, 50] (by decide +kernel) (by decide +kernel)
set_option maxRecDepth 20000 in
theorem gX5_link_X5_isLinked : GoodIn wsX5_link (wsV RX5 131 RX5 yX5_isLinked wsX5_isLinked) := goodIn_app (goodIn_of _ (by decide +kernel)) ggX5_link_X5_isLinked
set_option maxRecDepth 20000 in
theorem ggX5_link_X5_bad : GoodIn wsX5_link wsX5_bad := goodIn_r _ [17, 18, 36, 37, 38, 39, 40, 41, 42, 43, 44, 45, 46, 47, 48, 49, 50] (by decide +kernel) (by decide +kernel)
set_option maxRecDepth 20000 in
theorem gX5_link_X5_bad : GoodIn wsX5_link (wsV RX5 107 RX5 yX5_bad wsX5_bad) := goodIn_app (goodIn_of _ (by decide +kernel)) ggX5_link_X5_bad
set_option maxRecDepth 20000 in
theorem ggX5_link_X5_numberOf : GoodIn wsX5_link wsX5_numberOf := goodIn_r _ [22, 10, 36, 37, 38, 39, 40, 41, 42, 43, 44, 45, 46, 47, 48, 49, 50] (by decide +kernel) (by decide +kernel)
set_option maxRecDepth 20000 in
theorem gX5_link_X5_numberOf : GoodIn wsX5_link (wsV RX5 56 RX5 yX5_numberOf wsX5_numberOf) := goodIn_app (goodIn_of _ (by decide +kernel)) ggX5_link_X5_numberOf
set_option maxRecDepth 20000 in
theorem ggX5_link_X5_over : GoodIn wsX5_link wsX5_over := goodIn_r _ [26, 10, 6, 7, 8, 4, 9, 11, 12, 13, 19, 20, 21, 22, 36, 37, 38, 39, 40, 41, 42, 43, 44, 45, 46, 47, 48, 49, 50] (by decide +kernel) (by decide +kernel)
set_option maxRecDepth 20000 in
theorem gX5_link_X5_over : GoodIn wsX5_link (wsV RX5 63 RX5 yX5_over wsX5_over) := goodIn_app (goodIn_of _ (by decide +kernel)) ggX5_link_X5_over
set_option maxRecDepth 20000 in
theorem ggX5_link_X5_weight : GoodIn wsX5_link wsX5_weight := goodIn_r _ [30, 31, 32, 10, 23, 24, 25, 4, 26, 6, 7, 8, 9, 11, 12, 13, 19, 20, 21, 22, 33, 34, 35, 36, 37, 38, 39, 40, 41, 42, 43, 44, 45, 46, 47, 48, 49, 50] (by decide +kernel) (by decide +kernel)
set_option maxRecDepth 20000 in
theorem gX5_link_X5_weight : GoodIn wsX5_link (wsV RX5 69 RX5 yX5_weight wsX5_weight) := goodIn_app (goodIn_of _ (by decide +kernel)) ggX5_link_X5_weight
theorem dX5_link_0 : decode cX5_link 0 = .ok (.aload_n 0, 1) := by decide +kernel
theorem dX5_link_1 : decode cX5_link 1 = .ok (.iload_n 1, 1) := by decide +kernel
theorem dX5_link_2 : decode cX5_link 2 = .ok (.iload_n 2, 1) := by decide +kernel
theorem dX5_link_3 : decode cX5_link 3 = .ok (.iload_n 3, 1) := by decide +kernel
theorem dX5_link_4 : decode cX5_link 4 = .ok (.invokevirtual 131, 3) := by decide +kernel
theorem dX5_link_7 : decode cX5_link 7 = .ok (.ifCond .ne 8, 3) := by decide +kernel
theorem dX5_link_10 : decode cX5_link 10 = .ok (.aload_n 0, 1) := by decide +kernel
theorem dX5_link_11 : decode cX5_link 11 = .ok (.invokevirtual 107, 3) := by decide +kernel
theorem dX5_link_14 : decode cX5_link 14 = .ok (.ireturn, 1) := by decide +kernel
theorem dX5_link_15 : decode cX5_link 15 = .ok (.aload_n 0, 1) := by decide +kernel
theorem dX5_link_16 : decode cX5_link 16 = .ok (.iload_n 1, 1) := by decide +kernel
theorem dX5_link_17 : decode cX5_link 17 = .ok (.iload_n 2, 1) := by decide +kernel
theorem dX5_link_18 : decode cX5_link 18 = .ok (.invokevirtual 56, 3) := by decide +kernel
theorem dX5_link_21 : decode cX5_link 21 = .ok (.istore 4, 2) := by decide +kernel
theorem dX5_link_23 : decode cX5_link 23 = .ok (.aload_n 0, 1) := by decide +kernel
theorem dX5_link_24 : decode cX5_link 24 = .ok (.iload 4, 2) := by decide +kernel
theorem dX5_link_26 : decode cX5_link 26 = .ok (.iload_n 3, 1) := by decide +kernel
theorem dX5_link_27 : decode cX5_link 27 = .ok (.invokevirtual 63, 3) := by decide +kernel
theorem dX5_link_30 : decode cX5_link 30 = .ok (.iconst (-1), 1) := by decide +kernel
theorem dX5_link_31 : decode cX5_link 31 = .ok (.if_icmp .ne 7, 3) := by decide +kernel
theorem dX5_link_34 : decode cX5_link 34 = .ok (.iconst (-1), 1) := by decide +kernel
theorem dX5_link_35 : decode cX5_link 35 = .ok (.goto 10, 3) := by decide +kernel
theorem dX5_link_38 : decode cX5_link 38 = .ok (.aload_n 0, 1) := by decide +kernel
theorem dX5_link_39 : decode cX5_link 39 = .ok (.iload 4, 2) := by decide +kernel
theorem dX5_link_41 : decode cX5_link 41 = .ok (.iload_n 3, 1) := by decide +kernel
theorem dX5_link_42 : decode cX5_link 42 = .ok (.invokevirtual 69, 3) := by decide +kernel
theorem dX5_link_45 : decode cX5_link 45 = .ok (.ireturn, 1) := by decide +kernel
set_option maxRecDepth 20000 in
theorem ggX5_cost_X5_bestCost : GoodIn wsX5_cost wsX5_bestCost := goodIn_r _ [5, 6, 7, 8, 4, 9, 10, 11, 12, 13, 14, 15, 16, 17, 18, 19, 20, 21, 22, 23, 24, 25, 26, 27, 28, 29, 30, 31, 32, 33, 34, 35, 36, 37, 38, 39, 40, 41, 42, 43, 44, 45, 46, 47, 48, 49, 50, 51, 52, 53, 54, 55, 56, 57, 58, 59, 60, 61, 62, 63, 64, 65, 66, 67, 68, 69, 70, 71, 72, 73, 74, 75, 76, 77, 78, 79, 80] (by decide +kernel) (by decide +kernel)
set_option maxRecDepth 20000 in
theorem gX5_cost_X5_bestCost : GoodIn wsX5_cost (wsV RX5 101 RX5 yX5_bestCost wsX5_bestCost) := goodIn_app (goodIn_of _ (by decide +kernel)) ggX5_cost_X5_bestCost
theorem dX5_cost_0 : decode cX5_cost 0 = .ok (.aload_n 0, 1) := by decide +kernel
theorem dX5_cost_1 : decode cX5_cost 1 = .ok (.invokevirtual 101, 3) := by decide +kernel
theorem dX5_cost_4 : decode cX5_cost 4 = .ok (.ireturn, 1) := by decide +kernel
set_option maxRecDepth 20000 in
theorem ggX5_side_X5_in : GoodIn wsX5_side wsX5_in := goodIn_r _ [4] (by decide +kernel) (by decide +kernel)
set_option maxRecDepth 20000 in
theorem gX5_side_X5_in : GoodIn wsX5_side (va_wsS RX5 41 yX5_in wsX5_in) := goodIn_app (goodIn_of _ (by decide +kernel)) ggX5_side_X5_in
set_option maxRecDepth 20000 in
theorem ggX5_side_X5_sideOf : GoodIn wsX5_side wsX5_sideOf := goodIn_r _ [8, 9, 10, 11, 3, 12, 13, 14, 15, 16, 17, 18, 19, 20, 21, 22, 23, 24, 25, 26, 27, 28, 29, 30, 31, 32, 33, 34, 35, 36, 37, 38, 39, 40, 41, 42, 43, 44, 45, 46, 47, 48, 49, 50, 51, 52, 53, 54, 55, 56, 57, 58, 59, 60, 61, 62, 63, 64, 65, 1, 2, 4, 66, 67, 68, 69, 70, 71, 72, 73, 74, 75, 76, 77, 83, 84, 85, 86, 87, 88, 89, 90, 91, 92, 93, 94, 95, 96, 97] (by decide +kernel) (by decide +kernel)
set_option maxRecDepth 20000 in
theorem gX5_side_X5_sideOf : GoodIn wsX5_side (wsV RX5 134 RX5 yX5_sideOf wsX5_sideOf) := goodIn_app (goodIn_of _ (by decide +kernel)) ggX5_side_X5_sideOf
set_option maxRecDepth 20000 in
theorem ggX5_side_X5_bad : GoodIn wsX5_side wsX5_bad := goodIn_r _ [81, 82, 83, 84, 85, 86, 87, 88, 89, 90, 91, 92, 93, 94, 95, 96, 97] (by decide +kernel) (by decide +kernel)
set_option maxRecDepth 20000 in
theorem gX5_side_X5_bad : GoodIn wsX5_side (wsV RX5 107 RX5 yX5_bad wsX5_bad) := goodIn_app (goodIn_of _ (by decide +kernel)) ggX5_side_X5_bad
theorem dX5_side_0 : decode cX5_side 0 = .ok (.iload_n 1, 1) := by decide +kernel
theorem dX5_side_1 : decode cX5_side 1 = .ok (.iconst 0, 1) := by decide +kernel
theorem dX5_side_2 : decode cX5_side 2 = .ok (.iconst 1, 1) := by decide +kernel
theorem dX5_side_3 : decode cX5_side 3 = .ok (.invokestatic 41, 3) := by decide +kernel
theorem dX5_side_6 : decode cX5_side 6 = .ok (.ifCond .eq 11, 3) := by decide +kernel
theorem dX5_side_9 : decode cX5_side 9 = .ok (.aload_n 0, 1) := by decide +kernel
theorem dX5_side_10 : decode cX5_side 10 = .ok (.iload_n 1, 1) := by decide +kernel
theorem dX5_side_11 : decode cX5_side 11 = .ok (.invokevirtual 134, 3) := by decide +kernel
theorem dX5_side_14 : decode cX5_side 14 = .ok (.goto 8, 3) := by decide +kernel
theorem dX5_side_17 : decode cX5_side 17 = .ok (.aload_n 0, 1) := by decide +kernel
theorem dX5_side_18 : decode cX5_side 18 = .ok (.invokevirtual 107, 3) := by decide +kernel
theorem dX5_side_21 : decode cX5_side 21 = .ok (.i2l, 1) := by decide +kernel
theorem dX5_side_22 : decode cX5_side 22 = .ok (.lreturn, 1) := by decide +kernel
set_option maxRecDepth 20000 in
theorem ggX5_sure_X5_isDot : GoodIn wsX5_sure wsX5_isDot := goodIn_r _ [5, 6, 7, 8, 4, 9, 79, 80, 81, 82, 83, 84, 85, 86, 87, 88, 89, 90, 91, 92, 93] (by decide +kernel) (by decide +kernel)
set_option maxRecDepth 20000 in
theorem gX5_sure_X5_isDot : GoodIn wsX5_sure (wsV RX5 52 RX5 yX5_isDot wsX5_isDot) := goodIn_app (goodIn_of _ (by decide +kernel)) ggX5_sure_X5_isDot
set_option maxRecDepth 20000 in
theorem ggX5_sure_X5_bad : GoodIn wsX5_sure wsX5_bad := goodIn_r _ [13, 14, 79, 80, 81, 82, 83, 84, 85, 86, 87, 88, 89, 90, 91, 92, 93] (by decide +kernel) (by decide +kernel)
set_option maxRecDepth 20000 in
theorem gX5_sure_X5_bad : GoodIn wsX5_sure (wsV RX5 107 RX5 yX5_bad wsX5_bad) := goodIn_app (goodIn_of _ (by decide +kernel)) ggX5_sure_X5_bad
set_option maxRecDepth 20000 in
theorem ggX5_sure_X5_bestCost : GoodIn wsX5_sure wsX5_bestCost := goodIn_r _ [18, 19, 20, 21, 4, 22, 6, 23, 24, 25, 26, 27, 28, 29, 30, 31, 32, 33, 34, 35, 36, 37, 38, 39, 40, 41, 42, 43, 44, 45, 46, 47, 48, 49, 50, 51, 52, 53, 54, 55, 56, 57, 58, 59, 60, 61, 62, 63, 64, 65, 66, 1, 2, 3, 5, 7, 8, 9, 67, 68, 69, 70, 79, 80, 81, 82, 83, 84, 85, 86, 87, 88, 89, 90, 91, 92, 93] (by decide +kernel) (by decide +kernel)
set_option maxRecDepth 20000 in
theorem gX5_sure_X5_bestCost : GoodIn wsX5_sure (wsV RX5 101 RX5 yX5_bestCost wsX5_bestCost) := goodIn_app (goodIn_of _ (by decide +kernel)) ggX5_sure_X5_bestCost
set_option maxRecDepth 20000 in
theorem ggX5_sure_X5_numberOf : GoodIn wsX5_sure wsX5_numberOf := goodIn_r _ [70, 6, 79, 80, 81, 82, 83, 84, 85, 86, 87, 88, 89, 90, 91, 92, 93] (by decide +kernel) (by decide +kernel)
set_option maxRecDepth 20000 in
theorem gX5_sure_X5_numberOf : GoodIn wsX5_sure (wsV RX5 56 RX5 yX5_numberOf wsX5_numberOf) := goodIn_app (goodIn_of _ (by decide +kernel)) ggX5_sure_X5_numberOf
set_option maxRecDepth 20000 in
theorem ggX5_sure_X5_mayBe : GoodIn wsX5_sure wsX5_mayBe := goodIn_r _ [74, 23, 75, 76, 77, 4, 78, 27, 28, 29, 30, 6, 31, 32, 33, 34, 35, 36, 37, 38, 39, 40, 41, 42, 43, 44, 45, 46, 47, 48, 49, 50, 51, 52, 53, 54, 55, 56, 57, 58, 59, 60, 61, 62, 63, 64, 65, 66, 1, 2, 3, 5, 7, 8, 9, 67, 68, 69, 70, 24, 25, 26, 79, 80, 81, 82, 83, 84, 85, 86, 87, 88, 89, 90, 91, 92, 93] (by decide +kernel) (by decide +kernel)
set_option maxRecDepth 20000 in
theorem gX5_sure_X5_mayBe : GoodIn wsX5_sure (wsV RX5 104 RX5 yX5_mayBe wsX5_mayBe) := goodIn_app (goodIn_of _ (by decide +kernel)) ggX5_sure_X5_mayBe
theorem dX5_sure_0 : decode cX5_sure 0 = .ok (.aload_n 0, 1) := by decide +kernel
theorem dX5_sure_1 : decode cX5_sure 1 = .ok (.iload_n 1, 1) := by decide +kernel
theorem dX5_sure_2 : decode cX5_sure 2 = .ok (.iload_n 2, 1) := by decide +kernel
theorem dX5_sure_3 : decode cX5_sure 3 = .ok (.invokevirtual 52, 3) := by decide +kernel
theorem dX5_sure_6 : decode cX5_sure 6 = .ok (.ifCond .ne 8, 3) := by decide +kernel
theorem dX5_sure_9 : decode cX5_sure 9 = .ok (.aload_n 0, 1) := by decide +kernel
theorem dX5_sure_10 : decode cX5_sure 10 = .ok (.invokevirtual 107, 3) := by decide +kernel
theorem dX5_sure_13 : decode cX5_sure 13 = .ok (.ireturn, 1) := by decide +kernel
theorem dX5_sure_14 : decode cX5_sure 14 = .ok (.aload_n 0, 1) := by decide +kernel
theorem dX5_sure_15 : decode cX5_sure 15 = .ok (.invokevirtual 101, 3) := by decide +kernel
theorem dX5_sure_18 : decode cX5_sure 18 = .ok (.istore_n 3, 1) := by decide +kernel
theorem dX5_sure_19 : decode cX5_sure 19 = .ok (.aload_n 0, 1) := by decide +kernel
theorem dX5_sure_20 : decode cX5_sure 20 = .ok (.iload_n 1, 1) := by decide +kernel
theorem dX5_sure_21 : decode cX5_sure 21 = .ok (.iload_n 2, 1) := by decide +kernel
theorem dX5_sure_22 : decode cX5_sure 22 = .ok (.invokevirtual 56, 3) := by decide +kernel
theorem dX5_sure_25 : decode cX5_sure 25 = .ok (.istore 4, 2) := by decide +kernel
theorem dX5_sure_27 : decode cX5_sure 27 = .ok (.aload_n 0, 1) := by decide +kernel
theorem dX5_sure_28 : decode cX5_sure 28 = .ok (.iload 4, 2) := by decide +kernel
theorem dX5_sure_30 : decode cX5_sure 30 = .ok (.iconst 1, 1) := by decide +kernel
theorem dX5_sure_31 : decode cX5_sure 31 = .ok (.iload_n 3, 1) := by decide +kernel
theorem dX5_sure_32 : decode cX5_sure 32 = .ok (.invokevirtual 104, 3) := by decide +kernel
theorem dX5_sure_35 : decode cX5_sure 35 = .ok (.istore 5, 2) := by decide +kernel
theorem dX5_sure_37 : decode cX5_sure 37 = .ok (.iload 5, 2) := by decide +kernel
theorem dX5_sure_39 : decode cX5_sure 39 = .ok (.ifCond .ne 7, 3) := by decide +kernel
theorem dX5_sure_42 : decode cX5_sure 42 = .ok (.iconst 0, 1) := by decide +kernel
theorem dX5_sure_43 : decode cX5_sure 43 = .ok (.goto 19, 3) := by decide +kernel
theorem dX5_sure_46 : decode cX5_sure 46 = .ok (.aload_n 0, 1) := by decide +kernel
theorem dX5_sure_47 : decode cX5_sure 47 = .ok (.iload 4, 2) := by decide +kernel
theorem dX5_sure_49 : decode cX5_sure 49 = .ok (.iconst 2, 1) := by decide +kernel
theorem dX5_sure_50 : decode cX5_sure 50 = .ok (.iload_n 3, 1) := by decide +kernel
theorem dX5_sure_51 : decode cX5_sure 51 = .ok (.invokevirtual 104, 3) := by decide +kernel
theorem dX5_sure_54 : decode cX5_sure 54 = .ok (.ifCond .eq 7, 3) := by decide +kernel
theorem dX5_sure_57 : decode cX5_sure 57 = .ok (.iconst 2, 1) := by decide +kernel
theorem dX5_sure_58 : decode cX5_sure 58 = .ok (.goto 4, 3) := by decide +kernel
theorem dX5_sure_61 : decode cX5_sure 61 = .ok (.iconst 1, 1) := by decide +kernel
theorem dX5_sure_62 : decode cX5_sure 62 = .ok (.ireturn, 1) := by decide +kernel
set_option maxRecDepth 20000 in
theorem ggX5_were_X5_isDot : GoodIn wsX5_were wsX5_isDot := goodIn_r _ [5, 6, 7, 8, 4, 9, 71, 72, 73, 74, 75, 76, 77, 78, 79, 80, 81, 82, 83, 84, 85] (by decide +kernel) (by decide +kernel)
set_option maxRecDepth 20000 in
theorem gX5_were_X5_isDot : GoodIn wsX5_were (wsV RX5 52 RX5 yX5_isDot wsX5_isDot) := goodIn_app (goodIn_of _ (by decide +kernel)) ggX5_were_X5_isDot
set_option maxRecDepth 20000 in
theorem ggX5_were_X5_in : GoodIn wsX5_were wsX5_in := goodIn_r _ [9] (by decide +kernel) (by decide +kernel)
set_option maxRecDepth 20000 in
theorem gX5_were_X5_in : GoodIn wsX5_were (va_wsS RX5 41 yX5_in wsX5_in) := goodIn_app (goodIn_of _ (by decide +kernel)) ggX5_were_X5_in
set_option maxRecDepth 20000 in
theorem ggX5_were_X5_bad : GoodIn wsX5_were wsX5_bad := goodIn_r _ [13, 14, 71, 72, 73, 74, 75, 76, 77, 78, 79, 80, 81, 82, 83, 84, 85] (by decide +kernel) (by decide +kernel)
set_option maxRecDepth 20000 in
theorem gX5_were_X5_bad : GoodIn wsX5_were (wsV RX5 107 RX5 yX5_bad wsX5_bad) := goodIn_app (goodIn_of _ (by decide +kernel)) ggX5_were_X5_bad
set_option maxRecDepth 20000 in
theorem ggX5_were_X5_holdsMarks : GoodIn wsX5_were wsX5_holdsMarks := goodIn_r _ [18, 6, 19, 20, 21, 4, 22, 71, 72, 73, 74, 75, 76, 77, 78, 79, 80, 81, 82, 83, 84, 85] (by decide +kernel) (by decide +kernel)
set_option maxRecDepth 20000 in
theorem gX5_were_X5_holdsMarks : GoodIn wsX5_were (wsV RX5 95 RX5 yX5_holdsMarks wsX5_holdsMarks) := goodIn_app (goodIn_of _ (by decide +kernel)) ggX5_were_X5_holdsMarks
set_option maxRecDepth 20000 in
theorem ggX5_were_X5_numberOf : GoodIn wsX5_were wsX5_numberOf := goodIn_r _ [26, 6, 71, 72, 73, 74, 75, 76, 77, 78, 79, 80, 81, 82, 83, 84, 85] (by decide +kernel) (by decide +kernel)
set_option maxRecDepth 20000 in
theorem gX5_were_X5_numberOf : GoodIn wsX5_were (wsV RX5 56 RX5 yX5_numberOf wsX5_numberOf) := goodIn_app (goodIn_of _ (by decide +kernel)) ggX5_were_X5_numberOf
set_option maxRecDepth 20000 in
theorem ggX5_were_X5_costWith : GoodIn wsX5_were wsX5_costWith := goodIn_r _ [30, 19, 31, 32, 33, 4, 34, 6, 35, 36, 37, 38, 39, 40, 41, 42, 43, 44, 45, 46, 47, 48, 49, 50, 51, 52, 53, 54, 55, 56, 57, 58, 59, 60, 61, 62, 63, 64, 65, 66, 67, 68, 69, 70, 1, 2, 3, 5, 7, 8, 9, 23, 24, 25, 26, 20, 21, 22, 71, 72, 73, 74, 75, 76, 77, 78, 79, 80, 81, 82, 83, 84, 85] (by decide +kernel) (by decide +kernel)
set_option maxRecDepth 20000 in
theorem gX5_were_X5_costWith : GoodIn wsX5_were (wsV RX5 98 RX5 yX5_costWith wsX5_costWith) := goodIn_app (goodIn_of _ (by decide +kernel)) ggX5_were_X5_costWith
theorem dX5_were_0 : decode cX5_were 0 = .ok (.aload_n 0, 1) := by decide +kernel
theorem dX5_were_1 : decode cX5_were 1 = .ok (.iload_n 1, 1) := by decide +kernel
theorem dX5_were_2 : decode cX5_were 2 = .ok (.iload_n 2, 1) := by decide +kernel
theorem dX5_were_3 : decode cX5_were 3 = .ok (.invokevirtual 52, 3) := by decide +kernel
theorem dX5_were_6 : decode cX5_were 6 = .ok (.ifCond .eq 12, 3) := by decide +kernel
theorem dX5_were_9 : decode cX5_were 9 = .ok (.iload_n 3, 1) := by decide +kernel
theorem dX5_were_10 : decode cX5_were 10 = .ok (.iconst 0, 1) := by decide +kernel
theorem dX5_were_11 : decode cX5_were 11 = .ok (.iconst 2, 1) := by decide +kernel
theorem dX5_were_12 : decode cX5_were 12 = .ok (.invokestatic 41, 3) := by decide +kernel
theorem dX5_were_15 : decode cX5_were 15 = .ok (.ifCond .ne 8, 3) := by decide +kernel
theorem dX5_were_18 : decode cX5_were 18 = .ok (.aload_n 0, 1) := by decide +kernel
theorem dX5_were_19 : decode cX5_were 19 = .ok (.invokevirtual 107, 3) := by decide +kernel
theorem dX5_were_22 : decode cX5_were 22 = .ok (.ireturn, 1) := by decide +kernel
theorem dX5_were_23 : decode cX5_were 23 = .ok (.aload_n 0, 1) := by decide +kernel
theorem dX5_were_24 : decode cX5_were 24 = .ok (.invokevirtual 95, 3) := by decide +kernel
theorem dX5_were_27 : decode cX5_were 27 = .ok (.aload_n 0, 1) := by decide +kernel
theorem dX5_were_28 : decode cX5_were 28 = .ok (.aload_n 0, 1) := by decide +kernel
theorem dX5_were_29 : decode cX5_were 29 = .ok (.iload_n 1, 1) := by decide +kernel
theorem dX5_were_30 : decode cX5_were 30 = .ok (.iload_n 2, 1) := by decide +kernel
theorem dX5_were_31 : decode cX5_were 31 = .ok (.invokevirtual 56, 3) := by decide +kernel
theorem dX5_were_34 : decode cX5_were 34 = .ok (.iload_n 3, 1) := by decide +kernel
theorem dX5_were_35 : decode cX5_were 35 = .ok (.invokevirtual 98, 3) := by decide +kernel
theorem dX5_were_38 : decode cX5_were 38 = .ok (.ireturn, 1) := by decide +kernel
set_option maxRecDepth 20000 in
theorem ggX5_strain_X5_isLinked : GoodIn wsX5_strain wsX5_isLinked := goodIn_r _ [7, 8, 9, 10, 6, 11, 12, 13, 14, 15, 75, 76, 77, 78, 79, 80, 81, 82, 83, 84, 85, 86, 87, 88, 89] (by decide +kernel) (by decide +kernel)
set_option maxRecDepth 20000 in
theorem gX5_strain_X5_isLinked : GoodIn wsX5_strain (wsV RX5 131 RX5 yX5_isLinked wsX5_isLinked) := goodIn_app (goodIn_of _ (by decide +kernel)) ggX5_strain_X5_isLinked
set_option maxRecDepth 20000 in
theorem ggX5_strain_X5_in : GoodIn wsX5_strain wsX5_in := goodIn_r _ [15] (by decide +kernel) (by decide +kernel)
set_option maxRecDepth 20000 in
theorem gX5_strain_X5_in : GoodIn wsX5_strain (va_wsS RX5 41 yX5_in wsX5_in) := goodIn_app (goodIn_of _ (by decide +kernel)) ggX5_strain_X5_in
set_option maxRecDepth 20000 in
theorem ggX5_strain_X5_bad : GoodIn wsX5_strain wsX5_bad := goodIn_r _ [19, 20, 75, 76, 77, 78, 79, 80, 81, 82, 83, 84, 85, 86, 87, 88, 89] (by decide +kernel) (by decide +kernel)
set_option maxRecDepth 20000 in
theorem gX5_strain_X5_bad : GoodIn wsX5_strain (wsV RX5 107 RX5 yX5_bad wsX5_bad) := goodIn_app (goodIn_of _ (by decide +kernel)) ggX5_strain_X5_bad
set_option maxRecDepth 20000 in
theorem ggX5_strain_X5_numberOf : GoodIn wsX5_strain wsX5_numberOf := goodIn_r _ [24, 12, 75, 76, 77, 78, 79, 80, 81, 82, 83, 84, 85, 86, 87, 88, 89] (by decide +kernel) (by decide +kernel)
set_option maxRecDepth 20000 in
theorem gX5_strain_X5_numberOf : GoodIn wsX5_strain (wsV RX5 56 RX5 yX5_numberOf wsX5_numberOf) := goodIn_app (goodIn_of _ (by decide +kernel)) ggX5_strain_X5_numberOf
set_option maxRecDepth 20000 in
theorem ggX5_strain_X5_over : GoodIn wsX5_strain wsX5_over := goodIn_r _ [28, 12, 8, 9, 10, 6, 11, 13, 14, 15, 21, 22, 23, 24, 75, 76, 77, 78, 79, 80, 81, 82, 83, 84, 85, 86, 87, 88, 89] (by decide +kernel) (by decide +kernel)
set_option maxRecDepth 20000 in
theorem gX5_strain_X5_over : GoodIn wsX5_strain (wsV RX5 63 RX5 yX5_over wsX5_over) := goodIn_app (goodIn_of _ (by decide +kernel)) ggX5_strain_X5_over
set_option maxRecDepth 20000 in
theorem ggX5_strain_X5_bestCost : GoodIn wsX5_strain wsX5_bestCost := goodIn_r _ [32, 33, 34, 35, 6, 36, 12, 37, 38, 39, 40, 41, 42, 43, 44, 45, 46, 47, 48, 49, 50, 51, 52, 53, 54, 55, 56, 57, 58, 59, 60, 61, 62, 63, 64, 65, 66, 67, 68, 69, 70, 71, 72, 73, 74, 1, 2, 25, 26, 27, 28, 8, 9, 10, 11, 13, 14, 15, 21, 22, 23, 24, 75, 76, 77, 78, 79, 80, 81, 82, 83, 84, 85, 86, 87, 88, 89] (by decide +kernel) (by decide +kernel)
set_option maxRecDepth 20000 in
theorem gX5_strain_X5_bestCost : GoodIn wsX5_strain (wsV RX5 101 RX5 yX5_bestCost wsX5_bestCost) := goodIn_app (goodIn_of _ (by decide +kernel)) ggX5_strain_X5_bestCost
theorem dX5_strain_0 : decode cX5_strain 0 = .ok (.aload_n 0, 1) := by decide +kernel
theorem dX5_strain_1 : decode cX5_strain 1 = .ok (.iload_n 1, 1) := by decide +kernel
theorem dX5_strain_2 : decode cX5_strain 2 = .ok (.iload_n 2, 1) := by decide +kernel
theorem dX5_strain_3 : decode cX5_strain 3 = .ok (.iload_n 3, 1) := by decide +kernel
theorem dX5_strain_4 : decode cX5_strain 4 = .ok (.invokevirtual 131, 3) := by decide +kernel
theorem dX5_strain_7 : decode cX5_strain 7 = .ok (.ifCond .eq 14, 3) := by decide +kernel
theorem dX5_strain_10 : decode cX5_strain 10 = .ok (.iload 4, 2) := by decide +kernel
theorem dX5_strain_12 : decode cX5_strain 12 = .ok (.iconst 0, 1) := by decide +kernel
theorem dX5_strain_13 : decode cX5_strain 13 = .ok (.bipush 99, 2) := by decide +kernel
theorem dX5_strain_15 : decode cX5_strain 15 = .ok (.invokestatic 41, 3) := by decide +kernel
