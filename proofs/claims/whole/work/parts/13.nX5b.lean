theorem dX5_strain_18 : decode cX5_strain 18 = .ok (.ifCond .ne 8, 3) := by decide +kernel
theorem dX5_strain_21 : decode cX5_strain 21 = .ok (.aload_n 0, 1) := by decide +kernel
theorem dX5_strain_22 : decode cX5_strain 22 = .ok (.invokevirtual 107, 3) := by decide +kernel
theorem dX5_strain_25 : decode cX5_strain 25 = .ok (.ireturn, 1) := by decide +kernel
theorem dX5_strain_26 : decode cX5_strain 26 = .ok (.aload_n 0, 1) := by decide +kernel
theorem dX5_strain_27 : decode cX5_strain 27 = .ok (.iload_n 1, 1) := by decide +kernel
theorem dX5_strain_28 : decode cX5_strain 28 = .ok (.iload_n 2, 1) := by decide +kernel
theorem dX5_strain_29 : decode cX5_strain 29 = .ok (.invokevirtual 56, 3) := by decide +kernel
theorem dX5_strain_32 : decode cX5_strain 32 = .ok (.istore 5, 2) := by decide +kernel
theorem dX5_strain_34 : decode cX5_strain 34 = .ok (.aload_n 0, 1) := by decide +kernel
theorem dX5_strain_35 : decode cX5_strain 35 = .ok (.iload 5, 2) := by decide +kernel
theorem dX5_strain_37 : decode cX5_strain 37 = .ok (.iload_n 3, 1) := by decide +kernel
theorem dX5_strain_38 : decode cX5_strain 38 = .ok (.invokevirtual 63, 3) := by decide +kernel
theorem dX5_strain_41 : decode cX5_strain 41 = .ok (.iconst (-1), 1) := by decide +kernel
theorem dX5_strain_42 : decode cX5_strain 42 = .ok (.if_icmp .ne 5, 3) := by decide +kernel
theorem dX5_strain_45 : decode cX5_strain 45 = .ok (.iconst (-1), 1) := by decide +kernel
theorem dX5_strain_46 : decode cX5_strain 46 = .ok (.ireturn, 1) := by decide +kernel
theorem dX5_strain_47 : decode cX5_strain 47 = .ok (.aload_n 0, 1) := by decide +kernel
theorem dX5_strain_48 : decode cX5_strain 48 = .ok (.iconst 4, 1) := by decide +kernel
theorem dX5_strain_49 : decode cX5_strain 49 = .ok (.iload 5, 2) := by decide +kernel
theorem dX5_strain_51 : decode cX5_strain 51 = .ok (.imul, 1) := by decide +kernel
theorem dX5_strain_52 : decode cX5_strain 52 = .ok (.iload_n 3, 1) := by decide +kernel
theorem dX5_strain_53 : decode cX5_strain 53 = .ok (.iadd, 1) := by decide +kernel
theorem dX5_strain_54 : decode cX5_strain 54 = .ok (.putfield 22, 3) := by decide +kernel
theorem dX5_strain_57 : decode cX5_strain 57 = .ok (.aload_n 0, 1) := by decide +kernel
theorem dX5_strain_58 : decode cX5_strain 58 = .ok (.iload 4, 2) := by decide +kernel
theorem dX5_strain_60 : decode cX5_strain 60 = .ok (.putfield 60, 3) := by decide +kernel
theorem dX5_strain_63 : decode cX5_strain 63 = .ok (.aload_n 0, 1) := by decide +kernel
theorem dX5_strain_64 : decode cX5_strain 64 = .ok (.invokevirtual 101, 3) := by decide +kernel
theorem dX5_strain_67 : decode cX5_strain 67 = .ok (.istore 6, 2) := by decide +kernel
theorem dX5_strain_69 : decode cX5_strain 69 = .ok (.aload_n 0, 1) := by decide +kernel
theorem dX5_strain_70 : decode cX5_strain 70 = .ok (.iconst (-1), 1) := by decide +kernel
theorem dX5_strain_71 : decode cX5_strain 71 = .ok (.putfield 22, 3) := by decide +kernel
theorem dX5_strain_74 : decode cX5_strain 74 = .ok (.iload 6, 2) := by decide +kernel
theorem dX5_strain_76 : decode cX5_strain 76 = .ok (.ireturn, 1) := by decide +kernel
set_option maxRecDepth 20000 in
theorem ggX5_mayBoth_X5_costWith : GoodIn wsX5_mayBoth wsX5_costWith := goodIn_r _ [6, 1, 7, 8, 9, 5, 10, 11, 12, 13, 14, 15, 16, 17, 18, 19, 20, 21, 22, 23, 24, 25, 26, 27, 28, 29, 30, 31, 32, 33, 34, 35, 36, 37, 38, 39, 40, 41, 42, 43, 44, 45, 46, 47, 48, 49, 50, 51, 52, 53, 54, 55, 56, 57, 58, 59, 60, 61, 62, 63, 64, 65, 66, 67, 68, 69, 70, 71, 72, 73, 74, 75, 76] (by decide +kernel) (by decide +kernel)
set_option maxRecDepth 20000 in
theorem gX5_mayBoth_X5_costWith : GoodIn wsX5_mayBoth (wsV RX5 98 RX5 yX5_costWith wsX5_costWith) := goodIn_app (goodIn_of _ (by decide +kernel)) ggX5_mayBoth_X5_costWith
theorem dX5_mayBoth_0 : decode cX5_mayBoth 0 = .ok (.aload_n 0, 1) := by decide +kernel
theorem dX5_mayBoth_1 : decode cX5_mayBoth 1 = .ok (.getfield 26, 3) := by decide +kernel
theorem dX5_mayBoth_4 : decode cX5_mayBoth 4 = .ok (.iload_n 1, 1) := by decide +kernel
theorem dX5_mayBoth_5 : decode cX5_mayBoth 5 = .ok (.iaload, 1) := by decide +kernel
theorem dX5_mayBoth_6 : decode cX5_mayBoth 6 = .ok (.iconst 3, 1) := by decide +kernel
theorem dX5_mayBoth_7 : decode cX5_mayBoth 7 = .ok (.iload_n 2, 1) := by decide +kernel
theorem dX5_mayBoth_8 : decode cX5_mayBoth 8 = .ok (.isub, 1) := by decide +kernel
theorem dX5_mayBoth_9 : decode cX5_mayBoth 9 = .ok (.if_icmp .eq 16, 3) := by decide +kernel
theorem dX5_mayBoth_12 : decode cX5_mayBoth 12 = .ok (.aload_n 0, 1) := by decide +kernel
theorem dX5_mayBoth_13 : decode cX5_mayBoth 13 = .ok (.getfield 26, 3) := by decide +kernel
theorem dX5_mayBoth_16 : decode cX5_mayBoth 16 = .ok (.iload_n 3, 1) := by decide +kernel
theorem dX5_mayBoth_17 : decode cX5_mayBoth 17 = .ok (.iaload, 1) := by decide +kernel
theorem dX5_mayBoth_18 : decode cX5_mayBoth 18 = .ok (.iconst 3, 1) := by decide +kernel
theorem dX5_mayBoth_19 : decode cX5_mayBoth 19 = .ok (.iload 4, 2) := by decide +kernel
theorem dX5_mayBoth_21 : decode cX5_mayBoth 21 = .ok (.isub, 1) := by decide +kernel
theorem dX5_mayBoth_22 : decode cX5_mayBoth 22 = .ok (.if_icmp .ne 5, 3) := by decide +kernel
theorem dX5_mayBoth_25 : decode cX5_mayBoth 25 = .ok (.iconst 0, 1) := by decide +kernel
theorem dX5_mayBoth_26 : decode cX5_mayBoth 26 = .ok (.ireturn, 1) := by decide +kernel
theorem dX5_mayBoth_27 : decode cX5_mayBoth 27 = .ok (.aload_n 0, 1) := by decide +kernel
theorem dX5_mayBoth_28 : decode cX5_mayBoth 28 = .ok (.getfield 26, 3) := by decide +kernel
theorem dX5_mayBoth_31 : decode cX5_mayBoth 31 = .ok (.iload_n 1, 1) := by decide +kernel
theorem dX5_mayBoth_32 : decode cX5_mayBoth 32 = .ok (.iaload, 1) := by decide +kernel
theorem dX5_mayBoth_33 : decode cX5_mayBoth 33 = .ok (.istore 6, 2) := by decide +kernel
theorem dX5_mayBoth_35 : decode cX5_mayBoth 35 = .ok (.aload_n 0, 1) := by decide +kernel
theorem dX5_mayBoth_36 : decode cX5_mayBoth 36 = .ok (.getfield 26, 3) := by decide +kernel
theorem dX5_mayBoth_39 : decode cX5_mayBoth 39 = .ok (.iload_n 1, 1) := by decide +kernel
theorem dX5_mayBoth_40 : decode cX5_mayBoth 40 = .ok (.iload_n 2, 1) := by decide +kernel
theorem dX5_mayBoth_41 : decode cX5_mayBoth 41 = .ok (.iastore, 1) := by decide +kernel
theorem dX5_mayBoth_42 : decode cX5_mayBoth 42 = .ok (.aload_n 0, 1) := by decide +kernel
theorem dX5_mayBoth_43 : decode cX5_mayBoth 43 = .ok (.iload_n 3, 1) := by decide +kernel
theorem dX5_mayBoth_44 : decode cX5_mayBoth 44 = .ok (.iload 4, 2) := by decide +kernel
theorem dX5_mayBoth_46 : decode cX5_mayBoth 46 = .ok (.invokevirtual 98, 3) := by decide +kernel
theorem dX5_mayBoth_49 : decode cX5_mayBoth 49 = .ok (.istore 7, 2) := by decide +kernel
theorem dX5_mayBoth_51 : decode cX5_mayBoth 51 = .ok (.aload_n 0, 1) := by decide +kernel
theorem dX5_mayBoth_52 : decode cX5_mayBoth 52 = .ok (.getfield 26, 3) := by decide +kernel
theorem dX5_mayBoth_55 : decode cX5_mayBoth 55 = .ok (.iload_n 1, 1) := by decide +kernel
theorem dX5_mayBoth_56 : decode cX5_mayBoth 56 = .ok (.iload 6, 2) := by decide +kernel
theorem dX5_mayBoth_58 : decode cX5_mayBoth 58 = .ok (.iastore, 1) := by decide +kernel
theorem dX5_mayBoth_59 : decode cX5_mayBoth 59 = .ok (.iload 7, 2) := by decide +kernel
theorem dX5_mayBoth_61 : decode cX5_mayBoth 61 = .ok (.iload 5, 2) := by decide +kernel
theorem dX5_mayBoth_63 : decode cX5_mayBoth 63 = .ok (.if_icmp .ne 7, 3) := by decide +kernel
theorem dX5_mayBoth_66 : decode cX5_mayBoth 66 = .ok (.iconst 1, 1) := by decide +kernel
theorem dX5_mayBoth_67 : decode cX5_mayBoth 67 = .ok (.goto 4, 3) := by decide +kernel
theorem dX5_mayBoth_70 : decode cX5_mayBoth 70 = .ok (.iconst 0, 1) := by decide +kernel
theorem dX5_mayBoth_71 : decode cX5_mayBoth 71 = .ok (.ireturn, 1) := by decide +kernel
set_option maxRecDepth 20000 in
theorem ggX5_tight_X5_isLinked : GoodIn wsX5_tight wsX5_isLinked := goodIn_r _ [5, 6, 7, 8, 4, 9, 10, 11, 12, 13, 83, 84, 85, 86, 87, 88, 89, 90, 91, 92, 93, 94, 95, 96, 97] (by decide +kernel) (by decide +kernel)
set_option maxRecDepth 20000 in
theorem gX5_tight_X5_isLinked : GoodIn wsX5_tight (wsV RX5 131 RX5 yX5_isLinked wsX5_isLinked) := goodIn_app (goodIn_of _ (by decide +kernel)) ggX5_tight_X5_isLinked
set_option maxRecDepth 20000 in
theorem ggX5_tight_X5_bad : GoodIn wsX5_tight wsX5_bad := goodIn_r _ [17, 18, 83, 84, 85, 86, 87, 88, 89, 90, 91, 92, 93, 94, 95, 96, 97] (by decide +kernel) (by decide +kernel)
set_option maxRecDepth 20000 in
theorem gX5_tight_X5_bad : GoodIn wsX5_tight (wsV RX5 107 RX5 yX5_bad wsX5_bad) := goodIn_app (goodIn_of _ (by decide +kernel)) ggX5_tight_X5_bad
set_option maxRecDepth 20000 in
theorem ggX5_tight_X5_numberOf : GoodIn wsX5_tight wsX5_numberOf := goodIn_r _ [22, 10, 83, 84, 85, 86, 87, 88, 89, 90, 91, 92, 93, 94, 95, 96, 97] (by decide +kernel) (by decide +kernel)
set_option maxRecDepth 20000 in
theorem gX5_tight_X5_numberOf : GoodIn wsX5_tight (wsV RX5 56 RX5 yX5_numberOf wsX5_numberOf) := goodIn_app (goodIn_of _ (by decide +kernel)) ggX5_tight_X5_numberOf
set_option maxRecDepth 20000 in
theorem ggX5_tight_X5_over : GoodIn wsX5_tight wsX5_over := goodIn_r _ [26, 10, 6, 7, 8, 4, 9, 11, 12, 13, 19, 20, 21, 22, 83, 84, 85, 86, 87, 88, 89, 90, 91, 92, 93, 94, 95, 96, 97] (by decide +kernel) (by decide +kernel)
set_option maxRecDepth 20000 in
theorem gX5_tight_X5_over : GoodIn wsX5_tight (wsV RX5 63 RX5 yX5_over wsX5_over) := goodIn_app (goodIn_of _ (by decide +kernel)) ggX5_tight_X5_over
set_option maxRecDepth 20000 in
theorem ggX5_tight_X5_bestCost : GoodIn wsX5_tight wsX5_bestCost := goodIn_r _ [30, 31, 32, 33, 4, 34, 10, 35, 36, 37, 38, 39, 40, 41, 42, 43, 44, 45, 46, 47, 48, 49, 50, 51, 52, 53, 54, 55, 56, 57, 58, 59, 60, 61, 62, 63, 64, 65, 66, 67, 68, 69, 70, 71, 72, 73, 74, 23, 24, 25, 26, 6, 7, 8, 9, 11, 12, 13, 19, 20, 21, 22, 83, 84, 85, 86, 87, 88, 89, 90, 91, 92, 93, 94, 95, 96, 97] (by decide +kernel) (by decide +kernel)
set_option maxRecDepth 20000 in
theorem gX5_tight_X5_bestCost : GoodIn wsX5_tight (wsV RX5 101 RX5 yX5_bestCost wsX5_bestCost) := goodIn_app (goodIn_of _ (by decide +kernel)) ggX5_tight_X5_bestCost
set_option maxRecDepth 20000 in
theorem ggX5_tight_X5_mayBoth : GoodIn wsX5_tight wsX5_mayBoth := goodIn_r _ [78, 35, 79, 80, 81, 4, 82, 39, 40, 41, 42, 10, 43, 44, 45, 46, 47, 48, 49, 50, 51, 52, 53, 54, 55, 56, 57, 58, 59, 60, 61, 62, 63, 64, 65, 66, 67, 68, 69, 70, 71, 72, 73, 74, 23, 24, 25, 26, 6, 7, 8, 9, 11, 12, 13, 19, 20, 21, 22, 36, 37, 38, 83, 84, 85, 86, 87, 88, 89, 90, 91, 92, 93, 94, 95, 96, 97] (by decide +kernel) (by decide +kernel)
set_option maxRecDepth 20000 in
theorem gX5_tight_X5_mayBoth : GoodIn wsX5_tight (wsV RX5 138 RX5 yX5_mayBoth wsX5_mayBoth) := goodIn_app (goodIn_of _ (by decide +kernel)) ggX5_tight_X5_mayBoth
theorem dX5_tight_0 : decode cX5_tight 0 = .ok (.aload_n 0, 1) := by decide +kernel
theorem dX5_tight_1 : decode cX5_tight 1 = .ok (.iload_n 1, 1) := by decide +kernel
theorem dX5_tight_2 : decode cX5_tight 2 = .ok (.iload_n 2, 1) := by decide +kernel
theorem dX5_tight_3 : decode cX5_tight 3 = .ok (.iload_n 3, 1) := by decide +kernel
theorem dX5_tight_4 : decode cX5_tight 4 = .ok (.invokevirtual 131, 3) := by decide +kernel
theorem dX5_tight_7 : decode cX5_tight 7 = .ok (.ifCond .ne 8, 3) := by decide +kernel
theorem dX5_tight_10 : decode cX5_tight 10 = .ok (.aload_n 0, 1) := by decide +kernel
theorem dX5_tight_11 : decode cX5_tight 11 = .ok (.invokevirtual 107, 3) := by decide +kernel
theorem dX5_tight_14 : decode cX5_tight 14 = .ok (.ireturn, 1) := by decide +kernel
theorem dX5_tight_15 : decode cX5_tight 15 = .ok (.aload_n 0, 1) := by decide +kernel
theorem dX5_tight_16 : decode cX5_tight 16 = .ok (.iload_n 1, 1) := by decide +kernel
theorem dX5_tight_17 : decode cX5_tight 17 = .ok (.iload_n 2, 1) := by decide +kernel
theorem dX5_tight_18 : decode cX5_tight 18 = .ok (.invokevirtual 56, 3) := by decide +kernel
theorem dX5_tight_21 : decode cX5_tight 21 = .ok (.istore 4, 2) := by decide +kernel
theorem dX5_tight_23 : decode cX5_tight 23 = .ok (.aload_n 0, 1) := by decide +kernel
theorem dX5_tight_24 : decode cX5_tight 24 = .ok (.iload 4, 2) := by decide +kernel
theorem dX5_tight_26 : decode cX5_tight 26 = .ok (.iload_n 3, 1) := by decide +kernel
theorem dX5_tight_27 : decode cX5_tight 27 = .ok (.invokevirtual 63, 3) := by decide +kernel
theorem dX5_tight_30 : decode cX5_tight 30 = .ok (.istore 5, 2) := by decide +kernel
theorem dX5_tight_32 : decode cX5_tight 32 = .ok (.iload 5, 2) := by decide +kernel
theorem dX5_tight_34 : decode cX5_tight 34 = .ok (.iconst (-1), 1) := by decide +kernel
theorem dX5_tight_35 : decode cX5_tight 35 = .ok (.if_icmp .ne 5, 3) := by decide +kernel
theorem dX5_tight_38 : decode cX5_tight 38 = .ok (.iconst (-1), 1) := by decide +kernel
theorem dX5_tight_39 : decode cX5_tight 39 = .ok (.ireturn, 1) := by decide +kernel
theorem dX5_tight_40 : decode cX5_tight 40 = .ok (.aload_n 0, 1) := by decide +kernel
theorem dX5_tight_41 : decode cX5_tight 41 = .ok (.invokevirtual 101, 3) := by decide +kernel
theorem dX5_tight_44 : decode cX5_tight 44 = .ok (.istore 6, 2) := by decide +kernel
theorem dX5_tight_46 : decode cX5_tight 46 = .ok (.aload_n 0, 1) := by decide +kernel
theorem dX5_tight_47 : decode cX5_tight 47 = .ok (.iload 4, 2) := by decide +kernel
theorem dX5_tight_49 : decode cX5_tight 49 = .ok (.iconst 1, 1) := by decide +kernel
theorem dX5_tight_50 : decode cX5_tight 50 = .ok (.iload 5, 2) := by decide +kernel
theorem dX5_tight_52 : decode cX5_tight 52 = .ok (.iconst 2, 1) := by decide +kernel
theorem dX5_tight_53 : decode cX5_tight 53 = .ok (.iload 6, 2) := by decide +kernel
theorem dX5_tight_55 : decode cX5_tight 55 = .ok (.invokevirtual 138, 3) := by decide +kernel
theorem dX5_tight_58 : decode cX5_tight 58 = .ok (.ifCond .ne 18, 3) := by decide +kernel
theorem dX5_tight_61 : decode cX5_tight 61 = .ok (.aload_n 0, 1) := by decide +kernel
theorem dX5_tight_62 : decode cX5_tight 62 = .ok (.iload 4, 2) := by decide +kernel
theorem dX5_tight_64 : decode cX5_tight 64 = .ok (.iconst 2, 1) := by decide +kernel
theorem dX5_tight_65 : decode cX5_tight 65 = .ok (.iload 5, 2) := by decide +kernel
theorem dX5_tight_67 : decode cX5_tight 67 = .ok (.iconst 1, 1) := by decide +kernel
theorem dX5_tight_68 : decode cX5_tight 68 = .ok (.iload 6, 2) := by decide +kernel
theorem dX5_tight_70 : decode cX5_tight 70 = .ok (.invokevirtual 138, 3) := by decide +kernel
theorem dX5_tight_73 : decode cX5_tight 73 = .ok (.ifCond .eq 7, 3) := by decide +kernel
theorem dX5_tight_76 : decode cX5_tight 76 = .ok (.iconst 1, 1) := by decide +kernel
theorem dX5_tight_77 : decode cX5_tight 77 = .ok (.goto 4, 3) := by decide +kernel
theorem dX5_tight_80 : decode cX5_tight 80 = .ok (.iconst 0, 1) := by decide +kernel
theorem dX5_tight_81 : decode cX5_tight 81 = .ok (.istore 7, 2) := by decide +kernel
theorem dX5_tight_83 : decode cX5_tight 83 = .ok (.aload_n 0, 1) := by decide +kernel
theorem dX5_tight_84 : decode cX5_tight 84 = .ok (.iload 4, 2) := by decide +kernel
theorem dX5_tight_86 : decode cX5_tight 86 = .ok (.iconst 1, 1) := by decide +kernel
theorem dX5_tight_87 : decode cX5_tight 87 = .ok (.iload 5, 2) := by decide +kernel
theorem dX5_tight_89 : decode cX5_tight 89 = .ok (.iconst 1, 1) := by decide +kernel
theorem dX5_tight_90 : decode cX5_tight 90 = .ok (.iload 6, 2) := by decide +kernel
theorem dX5_tight_92 : decode cX5_tight 92 = .ok (.invokevirtual 138, 3) := by decide +kernel
theorem dX5_tight_95 : decode cX5_tight 95 = .ok (.ifCond .ne 18, 3) := by decide +kernel
theorem dX5_tight_98 : decode cX5_tight 98 = .ok (.aload_n 0, 1) := by decide +kernel
theorem dX5_tight_99 : decode cX5_tight 99 = .ok (.iload 4, 2) := by decide +kernel
theorem dX5_tight_101 : decode cX5_tight 101 = .ok (.iconst 2, 1) := by decide +kernel
theorem dX5_tight_102 : decode cX5_tight 102 = .ok (.iload 5, 2) := by decide +kernel
theorem dX5_tight_104 : decode cX5_tight 104 = .ok (.iconst 2, 1) := by decide +kernel
theorem dX5_tight_105 : decode cX5_tight 105 = .ok (.iload 6, 2) := by decide +kernel
theorem dX5_tight_107 : decode cX5_tight 107 = .ok (.invokevirtual 138, 3) := by decide +kernel
theorem dX5_tight_110 : decode cX5_tight 110 = .ok (.ifCond .eq 7, 3) := by decide +kernel
theorem dX5_tight_113 : decode cX5_tight 113 = .ok (.iconst 1, 1) := by decide +kernel
theorem dX5_tight_114 : decode cX5_tight 114 = .ok (.goto 4, 3) := by decide +kernel
theorem dX5_tight_117 : decode cX5_tight 117 = .ok (.iconst 0, 1) := by decide +kernel
theorem dX5_tight_118 : decode cX5_tight 118 = .ok (.istore 8, 2) := by decide +kernel
theorem dX5_tight_120 : decode cX5_tight 120 = .ok (.iload 7, 2) := by decide +kernel
theorem dX5_tight_122 : decode cX5_tight 122 = .ok (.ifCond .ne 7, 3) := by decide +kernel
theorem dX5_tight_125 : decode cX5_tight 125 = .ok (.iconst 0, 1) := by decide +kernel
theorem dX5_tight_126 : decode cX5_tight 126 = .ok (.goto 13, 3) := by decide +kernel
theorem dX5_tight_129 : decode cX5_tight 129 = .ok (.iload 8, 2) := by decide +kernel
theorem dX5_tight_131 : decode cX5_tight 131 = .ok (.ifCond .eq 7, 3) := by decide +kernel
theorem dX5_tight_134 : decode cX5_tight 134 = .ok (.iconst 1, 1) := by decide +kernel
theorem dX5_tight_135 : decode cX5_tight 135 = .ok (.goto 4, 3) := by decide +kernel
theorem dX5_tight_138 : decode cX5_tight 138 = .ok (.iconst 2, 1) := by decide +kernel
theorem dX5_tight_139 : decode cX5_tight 139 = .ok (.ireturn, 1) := by decide +kernel
set_option maxRecDepth 20000 in
theorem ggX5_costs_X5_dots : GoodIn wsX5_costs wsX5_dots := goodIn_r _ [6, 1, 47, 48, 49, 50, 51, 52, 53, 54, 55, 56, 57, 58, 59, 60, 61] (by decide +kernel) (by decide +kernel)
set_option maxRecDepth 20000 in
theorem gX5_costs_X5_dots : GoodIn wsX5_costs (wsV RX5 80 RX5 yX5_dots wsX5_dots) := goodIn_app (goodIn_of _ (by decide +kernel)) ggX5_costs_X5_dots
set_option maxRecDepth 20000 in
theorem ggX5_costs_X5_bad : GoodIn wsX5_costs wsX5_bad := goodIn_r _ [10, 11, 47, 48, 49, 50, 51, 52, 53, 54, 55, 56, 57, 58, 59, 60, 61] (by decide +kernel) (by decide +kernel)
set_option maxRecDepth 20000 in
theorem gX5_costs_X5_bad : GoodIn wsX5_costs (wsV RX5 107 RX5 yX5_bad wsX5_bad) := goodIn_app (goodIn_of _ (by decide +kernel)) ggX5_costs_X5_bad
set_option maxRecDepth 20000 in
theorem ggX5_costs_X5_isIn : GoodIn wsX5_costs wsX5_isIn := goodIn_r _ [14] (by decide +kernel) (by decide +kernel)
set_option maxRecDepth 20000 in
theorem gX5_costs_X5_isIn : GoodIn wsX5_costs (va_wsS RX5 142 yX5_isIn wsX5_isIn) := goodIn_app (goodIn_of _ (by decide +kernel)) ggX5_costs_X5_isIn
set_option maxRecDepth 20000 in
theorem ggX5_costs_X5_no : GoodIn wsX5_costs wsX5_no := goodIn_r _ [18, 11, 47, 48, 49, 50, 51, 52, 53, 54, 55, 56, 57, 58, 59, 60, 61] (by decide +kernel) (by decide +kernel)
set_option maxRecDepth 20000 in
theorem gX5_costs_X5_no : GoodIn wsX5_costs (wsV RX5 146 RX5 yX5_no wsX5_no) := goodIn_app (goodIn_of _ (by decide +kernel)) ggX5_costs_X5_no
set_option maxRecDepth 20000 in
theorem ggX5_costs_X5_pull : GoodIn wsX5_costs wsX5_pull := goodIn_r _ [22, 1, 23, 24, 5, 25, 47, 48, 49, 50, 51, 52, 53, 54, 55, 56, 57, 58, 59, 60, 61] (by decide +kernel) (by decide +kernel)
set_option maxRecDepth 20000 in
theorem gX5_costs_X5_pull : GoodIn wsX5_costs (wsV RX5 72 RX5 yX5_pull wsX5_pull) := goodIn_app (goodIn_of _ (by decide +kernel)) ggX5_costs_X5_pull
set_option maxRecDepth 20000 in
theorem ggX5_costs_X5_over : GoodIn wsX5_costs wsX5_over := goodIn_r _ [29, 1, 30, 31, 32, 5, 33, 34, 35, 36, 37, 38, 39, 40, 47, 48, 49, 50, 51, 52, 53, 54, 55, 56, 57, 58, 59, 60, 61] (by decide +kernel) (by decide +kernel)
set_option maxRecDepth 20000 in
theorem gX5_costs_X5_over : GoodIn wsX5_costs (wsV RX5 63 RX5 yX5_over wsX5_over) := goodIn_app (goodIn_of _ (by decide +kernel)) ggX5_costs_X5_over
set_option maxRecDepth 20000 in
theorem ggX5_costs_X5_weight : GoodIn wsX5_costs wsX5_weight := goodIn_r _ [44, 45, 46, 1, 26, 27, 28, 5, 29, 30, 31, 32, 33, 34, 35, 36, 37, 38, 39, 40, 23, 24, 25, 47, 48, 49, 50, 51, 52, 53, 54, 55, 56, 57, 58, 59, 60, 61] (by decide +kernel) (by decide +kernel)
set_option maxRecDepth 20000 in
theorem gX5_costs_X5_weight : GoodIn wsX5_costs (wsV RX5 69 RX5 yX5_weight wsX5_weight) := goodIn_app (goodIn_of _ (by decide +kernel)) ggX5_costs_X5_weight
theorem dX5_costs_0 : decode cX5_costs 0 = .ok (.lload_n 1, 1) := by decide +kernel
theorem dX5_costs_1 : decode cX5_costs 1 = .ok (.lconst 0, 1) := by decide +kernel
theorem dX5_costs_2 : decode cX5_costs 2 = .ok (.lcmp, 1) := by decide +kernel
theorem dX5_costs_3 : decode cX5_costs 3 = .ok (.ifCond .lt 14, 3) := by decide +kernel
theorem dX5_costs_6 : decode cX5_costs 6 = .ok (.lload_n 1, 1) := by decide +kernel
theorem dX5_costs_7 : decode cX5_costs 7 = .ok (.aload_n 0, 1) := by decide +kernel
theorem dX5_costs_8 : decode cX5_costs 8 = .ok (.invokevirtual 80, 3) := by decide +kernel
theorem dX5_costs_11 : decode cX5_costs 11 = .ok (.lshr, 1) := by decide +kernel
theorem dX5_costs_12 : decode cX5_costs 12 = .ok (.lconst 0, 1) := by decide +kernel
theorem dX5_costs_13 : decode cX5_costs 13 = .ok (.lcmp, 1) := by decide +kernel
theorem dX5_costs_14 : decode cX5_costs 14 = .ok (.ifCond .eq 8, 3) := by decide +kernel
theorem dX5_costs_17 : decode cX5_costs 17 = .ok (.aload_n 0, 1) := by decide +kernel
theorem dX5_costs_18 : decode cX5_costs 18 = .ok (.invokevirtual 107, 3) := by decide +kernel
theorem dX5_costs_21 : decode cX5_costs 21 = .ok (.ireturn, 1) := by decide +kernel
theorem dX5_costs_22 : decode cX5_costs 22 = .ok (.iconst 0, 1) := by decide +kernel
theorem dX5_costs_23 : decode cX5_costs 23 = .ok (.istore_n 3, 1) := by decide +kernel
theorem dX5_costs_24 : decode cX5_costs 24 = .ok (.iconst 0, 1) := by decide +kernel
theorem dX5_costs_25 : decode cX5_costs 25 = .ok (.istore 4, 2) := by decide +kernel
theorem dX5_costs_27 : decode cX5_costs 27 = .ok (.iload 4, 2) := by decide +kernel
theorem dX5_costs_29 : decode cX5_costs 29 = .ok (.aload_n 0, 1) := by decide +kernel
theorem dX5_costs_30 : decode cX5_costs 30 = .ok (.invokevirtual 80, 3) := by decide +kernel
theorem dX5_costs_33 : decode cX5_costs 33 = .ok (.if_icmp .ge 133, 3) := by decide +kernel
theorem dX5_costs_36 : decode cX5_costs 36 = .ok (.lload_n 1, 1) := by decide +kernel
theorem dX5_costs_37 : decode cX5_costs 37 = .ok (.iload 4, 2) := by decide +kernel
theorem dX5_costs_39 : decode cX5_costs 39 = .ok (.invokestatic 142, 3) := by decide +kernel
theorem dX5_costs_42 : decode cX5_costs 42 = .ok (.ifCond .eq 7, 3) := by decide +kernel
theorem dX5_costs_45 : decode cX5_costs 45 = .ok (.iconst 1, 1) := by decide +kernel
theorem dX5_costs_46 : decode cX5_costs 46 = .ok (.goto 4, 3) := by decide +kernel
theorem dX5_costs_49 : decode cX5_costs 49 = .ok (.iconst 0, 1) := by decide +kernel
theorem dX5_costs_50 : decode cX5_costs 50 = .ok (.istore 5, 2) := by decide +kernel
theorem dX5_costs_52 : decode cX5_costs 52 = .ok (.aload_n 0, 1) := by decide +kernel
theorem dX5_costs_53 : decode cX5_costs 53 = .ok (.getfield 7, 3) := by decide +kernel
theorem dX5_costs_56 : decode cX5_costs 56 = .ok (.bipush 44, 2) := by decide +kernel
theorem dX5_costs_58 : decode cX5_costs 58 = .ok (.iload 4, 2) := by decide +kernel
theorem dX5_costs_60 : decode cX5_costs 60 = .ok (.iadd, 1) := by decide +kernel
theorem dX5_costs_61 : decode cX5_costs 61 = .ok (.iaload, 1) := by decide +kernel
theorem dX5_costs_62 : decode cX5_costs 62 = .ok (.istore 6, 2) := by decide +kernel
theorem dX5_costs_64 : decode cX5_costs 64 = .ok (.iload 6, 2) := by decide +kernel
theorem dX5_costs_66 : decode cX5_costs 66 = .ok (.ifCond .eq 17, 3) := by decide +kernel
theorem dX5_costs_69 : decode cX5_costs 69 = .ok (.iload 6, 2) := by decide +kernel
theorem dX5_costs_71 : decode cX5_costs 71 = .ok (.iconst 2, 1) := by decide +kernel
theorem dX5_costs_72 : decode cX5_costs 72 = .ok (.iload 5, 2) := by decide +kernel
theorem dX5_costs_74 : decode cX5_costs 74 = .ok (.isub, 1) := by decide +kernel
theorem dX5_costs_75 : decode cX5_costs 75 = .ok (.if_icmp .eq 8, 3) := by decide +kernel
theorem dX5_costs_78 : decode cX5_costs 78 = .ok (.aload_n 0, 1) := by decide +kernel
theorem dX5_costs_79 : decode cX5_costs 79 = .ok (.invokevirtual 146, 3) := by decide +kernel
theorem dX5_costs_82 : decode cX5_costs 82 = .ok (.ireturn, 1) := by decide +kernel
theorem dX5_costs_83 : decode cX5_costs 83 = .ok (.iload_n 3, 1) := by decide +kernel
theorem dX5_costs_84 : decode cX5_costs 84 = .ok (.aload_n 0, 1) := by decide +kernel
theorem dX5_costs_85 : decode cX5_costs 85 = .ok (.iload 4, 2) := by decide +kernel
theorem dX5_costs_87 : decode cX5_costs 87 = .ok (.iload 5, 2) := by decide +kernel
theorem dX5_costs_89 : decode cX5_costs 89 = .ok (.invokevirtual 72, 3) := by decide +kernel
theorem dX5_costs_92 : decode cX5_costs 92 = .ok (.iadd, 1) := by decide +kernel
theorem dX5_costs_93 : decode cX5_costs 93 = .ok (.istore_n 3, 1) := by decide +kernel
theorem dX5_costs_94 : decode cX5_costs 94 = .ok (.iconst 0, 1) := by decide +kernel
theorem dX5_costs_95 : decode cX5_costs 95 = .ok (.istore 7, 2) := by decide +kernel
theorem dX5_costs_97 : decode cX5_costs 97 = .ok (.iload 7, 2) := by decide +kernel
theorem dX5_costs_99 : decode cX5_costs 99 = .ok (.iconst 4, 1) := by decide +kernel
theorem dX5_costs_100 : decode cX5_costs 100 = .ok (.if_icmp .ge 60, 3) := by decide +kernel
theorem dX5_costs_103 : decode cX5_costs 103 = .ok (.aload_n 0, 1) := by decide +kernel
theorem dX5_costs_104 : decode cX5_costs 104 = .ok (.iload 4, 2) := by decide +kernel
theorem dX5_costs_106 : decode cX5_costs 106 = .ok (.iload 7, 2) := by decide +kernel
theorem dX5_costs_108 : decode cX5_costs 108 = .ok (.invokevirtual 63, 3) := by decide +kernel
theorem dX5_costs_111 : decode cX5_costs 111 = .ok (.istore 8, 2) := by decide +kernel
theorem dX5_costs_113 : decode cX5_costs 113 = .ok (.iload_n 3, 1) := by decide +kernel
theorem dX5_costs_114 : decode cX5_costs 114 = .ok (.iload 8, 2) := by decide +kernel
theorem dX5_costs_116 : decode cX5_costs 116 = .ok (.iconst (-1), 1) := by decide +kernel
theorem dX5_costs_117 : decode cX5_costs 117 = .ok (.if_icmp .eq 34, 3) := by decide +kernel
theorem dX5_costs_120 : decode cX5_costs 120 = .ok (.lload_n 1, 1) := by decide +kernel
theorem dX5_costs_121 : decode cX5_costs 121 = .ok (.iload 8, 2) := by decide +kernel
theorem dX5_costs_123 : decode cX5_costs 123 = .ok (.invokestatic 142, 3) := by decide +kernel
theorem dX5_costs_126 : decode cX5_costs 126 = .ok (.iload 5, 2) := by decide +kernel
theorem dX5_costs_128 : decode cX5_costs 128 = .ok (.iconst 1, 1) := by decide +kernel
theorem dX5_costs_129 : decode cX5_costs 129 = .ok (.if_icmp .ne 7, 3) := by decide +kernel
theorem dX5_costs_132 : decode cX5_costs 132 = .ok (.iconst 1, 1) := by decide +kernel
theorem dX5_costs_133 : decode cX5_costs 133 = .ok (.goto 4, 3) := by decide +kernel
theorem dX5_costs_136 : decode cX5_costs 136 = .ok (.iconst 0, 1) := by decide +kernel
theorem dX5_costs_137 : decode cX5_costs 137 = .ok (.if_icmp .eq 14, 3) := by decide +kernel
theorem dX5_costs_140 : decode cX5_costs 140 = .ok (.aload_n 0, 1) := by decide +kernel
theorem dX5_costs_141 : decode cX5_costs 141 = .ok (.iload 4, 2) := by decide +kernel
theorem dX5_costs_143 : decode cX5_costs 143 = .ok (.iload 7, 2) := by decide +kernel
theorem dX5_costs_145 : decode cX5_costs 145 = .ok (.invokevirtual 69, 3) := by decide +kernel
theorem dX5_costs_148 : decode cX5_costs 148 = .ok (.goto 4, 3) := by decide +kernel
theorem dX5_costs_151 : decode cX5_costs 151 = .ok (.iconst 0, 1) := by decide +kernel
theorem dX5_costs_152 : decode cX5_costs 152 = .ok (.iadd, 1) := by decide +kernel
theorem dX5_costs_153 : decode cX5_costs 153 = .ok (.istore_n 3, 1) := by decide +kernel
theorem dX5_costs_154 : decode cX5_costs 154 = .ok (.iinc 7 1, 3) := by decide +kernel
theorem dX5_costs_157 : decode cX5_costs 157 = .ok (.goto (-60), 3) := by decide +kernel
theorem dX5_costs_160 : decode cX5_costs 160 = .ok (.iinc 4 1, 3) := by decide +kernel
theorem dX5_costs_163 : decode cX5_costs 163 = .ok (.goto (-136), 3) := by decide +kernel
theorem dX5_costs_166 : decode cX5_costs 166 = .ok (.iload_n 3, 1) := by decide +kernel
theorem dX5_costs_167 : decode cX5_costs 167 = .ok (.ireturn, 1) := by decide +kernel
set_option maxRecDepth 20000 in
theorem ggX5_laysPieces_X5_dots : GoodIn wsX5_laysPieces wsX5_dots := goodIn_r _ [6, 7, 30, 31, 32, 33, 34, 35, 36, 37, 38, 39, 40, 41, 42, 43, 44] (by decide +kernel) (by decide +kernel)
set_option maxRecDepth 20000 in
theorem gX5_laysPieces_X5_dots : GoodIn wsX5_laysPieces (wsV RX5 80 RX5 yX5_dots wsX5_dots) := goodIn_app (goodIn_of _ (by decide +kernel)) ggX5_laysPieces_X5_dots
set_option maxRecDepth 20000 in
theorem ggX5_laysPieces_X5_isIn : GoodIn wsX5_laysPieces wsX5_isIn := goodIn_r _ [10] (by decide +kernel) (by decide +kernel)
set_option maxRecDepth 20000 in
theorem gX5_laysPieces_X5_isIn : GoodIn wsX5_laysPieces (va_wsS RX5 142 yX5_isIn wsX5_isIn) := goodIn_app (goodIn_of _ (by decide +kernel)) ggX5_laysPieces_X5_isIn
set_option maxRecDepth 20000 in
theorem ggX5_laysPieces_X5_over : GoodIn wsX5_laysPieces wsX5_over := goodIn_r _ [14, 7, 15, 16, 17, 5, 18, 19, 20, 21, 22, 23, 24, 25, 30, 31, 32, 33, 34, 35, 36, 37, 38, 39, 40, 41, 42, 43, 44] (by decide +kernel) (by decide +kernel)
set_option maxRecDepth 20000 in
theorem gX5_laysPieces_X5_over : GoodIn wsX5_laysPieces (wsV RX5 63 RX5 yX5_over wsX5_over) := goodIn_app (goodIn_of _ (by decide +kernel)) ggX5_laysPieces_X5_over
set_option maxRecDepth 20000 in
theorem ggX5_laysPieces_X5_joins : GoodIn wsX5_laysPieces wsX5_joins := goodIn_r _ [29, 1, 30, 31, 32, 33, 34, 35, 36, 37, 38, 39, 40, 41, 42, 43, 44] (by decide +kernel) (by decide +kernel)
set_option maxRecDepth 20000 in
theorem gX5_laysPieces_X5_joins : GoodIn wsX5_laysPieces (wsV RX5 149 RX5 yX5_joins wsX5_joins) := goodIn_app (goodIn_of _ (by decide +kernel)) ggX5_laysPieces_X5_joins
theorem dX5_laysPieces_0 : decode cX5_laysPieces 0 = .ok (.iconst 0, 1) := by decide +kernel
theorem dX5_laysPieces_1 : decode cX5_laysPieces 1 = .ok (.istore 4, 2) := by decide +kernel
theorem dX5_laysPieces_3 : decode cX5_laysPieces 3 = .ok (.iload 4, 2) := by decide +kernel
theorem dX5_laysPieces_5 : decode cX5_laysPieces 5 = .ok (.aload_n 0, 1) := by decide +kernel
theorem dX5_laysPieces_6 : decode cX5_laysPieces 6 = .ok (.invokevirtual 80, 3) := by decide +kernel
theorem dX5_laysPieces_9 : decode cX5_laysPieces 9 = .ok (.if_icmp .ge 32, 3) := by decide +kernel
theorem dX5_laysPieces_12 : decode cX5_laysPieces 12 = .ok (.aload_n 0, 1) := by decide +kernel
theorem dX5_laysPieces_13 : decode cX5_laysPieces 13 = .ok (.getfield 35, 3) := by decide +kernel
theorem dX5_laysPieces_16 : decode cX5_laysPieces 16 = .ok (.iload 4, 2) := by decide +kernel
theorem dX5_laysPieces_18 : decode cX5_laysPieces 18 = .ok (.lload_n 1, 1) := by decide +kernel
theorem dX5_laysPieces_19 : decode cX5_laysPieces 19 = .ok (.iload 4, 2) := by decide +kernel
theorem dX5_laysPieces_21 : decode cX5_laysPieces 21 = .ok (.invokestatic 142, 3) := by decide +kernel
theorem dX5_laysPieces_24 : decode cX5_laysPieces 24 = .ok (.iload_n 3, 1) := by decide +kernel
theorem dX5_laysPieces_25 : decode cX5_laysPieces 25 = .ok (.if_icmp .ne 8, 3) := by decide +kernel
theorem dX5_laysPieces_28 : decode cX5_laysPieces 28 = .ok (.iload 4, 2) := by decide +kernel
theorem dX5_laysPieces_30 : decode cX5_laysPieces 30 = .ok (.goto 4, 3) := by decide +kernel
theorem dX5_laysPieces_33 : decode cX5_laysPieces 33 = .ok (.iconst (-1), 1) := by decide +kernel
theorem dX5_laysPieces_34 : decode cX5_laysPieces 34 = .ok (.iastore, 1) := by decide +kernel
theorem dX5_laysPieces_35 : decode cX5_laysPieces 35 = .ok (.iinc 4 1, 3) := by decide +kernel
theorem dX5_laysPieces_38 : decode cX5_laysPieces 38 = .ok (.goto (-35), 3) := by decide +kernel
theorem dX5_laysPieces_41 : decode cX5_laysPieces 41 = .ok (.iconst 1, 1) := by decide +kernel
theorem dX5_laysPieces_42 : decode cX5_laysPieces 42 = .ok (.istore 4, 2) := by decide +kernel
theorem dX5_laysPieces_44 : decode cX5_laysPieces 44 = .ok (.iload 4, 2) := by decide +kernel
theorem dX5_laysPieces_46 : decode cX5_laysPieces 46 = .ok (.ifCond .eq 71, 3) := by decide +kernel
theorem dX5_laysPieces_49 : decode cX5_laysPieces 49 = .ok (.iconst 0, 1) := by decide +kernel
theorem dX5_laysPieces_50 : decode cX5_laysPieces 50 = .ok (.istore 4, 2) := by decide +kernel
theorem dX5_laysPieces_52 : decode cX5_laysPieces 52 = .ok (.iconst 0, 1) := by decide +kernel
theorem dX5_laysPieces_53 : decode cX5_laysPieces 53 = .ok (.istore 5, 2) := by decide +kernel
theorem dX5_laysPieces_55 : decode cX5_laysPieces 55 = .ok (.iload 5, 2) := by decide +kernel
theorem dX5_laysPieces_57 : decode cX5_laysPieces 57 = .ok (.aload_n 0, 1) := by decide +kernel
theorem dX5_laysPieces_58 : decode cX5_laysPieces 58 = .ok (.invokevirtual 80, 3) := by decide +kernel
theorem dX5_laysPieces_61 : decode cX5_laysPieces 61 = .ok (.if_icmp .ge 53, 3) := by decide +kernel
theorem dX5_laysPieces_64 : decode cX5_laysPieces 64 = .ok (.iconst 0, 1) := by decide +kernel
theorem dX5_laysPieces_65 : decode cX5_laysPieces 65 = .ok (.istore 6, 2) := by decide +kernel
theorem dX5_laysPieces_67 : decode cX5_laysPieces 67 = .ok (.iload 6, 2) := by decide +kernel
theorem dX5_laysPieces_69 : decode cX5_laysPieces 69 = .ok (.iconst 2, 1) := by decide +kernel
theorem dX5_laysPieces_70 : decode cX5_laysPieces 70 = .ok (.if_icmp .ge 38, 3) := by decide +kernel
theorem dX5_laysPieces_73 : decode cX5_laysPieces 73 = .ok (.aload_n 0, 1) := by decide +kernel
theorem dX5_laysPieces_74 : decode cX5_laysPieces 74 = .ok (.iload 5, 2) := by decide +kernel
theorem dX5_laysPieces_76 : decode cX5_laysPieces 76 = .ok (.aload_n 0, 1) := by decide +kernel
theorem dX5_laysPieces_77 : decode cX5_laysPieces 77 = .ok (.iload 5, 2) := by decide +kernel
theorem dX5_laysPieces_79 : decode cX5_laysPieces 79 = .ok (.iload 6, 2) := by decide +kernel
theorem dX5_laysPieces_81 : decode cX5_laysPieces 81 = .ok (.invokevirtual 63, 3) := by decide +kernel
theorem dX5_laysPieces_84 : decode cX5_laysPieces 84 = .ok (.invokevirtual 149, 3) := by decide +kernel
theorem dX5_laysPieces_87 : decode cX5_laysPieces 87 = .ok (.ifCond .ne 8, 3) := by decide +kernel
theorem dX5_laysPieces_90 : decode cX5_laysPieces 90 = .ok (.iload 4, 2) := by decide +kernel
theorem dX5_laysPieces_92 : decode cX5_laysPieces 92 = .ok (.ifCond .eq 7, 3) := by decide +kernel
theorem dX5_laysPieces_95 : decode cX5_laysPieces 95 = .ok (.iconst 1, 1) := by decide +kernel
theorem dX5_laysPieces_96 : decode cX5_laysPieces 96 = .ok (.goto 4, 3) := by decide +kernel
theorem dX5_laysPieces_99 : decode cX5_laysPieces 99 = .ok (.iconst 0, 1) := by decide +kernel
theorem dX5_laysPieces_100 : decode cX5_laysPieces 100 = .ok (.istore 4, 2) := by decide +kernel
theorem dX5_laysPieces_102 : decode cX5_laysPieces 102 = .ok (.iinc 6 1, 3) := by decide +kernel
theorem dX5_laysPieces_105 : decode cX5_laysPieces 105 = .ok (.goto (-38), 3) := by decide +kernel
theorem dX5_laysPieces_108 : decode cX5_laysPieces 108 = .ok (.iinc 5 1, 3) := by decide +kernel
theorem dX5_laysPieces_111 : decode cX5_laysPieces 111 = .ok (.goto (-56), 3) := by decide +kernel
theorem dX5_laysPieces_114 : decode cX5_laysPieces 114 = .ok (.goto (-70), 3) := by decide +kernel
theorem dX5_laysPieces_117 : decode cX5_laysPieces 117 = .ok (.return_, 1) := by decide +kernel
theorem dX5_joins_0 : decode cX5_joins 0 = .ok (.iload_n 2, 1) := by decide +kernel
theorem dX5_joins_1 : decode cX5_joins 1 = .ok (.iconst (-1), 1) := by decide +kernel
theorem dX5_joins_2 : decode cX5_joins 2 = .ok (.if_icmp .eq 38, 3) := by decide +kernel
theorem dX5_joins_5 : decode cX5_joins 5 = .ok (.aload_n 0, 1) := by decide +kernel
theorem dX5_joins_6 : decode cX5_joins 6 = .ok (.getfield 35, 3) := by decide +kernel
theorem dX5_joins_9 : decode cX5_joins 9 = .ok (.iload_n 1, 1) := by decide +kernel
theorem dX5_joins_10 : decode cX5_joins 10 = .ok (.iaload, 1) := by decide +kernel
theorem dX5_joins_11 : decode cX5_joins 11 = .ok (.iconst (-1), 1) := by decide +kernel
theorem dX5_joins_12 : decode cX5_joins 12 = .ok (.if_icmp .eq 28, 3) := by decide +kernel
theorem dX5_joins_15 : decode cX5_joins 15 = .ok (.aload_n 0, 1) := by decide +kernel
theorem dX5_joins_16 : decode cX5_joins 16 = .ok (.getfield 35, 3) := by decide +kernel
theorem dX5_joins_19 : decode cX5_joins 19 = .ok (.iload_n 2, 1) := by decide +kernel
theorem dX5_joins_20 : decode cX5_joins 20 = .ok (.iaload, 1) := by decide +kernel
theorem dX5_joins_21 : decode cX5_joins 21 = .ok (.iconst (-1), 1) := by decide +kernel
theorem dX5_joins_22 : decode cX5_joins 22 = .ok (.if_icmp .eq 18, 3) := by decide +kernel
theorem dX5_joins_25 : decode cX5_joins 25 = .ok (.aload_n 0, 1) := by decide +kernel
theorem dX5_joins_26 : decode cX5_joins 26 = .ok (.getfield 35, 3) := by decide +kernel
theorem dX5_joins_29 : decode cX5_joins 29 = .ok (.iload_n 1, 1) := by decide +kernel
theorem dX5_joins_30 : decode cX5_joins 30 = .ok (.iaload, 1) := by decide +kernel
theorem dX5_joins_31 : decode cX5_joins 31 = .ok (.aload_n 0, 1) := by decide +kernel
theorem dX5_joins_32 : decode cX5_joins 32 = .ok (.getfield 35, 3) := by decide +kernel
theorem dX5_joins_35 : decode cX5_joins 35 = .ok (.iload_n 2, 1) := by decide +kernel
theorem dX5_joins_36 : decode cX5_joins 36 = .ok (.iaload, 1) := by decide +kernel
theorem dX5_joins_37 : decode cX5_joins 37 = .ok (.if_icmp .ne 5, 3) := by decide +kernel
theorem dX5_joins_40 : decode cX5_joins 40 = .ok (.iconst 0, 1) := by decide +kernel
theorem dX5_joins_41 : decode cX5_joins 41 = .ok (.ireturn, 1) := by decide +kernel
theorem dX5_joins_42 : decode cX5_joins 42 = .ok (.aload_n 0, 1) := by decide +kernel
theorem dX5_joins_43 : decode cX5_joins 43 = .ok (.getfield 35, 3) := by decide +kernel
theorem dX5_joins_46 : decode cX5_joins 46 = .ok (.iload_n 1, 1) := by decide +kernel
theorem dX5_joins_47 : decode cX5_joins 47 = .ok (.iaload, 1) := by decide +kernel
theorem dX5_joins_48 : decode cX5_joins 48 = .ok (.aload_n 0, 1) := by decide +kernel
theorem dX5_joins_49 : decode cX5_joins 49 = .ok (.getfield 35, 3) := by decide +kernel
theorem dX5_joins_52 : decode cX5_joins 52 = .ok (.iload_n 2, 1) := by decide +kernel
theorem dX5_joins_53 : decode cX5_joins 53 = .ok (.iaload, 1) := by decide +kernel
theorem dX5_joins_54 : decode cX5_joins 54 = .ok (.if_icmp .ge 12, 3) := by decide +kernel
theorem dX5_joins_57 : decode cX5_joins 57 = .ok (.aload_n 0, 1) := by decide +kernel
theorem dX5_joins_58 : decode cX5_joins 58 = .ok (.getfield 35, 3) := by decide +kernel
theorem dX5_joins_61 : decode cX5_joins 61 = .ok (.iload_n 1, 1) := by decide +kernel
theorem dX5_joins_62 : decode cX5_joins 62 = .ok (.iaload, 1) := by decide +kernel
theorem dX5_joins_63 : decode cX5_joins 63 = .ok (.goto 9, 3) := by decide +kernel
theorem dX5_joins_66 : decode cX5_joins 66 = .ok (.aload_n 0, 1) := by decide +kernel
theorem dX5_joins_67 : decode cX5_joins 67 = .ok (.getfield 35, 3) := by decide +kernel
theorem dX5_joins_70 : decode cX5_joins 70 = .ok (.iload_n 2, 1) := by decide +kernel
theorem dX5_joins_71 : decode cX5_joins 71 = .ok (.iaload, 1) := by decide +kernel
theorem dX5_joins_72 : decode cX5_joins 72 = .ok (.istore_n 3, 1) := by decide +kernel
theorem dX5_joins_73 : decode cX5_joins 73 = .ok (.aload_n 0, 1) := by decide +kernel
theorem dX5_joins_74 : decode cX5_joins 74 = .ok (.getfield 35, 3) := by decide +kernel
theorem dX5_joins_77 : decode cX5_joins 77 = .ok (.iload_n 1, 1) := by decide +kernel
theorem dX5_joins_78 : decode cX5_joins 78 = .ok (.iload_n 3, 1) := by decide +kernel
theorem dX5_joins_79 : decode cX5_joins 79 = .ok (.iastore, 1) := by decide +kernel
theorem dX5_joins_80 : decode cX5_joins 80 = .ok (.aload_n 0, 1) := by decide +kernel
theorem dX5_joins_81 : decode cX5_joins 81 = .ok (.getfield 35, 3) := by decide +kernel
theorem dX5_joins_84 : decode cX5_joins 84 = .ok (.iload_n 2, 1) := by decide +kernel
theorem dX5_joins_85 : decode cX5_joins 85 = .ok (.iload_n 3, 1) := by decide +kernel
theorem dX5_joins_86 : decode cX5_joins 86 = .ok (.iastore, 1) := by decide +kernel
theorem dX5_joins_87 : decode cX5_joins 87 = .ok (.iconst 1, 1) := by decide +kernel
theorem dX5_joins_88 : decode cX5_joins 88 = .ok (.ireturn, 1) := by decide +kernel
set_option maxRecDepth 20000 in
theorem ggX5_pieces_X5_dots : GoodIn wsX5_pieces wsX5_dots := goodIn_r _ [6, 7, 8, 9, 10, 11, 12, 13, 14, 15, 16, 17, 18, 19, 20, 21, 22] (by decide +kernel) (by decide +kernel)
set_option maxRecDepth 20000 in
theorem gX5_pieces_X5_dots : GoodIn wsX5_pieces (wsV RX5 80 RX5 yX5_dots wsX5_dots) := goodIn_app (goodIn_of _ (by decide +kernel)) ggX5_pieces_X5_dots
theorem dX5_pieces_0 : decode cX5_pieces 0 = .ok (.iconst 0, 1) := by decide +kernel
theorem dX5_pieces_1 : decode cX5_pieces 1 = .ok (.istore_n 1, 1) := by decide +kernel
theorem dX5_pieces_2 : decode cX5_pieces 2 = .ok (.iconst 0, 1) := by decide +kernel
theorem dX5_pieces_3 : decode cX5_pieces 3 = .ok (.istore_n 2, 1) := by decide +kernel
theorem dX5_pieces_4 : decode cX5_pieces 4 = .ok (.iload_n 2, 1) := by decide +kernel
theorem dX5_pieces_5 : decode cX5_pieces 5 = .ok (.aload_n 0, 1) := by decide +kernel
theorem dX5_pieces_6 : decode cX5_pieces 6 = .ok (.invokevirtual 80, 3) := by decide +kernel
theorem dX5_pieces_9 : decode cX5_pieces 9 = .ok (.if_icmp .ge 27, 3) := by decide +kernel
theorem dX5_pieces_12 : decode cX5_pieces 12 = .ok (.iload_n 1, 1) := by decide +kernel
theorem dX5_pieces_13 : decode cX5_pieces 13 = .ok (.aload_n 0, 1) := by decide +kernel
theorem dX5_pieces_14 : decode cX5_pieces 14 = .ok (.getfield 35, 3) := by decide +kernel
theorem dX5_pieces_17 : decode cX5_pieces 17 = .ok (.iload_n 2, 1) := by decide +kernel
theorem dX5_pieces_18 : decode cX5_pieces 18 = .ok (.iaload, 1) := by decide +kernel
theorem dX5_pieces_19 : decode cX5_pieces 19 = .ok (.iload_n 2, 1) := by decide +kernel
theorem dX5_pieces_20 : decode cX5_pieces 20 = .ok (.if_icmp .ne 7, 3) := by decide +kernel
theorem dX5_pieces_23 : decode cX5_pieces 23 = .ok (.iconst 1, 1) := by decide +kernel
theorem dX5_pieces_24 : decode cX5_pieces 24 = .ok (.goto 4, 3) := by decide +kernel
theorem dX5_pieces_27 : decode cX5_pieces 27 = .ok (.iconst 0, 1) := by decide +kernel
theorem dX5_pieces_28 : decode cX5_pieces 28 = .ok (.iadd, 1) := by decide +kernel
theorem dX5_pieces_29 : decode cX5_pieces 29 = .ok (.istore_n 1, 1) := by decide +kernel
theorem dX5_pieces_30 : decode cX5_pieces 30 = .ok (.iinc 2 1, 3) := by decide +kernel
theorem dX5_pieces_33 : decode cX5_pieces 33 = .ok (.goto (-29), 3) := by decide +kernel
theorem dX5_pieces_36 : decode cX5_pieces 36 = .ok (.iload_n 1, 1) := by decide +kernel
theorem dX5_pieces_37 : decode cX5_pieces 37 = .ok (.ireturn, 1) := by decide +kernel
theorem dX5_isBorder_0 : decode cX5_isBorder 0 = .ok (.iload_n 1, 1) := by decide +kernel
theorem dX5_isBorder_1 : decode cX5_isBorder 1 = .ok (.aload_n 0, 1) := by decide +kernel
theorem dX5_isBorder_2 : decode cX5_isBorder 2 = .ok (.getfield 7, 3) := by decide +kernel
theorem dX5_isBorder_5 : decode cX5_isBorder 5 = .ok (.iconst 0, 1) := by decide +kernel
theorem dX5_isBorder_6 : decode cX5_isBorder 6 = .ok (.iaload, 1) := by decide +kernel
theorem dX5_isBorder_7 : decode cX5_isBorder 7 = .ok (.irem, 1) := by decide +kernel
theorem dX5_isBorder_8 : decode cX5_isBorder 8 = .ok (.istore_n 2, 1) := by decide +kernel
theorem dX5_isBorder_9 : decode cX5_isBorder 9 = .ok (.iload_n 1, 1) := by decide +kernel
theorem dX5_isBorder_10 : decode cX5_isBorder 10 = .ok (.aload_n 0, 1) := by decide +kernel
theorem dX5_isBorder_11 : decode cX5_isBorder 11 = .ok (.getfield 7, 3) := by decide +kernel
theorem dX5_isBorder_14 : decode cX5_isBorder 14 = .ok (.iconst 0, 1) := by decide +kernel
theorem dX5_isBorder_15 : decode cX5_isBorder 15 = .ok (.iaload, 1) := by decide +kernel
theorem dX5_isBorder_16 : decode cX5_isBorder 16 = .ok (.idiv, 1) := by decide +kernel
theorem dX5_isBorder_17 : decode cX5_isBorder 17 = .ok (.istore_n 3, 1) := by decide +kernel
theorem dX5_isBorder_18 : decode cX5_isBorder 18 = .ok (.iload_n 2, 1) := by decide +kernel
theorem dX5_isBorder_19 : decode cX5_isBorder 19 = .ok (.ifCond .eq 31, 3) := by decide +kernel
theorem dX5_isBorder_22 : decode cX5_isBorder 22 = .ok (.iload_n 3, 1) := by decide +kernel
theorem dX5_isBorder_23 : decode cX5_isBorder 23 = .ok (.ifCond .eq 27, 3) := by decide +kernel
theorem dX5_isBorder_26 : decode cX5_isBorder 26 = .ok (.iload_n 2, 1) := by decide +kernel
theorem dX5_isBorder_27 : decode cX5_isBorder 27 = .ok (.aload_n 0, 1) := by decide +kernel
theorem dX5_isBorder_28 : decode cX5_isBorder 28 = .ok (.getfield 7, 3) := by decide +kernel
theorem dX5_isBorder_31 : decode cX5_isBorder 31 = .ok (.iconst 0, 1) := by decide +kernel
theorem dX5_isBorder_32 : decode cX5_isBorder 32 = .ok (.iaload, 1) := by decide +kernel
theorem dX5_isBorder_33 : decode cX5_isBorder 33 = .ok (.iconst 1, 1) := by decide +kernel
theorem dX5_isBorder_34 : decode cX5_isBorder 34 = .ok (.isub, 1) := by decide +kernel
theorem dX5_isBorder_35 : decode cX5_isBorder 35 = .ok (.if_icmp .eq 15, 3) := by decide +kernel
theorem dX5_isBorder_38 : decode cX5_isBorder 38 = .ok (.iload_n 3, 1) := by decide +kernel
theorem dX5_isBorder_39 : decode cX5_isBorder 39 = .ok (.aload_n 0, 1) := by decide +kernel
theorem dX5_isBorder_40 : decode cX5_isBorder 40 = .ok (.getfield 7, 3) := by decide +kernel
theorem dX5_isBorder_43 : decode cX5_isBorder 43 = .ok (.iconst 1, 1) := by decide +kernel
theorem dX5_isBorder_44 : decode cX5_isBorder 44 = .ok (.iaload, 1) := by decide +kernel
theorem dX5_isBorder_45 : decode cX5_isBorder 45 = .ok (.iconst 1, 1) := by decide +kernel
theorem dX5_isBorder_46 : decode cX5_isBorder 46 = .ok (.isub, 1) := by decide +kernel
theorem dX5_isBorder_47 : decode cX5_isBorder 47 = .ok (.if_icmp .ne 7, 3) := by decide +kernel
theorem dX5_isBorder_50 : decode cX5_isBorder 50 = .ok (.iconst 1, 1) := by decide +kernel
theorem dX5_isBorder_51 : decode cX5_isBorder 51 = .ok (.goto 4, 3) := by decide +kernel
theorem dX5_isBorder_54 : decode cX5_isBorder 54 = .ok (.iconst 0, 1) := by decide +kernel
theorem dX5_isBorder_55 : decode cX5_isBorder 55 = .ok (.ireturn, 1) := by decide +kernel
set_option maxRecDepth 20000 in
theorem ggX5_holes_X5_laysPieces : GoodIn wsX5_holes wsX5_laysPieces := goodIn_r _ [6, 1, 7, 8, 9, 5, 10, 11, 12, 13, 14, 15, 16, 17, 18, 19, 20, 21, 22, 23, 24, 25, 26, 27, 28, 29, 30, 31, 32, 33, 42, 43, 44, 45, 46, 47, 48, 49, 50, 51, 52, 53, 54, 55, 56] (by decide +kernel) (by decide +kernel)
set_option maxRecDepth 20000 in
theorem gX5_holes_X5_laysPieces : GoodIn wsX5_holes (wsV RX5 152 RX5 yX5_laysPieces wsX5_laysPieces) := goodIn_app (goodIn_of _ (by decide +kernel)) ggX5_holes_X5_laysPieces
set_option maxRecDepth 20000 in
theorem ggX5_holes_X5_pieces : GoodIn wsX5_holes wsX5_pieces := goodIn_r _ [37, 1, 7, 8, 9, 5, 10, 11, 42, 43, 44, 45, 46, 47, 48, 49, 50, 51, 52, 53, 54, 55, 56] (by decide +kernel) (by decide +kernel)
set_option maxRecDepth 20000 in
theorem gX5_holes_X5_pieces : GoodIn wsX5_holes (wsV RX5 156 RX5 yX5_pieces wsX5_pieces) := goodIn_app (goodIn_of _ (by decide +kernel)) ggX5_holes_X5_pieces
set_option maxRecDepth 20000 in
theorem ggX5_holes_X5_dots : GoodIn wsX5_holes wsX5_dots := goodIn_r _ [10, 11, 42, 43, 44, 45, 46, 47, 48, 49, 50, 51, 52, 53, 54, 55, 56] (by decide +kernel) (by decide +kernel)
set_option maxRecDepth 20000 in
theorem gX5_holes_X5_dots : GoodIn wsX5_holes (wsV RX5 80 RX5 yX5_dots wsX5_dots) := goodIn_app (goodIn_of _ (by decide +kernel)) ggX5_holes_X5_dots
set_option maxRecDepth 20000 in
theorem ggX5_holes_X5_isBorder : GoodIn wsX5_holes wsX5_isBorder := goodIn_r _ [41, 11, 42, 43, 44, 45, 46, 47, 48, 49, 50, 51, 52, 53, 54, 55, 56] (by decide +kernel) (by decide +kernel)
set_option maxRecDepth 20000 in
theorem gX5_holes_X5_isBorder : GoodIn wsX5_holes (wsV RX5 159 RX5 yX5_isBorder wsX5_isBorder) := goodIn_app (goodIn_of _ (by decide +kernel)) ggX5_holes_X5_isBorder
theorem dX5_holes_0 : decode cX5_holes 0 = .ok (.aload_n 0, 1) := by decide +kernel
theorem dX5_holes_1 : decode cX5_holes 1 = .ok (.lload_n 1, 1) := by decide +kernel
theorem dX5_holes_2 : decode cX5_holes 2 = .ok (.iconst 0, 1) := by decide +kernel
theorem dX5_holes_3 : decode cX5_holes 3 = .ok (.invokevirtual 152, 3) := by decide +kernel
theorem dX5_holes_6 : decode cX5_holes 6 = .ok (.aload_n 0, 1) := by decide +kernel
theorem dX5_holes_7 : decode cX5_holes 7 = .ok (.invokevirtual 156, 3) := by decide +kernel
theorem dX5_holes_10 : decode cX5_holes 10 = .ok (.istore_n 3, 1) := by decide +kernel
theorem dX5_holes_11 : decode cX5_holes 11 = .ok (.iconst 0, 1) := by decide +kernel
theorem dX5_holes_12 : decode cX5_holes 12 = .ok (.istore 4, 2) := by decide +kernel
theorem dX5_holes_14 : decode cX5_holes 14 = .ok (.iload 4, 2) := by decide +kernel
theorem dX5_holes_16 : decode cX5_holes 16 = .ok (.aload_n 0, 1) := by decide +kernel
theorem dX5_holes_17 : decode cX5_holes 17 = .ok (.invokevirtual 80, 3) := by decide +kernel
theorem dX5_holes_20 : decode cX5_holes 20 = .ok (.if_icmp .ge 88, 3) := by decide +kernel
theorem dX5_holes_23 : decode cX5_holes 23 = .ok (.iconst 0, 1) := by decide +kernel
theorem dX5_holes_24 : decode cX5_holes 24 = .ok (.istore 5, 2) := by decide +kernel
theorem dX5_holes_26 : decode cX5_holes 26 = .ok (.iconst 0, 1) := by decide +kernel
theorem dX5_holes_27 : decode cX5_holes 27 = .ok (.istore 6, 2) := by decide +kernel
theorem dX5_holes_29 : decode cX5_holes 29 = .ok (.iload 6, 2) := by decide +kernel
theorem dX5_holes_31 : decode cX5_holes 31 = .ok (.aload_n 0, 1) := by decide +kernel
theorem dX5_holes_32 : decode cX5_holes 32 = .ok (.invokevirtual 80, 3) := by decide +kernel
theorem dX5_holes_35 : decode cX5_holes 35 = .ok (.if_icmp .ge 54, 3) := by decide +kernel
theorem dX5_holes_38 : decode cX5_holes 38 = .ok (.aload_n 0, 1) := by decide +kernel
theorem dX5_holes_39 : decode cX5_holes 39 = .ok (.getfield 35, 3) := by decide +kernel
theorem dX5_holes_42 : decode cX5_holes 42 = .ok (.iload 4, 2) := by decide +kernel
theorem dX5_holes_44 : decode cX5_holes 44 = .ok (.iaload, 1) := by decide +kernel
theorem dX5_holes_45 : decode cX5_holes 45 = .ok (.iload 4, 2) := by decide +kernel
theorem dX5_holes_47 : decode cX5_holes 47 = .ok (.if_icmp .ne 42, 3) := by decide +kernel
theorem dX5_holes_50 : decode cX5_holes 50 = .ok (.iload 5, 2) := by decide +kernel
theorem dX5_holes_52 : decode cX5_holes 52 = .ok (.ifCond .ne 24, 3) := by decide +kernel
theorem dX5_holes_55 : decode cX5_holes 55 = .ok (.aload_n 0, 1) := by decide +kernel
theorem dX5_holes_56 : decode cX5_holes 56 = .ok (.getfield 35, 3) := by decide +kernel
theorem dX5_holes_59 : decode cX5_holes 59 = .ok (.iload 6, 2) := by decide +kernel
theorem dX5_holes_61 : decode cX5_holes 61 = .ok (.iaload, 1) := by decide +kernel
theorem dX5_holes_62 : decode cX5_holes 62 = .ok (.iload 4, 2) := by decide +kernel
theorem dX5_holes_64 : decode cX5_holes 64 = .ok (.if_icmp .ne 16, 3) := by decide +kernel
theorem dX5_holes_67 : decode cX5_holes 67 = .ok (.aload_n 0, 1) := by decide +kernel
theorem dX5_holes_68 : decode cX5_holes 68 = .ok (.iload 6, 2) := by decide +kernel
theorem dX5_holes_70 : decode cX5_holes 70 = .ok (.invokevirtual 159, 3) := by decide +kernel
theorem dX5_holes_73 : decode cX5_holes 73 = .ok (.ifCond .eq 7, 3) := by decide +kernel
theorem dX5_holes_76 : decode cX5_holes 76 = .ok (.iconst 1, 1) := by decide +kernel
theorem dX5_holes_77 : decode cX5_holes 77 = .ok (.goto 4, 3) := by decide +kernel
theorem dX5_holes_80 : decode cX5_holes 80 = .ok (.iconst 0, 1) := by decide +kernel
theorem dX5_holes_81 : decode cX5_holes 81 = .ok (.istore 5, 2) := by decide +kernel
theorem dX5_holes_83 : decode cX5_holes 83 = .ok (.iinc 6 1, 3) := by decide +kernel
theorem dX5_holes_86 : decode cX5_holes 86 = .ok (.goto (-57), 3) := by decide +kernel
theorem dX5_holes_89 : decode cX5_holes 89 = .ok (.iload_n 3, 1) := by decide +kernel
theorem dX5_holes_90 : decode cX5_holes 90 = .ok (.iload 5, 2) := by decide +kernel
theorem dX5_holes_92 : decode cX5_holes 92 = .ok (.ifCond .eq 7, 3) := by decide +kernel
theorem dX5_holes_95 : decode cX5_holes 95 = .ok (.iconst 1, 1) := by decide +kernel
theorem dX5_holes_96 : decode cX5_holes 96 = .ok (.goto 4, 3) := by decide +kernel
theorem dX5_holes_99 : decode cX5_holes 99 = .ok (.iconst 0, 1) := by decide +kernel
theorem dX5_holes_100 : decode cX5_holes 100 = .ok (.isub, 1) := by decide +kernel
theorem dX5_holes_101 : decode cX5_holes 101 = .ok (.istore_n 3, 1) := by decide +kernel
theorem dX5_holes_102 : decode cX5_holes 102 = .ok (.iinc 4 1, 3) := by decide +kernel
theorem dX5_holes_105 : decode cX5_holes 105 = .ok (.goto (-91), 3) := by decide +kernel
theorem dX5_holes_108 : decode cX5_holes 108 = .ok (.iload_n 3, 1) := by decide +kernel
theorem dX5_holes_109 : decode cX5_holes 109 = .ok (.ireturn, 1) := by decide +kernel
set_option maxRecDepth 20000 in
theorem ggX5_edges_X5_dots : GoodIn wsX5_edges wsX5_dots := goodIn_r _ [6, 1, 25, 26, 27, 28, 29, 30, 31, 32, 33, 34, 35, 36, 37, 38, 39] (by decide +kernel) (by decide +kernel)
set_option maxRecDepth 20000 in
theorem gX5_edges_X5_dots : GoodIn wsX5_edges (wsV RX5 80 RX5 yX5_dots wsX5_dots) := goodIn_app (goodIn_of _ (by decide +kernel)) ggX5_edges_X5_dots
set_option maxRecDepth 20000 in
theorem ggX5_edges_X5_isIn : GoodIn wsX5_edges wsX5_isIn := goodIn_r _ [9] (by decide +kernel) (by decide +kernel)
set_option maxRecDepth 20000 in
theorem gX5_edges_X5_isIn : GoodIn wsX5_edges (va_wsS RX5 142 yX5_isIn wsX5_isIn) := goodIn_app (goodIn_of _ (by decide +kernel)) ggX5_edges_X5_isIn
set_option maxRecDepth 20000 in
theorem ggX5_edges_X5_isOpenAt : GoodIn wsX5_edges wsX5_isOpenAt := goodIn_r _ [13, 14, 15, 16, 5, 17, 1, 18, 19, 20, 21, 22, 23, 24, 7, 8, 9, 25, 26, 27, 28, 29, 30, 31, 32, 33, 34, 35, 36, 37, 38, 39] (by decide +kernel) (by decide +kernel)
set_option maxRecDepth 20000 in
theorem gX5_edges_X5_isOpenAt : GoodIn wsX5_edges (wsV RX5 163 RX5 yX5_isOpenAt wsX5_isOpenAt) := goodIn_app (goodIn_of _ (by decide +kernel)) ggX5_edges_X5_isOpenAt
theorem dX5_edges_0 : decode cX5_edges 0 = .ok (.iconst 0, 1) := by decide +kernel
theorem dX5_edges_1 : decode cX5_edges 1 = .ok (.istore_n 3, 1) := by decide +kernel
theorem dX5_edges_2 : decode cX5_edges 2 = .ok (.iconst 0, 1) := by decide +kernel
theorem dX5_edges_3 : decode cX5_edges 3 = .ok (.istore 4, 2) := by decide +kernel
theorem dX5_edges_5 : decode cX5_edges 5 = .ok (.iload 4, 2) := by decide +kernel
theorem dX5_edges_7 : decode cX5_edges 7 = .ok (.aload_n 0, 1) := by decide +kernel
theorem dX5_edges_8 : decode cX5_edges 8 = .ok (.invokevirtual 80, 3) := by decide +kernel
theorem dX5_edges_11 : decode cX5_edges 11 = .ok (.if_icmp .ge 90, 3) := by decide +kernel
theorem dX5_edges_14 : decode cX5_edges 14 = .ok (.iload 4, 2) := by decide +kernel
theorem dX5_edges_16 : decode cX5_edges 16 = .ok (.aload_n 0, 1) := by decide +kernel
theorem dX5_edges_17 : decode cX5_edges 17 = .ok (.getfield 7, 3) := by decide +kernel
theorem dX5_edges_20 : decode cX5_edges 20 = .ok (.iconst 0, 1) := by decide +kernel
theorem dX5_edges_21 : decode cX5_edges 21 = .ok (.iaload, 1) := by decide +kernel
theorem dX5_edges_22 : decode cX5_edges 22 = .ok (.irem, 1) := by decide +kernel
theorem dX5_edges_23 : decode cX5_edges 23 = .ok (.istore 5, 2) := by decide +kernel
theorem dX5_edges_25 : decode cX5_edges 25 = .ok (.iload 4, 2) := by decide +kernel
theorem dX5_edges_27 : decode cX5_edges 27 = .ok (.aload_n 0, 1) := by decide +kernel
theorem dX5_edges_28 : decode cX5_edges 28 = .ok (.getfield 7, 3) := by decide +kernel
theorem dX5_edges_31 : decode cX5_edges 31 = .ok (.iconst 0, 1) := by decide +kernel
theorem dX5_edges_32 : decode cX5_edges 32 = .ok (.iaload, 1) := by decide +kernel
theorem dX5_edges_33 : decode cX5_edges 33 = .ok (.idiv, 1) := by decide +kernel
theorem dX5_edges_34 : decode cX5_edges 34 = .ok (.istore 6, 2) := by decide +kernel
theorem dX5_edges_36 : decode cX5_edges 36 = .ok (.lload_n 1, 1) := by decide +kernel
theorem dX5_edges_37 : decode cX5_edges 37 = .ok (.iload 4, 2) := by decide +kernel
theorem dX5_edges_39 : decode cX5_edges 39 = .ok (.invokestatic 142, 3) := by decide +kernel
theorem dX5_edges_42 : decode cX5_edges 42 = .ok (.ifCond .eq 53, 3) := by decide +kernel
theorem dX5_edges_45 : decode cX5_edges 45 = .ok (.iload_n 3, 1) := by decide +kernel
theorem dX5_edges_46 : decode cX5_edges 46 = .ok (.aload_n 0, 1) := by decide +kernel
theorem dX5_edges_47 : decode cX5_edges 47 = .ok (.lload_n 1, 1) := by decide +kernel
theorem dX5_edges_48 : decode cX5_edges 48 = .ok (.iload 5, 2) := by decide +kernel
theorem dX5_edges_50 : decode cX5_edges 50 = .ok (.iconst 1, 1) := by decide +kernel
theorem dX5_edges_51 : decode cX5_edges 51 = .ok (.isub, 1) := by decide +kernel
theorem dX5_edges_52 : decode cX5_edges 52 = .ok (.iload 6, 2) := by decide +kernel
theorem dX5_edges_54 : decode cX5_edges 54 = .ok (.invokevirtual 163, 3) := by decide +kernel
theorem dX5_edges_57 : decode cX5_edges 57 = .ok (.aload_n 0, 1) := by decide +kernel
theorem dX5_edges_58 : decode cX5_edges 58 = .ok (.lload_n 1, 1) := by decide +kernel
theorem dX5_edges_59 : decode cX5_edges 59 = .ok (.iload 5, 2) := by decide +kernel
theorem dX5_edges_61 : decode cX5_edges 61 = .ok (.iconst 1, 1) := by decide +kernel
theorem dX5_edges_62 : decode cX5_edges 62 = .ok (.iadd, 1) := by decide +kernel
theorem dX5_edges_63 : decode cX5_edges 63 = .ok (.iload 6, 2) := by decide +kernel
theorem dX5_edges_65 : decode cX5_edges 65 = .ok (.invokevirtual 163, 3) := by decide +kernel
theorem dX5_edges_68 : decode cX5_edges 68 = .ok (.iadd, 1) := by decide +kernel
theorem dX5_edges_69 : decode cX5_edges 69 = .ok (.aload_n 0, 1) := by decide +kernel
theorem dX5_edges_70 : decode cX5_edges 70 = .ok (.lload_n 1, 1) := by decide +kernel
theorem dX5_edges_71 : decode cX5_edges 71 = .ok (.iload 5, 2) := by decide +kernel
theorem dX5_edges_73 : decode cX5_edges 73 = .ok (.iload 6, 2) := by decide +kernel
theorem dX5_edges_75 : decode cX5_edges 75 = .ok (.iconst 1, 1) := by decide +kernel
theorem dX5_edges_76 : decode cX5_edges 76 = .ok (.isub, 1) := by decide +kernel
theorem dX5_edges_77 : decode cX5_edges 77 = .ok (.invokevirtual 163, 3) := by decide +kernel
theorem dX5_edges_80 : decode cX5_edges 80 = .ok (.iadd, 1) := by decide +kernel
theorem dX5_edges_81 : decode cX5_edges 81 = .ok (.aload_n 0, 1) := by decide +kernel
theorem dX5_edges_82 : decode cX5_edges 82 = .ok (.lload_n 1, 1) := by decide +kernel
theorem dX5_edges_83 : decode cX5_edges 83 = .ok (.iload 5, 2) := by decide +kernel
theorem dX5_edges_85 : decode cX5_edges 85 = .ok (.iload 6, 2) := by decide +kernel
theorem dX5_edges_87 : decode cX5_edges 87 = .ok (.iconst 1, 1) := by decide +kernel
theorem dX5_edges_88 : decode cX5_edges 88 = .ok (.iadd, 1) := by decide +kernel
theorem dX5_edges_89 : decode cX5_edges 89 = .ok (.invokevirtual 163, 3) := by decide +kernel
theorem dX5_edges_92 : decode cX5_edges 92 = .ok (.iadd, 1) := by decide +kernel
theorem dX5_edges_93 : decode cX5_edges 93 = .ok (.iadd, 1) := by decide +kernel
theorem dX5_edges_94 : decode cX5_edges 94 = .ok (.istore_n 3, 1) := by decide +kernel
theorem dX5_edges_95 : decode cX5_edges 95 = .ok (.iinc 4 1, 3) := by decide +kernel
theorem dX5_edges_98 : decode cX5_edges 98 = .ok (.goto (-93), 3) := by decide +kernel
theorem dX5_edges_101 : decode cX5_edges 101 = .ok (.iload_n 3, 1) := by decide +kernel
theorem dX5_edges_102 : decode cX5_edges 102 = .ok (.ireturn, 1) := by decide +kernel
set_option maxRecDepth 20000 in
theorem ggX5_isOpenAt_X5_isDot : GoodIn wsX5_isOpenAt wsX5_isDot := goodIn_r _ [5, 6, 7, 8, 4, 9, 17, 18, 19, 20, 21, 22, 23, 24, 25, 26, 27, 28, 29, 30, 31] (by decide +kernel) (by decide +kernel)
set_option maxRecDepth 20000 in
theorem gX5_isOpenAt_X5_isDot : GoodIn wsX5_isOpenAt (wsV RX5 52 RX5 yX5_isDot wsX5_isDot) := goodIn_app (goodIn_of _ (by decide +kernel)) ggX5_isOpenAt_X5_isDot
set_option maxRecDepth 20000 in
theorem ggX5_isOpenAt_X5_numberOf : GoodIn wsX5_isOpenAt wsX5_numberOf := goodIn_r _ [13, 6, 17, 18, 19, 20, 21, 22, 23, 24, 25, 26, 27, 28, 29, 30, 31] (by decide +kernel) (by decide +kernel)
set_option maxRecDepth 20000 in
theorem gX5_isOpenAt_X5_numberOf : GoodIn wsX5_isOpenAt (wsV RX5 56 RX5 yX5_numberOf wsX5_numberOf) := goodIn_app (goodIn_of _ (by decide +kernel)) ggX5_isOpenAt_X5_numberOf
set_option maxRecDepth 20000 in
theorem ggX5_isOpenAt_X5_isIn : GoodIn wsX5_isOpenAt wsX5_isIn := goodIn_r _ [16] (by decide +kernel) (by decide +kernel)
set_option maxRecDepth 20000 in
theorem gX5_isOpenAt_X5_isIn : GoodIn wsX5_isOpenAt (va_wsS RX5 142 yX5_isIn wsX5_isIn) := goodIn_app (goodIn_of _ (by decide +kernel)) ggX5_isOpenAt_X5_isIn
theorem dX5_isOpenAt_0 : decode cX5_isOpenAt 0 = .ok (.aload_n 0, 1) := by decide +kernel
theorem dX5_isOpenAt_1 : decode cX5_isOpenAt 1 = .ok (.iload_n 3, 1) := by decide +kernel
theorem dX5_isOpenAt_2 : decode cX5_isOpenAt 2 = .ok (.iload 4, 2) := by decide +kernel
theorem dX5_isOpenAt_4 : decode cX5_isOpenAt 4 = .ok (.invokevirtual 52, 3) := by decide +kernel
theorem dX5_isOpenAt_7 : decode cX5_isOpenAt 7 = .ok (.ifCond .eq 21, 3) := by decide +kernel
theorem dX5_isOpenAt_10 : decode cX5_isOpenAt 10 = .ok (.lload_n 1, 1) := by decide +kernel
theorem dX5_isOpenAt_11 : decode cX5_isOpenAt 11 = .ok (.aload_n 0, 1) := by decide +kernel
theorem dX5_isOpenAt_12 : decode cX5_isOpenAt 12 = .ok (.iload_n 3, 1) := by decide +kernel
theorem dX5_isOpenAt_13 : decode cX5_isOpenAt 13 = .ok (.iload 4, 2) := by decide +kernel
theorem dX5_isOpenAt_15 : decode cX5_isOpenAt 15 = .ok (.invokevirtual 56, 3) := by decide +kernel
theorem dX5_isOpenAt_18 : decode cX5_isOpenAt 18 = .ok (.invokestatic 142, 3) := by decide +kernel
theorem dX5_isOpenAt_21 : decode cX5_isOpenAt 21 = .ok (.ifCond .eq 7, 3) := by decide +kernel
theorem dX5_isOpenAt_24 : decode cX5_isOpenAt 24 = .ok (.iconst 0, 1) := by decide +kernel
theorem dX5_isOpenAt_25 : decode cX5_isOpenAt 25 = .ok (.goto 4, 3) := by decide +kernel
theorem dX5_isOpenAt_28 : decode cX5_isOpenAt 28 = .ok (.iconst 1, 1) := by decide +kernel
theorem dX5_isOpenAt_29 : decode cX5_isOpenAt 29 = .ok (.ireturn, 1) := by decide +kernel
set_option maxRecDepth 20000 in
theorem ggX5_bound_X5_dots : GoodIn wsX5_bound wsX5_dots := goodIn_r _ [6, 1, 10, 11, 12, 13, 14, 15, 16, 17, 18, 19, 20, 21, 22, 23, 24] (by decide +kernel) (by decide +kernel)
set_option maxRecDepth 20000 in
theorem gX5_bound_X5_dots : GoodIn wsX5_bound (wsV RX5 80 RX5 yX5_dots wsX5_dots) := goodIn_app (goodIn_of _ (by decide +kernel)) ggX5_bound_X5_dots
set_option maxRecDepth 20000 in
theorem ggX5_bound_X5_isIn : GoodIn wsX5_bound wsX5_isIn := goodIn_r _ [9] (by decide +kernel) (by decide +kernel)
set_option maxRecDepth 20000 in
theorem gX5_bound_X5_isIn : GoodIn wsX5_bound (va_wsS RX5 142 yX5_isIn wsX5_isIn) := goodIn_app (goodIn_of _ (by decide +kernel)) ggX5_bound_X5_isIn
theorem dX5_bound_0 : decode cX5_bound 0 = .ok (.iconst (-1), 1) := by decide +kernel
theorem dX5_bound_1 : decode cX5_bound 1 = .ok (.istore 4, 2) := by decide +kernel
theorem dX5_bound_3 : decode cX5_bound 3 = .ok (.iconst 0, 1) := by decide +kernel
theorem dX5_bound_4 : decode cX5_bound 4 = .ok (.istore 5, 2) := by decide +kernel
theorem dX5_bound_6 : decode cX5_bound 6 = .ok (.iload 5, 2) := by decide +kernel
theorem dX5_bound_8 : decode cX5_bound 8 = .ok (.aload_n 0, 1) := by decide +kernel
theorem dX5_bound_9 : decode cX5_bound 9 = .ok (.invokevirtual 80, 3) := by decide +kernel
theorem dX5_bound_12 : decode cX5_bound 12 = .ok (.if_icmp .ge 102, 3) := by decide +kernel
theorem dX5_bound_15 : decode cX5_bound 15 = .ok (.lload_n 1, 1) := by decide +kernel
theorem dX5_bound_16 : decode cX5_bound 16 = .ok (.iload 5, 2) := by decide +kernel
theorem dX5_bound_18 : decode cX5_bound 18 = .ok (.invokestatic 142, 3) := by decide +kernel
theorem dX5_bound_21 : decode cX5_bound 21 = .ok (.ifCond .eq 87, 3) := by decide +kernel
theorem dX5_bound_24 : decode cX5_bound 24 = .ok (.iload_n 3, 1) := by decide +kernel
theorem dX5_bound_25 : decode cX5_bound 25 = .ok (.iconst 2, 1) := by decide +kernel
theorem dX5_bound_26 : decode cX5_bound 26 = .ok (.irem, 1) := by decide +kernel
theorem dX5_bound_27 : decode cX5_bound 27 = .ok (.ifCond .ne 15, 3) := by decide +kernel
theorem dX5_bound_30 : decode cX5_bound 30 = .ok (.iload 5, 2) := by decide +kernel
theorem dX5_bound_32 : decode cX5_bound 32 = .ok (.aload_n 0, 1) := by decide +kernel
theorem dX5_bound_33 : decode cX5_bound 33 = .ok (.getfield 7, 3) := by decide +kernel
theorem dX5_bound_36 : decode cX5_bound 36 = .ok (.iconst 0, 1) := by decide +kernel
theorem dX5_bound_37 : decode cX5_bound 37 = .ok (.iaload, 1) := by decide +kernel
theorem dX5_bound_38 : decode cX5_bound 38 = .ok (.irem, 1) := by decide +kernel
theorem dX5_bound_39 : decode cX5_bound 39 = .ok (.goto 12, 3) := by decide +kernel
theorem dX5_bound_42 : decode cX5_bound 42 = .ok (.iload 5, 2) := by decide +kernel
theorem dX5_bound_44 : decode cX5_bound 44 = .ok (.aload_n 0, 1) := by decide +kernel
theorem dX5_bound_45 : decode cX5_bound 45 = .ok (.getfield 7, 3) := by decide +kernel
theorem dX5_bound_48 : decode cX5_bound 48 = .ok (.iconst 0, 1) := by decide +kernel
theorem dX5_bound_49 : decode cX5_bound 49 = .ok (.iaload, 1) := by decide +kernel
theorem dX5_bound_50 : decode cX5_bound 50 = .ok (.idiv, 1) := by decide +kernel
theorem dX5_bound_51 : decode cX5_bound 51 = .ok (.istore 6, 2) := by decide +kernel
theorem dX5_bound_53 : decode cX5_bound 53 = .ok (.iload_n 3, 1) := by decide +kernel
theorem dX5_bound_54 : decode cX5_bound 54 = .ok (.bipush 6, 2) := by decide +kernel
theorem dX5_bound_56 : decode cX5_bound 56 = .ok (.if_icmp .ge 18, 3) := by decide +kernel
theorem dX5_bound_59 : decode cX5_bound 59 = .ok (.iload 6, 2) := by decide +kernel
theorem dX5_bound_61 : decode cX5_bound 61 = .ok (.iload 4, 2) := by decide +kernel
theorem dX5_bound_63 : decode cX5_bound 63 = .ok (.if_icmp .ge 7, 3) := by decide +kernel
theorem dX5_bound_66 : decode cX5_bound 66 = .ok (.iconst 1, 1) := by decide +kernel
theorem dX5_bound_67 : decode cX5_bound 67 = .ok (.goto 19, 3) := by decide +kernel
theorem dX5_bound_70 : decode cX5_bound 70 = .ok (.iconst 0, 1) := by decide +kernel
theorem dX5_bound_71 : decode cX5_bound 71 = .ok (.goto 15, 3) := by decide +kernel
theorem dX5_bound_74 : decode cX5_bound 74 = .ok (.iload 6, 2) := by decide +kernel
theorem dX5_bound_76 : decode cX5_bound 76 = .ok (.iload 4, 2) := by decide +kernel
theorem dX5_bound_78 : decode cX5_bound 78 = .ok (.if_icmp .le 7, 3) := by decide +kernel
theorem dX5_bound_81 : decode cX5_bound 81 = .ok (.iconst 1, 1) := by decide +kernel
theorem dX5_bound_82 : decode cX5_bound 82 = .ok (.goto 4, 3) := by decide +kernel
theorem dX5_bound_85 : decode cX5_bound 85 = .ok (.iconst 0, 1) := by decide +kernel
theorem dX5_bound_86 : decode cX5_bound 86 = .ok (.istore 7, 2) := by decide +kernel
theorem dX5_bound_88 : decode cX5_bound 88 = .ok (.iload 4, 2) := by decide +kernel
theorem dX5_bound_90 : decode cX5_bound 90 = .ok (.iconst (-1), 1) := by decide +kernel
theorem dX5_bound_91 : decode cX5_bound 91 = .ok (.if_icmp .eq 8, 3) := by decide +kernel
theorem dX5_bound_94 : decode cX5_bound 94 = .ok (.iload 7, 2) := by decide +kernel
theorem dX5_bound_96 : decode cX5_bound 96 = .ok (.ifCond .eq 8, 3) := by decide +kernel
theorem dX5_bound_99 : decode cX5_bound 99 = .ok (.iload 6, 2) := by decide +kernel
theorem dX5_bound_101 : decode cX5_bound 101 = .ok (.goto 5, 3) := by decide +kernel
theorem dX5_bound_104 : decode cX5_bound 104 = .ok (.iload 4, 2) := by decide +kernel
theorem dX5_bound_106 : decode cX5_bound 106 = .ok (.istore 4, 2) := by decide +kernel
theorem dX5_bound_108 : decode cX5_bound 108 = .ok (.iinc 5 1, 3) := by decide +kernel
theorem dX5_bound_111 : decode cX5_bound 111 = .ok (.goto (-105), 3) := by decide +kernel
theorem dX5_bound_114 : decode cX5_bound 114 = .ok (.iload 4, 2) := by decide +kernel
theorem dX5_bound_116 : decode cX5_bound 116 = .ok (.ireturn, 1) := by decide +kernel
set_option maxRecDepth 20000 in
theorem ggX5_many_X5_dots : GoodIn wsX5_many wsX5_dots := goodIn_r _ [5, 6, 10, 11, 12, 13, 14, 15, 16, 17, 18, 19, 20, 21, 22, 23, 24] (by decide +kernel) (by decide +kernel)
set_option maxRecDepth 20000 in
theorem gX5_many_X5_dots : GoodIn wsX5_many (wsV RX5 80 RX5 yX5_dots wsX5_dots) := goodIn_app (goodIn_of _ (by decide +kernel)) ggX5_many_X5_dots
set_option maxRecDepth 20000 in
theorem ggX5_many_X5_isIn : GoodIn wsX5_many wsX5_isIn := goodIn_r _ [9] (by decide +kernel) (by decide +kernel)
set_option maxRecDepth 20000 in
theorem gX5_many_X5_isIn : GoodIn wsX5_many (va_wsS RX5 142 yX5_isIn wsX5_isIn) := goodIn_app (goodIn_of _ (by decide +kernel)) ggX5_many_X5_isIn
theorem dX5_many_0 : decode cX5_many 0 = .ok (.iconst 0, 1) := by decide +kernel
theorem dX5_many_1 : decode cX5_many 1 = .ok (.istore_n 3, 1) := by decide +kernel
theorem dX5_many_2 : decode cX5_many 2 = .ok (.iconst 0, 1) := by decide +kernel
theorem dX5_many_3 : decode cX5_many 3 = .ok (.istore 4, 2) := by decide +kernel
theorem dX5_many_5 : decode cX5_many 5 = .ok (.iload 4, 2) := by decide +kernel
theorem dX5_many_7 : decode cX5_many 7 = .ok (.aload_n 0, 1) := by decide +kernel
theorem dX5_many_8 : decode cX5_many 8 = .ok (.invokevirtual 80, 3) := by decide +kernel
theorem dX5_many_11 : decode cX5_many 11 = .ok (.if_icmp .ge 26, 3) := by decide +kernel
theorem dX5_many_14 : decode cX5_many 14 = .ok (.iload_n 3, 1) := by decide +kernel
theorem dX5_many_15 : decode cX5_many 15 = .ok (.lload_n 1, 1) := by decide +kernel
theorem dX5_many_16 : decode cX5_many 16 = .ok (.iload 4, 2) := by decide +kernel
theorem dX5_many_18 : decode cX5_many 18 = .ok (.invokestatic 142, 3) := by decide +kernel
theorem dX5_many_21 : decode cX5_many 21 = .ok (.ifCond .eq 7, 3) := by decide +kernel
theorem dX5_many_24 : decode cX5_many 24 = .ok (.iconst 1, 1) := by decide +kernel
theorem dX5_many_25 : decode cX5_many 25 = .ok (.goto 4, 3) := by decide +kernel
theorem dX5_many_28 : decode cX5_many 28 = .ok (.iconst 0, 1) := by decide +kernel
theorem dX5_many_29 : decode cX5_many 29 = .ok (.iadd, 1) := by decide +kernel
theorem dX5_many_30 : decode cX5_many 30 = .ok (.istore_n 3, 1) := by decide +kernel
theorem dX5_many_31 : decode cX5_many 31 = .ok (.iinc 4 1, 3) := by decide +kernel
theorem dX5_many_34 : decode cX5_many 34 = .ok (.goto (-29), 3) := by decide +kernel
theorem dX5_many_37 : decode cX5_many 37 = .ok (.iload_n 3, 1) := by decide +kernel
theorem dX5_many_38 : decode cX5_many 38 = .ok (.ireturn, 1) := by decide +kernel
set_option maxRecDepth 20000 in
theorem ggX5_shape_X5_in : GoodIn wsX5_shape wsX5_in := goodIn_r _ [4] (by decide +kernel) (by decide +kernel)
set_option maxRecDepth 20000 in
theorem gX5_shape_X5_in : GoodIn wsX5_shape (va_wsS RX5 41 yX5_in wsX5_in) := goodIn_app (goodIn_of _ (by decide +kernel)) ggX5_shape_X5_in
set_option maxRecDepth 20000 in
theorem ggX5_shape_X5_bad : GoodIn wsX5_shape wsX5_bad := goodIn_r _ [8, 9, 123, 124, 125, 126, 127, 128, 129, 130, 131, 132, 133, 134, 135, 136, 137] (by decide +kernel) (by decide +kernel)
set_option maxRecDepth 20000 in
theorem gX5_shape_X5_bad : GoodIn wsX5_shape (wsV RX5 107 RX5 yX5_bad wsX5_bad) := goodIn_app (goodIn_of _ (by decide +kernel)) ggX5_shape_X5_bad
set_option maxRecDepth 20000 in
theorem ggX5_shape_X5_sideOf : GoodIn wsX5_shape wsX5_sideOf := goodIn_r _ [13, 14, 15, 16, 3, 17, 18, 19, 20, 21, 22, 23, 24, 25, 26, 27, 28, 29, 30, 31, 32, 33, 34, 35, 36, 37, 38, 39, 40, 41, 42, 43, 44, 45, 46, 47, 48, 49, 50, 51, 52, 53, 54, 55, 56, 57, 58, 59, 60, 61, 62, 63, 64, 65, 66, 67, 68, 69, 70, 1, 2, 4, 71, 72, 73, 74, 75, 76, 77, 78, 79, 80, 81, 82, 123, 124, 125, 126, 127, 128, 129, 130, 131, 132, 133, 134, 135, 136, 137] (by decide +kernel) (by decide +kernel)
set_option maxRecDepth 20000 in
theorem gX5_shape_X5_sideOf : GoodIn wsX5_shape (wsV RX5 134 RX5 yX5_sideOf wsX5_sideOf) := goodIn_app (goodIn_of _ (by decide +kernel)) ggX5_shape_X5_sideOf
set_option maxRecDepth 20000 in
theorem ggX5_shape_X5_many : GoodIn wsX5_shape wsX5_many := goodIn_r _ [86, 34, 35, 36, 3, 37, 22, 87, 88, 89, 123, 124, 125, 126, 127, 128, 129, 130, 131, 132, 133, 134, 135, 136, 137] (by decide +kernel) (by decide +kernel)
set_option maxRecDepth 20000 in
theorem gX5_shape_X5_many : GoodIn wsX5_shape (wsV RX5 167 RX5 yX5_many wsX5_many) := goodIn_app (goodIn_of _ (by decide +kernel)) ggX5_shape_X5_many
set_option maxRecDepth 20000 in
theorem ggX5_shape_X5_laysPieces : GoodIn wsX5_shape wsX5_laysPieces := goodIn_r _ [93, 94, 34, 35, 36, 3, 37, 22, 87, 88, 89, 63, 64, 65, 66, 67, 68, 69, 70, 1, 2, 4, 71, 72, 73, 74, 95, 96, 97, 98, 123, 124, 125, 126, 127, 128, 129, 130, 131, 132, 133, 134, 135, 136, 137] (by decide +kernel) (by decide +kernel)
set_option maxRecDepth 20000 in
theorem gX5_shape_X5_laysPieces : GoodIn wsX5_shape (wsV RX5 152 RX5 yX5_laysPieces wsX5_laysPieces) := goodIn_app (goodIn_of _ (by decide +kernel)) ggX5_shape_X5_laysPieces
set_option maxRecDepth 20000 in
theorem ggX5_shape_X5_pieces : GoodIn wsX5_shape wsX5_pieces := goodIn_r _ [102, 94, 34, 35, 36, 3, 37, 22, 123, 124, 125, 126, 127, 128, 129, 130, 131, 132, 133, 134, 135, 136, 137] (by decide +kernel) (by decide +kernel)
set_option maxRecDepth 20000 in
theorem gX5_shape_X5_pieces : GoodIn wsX5_shape (wsV RX5 156 RX5 yX5_pieces wsX5_pieces) := goodIn_app (goodIn_of _ (by decide +kernel)) ggX5_shape_X5_pieces
set_option maxRecDepth 20000 in
theorem ggX5_shape_X5_holes : GoodIn wsX5_shape wsX5_holes := goodIn_r _ [106, 94, 90, 91, 92, 3, 93, 34, 35, 36, 37, 22, 87, 88, 89, 63, 64, 65, 66, 67, 68, 69, 70, 1, 2, 4, 71, 72, 73, 74, 95, 96, 97, 98, 99, 100, 101, 102, 107, 108, 109, 110, 123, 124, 125, 126, 127, 128, 129, 130, 131, 132, 133, 134, 135, 136, 137] (by decide +kernel) (by decide +kernel)
set_option maxRecDepth 20000 in
theorem gX5_shape_X5_holes : GoodIn wsX5_shape (wsV RX5 171 RX5 yX5_holes wsX5_holes) := goodIn_app (goodIn_of _ (by decide +kernel)) ggX5_shape_X5_holes
set_option maxRecDepth 20000 in
theorem ggX5_shape_X5_edges : GoodIn wsX5_shape wsX5_edges := goodIn_r _ [114, 22, 34, 35, 36, 3, 37, 87, 88, 89, 115, 116, 117, 118, 67, 68, 69, 70, 1, 2, 4, 71, 72, 73, 74, 123, 124, 125, 126, 127, 128, 129, 130, 131, 132, 133, 134, 135, 136, 137] (by decide +kernel) (by decide +kernel)
set_option maxRecDepth 20000 in
theorem gX5_shape_X5_edges : GoodIn wsX5_shape (wsV RX5 174 RX5 yX5_edges wsX5_edges) := goodIn_app (goodIn_of _ (by decide +kernel)) ggX5_shape_X5_edges
set_option maxRecDepth 20000 in
theorem ggX5_shape_X5_bound : GoodIn wsX5_shape wsX5_bound := goodIn_r _ [122, 22, 34, 35, 36, 3, 37, 87, 88, 89, 123, 124, 125, 126, 127, 128, 129, 130, 131, 132, 133, 134, 135, 136, 137] (by decide +kernel) (by decide +kernel)
set_option maxRecDepth 20000 in
theorem gX5_shape_X5_bound : GoodIn wsX5_shape (wsV RX5 177 RX5 yX5_bound wsX5_bound) := goodIn_app (goodIn_of _ (by decide +kernel)) ggX5_shape_X5_bound
theorem dX5_shape_0 : decode cX5_shape 0 = .ok (.iload_n 1, 1) := by decide +kernel
theorem dX5_shape_1 : decode cX5_shape 1 = .ok (.iconst 0, 1) := by decide +kernel
theorem dX5_shape_2 : decode cX5_shape 2 = .ok (.bipush 7, 2) := by decide +kernel
theorem dX5_shape_4 : decode cX5_shape 4 = .ok (.invokestatic 41, 3) := by decide +kernel
theorem dX5_shape_7 : decode cX5_shape 7 = .ok (.ifCond .ne 8, 3) := by decide +kernel
theorem dX5_shape_10 : decode cX5_shape 10 = .ok (.aload_n 0, 1) := by decide +kernel
theorem dX5_shape_11 : decode cX5_shape 11 = .ok (.invokevirtual 107, 3) := by decide +kernel
theorem dX5_shape_14 : decode cX5_shape 14 = .ok (.ireturn, 1) := by decide +kernel
theorem dX5_shape_15 : decode cX5_shape 15 = .ok (.aload_n 0, 1) := by decide +kernel
theorem dX5_shape_16 : decode cX5_shape 16 = .ok (.iconst 0, 1) := by decide +kernel
theorem dX5_shape_17 : decode cX5_shape 17 = .ok (.invokevirtual 134, 3) := by decide +kernel
theorem dX5_shape_20 : decode cX5_shape 20 = .ok (.lstore_n 2, 1) := by decide +kernel
theorem dX5_shape_21 : decode cX5_shape 21 = .ok (.iload_n 1, 1) := by decide +kernel
theorem dX5_shape_22 : decode cX5_shape 22 = .ok (.tableswitch 59 0 3 #[30, 36, 47, 53], 30) := by decide +kernel
theorem dX5_shape_52 : decode cX5_shape 52 = .ok (.aload_n 0, 1) := by decide +kernel
theorem dX5_shape_53 : decode cX5_shape 53 = .ok (.lload_n 2, 1) := by decide +kernel
theorem dX5_shape_54 : decode cX5_shape 54 = .ok (.invokevirtual 167, 3) := by decide +kernel
theorem dX5_shape_57 : decode cX5_shape 57 = .ok (.ireturn, 1) := by decide +kernel
theorem dX5_shape_58 : decode cX5_shape 58 = .ok (.aload_n 0, 1) := by decide +kernel
theorem dX5_shape_59 : decode cX5_shape 59 = .ok (.lload_n 2, 1) := by decide +kernel
theorem dX5_shape_60 : decode cX5_shape 60 = .ok (.iconst 1, 1) := by decide +kernel
theorem dX5_shape_61 : decode cX5_shape 61 = .ok (.invokevirtual 152, 3) := by decide +kernel
theorem dX5_shape_64 : decode cX5_shape 64 = .ok (.aload_n 0, 1) := by decide +kernel
theorem dX5_shape_65 : decode cX5_shape 65 = .ok (.invokevirtual 156, 3) := by decide +kernel
theorem dX5_shape_68 : decode cX5_shape 68 = .ok (.ireturn, 1) := by decide +kernel
theorem dX5_shape_69 : decode cX5_shape 69 = .ok (.aload_n 0, 1) := by decide +kernel
theorem dX5_shape_70 : decode cX5_shape 70 = .ok (.lload_n 2, 1) := by decide +kernel
theorem dX5_shape_71 : decode cX5_shape 71 = .ok (.invokevirtual 171, 3) := by decide +kernel
theorem dX5_shape_74 : decode cX5_shape 74 = .ok (.ireturn, 1) := by decide +kernel
theorem dX5_shape_75 : decode cX5_shape 75 = .ok (.aload_n 0, 1) := by decide +kernel
theorem dX5_shape_76 : decode cX5_shape 76 = .ok (.lload_n 2, 1) := by decide +kernel
theorem dX5_shape_77 : decode cX5_shape 77 = .ok (.invokevirtual 174, 3) := by decide +kernel
theorem dX5_shape_80 : decode cX5_shape 80 = .ok (.ireturn, 1) := by decide +kernel
theorem dX5_shape_81 : decode cX5_shape 81 = .ok (.aload_n 0, 1) := by decide +kernel
theorem dX5_shape_82 : decode cX5_shape 82 = .ok (.lload_n 2, 1) := by decide +kernel
theorem dX5_shape_83 : decode cX5_shape 83 = .ok (.iload_n 1, 1) := by decide +kernel
theorem dX5_shape_84 : decode cX5_shape 84 = .ok (.invokevirtual 177, 3) := by decide +kernel
theorem dX5_shape_87 : decode cX5_shape 87 = .ok (.ireturn, 1) := by decide +kernel
set_option maxRecDepth 20000 in
theorem ggX5_learnsOnce_X5_sideOf : GoodIn wsX5_learnsOnce wsX5_sideOf := goodIn_r _ [6, 7, 8, 9, 5, 10, 11, 12, 13, 14, 1, 15, 16, 17, 18, 19, 20, 21, 22, 23, 24, 25, 26, 27, 28, 29, 30, 31, 32, 33, 34, 35, 36, 37, 38, 39, 40, 41, 42, 43, 44, 45, 46, 47, 48, 49, 50, 51, 52, 53, 54, 55, 56, 57, 58, 59, 60, 61, 62, 63, 64, 65, 66, 67, 68, 69, 70, 71, 72, 73, 74, 75, 76, 77, 85, 86, 87, 88, 89, 90, 91, 92, 93, 94, 95, 96, 97, 98, 99] (by decide +kernel) (by decide +kernel)
set_option maxRecDepth 20000 in
theorem gX5_learnsOnce_X5_sideOf : GoodIn wsX5_learnsOnce (wsV RX5 134 RX5 yX5_sideOf wsX5_sideOf) := goodIn_app (goodIn_of _ (by decide +kernel)) ggX5_learnsOnce_X5_sideOf
set_option maxRecDepth 20000 in
theorem ggX5_learnsOnce_X5_many : GoodIn wsX5_learnsOnce wsX5_many := goodIn_r _ [81, 26, 27, 28, 5, 29, 1, 82, 83, 84, 85, 86, 87, 88, 89, 90, 91, 92, 93, 94, 95, 96, 97, 98, 99] (by decide +kernel) (by decide +kernel)
set_option maxRecDepth 20000 in
theorem gX5_learnsOnce_X5_many : GoodIn wsX5_learnsOnce (wsV RX5 167 RX5 yX5_many wsX5_many) := goodIn_app (goodIn_of _ (by decide +kernel)) ggX5_learnsOnce_X5_many
set_option maxRecDepth 20000 in
theorem ggX5_learnsOnce_X5_dots : GoodIn wsX5_learnsOnce wsX5_dots := goodIn_r _ [29, 1, 85, 86, 87, 88, 89, 90, 91, 92, 93, 94, 95, 96, 97, 98, 99] (by decide +kernel) (by decide +kernel)
set_option maxRecDepth 20000 in
theorem gX5_learnsOnce_X5_dots : GoodIn wsX5_learnsOnce (wsV RX5 80 RX5 yX5_dots wsX5_dots) := goodIn_app (goodIn_of _ (by decide +kernel)) ggX5_learnsOnce_X5_dots
set_option maxRecDepth 20000 in
theorem ggX5_learnsOnce_X5_isIn : GoodIn wsX5_learnsOnce wsX5_isIn := goodIn_r _ [84] (by decide +kernel) (by decide +kernel)
set_option maxRecDepth 20000 in
theorem gX5_learnsOnce_X5_isIn : GoodIn wsX5_learnsOnce (va_wsS RX5 142 yX5_isIn wsX5_isIn) := goodIn_app (goodIn_of _ (by decide +kernel)) ggX5_learnsOnce_X5_isIn
theorem dX5_learnsOnce_0 : decode cX5_learnsOnce 0 = .ok (.aload_n 0, 1) := by decide +kernel
theorem dX5_learnsOnce_1 : decode cX5_learnsOnce 1 = .ok (.iconst 0, 1) := by decide +kernel
theorem dX5_learnsOnce_2 : decode cX5_learnsOnce 2 = .ok (.invokevirtual 134, 3) := by decide +kernel
theorem dX5_learnsOnce_5 : decode cX5_learnsOnce 5 = .ok (.lstore_n 1, 1) := by decide +kernel
theorem dX5_learnsOnce_6 : decode cX5_learnsOnce 6 = .ok (.iconst 0, 1) := by decide +kernel
theorem dX5_learnsOnce_7 : decode cX5_learnsOnce 7 = .ok (.istore_n 3, 1) := by decide +kernel
theorem dX5_learnsOnce_8 : decode cX5_learnsOnce 8 = .ok (.iconst 0, 1) := by decide +kernel
theorem dX5_learnsOnce_9 : decode cX5_learnsOnce 9 = .ok (.istore 4, 2) := by decide +kernel
theorem dX5_learnsOnce_11 : decode cX5_learnsOnce 11 = .ok (.aload_n 0, 1) := by decide +kernel
theorem dX5_learnsOnce_12 : decode cX5_learnsOnce 12 = .ok (.lload_n 1, 1) := by decide +kernel
theorem dX5_learnsOnce_13 : decode cX5_learnsOnce 13 = .ok (.invokevirtual 167, 3) := by decide +kernel
theorem dX5_learnsOnce_16 : decode cX5_learnsOnce 16 = .ok (.istore 5, 2) := by decide +kernel
theorem dX5_learnsOnce_18 : decode cX5_learnsOnce 18 = .ok (.iconst 0, 1) := by decide +kernel
theorem dX5_learnsOnce_19 : decode cX5_learnsOnce 19 = .ok (.istore 6, 2) := by decide +kernel
theorem dX5_learnsOnce_21 : decode cX5_learnsOnce 21 = .ok (.iload 6, 2) := by decide +kernel
theorem dX5_learnsOnce_23 : decode cX5_learnsOnce 23 = .ok (.aload_n 0, 1) := by decide +kernel
theorem dX5_learnsOnce_24 : decode cX5_learnsOnce 24 = .ok (.invokevirtual 80, 3) := by decide +kernel
theorem dX5_learnsOnce_27 : decode cX5_learnsOnce 27 = .ok (.if_icmp .ge 63, 3) := by decide +kernel
theorem dX5_learnsOnce_30 : decode cX5_learnsOnce 30 = .ok (.iload_n 3, 1) := by decide +kernel
theorem dX5_learnsOnce_31 : decode cX5_learnsOnce 31 = .ok (.lload_n 1, 1) := by decide +kernel
theorem dX5_learnsOnce_32 : decode cX5_learnsOnce 32 = .ok (.iload 6, 2) := by decide +kernel
theorem dX5_learnsOnce_34 : decode cX5_learnsOnce 34 = .ok (.invokestatic 142, 3) := by decide +kernel
theorem dX5_learnsOnce_37 : decode cX5_learnsOnce 37 = .ok (.ifCond .eq 16, 3) := by decide +kernel
theorem dX5_learnsOnce_40 : decode cX5_learnsOnce 40 = .ok (.aload_n 0, 1) := by decide +kernel
theorem dX5_learnsOnce_41 : decode cX5_learnsOnce 41 = .ok (.getfield 7, 3) := by decide +kernel
theorem dX5_learnsOnce_44 : decode cX5_learnsOnce 44 = .ok (.bipush 8, 2) := by decide +kernel
theorem dX5_learnsOnce_46 : decode cX5_learnsOnce 46 = .ok (.iload 6, 2) := by decide +kernel
theorem dX5_learnsOnce_48 : decode cX5_learnsOnce 48 = .ok (.iadd, 1) := by decide +kernel
theorem dX5_learnsOnce_49 : decode cX5_learnsOnce 49 = .ok (.iaload, 1) := by decide +kernel
theorem dX5_learnsOnce_50 : decode cX5_learnsOnce 50 = .ok (.goto 4, 3) := by decide +kernel
theorem dX5_learnsOnce_53 : decode cX5_learnsOnce 53 = .ok (.iconst 0, 1) := by decide +kernel
theorem dX5_learnsOnce_54 : decode cX5_learnsOnce 54 = .ok (.iadd, 1) := by decide +kernel
theorem dX5_learnsOnce_55 : decode cX5_learnsOnce 55 = .ok (.istore_n 3, 1) := by decide +kernel
theorem dX5_learnsOnce_56 : decode cX5_learnsOnce 56 = .ok (.iload 4, 2) := by decide +kernel
theorem dX5_learnsOnce_58 : decode cX5_learnsOnce 58 = .ok (.lload_n 1, 1) := by decide +kernel
theorem dX5_learnsOnce_59 : decode cX5_learnsOnce 59 = .ok (.iload 6, 2) := by decide +kernel
theorem dX5_learnsOnce_61 : decode cX5_learnsOnce 61 = .ok (.invokestatic 142, 3) := by decide +kernel
theorem dX5_learnsOnce_64 : decode cX5_learnsOnce 64 = .ok (.ifCond .eq 7, 3) := by decide +kernel
theorem dX5_learnsOnce_67 : decode cX5_learnsOnce 67 = .ok (.iconst 0, 1) := by decide +kernel
theorem dX5_learnsOnce_68 : decode cX5_learnsOnce 68 = .ok (.goto 13, 3) := by decide +kernel
theorem dX5_learnsOnce_71 : decode cX5_learnsOnce 71 = .ok (.aload_n 0, 1) := by decide +kernel
theorem dX5_learnsOnce_72 : decode cX5_learnsOnce 72 = .ok (.getfield 7, 3) := by decide +kernel
theorem dX5_learnsOnce_75 : decode cX5_learnsOnce 75 = .ok (.bipush 8, 2) := by decide +kernel
theorem dX5_learnsOnce_77 : decode cX5_learnsOnce 77 = .ok (.iload 6, 2) := by decide +kernel
theorem dX5_learnsOnce_79 : decode cX5_learnsOnce 79 = .ok (.iadd, 1) := by decide +kernel
theorem dX5_learnsOnce_80 : decode cX5_learnsOnce 80 = .ok (.iaload, 1) := by decide +kernel
theorem dX5_learnsOnce_81 : decode cX5_learnsOnce 81 = .ok (.iadd, 1) := by decide +kernel
theorem dX5_learnsOnce_82 : decode cX5_learnsOnce 82 = .ok (.istore 4, 2) := by decide +kernel
theorem dX5_learnsOnce_84 : decode cX5_learnsOnce 84 = .ok (.iinc 6 1, 3) := by decide +kernel
theorem dX5_learnsOnce_87 : decode cX5_learnsOnce 87 = .ok (.goto (-66), 3) := by decide +kernel
theorem dX5_learnsOnce_90 : decode cX5_learnsOnce 90 = .ok (.iload 5, 2) := by decide +kernel
theorem dX5_learnsOnce_92 : decode cX5_learnsOnce 92 = .ok (.ifCond .le 10, 3) := by decide +kernel
theorem dX5_learnsOnce_95 : decode cX5_learnsOnce 95 = .ok (.iload_n 3, 1) := by decide +kernel
theorem dX5_learnsOnce_96 : decode cX5_learnsOnce 96 = .ok (.iload 5, 2) := by decide +kernel
theorem dX5_learnsOnce_98 : decode cX5_learnsOnce 98 = .ok (.idiv, 1) := by decide +kernel
theorem dX5_learnsOnce_99 : decode cX5_learnsOnce 99 = .ok (.goto 9, 3) := by decide +kernel
theorem dX5_learnsOnce_102 : decode cX5_learnsOnce 102 = .ok (.aload_n 0, 1) := by decide +kernel
theorem dX5_learnsOnce_103 : decode cX5_learnsOnce 103 = .ok (.getfield 7, 3) := by decide +kernel
theorem dX5_learnsOnce_106 : decode cX5_learnsOnce 106 = .ok (.iconst 5, 1) := by decide +kernel
theorem dX5_learnsOnce_107 : decode cX5_learnsOnce 107 = .ok (.iaload, 1) := by decide +kernel
theorem dX5_learnsOnce_108 : decode cX5_learnsOnce 108 = .ok (.istore 6, 2) := by decide +kernel
theorem dX5_learnsOnce_110 : decode cX5_learnsOnce 110 = .ok (.iload 5, 2) := by decide +kernel
theorem dX5_learnsOnce_112 : decode cX5_learnsOnce 112 = .ok (.aload_n 0, 1) := by decide +kernel
theorem dX5_learnsOnce_113 : decode cX5_learnsOnce 113 = .ok (.invokevirtual 80, 3) := by decide +kernel
theorem dX5_learnsOnce_116 : decode cX5_learnsOnce 116 = .ok (.if_icmp .ge 16, 3) := by decide +kernel
theorem dX5_learnsOnce_119 : decode cX5_learnsOnce 119 = .ok (.iload 4, 2) := by decide +kernel
theorem dX5_learnsOnce_121 : decode cX5_learnsOnce 121 = .ok (.aload_n 0, 1) := by decide +kernel
theorem dX5_learnsOnce_122 : decode cX5_learnsOnce 122 = .ok (.invokevirtual 80, 3) := by decide +kernel
theorem dX5_learnsOnce_125 : decode cX5_learnsOnce 125 = .ok (.iload 5, 2) := by decide +kernel
theorem dX5_learnsOnce_127 : decode cX5_learnsOnce 127 = .ok (.isub, 1) := by decide +kernel
theorem dX5_learnsOnce_128 : decode cX5_learnsOnce 128 = .ok (.idiv, 1) := by decide +kernel
theorem dX5_learnsOnce_129 : decode cX5_learnsOnce 129 = .ok (.goto 10, 3) := by decide +kernel
theorem dX5_learnsOnce_132 : decode cX5_learnsOnce 132 = .ok (.aload_n 0, 1) := by decide +kernel
theorem dX5_learnsOnce_133 : decode cX5_learnsOnce 133 = .ok (.getfield 7, 3) := by decide +kernel
theorem dX5_learnsOnce_136 : decode cX5_learnsOnce 136 = .ok (.bipush 6, 2) := by decide +kernel
theorem dX5_learnsOnce_138 : decode cX5_learnsOnce 138 = .ok (.iaload, 1) := by decide +kernel
theorem dX5_learnsOnce_139 : decode cX5_learnsOnce 139 = .ok (.istore 7, 2) := by decide +kernel
theorem dX5_learnsOnce_141 : decode cX5_learnsOnce 141 = .ok (.iload 6, 2) := by decide +kernel
theorem dX5_learnsOnce_143 : decode cX5_learnsOnce 143 = .ok (.aload_n 0, 1) := by decide +kernel
theorem dX5_learnsOnce_144 : decode cX5_learnsOnce 144 = .ok (.getfield 7, 3) := by decide +kernel
theorem dX5_learnsOnce_147 : decode cX5_learnsOnce 147 = .ok (.iconst 5, 1) := by decide +kernel
theorem dX5_learnsOnce_148 : decode cX5_learnsOnce 148 = .ok (.iaload, 1) := by decide +kernel
theorem dX5_learnsOnce_149 : decode cX5_learnsOnce 149 = .ok (.if_icmp .ne 15, 3) := by decide +kernel
theorem dX5_learnsOnce_152 : decode cX5_learnsOnce 152 = .ok (.iload 7, 2) := by decide +kernel
theorem dX5_learnsOnce_154 : decode cX5_learnsOnce 154 = .ok (.aload_n 0, 1) := by decide +kernel
theorem dX5_learnsOnce_155 : decode cX5_learnsOnce 155 = .ok (.getfield 7, 3) := by decide +kernel
theorem dX5_learnsOnce_158 : decode cX5_learnsOnce 158 = .ok (.bipush 6, 2) := by decide +kernel
theorem dX5_learnsOnce_160 : decode cX5_learnsOnce 160 = .ok (.iaload, 1) := by decide +kernel
theorem dX5_learnsOnce_161 : decode cX5_learnsOnce 161 = .ok (.if_icmp .eq 7, 3) := by decide +kernel
theorem dX5_learnsOnce_164 : decode cX5_learnsOnce 164 = .ok (.iconst 1, 1) := by decide +kernel
theorem dX5_learnsOnce_165 : decode cX5_learnsOnce 165 = .ok (.goto 4, 3) := by decide +kernel
theorem dX5_learnsOnce_168 : decode cX5_learnsOnce 168 = .ok (.iconst 0, 1) := by decide +kernel
theorem dX5_learnsOnce_169 : decode cX5_learnsOnce 169 = .ok (.istore 8, 2) := by decide +kernel
theorem dX5_learnsOnce_171 : decode cX5_learnsOnce 171 = .ok (.aload_n 0, 1) := by decide +kernel
theorem dX5_learnsOnce_172 : decode cX5_learnsOnce 172 = .ok (.getfield 7, 3) := by decide +kernel
theorem dX5_learnsOnce_175 : decode cX5_learnsOnce 175 = .ok (.iconst 5, 1) := by decide +kernel
theorem dX5_learnsOnce_176 : decode cX5_learnsOnce 176 = .ok (.iload 6, 2) := by decide +kernel
theorem dX5_learnsOnce_178 : decode cX5_learnsOnce 178 = .ok (.iastore, 1) := by decide +kernel
theorem dX5_learnsOnce_179 : decode cX5_learnsOnce 179 = .ok (.aload_n 0, 1) := by decide +kernel
theorem dX5_learnsOnce_180 : decode cX5_learnsOnce 180 = .ok (.getfield 7, 3) := by decide +kernel
theorem dX5_learnsOnce_183 : decode cX5_learnsOnce 183 = .ok (.bipush 6, 2) := by decide +kernel
theorem dX5_learnsOnce_185 : decode cX5_learnsOnce 185 = .ok (.iload 7, 2) := by decide +kernel
theorem dX5_learnsOnce_187 : decode cX5_learnsOnce 187 = .ok (.iastore, 1) := by decide +kernel
theorem dX5_learnsOnce_188 : decode cX5_learnsOnce 188 = .ok (.iload 8, 2) := by decide +kernel
theorem dX5_learnsOnce_190 : decode cX5_learnsOnce 190 = .ok (.ireturn, 1) := by decide +kernel
set_option maxRecDepth 20000 in
theorem ggX5_learnsAll_X5_learnsOnce : GoodIn wsX5_learnsAll wsX5_learnsOnce := goodIn_r _ [5, 6, 7, 8, 9, 4, 10, 11, 12, 13, 14, 15, 16, 17, 18, 19, 20, 21, 22, 23, 24, 25, 26, 27, 28, 29, 30, 31, 32, 33, 34, 35, 36, 37, 38, 39, 40, 41, 42, 43, 44, 45, 46, 47, 48, 49, 50, 51, 52, 53, 54, 55, 56, 57, 58, 59, 60, 61, 62, 63, 64, 65, 66, 67, 68, 69, 70, 71, 72, 73, 74, 75, 76, 77, 78, 79, 80, 81, 82, 83, 84, 85, 86, 87, 88, 89, 90, 91, 92, 93, 94, 95, 96, 97, 98, 99, 100, 101, 102, 103] (by decide +kernel) (by decide +kernel)
set_option maxRecDepth 20000 in
theorem gX5_learnsAll_X5_learnsOnce : GoodIn wsX5_learnsAll (wsV RX5 181 RX5 yX5_learnsOnce wsX5_learnsOnce) := goodIn_app (goodIn_of _ (by decide +kernel)) ggX5_learnsAll_X5_learnsOnce
theorem dX5_learnsAll_0 : decode cX5_learnsAll 0 = .ok (.iconst 0, 1) := by decide +kernel
theorem dX5_learnsAll_1 : decode cX5_learnsAll 1 = .ok (.istore_n 2, 1) := by decide +kernel
theorem dX5_learnsAll_2 : decode cX5_learnsAll 2 = .ok (.iload_n 2, 1) := by decide +kernel
theorem dX5_learnsAll_3 : decode cX5_learnsAll 3 = .ok (.iload_n 1, 1) := by decide +kernel
theorem dX5_learnsAll_4 : decode cX5_learnsAll 4 = .ok (.if_icmp .ge 16, 3) := by decide +kernel
theorem dX5_learnsAll_7 : decode cX5_learnsAll 7 = .ok (.aload_n 0, 1) := by decide +kernel
theorem dX5_learnsAll_8 : decode cX5_learnsAll 8 = .ok (.invokevirtual 181, 3) := by decide +kernel
theorem dX5_learnsAll_11 : decode cX5_learnsAll 11 = .ok (.ifCond .eq 9, 3) := by decide +kernel
theorem dX5_learnsAll_14 : decode cX5_learnsAll 14 = .ok (.iinc 2 1, 3) := by decide +kernel
theorem dX5_learnsAll_17 : decode cX5_learnsAll 17 = .ok (.goto (-15), 3) := by decide +kernel
theorem dX5_learnsAll_20 : decode cX5_learnsAll 20 = .ok (.iload_n 2, 1) := by decide +kernel
theorem dX5_learnsAll_21 : decode cX5_learnsAll 21 = .ok (.ireturn, 1) := by decide +kernel
set_option maxRecDepth 20000 in
theorem ggX5_learns_X5_in : GoodIn wsX5_learns wsX5_in := goodIn_r _ [4] (by decide +kernel) (by decide +kernel)
set_option maxRecDepth 20000 in
theorem gX5_learns_X5_in : GoodIn wsX5_learns (va_wsS RX5 41 yX5_in wsX5_in) := goodIn_app (goodIn_of _ (by decide +kernel)) ggX5_learns_X5_in
set_option maxRecDepth 20000 in
theorem ggX5_learns_X5_bad : GoodIn wsX5_learns wsX5_bad := goodIn_r _ [8, 9, 104, 105, 106, 107, 108, 109, 110, 111, 112, 113, 114, 115, 116, 117, 118] (by decide +kernel) (by decide +kernel)
set_option maxRecDepth 20000 in
theorem gX5_learns_X5_bad : GoodIn wsX5_learns (wsV RX5 107 RX5 yX5_bad wsX5_bad) := goodIn_app (goodIn_of _ (by decide +kernel)) ggX5_learns_X5_bad
set_option maxRecDepth 20000 in
theorem ggX5_learns_X5_leaves : GoodIn wsX5_learns wsX5_leaves := goodIn_r _ [13, 14, 15, 16, 17, 18, 3, 19, 104, 105, 106, 107, 108, 109, 110, 111, 112, 113, 114, 115, 116, 117, 118] (by decide +kernel) (by decide +kernel)
set_option maxRecDepth 20000 in
theorem gX5_learns_X5_leaves : GoodIn wsX5_learns (wsV RX5 110 RX5 yX5_leaves wsX5_leaves) := goodIn_app (goodIn_of _ (by decide +kernel)) ggX5_learns_X5_leaves
set_option maxRecDepth 20000 in
theorem ggX5_learns_X5_learnsAll : GoodIn wsX5_learns wsX5_learnsAll := goodIn_r _ [23, 24, 25, 26, 3, 27, 16, 28, 29, 30, 31, 32, 33, 34, 35, 36, 37, 38, 39, 40, 17, 18, 19, 41, 42, 43, 44, 45, 46, 47, 48, 49, 50, 51, 52, 53, 54, 55, 56, 57, 58, 59, 60, 61, 62, 63, 64, 65, 66, 67, 68, 69, 70, 71, 72, 73, 74, 75, 76, 77, 78, 79, 80, 81, 82, 83, 84, 1, 2, 4, 85, 86, 87, 88, 89, 90, 91, 92, 93, 94, 95, 96, 97, 98, 99, 100, 101, 102, 103, 104, 105, 106, 107, 108, 109, 110, 111, 112, 113, 114, 115, 116, 117, 118] (by decide +kernel) (by decide +kernel)
set_option maxRecDepth 20000 in
theorem gX5_learns_X5_learnsAll : GoodIn wsX5_learns (wsV RX5 185 RX5 yX5_learnsAll wsX5_learnsAll) := goodIn_app (goodIn_of _ (by decide +kernel)) ggX5_learns_X5_learnsAll
theorem dX5_learns_0 : decode cX5_learns 0 = .ok (.iload_n 1, 1) := by decide +kernel
theorem dX5_learns_1 : decode cX5_learns 1 = .ok (.iconst 1, 1) := by decide +kernel
theorem dX5_learns_2 : decode cX5_learns 2 = .ok (.bipush 20, 2) := by decide +kernel
theorem dX5_learns_4 : decode cX5_learns 4 = .ok (.invokestatic 41, 3) := by decide +kernel
theorem dX5_learns_7 : decode cX5_learns 7 = .ok (.ifCond .ne 8, 3) := by decide +kernel
theorem dX5_learns_10 : decode cX5_learns 10 = .ok (.aload_n 0, 1) := by decide +kernel
theorem dX5_learns_11 : decode cX5_learns 11 = .ok (.invokevirtual 107, 3) := by decide +kernel
theorem dX5_learns_14 : decode cX5_learns 14 = .ok (.ireturn, 1) := by decide +kernel
theorem dX5_learns_15 : decode cX5_learns 15 = .ok (.aload_n 0, 1) := by decide +kernel
theorem dX5_learns_16 : decode cX5_learns 16 = .ok (.invokevirtual 110, 3) := by decide +kernel
theorem dX5_learns_19 : decode cX5_learns 19 = .ok (.aload_n 0, 1) := by decide +kernel
theorem dX5_learns_20 : decode cX5_learns 20 = .ok (.iload_n 1, 1) := by decide +kernel
theorem dX5_learns_21 : decode cX5_learns 21 = .ok (.invokevirtual 185, 3) := by decide +kernel
theorem dX5_learns_24 : decode cX5_learns 24 = .ok (.ireturn, 1) := by decide +kernel
set_option maxRecDepth 20000 in
theorem ggX5_keeps_X5_sideOf : GoodIn wsX5_keeps wsX5_sideOf := goodIn_r _ [6, 7, 8, 9, 5, 10, 11, 12, 13, 14, 1, 15, 16, 17, 18, 19, 20, 21, 22, 23, 24, 25, 26, 27, 28, 29, 30, 31, 32, 33, 34, 35, 36, 37, 38, 39, 40, 41, 42, 43, 44, 45, 46, 47, 48, 49, 50, 51, 52, 53, 54, 55, 56, 57, 58, 59, 60, 61, 62, 63, 64, 65, 66, 67, 68, 69, 70, 71, 72, 73, 74, 75, 76, 77, 87, 88, 89, 90, 91, 92, 93, 94, 95, 96, 97, 98, 99, 100, 101] (by decide +kernel) (by decide +kernel)
set_option maxRecDepth 20000 in
theorem gX5_keeps_X5_sideOf : GoodIn wsX5_keeps (wsV RX5 134 RX5 yX5_sideOf wsX5_sideOf) := goodIn_app (goodIn_of _ (by decide +kernel)) ggX5_keeps_X5_sideOf
set_option maxRecDepth 20000 in
theorem ggX5_keeps_X5_leaves : GoodIn wsX5_keeps wsX5_leaves := goodIn_r _ [81, 82, 83, 1, 16, 17, 5, 18, 87, 88, 89, 90, 91, 92, 93, 94, 95, 96, 97, 98, 99, 100, 101] (by decide +kernel) (by decide +kernel)
set_option maxRecDepth 20000 in
theorem gX5_keeps_X5_leaves : GoodIn wsX5_keeps (wsV RX5 110 RX5 yX5_leaves wsX5_leaves) := goodIn_app (goodIn_of _ (by decide +kernel)) ggX5_keeps_X5_leaves
set_option maxRecDepth 20000 in
theorem ggX5_keeps_X5_dots : GoodIn wsX5_keeps wsX5_dots := goodIn_r _ [29, 1, 87, 88, 89, 90, 91, 92, 93, 94, 95, 96, 97, 98, 99, 100, 101] (by decide +kernel) (by decide +kernel)
set_option maxRecDepth 20000 in
theorem gX5_keeps_X5_dots : GoodIn wsX5_keeps (wsV RX5 80 RX5 yX5_dots wsX5_dots) := goodIn_app (goodIn_of _ (by decide +kernel)) ggX5_keeps_X5_dots
set_option maxRecDepth 20000 in
theorem ggX5_keeps_X5_isIn : GoodIn wsX5_keeps wsX5_isIn := goodIn_r _ [86] (by decide +kernel) (by decide +kernel)
set_option maxRecDepth 20000 in
theorem gX5_keeps_X5_isIn : GoodIn wsX5_keeps (va_wsS RX5 142 yX5_isIn wsX5_isIn) := goodIn_app (goodIn_of _ (by decide +kernel)) ggX5_keeps_X5_isIn
theorem dX5_keeps_0 : decode cX5_keeps 0 = .ok (.aload_n 0, 1) := by decide +kernel
theorem dX5_keeps_1 : decode cX5_keeps 1 = .ok (.iconst 0, 1) := by decide +kernel
theorem dX5_keeps_2 : decode cX5_keeps 2 = .ok (.invokevirtual 134, 3) := by decide +kernel
theorem dX5_keeps_5 : decode cX5_keeps 5 = .ok (.lstore_n 1, 1) := by decide +kernel
theorem dX5_keeps_6 : decode cX5_keeps 6 = .ok (.iconst 0, 1) := by decide +kernel
theorem dX5_keeps_7 : decode cX5_keeps 7 = .ok (.istore_n 3, 1) := by decide +kernel
theorem dX5_keeps_8 : decode cX5_keeps 8 = .ok (.aload_n 0, 1) := by decide +kernel
theorem dX5_keeps_9 : decode cX5_keeps 9 = .ok (.invokevirtual 110, 3) := by decide +kernel
theorem dX5_keeps_12 : decode cX5_keeps 12 = .ok (.iconst 0, 1) := by decide +kernel
theorem dX5_keeps_13 : decode cX5_keeps 13 = .ok (.istore 4, 2) := by decide +kernel
theorem dX5_keeps_15 : decode cX5_keeps 15 = .ok (.iload 4, 2) := by decide +kernel
theorem dX5_keeps_17 : decode cX5_keeps 17 = .ok (.aload_n 0, 1) := by decide +kernel
theorem dX5_keeps_18 : decode cX5_keeps 18 = .ok (.invokevirtual 80, 3) := by decide +kernel
theorem dX5_keeps_21 : decode cX5_keeps 21 = .ok (.if_icmp .ge 49, 3) := by decide +kernel
theorem dX5_keeps_24 : decode cX5_keeps 24 = .ok (.aload_n 0, 1) := by decide +kernel
theorem dX5_keeps_25 : decode cX5_keeps 25 = .ok (.getfield 7, 3) := by decide +kernel
theorem dX5_keeps_28 : decode cX5_keeps 28 = .ok (.bipush 44, 2) := by decide +kernel
theorem dX5_keeps_30 : decode cX5_keeps 30 = .ok (.iload 4, 2) := by decide +kernel
theorem dX5_keeps_32 : decode cX5_keeps 32 = .ok (.iadd, 1) := by decide +kernel
theorem dX5_keeps_33 : decode cX5_keeps 33 = .ok (.iaload, 1) := by decide +kernel
theorem dX5_keeps_34 : decode cX5_keeps 34 = .ok (.ifCond .ne 30, 3) := by decide +kernel
theorem dX5_keeps_37 : decode cX5_keeps 37 = .ok (.aload_n 0, 1) := by decide +kernel
theorem dX5_keeps_38 : decode cX5_keeps 38 = .ok (.getfield 7, 3) := by decide +kernel
theorem dX5_keeps_41 : decode cX5_keeps 41 = .ok (.bipush 44, 2) := by decide +kernel
theorem dX5_keeps_43 : decode cX5_keeps 43 = .ok (.iload 4, 2) := by decide +kernel
theorem dX5_keeps_45 : decode cX5_keeps 45 = .ok (.iadd, 1) := by decide +kernel
theorem dX5_keeps_46 : decode cX5_keeps 46 = .ok (.lload_n 1, 1) := by decide +kernel
theorem dX5_keeps_47 : decode cX5_keeps 47 = .ok (.iload 4, 2) := by decide +kernel
theorem dX5_keeps_49 : decode cX5_keeps 49 = .ok (.invokestatic 142, 3) := by decide +kernel
theorem dX5_keeps_52 : decode cX5_keeps 52 = .ok (.ifCond .eq 7, 3) := by decide +kernel
theorem dX5_keeps_55 : decode cX5_keeps 55 = .ok (.iconst 1, 1) := by decide +kernel
theorem dX5_keeps_56 : decode cX5_keeps 56 = .ok (.goto 4, 3) := by decide +kernel
theorem dX5_keeps_59 : decode cX5_keeps 59 = .ok (.iconst 2, 1) := by decide +kernel
theorem dX5_keeps_60 : decode cX5_keeps 60 = .ok (.iastore, 1) := by decide +kernel
theorem dX5_keeps_61 : decode cX5_keeps 61 = .ok (.iinc 3 1, 3) := by decide +kernel
theorem dX5_keeps_64 : decode cX5_keeps 64 = .ok (.iinc 4 1, 3) := by decide +kernel
theorem dX5_keeps_67 : decode cX5_keeps 67 = .ok (.goto (-52), 3) := by decide +kernel
theorem dX5_keeps_70 : decode cX5_keeps 70 = .ok (.iload_n 3, 1) := by decide +kernel
theorem dX5_keeps_71 : decode cX5_keeps 71 = .ok (.ireturn, 1) := by decide +kernel
set_option maxRecDepth 20000 in
theorem ggX5_turns_X5_leaves : GoodIn wsX5_turns wsX5_leaves := goodIn_r _ [6, 7, 8, 1, 9, 10, 5, 11, 16, 17, 18, 19, 20, 21, 22, 23, 24, 25, 26, 27, 28, 29, 30] (by decide +kernel) (by decide +kernel)
set_option maxRecDepth 20000 in
theorem gX5_turns_X5_leaves : GoodIn wsX5_turns (wsV RX5 110 RX5 yX5_leaves wsX5_leaves) := goodIn_app (goodIn_of _ (by decide +kernel)) ggX5_turns_X5_leaves
set_option maxRecDepth 20000 in
theorem ggX5_turns_X5_dots : GoodIn wsX5_turns wsX5_dots := goodIn_r _ [15, 1, 16, 17, 18, 19, 20, 21, 22, 23, 24, 25, 26, 27, 28, 29, 30] (by decide +kernel) (by decide +kernel)
set_option maxRecDepth 20000 in
theorem gX5_turns_X5_dots : GoodIn wsX5_turns (wsV RX5 80 RX5 yX5_dots wsX5_dots) := goodIn_app (goodIn_of _ (by decide +kernel)) ggX5_turns_X5_dots
theorem dX5_turns_0 : decode cX5_turns 0 = .ok (.aload_n 0, 1) := by decide +kernel
theorem dX5_turns_1 : decode cX5_turns 1 = .ok (.invokevirtual 110, 3) := by decide +kernel
theorem dX5_turns_4 : decode cX5_turns 4 = .ok (.iconst 0, 1) := by decide +kernel
theorem dX5_turns_5 : decode cX5_turns 5 = .ok (.istore_n 1, 1) := by decide +kernel
theorem dX5_turns_6 : decode cX5_turns 6 = .ok (.iconst 0, 1) := by decide +kernel
theorem dX5_turns_7 : decode cX5_turns 7 = .ok (.istore_n 2, 1) := by decide +kernel
theorem dX5_turns_8 : decode cX5_turns 8 = .ok (.iload_n 2, 1) := by decide +kernel
theorem dX5_turns_9 : decode cX5_turns 9 = .ok (.aload_n 0, 1) := by decide +kernel
theorem dX5_turns_10 : decode cX5_turns 10 = .ok (.invokevirtual 80, 3) := by decide +kernel
theorem dX5_turns_13 : decode cX5_turns 13 = .ok (.if_icmp .ge 51, 3) := by decide +kernel
theorem dX5_turns_16 : decode cX5_turns 16 = .ok (.aload_n 0, 1) := by decide +kernel
theorem dX5_turns_17 : decode cX5_turns 17 = .ok (.getfield 7, 3) := by decide +kernel
theorem dX5_turns_20 : decode cX5_turns 20 = .ok (.bipush 44, 2) := by decide +kernel
theorem dX5_turns_22 : decode cX5_turns 22 = .ok (.iload_n 2, 1) := by decide +kernel
theorem dX5_turns_23 : decode cX5_turns 23 = .ok (.iadd, 1) := by decide +kernel
theorem dX5_turns_24 : decode cX5_turns 24 = .ok (.iaload, 1) := by decide +kernel
theorem dX5_turns_25 : decode cX5_turns 25 = .ok (.istore_n 3, 1) := by decide +kernel
theorem dX5_turns_26 : decode cX5_turns 26 = .ok (.aload_n 0, 1) := by decide +kernel
theorem dX5_turns_27 : decode cX5_turns 27 = .ok (.getfield 7, 3) := by decide +kernel
theorem dX5_turns_30 : decode cX5_turns 30 = .ok (.bipush 44, 2) := by decide +kernel
theorem dX5_turns_32 : decode cX5_turns 32 = .ok (.iload_n 2, 1) := by decide +kernel
theorem dX5_turns_33 : decode cX5_turns 33 = .ok (.iadd, 1) := by decide +kernel
theorem dX5_turns_34 : decode cX5_turns 34 = .ok (.iload_n 3, 1) := by decide +kernel
theorem dX5_turns_35 : decode cX5_turns 35 = .ok (.ifCond .ne 7, 3) := by decide +kernel
theorem dX5_turns_38 : decode cX5_turns 38 = .ok (.iconst 0, 1) := by decide +kernel
theorem dX5_turns_39 : decode cX5_turns 39 = .ok (.goto 6, 3) := by decide +kernel
theorem dX5_turns_42 : decode cX5_turns 42 = .ok (.iconst 3, 1) := by decide +kernel
theorem dX5_turns_43 : decode cX5_turns 43 = .ok (.iload_n 3, 1) := by decide +kernel
theorem dX5_turns_44 : decode cX5_turns 44 = .ok (.isub, 1) := by decide +kernel
theorem dX5_turns_45 : decode cX5_turns 45 = .ok (.iastore, 1) := by decide +kernel
theorem dX5_turns_46 : decode cX5_turns 46 = .ok (.iload_n 1, 1) := by decide +kernel
theorem dX5_turns_47 : decode cX5_turns 47 = .ok (.iload_n 3, 1) := by decide +kernel
theorem dX5_turns_48 : decode cX5_turns 48 = .ok (.ifCond .ne 7, 3) := by decide +kernel
theorem dX5_turns_51 : decode cX5_turns 51 = .ok (.iconst 0, 1) := by decide +kernel
theorem dX5_turns_52 : decode cX5_turns 52 = .ok (.goto 4, 3) := by decide +kernel
theorem dX5_turns_55 : decode cX5_turns 55 = .ok (.iconst 1, 1) := by decide +kernel
theorem dX5_turns_56 : decode cX5_turns 56 = .ok (.iadd, 1) := by decide +kernel
theorem dX5_turns_57 : decode cX5_turns 57 = .ok (.istore_n 1, 1) := by decide +kernel
theorem dX5_turns_58 : decode cX5_turns 58 = .ok (.iinc 2 1, 3) := by decide +kernel
theorem dX5_turns_61 : decode cX5_turns 61 = .ok (.goto (-53), 3) := by decide +kernel
theorem dX5_turns_64 : decode cX5_turns 64 = .ok (.aload_n 0, 1) := by decide +kernel
theorem dX5_turns_65 : decode cX5_turns 65 = .ok (.getfield 7, 3) := by decide +kernel
theorem dX5_turns_68 : decode cX5_turns 68 = .ok (.iconst 5, 1) := by decide +kernel
theorem dX5_turns_69 : decode cX5_turns 69 = .ok (.iaload, 1) := by decide +kernel
theorem dX5_turns_70 : decode cX5_turns 70 = .ok (.istore_n 2, 1) := by decide +kernel
theorem dX5_turns_71 : decode cX5_turns 71 = .ok (.aload_n 0, 1) := by decide +kernel
theorem dX5_turns_72 : decode cX5_turns 72 = .ok (.getfield 7, 3) := by decide +kernel
theorem dX5_turns_75 : decode cX5_turns 75 = .ok (.iconst 5, 1) := by decide +kernel
theorem dX5_turns_76 : decode cX5_turns 76 = .ok (.aload_n 0, 1) := by decide +kernel
theorem dX5_turns_77 : decode cX5_turns 77 = .ok (.getfield 7, 3) := by decide +kernel
theorem dX5_turns_80 : decode cX5_turns 80 = .ok (.bipush 6, 2) := by decide +kernel
theorem dX5_turns_82 : decode cX5_turns 82 = .ok (.iaload, 1) := by decide +kernel
theorem dX5_turns_83 : decode cX5_turns 83 = .ok (.iastore, 1) := by decide +kernel
theorem dX5_turns_84 : decode cX5_turns 84 = .ok (.aload_n 0, 1) := by decide +kernel
theorem dX5_turns_85 : decode cX5_turns 85 = .ok (.getfield 7, 3) := by decide +kernel
theorem dX5_turns_88 : decode cX5_turns 88 = .ok (.bipush 6, 2) := by decide +kernel
theorem dX5_turns_90 : decode cX5_turns 90 = .ok (.iload_n 2, 1) := by decide +kernel
theorem dX5_turns_91 : decode cX5_turns 91 = .ok (.iastore, 1) := by decide +kernel
theorem dX5_turns_92 : decode cX5_turns 92 = .ok (.iload_n 1, 1) := by decide +kernel
theorem dX5_turns_93 : decode cX5_turns 93 = .ok (.ireturn, 1) := by decide +kernel
set_option maxRecDepth 20000 in
theorem ggX5_type_X5_in : GoodIn wsX5_type wsX5_in := goodIn_r _ [6] (by decide +kernel) (by decide +kernel)
set_option maxRecDepth 20000 in
theorem gX5_type_X5_in : GoodIn wsX5_type (va_wsS RX5 41 yX5_in wsX5_in) := goodIn_app (goodIn_of _ (by decide +kernel)) ggX5_type_X5_in
set_option maxRecDepth 20000 in
theorem ggX5_type_X5_bad : GoodIn wsX5_type wsX5_bad := goodIn_r _ [10, 11, 16, 17, 18, 19, 20, 21, 22, 23, 24, 25, 26, 27, 28, 29, 30] (by decide +kernel) (by decide +kernel)
set_option maxRecDepth 20000 in
theorem gX5_type_X5_bad : GoodIn wsX5_type (wsV RX5 107 RX5 yX5_bad wsX5_bad) := goodIn_app (goodIn_of _ (by decide +kernel)) ggX5_type_X5_bad
set_option maxRecDepth 20000 in
theorem ggX5_type_X5_full : GoodIn wsX5_type wsX5_full := goodIn_r _ [15, 11, 16, 17, 18, 19, 20, 21, 22, 23, 24, 25, 26, 27, 28, 29, 30] (by decide +kernel) (by decide +kernel)
set_option maxRecDepth 20000 in
theorem gX5_type_X5_full : GoodIn wsX5_type (wsV RX5 192 RX5 yX5_full wsX5_full) := goodIn_app (goodIn_of _ (by decide +kernel)) ggX5_type_X5_full
theorem dX5_type_0 : decode cX5_type 0 = .ok (.iload_n 1, 1) := by decide +kernel
theorem dX5_type_1 : decode cX5_type 1 = .ok (.iconst 0, 1) := by decide +kernel
theorem dX5_type_2 : decode cX5_type 2 = .ok (.bipush 127, 2) := by decide +kernel
theorem dX5_type_4 : decode cX5_type 4 = .ok (.invokestatic 41, 3) := by decide +kernel
theorem dX5_type_7 : decode cX5_type 7 = .ok (.ifCond .ne 8, 3) := by decide +kernel
theorem dX5_type_10 : decode cX5_type 10 = .ok (.aload_n 0, 1) := by decide +kernel
theorem dX5_type_11 : decode cX5_type 11 = .ok (.invokevirtual 107, 3) := by decide +kernel
theorem dX5_type_14 : decode cX5_type 14 = .ok (.ireturn, 1) := by decide +kernel
theorem dX5_type_15 : decode cX5_type 15 = .ok (.aload_n 0, 1) := by decide +kernel
theorem dX5_type_16 : decode cX5_type 16 = .ok (.getfield 189, 3) := by decide +kernel
theorem dX5_type_19 : decode cX5_type 19 = .ok (.bipush 100, 2) := by decide +kernel
theorem dX5_type_21 : decode cX5_type 21 = .ok (.if_icmp .ne 8, 3) := by decide +kernel
theorem dX5_type_24 : decode cX5_type 24 = .ok (.aload_n 0, 1) := by decide +kernel
theorem dX5_type_25 : decode cX5_type 25 = .ok (.invokevirtual 192, 3) := by decide +kernel
theorem dX5_type_28 : decode cX5_type 28 = .ok (.ireturn, 1) := by decide +kernel
theorem dX5_type_29 : decode cX5_type 29 = .ok (.aload_n 0, 1) := by decide +kernel
theorem dX5_type_30 : decode cX5_type 30 = .ok (.getfield 19, 3) := by decide +kernel
theorem dX5_type_33 : decode cX5_type 33 = .ok (.aload_n 0, 1) := by decide +kernel
theorem dX5_type_34 : decode cX5_type 34 = .ok (.getfield 189, 3) := by decide +kernel
theorem dX5_type_37 : decode cX5_type 37 = .ok (.iload_n 1, 1) := by decide +kernel
theorem dX5_type_38 : decode cX5_type 38 = .ok (.iastore, 1) := by decide +kernel
theorem dX5_type_39 : decode cX5_type 39 = .ok (.aload_n 0, 1) := by decide +kernel
theorem dX5_type_40 : decode cX5_type 40 = .ok (.dup, 1) := by decide +kernel
theorem dX5_type_41 : decode cX5_type 41 = .ok (.getfield 189, 3) := by decide +kernel
theorem dX5_type_44 : decode cX5_type 44 = .ok (.iconst 1, 1) := by decide +kernel
theorem dX5_type_45 : decode cX5_type 45 = .ok (.iadd, 1) := by decide +kernel
theorem dX5_type_46 : decode cX5_type 46 = .ok (.putfield 189, 3) := by decide +kernel
theorem dX5_type_49 : decode cX5_type 49 = .ok (.aload_n 0, 1) := by decide +kernel
theorem dX5_type_50 : decode cX5_type 50 = .ok (.getfield 189, 3) := by decide +kernel
theorem dX5_type_53 : decode cX5_type 53 = .ok (.ireturn, 1) := by decide +kernel
theorem dX5_clear_0 : decode cX5_clear 0 = .ok (.aload_n 0, 1) := by decide +kernel
theorem dX5_clear_1 : decode cX5_clear 1 = .ok (.getfield 189, 3) := by decide +kernel
theorem dX5_clear_4 : decode cX5_clear 4 = .ok (.istore_n 1, 1) := by decide +kernel
theorem dX5_clear_5 : decode cX5_clear 5 = .ok (.aload_n 0, 1) := by decide +kernel
theorem dX5_clear_6 : decode cX5_clear 6 = .ok (.iconst 0, 1) := by decide +kernel
theorem dX5_clear_7 : decode cX5_clear 7 = .ok (.putfield 189, 3) := by decide +kernel
theorem dX5_clear_10 : decode cX5_clear 10 = .ok (.iload_n 1, 1) := by decide +kernel
theorem dX5_clear_11 : decode cX5_clear 11 = .ok (.ireturn, 1) := by decide +kernel
theorem dX5_sign_0 : decode cX5_sign 0 = .ok (.aload_n 0, 1) := by decide +kernel
theorem dX5_sign_1 : decode cX5_sign 1 = .ok (.getfield 195, 3) := by decide +kernel
theorem dX5_sign_4 : decode cX5_sign 4 = .ok (.aload_n 0, 1) := by decide +kernel
theorem dX5_sign_5 : decode cX5_sign 5 = .ok (.getfield 189, 3) := by decide +kernel
theorem dX5_sign_8 : decode cX5_sign 8 = .ok (.if_icmp .ge 30, 3) := by decide +kernel
theorem dX5_sign_11 : decode cX5_sign 11 = .ok (.aload_n 0, 1) := by decide +kernel
theorem dX5_sign_12 : decode cX5_sign 12 = .ok (.getfield 19, 3) := by decide +kernel
theorem dX5_sign_15 : decode cX5_sign 15 = .ok (.aload_n 0, 1) := by decide +kernel
theorem dX5_sign_16 : decode cX5_sign 16 = .ok (.getfield 195, 3) := by decide +kernel
theorem dX5_sign_19 : decode cX5_sign 19 = .ok (.iaload, 1) := by decide +kernel
theorem dX5_sign_20 : decode cX5_sign 20 = .ok (.bipush 32, 2) := by decide +kernel
theorem dX5_sign_22 : decode cX5_sign 22 = .ok (.if_icmp .ne 16, 3) := by decide +kernel
theorem dX5_sign_25 : decode cX5_sign 25 = .ok (.aload_n 0, 1) := by decide +kernel
theorem dX5_sign_26 : decode cX5_sign 26 = .ok (.dup, 1) := by decide +kernel
theorem dX5_sign_27 : decode cX5_sign 27 = .ok (.getfield 195, 3) := by decide +kernel
theorem dX5_sign_30 : decode cX5_sign 30 = .ok (.iconst 1, 1) := by decide +kernel
theorem dX5_sign_31 : decode cX5_sign 31 = .ok (.iadd, 1) := by decide +kernel
theorem dX5_sign_32 : decode cX5_sign 32 = .ok (.putfield 195, 3) := by decide +kernel
theorem dX5_sign_35 : decode cX5_sign 35 = .ok (.goto (-35), 3) := by decide +kernel
theorem dX5_sign_38 : decode cX5_sign 38 = .ok (.aload_n 0, 1) := by decide +kernel
theorem dX5_sign_39 : decode cX5_sign 39 = .ok (.getfield 195, 3) := by decide +kernel
theorem dX5_sign_42 : decode cX5_sign 42 = .ok (.aload_n 0, 1) := by decide +kernel
theorem dX5_sign_43 : decode cX5_sign 43 = .ok (.getfield 189, 3) := by decide +kernel
theorem dX5_sign_46 : decode cX5_sign 46 = .ok (.if_icmp .ge 15, 3) := by decide +kernel
theorem dX5_sign_49 : decode cX5_sign 49 = .ok (.aload_n 0, 1) := by decide +kernel
theorem dX5_sign_50 : decode cX5_sign 50 = .ok (.getfield 19, 3) := by decide +kernel
theorem dX5_sign_53 : decode cX5_sign 53 = .ok (.aload_n 0, 1) := by decide +kernel
theorem dX5_sign_54 : decode cX5_sign 54 = .ok (.getfield 195, 3) := by decide +kernel
theorem dX5_sign_57 : decode cX5_sign 57 = .ok (.iaload, 1) := by decide +kernel
theorem dX5_sign_58 : decode cX5_sign 58 = .ok (.goto 4, 3) := by decide +kernel
theorem dX5_sign_61 : decode cX5_sign 61 = .ok (.iconst (-1), 1) := by decide +kernel
theorem dX5_sign_62 : decode cX5_sign 62 = .ok (.ireturn, 1) := by decide +kernel
set_option maxRecDepth 20000 in
theorem ggX5_reads_X5_sign : GoodIn wsX5_reads wsX5_sign := goodIn_r _ [8, 3, 9, 10, 14, 15, 16, 17, 18, 19, 20, 21, 22, 23, 24, 25, 26, 27, 28] (by decide +kernel) (by decide +kernel)
set_option maxRecDepth 20000 in
theorem gX5_reads_X5_sign : GoodIn wsX5_reads (wsV RX5 198 RX5 yX5_sign wsX5_sign) := goodIn_app (goodIn_of _ (by decide +kernel)) ggX5_reads_X5_sign
set_option maxRecDepth 20000 in
theorem ggX5_reads_X5_in : GoodIn wsX5_reads wsX5_in := goodIn_r _ [13] (by decide +kernel) (by decide +kernel)
set_option maxRecDepth 20000 in
theorem gX5_reads_X5_in : GoodIn wsX5_reads (va_wsS RX5 41 yX5_in wsX5_in) := goodIn_app (goodIn_of _ (by decide +kernel)) ggX5_reads_X5_in
theorem dX5_reads_0 : decode cX5_reads 0 = .ok (.aload_n 0, 1) := by decide +kernel
theorem dX5_reads_1 : decode cX5_reads 1 = .ok (.invokevirtual 198, 3) := by decide +kernel
theorem dX5_reads_4 : decode cX5_reads 4 = .ok (.istore_n 3, 1) := by decide +kernel
theorem dX5_reads_5 : decode cX5_reads 5 = .ok (.iload_n 3, 1) := by decide +kernel
theorem dX5_reads_6 : decode cX5_reads 6 = .ok (.bipush 48, 2) := by decide +kernel
theorem dX5_reads_8 : decode cX5_reads 8 = .ok (.iload_n 1, 1) := by decide +kernel
theorem dX5_reads_9 : decode cX5_reads 9 = .ok (.iadd, 1) := by decide +kernel
theorem dX5_reads_10 : decode cX5_reads 10 = .ok (.bipush 48, 2) := by decide +kernel
theorem dX5_reads_12 : decode cX5_reads 12 = .ok (.iload_n 2, 1) := by decide +kernel
theorem dX5_reads_13 : decode cX5_reads 13 = .ok (.iadd, 1) := by decide +kernel
theorem dX5_reads_14 : decode cX5_reads 14 = .ok (.invokestatic 41, 3) := by decide +kernel
theorem dX5_reads_17 : decode cX5_reads 17 = .ok (.ifCond .ne 5, 3) := by decide +kernel
theorem dX5_reads_20 : decode cX5_reads 20 = .ok (.iconst 0, 1) := by decide +kernel
theorem dX5_reads_21 : decode cX5_reads 21 = .ok (.ireturn, 1) := by decide +kernel
theorem dX5_reads_22 : decode cX5_reads 22 = .ok (.aload_n 0, 1) := by decide +kernel
theorem dX5_reads_23 : decode cX5_reads 23 = .ok (.getfield 38, 3) := by decide +kernel
theorem dX5_reads_26 : decode cX5_reads 26 = .ok (.aload_n 0, 1) := by decide +kernel
theorem dX5_reads_27 : decode cX5_reads 27 = .ok (.getfield 201, 3) := by decide +kernel
theorem dX5_reads_30 : decode cX5_reads 30 = .ok (.iload_n 3, 1) := by decide +kernel
theorem dX5_reads_31 : decode cX5_reads 31 = .ok (.bipush 48, 2) := by decide +kernel
theorem dX5_reads_33 : decode cX5_reads 33 = .ok (.isub, 1) := by decide +kernel
theorem dX5_reads_34 : decode cX5_reads 34 = .ok (.iastore, 1) := by decide +kernel
theorem dX5_reads_35 : decode cX5_reads 35 = .ok (.aload_n 0, 1) := by decide +kernel
theorem dX5_reads_36 : decode cX5_reads 36 = .ok (.dup, 1) := by decide +kernel
theorem dX5_reads_37 : decode cX5_reads 37 = .ok (.getfield 201, 3) := by decide +kernel
theorem dX5_reads_40 : decode cX5_reads 40 = .ok (.iconst 1, 1) := by decide +kernel
theorem dX5_reads_41 : decode cX5_reads 41 = .ok (.iadd, 1) := by decide +kernel
theorem dX5_reads_42 : decode cX5_reads 42 = .ok (.putfield 201, 3) := by decide +kernel
theorem dX5_reads_45 : decode cX5_reads 45 = .ok (.aload_n 0, 1) := by decide +kernel
theorem dX5_reads_46 : decode cX5_reads 46 = .ok (.dup, 1) := by decide +kernel
theorem dX5_reads_47 : decode cX5_reads 47 = .ok (.getfield 195, 3) := by decide +kernel
theorem dX5_reads_50 : decode cX5_reads 50 = .ok (.iconst 1, 1) := by decide +kernel
theorem dX5_reads_51 : decode cX5_reads 51 = .ok (.iadd, 1) := by decide +kernel
theorem dX5_reads_52 : decode cX5_reads 52 = .ok (.putfield 195, 3) := by decide +kernel
theorem dX5_reads_55 : decode cX5_reads 55 = .ok (.iconst 1, 1) := by decide +kernel
theorem dX5_reads_56 : decode cX5_reads 56 = .ok (.ireturn, 1) := by decide +kernel
set_option maxRecDepth 20000 in
theorem ggX5_readsDot_X5_reads : GoodIn wsX5_readsDot wsX5_reads := goodIn_r _ [6, 7, 8, 9, 10, 11, 12, 5, 13, 14, 15, 16, 17, 18, 19, 20, 21, 22, 23, 24, 25, 26, 27, 28, 29, 30, 31, 32, 33] (by decide +kernel) (by decide +kernel)
set_option maxRecDepth 20000 in
theorem gX5_readsDot_X5_reads : GoodIn wsX5_readsDot (wsV RX5 204 RX5 yX5_reads wsX5_reads) := goodIn_app (goodIn_of _ (by decide +kernel)) ggX5_readsDot_X5_reads
theorem dX5_readsDot_0 : decode cX5_readsDot 0 = .ok (.aload_n 0, 1) := by decide +kernel
theorem dX5_readsDot_1 : decode cX5_readsDot 1 = .ok (.iconst 0, 1) := by decide +kernel
theorem dX5_readsDot_2 : decode cX5_readsDot 2 = .ok (.aload_n 0, 1) := by decide +kernel
theorem dX5_readsDot_3 : decode cX5_readsDot 3 = .ok (.getfield 7, 3) := by decide +kernel
theorem dX5_readsDot_6 : decode cX5_readsDot 6 = .ok (.iconst 0, 1) := by decide +kernel
theorem dX5_readsDot_7 : decode cX5_readsDot 7 = .ok (.iaload, 1) := by decide +kernel
theorem dX5_readsDot_8 : decode cX5_readsDot 8 = .ok (.iconst 1, 1) := by decide +kernel
theorem dX5_readsDot_9 : decode cX5_readsDot 9 = .ok (.isub, 1) := by decide +kernel
theorem dX5_readsDot_10 : decode cX5_readsDot 10 = .ok (.invokevirtual 204, 3) := by decide +kernel
theorem dX5_readsDot_13 : decode cX5_readsDot 13 = .ok (.ifCond .eq 23, 3) := by decide +kernel
theorem dX5_readsDot_16 : decode cX5_readsDot 16 = .ok (.aload_n 0, 1) := by decide +kernel
theorem dX5_readsDot_17 : decode cX5_readsDot 17 = .ok (.iconst 0, 1) := by decide +kernel
theorem dX5_readsDot_18 : decode cX5_readsDot 18 = .ok (.aload_n 0, 1) := by decide +kernel
theorem dX5_readsDot_19 : decode cX5_readsDot 19 = .ok (.getfield 7, 3) := by decide +kernel
theorem dX5_readsDot_22 : decode cX5_readsDot 22 = .ok (.iconst 1, 1) := by decide +kernel
theorem dX5_readsDot_23 : decode cX5_readsDot 23 = .ok (.iaload, 1) := by decide +kernel
theorem dX5_readsDot_24 : decode cX5_readsDot 24 = .ok (.iconst 1, 1) := by decide +kernel
theorem dX5_readsDot_25 : decode cX5_readsDot 25 = .ok (.isub, 1) := by decide +kernel
theorem dX5_readsDot_26 : decode cX5_readsDot 26 = .ok (.invokevirtual 204, 3) := by decide +kernel
theorem dX5_readsDot_29 : decode cX5_readsDot 29 = .ok (.ifCond .eq 7, 3) := by decide +kernel
theorem dX5_readsDot_32 : decode cX5_readsDot 32 = .ok (.iconst 1, 1) := by decide +kernel
theorem dX5_readsDot_33 : decode cX5_readsDot 33 = .ok (.goto 4, 3) := by decide +kernel
theorem dX5_readsDot_36 : decode cX5_readsDot 36 = .ok (.iconst 0, 1) := by decide +kernel
theorem dX5_readsDot_37 : decode cX5_readsDot 37 = .ok (.ireturn, 1) := by decide +kernel
set_option maxRecDepth 20000 in
theorem ggX5_readsRest_X5_reads : GoodIn wsX5_readsRest wsX5_reads := goodIn_r _ [6, 7, 1, 8, 9, 10, 11, 5, 12, 13, 14, 15, 16, 17, 23, 24, 25, 26, 27, 28, 29, 30, 31, 32, 33, 34, 35, 36, 37] (by decide +kernel) (by decide +kernel)
set_option maxRecDepth 20000 in
theorem gX5_readsRest_X5_reads : GoodIn wsX5_readsRest (wsV RX5 204 RX5 yX5_reads wsX5_reads) := goodIn_app (goodIn_of _ (by decide +kernel)) ggX5_readsRest_X5_reads
set_option maxRecDepth 20000 in
theorem ggX5_readsRest_X5_readsDot : GoodIn wsX5_readsRest wsX5_readsDot := goodIn_r _ [21, 22, 2, 3, 4, 5, 6, 7, 1, 8, 9, 10, 11, 12, 13, 14, 15, 16, 17, 23, 24, 25, 26, 27, 28, 29, 30, 31, 32, 33, 34, 35, 36, 37] (by decide +kernel) (by decide +kernel)
set_option maxRecDepth 20000 in
theorem gX5_readsRest_X5_readsDot : GoodIn wsX5_readsRest (wsV RX5 207 RX5 yX5_readsDot wsX5_readsDot) := goodIn_app (goodIn_of _ (by decide +kernel)) ggX5_readsRest_X5_readsDot
set_option maxRecDepth 20000 in
theorem ggX5_readsRest_X5_sign : GoodIn wsX5_readsRest wsX5_sign := goodIn_r _ [12, 8, 13, 14, 23, 24, 25, 26, 27, 28, 29, 30, 31, 32, 33, 34, 35, 36, 37] (by decide +kernel) (by decide +kernel)
set_option maxRecDepth 20000 in
theorem gX5_readsRest_X5_sign : GoodIn wsX5_readsRest (wsV RX5 198 RX5 yX5_sign wsX5_sign) := goodIn_app (goodIn_of _ (by decide +kernel)) ggX5_readsRest_X5_sign
theorem dX5_readsRest_0 : decode cX5_readsRest 0 = .ok (.aload_n 0, 1) := by decide +kernel
theorem dX5_readsRest_1 : decode cX5_readsRest 1 = .ok (.iconst 0, 1) := by decide +kernel
theorem dX5_readsRest_2 : decode cX5_readsRest 2 = .ok (.putfield 201, 3) := by decide +kernel
theorem dX5_readsRest_5 : decode cX5_readsRest 5 = .ok (.iload_n 1, 1) := by decide +kernel
theorem dX5_readsRest_6 : decode cX5_readsRest 6 = .ok (.bipush 108, 2) := by decide +kernel
theorem dX5_readsRest_8 : decode cX5_readsRest 8 = .ok (.if_icmp .ne 11, 3) := by decide +kernel
theorem dX5_readsRest_11 : decode cX5_readsRest 11 = .ok (.aload_n 0, 1) := by decide +kernel
theorem dX5_readsRest_12 : decode cX5_readsRest 12 = .ok (.iconst 1, 1) := by decide +kernel
theorem dX5_readsRest_13 : decode cX5_readsRest 13 = .ok (.bipush 9, 2) := by decide +kernel
theorem dX5_readsRest_15 : decode cX5_readsRest 15 = .ok (.invokevirtual 204, 3) := by decide +kernel
theorem dX5_readsRest_18 : decode cX5_readsRest 18 = .ok (.ireturn, 1) := by decide +kernel
theorem dX5_readsRest_19 : decode cX5_readsRest 19 = .ok (.aload_n 0, 1) := by decide +kernel
theorem dX5_readsRest_20 : decode cX5_readsRest 20 = .ok (.invokevirtual 207, 3) := by decide +kernel
theorem dX5_readsRest_23 : decode cX5_readsRest 23 = .ok (.ifCond .ne 5, 3) := by decide +kernel
theorem dX5_readsRest_26 : decode cX5_readsRest 26 = .ok (.iconst 0, 1) := by decide +kernel
theorem dX5_readsRest_27 : decode cX5_readsRest 27 = .ok (.ireturn, 1) := by decide +kernel
theorem dX5_readsRest_28 : decode cX5_readsRest 28 = .ok (.iload_n 1, 1) := by decide +kernel
theorem dX5_readsRest_29 : decode cX5_readsRest 29 = .ok (.bipush 115, 2) := by decide +kernel
theorem dX5_readsRest_31 : decode cX5_readsRest 31 = .ok (.if_icmp .ne 11, 3) := by decide +kernel
theorem dX5_readsRest_34 : decode cX5_readsRest 34 = .ok (.aload_n 0, 1) := by decide +kernel
theorem dX5_readsRest_35 : decode cX5_readsRest 35 = .ok (.iconst 0, 1) := by decide +kernel
theorem dX5_readsRest_36 : decode cX5_readsRest 36 = .ok (.bipush 9, 2) := by decide +kernel
theorem dX5_readsRest_38 : decode cX5_readsRest 38 = .ok (.invokevirtual 204, 3) := by decide +kernel
theorem dX5_readsRest_41 : decode cX5_readsRest 41 = .ok (.ireturn, 1) := by decide +kernel
theorem dX5_readsRest_42 : decode cX5_readsRest 42 = .ok (.aload_n 0, 1) := by decide +kernel
theorem dX5_readsRest_43 : decode cX5_readsRest 43 = .ok (.invokevirtual 198, 3) := by decide +kernel
theorem dX5_readsRest_46 : decode cX5_readsRest 46 = .ok (.bipush 59, 2) := by decide +kernel
theorem dX5_readsRest_48 : decode cX5_readsRest 48 = .ok (.if_icmp .eq 10, 3) := by decide +kernel
theorem dX5_readsRest_51 : decode cX5_readsRest 51 = .ok (.aload_n 0, 1) := by decide +kernel
theorem dX5_readsRest_52 : decode cX5_readsRest 52 = .ok (.invokevirtual 207, 3) := by decide +kernel
theorem dX5_readsRest_55 : decode cX5_readsRest 55 = .ok (.ifCond .eq 7, 3) := by decide +kernel
theorem dX5_readsRest_58 : decode cX5_readsRest 58 = .ok (.iconst 1, 1) := by decide +kernel
theorem dX5_readsRest_59 : decode cX5_readsRest 59 = .ok (.goto 4, 3) := by decide +kernel
theorem dX5_readsRest_62 : decode cX5_readsRest 62 = .ok (.iconst 0, 1) := by decide +kernel
theorem dX5_readsRest_63 : decode cX5_readsRest 63 = .ok (.ireturn, 1) := by decide +kernel
theorem dX5_isOrder_0 : decode cX5_isOrder 0 = .ok (.iload_n 0, 1) := by decide +kernel
theorem dX5_isOrder_1 : decode cX5_isOrder 1 = .ok (.bipush 102, 2) := by decide +kernel
theorem dX5_isOrder_3 : decode cX5_isOrder 3 = .ok (.if_icmp .eq 27, 3) := by decide +kernel
theorem dX5_isOrder_6 : decode cX5_isOrder 6 = .ok (.iload_n 0, 1) := by decide +kernel
theorem dX5_isOrder_7 : decode cX5_isOrder 7 = .ok (.bipush 103, 2) := by decide +kernel
theorem dX5_isOrder_9 : decode cX5_isOrder 9 = .ok (.if_icmp .eq 21, 3) := by decide +kernel
theorem dX5_isOrder_12 : decode cX5_isOrder 12 = .ok (.iload_n 0, 1) := by decide +kernel
theorem dX5_isOrder_13 : decode cX5_isOrder 13 = .ok (.bipush 110, 2) := by decide +kernel
theorem dX5_isOrder_15 : decode cX5_isOrder 15 = .ok (.if_icmp .eq 15, 3) := by decide +kernel
theorem dX5_isOrder_18 : decode cX5_isOrder 18 = .ok (.iload_n 0, 1) := by decide +kernel
theorem dX5_isOrder_19 : decode cX5_isOrder 19 = .ok (.bipush 115, 2) := by decide +kernel
theorem dX5_isOrder_21 : decode cX5_isOrder 21 = .ok (.if_icmp .eq 9, 3) := by decide +kernel
theorem dX5_isOrder_24 : decode cX5_isOrder 24 = .ok (.iload_n 0, 1) := by decide +kernel
theorem dX5_isOrder_25 : decode cX5_isOrder 25 = .ok (.bipush 108, 2) := by decide +kernel
theorem dX5_isOrder_27 : decode cX5_isOrder 27 = .ok (.if_icmp .ne 7, 3) := by decide +kernel
theorem dX5_isOrder_30 : decode cX5_isOrder 30 = .ok (.iconst 1, 1) := by decide +kernel
theorem dX5_isOrder_31 : decode cX5_isOrder 31 = .ok (.goto 4, 3) := by decide +kernel
theorem dX5_isOrder_34 : decode cX5_isOrder 34 = .ok (.iconst 0, 1) := by decide +kernel
theorem dX5_isOrder_35 : decode cX5_isOrder 35 = .ok (.ireturn, 1) := by decide +kernel
set_option maxRecDepth 20000 in
theorem ggX5_doesOrder_X5_learnsAll : GoodIn wsX5_doesOrder wsX5_learnsAll := goodIn_r _ [8, 9, 10, 11, 7, 12, 2, 13, 14, 15, 16, 17, 18, 19, 20, 21, 22, 23, 24, 25, 26, 27, 28, 29, 30, 31, 32, 33, 34, 35, 36, 37, 38, 39, 40, 41, 42, 43, 44, 45, 46, 47, 48, 49, 50, 51, 52, 53, 54, 55, 56, 57, 58, 59, 60, 61, 62, 63, 64, 65, 66, 67, 68, 69, 70, 71, 72, 73, 74, 75, 76, 77, 78, 79, 80, 81, 82, 83, 84, 85, 86, 87, 88, 89, 90, 91, 92, 93, 94, 102, 103, 104, 105, 106, 107, 108, 109, 110, 111, 112, 113, 114, 115, 116] (by decide +kernel) (by decide +kernel)
set_option maxRecDepth 20000 in
theorem gX5_doesOrder_X5_learnsAll : GoodIn wsX5_doesOrder (wsV RX5 185 RX5 yX5_learnsAll wsX5_learnsAll) := goodIn_app (goodIn_of _ (by decide +kernel)) ggX5_doesOrder_X5_learnsAll
set_option maxRecDepth 20000 in
theorem ggX5_doesOrder_X5_numberOf : GoodIn wsX5_doesOrder wsX5_numberOf := goodIn_r _ [79, 2, 102, 103, 104, 105, 106, 107, 108, 109, 110, 111, 112, 113, 114, 115, 116] (by decide +kernel) (by decide +kernel)
set_option maxRecDepth 20000 in
theorem gX5_doesOrder_X5_numberOf : GoodIn wsX5_doesOrder (wsV RX5 56 RX5 yX5_numberOf wsX5_numberOf) := goodIn_app (goodIn_of _ (by decide +kernel)) ggX5_doesOrder_X5_numberOf
set_option maxRecDepth 20000 in
theorem ggX5_doesOrder_X5_strokes : GoodIn wsX5_doesOrder wsX5_strokes := goodIn_r _ [98, 2, 52, 53, 7, 54, 99, 100, 101, 76, 77, 78, 79, 102, 103, 104, 105, 106, 107, 108, 109, 110, 111, 112, 113, 114, 115, 116] (by decide +kernel) (by decide +kernel)
set_option maxRecDepth 20000 in
theorem gX5_doesOrder_X5_strokes : GoodIn wsX5_doesOrder (wsV RX5 125 RX5 yX5_strokes wsX5_strokes) := goodIn_app (goodIn_of _ (by decide +kernel)) ggX5_doesOrder_X5_strokes
theorem dX5_doesOrder_0 : decode cX5_doesOrder 0 = .ok (.iload_n 1, 1) := by decide +kernel
theorem dX5_doesOrder_1 : decode cX5_doesOrder 1 = .ok (.bipush 108, 2) := by decide +kernel
theorem dX5_doesOrder_3 : decode cX5_doesOrder 3 = .ok (.if_icmp .ne 17, 3) := by decide +kernel
theorem dX5_doesOrder_6 : decode cX5_doesOrder 6 = .ok (.aload_n 0, 1) := by decide +kernel
theorem dX5_doesOrder_7 : decode cX5_doesOrder 7 = .ok (.aload_n 0, 1) := by decide +kernel
theorem dX5_doesOrder_8 : decode cX5_doesOrder 8 = .ok (.getfield 38, 3) := by decide +kernel
theorem dX5_doesOrder_11 : decode cX5_doesOrder 11 = .ok (.iconst 0, 1) := by decide +kernel
theorem dX5_doesOrder_12 : decode cX5_doesOrder 12 = .ok (.iaload, 1) := by decide +kernel
theorem dX5_doesOrder_13 : decode cX5_doesOrder 13 = .ok (.invokevirtual 185, 3) := by decide +kernel
theorem dX5_doesOrder_16 : decode cX5_doesOrder 16 = .ok (.pop, 1) := by decide +kernel
theorem dX5_doesOrder_17 : decode cX5_doesOrder 17 = .ok (.goto 134, 3) := by decide +kernel
theorem dX5_doesOrder_20 : decode cX5_doesOrder 20 = .ok (.iload_n 1, 1) := by decide +kernel
theorem dX5_doesOrder_21 : decode cX5_doesOrder 21 = .ok (.bipush 115, 2) := by decide +kernel
theorem dX5_doesOrder_23 : decode cX5_doesOrder 23 = .ok (.if_icmp .ne 36, 3) := by decide +kernel
theorem dX5_doesOrder_26 : decode cX5_doesOrder 26 = .ok (.aload_n 0, 1) := by decide +kernel
theorem dX5_doesOrder_27 : decode cX5_doesOrder 27 = .ok (.getfield 7, 3) := by decide +kernel
theorem dX5_doesOrder_30 : decode cX5_doesOrder 30 = .ok (.bipush 8, 2) := by decide +kernel
theorem dX5_doesOrder_32 : decode cX5_doesOrder 32 = .ok (.aload_n 0, 1) := by decide +kernel
theorem dX5_doesOrder_33 : decode cX5_doesOrder 33 = .ok (.aload_n 0, 1) := by decide +kernel
theorem dX5_doesOrder_34 : decode cX5_doesOrder 34 = .ok (.getfield 38, 3) := by decide +kernel
theorem dX5_doesOrder_37 : decode cX5_doesOrder 37 = .ok (.iconst 0, 1) := by decide +kernel
theorem dX5_doesOrder_38 : decode cX5_doesOrder 38 = .ok (.iaload, 1) := by decide +kernel
theorem dX5_doesOrder_39 : decode cX5_doesOrder 39 = .ok (.aload_n 0, 1) := by decide +kernel
theorem dX5_doesOrder_40 : decode cX5_doesOrder 40 = .ok (.getfield 38, 3) := by decide +kernel
theorem dX5_doesOrder_43 : decode cX5_doesOrder 43 = .ok (.iconst 1, 1) := by decide +kernel
theorem dX5_doesOrder_44 : decode cX5_doesOrder 44 = .ok (.iaload, 1) := by decide +kernel
theorem dX5_doesOrder_45 : decode cX5_doesOrder 45 = .ok (.invokevirtual 56, 3) := by decide +kernel
theorem dX5_doesOrder_48 : decode cX5_doesOrder 48 = .ok (.iadd, 1) := by decide +kernel
theorem dX5_doesOrder_49 : decode cX5_doesOrder 49 = .ok (.aload_n 0, 1) := by decide +kernel
theorem dX5_doesOrder_50 : decode cX5_doesOrder 50 = .ok (.getfield 38, 3) := by decide +kernel
theorem dX5_doesOrder_53 : decode cX5_doesOrder 53 = .ok (.iconst 2, 1) := by decide +kernel
theorem dX5_doesOrder_54 : decode cX5_doesOrder 54 = .ok (.iaload, 1) := by decide +kernel
theorem dX5_doesOrder_55 : decode cX5_doesOrder 55 = .ok (.iastore, 1) := by decide +kernel
theorem dX5_doesOrder_56 : decode cX5_doesOrder 56 = .ok (.goto 95, 3) := by decide +kernel
theorem dX5_doesOrder_59 : decode cX5_doesOrder 59 = .ok (.aload_n 0, 1) := by decide +kernel
theorem dX5_doesOrder_60 : decode cX5_doesOrder 60 = .ok (.getfield 201, 3) := by decide +kernel
theorem dX5_doesOrder_63 : decode cX5_doesOrder 63 = .ok (.iconst 4, 1) := by decide +kernel
theorem dX5_doesOrder_64 : decode cX5_doesOrder 64 = .ok (.if_icmp .ne 7, 3) := by decide +kernel
theorem dX5_doesOrder_67 : decode cX5_doesOrder 67 = .ok (.iconst 1, 1) := by decide +kernel
theorem dX5_doesOrder_68 : decode cX5_doesOrder 68 = .ok (.goto 4, 3) := by decide +kernel
theorem dX5_doesOrder_71 : decode cX5_doesOrder 71 = .ok (.iconst 0, 1) := by decide +kernel
theorem dX5_doesOrder_72 : decode cX5_doesOrder 72 = .ok (.istore_n 2, 1) := by decide +kernel
theorem dX5_doesOrder_73 : decode cX5_doesOrder 73 = .ok (.iload_n 1, 1) := by decide +kernel
theorem dX5_doesOrder_74 : decode cX5_doesOrder 74 = .ok (.bipush 102, 2) := by decide +kernel
theorem dX5_doesOrder_76 : decode cX5_doesOrder 76 = .ok (.if_icmp .ne 7, 3) := by decide +kernel
theorem dX5_doesOrder_79 : decode cX5_doesOrder 79 = .ok (.iconst 1, 1) := by decide +kernel
theorem dX5_doesOrder_80 : decode cX5_doesOrder 80 = .ok (.goto 14, 3) := by decide +kernel
theorem dX5_doesOrder_83 : decode cX5_doesOrder 83 = .ok (.iload_n 1, 1) := by decide +kernel
theorem dX5_doesOrder_84 : decode cX5_doesOrder 84 = .ok (.bipush 103, 2) := by decide +kernel
theorem dX5_doesOrder_86 : decode cX5_doesOrder 86 = .ok (.if_icmp .ne 7, 3) := by decide +kernel
theorem dX5_doesOrder_89 : decode cX5_doesOrder 89 = .ok (.iconst 2, 1) := by decide +kernel
theorem dX5_doesOrder_90 : decode cX5_doesOrder 90 = .ok (.goto 4, 3) := by decide +kernel
theorem dX5_doesOrder_93 : decode cX5_doesOrder 93 = .ok (.iconst 0, 1) := by decide +kernel
theorem dX5_doesOrder_94 : decode cX5_doesOrder 94 = .ok (.istore_n 3, 1) := by decide +kernel
theorem dX5_doesOrder_95 : decode cX5_doesOrder 95 = .ok (.aload_n 0, 1) := by decide +kernel
theorem dX5_doesOrder_96 : decode cX5_doesOrder 96 = .ok (.iload_n 3, 1) := by decide +kernel
theorem dX5_doesOrder_97 : decode cX5_doesOrder 97 = .ok (.aload_n 0, 1) := by decide +kernel
theorem dX5_doesOrder_98 : decode cX5_doesOrder 98 = .ok (.getfield 38, 3) := by decide +kernel
theorem dX5_doesOrder_101 : decode cX5_doesOrder 101 = .ok (.iconst 0, 1) := by decide +kernel
theorem dX5_doesOrder_102 : decode cX5_doesOrder 102 = .ok (.iaload, 1) := by decide +kernel
theorem dX5_doesOrder_103 : decode cX5_doesOrder 103 = .ok (.aload_n 0, 1) := by decide +kernel
theorem dX5_doesOrder_104 : decode cX5_doesOrder 104 = .ok (.getfield 38, 3) := by decide +kernel
theorem dX5_doesOrder_107 : decode cX5_doesOrder 107 = .ok (.iconst 1, 1) := by decide +kernel
theorem dX5_doesOrder_108 : decode cX5_doesOrder 108 = .ok (.iaload, 1) := by decide +kernel
theorem dX5_doesOrder_109 : decode cX5_doesOrder 109 = .ok (.iload_n 2, 1) := by decide +kernel
theorem dX5_doesOrder_110 : decode cX5_doesOrder 110 = .ok (.ifCond .eq 12, 3) := by decide +kernel
theorem dX5_doesOrder_113 : decode cX5_doesOrder 113 = .ok (.aload_n 0, 1) := by decide +kernel
theorem dX5_doesOrder_114 : decode cX5_doesOrder 114 = .ok (.getfield 38, 3) := by decide +kernel
theorem dX5_doesOrder_117 : decode cX5_doesOrder 117 = .ok (.iconst 2, 1) := by decide +kernel
theorem dX5_doesOrder_118 : decode cX5_doesOrder 118 = .ok (.iaload, 1) := by decide +kernel
theorem dX5_doesOrder_119 : decode cX5_doesOrder 119 = .ok (.goto 9, 3) := by decide +kernel
theorem dX5_doesOrder_122 : decode cX5_doesOrder 122 = .ok (.aload_n 0, 1) := by decide +kernel
theorem dX5_doesOrder_123 : decode cX5_doesOrder 123 = .ok (.getfield 38, 3) := by decide +kernel
theorem dX5_doesOrder_126 : decode cX5_doesOrder 126 = .ok (.iconst 0, 1) := by decide +kernel
theorem dX5_doesOrder_127 : decode cX5_doesOrder 127 = .ok (.iaload, 1) := by decide +kernel
theorem dX5_doesOrder_128 : decode cX5_doesOrder 128 = .ok (.iload_n 2, 1) := by decide +kernel
theorem dX5_doesOrder_129 : decode cX5_doesOrder 129 = .ok (.ifCond .eq 12, 3) := by decide +kernel
theorem dX5_doesOrder_132 : decode cX5_doesOrder 132 = .ok (.aload_n 0, 1) := by decide +kernel
theorem dX5_doesOrder_133 : decode cX5_doesOrder 133 = .ok (.getfield 38, 3) := by decide +kernel
theorem dX5_doesOrder_136 : decode cX5_doesOrder 136 = .ok (.iconst 3, 1) := by decide +kernel
theorem dX5_doesOrder_137 : decode cX5_doesOrder 137 = .ok (.iaload, 1) := by decide +kernel
theorem dX5_doesOrder_138 : decode cX5_doesOrder 138 = .ok (.goto 9, 3) := by decide +kernel
theorem dX5_doesOrder_141 : decode cX5_doesOrder 141 = .ok (.aload_n 0, 1) := by decide +kernel
theorem dX5_doesOrder_142 : decode cX5_doesOrder 142 = .ok (.getfield 38, 3) := by decide +kernel
theorem dX5_doesOrder_145 : decode cX5_doesOrder 145 = .ok (.iconst 1, 1) := by decide +kernel
theorem dX5_doesOrder_146 : decode cX5_doesOrder 146 = .ok (.iaload, 1) := by decide +kernel
theorem dX5_doesOrder_147 : decode cX5_doesOrder 147 = .ok (.invokevirtual 125, 3) := by decide +kernel
theorem dX5_doesOrder_150 : decode cX5_doesOrder 150 = .ok (.pop, 1) := by decide +kernel
theorem dX5_doesOrder_151 : decode cX5_doesOrder 151 = .ok (.return_, 1) := by decide +kernel
set_option maxRecDepth 20000 in
theorem ggX5_goesThrough_X5_sign : GoodIn wsX5_goesThrough wsX5_sign := goodIn_r _ [6, 1, 7, 8, 128, 129, 130, 131, 132, 133, 134, 135, 136, 137, 138, 139, 140, 141, 142] (by decide +kernel) (by decide +kernel)
set_option maxRecDepth 20000 in
theorem gX5_goesThrough_X5_sign : GoodIn wsX5_goesThrough (wsV RX5 198 RX5 yX5_sign wsX5_sign) := goodIn_app (goodIn_of _ (by decide +kernel)) ggX5_goesThrough_X5_sign
set_option maxRecDepth 20000 in
theorem ggX5_goesThrough_X5_isOrder : GoodIn wsX5_goesThrough wsX5_isOrder := goodIn_r _ [11] (by decide +kernel) (by decide +kernel)
set_option maxRecDepth 20000 in
theorem gX5_goesThrough_X5_isOrder : GoodIn wsX5_goesThrough (va_wsS RX5 210 yX5_isOrder wsX5_isOrder) := goodIn_app (goodIn_of _ (by decide +kernel)) ggX5_goesThrough_X5_isOrder
set_option maxRecDepth 20000 in
theorem ggX5_goesThrough_X5_readsRest : GoodIn wsX5_goesThrough wsX5_readsRest := goodIn_r _ [15, 16, 17, 18, 19, 5, 20, 21, 1, 2, 3, 4, 6, 7, 8, 22, 23, 24, 25, 26, 27, 28, 29, 128, 129, 130, 131, 132, 133, 134, 135, 136, 137, 138, 139, 140, 141, 142] (by decide +kernel) (by decide +kernel)
set_option maxRecDepth 20000 in
theorem gX5_goesThrough_X5_readsRest : GoodIn wsX5_goesThrough (wsV RX5 213 RX5 yX5_readsRest wsX5_readsRest) := goodIn_app (goodIn_of _ (by decide +kernel)) ggX5_goesThrough_X5_readsRest
set_option maxRecDepth 20000 in
theorem ggX5_goesThrough_X5_doesOrder : GoodIn wsX5_goesThrough wsX5_doesOrder := goodIn_r _ [33, 21, 29, 16, 34, 35, 36, 5, 37, 38, 39, 40, 41, 42, 43, 44, 45, 46, 47, 48, 49, 50, 51, 52, 53, 54, 55, 56, 57, 58, 59, 60, 61, 62, 63, 64, 65, 66, 67, 68, 69, 70, 71, 72, 73, 74, 75, 76, 77, 78, 79, 80, 81, 82, 83, 84, 85, 86, 87, 88, 89, 90, 91, 92, 93, 94, 95, 96, 97, 98, 99, 100, 101, 22, 23, 24, 102, 103, 104, 105, 106, 107, 108, 109, 110, 111, 112, 113, 114, 115, 116, 117, 118, 119, 120, 121, 122, 123, 124, 125, 126, 127, 128, 129, 130, 131, 132, 133, 134, 135, 136, 137, 138, 139, 140, 141, 142] (by decide +kernel) (by decide +kernel)
set_option maxRecDepth 20000 in
theorem gX5_goesThrough_X5_doesOrder : GoodIn wsX5_goesThrough (wsV RX5 216 RX5 yX5_doesOrder wsX5_doesOrder) := goodIn_app (goodIn_of _ (by decide +kernel)) ggX5_goesThrough_X5_doesOrder
theorem dX5_goesThrough_0 : decode cX5_goesThrough 0 = .ok (.iconst 0, 1) := by decide +kernel
theorem dX5_goesThrough_1 : decode cX5_goesThrough 1 = .ok (.istore_n 2, 1) := by decide +kernel
theorem dX5_goesThrough_2 : decode cX5_goesThrough 2 = .ok (.aload_n 0, 1) := by decide +kernel
theorem dX5_goesThrough_3 : decode cX5_goesThrough 3 = .ok (.iconst 0, 1) := by decide +kernel
theorem dX5_goesThrough_4 : decode cX5_goesThrough 4 = .ok (.putfield 195, 3) := by decide +kernel
theorem dX5_goesThrough_7 : decode cX5_goesThrough 7 = .ok (.iload_n 2, 1) := by decide +kernel
theorem dX5_goesThrough_8 : decode cX5_goesThrough 8 = .ok (.ifCond .eq 11, 3) := by decide +kernel
theorem dX5_goesThrough_11 : decode cX5_goesThrough 11 = .ok (.aload_n 0, 1) := by decide +kernel
theorem dX5_goesThrough_12 : decode cX5_goesThrough 12 = .ok (.invokevirtual 198, 3) := by decide +kernel
theorem dX5_goesThrough_15 : decode cX5_goesThrough 15 = .ok (.iconst (-1), 1) := by decide +kernel
theorem dX5_goesThrough_16 : decode cX5_goesThrough 16 = .ok (.if_icmp .eq 71, 3) := by decide +kernel
theorem dX5_goesThrough_19 : decode cX5_goesThrough 19 = .ok (.aload_n 0, 1) := by decide +kernel
theorem dX5_goesThrough_20 : decode cX5_goesThrough 20 = .ok (.invokevirtual 198, 3) := by decide +kernel
theorem dX5_goesThrough_23 : decode cX5_goesThrough 23 = .ok (.istore_n 3, 1) := by decide +kernel
theorem dX5_goesThrough_24 : decode cX5_goesThrough 24 = .ok (.iload_n 3, 1) := by decide +kernel
theorem dX5_goesThrough_25 : decode cX5_goesThrough 25 = .ok (.invokestatic 210, 3) := by decide +kernel
theorem dX5_goesThrough_28 : decode cX5_goesThrough 28 = .ok (.ifCond .ne 5, 3) := by decide +kernel
theorem dX5_goesThrough_31 : decode cX5_goesThrough 31 = .ok (.iconst (-1), 1) := by decide +kernel
theorem dX5_goesThrough_32 : decode cX5_goesThrough 32 = .ok (.ireturn, 1) := by decide +kernel
theorem dX5_goesThrough_33 : decode cX5_goesThrough 33 = .ok (.aload_n 0, 1) := by decide +kernel
theorem dX5_goesThrough_34 : decode cX5_goesThrough 34 = .ok (.dup, 1) := by decide +kernel
theorem dX5_goesThrough_35 : decode cX5_goesThrough 35 = .ok (.getfield 195, 3) := by decide +kernel
theorem dX5_goesThrough_38 : decode cX5_goesThrough 38 = .ok (.iconst 1, 1) := by decide +kernel
theorem dX5_goesThrough_39 : decode cX5_goesThrough 39 = .ok (.iadd, 1) := by decide +kernel
theorem dX5_goesThrough_40 : decode cX5_goesThrough 40 = .ok (.putfield 195, 3) := by decide +kernel
theorem dX5_goesThrough_43 : decode cX5_goesThrough 43 = .ok (.aload_n 0, 1) := by decide +kernel
theorem dX5_goesThrough_44 : decode cX5_goesThrough 44 = .ok (.iload_n 3, 1) := by decide +kernel
theorem dX5_goesThrough_45 : decode cX5_goesThrough 45 = .ok (.invokevirtual 213, 3) := by decide +kernel
theorem dX5_goesThrough_48 : decode cX5_goesThrough 48 = .ok (.ifCond .eq 12, 3) := by decide +kernel
theorem dX5_goesThrough_51 : decode cX5_goesThrough 51 = .ok (.aload_n 0, 1) := by decide +kernel
theorem dX5_goesThrough_52 : decode cX5_goesThrough 52 = .ok (.invokevirtual 198, 3) := by decide +kernel
theorem dX5_goesThrough_55 : decode cX5_goesThrough 55 = .ok (.bipush 59, 2) := by decide +kernel
theorem dX5_goesThrough_57 : decode cX5_goesThrough 57 = .ok (.if_icmp .eq 5, 3) := by decide +kernel
theorem dX5_goesThrough_60 : decode cX5_goesThrough 60 = .ok (.iconst (-1), 1) := by decide +kernel
theorem dX5_goesThrough_61 : decode cX5_goesThrough 61 = .ok (.ireturn, 1) := by decide +kernel
theorem dX5_goesThrough_62 : decode cX5_goesThrough 62 = .ok (.aload_n 0, 1) := by decide +kernel
theorem dX5_goesThrough_63 : decode cX5_goesThrough 63 = .ok (.dup, 1) := by decide +kernel
theorem dX5_goesThrough_64 : decode cX5_goesThrough 64 = .ok (.getfield 195, 3) := by decide +kernel
theorem dX5_goesThrough_67 : decode cX5_goesThrough 67 = .ok (.iconst 1, 1) := by decide +kernel
theorem dX5_goesThrough_68 : decode cX5_goesThrough 68 = .ok (.iadd, 1) := by decide +kernel
theorem dX5_goesThrough_69 : decode cX5_goesThrough 69 = .ok (.putfield 195, 3) := by decide +kernel
theorem dX5_goesThrough_72 : decode cX5_goesThrough 72 = .ok (.iload_n 1, 1) := by decide +kernel
theorem dX5_goesThrough_73 : decode cX5_goesThrough 73 = .ok (.ifCond .eq 8, 3) := by decide +kernel
theorem dX5_goesThrough_76 : decode cX5_goesThrough 76 = .ok (.aload_n 0, 1) := by decide +kernel
theorem dX5_goesThrough_77 : decode cX5_goesThrough 77 = .ok (.iload_n 3, 1) := by decide +kernel
theorem dX5_goesThrough_78 : decode cX5_goesThrough 78 = .ok (.invokevirtual 216, 3) := by decide +kernel
theorem dX5_goesThrough_81 : decode cX5_goesThrough 81 = .ok (.iinc 2 1, 3) := by decide +kernel
theorem dX5_goesThrough_84 : decode cX5_goesThrough 84 = .ok (.goto (-77), 3) := by decide +kernel
theorem dX5_goesThrough_87 : decode cX5_goesThrough 87 = .ok (.iload_n 2, 1) := by decide +kernel
theorem dX5_goesThrough_88 : decode cX5_goesThrough 88 = .ok (.ireturn, 1) := by decide +kernel
set_option maxRecDepth 20000 in
theorem ggX5_does_X5_goesThrough : GoodIn wsX5_does wsX5_goesThrough := goodIn_r _ [6, 1, 7, 8, 9, 5, 10, 11, 12, 13, 14, 15, 16, 17, 18, 19, 20, 21, 22, 23, 24, 25, 26, 27, 28, 29, 30, 31, 32, 33, 34, 35, 36, 37, 38, 39, 40, 41, 42, 43, 44, 45, 46, 47, 48, 49, 50, 51, 52, 53, 54, 55, 56, 57, 58, 59, 60, 61, 62, 63, 64, 65, 66, 67, 68, 69, 70, 71, 72, 73, 74, 75, 76, 77, 78, 79, 80, 81, 82, 83, 84, 85, 86, 87, 88, 89, 90, 91, 92, 93, 94, 95, 96, 97, 98, 99, 100, 101, 102, 103, 104, 105, 106, 107, 108, 109, 110, 111, 112, 113, 114, 115, 116, 117, 118, 119, 120, 121, 122, 123, 124, 125, 126, 127, 128, 129, 130, 131, 138, 139, 140, 141, 142, 143, 144, 145, 146, 147, 148, 149, 150, 151, 152] (by decide +kernel) (by decide +kernel)
set_option maxRecDepth 20000 in
theorem gX5_does_X5_goesThrough : GoodIn wsX5_does (wsV RX5 220 RX5 yX5_goesThrough wsX5_goesThrough) := goodIn_app (goodIn_of _ (by decide +kernel)) ggX5_does_X5_goesThrough
set_option maxRecDepth 20000 in
theorem ggX5_does_X5_leaves : GoodIn wsX5_does wsX5_leaves := goodIn_r _ [135, 136, 137, 33, 59, 60, 5, 61, 138, 139, 140, 141, 142, 143, 144, 145, 146, 147, 148, 149, 150, 151, 152] (by decide +kernel) (by decide +kernel)
set_option maxRecDepth 20000 in
theorem gX5_does_X5_leaves : GoodIn wsX5_does (wsV RX5 110 RX5 yX5_leaves wsX5_leaves) := goodIn_app (goodIn_of _ (by decide +kernel)) ggX5_does_X5_leaves
theorem dX5_does_0 : decode cX5_does 0 = .ok (.aload_n 0, 1) := by decide +kernel
theorem dX5_does_1 : decode cX5_does 1 = .ok (.iconst 0, 1) := by decide +kernel
theorem dX5_does_2 : decode cX5_does 2 = .ok (.invokevirtual 220, 3) := by decide +kernel
theorem dX5_does_5 : decode cX5_does 5 = .ok (.iconst (-1), 1) := by decide +kernel
theorem dX5_does_6 : decode cX5_does 6 = .ok (.if_icmp .ne 11, 3) := by decide +kernel
theorem dX5_does_9 : decode cX5_does 9 = .ok (.bipush (-10), 2) := by decide +kernel
theorem dX5_does_11 : decode cX5_does 11 = .ok (.aload_n 0, 1) := by decide +kernel
theorem dX5_does_12 : decode cX5_does 12 = .ok (.getfield 195, 3) := by decide +kernel
theorem dX5_does_15 : decode cX5_does 15 = .ok (.isub, 1) := by decide +kernel
theorem dX5_does_16 : decode cX5_does 16 = .ok (.ireturn, 1) := by decide +kernel
theorem dX5_does_17 : decode cX5_does 17 = .ok (.aload_n 0, 1) := by decide +kernel
theorem dX5_does_18 : decode cX5_does 18 = .ok (.invokevirtual 110, 3) := by decide +kernel
theorem dX5_does_21 : decode cX5_does 21 = .ok (.aload_n 0, 1) := by decide +kernel
theorem dX5_does_22 : decode cX5_does 22 = .ok (.iconst 1, 1) := by decide +kernel
theorem dX5_does_23 : decode cX5_does 23 = .ok (.invokevirtual 220, 3) := by decide +kernel
theorem dX5_does_26 : decode cX5_does 26 = .ok (.ireturn, 1) := by decide +kernel
set_option maxRecDepth 20000 in
theorem ggX5_back_X5_no : GoodIn wsX5_back wsX5_no := goodIn_r _ [8, 9, 13, 14, 15, 16, 17, 18, 19, 20, 21, 22, 23, 24, 25, 26, 27] (by decide +kernel) (by decide +kernel)
set_option maxRecDepth 20000 in
theorem gX5_back_X5_no : GoodIn wsX5_back (wsV RX5 146 RX5 yX5_no wsX5_no) := goodIn_app (goodIn_of _ (by decide +kernel)) ggX5_back_X5_no
set_option maxRecDepth 20000 in
theorem ggX5_back_X5_bring : GoodIn wsX5_back wsX5_bring := goodIn_r _ [12] (by decide +kernel) (by decide +kernel)
set_option maxRecDepth 20000 in
theorem gX5_back_X5_bring : GoodIn wsX5_back (va_wsS RX5 48 yX5_bring wsX5_bring) := goodIn_app (goodIn_of _ (by decide +kernel)) ggX5_back_X5_bring
theorem dX5_back_0 : decode cX5_back 0 = .ok (.aload_n 0, 1) := by decide +kernel
theorem dX5_back_1 : decode cX5_back 1 = .ok (.getfield 45, 3) := by decide +kernel
theorem dX5_back_4 : decode cX5_back 4 = .ok (.ifCond .ne 8, 3) := by decide +kernel
theorem dX5_back_7 : decode cX5_back 7 = .ok (.aload_n 0, 1) := by decide +kernel
theorem dX5_back_8 : decode cX5_back 8 = .ok (.invokevirtual 146, 3) := by decide +kernel
theorem dX5_back_11 : decode cX5_back 11 = .ok (.ireturn, 1) := by decide +kernel
theorem dX5_back_12 : decode cX5_back 12 = .ok (.aload_n 0, 1) := by decide +kernel
theorem dX5_back_13 : decode cX5_back 13 = .ok (.dup, 1) := by decide +kernel
theorem dX5_back_14 : decode cX5_back 14 = .ok (.getfield 45, 3) := by decide +kernel
theorem dX5_back_17 : decode cX5_back 17 = .ok (.iconst 1, 1) := by decide +kernel
theorem dX5_back_18 : decode cX5_back 18 = .ok (.isub, 1) := by decide +kernel
theorem dX5_back_19 : decode cX5_back 19 = .ok (.putfield 45, 3) := by decide +kernel
theorem dX5_back_22 : decode cX5_back 22 = .ok (.aload_n 0, 1) := by decide +kernel
theorem dX5_back_23 : decode cX5_back 23 = .ok (.getfield 13, 3) := by decide +kernel
theorem dX5_back_26 : decode cX5_back 26 = .ok (.bipush 80, 2) := by decide +kernel
theorem dX5_back_28 : decode cX5_back 28 = .ok (.aload_n 0, 1) := by decide +kernel
theorem dX5_back_29 : decode cX5_back 29 = .ok (.getfield 45, 3) := by decide +kernel
theorem dX5_back_32 : decode cX5_back 32 = .ok (.imul, 1) := by decide +kernel
theorem dX5_back_33 : decode cX5_back 33 = .ok (.aload_n 0, 1) := by decide +kernel
theorem dX5_back_34 : decode cX5_back 34 = .ok (.getfield 7, 3) := by decide +kernel
theorem dX5_back_37 : decode cX5_back 37 = .ok (.iconst 0, 1) := by decide +kernel
theorem dX5_back_38 : decode cX5_back 38 = .ok (.bipush 80, 2) := by decide +kernel
theorem dX5_back_40 : decode cX5_back 40 = .ok (.invokestatic 48, 3) := by decide +kernel
theorem dX5_back_43 : decode cX5_back 43 = .ok (.aload_n 0, 1) := by decide +kernel
theorem dX5_back_44 : decode cX5_back 44 = .ok (.getfield 45, 3) := by decide +kernel
theorem dX5_back_47 : decode cX5_back 47 = .ok (.ireturn, 1) := by decide +kernel
theorem dX5_tells_0 : decode cX5_tells 0 = .ok (.iload_n 1, 1) := by decide +kernel
theorem dX5_tells_1 : decode cX5_tells 1 = .ok (.iconst 3, 1) := by decide +kernel
theorem dX5_tells_2 : decode cX5_tells 2 = .ok (.if_icmp .ge 10, 3) := by decide +kernel
theorem dX5_tells_5 : decode cX5_tells 5 = .ok (.aload_n 0, 1) := by decide +kernel
theorem dX5_tells_6 : decode cX5_tells 6 = .ok (.getfield 16, 3) := by decide +kernel
theorem dX5_tells_9 : decode cX5_tells 9 = .ok (.iload_n 1, 1) := by decide +kernel
theorem dX5_tells_10 : decode cX5_tells 10 = .ok (.iaload, 1) := by decide +kernel
theorem dX5_tells_11 : decode cX5_tells 11 = .ok (.ireturn, 1) := by decide +kernel
theorem dX5_tells_12 : decode cX5_tells 12 = .ok (.iload_n 1, 1) := by decide +kernel
theorem dX5_tells_13 : decode cX5_tells 13 = .ok (.bipush 11, 2) := by decide +kernel
theorem dX5_tells_15 : decode cX5_tells 15 = .ok (.if_icmp .ge 14, 3) := by decide +kernel
theorem dX5_tells_18 : decode cX5_tells 18 = .ok (.aload_n 0, 1) := by decide +kernel
theorem dX5_tells_19 : decode cX5_tells 19 = .ok (.getfield 7, 3) := by decide +kernel
theorem dX5_tells_22 : decode cX5_tells 22 = .ok (.iload_n 1, 1) := by decide +kernel
theorem dX5_tells_23 : decode cX5_tells 23 = .ok (.iconst 3, 1) := by decide +kernel
theorem dX5_tells_24 : decode cX5_tells 24 = .ok (.isub, 1) := by decide +kernel
theorem dX5_tells_25 : decode cX5_tells 25 = .ok (.iaload, 1) := by decide +kernel
theorem dX5_tells_26 : decode cX5_tells 26 = .ok (.goto 20, 3) := by decide +kernel
theorem dX5_tells_29 : decode cX5_tells 29 = .ok (.iload_n 1, 1) := by decide +kernel
theorem dX5_tells_30 : decode cX5_tells 30 = .ok (.bipush 11, 2) := by decide +kernel
theorem dX5_tells_32 : decode cX5_tells 32 = .ok (.if_icmp .ne 10, 3) := by decide +kernel
theorem dX5_tells_35 : decode cX5_tells 35 = .ok (.aload_n 0, 1) := by decide +kernel
theorem dX5_tells_36 : decode cX5_tells 36 = .ok (.getfield 189, 3) := by decide +kernel
theorem dX5_tells_39 : decode cX5_tells 39 = .ok (.goto 7, 3) := by decide +kernel
theorem dX5_tells_42 : decode cX5_tells 42 = .ok (.aload_n 0, 1) := by decide +kernel
theorem dX5_tells_43 : decode cX5_tells 43 = .ok (.getfield 45, 3) := by decide +kernel
theorem dX5_tells_46 : decode cX5_tells 46 = .ok (.ireturn, 1) := by decide +kernel
set_option maxRecDepth 20000 in
theorem ggX5_told_X5_in : GoodIn wsX5_told wsX5_in := goodIn_r _ [4] (by decide +kernel) (by decide +kernel)
set_option maxRecDepth 20000 in
theorem gX5_told_X5_in : GoodIn wsX5_told (va_wsS RX5 41 yX5_in wsX5_in) := goodIn_app (goodIn_of _ (by decide +kernel)) ggX5_told_X5_in
set_option maxRecDepth 20000 in
theorem ggX5_told_X5_tells : GoodIn wsX5_told wsX5_tells := goodIn_r _ [8, 9, 10, 11, 12, 17, 18, 19, 20, 21, 22, 23, 24, 25, 26, 27, 28, 29, 30, 31] (by decide +kernel) (by decide +kernel)
set_option maxRecDepth 20000 in
theorem gX5_told_X5_tells : GoodIn wsX5_told (wsV RX5 224 RX5 yX5_tells wsX5_tells) := goodIn_app (goodIn_of _ (by decide +kernel)) ggX5_told_X5_tells
set_option maxRecDepth 20000 in
theorem ggX5_told_X5_bad : GoodIn wsX5_told wsX5_bad := goodIn_r _ [16, 9, 17, 18, 19, 20, 21, 22, 23, 24, 25, 26, 27, 28, 29, 30, 31] (by decide +kernel) (by decide +kernel)
set_option maxRecDepth 20000 in
theorem gX5_told_X5_bad : GoodIn wsX5_told (wsV RX5 107 RX5 yX5_bad wsX5_bad) := goodIn_app (goodIn_of _ (by decide +kernel)) ggX5_told_X5_bad
theorem dX5_told_0 : decode cX5_told 0 = .ok (.iload_n 1, 1) := by decide +kernel
theorem dX5_told_1 : decode cX5_told 1 = .ok (.iconst 0, 1) := by decide +kernel
theorem dX5_told_2 : decode cX5_told 2 = .ok (.bipush 12, 2) := by decide +kernel
theorem dX5_told_4 : decode cX5_told 4 = .ok (.invokestatic 41, 3) := by decide +kernel
theorem dX5_told_7 : decode cX5_told 7 = .ok (.ifCond .eq 11, 3) := by decide +kernel
theorem dX5_told_10 : decode cX5_told 10 = .ok (.aload_n 0, 1) := by decide +kernel
theorem dX5_told_11 : decode cX5_told 11 = .ok (.iload_n 1, 1) := by decide +kernel
theorem dX5_told_12 : decode cX5_told 12 = .ok (.invokevirtual 224, 3) := by decide +kernel
theorem dX5_told_15 : decode cX5_told 15 = .ok (.goto 7, 3) := by decide +kernel
theorem dX5_told_18 : decode cX5_told 18 = .ok (.aload_n 0, 1) := by decide +kernel
theorem dX5_told_19 : decode cX5_told 19 = .ok (.invokevirtual 107, 3) := by decide +kernel
theorem dX5_told_22 : decode cX5_told 22 = .ok (.ireturn, 1) := by decide +kernel
set_option maxRecDepth 20000 in
theorem ggX5_digest_X5_tells : GoodIn wsX5_digest wsX5_tells := goodIn_r _ [8, 9, 3, 10, 11, 87, 88, 89, 90, 91, 92, 93, 94, 95, 96, 97, 98, 99, 100, 101] (by decide +kernel) (by decide +kernel)
set_option maxRecDepth 20000 in
theorem gX5_digest_X5_tells : GoodIn wsX5_digest (wsV RX5 224 RX5 yX5_tells wsX5_tells) := goodIn_app (goodIn_of _ (by decide +kernel)) ggX5_digest_X5_tells
set_option maxRecDepth 20000 in
theorem ggX5_digest_X5_dots : GoodIn wsX5_digest wsX5_dots := goodIn_r _ [15, 3, 87, 88, 89, 90, 91, 92, 93, 94, 95, 96, 97, 98, 99, 100, 101] (by decide +kernel) (by decide +kernel)
set_option maxRecDepth 20000 in
theorem gX5_digest_X5_dots : GoodIn wsX5_digest (wsV RX5 80 RX5 yX5_dots wsX5_dots) := goodIn_app (goodIn_of _ (by decide +kernel)) ggX5_digest_X5_dots
set_option maxRecDepth 20000 in
theorem ggX5_digest_X5_bestCost : GoodIn wsX5_digest wsX5_bestCost := goodIn_r _ [19, 20, 21, 22, 7, 23, 3, 24, 25, 26, 27, 28, 29, 30, 31, 32, 33, 34, 12, 13, 14, 15, 35, 36, 37, 38, 39, 40, 41, 42, 43, 44, 45, 46, 47, 48, 49, 50, 51, 52, 53, 54, 55, 56, 57, 58, 59, 60, 61, 62, 63, 64, 65, 66, 67, 68, 69, 70, 71, 72, 73, 74, 87, 88, 89, 90, 91, 92, 93, 94, 95, 96, 97, 98, 99, 100, 101] (by decide +kernel) (by decide +kernel)
set_option maxRecDepth 20000 in
theorem gX5_digest_X5_bestCost : GoodIn wsX5_digest (wsV RX5 101 RX5 yX5_bestCost wsX5_bestCost) := goodIn_app (goodIn_of _ (by decide +kernel)) ggX5_digest_X5_bestCost
set_option maxRecDepth 20000 in
theorem ggX5_digest_X5_sideOf : GoodIn wsX5_digest wsX5_sideOf := goodIn_r _ [78, 16, 17, 18, 7, 19, 20, 21, 22, 23, 3, 24, 25, 26, 27, 28, 29, 30, 31, 32, 33, 34, 12, 13, 14, 15, 35, 36, 37, 38, 39, 40, 41, 42, 43, 44, 45, 46, 47, 48, 49, 50, 51, 52, 53, 54, 55, 56, 57, 58, 59, 60, 61, 62, 63, 64, 65, 66, 67, 68, 69, 70, 71, 72, 73, 74, 79, 80, 81, 82, 83, 84, 85, 86, 87, 88, 89, 90, 91, 92, 93, 94, 95, 96, 97, 98, 99, 100, 101] (by decide +kernel) (by decide +kernel)
set_option maxRecDepth 20000 in
theorem gX5_digest_X5_sideOf : GoodIn wsX5_digest (wsV RX5 134 RX5 yX5_sideOf wsX5_sideOf) := goodIn_app (goodIn_of _ (by decide +kernel)) ggX5_digest_X5_sideOf
theorem dX5_digest_0 : decode cX5_digest 0 = .ok (.ldc2_w 227, 3) := by decide +kernel
theorem dX5_digest_3 : decode cX5_digest 3 = .ok (.lstore_n 1, 1) := by decide +kernel
theorem dX5_digest_4 : decode cX5_digest 4 = .ok (.iconst 0, 1) := by decide +kernel
theorem dX5_digest_5 : decode cX5_digest 5 = .ok (.istore_n 3, 1) := by decide +kernel
theorem dX5_digest_6 : decode cX5_digest 6 = .ok (.iload_n 3, 1) := by decide +kernel
theorem dX5_digest_7 : decode cX5_digest 7 = .ok (.bipush 12, 2) := by decide +kernel
theorem dX5_digest_9 : decode cX5_digest 9 = .ok (.if_icmp .gt 22, 3) := by decide +kernel
theorem dX5_digest_12 : decode cX5_digest 12 = .ok (.ldc2_w 229, 3) := by decide +kernel
theorem dX5_digest_15 : decode cX5_digest 15 = .ok (.lload_n 1, 1) := by decide +kernel
theorem dX5_digest_16 : decode cX5_digest 16 = .ok (.lmul, 1) := by decide +kernel
theorem dX5_digest_17 : decode cX5_digest 17 = .ok (.aload_n 0, 1) := by decide +kernel
theorem dX5_digest_18 : decode cX5_digest 18 = .ok (.iload_n 3, 1) := by decide +kernel
theorem dX5_digest_19 : decode cX5_digest 19 = .ok (.invokevirtual 224, 3) := by decide +kernel
theorem dX5_digest_22 : decode cX5_digest 22 = .ok (.i2l, 1) := by decide +kernel
theorem dX5_digest_23 : decode cX5_digest 23 = .ok (.ladd, 1) := by decide +kernel
theorem dX5_digest_24 : decode cX5_digest 24 = .ok (.lstore_n 1, 1) := by decide +kernel
theorem dX5_digest_25 : decode cX5_digest 25 = .ok (.iinc 3 1, 3) := by decide +kernel
theorem dX5_digest_28 : decode cX5_digest 28 = .ok (.goto (-22), 3) := by decide +kernel
theorem dX5_digest_31 : decode cX5_digest 31 = .ok (.iconst 0, 1) := by decide +kernel
theorem dX5_digest_32 : decode cX5_digest 32 = .ok (.istore_n 3, 1) := by decide +kernel
theorem dX5_digest_33 : decode cX5_digest 33 = .ok (.iload_n 3, 1) := by decide +kernel
theorem dX5_digest_34 : decode cX5_digest 34 = .ok (.aload_n 0, 1) := by decide +kernel
theorem dX5_digest_35 : decode cX5_digest 35 = .ok (.invokevirtual 80, 3) := by decide +kernel
theorem dX5_digest_38 : decode cX5_digest 38 = .ok (.if_icmp .ge 43, 3) := by decide +kernel
theorem dX5_digest_41 : decode cX5_digest 41 = .ok (.ldc2_w 229, 3) := by decide +kernel
theorem dX5_digest_44 : decode cX5_digest 44 = .ok (.lload_n 1, 1) := by decide +kernel
theorem dX5_digest_45 : decode cX5_digest 45 = .ok (.lmul, 1) := by decide +kernel
theorem dX5_digest_46 : decode cX5_digest 46 = .ok (.aload_n 0, 1) := by decide +kernel
theorem dX5_digest_47 : decode cX5_digest 47 = .ok (.getfield 7, 3) := by decide +kernel
theorem dX5_digest_50 : decode cX5_digest 50 = .ok (.bipush 8, 2) := by decide +kernel
theorem dX5_digest_52 : decode cX5_digest 52 = .ok (.iload_n 3, 1) := by decide +kernel
theorem dX5_digest_53 : decode cX5_digest 53 = .ok (.iadd, 1) := by decide +kernel
theorem dX5_digest_54 : decode cX5_digest 54 = .ok (.iaload, 1) := by decide +kernel
theorem dX5_digest_55 : decode cX5_digest 55 = .ok (.i2l, 1) := by decide +kernel
theorem dX5_digest_56 : decode cX5_digest 56 = .ok (.ladd, 1) := by decide +kernel
theorem dX5_digest_57 : decode cX5_digest 57 = .ok (.lstore_n 1, 1) := by decide +kernel
theorem dX5_digest_58 : decode cX5_digest 58 = .ok (.ldc2_w 229, 3) := by decide +kernel
theorem dX5_digest_61 : decode cX5_digest 61 = .ok (.lload_n 1, 1) := by decide +kernel
theorem dX5_digest_62 : decode cX5_digest 62 = .ok (.lmul, 1) := by decide +kernel
theorem dX5_digest_63 : decode cX5_digest 63 = .ok (.aload_n 0, 1) := by decide +kernel
theorem dX5_digest_64 : decode cX5_digest 64 = .ok (.getfield 7, 3) := by decide +kernel
theorem dX5_digest_67 : decode cX5_digest 67 = .ok (.bipush 44, 2) := by decide +kernel
theorem dX5_digest_69 : decode cX5_digest 69 = .ok (.iload_n 3, 1) := by decide +kernel
theorem dX5_digest_70 : decode cX5_digest 70 = .ok (.iadd, 1) := by decide +kernel
theorem dX5_digest_71 : decode cX5_digest 71 = .ok (.iaload, 1) := by decide +kernel
theorem dX5_digest_72 : decode cX5_digest 72 = .ok (.i2l, 1) := by decide +kernel
theorem dX5_digest_73 : decode cX5_digest 73 = .ok (.ladd, 1) := by decide +kernel
theorem dX5_digest_74 : decode cX5_digest 74 = .ok (.lstore_n 1, 1) := by decide +kernel
theorem dX5_digest_75 : decode cX5_digest 75 = .ok (.iinc 3 1, 3) := by decide +kernel
theorem dX5_digest_78 : decode cX5_digest 78 = .ok (.goto (-45), 3) := by decide +kernel
theorem dX5_digest_81 : decode cX5_digest 81 = .ok (.ldc2_w 229, 3) := by decide +kernel
theorem dX5_digest_84 : decode cX5_digest 84 = .ok (.lload_n 1, 1) := by decide +kernel
theorem dX5_digest_85 : decode cX5_digest 85 = .ok (.lmul, 1) := by decide +kernel
theorem dX5_digest_86 : decode cX5_digest 86 = .ok (.aload_n 0, 1) := by decide +kernel
theorem dX5_digest_87 : decode cX5_digest 87 = .ok (.invokevirtual 101, 3) := by decide +kernel
theorem dX5_digest_90 : decode cX5_digest 90 = .ok (.i2l, 1) := by decide +kernel
theorem dX5_digest_91 : decode cX5_digest 91 = .ok (.ladd, 1) := by decide +kernel
theorem dX5_digest_92 : decode cX5_digest 92 = .ok (.lstore_n 1, 1) := by decide +kernel
theorem dX5_digest_93 : decode cX5_digest 93 = .ok (.ldc2_w 229, 3) := by decide +kernel
theorem dX5_digest_96 : decode cX5_digest 96 = .ok (.lload_n 1, 1) := by decide +kernel
theorem dX5_digest_97 : decode cX5_digest 97 = .ok (.lmul, 1) := by decide +kernel
theorem dX5_digest_98 : decode cX5_digest 98 = .ok (.aload_n 0, 1) := by decide +kernel
theorem dX5_digest_99 : decode cX5_digest 99 = .ok (.iconst 0, 1) := by decide +kernel
theorem dX5_digest_100 : decode cX5_digest 100 = .ok (.invokevirtual 134, 3) := by decide +kernel
theorem dX5_digest_103 : decode cX5_digest 103 = .ok (.ladd, 1) := by decide +kernel
theorem dX5_digest_104 : decode cX5_digest 104 = .ok (.lstore_n 1, 1) := by decide +kernel
theorem dX5_digest_105 : decode cX5_digest 105 = .ok (.ldc2_w 229, 3) := by decide +kernel
theorem dX5_digest_108 : decode cX5_digest 108 = .ok (.lload_n 1, 1) := by decide +kernel
theorem dX5_digest_109 : decode cX5_digest 109 = .ok (.lmul, 1) := by decide +kernel
theorem dX5_digest_110 : decode cX5_digest 110 = .ok (.aload_n 0, 1) := by decide +kernel
theorem dX5_digest_111 : decode cX5_digest 111 = .ok (.iconst 1, 1) := by decide +kernel
theorem dX5_digest_112 : decode cX5_digest 112 = .ok (.invokevirtual 134, 3) := by decide +kernel
theorem dX5_digest_115 : decode cX5_digest 115 = .ok (.ladd, 1) := by decide +kernel
theorem dX5_digest_116 : decode cX5_digest 116 = .ok (.lreturn, 1) := by decide +kernel
