set_option maxRecDepth 20000 in
theorem ggX4_init_X2_init : GoodIn wsX4_init wsX2_init := goodIn_r _ [22, 23, 2, 3, 24, 25, 26, 27, 28, 29, 51, 52, 53, 54, 55] (by decide +kernel) (by decide +kernel)
set_option maxRecDepth 20000 in
theorem gX4_init_X2_init : GoodIn wsX4_init (wsX2_init) := ggX4_init_X2_init
set_option maxRecDepth 20000 in
theorem ggX4_init_X0_init : GoodIn wsX4_init wsX0_init := goodIn_r _ [32, 33, 2, 3, 34, 35, 5, 6, 36, 21, 22, 23, 24, 25, 26, 27, 28, 29, 63, 64, 65, 51, 52, 53, 54, 55] (by decide +kernel) (by decide +kernel)
set_option maxRecDepth 20000 in
theorem gX4_init_X0_init : GoodIn wsX4_init (wsX0_init) := ggX4_init_X0_init
set_option maxRecDepth 20000 in
theorem ggX4_init_X1_init : GoodIn wsX4_init wsX1_init := goodIn_r _ [38, 39, 2, 3, 24, 40, 41, 42, 43, 44, 45, 66, 67, 68, 69, 70, 71, 72, 73] (by decide +kernel) (by decide +kernel)
set_option maxRecDepth 20000 in
theorem gX4_init_X1_init_n25 : GoodIn wsX4_init (wsX1_init) := ggX4_init_X1_init
set_option maxRecDepth 20000 in
theorem ggX4_init_X3_init : GoodIn wsX4_init wsX3_init := goodIn_r _ [47, 48, 2, 3, 24, 49, 50, 74, 75, 76, 77, 78, 79, 80] (by decide +kernel) (by decide +kernel)
set_option maxRecDepth 20000 in
theorem gX4_init_X3_init_n32 : GoodIn wsX4_init (wsX3_init) := ggX4_init_X3_init
theorem dX4_init_0 : decode cX4_init 0 = .ok (.aload_n 0, 1) := by decide +kernel
theorem dX4_init_1 : decode cX4_init 1 = .ok (.invokespecial 3, 3) := by decide +kernel
theorem dX4_init_4 : decode cX4_init 4 = .ok (.aload_n 0, 1) := by decide +kernel
theorem dX4_init_5 : decode cX4_init 5 = .ok (.new 9, 3) := by decide +kernel
theorem dX4_init_8 : decode cX4_init 8 = .ok (.dup, 1) := by decide +kernel
theorem dX4_init_9 : decode cX4_init 9 = .ok (.invokespecial 11, 3) := by decide +kernel
theorem dX4_init_12 : decode cX4_init 12 = .ok (.putfield 12, 3) := by decide +kernel
theorem dX4_init_15 : decode cX4_init 15 = .ok (.aload_n 0, 1) := by decide +kernel
theorem dX4_init_16 : decode cX4_init 16 = .ok (.new 16, 3) := by decide +kernel
theorem dX4_init_19 : decode cX4_init 19 = .ok (.dup, 1) := by decide +kernel
theorem dX4_init_20 : decode cX4_init 20 = .ok (.invokespecial 18, 3) := by decide +kernel
theorem dX4_init_23 : decode cX4_init 23 = .ok (.putfield 19, 3) := by decide +kernel
theorem dX4_init_26 : decode cX4_init 26 = .ok (.aload_n 0, 1) := by decide +kernel
theorem dX4_init_27 : decode cX4_init 27 = .ok (.new 23, 3) := by decide +kernel
theorem dX4_init_30 : decode cX4_init 30 = .ok (.dup, 1) := by decide +kernel
theorem dX4_init_31 : decode cX4_init 31 = .ok (.invokespecial 25, 3) := by decide +kernel
theorem dX4_init_34 : decode cX4_init 34 = .ok (.putfield 26, 3) := by decide +kernel
theorem dX4_init_37 : decode cX4_init 37 = .ok (.aload_n 0, 1) := by decide +kernel
theorem dX4_init_38 : decode cX4_init 38 = .ok (.new 30, 3) := by decide +kernel
theorem dX4_init_41 : decode cX4_init 41 = .ok (.dup, 1) := by decide +kernel
theorem dX4_init_42 : decode cX4_init 42 = .ok (.invokespecial 32, 3) := by decide +kernel
theorem dX4_init_45 : decode cX4_init 45 = .ok (.putfield 33, 3) := by decide +kernel
theorem dX4_init_48 : decode cX4_init 48 = .ok (.return_, 1) := by decide +kernel
set_option maxRecDepth 20000 in
theorem ggX4_picture_X4_isWithin : GoodIn wsX4_picture wsX4_isWithin := goodIn_r _ [6] (by decide +kernel) (by decide +kernel)
set_option maxRecDepth 20000 in
theorem gX4_picture_X4_isWithin : GoodIn wsX4_picture (va_wsS RX4 37 yX4_isWithin wsX4_isWithin) := goodIn_app (goodIn_of _ (by decide +kernel)) ggX4_picture_X4_isWithin
set_option maxRecDepth 20000 in
theorem ggX4_picture_X4_refuseBad : GoodIn wsX4_picture wsX4_refuseBad := goodIn_r _ [10, 11, 46, 47, 48, 49, 50, 51, 52] (by decide +kernel) (by decide +kernel)
set_option maxRecDepth 20000 in
theorem gX4_picture_X4_refuseBad : GoodIn wsX4_picture (wsV RX4 41 RX4 yX4_refuseBad wsX4_refuseBad) := goodIn_app (goodIn_of _ (by decide +kernel)) ggX4_picture_X4_refuseBad
set_option maxRecDepth 20000 in
theorem ggX4_picture_X0_remember : GoodIn wsX4_picture wsX0_remember := goodIn_r _ [16, 17, 18, 19, 20, 21, 22, 23, 24, 25, 26, 27, 28, 29, 30, 31, 32, 33, 34, 35, 36, 37, 53, 54, 55, 56, 57, 58, 59, 60] (by decide +kernel) (by decide +kernel)
set_option maxRecDepth 20000 in
theorem gX4_picture_X0_remember : GoodIn wsX4_picture (wsV RX4 45 RX0 yX0_remember wsX0_remember) := goodIn_app (goodIn_of _ (by decide +kernel)) ggX4_picture_X0_remember
set_option maxRecDepth 20000 in
theorem ggX4_picture_X2_startBlank : GoodIn wsX4_picture wsX2_startBlank := goodIn_r _ [41, 29, 30, 36, 37, 56, 57, 58, 59, 60] (by decide +kernel) (by decide +kernel)
set_option maxRecDepth 20000 in
theorem gX4_picture_X2_startBlank : GoodIn wsX4_picture (wsV RX4 49 RX2 yX2_startBlank wsX2_startBlank) := goodIn_app (goodIn_of _ (by decide +kernel)) ggX4_picture_X2_startBlank
set_option maxRecDepth 20000 in
theorem ggX4_picture_X2_dots : GoodIn wsX4_picture wsX2_dots := goodIn_r _ [45, 29, 30, 56, 57, 58, 59, 60] (by decide +kernel) (by decide +kernel)
set_option maxRecDepth 20000 in
theorem gX4_picture_X2_dots : GoodIn wsX4_picture (wsV RX4 53 RX2 yX2_dots wsX2_dots) := goodIn_app (goodIn_of _ (by decide +kernel)) ggX4_picture_X2_dots
theorem dX4_picture_0 : decode cX4_picture 0 = .ok (.iload_n 1, 1) := by decide +kernel
theorem dX4_picture_1 : decode cX4_picture 1 = .ok (.iconst 2, 1) := by decide +kernel
theorem dX4_picture_2 : decode cX4_picture 2 = .ok (.bipush 6, 2) := by decide +kernel
theorem dX4_picture_4 : decode cX4_picture 4 = .ok (.invokestatic 37, 3) := by decide +kernel
theorem dX4_picture_7 : decode cX4_picture 7 = .ok (.ifCond .eq 13, 3) := by decide +kernel
theorem dX4_picture_10 : decode cX4_picture 10 = .ok (.iload_n 2, 1) := by decide +kernel
theorem dX4_picture_11 : decode cX4_picture 11 = .ok (.iconst 2, 1) := by decide +kernel
theorem dX4_picture_12 : decode cX4_picture 12 = .ok (.bipush 6, 2) := by decide +kernel
theorem dX4_picture_14 : decode cX4_picture 14 = .ok (.invokestatic 37, 3) := by decide +kernel
theorem dX4_picture_17 : decode cX4_picture 17 = .ok (.ifCond .ne 8, 3) := by decide +kernel
theorem dX4_picture_20 : decode cX4_picture 20 = .ok (.aload_n 0, 1) := by decide +kernel
theorem dX4_picture_21 : decode cX4_picture 21 = .ok (.invokevirtual 41, 3) := by decide +kernel
theorem dX4_picture_24 : decode cX4_picture 24 = .ok (.ireturn, 1) := by decide +kernel
theorem dX4_picture_25 : decode cX4_picture 25 = .ok (.aload_n 0, 1) := by decide +kernel
theorem dX4_picture_26 : decode cX4_picture 26 = .ok (.getfield 19, 3) := by decide +kernel
theorem dX4_picture_29 : decode cX4_picture 29 = .ok (.aload_n 0, 1) := by decide +kernel
theorem dX4_picture_30 : decode cX4_picture 30 = .ok (.getfield 12, 3) := by decide +kernel
theorem dX4_picture_33 : decode cX4_picture 33 = .ok (.invokevirtual 45, 3) := by decide +kernel
theorem dX4_picture_36 : decode cX4_picture 36 = .ok (.aload_n 0, 1) := by decide +kernel
theorem dX4_picture_37 : decode cX4_picture 37 = .ok (.getfield 12, 3) := by decide +kernel
theorem dX4_picture_40 : decode cX4_picture 40 = .ok (.iload_n 1, 1) := by decide +kernel
theorem dX4_picture_41 : decode cX4_picture 41 = .ok (.iload_n 2, 1) := by decide +kernel
theorem dX4_picture_42 : decode cX4_picture 42 = .ok (.invokevirtual 49, 3) := by decide +kernel
theorem dX4_picture_45 : decode cX4_picture 45 = .ok (.aload_n 0, 1) := by decide +kernel
theorem dX4_picture_46 : decode cX4_picture 46 = .ok (.getfield 12, 3) := by decide +kernel
theorem dX4_picture_49 : decode cX4_picture 49 = .ok (.invokevirtual 53, 3) := by decide +kernel
theorem dX4_picture_52 : decode cX4_picture 52 = .ok (.ireturn, 1) := by decide +kernel
set_option maxRecDepth 20000 in
theorem ggX4_shade_X2_hasDot : GoodIn wsX4_shade wsX2_hasDot := goodIn_r _ [8, 9, 10, 54, 55, 56, 57, 58] (by decide +kernel) (by decide +kernel)
set_option maxRecDepth 20000 in
theorem gX4_shade_X2_hasDot : GoodIn wsX4_shade (wsV RX4 56 RX2 yX2_hasDot wsX2_hasDot) := goodIn_app (goodIn_of _ (by decide +kernel)) ggX4_shade_X2_hasDot
set_option maxRecDepth 20000 in
theorem ggX4_shade_X4_isWithin : GoodIn wsX4_shade wsX4_isWithin := goodIn_r _ [14] (by decide +kernel) (by decide +kernel)
set_option maxRecDepth 20000 in
theorem gX4_shade_X4_isWithin : GoodIn wsX4_shade (va_wsS RX4 37 yX4_isWithin wsX4_isWithin) := goodIn_app (goodIn_of _ (by decide +kernel)) ggX4_shade_X4_isWithin
set_option maxRecDepth 20000 in
theorem ggX4_shade_X4_refuseBad : GoodIn wsX4_shade wsX4_refuseBad := goodIn_r _ [18, 19, 47, 48, 49, 50, 51, 52, 53] (by decide +kernel) (by decide +kernel)
set_option maxRecDepth 20000 in
theorem gX4_shade_X4_refuseBad : GoodIn wsX4_shade (wsV RX4 41 RX4 yX4_refuseBad wsX4_refuseBad) := goodIn_app (goodIn_of _ (by decide +kernel)) ggX4_shade_X4_refuseBad
set_option maxRecDepth 20000 in
theorem ggX4_shade_X0_remember : GoodIn wsX4_shade wsX0_remember := goodIn_r _ [24, 25, 26, 27, 28, 29, 30, 31, 32, 33, 34, 7, 35, 9, 10, 36, 37, 38, 39, 40, 41, 42, 59, 60, 61, 54, 55, 56, 57, 58] (by decide +kernel) (by decide +kernel)
set_option maxRecDepth 20000 in
theorem gX4_shade_X0_remember : GoodIn wsX4_shade (wsV RX4 45 RX0 yX0_remember wsX0_remember) := goodIn_app (goodIn_of _ (by decide +kernel)) ggX4_shade_X0_remember
set_option maxRecDepth 20000 in
theorem ggX4_shade_X2_numberOf : GoodIn wsX4_shade wsX2_numberOf := goodIn_r _ [46, 9, 54, 55, 56, 57, 58] (by decide +kernel) (by decide +kernel)
set_option maxRecDepth 20000 in
theorem gX4_shade_X2_numberOf : GoodIn wsX4_shade (wsV RX4 60 RX2 yX2_numberOf wsX2_numberOf) := goodIn_app (goodIn_of _ (by decide +kernel)) ggX4_shade_X2_numberOf
theorem dX4_shade_0 : decode cX4_shade 0 = .ok (.aload_n 0, 1) := by decide +kernel
theorem dX4_shade_1 : decode cX4_shade 1 = .ok (.getfield 12, 3) := by decide +kernel
theorem dX4_shade_4 : decode cX4_shade 4 = .ok (.iload_n 1, 1) := by decide +kernel
theorem dX4_shade_5 : decode cX4_shade 5 = .ok (.iload_n 2, 1) := by decide +kernel
theorem dX4_shade_6 : decode cX4_shade 6 = .ok (.invokevirtual 56, 3) := by decide +kernel
theorem dX4_shade_9 : decode cX4_shade 9 = .ok (.ifCond .eq 13, 3) := by decide +kernel
theorem dX4_shade_12 : decode cX4_shade 12 = .ok (.iload_n 3, 1) := by decide +kernel
theorem dX4_shade_13 : decode cX4_shade 13 = .ok (.iconst 0, 1) := by decide +kernel
theorem dX4_shade_14 : decode cX4_shade 14 = .ok (.bipush 9, 2) := by decide +kernel
theorem dX4_shade_16 : decode cX4_shade 16 = .ok (.invokestatic 37, 3) := by decide +kernel
theorem dX4_shade_19 : decode cX4_shade 19 = .ok (.ifCond .ne 8, 3) := by decide +kernel
theorem dX4_shade_22 : decode cX4_shade 22 = .ok (.aload_n 0, 1) := by decide +kernel
theorem dX4_shade_23 : decode cX4_shade 23 = .ok (.invokevirtual 41, 3) := by decide +kernel
theorem dX4_shade_26 : decode cX4_shade 26 = .ok (.ireturn, 1) := by decide +kernel
theorem dX4_shade_27 : decode cX4_shade 27 = .ok (.aload_n 0, 1) := by decide +kernel
theorem dX4_shade_28 : decode cX4_shade 28 = .ok (.getfield 19, 3) := by decide +kernel
theorem dX4_shade_31 : decode cX4_shade 31 = .ok (.aload_n 0, 1) := by decide +kernel
theorem dX4_shade_32 : decode cX4_shade 32 = .ok (.getfield 12, 3) := by decide +kernel
theorem dX4_shade_35 : decode cX4_shade 35 = .ok (.invokevirtual 45, 3) := by decide +kernel
theorem dX4_shade_38 : decode cX4_shade 38 = .ok (.aload_n 0, 1) := by decide +kernel
theorem dX4_shade_39 : decode cX4_shade 39 = .ok (.getfield 12, 3) := by decide +kernel
theorem dX4_shade_42 : decode cX4_shade 42 = .ok (.iload_n 1, 1) := by decide +kernel
theorem dX4_shade_43 : decode cX4_shade 43 = .ok (.iload_n 2, 1) := by decide +kernel
theorem dX4_shade_44 : decode cX4_shade 44 = .ok (.invokevirtual 60, 3) := by decide +kernel
theorem dX4_shade_47 : decode cX4_shade 47 = .ok (.istore 4, 2) := by decide +kernel
theorem dX4_shade_49 : decode cX4_shade 49 = .ok (.aload_n 0, 1) := by decide +kernel
theorem dX4_shade_50 : decode cX4_shade 50 = .ok (.getfield 12, 3) := by decide +kernel
theorem dX4_shade_53 : decode cX4_shade 53 = .ok (.getfield 64, 3) := by decide +kernel
theorem dX4_shade_56 : decode cX4_shade 56 = .ok (.iload 4, 2) := by decide +kernel
theorem dX4_shade_58 : decode cX4_shade 58 = .ok (.iaload, 1) := by decide +kernel
theorem dX4_shade_59 : decode cX4_shade 59 = .ok (.istore 5, 2) := by decide +kernel
theorem dX4_shade_61 : decode cX4_shade 61 = .ok (.aload_n 0, 1) := by decide +kernel
theorem dX4_shade_62 : decode cX4_shade 62 = .ok (.getfield 12, 3) := by decide +kernel
theorem dX4_shade_65 : decode cX4_shade 65 = .ok (.getfield 64, 3) := by decide +kernel
theorem dX4_shade_68 : decode cX4_shade 68 = .ok (.iload 4, 2) := by decide +kernel
theorem dX4_shade_70 : decode cX4_shade 70 = .ok (.iload_n 3, 1) := by decide +kernel
theorem dX4_shade_71 : decode cX4_shade 71 = .ok (.iastore, 1) := by decide +kernel
theorem dX4_shade_72 : decode cX4_shade 72 = .ok (.iload 5, 2) := by decide +kernel
theorem dX4_shade_74 : decode cX4_shade 74 = .ok (.ireturn, 1) := by decide +kernel
set_option maxRecDepth 20000 in
theorem ggX4_draws_X4_isWithin : GoodIn wsX4_draws wsX4_isWithin := goodIn_r _ [12] (by decide +kernel) (by decide +kernel)
set_option maxRecDepth 20000 in
theorem gX4_draws_X4_isWithin : GoodIn wsX4_draws (va_wsS RX4 37 yX4_isWithin wsX4_isWithin) := goodIn_app (goodIn_of _ (by decide +kernel)) ggX4_draws_X4_isWithin
set_option maxRecDepth 20000 in
theorem ggX4_draws_X4_refuseBad : GoodIn wsX4_draws wsX4_refuseBad := goodIn_r _ [16, 17, 48, 49, 50, 51, 52, 53, 54] (by decide +kernel) (by decide +kernel)
set_option maxRecDepth 20000 in
theorem gX4_draws_X4_refuseBad : GoodIn wsX4_draws (wsV RX4 41 RX4 yX4_refuseBad wsX4_refuseBad) := goodIn_app (goodIn_of _ (by decide +kernel)) ggX4_draws_X4_refuseBad
set_option maxRecDepth 20000 in
theorem ggX4_draws_X0_remember : GoodIn wsX4_draws wsX0_remember := goodIn_r _ [22, 23, 24, 25, 26, 27, 28, 29, 30, 31, 32, 33, 34, 35, 36, 37, 38, 39, 40, 41, 42, 43, 60, 61, 62, 55, 56, 57, 58, 59] (by decide +kernel) (by decide +kernel)
set_option maxRecDepth 20000 in
theorem gX4_draws_X0_remember : GoodIn wsX4_draws (wsV RX4 45 RX0 yX0_remember wsX0_remember) := goodIn_app (goodIn_of _ (by decide +kernel)) ggX4_draws_X0_remember
set_option maxRecDepth 20000 in
theorem ggX4_draws_X2_dots : GoodIn wsX4_draws wsX2_dots := goodIn_r _ [47, 35, 36, 55, 56, 57, 58, 59] (by decide +kernel) (by decide +kernel)
set_option maxRecDepth 20000 in
theorem gX4_draws_X2_dots : GoodIn wsX4_draws (wsV RX4 53 RX2 yX2_dots wsX2_dots) := goodIn_app (goodIn_of _ (by decide +kernel)) ggX4_draws_X2_dots
theorem dX4_draws_0 : decode cX4_draws 0 = .ok (.iload_n 1, 1) := by decide +kernel
theorem dX4_draws_1 : decode cX4_draws 1 = .ok (.iconst 0, 1) := by decide +kernel
theorem dX4_draws_2 : decode cX4_draws 2 = .ok (.ldc 68, 2) := by decide +kernel
theorem dX4_draws_4 : decode cX4_draws 4 = .ok (.invokestatic 37, 3) := by decide +kernel
theorem dX4_draws_7 : decode cX4_draws 7 = .ok (.ifCond .eq 13, 3) := by decide +kernel
theorem dX4_draws_10 : decode cX4_draws 10 = .ok (.iload_n 2, 1) := by decide +kernel
theorem dX4_draws_11 : decode cX4_draws 11 = .ok (.iconst 1, 1) := by decide +kernel
theorem dX4_draws_12 : decode cX4_draws 12 = .ok (.bipush 10, 2) := by decide +kernel
theorem dX4_draws_14 : decode cX4_draws 14 = .ok (.invokestatic 37, 3) := by decide +kernel
theorem dX4_draws_17 : decode cX4_draws 17 = .ok (.ifCond .ne 8, 3) := by decide +kernel
theorem dX4_draws_20 : decode cX4_draws 20 = .ok (.aload_n 0, 1) := by decide +kernel
theorem dX4_draws_21 : decode cX4_draws 21 = .ok (.invokevirtual 41, 3) := by decide +kernel
theorem dX4_draws_24 : decode cX4_draws 24 = .ok (.ireturn, 1) := by decide +kernel
theorem dX4_draws_25 : decode cX4_draws 25 = .ok (.aload_n 0, 1) := by decide +kernel
theorem dX4_draws_26 : decode cX4_draws 26 = .ok (.getfield 19, 3) := by decide +kernel
theorem dX4_draws_29 : decode cX4_draws 29 = .ok (.aload_n 0, 1) := by decide +kernel
theorem dX4_draws_30 : decode cX4_draws 30 = .ok (.getfield 12, 3) := by decide +kernel
theorem dX4_draws_33 : decode cX4_draws 33 = .ok (.invokevirtual 45, 3) := by decide +kernel
theorem dX4_draws_36 : decode cX4_draws 36 = .ok (.iload_n 1, 1) := by decide +kernel
theorem dX4_draws_37 : decode cX4_draws 37 = .ok (.i2l, 1) := by decide +kernel
theorem dX4_draws_38 : decode cX4_draws 38 = .ok (.lstore_n 3, 1) := by decide +kernel
theorem dX4_draws_39 : decode cX4_draws 39 = .ok (.iconst 0, 1) := by decide +kernel
theorem dX4_draws_40 : decode cX4_draws 40 = .ok (.istore 5, 2) := by decide +kernel
theorem dX4_draws_42 : decode cX4_draws 42 = .ok (.iconst 0, 1) := by decide +kernel
theorem dX4_draws_43 : decode cX4_draws 43 = .ok (.istore 6, 2) := by decide +kernel
theorem dX4_draws_45 : decode cX4_draws 45 = .ok (.iload 6, 2) := by decide +kernel
theorem dX4_draws_47 : decode cX4_draws 47 = .ok (.aload_n 0, 1) := by decide +kernel
theorem dX4_draws_48 : decode cX4_draws 48 = .ok (.getfield 12, 3) := by decide +kernel
theorem dX4_draws_51 : decode cX4_draws 51 = .ok (.invokevirtual 53, 3) := by decide +kernel
theorem dX4_draws_54 : decode cX4_draws 54 = .ok (.if_icmp .ge 57, 3) := by decide +kernel
theorem dX4_draws_57 : decode cX4_draws 57 = .ok (.lload_n 3, 1) := by decide +kernel
theorem dX4_draws_58 : decode cX4_draws 58 = .ok (.ldc2_w 69, 3) := by decide +kernel
theorem dX4_draws_61 : decode cX4_draws 61 = .ok (.lmul, 1) := by decide +kernel
theorem dX4_draws_62 : decode cX4_draws 62 = .ok (.ldc2_w 71, 3) := by decide +kernel
theorem dX4_draws_65 : decode cX4_draws 65 = .ok (.ladd, 1) := by decide +kernel
theorem dX4_draws_66 : decode cX4_draws 66 = .ok (.ldc2_w 73, 3) := by decide +kernel
theorem dX4_draws_69 : decode cX4_draws 69 = .ok (.lrem, 1) := by decide +kernel
theorem dX4_draws_70 : decode cX4_draws 70 = .ok (.lstore_n 3, 1) := by decide +kernel
theorem dX4_draws_71 : decode cX4_draws 71 = .ok (.aload_n 0, 1) := by decide +kernel
theorem dX4_draws_72 : decode cX4_draws 72 = .ok (.getfield 12, 3) := by decide +kernel
theorem dX4_draws_75 : decode cX4_draws 75 = .ok (.getfield 64, 3) := by decide +kernel
theorem dX4_draws_78 : decode cX4_draws 78 = .ok (.iload 6, 2) := by decide +kernel
theorem dX4_draws_80 : decode cX4_draws 80 = .ok (.lload_n 3, 1) := by decide +kernel
theorem dX4_draws_81 : decode cX4_draws 81 = .ok (.ldc2_w 75, 3) := by decide +kernel
theorem dX4_draws_84 : decode cX4_draws 84 = .ok (.ldiv, 1) := by decide +kernel
theorem dX4_draws_85 : decode cX4_draws 85 = .ok (.iload_n 2, 1) := by decide +kernel
theorem dX4_draws_86 : decode cX4_draws 86 = .ok (.i2l, 1) := by decide +kernel
theorem dX4_draws_87 : decode cX4_draws 87 = .ok (.lrem, 1) := by decide +kernel
theorem dX4_draws_88 : decode cX4_draws 88 = .ok (.l2i, 1) := by decide +kernel
theorem dX4_draws_89 : decode cX4_draws 89 = .ok (.iastore, 1) := by decide +kernel
theorem dX4_draws_90 : decode cX4_draws 90 = .ok (.iload 5, 2) := by decide +kernel
theorem dX4_draws_92 : decode cX4_draws 92 = .ok (.aload_n 0, 1) := by decide +kernel
theorem dX4_draws_93 : decode cX4_draws 93 = .ok (.getfield 12, 3) := by decide +kernel
theorem dX4_draws_96 : decode cX4_draws 96 = .ok (.getfield 64, 3) := by decide +kernel
theorem dX4_draws_99 : decode cX4_draws 99 = .ok (.iload 6, 2) := by decide +kernel
theorem dX4_draws_101 : decode cX4_draws 101 = .ok (.iaload, 1) := by decide +kernel
theorem dX4_draws_102 : decode cX4_draws 102 = .ok (.iadd, 1) := by decide +kernel
theorem dX4_draws_103 : decode cX4_draws 103 = .ok (.istore 5, 2) := by decide +kernel
theorem dX4_draws_105 : decode cX4_draws 105 = .ok (.iinc 6 1, 3) := by decide +kernel
theorem dX4_draws_108 : decode cX4_draws 108 = .ok (.goto (-63), 3) := by decide +kernel
theorem dX4_draws_111 : decode cX4_draws 111 = .ok (.iload 5, 2) := by decide +kernel
theorem dX4_draws_113 : decode cX4_draws 113 = .ok (.ireturn, 1) := by decide +kernel
set_option maxRecDepth 20000 in
theorem ggX4_blot_X2_hasDot : GoodIn wsX4_blot wsX2_hasDot := goodIn_r _ [7, 8, 9, 60, 61, 62, 63, 64] (by decide +kernel) (by decide +kernel)
set_option maxRecDepth 20000 in
theorem gX4_blot_X2_hasDot : GoodIn wsX4_blot (wsV RX4 56 RX2 yX2_hasDot wsX2_hasDot) := goodIn_app (goodIn_of _ (by decide +kernel)) ggX4_blot_X2_hasDot
set_option maxRecDepth 20000 in
theorem ggX4_blot_X4_isWithin : GoodIn wsX4_blot wsX4_isWithin := goodIn_r _ [13] (by decide +kernel) (by decide +kernel)
set_option maxRecDepth 20000 in
theorem gX4_blot_X4_isWithin : GoodIn wsX4_blot (va_wsS RX4 37 yX4_isWithin wsX4_isWithin) := goodIn_app (goodIn_of _ (by decide +kernel)) ggX4_blot_X4_isWithin
set_option maxRecDepth 20000 in
theorem ggX4_blot_X4_refuseBad : GoodIn wsX4_blot wsX4_refuseBad := goodIn_r _ [17, 18, 53, 54, 55, 56, 57, 58, 59] (by decide +kernel) (by decide +kernel)
set_option maxRecDepth 20000 in
theorem gX4_blot_X4_refuseBad : GoodIn wsX4_blot (wsV RX4 41 RX4 yX4_refuseBad wsX4_refuseBad) := goodIn_app (goodIn_of _ (by decide +kernel)) ggX4_blot_X4_refuseBad
set_option maxRecDepth 20000 in
theorem ggX4_blot_X0_remember : GoodIn wsX4_blot wsX0_remember := goodIn_r _ [23, 24, 25, 26, 27, 28, 29, 30, 31, 32, 33, 6, 34, 8, 9, 35, 36, 37, 38, 39, 40, 41, 65, 66, 67, 60, 61, 62, 63, 64] (by decide +kernel) (by decide +kernel)
set_option maxRecDepth 20000 in
theorem gX4_blot_X0_remember : GoodIn wsX4_blot (wsV RX4 45 RX0 yX0_remember wsX0_remember) := goodIn_app (goodIn_of _ (by decide +kernel)) ggX4_blot_X0_remember
set_option maxRecDepth 20000 in
theorem ggX4_blot_X2_shadeAround : GoodIn wsX4_blot wsX2_shadeAround := goodIn_r _ [45, 9, 8, 46, 47, 29, 48, 40, 49, 50, 51, 6, 52, 60, 61, 62, 63, 64] (by decide +kernel) (by decide +kernel)
set_option maxRecDepth 20000 in
theorem gX4_blot_X2_shadeAround : GoodIn wsX4_blot (wsV RX4 77 RX2 yX2_shadeAround wsX2_shadeAround) := goodIn_app (goodIn_of _ (by decide +kernel)) ggX4_blot_X2_shadeAround
theorem dX4_blot_0 : decode cX4_blot 0 = .ok (.aload_n 0, 1) := by decide +kernel
theorem dX4_blot_1 : decode cX4_blot 1 = .ok (.getfield 12, 3) := by decide +kernel
theorem dX4_blot_4 : decode cX4_blot 4 = .ok (.iload_n 1, 1) := by decide +kernel
theorem dX4_blot_5 : decode cX4_blot 5 = .ok (.iload_n 2, 1) := by decide +kernel
theorem dX4_blot_6 : decode cX4_blot 6 = .ok (.invokevirtual 56, 3) := by decide +kernel
theorem dX4_blot_9 : decode cX4_blot 9 = .ok (.ifCond .eq 24, 3) := by decide +kernel
theorem dX4_blot_12 : decode cX4_blot 12 = .ok (.iload_n 3, 1) := by decide +kernel
theorem dX4_blot_13 : decode cX4_blot 13 = .ok (.iconst 0, 1) := by decide +kernel
theorem dX4_blot_14 : decode cX4_blot 14 = .ok (.bipush 10, 2) := by decide +kernel
theorem dX4_blot_16 : decode cX4_blot 16 = .ok (.invokestatic 37, 3) := by decide +kernel
theorem dX4_blot_19 : decode cX4_blot 19 = .ok (.ifCond .eq 14, 3) := by decide +kernel
theorem dX4_blot_22 : decode cX4_blot 22 = .ok (.iload 4, 2) := by decide +kernel
theorem dX4_blot_24 : decode cX4_blot 24 = .ok (.iconst 0, 1) := by decide +kernel
theorem dX4_blot_25 : decode cX4_blot 25 = .ok (.bipush 9, 2) := by decide +kernel
theorem dX4_blot_27 : decode cX4_blot 27 = .ok (.invokestatic 37, 3) := by decide +kernel
theorem dX4_blot_30 : decode cX4_blot 30 = .ok (.ifCond .ne 8, 3) := by decide +kernel
theorem dX4_blot_33 : decode cX4_blot 33 = .ok (.aload_n 0, 1) := by decide +kernel
theorem dX4_blot_34 : decode cX4_blot 34 = .ok (.invokevirtual 41, 3) := by decide +kernel
theorem dX4_blot_37 : decode cX4_blot 37 = .ok (.ireturn, 1) := by decide +kernel
theorem dX4_blot_38 : decode cX4_blot 38 = .ok (.aload_n 0, 1) := by decide +kernel
theorem dX4_blot_39 : decode cX4_blot 39 = .ok (.getfield 19, 3) := by decide +kernel
theorem dX4_blot_42 : decode cX4_blot 42 = .ok (.aload_n 0, 1) := by decide +kernel
theorem dX4_blot_43 : decode cX4_blot 43 = .ok (.getfield 12, 3) := by decide +kernel
theorem dX4_blot_46 : decode cX4_blot 46 = .ok (.invokevirtual 45, 3) := by decide +kernel
theorem dX4_blot_49 : decode cX4_blot 49 = .ok (.aload_n 0, 1) := by decide +kernel
theorem dX4_blot_50 : decode cX4_blot 50 = .ok (.getfield 12, 3) := by decide +kernel
theorem dX4_blot_53 : decode cX4_blot 53 = .ok (.iload_n 1, 1) := by decide +kernel
theorem dX4_blot_54 : decode cX4_blot 54 = .ok (.iload_n 2, 1) := by decide +kernel
theorem dX4_blot_55 : decode cX4_blot 55 = .ok (.iload_n 3, 1) := by decide +kernel
theorem dX4_blot_56 : decode cX4_blot 56 = .ok (.iload 4, 2) := by decide +kernel
theorem dX4_blot_58 : decode cX4_blot 58 = .ok (.invokevirtual 77, 3) := by decide +kernel
theorem dX4_blot_61 : decode cX4_blot 61 = .ok (.ireturn, 1) := by decide +kernel
set_option maxRecDepth 20000 in
theorem ggX4_mark_X2_hasDot : GoodIn wsX4_mark wsX2_hasDot := goodIn_r _ [8, 9, 10, 54, 55, 56, 57, 58] (by decide +kernel) (by decide +kernel)
set_option maxRecDepth 20000 in
theorem gX4_mark_X2_hasDot : GoodIn wsX4_mark (wsV RX4 56 RX2 yX2_hasDot wsX2_hasDot) := goodIn_app (goodIn_of _ (by decide +kernel)) ggX4_mark_X2_hasDot
set_option maxRecDepth 20000 in
theorem ggX4_mark_X4_isWithin : GoodIn wsX4_mark wsX4_isWithin := goodIn_r _ [14] (by decide +kernel) (by decide +kernel)
set_option maxRecDepth 20000 in
theorem gX4_mark_X4_isWithin : GoodIn wsX4_mark (va_wsS RX4 37 yX4_isWithin wsX4_isWithin) := goodIn_app (goodIn_of _ (by decide +kernel)) ggX4_mark_X4_isWithin
set_option maxRecDepth 20000 in
theorem ggX4_mark_X4_refuseBad : GoodIn wsX4_mark wsX4_refuseBad := goodIn_r _ [18, 19, 47, 48, 49, 50, 51, 52, 53] (by decide +kernel) (by decide +kernel)
set_option maxRecDepth 20000 in
theorem gX4_mark_X4_refuseBad : GoodIn wsX4_mark (wsV RX4 41 RX4 yX4_refuseBad wsX4_refuseBad) := goodIn_app (goodIn_of _ (by decide +kernel)) ggX4_mark_X4_refuseBad
set_option maxRecDepth 20000 in
theorem ggX4_mark_X0_remember : GoodIn wsX4_mark wsX0_remember := goodIn_r _ [24, 25, 26, 27, 28, 29, 30, 31, 32, 33, 34, 7, 35, 9, 10, 36, 37, 38, 39, 40, 41, 42, 59, 60, 61, 54, 55, 56, 57, 58] (by decide +kernel) (by decide +kernel)
set_option maxRecDepth 20000 in
theorem gX4_mark_X0_remember : GoodIn wsX4_mark (wsV RX4 45 RX0 yX0_remember wsX0_remember) := goodIn_app (goodIn_of _ (by decide +kernel)) ggX4_mark_X0_remember
set_option maxRecDepth 20000 in
theorem ggX4_mark_X2_numberOf : GoodIn wsX4_mark wsX2_numberOf := goodIn_r _ [46, 9, 54, 55, 56, 57, 58] (by decide +kernel) (by decide +kernel)
set_option maxRecDepth 20000 in
theorem gX4_mark_X2_numberOf : GoodIn wsX4_mark (wsV RX4 60 RX2 yX2_numberOf wsX2_numberOf) := goodIn_app (goodIn_of _ (by decide +kernel)) ggX4_mark_X2_numberOf
theorem dX4_mark_0 : decode cX4_mark 0 = .ok (.aload_n 0, 1) := by decide +kernel
theorem dX4_mark_1 : decode cX4_mark 1 = .ok (.getfield 12, 3) := by decide +kernel
theorem dX4_mark_4 : decode cX4_mark 4 = .ok (.iload_n 1, 1) := by decide +kernel
theorem dX4_mark_5 : decode cX4_mark 5 = .ok (.iload_n 2, 1) := by decide +kernel
theorem dX4_mark_6 : decode cX4_mark 6 = .ok (.invokevirtual 56, 3) := by decide +kernel
theorem dX4_mark_9 : decode cX4_mark 9 = .ok (.ifCond .eq 12, 3) := by decide +kernel
theorem dX4_mark_12 : decode cX4_mark 12 = .ok (.iload_n 3, 1) := by decide +kernel
theorem dX4_mark_13 : decode cX4_mark 13 = .ok (.iconst 0, 1) := by decide +kernel
theorem dX4_mark_14 : decode cX4_mark 14 = .ok (.iconst 2, 1) := by decide +kernel
theorem dX4_mark_15 : decode cX4_mark 15 = .ok (.invokestatic 37, 3) := by decide +kernel
theorem dX4_mark_18 : decode cX4_mark 18 = .ok (.ifCond .ne 8, 3) := by decide +kernel
theorem dX4_mark_21 : decode cX4_mark 21 = .ok (.aload_n 0, 1) := by decide +kernel
theorem dX4_mark_22 : decode cX4_mark 22 = .ok (.invokevirtual 41, 3) := by decide +kernel
theorem dX4_mark_25 : decode cX4_mark 25 = .ok (.ireturn, 1) := by decide +kernel
theorem dX4_mark_26 : decode cX4_mark 26 = .ok (.aload_n 0, 1) := by decide +kernel
theorem dX4_mark_27 : decode cX4_mark 27 = .ok (.getfield 19, 3) := by decide +kernel
theorem dX4_mark_30 : decode cX4_mark 30 = .ok (.aload_n 0, 1) := by decide +kernel
theorem dX4_mark_31 : decode cX4_mark 31 = .ok (.getfield 12, 3) := by decide +kernel
theorem dX4_mark_34 : decode cX4_mark 34 = .ok (.invokevirtual 45, 3) := by decide +kernel
theorem dX4_mark_37 : decode cX4_mark 37 = .ok (.aload_n 0, 1) := by decide +kernel
theorem dX4_mark_38 : decode cX4_mark 38 = .ok (.getfield 12, 3) := by decide +kernel
theorem dX4_mark_41 : decode cX4_mark 41 = .ok (.iload_n 1, 1) := by decide +kernel
theorem dX4_mark_42 : decode cX4_mark 42 = .ok (.iload_n 2, 1) := by decide +kernel
theorem dX4_mark_43 : decode cX4_mark 43 = .ok (.invokevirtual 60, 3) := by decide +kernel
theorem dX4_mark_46 : decode cX4_mark 46 = .ok (.istore 4, 2) := by decide +kernel
theorem dX4_mark_48 : decode cX4_mark 48 = .ok (.aload_n 0, 1) := by decide +kernel
theorem dX4_mark_49 : decode cX4_mark 49 = .ok (.getfield 12, 3) := by decide +kernel
theorem dX4_mark_52 : decode cX4_mark 52 = .ok (.getfield 81, 3) := by decide +kernel
theorem dX4_mark_55 : decode cX4_mark 55 = .ok (.iload 4, 2) := by decide +kernel
theorem dX4_mark_57 : decode cX4_mark 57 = .ok (.iaload, 1) := by decide +kernel
theorem dX4_mark_58 : decode cX4_mark 58 = .ok (.istore 5, 2) := by decide +kernel
theorem dX4_mark_60 : decode cX4_mark 60 = .ok (.aload_n 0, 1) := by decide +kernel
theorem dX4_mark_61 : decode cX4_mark 61 = .ok (.getfield 12, 3) := by decide +kernel
theorem dX4_mark_64 : decode cX4_mark 64 = .ok (.getfield 81, 3) := by decide +kernel
theorem dX4_mark_67 : decode cX4_mark 67 = .ok (.iload 4, 2) := by decide +kernel
theorem dX4_mark_69 : decode cX4_mark 69 = .ok (.iload_n 3, 1) := by decide +kernel
theorem dX4_mark_70 : decode cX4_mark 70 = .ok (.iastore, 1) := by decide +kernel
theorem dX4_mark_71 : decode cX4_mark 71 = .ok (.iload 5, 2) := by decide +kernel
theorem dX4_mark_73 : decode cX4_mark 73 = .ok (.ireturn, 1) := by decide +kernel
set_option maxRecDepth 20000 in
theorem ggX4_stroke_X4_isWithin : GoodIn wsX4_stroke wsX4_isWithin := goodIn_r _ [6] (by decide +kernel) (by decide +kernel)
set_option maxRecDepth 20000 in
theorem gX4_stroke_X4_isWithin : GoodIn wsX4_stroke (va_wsS RX4 37 yX4_isWithin wsX4_isWithin) := goodIn_app (goodIn_of _ (by decide +kernel)) ggX4_stroke_X4_isWithin
set_option maxRecDepth 20000 in
theorem ggX4_stroke_X2_hasDot : GoodIn wsX4_stroke wsX2_hasDot := goodIn_r _ [11, 12, 13, 77, 78, 79, 80, 81] (by decide +kernel) (by decide +kernel)
set_option maxRecDepth 20000 in
theorem gX4_stroke_X2_hasDot : GoodIn wsX4_stroke (wsV RX4 56 RX2 yX2_hasDot wsX2_hasDot) := goodIn_app (goodIn_of _ (by decide +kernel)) ggX4_stroke_X2_hasDot
set_option maxRecDepth 20000 in
theorem ggX4_stroke_X4_refuseBad : GoodIn wsX4_stroke wsX4_refuseBad := goodIn_r _ [17, 18, 70, 71, 72, 73, 74, 75, 76] (by decide +kernel) (by decide +kernel)
set_option maxRecDepth 20000 in
theorem gX4_stroke_X4_refuseBad : GoodIn wsX4_stroke (wsV RX4 41 RX4 yX4_refuseBad wsX4_refuseBad) := goodIn_app (goodIn_of _ (by decide +kernel)) ggX4_stroke_X4_refuseBad
set_option maxRecDepth 20000 in
theorem ggX4_stroke_X0_remember : GoodIn wsX4_stroke wsX0_remember := goodIn_r _ [23, 24, 25, 26, 27, 28, 29, 30, 31, 32, 33, 10, 34, 12, 13, 35, 36, 37, 38, 39, 40, 41, 82, 83, 84, 77, 78, 79, 80, 81] (by decide +kernel) (by decide +kernel)
set_option maxRecDepth 20000 in
theorem gX4_stroke_X0_remember : GoodIn wsX4_stroke (wsV RX4 45 RX0 yX0_remember wsX0_remember) := goodIn_app (goodIn_of _ (by decide +kernel)) ggX4_stroke_X0_remember
set_option maxRecDepth 20000 in
theorem ggX4_stroke_X2_lineOf : GoodIn wsX4_stroke wsX2_lineOf := goodIn_r _ [45, 46, 47, 29, 48, 49, 50, 51, 52, 53, 54, 10, 55, 12, 56, 57, 58, 59, 77, 78, 79, 80, 81] (by decide +kernel) (by decide +kernel)
set_option maxRecDepth 20000 in
theorem gX4_stroke_X2_lineOf : GoodIn wsX4_stroke (wsV RX4 84 RX2 yX2_lineOf wsX2_lineOf) := goodIn_app (goodIn_of _ (by decide +kernel)) ggX4_stroke_X2_lineOf
set_option maxRecDepth 20000 in
theorem ggX4_stroke_X2_markAll : GoodIn wsX4_stroke wsX2_markAll := goodIn_r _ [63, 41, 64, 65, 66, 10, 67, 12, 13, 68, 5, 69, 77, 78, 79, 80, 81] (by decide +kernel) (by decide +kernel)
set_option maxRecDepth 20000 in
theorem gX4_stroke_X2_markAll : GoodIn wsX4_stroke (wsV RX4 88 RX2 yX2_markAll wsX2_markAll) := goodIn_app (goodIn_of _ (by decide +kernel)) ggX4_stroke_X2_markAll
theorem dX4_stroke_0 : decode cX4_stroke 0 = .ok (.iload_n 1, 1) := by decide +kernel
theorem dX4_stroke_1 : decode cX4_stroke 1 = .ok (.iconst 0, 1) := by decide +kernel
theorem dX4_stroke_2 : decode cX4_stroke 2 = .ok (.iconst 2, 1) := by decide +kernel
theorem dX4_stroke_3 : decode cX4_stroke 3 = .ok (.invokestatic 37, 3) := by decide +kernel
theorem dX4_stroke_6 : decode cX4_stroke 6 = .ok (.ifCond .eq 29, 3) := by decide +kernel
theorem dX4_stroke_9 : decode cX4_stroke 9 = .ok (.aload_n 0, 1) := by decide +kernel
theorem dX4_stroke_10 : decode cX4_stroke 10 = .ok (.getfield 12, 3) := by decide +kernel
theorem dX4_stroke_13 : decode cX4_stroke 13 = .ok (.iload_n 2, 1) := by decide +kernel
theorem dX4_stroke_14 : decode cX4_stroke 14 = .ok (.iload_n 3, 1) := by decide +kernel
theorem dX4_stroke_15 : decode cX4_stroke 15 = .ok (.invokevirtual 56, 3) := by decide +kernel
theorem dX4_stroke_18 : decode cX4_stroke 18 = .ok (.ifCond .eq 17, 3) := by decide +kernel
theorem dX4_stroke_21 : decode cX4_stroke 21 = .ok (.aload_n 0, 1) := by decide +kernel
theorem dX4_stroke_22 : decode cX4_stroke 22 = .ok (.getfield 12, 3) := by decide +kernel
theorem dX4_stroke_25 : decode cX4_stroke 25 = .ok (.iload 4, 2) := by decide +kernel
theorem dX4_stroke_27 : decode cX4_stroke 27 = .ok (.iload 5, 2) := by decide +kernel
theorem dX4_stroke_29 : decode cX4_stroke 29 = .ok (.invokevirtual 56, 3) := by decide +kernel
theorem dX4_stroke_32 : decode cX4_stroke 32 = .ok (.ifCond .ne 8, 3) := by decide +kernel
theorem dX4_stroke_35 : decode cX4_stroke 35 = .ok (.aload_n 0, 1) := by decide +kernel
theorem dX4_stroke_36 : decode cX4_stroke 36 = .ok (.invokevirtual 41, 3) := by decide +kernel
theorem dX4_stroke_39 : decode cX4_stroke 39 = .ok (.ireturn, 1) := by decide +kernel
theorem dX4_stroke_40 : decode cX4_stroke 40 = .ok (.aload_n 0, 1) := by decide +kernel
theorem dX4_stroke_41 : decode cX4_stroke 41 = .ok (.getfield 19, 3) := by decide +kernel
theorem dX4_stroke_44 : decode cX4_stroke 44 = .ok (.aload_n 0, 1) := by decide +kernel
theorem dX4_stroke_45 : decode cX4_stroke 45 = .ok (.getfield 12, 3) := by decide +kernel
theorem dX4_stroke_48 : decode cX4_stroke 48 = .ok (.invokevirtual 45, 3) := by decide +kernel
theorem dX4_stroke_51 : decode cX4_stroke 51 = .ok (.aload_n 0, 1) := by decide +kernel
theorem dX4_stroke_52 : decode cX4_stroke 52 = .ok (.getfield 12, 3) := by decide +kernel
theorem dX4_stroke_55 : decode cX4_stroke 55 = .ok (.aload_n 0, 1) := by decide +kernel
theorem dX4_stroke_56 : decode cX4_stroke 56 = .ok (.getfield 12, 3) := by decide +kernel
theorem dX4_stroke_59 : decode cX4_stroke 59 = .ok (.iload_n 2, 1) := by decide +kernel
theorem dX4_stroke_60 : decode cX4_stroke 60 = .ok (.iload_n 3, 1) := by decide +kernel
theorem dX4_stroke_61 : decode cX4_stroke 61 = .ok (.iload 4, 2) := by decide +kernel
theorem dX4_stroke_63 : decode cX4_stroke 63 = .ok (.iload 5, 2) := by decide +kernel
theorem dX4_stroke_65 : decode cX4_stroke 65 = .ok (.invokevirtual 84, 3) := by decide +kernel
theorem dX4_stroke_68 : decode cX4_stroke 68 = .ok (.iload_n 1, 1) := by decide +kernel
theorem dX4_stroke_69 : decode cX4_stroke 69 = .ok (.invokevirtual 88, 3) := by decide +kernel
theorem dX4_stroke_72 : decode cX4_stroke 72 = .ok (.ireturn, 1) := by decide +kernel
set_option maxRecDepth 20000 in
theorem ggX4_sets_X4_isSettingOf : GoodIn wsX4_sets wsX4_isSettingOf := goodIn_r _ [7, 8, 9, 10, 11, 6, 12] (by decide +kernel) (by decide +kernel)
set_option maxRecDepth 20000 in
theorem gX4_sets_X4_isSettingOf : GoodIn wsX4_sets (va_wsS RX4 92 yX4_isSettingOf wsX4_isSettingOf) := goodIn_app (goodIn_of _ (by decide +kernel)) ggX4_sets_X4_isSettingOf
set_option maxRecDepth 20000 in
theorem ggX4_sets_X4_refuseBad : GoodIn wsX4_sets wsX4_refuseBad := goodIn_r _ [16, 17, 44, 45, 46, 47, 48, 49, 50] (by decide +kernel) (by decide +kernel)
set_option maxRecDepth 20000 in
theorem gX4_sets_X4_refuseBad : GoodIn wsX4_sets (wsV RX4 41 RX4 yX4_refuseBad wsX4_refuseBad) := goodIn_app (goodIn_of _ (by decide +kernel)) ggX4_sets_X4_refuseBad
set_option maxRecDepth 20000 in
theorem ggX4_sets_X0_remember : GoodIn wsX4_sets wsX0_remember := goodIn_r _ [22, 23, 24, 25, 26, 27, 28, 29, 30, 31, 32, 33, 34, 35, 36, 37, 38, 39, 40, 41, 42, 43, 56, 57, 58, 51, 52, 53, 54, 55] (by decide +kernel) (by decide +kernel)
set_option maxRecDepth 20000 in
theorem gX4_sets_X0_remember : GoodIn wsX4_sets (wsV RX4 45 RX0 yX0_remember wsX0_remember) := goodIn_app (goodIn_of _ (by decide +kernel)) ggX4_sets_X0_remember
theorem dX4_sets_0 : decode cX4_sets 0 = .ok (.iload_n 1, 1) := by decide +kernel
theorem dX4_sets_1 : decode cX4_sets 1 = .ok (.iload_n 2, 1) := by decide +kernel
theorem dX4_sets_2 : decode cX4_sets 2 = .ok (.invokestatic 92, 3) := by decide +kernel
theorem dX4_sets_5 : decode cX4_sets 5 = .ok (.ifCond .ne 8, 3) := by decide +kernel
theorem dX4_sets_8 : decode cX4_sets 8 = .ok (.aload_n 0, 1) := by decide +kernel
theorem dX4_sets_9 : decode cX4_sets 9 = .ok (.invokevirtual 41, 3) := by decide +kernel
theorem dX4_sets_12 : decode cX4_sets 12 = .ok (.ireturn, 1) := by decide +kernel
theorem dX4_sets_13 : decode cX4_sets 13 = .ok (.aload_n 0, 1) := by decide +kernel
theorem dX4_sets_14 : decode cX4_sets 14 = .ok (.getfield 19, 3) := by decide +kernel
theorem dX4_sets_17 : decode cX4_sets 17 = .ok (.aload_n 0, 1) := by decide +kernel
theorem dX4_sets_18 : decode cX4_sets 18 = .ok (.getfield 12, 3) := by decide +kernel
theorem dX4_sets_21 : decode cX4_sets 21 = .ok (.invokevirtual 45, 3) := by decide +kernel
theorem dX4_sets_24 : decode cX4_sets 24 = .ok (.aload_n 0, 1) := by decide +kernel
theorem dX4_sets_25 : decode cX4_sets 25 = .ok (.getfield 12, 3) := by decide +kernel
theorem dX4_sets_28 : decode cX4_sets 28 = .ok (.getfield 95, 3) := by decide +kernel
theorem dX4_sets_31 : decode cX4_sets 31 = .ok (.iload_n 1, 1) := by decide +kernel
theorem dX4_sets_32 : decode cX4_sets 32 = .ok (.iaload, 1) := by decide +kernel
theorem dX4_sets_33 : decode cX4_sets 33 = .ok (.istore_n 3, 1) := by decide +kernel
theorem dX4_sets_34 : decode cX4_sets 34 = .ok (.aload_n 0, 1) := by decide +kernel
theorem dX4_sets_35 : decode cX4_sets 35 = .ok (.getfield 12, 3) := by decide +kernel
theorem dX4_sets_38 : decode cX4_sets 38 = .ok (.getfield 95, 3) := by decide +kernel
theorem dX4_sets_41 : decode cX4_sets 41 = .ok (.iload_n 1, 1) := by decide +kernel
theorem dX4_sets_42 : decode cX4_sets 42 = .ok (.iload_n 2, 1) := by decide +kernel
theorem dX4_sets_43 : decode cX4_sets 43 = .ok (.iastore, 1) := by decide +kernel
theorem dX4_sets_44 : decode cX4_sets 44 = .ok (.iload_n 3, 1) := by decide +kernel
theorem dX4_sets_45 : decode cX4_sets 45 = .ok (.ireturn, 1) := by decide +kernel
set_option maxRecDepth 20000 in
theorem ggX4_dot_X2_hasDot : GoodIn wsX4_dot wsX2_hasDot := goodIn_r _ [8, 9, 10, 38, 39, 40, 41, 42] (by decide +kernel) (by decide +kernel)
set_option maxRecDepth 20000 in
theorem gX4_dot_X2_hasDot : GoodIn wsX4_dot (wsV RX4 56 RX2 yX2_hasDot wsX2_hasDot) := goodIn_app (goodIn_of _ (by decide +kernel)) ggX4_dot_X2_hasDot
set_option maxRecDepth 20000 in
theorem ggX4_dot_X4_refuseBad : GoodIn wsX4_dot wsX4_refuseBad := goodIn_r _ [15, 16, 31, 32, 33, 34, 35, 36, 37] (by decide +kernel) (by decide +kernel)
set_option maxRecDepth 20000 in
theorem gX4_dot_X4_refuseBad : GoodIn wsX4_dot (wsV RX4 41 RX4 yX4_refuseBad wsX4_refuseBad) := goodIn_app (goodIn_of _ (by decide +kernel)) ggX4_dot_X4_refuseBad
set_option maxRecDepth 20000 in
theorem ggX4_dot_X2_numberOf : GoodIn wsX4_dot wsX2_numberOf := goodIn_r _ [20, 9, 38, 39, 40, 41, 42] (by decide +kernel) (by decide +kernel)
set_option maxRecDepth 20000 in
theorem gX4_dot_X2_numberOf : GoodIn wsX4_dot (wsV RX4 60 RX2 yX2_numberOf wsX2_numberOf) := goodIn_app (goodIn_of _ (by decide +kernel)) ggX4_dot_X2_numberOf
set_option maxRecDepth 20000 in
theorem ggX4_dot_X2_pullFrom : GoodIn wsX4_dot wsX2_pullFrom := goodIn_r _ [24, 25, 26, 27, 28, 29, 30, 38, 39, 40, 41, 42] (by decide +kernel) (by decide +kernel)
set_option maxRecDepth 20000 in
theorem gX4_dot_X2_pullFrom : GoodIn wsX4_dot (wsV RX4 98 RX2 yX2_pullFrom wsX2_pullFrom) := goodIn_app (goodIn_of _ (by decide +kernel)) ggX4_dot_X2_pullFrom
theorem dX4_dot_0 : decode cX4_dot 0 = .ok (.aload_n 0, 1) := by decide +kernel
theorem dX4_dot_1 : decode cX4_dot 1 = .ok (.getfield 12, 3) := by decide +kernel
theorem dX4_dot_4 : decode cX4_dot 4 = .ok (.iload_n 1, 1) := by decide +kernel
theorem dX4_dot_5 : decode cX4_dot 5 = .ok (.iload_n 2, 1) := by decide +kernel
theorem dX4_dot_6 : decode cX4_dot 6 = .ok (.invokevirtual 56, 3) := by decide +kernel
theorem dX4_dot_9 : decode cX4_dot 9 = .ok (.ifCond .ne 8, 3) := by decide +kernel
theorem dX4_dot_12 : decode cX4_dot 12 = .ok (.aload_n 0, 1) := by decide +kernel
theorem dX4_dot_13 : decode cX4_dot 13 = .ok (.invokevirtual 41, 3) := by decide +kernel
theorem dX4_dot_16 : decode cX4_dot 16 = .ok (.ireturn, 1) := by decide +kernel
theorem dX4_dot_17 : decode cX4_dot 17 = .ok (.aload_n 0, 1) := by decide +kernel
theorem dX4_dot_18 : decode cX4_dot 18 = .ok (.getfield 12, 3) := by decide +kernel
theorem dX4_dot_21 : decode cX4_dot 21 = .ok (.iload_n 1, 1) := by decide +kernel
theorem dX4_dot_22 : decode cX4_dot 22 = .ok (.iload_n 2, 1) := by decide +kernel
theorem dX4_dot_23 : decode cX4_dot 23 = .ok (.invokevirtual 60, 3) := by decide +kernel
theorem dX4_dot_26 : decode cX4_dot 26 = .ok (.istore 4, 2) := by decide +kernel
theorem dX4_dot_28 : decode cX4_dot 28 = .ok (.iload_n 3, 1) := by decide +kernel
theorem dX4_dot_29 : decode cX4_dot 29 = .ok (.tableswitch 75 0 3 #[31, 42, 53, 64], 31) := by decide +kernel
theorem dX4_dot_60 : decode cX4_dot 60 = .ok (.aload_n 0, 1) := by decide +kernel
theorem dX4_dot_61 : decode cX4_dot 61 = .ok (.getfield 12, 3) := by decide +kernel
theorem dX4_dot_64 : decode cX4_dot 64 = .ok (.getfield 64, 3) := by decide +kernel
theorem dX4_dot_67 : decode cX4_dot 67 = .ok (.iload 4, 2) := by decide +kernel
theorem dX4_dot_69 : decode cX4_dot 69 = .ok (.iaload, 1) := by decide +kernel
theorem dX4_dot_70 : decode cX4_dot 70 = .ok (.ireturn, 1) := by decide +kernel
theorem dX4_dot_71 : decode cX4_dot 71 = .ok (.aload_n 0, 1) := by decide +kernel
theorem dX4_dot_72 : decode cX4_dot 72 = .ok (.getfield 12, 3) := by decide +kernel
theorem dX4_dot_75 : decode cX4_dot 75 = .ok (.getfield 81, 3) := by decide +kernel
theorem dX4_dot_78 : decode cX4_dot 78 = .ok (.iload 4, 2) := by decide +kernel
theorem dX4_dot_80 : decode cX4_dot 80 = .ok (.iaload, 1) := by decide +kernel
theorem dX4_dot_81 : decode cX4_dot 81 = .ok (.ireturn, 1) := by decide +kernel
theorem dX4_dot_82 : decode cX4_dot 82 = .ok (.aload_n 0, 1) := by decide +kernel
theorem dX4_dot_83 : decode cX4_dot 83 = .ok (.getfield 12, 3) := by decide +kernel
theorem dX4_dot_86 : decode cX4_dot 86 = .ok (.iload 4, 2) := by decide +kernel
theorem dX4_dot_88 : decode cX4_dot 88 = .ok (.iconst 3, 1) := by decide +kernel
theorem dX4_dot_89 : decode cX4_dot 89 = .ok (.invokevirtual 98, 3) := by decide +kernel
theorem dX4_dot_92 : decode cX4_dot 92 = .ok (.ireturn, 1) := by decide +kernel
theorem dX4_dot_93 : decode cX4_dot 93 = .ok (.aload_n 0, 1) := by decide +kernel
theorem dX4_dot_94 : decode cX4_dot 94 = .ok (.getfield 12, 3) := by decide +kernel
theorem dX4_dot_97 : decode cX4_dot 97 = .ok (.iload 4, 2) := by decide +kernel
theorem dX4_dot_99 : decode cX4_dot 99 = .ok (.iconst 4, 1) := by decide +kernel
theorem dX4_dot_100 : decode cX4_dot 100 = .ok (.invokevirtual 98, 3) := by decide +kernel
theorem dX4_dot_103 : decode cX4_dot 103 = .ok (.ireturn, 1) := by decide +kernel
theorem dX4_dot_104 : decode cX4_dot 104 = .ok (.aload_n 0, 1) := by decide +kernel
theorem dX4_dot_105 : decode cX4_dot 105 = .ok (.invokevirtual 41, 3) := by decide +kernel
theorem dX4_dot_108 : decode cX4_dot 108 = .ok (.ireturn, 1) := by decide +kernel
set_option maxRecDepth 20000 in
theorem ggX4_link_X4_isLinkPlace : GoodIn wsX4_link wsX4_isLinkPlace := goodIn_r _ [6, 1, 7, 8, 9, 10, 11, 12, 13, 14, 15, 5, 16, 45, 46, 47, 48, 49, 50, 51, 52, 53, 54, 55, 56] (by decide +kernel) (by decide +kernel)
set_option maxRecDepth 20000 in
theorem gX4_link_X4_isLinkPlace : GoodIn wsX4_link (wsV RX4 101 RX4 yX4_isLinkPlace wsX4_isLinkPlace) := goodIn_app (goodIn_of _ (by decide +kernel)) ggX4_link_X4_isLinkPlace
set_option maxRecDepth 20000 in
theorem ggX4_link_X4_refuseBad : GoodIn wsX4_link wsX4_refuseBad := goodIn_r _ [20, 21, 45, 46, 47, 48, 49, 50, 51] (by decide +kernel) (by decide +kernel)
set_option maxRecDepth 20000 in
theorem gX4_link_X4_refuseBad : GoodIn wsX4_link (wsV RX4 41 RX4 yX4_refuseBad wsX4_refuseBad) := goodIn_app (goodIn_of _ (by decide +kernel)) ggX4_link_X4_refuseBad
set_option maxRecDepth 20000 in
theorem ggX4_link_X2_linkedTo : GoodIn wsX4_link wsX2_linkedTo := goodIn_r _ [25, 26, 27, 8, 9, 10, 11, 12, 13, 28, 29, 30, 31, 52, 53, 54, 55, 56] (by decide +kernel) (by decide +kernel)
set_option maxRecDepth 20000 in
theorem gX4_link_X2_linkedTo : GoodIn wsX4_link (wsV RX4 104 RX2 yX2_linkedTo wsX2_linkedTo) := goodIn_app (goodIn_of _ (by decide +kernel)) ggX4_link_X2_linkedTo
set_option maxRecDepth 20000 in
theorem ggX4_link_X2_numberOf : GoodIn wsX4_link wsX2_numberOf := goodIn_r _ [31, 12, 52, 53, 54, 55, 56] (by decide +kernel) (by decide +kernel)
set_option maxRecDepth 20000 in
theorem gX4_link_X2_numberOf : GoodIn wsX4_link (wsV RX4 60 RX2 yX2_numberOf wsX2_numberOf) := goodIn_app (goodIn_of _ (by decide +kernel)) ggX4_link_X2_numberOf
set_option maxRecDepth 20000 in
theorem ggX4_link_X2_weightOf : GoodIn wsX4_link wsX2_weightOf := goodIn_r _ [36, 37, 38, 39, 40, 41, 26, 42, 43, 44, 52, 53, 54, 55, 56] (by decide +kernel) (by decide +kernel)
set_option maxRecDepth 20000 in
theorem gX4_link_X2_weightOf : GoodIn wsX4_link (wsV RX4 108 RX2 yX2_weightOf wsX2_weightOf) := goodIn_app (goodIn_of _ (by decide +kernel)) ggX4_link_X2_weightOf
theorem dX4_link_0 : decode cX4_link 0 = .ok (.aload_n 0, 1) := by decide +kernel
theorem dX4_link_1 : decode cX4_link 1 = .ok (.iload_n 1, 1) := by decide +kernel
theorem dX4_link_2 : decode cX4_link 2 = .ok (.iload_n 2, 1) := by decide +kernel
theorem dX4_link_3 : decode cX4_link 3 = .ok (.iload_n 3, 1) := by decide +kernel
theorem dX4_link_4 : decode cX4_link 4 = .ok (.invokevirtual 101, 3) := by decide +kernel
theorem dX4_link_7 : decode cX4_link 7 = .ok (.ifCond .ne 8, 3) := by decide +kernel
theorem dX4_link_10 : decode cX4_link 10 = .ok (.aload_n 0, 1) := by decide +kernel
theorem dX4_link_11 : decode cX4_link 11 = .ok (.invokevirtual 41, 3) := by decide +kernel
theorem dX4_link_14 : decode cX4_link 14 = .ok (.ireturn, 1) := by decide +kernel
theorem dX4_link_15 : decode cX4_link 15 = .ok (.aload_n 0, 1) := by decide +kernel
theorem dX4_link_16 : decode cX4_link 16 = .ok (.getfield 12, 3) := by decide +kernel
theorem dX4_link_19 : decode cX4_link 19 = .ok (.iload_n 1, 1) := by decide +kernel
theorem dX4_link_20 : decode cX4_link 20 = .ok (.iload_n 2, 1) := by decide +kernel
theorem dX4_link_21 : decode cX4_link 21 = .ok (.iload_n 3, 1) := by decide +kernel
theorem dX4_link_22 : decode cX4_link 22 = .ok (.invokevirtual 104, 3) := by decide +kernel
theorem dX4_link_25 : decode cX4_link 25 = .ok (.istore 4, 2) := by decide +kernel
theorem dX4_link_27 : decode cX4_link 27 = .ok (.iload 4, 2) := by decide +kernel
theorem dX4_link_29 : decode cX4_link 29 = .ok (.iconst (-1), 1) := by decide +kernel
theorem dX4_link_30 : decode cX4_link 30 = .ok (.if_icmp .ne 7, 3) := by decide +kernel
theorem dX4_link_33 : decode cX4_link 33 = .ok (.iconst (-1), 1) := by decide +kernel
theorem dX4_link_34 : decode cX4_link 34 = .ok (.goto 22, 3) := by decide +kernel
theorem dX4_link_37 : decode cX4_link 37 = .ok (.aload_n 0, 1) := by decide +kernel
theorem dX4_link_38 : decode cX4_link 38 = .ok (.getfield 12, 3) := by decide +kernel
theorem dX4_link_41 : decode cX4_link 41 = .ok (.aload_n 0, 1) := by decide +kernel
theorem dX4_link_42 : decode cX4_link 42 = .ok (.getfield 12, 3) := by decide +kernel
theorem dX4_link_45 : decode cX4_link 45 = .ok (.iload_n 1, 1) := by decide +kernel
theorem dX4_link_46 : decode cX4_link 46 = .ok (.iload_n 2, 1) := by decide +kernel
theorem dX4_link_47 : decode cX4_link 47 = .ok (.invokevirtual 60, 3) := by decide +kernel
theorem dX4_link_50 : decode cX4_link 50 = .ok (.iload 4, 2) := by decide +kernel
theorem dX4_link_52 : decode cX4_link 52 = .ok (.iload_n 3, 1) := by decide +kernel
theorem dX4_link_53 : decode cX4_link 53 = .ok (.invokevirtual 108, 3) := by decide +kernel
theorem dX4_link_56 : decode cX4_link 56 = .ok (.ireturn, 1) := by decide +kernel
set_option maxRecDepth 20000 in
theorem ggX4_cost_X1_solve : GoodIn wsX4_cost wsX1_solve := goodIn_r _ [7, 8, 9, 10, 6, 11, 12, 13, 14, 15, 16, 17, 18, 19, 20, 21, 22, 23, 24, 25, 26, 27, 28, 29, 30, 31, 32, 33, 34, 35, 36, 37, 38, 39, 40, 41, 42, 43, 44, 45, 46, 47, 48, 49, 50, 51, 52, 53, 54, 55, 56, 57, 58, 59, 60, 61, 62, 63, 64, 65, 66, 67, 68, 69, 70, 71, 72, 73, 74, 75, 76, 77, 78, 79, 80, 81, 82, 83, 84, 85, 86, 87, 88, 89, 90, 91, 92, 93, 101, 102, 103, 104, 105, 106, 107, 108, 109, 110, 111, 112, 113] (by decide +kernel) (by decide +kernel)
set_option maxRecDepth 20000 in
theorem gX4_cost_X1_solve : GoodIn wsX4_cost (wsV RX4 111 RX1 yX1_solve wsX1_solve) := goodIn_app (goodIn_of _ (by decide +kernel)) ggX4_cost_X1_solve
theorem dX4_cost_0 : decode cX4_cost 0 = .ok (.aload_n 0, 1) := by decide +kernel
theorem dX4_cost_1 : decode cX4_cost 1 = .ok (.getfield 26, 3) := by decide +kernel
theorem dX4_cost_4 : decode cX4_cost 4 = .ok (.aload_n 0, 1) := by decide +kernel
theorem dX4_cost_5 : decode cX4_cost 5 = .ok (.getfield 12, 3) := by decide +kernel
theorem dX4_cost_8 : decode cX4_cost 8 = .ok (.invokevirtual 111, 3) := by decide +kernel
theorem dX4_cost_11 : decode cX4_cost 11 = .ok (.ireturn, 1) := by decide +kernel
set_option maxRecDepth 20000 in
theorem ggX4_side_X4_isWithin : GoodIn wsX4_side wsX4_isWithin := goodIn_r _ [6] (by decide +kernel) (by decide +kernel)
set_option maxRecDepth 20000 in
theorem gX4_side_X4_isWithin : GoodIn wsX4_side (va_wsS RX4 37 yX4_isWithin wsX4_isWithin) := goodIn_app (goodIn_of _ (by decide +kernel)) ggX4_side_X4_isWithin
set_option maxRecDepth 20000 in
theorem ggX4_side_X4_refuseBad : GoodIn wsX4_side wsX4_refuseBad := goodIn_r _ [10, 11, 117, 118, 119, 120, 121, 122, 123] (by decide +kernel) (by decide +kernel)
set_option maxRecDepth 20000 in
theorem gX4_side_X4_refuseBad : GoodIn wsX4_side (wsV RX4 41 RX4 yX4_refuseBad wsX4_refuseBad) := goodIn_app (goodIn_of _ (by decide +kernel)) ggX4_side_X4_refuseBad
set_option maxRecDepth 20000 in
theorem ggX4_side_X1_solve : GoodIn wsX4_side wsX1_solve := goodIn_r _ [16, 17, 18, 19, 15, 20, 21, 22, 23, 24, 25, 26, 27, 28, 29, 30, 31, 32, 33, 34, 35, 36, 37, 38, 39, 40, 41, 42, 43, 44, 45, 46, 47, 48, 49, 50, 51, 52, 53, 54, 55, 56, 57, 58, 59, 60, 61, 62, 63, 64, 65, 66, 67, 68, 69, 70, 71, 72, 73, 74, 75, 76, 77, 78, 79, 80, 81, 82, 83, 84, 85, 86, 87, 88, 89, 90, 91, 92, 93, 94, 95, 96, 97, 98, 99, 100, 101, 102, 124, 125, 126, 127, 128, 129, 130, 131, 132, 133, 134, 135, 136] (by decide +kernel) (by decide +kernel)
set_option maxRecDepth 20000 in
theorem gX4_side_X1_solve : GoodIn wsX4_side (wsV RX4 111 RX1 yX1_solve wsX1_solve) := goodIn_app (goodIn_of _ (by decide +kernel)) ggX4_side_X1_solve
set_option maxRecDepth 20000 in
theorem ggX4_side_X1_leastSet : GoodIn wsX4_side wsX1_leastSet := goodIn_r _ [106, 21, 41, 107, 108, 109, 15, 110, 87, 88, 22, 74, 111, 5, 112, 89, 90, 91, 92, 124, 125, 126, 127, 128, 129, 130, 131] (by decide +kernel) (by decide +kernel)
set_option maxRecDepth 20000 in
theorem gX4_side_X1_leastSet : GoodIn wsX4_side (wsV RX4 115 RX1 yX1_leastSet wsX1_leastSet) := goodIn_app (goodIn_of _ (by decide +kernel)) ggX4_side_X1_leastSet
set_option maxRecDepth 20000 in
theorem ggX4_side_X1_greatestSet : GoodIn wsX4_side wsX1_greatestSet := goodIn_r _ [116, 21, 82, 83, 84, 85, 15, 86, 87, 43, 88, 22, 74, 89, 90, 91, 92, 75, 76, 77, 124, 125, 126, 127, 128, 129, 130, 131] (by decide +kernel) (by decide +kernel)
set_option maxRecDepth 20000 in
theorem gX4_side_X1_greatestSet : GoodIn wsX4_side (wsV RX4 119 RX1 yX1_greatestSet wsX1_greatestSet) := goodIn_app (goodIn_of _ (by decide +kernel)) ggX4_side_X1_greatestSet
theorem dX4_side_0 : decode cX4_side 0 = .ok (.iload_n 1, 1) := by decide +kernel
theorem dX4_side_1 : decode cX4_side 1 = .ok (.iconst 0, 1) := by decide +kernel
theorem dX4_side_2 : decode cX4_side 2 = .ok (.iconst 1, 1) := by decide +kernel
theorem dX4_side_3 : decode cX4_side 3 = .ok (.invokestatic 37, 3) := by decide +kernel
theorem dX4_side_6 : decode cX4_side 6 = .ok (.ifCond .ne 9, 3) := by decide +kernel
theorem dX4_side_9 : decode cX4_side 9 = .ok (.aload_n 0, 1) := by decide +kernel
theorem dX4_side_10 : decode cX4_side 10 = .ok (.invokevirtual 41, 3) := by decide +kernel
theorem dX4_side_13 : decode cX4_side 13 = .ok (.i2l, 1) := by decide +kernel
theorem dX4_side_14 : decode cX4_side 14 = .ok (.lreturn, 1) := by decide +kernel
theorem dX4_side_15 : decode cX4_side 15 = .ok (.aload_n 0, 1) := by decide +kernel
theorem dX4_side_16 : decode cX4_side 16 = .ok (.getfield 26, 3) := by decide +kernel
theorem dX4_side_19 : decode cX4_side 19 = .ok (.aload_n 0, 1) := by decide +kernel
theorem dX4_side_20 : decode cX4_side 20 = .ok (.getfield 12, 3) := by decide +kernel
theorem dX4_side_23 : decode cX4_side 23 = .ok (.invokevirtual 111, 3) := by decide +kernel
theorem dX4_side_26 : decode cX4_side 26 = .ok (.pop, 1) := by decide +kernel
theorem dX4_side_27 : decode cX4_side 27 = .ok (.iload_n 1, 1) := by decide +kernel
theorem dX4_side_28 : decode cX4_side 28 = .ok (.ifCond .ne 13, 3) := by decide +kernel
theorem dX4_side_31 : decode cX4_side 31 = .ok (.aload_n 0, 1) := by decide +kernel
theorem dX4_side_32 : decode cX4_side 32 = .ok (.getfield 26, 3) := by decide +kernel
theorem dX4_side_35 : decode cX4_side 35 = .ok (.invokevirtual 115, 3) := by decide +kernel
theorem dX4_side_38 : decode cX4_side 38 = .ok (.goto 10, 3) := by decide +kernel
theorem dX4_side_41 : decode cX4_side 41 = .ok (.aload_n 0, 1) := by decide +kernel
theorem dX4_side_42 : decode cX4_side 42 = .ok (.getfield 26, 3) := by decide +kernel
theorem dX4_side_45 : decode cX4_side 45 = .ok (.invokevirtual 119, 3) := by decide +kernel
theorem dX4_side_48 : decode cX4_side 48 = .ok (.lreturn, 1) := by decide +kernel
set_option maxRecDepth 20000 in
theorem ggX4_sure_X2_hasDot : GoodIn wsX4_sure wsX2_hasDot := goodIn_r _ [7, 8, 9, 124, 125, 126, 127, 128] (by decide +kernel) (by decide +kernel)
set_option maxRecDepth 20000 in
theorem gX4_sure_X2_hasDot : GoodIn wsX4_sure (wsV RX4 56 RX2 yX2_hasDot wsX2_hasDot) := goodIn_app (goodIn_of _ (by decide +kernel)) ggX4_sure_X2_hasDot
set_option maxRecDepth 20000 in
theorem ggX4_sure_X4_refuseBad : GoodIn wsX4_sure wsX4_refuseBad := goodIn_r _ [14, 15, 117, 118, 119, 120, 121, 122, 123] (by decide +kernel) (by decide +kernel)
set_option maxRecDepth 20000 in
theorem gX4_sure_X4_refuseBad : GoodIn wsX4_sure (wsV RX4 41 RX4 yX4_refuseBad wsX4_refuseBad) := goodIn_app (goodIn_of _ (by decide +kernel)) ggX4_sure_X4_refuseBad
set_option maxRecDepth 20000 in
theorem ggX4_sure_X1_solve : GoodIn wsX4_sure wsX1_solve := goodIn_r _ [20, 21, 22, 23, 19, 24, 25, 26, 27, 28, 29, 30, 31, 32, 6, 33, 8, 9, 34, 35, 36, 37, 38, 39, 40, 41, 42, 43, 44, 45, 46, 47, 48, 49, 50, 51, 52, 53, 54, 55, 56, 57, 58, 59, 4, 5, 7, 60, 61, 62, 63, 64, 65, 66, 67, 68, 69, 70, 71, 72, 73, 74, 75, 76, 77, 78, 79, 80, 81, 82, 83, 84, 85, 86, 87, 88, 89, 90, 91, 92, 93, 94, 95, 96, 97, 98, 99, 100, 129, 130, 131, 132, 133, 134, 135, 136, 124, 125, 126, 127, 128] (by decide +kernel) (by decide +kernel)
set_option maxRecDepth 20000 in
theorem gX4_sure_X1_solve : GoodIn wsX4_sure (wsV RX4 111 RX1 yX1_solve wsX1_solve) := goodIn_app (goodIn_of _ (by decide +kernel)) ggX4_sure_X1_solve
set_option maxRecDepth 20000 in
theorem ggX4_sure_X2_numberOf : GoodIn wsX4_sure wsX2_numberOf := goodIn_r _ [37, 8, 124, 125, 126, 127, 128] (by decide +kernel) (by decide +kernel)
set_option maxRecDepth 20000 in
theorem gX4_sure_X2_numberOf : GoodIn wsX4_sure (wsV RX4 60 RX2 yX2_numberOf wsX2_numberOf) := goodIn_app (goodIn_of _ (by decide +kernel)) ggX4_sure_X2_numberOf
set_option maxRecDepth 20000 in
theorem ggX4_sure_X1_leastSet : GoodIn wsX4_sure wsX1_leastSet := goodIn_r _ [105, 25, 42, 106, 107, 108, 19, 109, 85, 86, 26, 72, 110, 13, 111, 87, 88, 89, 90, 129, 130, 131, 132, 133, 134, 135, 136] (by decide +kernel) (by decide +kernel)
set_option maxRecDepth 20000 in
theorem gX4_sure_X1_leastSet : GoodIn wsX4_sure (wsV RX4 115 RX1 yX1_leastSet wsX1_leastSet) := goodIn_app (goodIn_of _ (by decide +kernel)) ggX4_sure_X1_leastSet
set_option maxRecDepth 20000 in
theorem ggX4_sure_X4_has : GoodIn wsX4_sure wsX4_has := goodIn_r _ [111] (by decide +kernel) (by decide +kernel)
set_option maxRecDepth 20000 in
theorem gX4_sure_X4_has : GoodIn wsX4_sure (va_wsS RX4 122 yX4_has wsX4_has) := goodIn_app (goodIn_of _ (by decide +kernel)) ggX4_sure_X4_has
set_option maxRecDepth 20000 in
theorem ggX4_sure_X1_greatestSet : GoodIn wsX4_sure wsX1_greatestSet := goodIn_r _ [116, 25, 80, 81, 82, 83, 19, 84, 85, 44, 86, 26, 72, 87, 88, 89, 90, 73, 74, 75, 129, 130, 131, 132, 133, 134, 135, 136] (by decide +kernel) (by decide +kernel)
set_option maxRecDepth 20000 in
theorem gX4_sure_X1_greatestSet : GoodIn wsX4_sure (wsV RX4 119 RX1 yX1_greatestSet wsX1_greatestSet) := goodIn_app (goodIn_of _ (by decide +kernel)) ggX4_sure_X1_greatestSet
theorem dX4_sure_0 : decode cX4_sure 0 = .ok (.aload_n 0, 1) := by decide +kernel
theorem dX4_sure_1 : decode cX4_sure 1 = .ok (.getfield 12, 3) := by decide +kernel
theorem dX4_sure_4 : decode cX4_sure 4 = .ok (.iload_n 1, 1) := by decide +kernel
theorem dX4_sure_5 : decode cX4_sure 5 = .ok (.iload_n 2, 1) := by decide +kernel
theorem dX4_sure_6 : decode cX4_sure 6 = .ok (.invokevirtual 56, 3) := by decide +kernel
theorem dX4_sure_9 : decode cX4_sure 9 = .ok (.ifCond .ne 8, 3) := by decide +kernel
theorem dX4_sure_12 : decode cX4_sure 12 = .ok (.aload_n 0, 1) := by decide +kernel
theorem dX4_sure_13 : decode cX4_sure 13 = .ok (.invokevirtual 41, 3) := by decide +kernel
theorem dX4_sure_16 : decode cX4_sure 16 = .ok (.ireturn, 1) := by decide +kernel
theorem dX4_sure_17 : decode cX4_sure 17 = .ok (.aload_n 0, 1) := by decide +kernel
theorem dX4_sure_18 : decode cX4_sure 18 = .ok (.getfield 26, 3) := by decide +kernel
theorem dX4_sure_21 : decode cX4_sure 21 = .ok (.aload_n 0, 1) := by decide +kernel
theorem dX4_sure_22 : decode cX4_sure 22 = .ok (.getfield 12, 3) := by decide +kernel
theorem dX4_sure_25 : decode cX4_sure 25 = .ok (.invokevirtual 111, 3) := by decide +kernel
theorem dX4_sure_28 : decode cX4_sure 28 = .ok (.pop, 1) := by decide +kernel
theorem dX4_sure_29 : decode cX4_sure 29 = .ok (.aload_n 0, 1) := by decide +kernel
theorem dX4_sure_30 : decode cX4_sure 30 = .ok (.getfield 12, 3) := by decide +kernel
theorem dX4_sure_33 : decode cX4_sure 33 = .ok (.iload_n 1, 1) := by decide +kernel
theorem dX4_sure_34 : decode cX4_sure 34 = .ok (.iload_n 2, 1) := by decide +kernel
theorem dX4_sure_35 : decode cX4_sure 35 = .ok (.invokevirtual 60, 3) := by decide +kernel
theorem dX4_sure_38 : decode cX4_sure 38 = .ok (.istore_n 3, 1) := by decide +kernel
theorem dX4_sure_39 : decode cX4_sure 39 = .ok (.aload_n 0, 1) := by decide +kernel
theorem dX4_sure_40 : decode cX4_sure 40 = .ok (.getfield 26, 3) := by decide +kernel
theorem dX4_sure_43 : decode cX4_sure 43 = .ok (.invokevirtual 115, 3) := by decide +kernel
theorem dX4_sure_46 : decode cX4_sure 46 = .ok (.iload_n 3, 1) := by decide +kernel
theorem dX4_sure_47 : decode cX4_sure 47 = .ok (.invokestatic 122, 3) := by decide +kernel
theorem dX4_sure_50 : decode cX4_sure 50 = .ok (.ifCond .eq 5, 3) := by decide +kernel
theorem dX4_sure_53 : decode cX4_sure 53 = .ok (.iconst 1, 1) := by decide +kernel
theorem dX4_sure_54 : decode cX4_sure 54 = .ok (.ireturn, 1) := by decide +kernel
theorem dX4_sure_55 : decode cX4_sure 55 = .ok (.aload_n 0, 1) := by decide +kernel
theorem dX4_sure_56 : decode cX4_sure 56 = .ok (.getfield 26, 3) := by decide +kernel
theorem dX4_sure_59 : decode cX4_sure 59 = .ok (.invokevirtual 119, 3) := by decide +kernel
theorem dX4_sure_62 : decode cX4_sure 62 = .ok (.iload_n 3, 1) := by decide +kernel
theorem dX4_sure_63 : decode cX4_sure 63 = .ok (.invokestatic 122, 3) := by decide +kernel
theorem dX4_sure_66 : decode cX4_sure 66 = .ok (.ifCond .eq 7, 3) := by decide +kernel
theorem dX4_sure_69 : decode cX4_sure 69 = .ok (.iconst 2, 1) := by decide +kernel
theorem dX4_sure_70 : decode cX4_sure 70 = .ok (.goto 4, 3) := by decide +kernel
theorem dX4_sure_73 : decode cX4_sure 73 = .ok (.iconst 0, 1) := by decide +kernel
theorem dX4_sure_74 : decode cX4_sure 74 = .ok (.ireturn, 1) := by decide +kernel
set_option maxRecDepth 20000 in
theorem ggX4_were_X2_hasDot : GoodIn wsX4_were wsX2_hasDot := goodIn_r _ [7, 8, 9, 109, 110, 111, 112, 113] (by decide +kernel) (by decide +kernel)
set_option maxRecDepth 20000 in
theorem gX4_were_X2_hasDot : GoodIn wsX4_were (wsV RX4 56 RX2 yX2_hasDot wsX2_hasDot) := goodIn_app (goodIn_of _ (by decide +kernel)) ggX4_were_X2_hasDot
set_option maxRecDepth 20000 in
theorem ggX4_were_X4_isWithin : GoodIn wsX4_were wsX4_isWithin := goodIn_r _ [13] (by decide +kernel) (by decide +kernel)
set_option maxRecDepth 20000 in
theorem gX4_were_X4_isWithin : GoodIn wsX4_were (va_wsS RX4 37 yX4_isWithin wsX4_isWithin) := goodIn_app (goodIn_of _ (by decide +kernel)) ggX4_were_X4_isWithin
set_option maxRecDepth 20000 in
theorem ggX4_were_X4_refuseBad : GoodIn wsX4_were wsX4_refuseBad := goodIn_r _ [17, 18, 102, 103, 104, 105, 106, 107, 108] (by decide +kernel) (by decide +kernel)
set_option maxRecDepth 20000 in
theorem gX4_were_X4_refuseBad : GoodIn wsX4_were (wsV RX4 41 RX4 yX4_refuseBad wsX4_refuseBad) := goodIn_app (goodIn_of _ (by decide +kernel)) ggX4_were_X4_refuseBad
set_option maxRecDepth 20000 in
theorem ggX4_were_X1_load : GoodIn wsX4_were wsX1_load := goodIn_r _ [23, 24, 25, 26, 27, 28, 29, 30, 31, 6, 32, 8, 9, 33, 34, 35, 36, 37, 38, 39, 22, 40, 41, 42, 43, 44, 45, 46, 47, 48, 49, 50, 51, 52, 53, 54, 55, 56, 57, 58, 4, 5, 7, 59, 60, 61, 62, 63, 64, 65, 66, 67, 68, 69, 70, 71, 72, 73, 74, 114, 115, 116, 117, 118, 119, 120, 121, 109, 110, 111, 112, 113] (by decide +kernel) (by decide +kernel)
set_option maxRecDepth 20000 in
theorem gX4_were_X1_load : GoodIn wsX4_were (wsV RX4 126 RX1 yX1_load wsX1_load) := goodIn_app (goodIn_of _ (by decide +kernel)) ggX4_were_X1_load
set_option maxRecDepth 20000 in
theorem ggX4_were_X2_numberOf : GoodIn wsX4_were wsX2_numberOf := goodIn_r _ [36, 8, 109, 110, 111, 112, 113] (by decide +kernel) (by decide +kernel)
set_option maxRecDepth 20000 in
theorem gX4_were_X2_numberOf : GoodIn wsX4_were (wsV RX4 60 RX2 yX2_numberOf wsX2_numberOf) := goodIn_app (goodIn_of _ (by decide +kernel)) ggX4_were_X2_numberOf
set_option maxRecDepth 20000 in
theorem ggX4_were_X1_loadPulls : GoodIn wsX4_were wsX1_loadPulls := goodIn_r _ [40, 41, 42, 43, 44, 45, 46, 6, 47, 48, 49, 50, 51, 52, 53, 114, 115, 116, 117, 118, 119, 120, 121, 109, 110, 111, 112, 113] (by decide +kernel) (by decide +kernel)
set_option maxRecDepth 20000 in
theorem gX4_were_X1_loadPulls : GoodIn wsX4_were (wsV RX4 129 RX1 yX1_loadPulls wsX1_loadPulls) := goodIn_app (goodIn_of _ (by decide +kernel)) ggX4_were_X1_loadPulls
set_option maxRecDepth 20000 in
theorem ggX4_were_X1_fill : GoodIn wsX4_were wsX1_fill := goodIn_r _ [80, 24, 41, 81, 82, 83, 84, 22, 85, 86, 43, 87, 25, 71, 88, 89, 90, 91, 72, 73, 74, 92, 93, 94, 95, 96, 52, 97, 98, 99, 100, 101, 114, 115, 116, 117, 118, 119, 120, 121] (by decide +kernel) (by decide +kernel)
set_option maxRecDepth 20000 in
theorem gX4_were_X1_fill : GoodIn wsX4_were (wsV RX4 133 RX1 yX1_fill wsX1_fill) := goodIn_app (goodIn_of _ (by decide +kernel)) ggX4_were_X1_fill
theorem dX4_were_0 : decode cX4_were 0 = .ok (.aload_n 0, 1) := by decide +kernel
theorem dX4_were_1 : decode cX4_were 1 = .ok (.getfield 12, 3) := by decide +kernel
theorem dX4_were_4 : decode cX4_were 4 = .ok (.iload_n 1, 1) := by decide +kernel
theorem dX4_were_5 : decode cX4_were 5 = .ok (.iload_n 2, 1) := by decide +kernel
theorem dX4_were_6 : decode cX4_were 6 = .ok (.invokevirtual 56, 3) := by decide +kernel
theorem dX4_were_9 : decode cX4_were 9 = .ok (.ifCond .eq 12, 3) := by decide +kernel
theorem dX4_were_12 : decode cX4_were 12 = .ok (.iload_n 3, 1) := by decide +kernel
theorem dX4_were_13 : decode cX4_were 13 = .ok (.iconst 0, 1) := by decide +kernel
theorem dX4_were_14 : decode cX4_were 14 = .ok (.iconst 2, 1) := by decide +kernel
theorem dX4_were_15 : decode cX4_were 15 = .ok (.invokestatic 37, 3) := by decide +kernel
theorem dX4_were_18 : decode cX4_were 18 = .ok (.ifCond .ne 8, 3) := by decide +kernel
theorem dX4_were_21 : decode cX4_were 21 = .ok (.aload_n 0, 1) := by decide +kernel
theorem dX4_were_22 : decode cX4_were 22 = .ok (.invokevirtual 41, 3) := by decide +kernel
theorem dX4_were_25 : decode cX4_were 25 = .ok (.ireturn, 1) := by decide +kernel
theorem dX4_were_26 : decode cX4_were 26 = .ok (.aload_n 0, 1) := by decide +kernel
theorem dX4_were_27 : decode cX4_were 27 = .ok (.getfield 26, 3) := by decide +kernel
theorem dX4_were_30 : decode cX4_were 30 = .ok (.aload_n 0, 1) := by decide +kernel
theorem dX4_were_31 : decode cX4_were 31 = .ok (.getfield 12, 3) := by decide +kernel
theorem dX4_were_34 : decode cX4_were 34 = .ok (.invokevirtual 126, 3) := by decide +kernel
theorem dX4_were_37 : decode cX4_were 37 = .ok (.aload_n 0, 1) := by decide +kernel
theorem dX4_were_38 : decode cX4_were 38 = .ok (.getfield 26, 3) := by decide +kernel
theorem dX4_were_41 : decode cX4_were 41 = .ok (.aload_n 0, 1) := by decide +kernel
theorem dX4_were_42 : decode cX4_were 42 = .ok (.getfield 12, 3) := by decide +kernel
theorem dX4_were_45 : decode cX4_were 45 = .ok (.aload_n 0, 1) := by decide +kernel
theorem dX4_were_46 : decode cX4_were 46 = .ok (.getfield 12, 3) := by decide +kernel
theorem dX4_were_49 : decode cX4_were 49 = .ok (.iload_n 1, 1) := by decide +kernel
theorem dX4_were_50 : decode cX4_were 50 = .ok (.iload_n 2, 1) := by decide +kernel
theorem dX4_were_51 : decode cX4_were 51 = .ok (.invokevirtual 60, 3) := by decide +kernel
theorem dX4_were_54 : decode cX4_were 54 = .ok (.iload_n 3, 1) := by decide +kernel
theorem dX4_were_55 : decode cX4_were 55 = .ok (.invokevirtual 129, 3) := by decide +kernel
theorem dX4_were_58 : decode cX4_were 58 = .ok (.aload_n 0, 1) := by decide +kernel
theorem dX4_were_59 : decode cX4_were 59 = .ok (.getfield 26, 3) := by decide +kernel
theorem dX4_were_62 : decode cX4_were 62 = .ok (.invokevirtual 133, 3) := by decide +kernel
theorem dX4_were_65 : decode cX4_were 65 = .ok (.ireturn, 1) := by decide +kernel
set_option maxRecDepth 20000 in
theorem ggX4_strain_X4_isLinkPlace : GoodIn wsX4_strain wsX4_isLinkPlace := goodIn_r _ [7, 1, 8, 9, 10, 11, 12, 13, 14, 15, 16, 6, 17, 107, 108, 109, 110, 111, 112, 113, 114, 115, 116, 117, 118] (by decide +kernel) (by decide +kernel)
set_option maxRecDepth 20000 in
theorem gX4_strain_X4_isLinkPlace : GoodIn wsX4_strain (wsV RX4 101 RX4 yX4_isLinkPlace wsX4_isLinkPlace) := goodIn_app (goodIn_of _ (by decide +kernel)) ggX4_strain_X4_isLinkPlace
set_option maxRecDepth 20000 in
theorem ggX4_strain_X4_isWithin : GoodIn wsX4_strain wsX4_isWithin := goodIn_r _ [17] (by decide +kernel) (by decide +kernel)
set_option maxRecDepth 20000 in
theorem gX4_strain_X4_isWithin : GoodIn wsX4_strain (va_wsS RX4 37 yX4_isWithin wsX4_isWithin) := goodIn_app (goodIn_of _ (by decide +kernel)) ggX4_strain_X4_isWithin
set_option maxRecDepth 20000 in
theorem ggX4_strain_X4_refuseBad : GoodIn wsX4_strain wsX4_refuseBad := goodIn_r _ [21, 22, 107, 108, 109, 110, 111, 112, 113] (by decide +kernel) (by decide +kernel)
set_option maxRecDepth 20000 in
theorem gX4_strain_X4_refuseBad : GoodIn wsX4_strain (wsV RX4 41 RX4 yX4_refuseBad wsX4_refuseBad) := goodIn_app (goodIn_of _ (by decide +kernel)) ggX4_strain_X4_refuseBad
set_option maxRecDepth 20000 in
theorem ggX4_strain_X2_linkedTo : GoodIn wsX4_strain wsX2_linkedTo := goodIn_r _ [26, 27, 28, 9, 10, 11, 12, 13, 14, 29, 30, 31, 32, 114, 115, 116, 117, 118] (by decide +kernel) (by decide +kernel)
set_option maxRecDepth 20000 in
theorem gX4_strain_X2_linkedTo : GoodIn wsX4_strain (wsV RX4 104 RX2 yX2_linkedTo wsX2_linkedTo) := goodIn_app (goodIn_of _ (by decide +kernel)) ggX4_strain_X2_linkedTo
set_option maxRecDepth 20000 in
theorem ggX4_strain_X1_load : GoodIn wsX4_strain wsX1_load := goodIn_r _ [37, 38, 39, 40, 41, 42, 43, 44, 45, 11, 46, 13, 14, 47, 30, 31, 32, 48, 49, 50, 36, 51, 52, 53, 54, 55, 56, 57, 58, 27, 59, 60, 61, 62, 63, 64, 24, 25, 26, 28, 9, 10, 12, 29, 65, 66, 67, 68, 69, 70, 71, 72, 73, 74, 75, 76, 77, 78, 79, 119, 120, 121, 122, 123, 124, 125, 126, 114, 115, 116, 117, 118] (by decide +kernel) (by decide +kernel)
set_option maxRecDepth 20000 in
theorem gX4_strain_X1_load : GoodIn wsX4_strain (wsV RX4 126 RX1 yX1_load wsX1_load) := goodIn_app (goodIn_of _ (by decide +kernel)) ggX4_strain_X1_load
set_option maxRecDepth 20000 in
theorem ggX4_strain_X2_numberOf : GoodIn wsX4_strain wsX2_numberOf := goodIn_r _ [32, 13, 114, 115, 116, 117, 118] (by decide +kernel) (by decide +kernel)
set_option maxRecDepth 20000 in
theorem gX4_strain_X2_numberOf : GoodIn wsX4_strain (wsV RX4 60 RX2 yX2_numberOf wsX2_numberOf) := goodIn_app (goodIn_of _ (by decide +kernel)) ggX4_strain_X2_numberOf
set_option maxRecDepth 20000 in
theorem ggX4_strain_X1_join : GoodIn wsX4_strain wsX1_join := goodIn_r _ [75, 39, 76, 77, 78, 36, 79, 119, 120, 121, 122, 123, 124, 125, 126] (by decide +kernel) (by decide +kernel)
set_option maxRecDepth 20000 in
theorem gX4_strain_X1_join : GoodIn wsX4_strain (wsV RX4 136 RX1 yX1_join wsX1_join) := goodIn_app (goodIn_of _ (by decide +kernel)) ggX4_strain_X1_join
set_option maxRecDepth 20000 in
theorem ggX4_strain_X1_fill : GoodIn wsX4_strain wsX1_fill := goodIn_r _ [85, 38, 52, 86, 87, 88, 89, 36, 90, 91, 54, 92, 39, 76, 93, 94, 95, 96, 77, 78, 79, 97, 98, 99, 100, 101, 62, 102, 103, 104, 105, 106, 119, 120, 121, 122, 123, 124, 125, 126] (by decide +kernel) (by decide +kernel)
set_option maxRecDepth 20000 in
theorem gX4_strain_X1_fill : GoodIn wsX4_strain (wsV RX4 133 RX1 yX1_fill wsX1_fill) := goodIn_app (goodIn_of _ (by decide +kernel)) ggX4_strain_X1_fill
theorem dX4_strain_0 : decode cX4_strain 0 = .ok (.aload_n 0, 1) := by decide +kernel
theorem dX4_strain_1 : decode cX4_strain 1 = .ok (.iload_n 1, 1) := by decide +kernel
theorem dX4_strain_2 : decode cX4_strain 2 = .ok (.iload_n 2, 1) := by decide +kernel
theorem dX4_strain_3 : decode cX4_strain 3 = .ok (.iload_n 3, 1) := by decide +kernel
theorem dX4_strain_4 : decode cX4_strain 4 = .ok (.invokevirtual 101, 3) := by decide +kernel
theorem dX4_strain_7 : decode cX4_strain 7 = .ok (.ifCond .eq 14, 3) := by decide +kernel
theorem dX4_strain_10 : decode cX4_strain 10 = .ok (.iload 4, 2) := by decide +kernel
theorem dX4_strain_12 : decode cX4_strain 12 = .ok (.iconst 0, 1) := by decide +kernel
theorem dX4_strain_13 : decode cX4_strain 13 = .ok (.bipush 99, 2) := by decide +kernel
theorem dX4_strain_15 : decode cX4_strain 15 = .ok (.invokestatic 37, 3) := by decide +kernel
theorem dX4_strain_18 : decode cX4_strain 18 = .ok (.ifCond .ne 8, 3) := by decide +kernel
theorem dX4_strain_21 : decode cX4_strain 21 = .ok (.aload_n 0, 1) := by decide +kernel
theorem dX4_strain_22 : decode cX4_strain 22 = .ok (.invokevirtual 41, 3) := by decide +kernel
theorem dX4_strain_25 : decode cX4_strain 25 = .ok (.ireturn, 1) := by decide +kernel
theorem dX4_strain_26 : decode cX4_strain 26 = .ok (.aload_n 0, 1) := by decide +kernel
theorem dX4_strain_27 : decode cX4_strain 27 = .ok (.getfield 12, 3) := by decide +kernel
theorem dX4_strain_30 : decode cX4_strain 30 = .ok (.iload_n 1, 1) := by decide +kernel
theorem dX4_strain_31 : decode cX4_strain 31 = .ok (.iload_n 2, 1) := by decide +kernel
theorem dX4_strain_32 : decode cX4_strain 32 = .ok (.iload_n 3, 1) := by decide +kernel
theorem dX4_strain_33 : decode cX4_strain 33 = .ok (.invokevirtual 104, 3) := by decide +kernel
theorem dX4_strain_36 : decode cX4_strain 36 = .ok (.istore 5, 2) := by decide +kernel
theorem dX4_strain_38 : decode cX4_strain 38 = .ok (.iload 5, 2) := by decide +kernel
theorem dX4_strain_40 : decode cX4_strain 40 = .ok (.iconst (-1), 1) := by decide +kernel
theorem dX4_strain_41 : decode cX4_strain 41 = .ok (.if_icmp .ne 5, 3) := by decide +kernel
theorem dX4_strain_44 : decode cX4_strain 44 = .ok (.iconst (-1), 1) := by decide +kernel
theorem dX4_strain_45 : decode cX4_strain 45 = .ok (.ireturn, 1) := by decide +kernel
theorem dX4_strain_46 : decode cX4_strain 46 = .ok (.aload_n 0, 1) := by decide +kernel
theorem dX4_strain_47 : decode cX4_strain 47 = .ok (.getfield 26, 3) := by decide +kernel
theorem dX4_strain_50 : decode cX4_strain 50 = .ok (.aload_n 0, 1) := by decide +kernel
theorem dX4_strain_51 : decode cX4_strain 51 = .ok (.getfield 12, 3) := by decide +kernel
theorem dX4_strain_54 : decode cX4_strain 54 = .ok (.invokevirtual 126, 3) := by decide +kernel
theorem dX4_strain_57 : decode cX4_strain 57 = .ok (.aload_n 0, 1) := by decide +kernel
theorem dX4_strain_58 : decode cX4_strain 58 = .ok (.getfield 26, 3) := by decide +kernel
theorem dX4_strain_61 : decode cX4_strain 61 = .ok (.aload_n 0, 1) := by decide +kernel
theorem dX4_strain_62 : decode cX4_strain 62 = .ok (.getfield 12, 3) := by decide +kernel
theorem dX4_strain_65 : decode cX4_strain 65 = .ok (.iload_n 1, 1) := by decide +kernel
theorem dX4_strain_66 : decode cX4_strain 66 = .ok (.iload_n 2, 1) := by decide +kernel
theorem dX4_strain_67 : decode cX4_strain 67 = .ok (.invokevirtual 60, 3) := by decide +kernel
theorem dX4_strain_70 : decode cX4_strain 70 = .ok (.iload 5, 2) := by decide +kernel
theorem dX4_strain_72 : decode cX4_strain 72 = .ok (.iload_n 3, 1) := by decide +kernel
theorem dX4_strain_73 : decode cX4_strain 73 = .ok (.iload 4, 2) := by decide +kernel
theorem dX4_strain_75 : decode cX4_strain 75 = .ok (.invokevirtual 136, 3) := by decide +kernel
theorem dX4_strain_78 : decode cX4_strain 78 = .ok (.aload_n 0, 1) := by decide +kernel
theorem dX4_strain_79 : decode cX4_strain 79 = .ok (.getfield 26, 3) := by decide +kernel
theorem dX4_strain_82 : decode cX4_strain 82 = .ok (.invokevirtual 133, 3) := by decide +kernel
theorem dX4_strain_85 : decode cX4_strain 85 = .ok (.ireturn, 1) := by decide +kernel
set_option maxRecDepth 20000 in
theorem ggX4_tight_X4_isLinkPlace : GoodIn wsX4_tight wsX4_isLinkPlace := goodIn_r _ [7, 1, 8, 9, 10, 11, 12, 13, 14, 15, 16, 6, 17, 132, 133, 134, 135, 136, 137, 138, 139, 140, 141, 142, 143] (by decide +kernel) (by decide +kernel)
set_option maxRecDepth 20000 in
theorem gX4_tight_X4_isLinkPlace : GoodIn wsX4_tight (wsV RX4 101 RX4 yX4_isLinkPlace wsX4_isLinkPlace) := goodIn_app (goodIn_of _ (by decide +kernel)) ggX4_tight_X4_isLinkPlace
set_option maxRecDepth 20000 in
theorem ggX4_tight_X4_refuseBad : GoodIn wsX4_tight wsX4_refuseBad := goodIn_r _ [21, 22, 132, 133, 134, 135, 136, 137, 138] (by decide +kernel) (by decide +kernel)
set_option maxRecDepth 20000 in
theorem gX4_tight_X4_refuseBad : GoodIn wsX4_tight (wsV RX4 41 RX4 yX4_refuseBad wsX4_refuseBad) := goodIn_app (goodIn_of _ (by decide +kernel)) ggX4_tight_X4_refuseBad
set_option maxRecDepth 20000 in
theorem ggX4_tight_X2_linkedTo : GoodIn wsX4_tight wsX2_linkedTo := goodIn_r _ [26, 27, 28, 9, 10, 11, 12, 13, 14, 29, 30, 31, 32, 139, 140, 141, 142, 143] (by decide +kernel) (by decide +kernel)
set_option maxRecDepth 20000 in
theorem gX4_tight_X2_linkedTo : GoodIn wsX4_tight (wsV RX4 104 RX2 yX2_linkedTo wsX2_linkedTo) := goodIn_app (goodIn_of _ (by decide +kernel)) ggX4_tight_X2_linkedTo
set_option maxRecDepth 20000 in
theorem ggX4_tight_X2_numberOf : GoodIn wsX4_tight wsX2_numberOf := goodIn_r _ [32, 13, 139, 140, 141, 142, 143] (by decide +kernel) (by decide +kernel)
set_option maxRecDepth 20000 in
theorem gX4_tight_X2_numberOf : GoodIn wsX4_tight (wsV RX4 60 RX2 yX2_numberOf wsX2_numberOf) := goodIn_app (goodIn_of _ (by decide +kernel)) ggX4_tight_X2_numberOf
set_option maxRecDepth 20000 in
theorem ggX4_tight_X1_solve : GoodIn wsX4_tight wsX1_solve := goodIn_r _ [38, 39, 40, 41, 37, 42, 43, 44, 45, 46, 47, 48, 49, 50, 11, 51, 13, 14, 52, 30, 31, 32, 53, 54, 55, 56, 57, 58, 59, 60, 61, 62, 63, 27, 64, 65, 66, 67, 68, 69, 24, 25, 26, 28, 9, 10, 12, 29, 70, 71, 72, 73, 74, 75, 76, 77, 78, 79, 80, 81, 82, 83, 84, 85, 86, 87, 88, 89, 90, 91, 92, 93, 94, 95, 96, 97, 98, 99, 100, 101, 102, 103, 104, 105, 106, 107, 108, 109, 144, 145, 146, 147, 148, 149, 150, 151, 139, 140, 141, 142, 143] (by decide +kernel) (by decide +kernel)
set_option maxRecDepth 20000 in
theorem gX4_tight_X1_solve : GoodIn wsX4_tight (wsV RX4 111 RX1 yX1_solve wsX1_solve) := goodIn_app (goodIn_of _ (by decide +kernel)) ggX4_tight_X1_solve
set_option maxRecDepth 20000 in
theorem ggX4_tight_X1_alwaysParts : GoodIn wsX4_tight wsX1_alwaysParts := goodIn_r _ [113, 114, 115, 116, 37, 117, 43, 57, 118, 119, 120, 121, 94, 95, 44, 81, 122, 6, 123, 96, 97, 98, 99, 124, 125, 126, 127, 89, 90, 91, 92, 93, 59, 82, 83, 84, 144, 145, 146, 147, 148, 149, 150, 151] (by decide +kernel) (by decide +kernel)
set_option maxRecDepth 20000 in
theorem gX4_tight_X1_alwaysParts : GoodIn wsX4_tight (wsV RX4 140 RX1 yX1_alwaysParts wsX1_alwaysParts) := goodIn_app (goodIn_of _ (by decide +kernel)) ggX4_tight_X1_alwaysParts
set_option maxRecDepth 20000 in
theorem ggX4_tight_X1_mayPart : GoodIn wsX4_tight wsX1_mayPart := goodIn_r _ [131, 124, 125, 126, 37, 127, 43, 89, 90, 91, 92, 93, 94, 59, 95, 44, 81, 96, 97, 98, 99, 82, 83, 84, 122, 6, 123, 114, 115, 116, 117, 57, 118, 119, 120, 121, 144, 145, 146, 147, 148, 149, 150, 151] (by decide +kernel) (by decide +kernel)
set_option maxRecDepth 20000 in
theorem gX4_tight_X1_mayPart : GoodIn wsX4_tight (wsV RX4 143 RX1 yX1_mayPart wsX1_mayPart) := goodIn_app (goodIn_of _ (by decide +kernel)) ggX4_tight_X1_mayPart
theorem dX4_tight_0 : decode cX4_tight 0 = .ok (.aload_n 0, 1) := by decide +kernel
theorem dX4_tight_1 : decode cX4_tight 1 = .ok (.iload_n 1, 1) := by decide +kernel
theorem dX4_tight_2 : decode cX4_tight 2 = .ok (.iload_n 2, 1) := by decide +kernel
theorem dX4_tight_3 : decode cX4_tight 3 = .ok (.iload_n 3, 1) := by decide +kernel
theorem dX4_tight_4 : decode cX4_tight 4 = .ok (.invokevirtual 101, 3) := by decide +kernel
theorem dX4_tight_7 : decode cX4_tight 7 = .ok (.ifCond .ne 8, 3) := by decide +kernel
theorem dX4_tight_10 : decode cX4_tight 10 = .ok (.aload_n 0, 1) := by decide +kernel
theorem dX4_tight_11 : decode cX4_tight 11 = .ok (.invokevirtual 41, 3) := by decide +kernel
theorem dX4_tight_14 : decode cX4_tight 14 = .ok (.ireturn, 1) := by decide +kernel
theorem dX4_tight_15 : decode cX4_tight 15 = .ok (.aload_n 0, 1) := by decide +kernel
theorem dX4_tight_16 : decode cX4_tight 16 = .ok (.getfield 12, 3) := by decide +kernel
theorem dX4_tight_19 : decode cX4_tight 19 = .ok (.iload_n 1, 1) := by decide +kernel
theorem dX4_tight_20 : decode cX4_tight 20 = .ok (.iload_n 2, 1) := by decide +kernel
theorem dX4_tight_21 : decode cX4_tight 21 = .ok (.iload_n 3, 1) := by decide +kernel
theorem dX4_tight_22 : decode cX4_tight 22 = .ok (.invokevirtual 104, 3) := by decide +kernel
theorem dX4_tight_25 : decode cX4_tight 25 = .ok (.istore 4, 2) := by decide +kernel
theorem dX4_tight_27 : decode cX4_tight 27 = .ok (.iload 4, 2) := by decide +kernel
theorem dX4_tight_29 : decode cX4_tight 29 = .ok (.iconst (-1), 1) := by decide +kernel
theorem dX4_tight_30 : decode cX4_tight 30 = .ok (.if_icmp .ne 5, 3) := by decide +kernel
theorem dX4_tight_33 : decode cX4_tight 33 = .ok (.iconst (-1), 1) := by decide +kernel
theorem dX4_tight_34 : decode cX4_tight 34 = .ok (.ireturn, 1) := by decide +kernel
theorem dX4_tight_35 : decode cX4_tight 35 = .ok (.aload_n 0, 1) := by decide +kernel
theorem dX4_tight_36 : decode cX4_tight 36 = .ok (.getfield 12, 3) := by decide +kernel
theorem dX4_tight_39 : decode cX4_tight 39 = .ok (.iload_n 1, 1) := by decide +kernel
theorem dX4_tight_40 : decode cX4_tight 40 = .ok (.iload_n 2, 1) := by decide +kernel
theorem dX4_tight_41 : decode cX4_tight 41 = .ok (.invokevirtual 60, 3) := by decide +kernel
theorem dX4_tight_44 : decode cX4_tight 44 = .ok (.istore 5, 2) := by decide +kernel
theorem dX4_tight_46 : decode cX4_tight 46 = .ok (.aload_n 0, 1) := by decide +kernel
theorem dX4_tight_47 : decode cX4_tight 47 = .ok (.getfield 26, 3) := by decide +kernel
theorem dX4_tight_50 : decode cX4_tight 50 = .ok (.aload_n 0, 1) := by decide +kernel
theorem dX4_tight_51 : decode cX4_tight 51 = .ok (.getfield 12, 3) := by decide +kernel
theorem dX4_tight_54 : decode cX4_tight 54 = .ok (.invokevirtual 111, 3) := by decide +kernel
theorem dX4_tight_57 : decode cX4_tight 57 = .ok (.pop, 1) := by decide +kernel
theorem dX4_tight_58 : decode cX4_tight 58 = .ok (.aload_n 0, 1) := by decide +kernel
theorem dX4_tight_59 : decode cX4_tight 59 = .ok (.getfield 26, 3) := by decide +kernel
theorem dX4_tight_62 : decode cX4_tight 62 = .ok (.iload 5, 2) := by decide +kernel
theorem dX4_tight_64 : decode cX4_tight 64 = .ok (.iload 4, 2) := by decide +kernel
theorem dX4_tight_66 : decode cX4_tight 66 = .ok (.invokevirtual 140, 3) := by decide +kernel
theorem dX4_tight_69 : decode cX4_tight 69 = .ok (.ifCond .ne 17, 3) := by decide +kernel
theorem dX4_tight_72 : decode cX4_tight 72 = .ok (.aload_n 0, 1) := by decide +kernel
theorem dX4_tight_73 : decode cX4_tight 73 = .ok (.getfield 26, 3) := by decide +kernel
theorem dX4_tight_76 : decode cX4_tight 76 = .ok (.iload 4, 2) := by decide +kernel
theorem dX4_tight_78 : decode cX4_tight 78 = .ok (.iload 5, 2) := by decide +kernel
theorem dX4_tight_80 : decode cX4_tight 80 = .ok (.invokevirtual 140, 3) := by decide +kernel
theorem dX4_tight_83 : decode cX4_tight 83 = .ok (.ifCond .eq 5, 3) := by decide +kernel
theorem dX4_tight_86 : decode cX4_tight 86 = .ok (.iconst 2, 1) := by decide +kernel
theorem dX4_tight_87 : decode cX4_tight 87 = .ok (.ireturn, 1) := by decide +kernel
theorem dX4_tight_88 : decode cX4_tight 88 = .ok (.aload_n 0, 1) := by decide +kernel
theorem dX4_tight_89 : decode cX4_tight 89 = .ok (.getfield 26, 3) := by decide +kernel
theorem dX4_tight_92 : decode cX4_tight 92 = .ok (.iload 5, 2) := by decide +kernel
theorem dX4_tight_94 : decode cX4_tight 94 = .ok (.iload 4, 2) := by decide +kernel
theorem dX4_tight_96 : decode cX4_tight 96 = .ok (.invokevirtual 143, 3) := by decide +kernel
theorem dX4_tight_99 : decode cX4_tight 99 = .ok (.ifCond .ne 17, 3) := by decide +kernel
theorem dX4_tight_102 : decode cX4_tight 102 = .ok (.aload_n 0, 1) := by decide +kernel
theorem dX4_tight_103 : decode cX4_tight 103 = .ok (.getfield 26, 3) := by decide +kernel
theorem dX4_tight_106 : decode cX4_tight 106 = .ok (.iload 4, 2) := by decide +kernel
theorem dX4_tight_108 : decode cX4_tight 108 = .ok (.iload 5, 2) := by decide +kernel
theorem dX4_tight_110 : decode cX4_tight 110 = .ok (.invokevirtual 143, 3) := by decide +kernel
theorem dX4_tight_113 : decode cX4_tight 113 = .ok (.ifCond .eq 7, 3) := by decide +kernel
theorem dX4_tight_116 : decode cX4_tight 116 = .ok (.iconst 1, 1) := by decide +kernel
theorem dX4_tight_117 : decode cX4_tight 117 = .ok (.goto 4, 3) := by decide +kernel
theorem dX4_tight_120 : decode cX4_tight 120 = .ok (.iconst 0, 1) := by decide +kernel
theorem dX4_tight_121 : decode cX4_tight 121 = .ok (.ireturn, 1) := by decide +kernel
set_option maxRecDepth 20000 in
theorem ggX4_costs_X2_allDots : GoodIn wsX4_costs wsX2_allDots := goodIn_r _ [8, 9, 10, 11, 7, 12, 13, 14, 72, 73, 74, 75, 76] (by decide +kernel) (by decide +kernel)
set_option maxRecDepth 20000 in
theorem gX4_costs_X2_allDots : GoodIn wsX4_costs (wsV RX4 146 RX2 yX2_allDots wsX2_allDots) := goodIn_app (goodIn_of _ (by decide +kernel)) ggX4_costs_X2_allDots
set_option maxRecDepth 20000 in
theorem ggX4_costs_X4_refuseBad : GoodIn wsX4_costs wsX4_refuseBad := goodIn_r _ [19, 20, 65, 66, 67, 68, 69, 70, 71] (by decide +kernel) (by decide +kernel)
set_option maxRecDepth 20000 in
theorem gX4_costs_X4_refuseBad : GoodIn wsX4_costs (wsV RX4 41 RX4 yX4_refuseBad wsX4_refuseBad) := goodIn_app (goodIn_of _ (by decide +kernel)) ggX4_costs_X4_refuseBad
set_option maxRecDepth 20000 in
theorem ggX4_costs_X2_isCutOut : GoodIn wsX4_costs wsX2_isCutOut := goodIn_r _ [24, 25, 9, 10, 11, 7, 12, 13, 14, 26, 18, 27, 72, 73, 74, 75, 76] (by decide +kernel) (by decide +kernel)
set_option maxRecDepth 20000 in
theorem gX4_costs_X2_isCutOut : GoodIn wsX4_costs (wsV RX4 151 RX2 yX2_isCutOut wsX2_isCutOut) := goodIn_app (goodIn_of _ (by decide +kernel)) ggX4_costs_X2_isCutOut
set_option maxRecDepth 20000 in
theorem ggX4_costs_X2_costOf : GoodIn wsX4_costs wsX2_costOf := goodIn_r _ [31, 14, 13, 32, 33, 34, 7, 35, 26, 18, 27, 36, 37, 38, 39, 40, 41, 42, 43, 44, 45, 46, 47, 48, 49, 50, 51, 52, 53, 54, 55, 56, 57, 58, 59, 60, 61, 62, 63, 64, 72, 73, 74, 75, 76] (by decide +kernel) (by decide +kernel)
set_option maxRecDepth 20000 in
theorem gX4_costs_X2_costOf : GoodIn wsX4_costs (wsV RX4 159 RX2 yX2_costOf wsX2_costOf) := goodIn_app (goodIn_of _ (by decide +kernel)) ggX4_costs_X2_costOf
theorem dX4_costs_0 : decode cX4_costs 0 = .ok (.lload_n 1, 1) := by decide +kernel
theorem dX4_costs_1 : decode cX4_costs 1 = .ok (.aload_n 0, 1) := by decide +kernel
theorem dX4_costs_2 : decode cX4_costs 2 = .ok (.getfield 12, 3) := by decide +kernel
theorem dX4_costs_5 : decode cX4_costs 5 = .ok (.invokevirtual 146, 3) := by decide +kernel
theorem dX4_costs_8 : decode cX4_costs 8 = .ok (.ldc2_w 149, 3) := by decide +kernel
theorem dX4_costs_11 : decode cX4_costs 11 = .ok (.lxor, 1) := by decide +kernel
theorem dX4_costs_12 : decode cX4_costs 12 = .ok (.land, 1) := by decide +kernel
theorem dX4_costs_13 : decode cX4_costs 13 = .ok (.lconst 0, 1) := by decide +kernel
theorem dX4_costs_14 : decode cX4_costs 14 = .ok (.lcmp, 1) := by decide +kernel
theorem dX4_costs_15 : decode cX4_costs 15 = .ok (.ifCond .eq 8, 3) := by decide +kernel
theorem dX4_costs_18 : decode cX4_costs 18 = .ok (.aload_n 0, 1) := by decide +kernel
theorem dX4_costs_19 : decode cX4_costs 19 = .ok (.invokevirtual 41, 3) := by decide +kernel
theorem dX4_costs_22 : decode cX4_costs 22 = .ok (.ireturn, 1) := by decide +kernel
theorem dX4_costs_23 : decode cX4_costs 23 = .ok (.aload_n 0, 1) := by decide +kernel
theorem dX4_costs_24 : decode cX4_costs 24 = .ok (.getfield 12, 3) := by decide +kernel
theorem dX4_costs_27 : decode cX4_costs 27 = .ok (.lload_n 1, 1) := by decide +kernel
theorem dX4_costs_28 : decode cX4_costs 28 = .ok (.invokevirtual 151, 3) := by decide +kernel
theorem dX4_costs_31 : decode cX4_costs 31 = .ok (.ifCond .ne 16, 3) := by decide +kernel
theorem dX4_costs_34 : decode cX4_costs 34 = .ok (.aload_n 0, 1) := by decide +kernel
theorem dX4_costs_35 : decode cX4_costs 35 = .ok (.dup, 1) := by decide +kernel
theorem dX4_costs_36 : decode cX4_costs 36 = .ok (.getfield 155, 3) := by decide +kernel
theorem dX4_costs_39 : decode cX4_costs 39 = .ok (.iconst 1, 1) := by decide +kernel
theorem dX4_costs_40 : decode cX4_costs 40 = .ok (.iadd, 1) := by decide +kernel
theorem dX4_costs_41 : decode cX4_costs 41 = .ok (.putfield 155, 3) := by decide +kernel
theorem dX4_costs_44 : decode cX4_costs 44 = .ok (.bipush (-3), 2) := by decide +kernel
theorem dX4_costs_46 : decode cX4_costs 46 = .ok (.ireturn, 1) := by decide +kernel
theorem dX4_costs_47 : decode cX4_costs 47 = .ok (.aload_n 0, 1) := by decide +kernel
theorem dX4_costs_48 : decode cX4_costs 48 = .ok (.getfield 12, 3) := by decide +kernel
theorem dX4_costs_51 : decode cX4_costs 51 = .ok (.lload_n 1, 1) := by decide +kernel
theorem dX4_costs_52 : decode cX4_costs 52 = .ok (.invokevirtual 159, 3) := by decide +kernel
theorem dX4_costs_55 : decode cX4_costs 55 = .ok (.ireturn, 1) := by decide +kernel
set_option maxRecDepth 20000 in
theorem ggX4_shape_X4_isWithin : GoodIn wsX4_shape wsX4_isWithin := goodIn_r _ [6] (by decide +kernel) (by decide +kernel)
set_option maxRecDepth 20000 in
theorem gX4_shape_X4_isWithin : GoodIn wsX4_shape (va_wsS RX4 37 yX4_isWithin wsX4_isWithin) := goodIn_app (goodIn_of _ (by decide +kernel)) ggX4_shape_X4_isWithin
set_option maxRecDepth 20000 in
theorem ggX4_shape_X4_refuseBad : GoodIn wsX4_shape wsX4_refuseBad := goodIn_r _ [10, 11, 175, 176, 177, 178, 179, 180, 181] (by decide +kernel) (by decide +kernel)
set_option maxRecDepth 20000 in
theorem gX4_shape_X4_refuseBad : GoodIn wsX4_shape (wsV RX4 41 RX4 yX4_refuseBad wsX4_refuseBad) := goodIn_app (goodIn_of _ (by decide +kernel)) ggX4_shape_X4_refuseBad
set_option maxRecDepth 20000 in
theorem ggX4_shape_X1_solve : GoodIn wsX4_shape wsX1_solve := goodIn_r _ [16, 17, 18, 19, 15, 20, 21, 22, 23, 24, 25, 26, 27, 28, 29, 30, 31, 32, 33, 34, 35, 36, 37, 38, 39, 40, 41, 42, 43, 44, 45, 46, 47, 48, 49, 50, 51, 52, 53, 54, 55, 56, 57, 58, 59, 60, 61, 62, 63, 64, 65, 66, 67, 68, 69, 70, 71, 72, 73, 74, 75, 76, 77, 78, 79, 80, 81, 82, 83, 84, 85, 86, 87, 88, 89, 90, 91, 92, 93, 94, 95, 96, 97, 98, 99, 100, 101, 102, 182, 183, 184, 185, 186, 187, 188, 189, 190, 191, 192, 193, 194] (by decide +kernel) (by decide +kernel)
set_option maxRecDepth 20000 in
theorem gX4_shape_X1_solve : GoodIn wsX4_shape (wsV RX4 111 RX1 yX1_solve wsX1_solve) := goodIn_app (goodIn_of _ (by decide +kernel)) ggX4_shape_X1_solve
set_option maxRecDepth 20000 in
theorem ggX4_shape_X1_leastSet : GoodIn wsX4_shape wsX1_leastSet := goodIn_r _ [106, 21, 41, 107, 108, 109, 15, 110, 87, 88, 22, 74, 111, 5, 112, 89, 90, 91, 92, 182, 183, 184, 185, 186, 187, 188, 189] (by decide +kernel) (by decide +kernel)
set_option maxRecDepth 20000 in
theorem gX4_shape_X1_leastSet : GoodIn wsX4_shape (wsV RX4 115 RX1 yX1_leastSet wsX1_leastSet) := goodIn_app (goodIn_of _ (by decide +kernel)) ggX4_shape_X1_leastSet
set_option maxRecDepth 20000 in
theorem ggX4_shape_J13_bitCount_95d88 : GoodIn wsX4_shape wsJ13_bitCount_95d88 := goodIn_r _ [116, 117, 118, 119] (by decide +kernel) (by decide +kernel)
set_option maxRecDepth 20000 in
theorem gX4_shape_J13_bitCount_95d88 : GoodIn wsX4_shape (va_wsS RX4 163 yJ13_bitCount_95d88 wsJ13_bitCount_95d88) := goodIn_app (goodIn_of _ (by decide +kernel)) ggX4_shape_J13_bitCount_95d88
set_option maxRecDepth 20000 in
theorem ggX4_shape_X2_pieces : GoodIn wsX4_shape wsX2_pieces := goodIn_r _ [123, 124, 125, 126, 29, 127, 128, 129, 27, 28, 30, 31, 32, 130, 131, 132, 133, 134, 135, 136, 137, 62, 34, 35, 36, 190, 191, 192, 193, 194] (by decide +kernel) (by decide +kernel)
set_option maxRecDepth 20000 in
theorem gX4_shape_X2_pieces : GoodIn wsX4_shape (wsV RX4 168 RX2 yX2_pieces wsX2_pieces) := goodIn_app (goodIn_of _ (by decide +kernel)) ggX4_shape_X2_pieces
set_option maxRecDepth 20000 in
theorem ggX4_shape_X2_holes : GoodIn wsX4_shape wsX2_holes := goodIn_r _ [141, 128, 142, 143, 144, 29, 145, 129, 27, 28, 30, 31, 32, 146, 147, 148, 149, 134, 135, 136, 137, 62, 34, 35, 36, 150, 151, 152, 153, 124, 125, 126, 127, 130, 131, 132, 133, 190, 191, 192, 193, 194] (by decide +kernel) (by decide +kernel)
set_option maxRecDepth 20000 in
theorem gX4_shape_X2_holes : GoodIn wsX4_shape (wsV RX4 171 RX2 yX2_holes wsX2_holes) := goodIn_app (goodIn_of _ (by decide +kernel)) ggX4_shape_X2_holes
set_option maxRecDepth 20000 in
theorem ggX4_shape_X2_edges : GoodIn wsX4_shape wsX2_edges := goodIn_r _ [157, 31, 128, 134, 135, 136, 29, 137, 32, 62, 34, 35, 36, 158, 114, 115, 116, 117, 118, 119, 190, 191, 192, 193, 194] (by decide +kernel) (by decide +kernel)
set_option maxRecDepth 20000 in
theorem gX4_shape_X2_edges : GoodIn wsX4_shape (wsV RX4 174 RX2 yX2_edges wsX2_edges) := goodIn_app (goodIn_of _ (by decide +kernel)) ggX4_shape_X2_edges
set_option maxRecDepth 20000 in
theorem ggX4_shape_X2_firstColumn : GoodIn wsX4_shape wsX2_firstColumn := goodIn_r _ [162, 31, 134, 135, 136, 29, 137, 32, 62, 34, 35, 36, 190, 191, 192, 193, 194] (by decide +kernel) (by decide +kernel)
set_option maxRecDepth 20000 in
theorem gX4_shape_X2_firstColumn : GoodIn wsX4_shape (wsV RX4 177 RX2 yX2_firstColumn wsX2_firstColumn) := goodIn_app (goodIn_of _ (by decide +kernel)) ggX4_shape_X2_firstColumn
set_option maxRecDepth 20000 in
theorem ggX4_shape_X2_firstRow : GoodIn wsX4_shape wsX2_firstRow := goodIn_r _ [166, 32, 150, 151, 152, 29, 153, 31, 62, 34, 35, 36, 190, 191, 192, 193, 194] (by decide +kernel) (by decide +kernel)
set_option maxRecDepth 20000 in
theorem gX4_shape_X2_firstRow : GoodIn wsX4_shape (wsV RX4 180 RX2 yX2_firstRow wsX2_firstRow) := goodIn_app (goodIn_of _ (by decide +kernel)) ggX4_shape_X2_firstRow
set_option maxRecDepth 20000 in
theorem ggX4_shape_X2_lastColumn : GoodIn wsX4_shape wsX2_lastColumn := goodIn_r _ [170, 31, 134, 135, 136, 29, 137, 32, 62, 34, 35, 36, 190, 191, 192, 193, 194] (by decide +kernel) (by decide +kernel)
set_option maxRecDepth 20000 in
theorem gX4_shape_X2_lastColumn : GoodIn wsX4_shape (wsV RX4 183 RX2 yX2_lastColumn wsX2_lastColumn) := goodIn_app (goodIn_of _ (by decide +kernel)) ggX4_shape_X2_lastColumn
set_option maxRecDepth 20000 in
theorem ggX4_shape_X2_lastRow : GoodIn wsX4_shape wsX2_lastRow := goodIn_r _ [174, 32, 150, 151, 152, 29, 153, 31, 62, 34, 35, 36, 190, 191, 192, 193, 194] (by decide +kernel) (by decide +kernel)
set_option maxRecDepth 20000 in
theorem gX4_shape_X2_lastRow : GoodIn wsX4_shape (wsV RX4 186 RX2 yX2_lastRow wsX2_lastRow) := goodIn_app (goodIn_of _ (by decide +kernel)) ggX4_shape_X2_lastRow
theorem dX4_shape_0 : decode cX4_shape 0 = .ok (.iload_n 1, 1) := by decide +kernel
theorem dX4_shape_1 : decode cX4_shape 1 = .ok (.iconst 0, 1) := by decide +kernel
theorem dX4_shape_2 : decode cX4_shape 2 = .ok (.bipush 7, 2) := by decide +kernel
theorem dX4_shape_4 : decode cX4_shape 4 = .ok (.invokestatic 37, 3) := by decide +kernel
theorem dX4_shape_7 : decode cX4_shape 7 = .ok (.ifCond .ne 8, 3) := by decide +kernel
theorem dX4_shape_10 : decode cX4_shape 10 = .ok (.aload_n 0, 1) := by decide +kernel
theorem dX4_shape_11 : decode cX4_shape 11 = .ok (.invokevirtual 41, 3) := by decide +kernel
theorem dX4_shape_14 : decode cX4_shape 14 = .ok (.ireturn, 1) := by decide +kernel
theorem dX4_shape_15 : decode cX4_shape 15 = .ok (.aload_n 0, 1) := by decide +kernel
theorem dX4_shape_16 : decode cX4_shape 16 = .ok (.getfield 26, 3) := by decide +kernel
theorem dX4_shape_19 : decode cX4_shape 19 = .ok (.aload_n 0, 1) := by decide +kernel
theorem dX4_shape_20 : decode cX4_shape 20 = .ok (.getfield 12, 3) := by decide +kernel
theorem dX4_shape_23 : decode cX4_shape 23 = .ok (.invokevirtual 111, 3) := by decide +kernel
theorem dX4_shape_26 : decode cX4_shape 26 = .ok (.pop, 1) := by decide +kernel
theorem dX4_shape_27 : decode cX4_shape 27 = .ok (.aload_n 0, 1) := by decide +kernel
theorem dX4_shape_28 : decode cX4_shape 28 = .ok (.getfield 26, 3) := by decide +kernel
theorem dX4_shape_31 : decode cX4_shape 31 = .ok (.invokevirtual 115, 3) := by decide +kernel
theorem dX4_shape_34 : decode cX4_shape 34 = .ok (.lstore_n 2, 1) := by decide +kernel
theorem dX4_shape_35 : decode cX4_shape 35 = .ok (.iload_n 1, 1) := by decide +kernel
theorem dX4_shape_36 : decode cX4_shape 36 = .ok (.tableswitch 103 0 6 #[44, 49, 58, 67, 76, 85, 94], 44) := by decide +kernel
theorem dX4_shape_80 : decode cX4_shape 80 = .ok (.lload_n 2, 1) := by decide +kernel
theorem dX4_shape_81 : decode cX4_shape 81 = .ok (.invokestatic 163, 3) := by decide +kernel
theorem dX4_shape_84 : decode cX4_shape 84 = .ok (.ireturn, 1) := by decide +kernel
theorem dX4_shape_85 : decode cX4_shape 85 = .ok (.aload_n 0, 1) := by decide +kernel
theorem dX4_shape_86 : decode cX4_shape 86 = .ok (.getfield 12, 3) := by decide +kernel
theorem dX4_shape_89 : decode cX4_shape 89 = .ok (.lload_n 2, 1) := by decide +kernel
theorem dX4_shape_90 : decode cX4_shape 90 = .ok (.invokevirtual 168, 3) := by decide +kernel
theorem dX4_shape_93 : decode cX4_shape 93 = .ok (.ireturn, 1) := by decide +kernel
theorem dX4_shape_94 : decode cX4_shape 94 = .ok (.aload_n 0, 1) := by decide +kernel
theorem dX4_shape_95 : decode cX4_shape 95 = .ok (.getfield 12, 3) := by decide +kernel
theorem dX4_shape_98 : decode cX4_shape 98 = .ok (.lload_n 2, 1) := by decide +kernel
theorem dX4_shape_99 : decode cX4_shape 99 = .ok (.invokevirtual 171, 3) := by decide +kernel
theorem dX4_shape_102 : decode cX4_shape 102 = .ok (.ireturn, 1) := by decide +kernel
theorem dX4_shape_103 : decode cX4_shape 103 = .ok (.aload_n 0, 1) := by decide +kernel
theorem dX4_shape_104 : decode cX4_shape 104 = .ok (.getfield 12, 3) := by decide +kernel
theorem dX4_shape_107 : decode cX4_shape 107 = .ok (.lload_n 2, 1) := by decide +kernel
theorem dX4_shape_108 : decode cX4_shape 108 = .ok (.invokevirtual 174, 3) := by decide +kernel
theorem dX4_shape_111 : decode cX4_shape 111 = .ok (.ireturn, 1) := by decide +kernel
theorem dX4_shape_112 : decode cX4_shape 112 = .ok (.aload_n 0, 1) := by decide +kernel
theorem dX4_shape_113 : decode cX4_shape 113 = .ok (.getfield 12, 3) := by decide +kernel
theorem dX4_shape_116 : decode cX4_shape 116 = .ok (.lload_n 2, 1) := by decide +kernel
theorem dX4_shape_117 : decode cX4_shape 117 = .ok (.invokevirtual 177, 3) := by decide +kernel
theorem dX4_shape_120 : decode cX4_shape 120 = .ok (.ireturn, 1) := by decide +kernel
theorem dX4_shape_121 : decode cX4_shape 121 = .ok (.aload_n 0, 1) := by decide +kernel
theorem dX4_shape_122 : decode cX4_shape 122 = .ok (.getfield 12, 3) := by decide +kernel
theorem dX4_shape_125 : decode cX4_shape 125 = .ok (.lload_n 2, 1) := by decide +kernel
theorem dX4_shape_126 : decode cX4_shape 126 = .ok (.invokevirtual 180, 3) := by decide +kernel
theorem dX4_shape_129 : decode cX4_shape 129 = .ok (.ireturn, 1) := by decide +kernel
theorem dX4_shape_130 : decode cX4_shape 130 = .ok (.aload_n 0, 1) := by decide +kernel
theorem dX4_shape_131 : decode cX4_shape 131 = .ok (.getfield 12, 3) := by decide +kernel
theorem dX4_shape_134 : decode cX4_shape 134 = .ok (.lload_n 2, 1) := by decide +kernel
theorem dX4_shape_135 : decode cX4_shape 135 = .ok (.invokevirtual 183, 3) := by decide +kernel
theorem dX4_shape_138 : decode cX4_shape 138 = .ok (.ireturn, 1) := by decide +kernel
theorem dX4_shape_139 : decode cX4_shape 139 = .ok (.aload_n 0, 1) := by decide +kernel
theorem dX4_shape_140 : decode cX4_shape 140 = .ok (.getfield 12, 3) := by decide +kernel
theorem dX4_shape_143 : decode cX4_shape 143 = .ok (.lload_n 2, 1) := by decide +kernel
theorem dX4_shape_144 : decode cX4_shape 144 = .ok (.invokevirtual 186, 3) := by decide +kernel
theorem dX4_shape_147 : decode cX4_shape 147 = .ok (.ireturn, 1) := by decide +kernel
set_option maxRecDepth 20000 in
theorem ggX4_learns_X4_isWithin : GoodIn wsX4_learns wsX4_isWithin := goodIn_r _ [6] (by decide +kernel) (by decide +kernel)
set_option maxRecDepth 20000 in
theorem gX4_learns_X4_isWithin : GoodIn wsX4_learns (va_wsS RX4 37 yX4_isWithin wsX4_isWithin) := goodIn_app (goodIn_of _ (by decide +kernel)) ggX4_learns_X4_isWithin
set_option maxRecDepth 20000 in
theorem ggX4_learns_X4_refuseBad : GoodIn wsX4_learns wsX4_refuseBad := goodIn_r _ [10, 11, 150, 151, 152, 153, 154, 155, 156] (by decide +kernel) (by decide +kernel)
set_option maxRecDepth 20000 in
theorem gX4_learns_X4_refuseBad : GoodIn wsX4_learns (wsV RX4 41 RX4 yX4_refuseBad wsX4_refuseBad) := goodIn_app (goodIn_of _ (by decide +kernel)) ggX4_learns_X4_refuseBad
set_option maxRecDepth 20000 in
theorem ggX4_learns_X0_remember : GoodIn wsX4_learns wsX0_remember := goodIn_r _ [16, 17, 18, 19, 20, 21, 22, 23, 24, 25, 26, 27, 28, 29, 30, 31, 32, 33, 34, 35, 36, 37, 157, 158, 159, 160, 161, 162, 163, 164] (by decide +kernel) (by decide +kernel)
set_option maxRecDepth 20000 in
theorem gX4_learns_X0_remember : GoodIn wsX4_learns (wsV RX4 45 RX0 yX0_remember wsX0_remember) := goodIn_app (goodIn_of _ (by decide +kernel)) ggX4_learns_X0_remember
set_option maxRecDepth 20000 in
theorem ggX4_learns_X4_learnRounds : GoodIn wsX4_learns wsX4_learnRounds := goodIn_r _ [41, 42, 2, 43, 44, 45, 46, 47, 48, 49, 50, 51, 52, 53, 54, 55, 56, 57, 58, 59, 27, 60, 29, 30, 61, 62, 63, 64, 65, 66, 67, 68, 69, 70, 71, 72, 73, 74, 75, 31, 36, 76, 77, 22, 78, 79, 80, 81, 82, 83, 84, 85, 86, 87, 88, 89, 90, 91, 92, 93, 94, 95, 96, 97, 98, 99, 100, 101, 102, 103, 104, 105, 106, 107, 108, 109, 110, 111, 112, 113, 114, 115, 116, 117, 118, 119, 120, 121, 21, 23, 122, 123, 124, 125, 126, 127, 128, 129, 130, 131, 132, 133, 134, 5, 135, 136, 137, 138, 139, 140, 141, 142, 143, 144, 145, 146, 147, 148, 149, 150, 151, 152, 153, 154, 155, 156, 165, 166, 167, 168, 169, 170, 171, 172, 160, 161, 162, 163, 164] (by decide +kernel) (by decide +kernel)
set_option maxRecDepth 20000 in
theorem gX4_learns_X4_learnRounds : GoodIn wsX4_learns (wsV RX4 189 RX4 yX4_learnRounds wsX4_learnRounds) := goodIn_app (goodIn_of _ (by decide +kernel)) ggX4_learns_X4_learnRounds
theorem dX4_learns_0 : decode cX4_learns 0 = .ok (.iload_n 1, 1) := by decide +kernel
theorem dX4_learns_1 : decode cX4_learns 1 = .ok (.iconst 1, 1) := by decide +kernel
theorem dX4_learns_2 : decode cX4_learns 2 = .ok (.bipush 20, 2) := by decide +kernel
theorem dX4_learns_4 : decode cX4_learns 4 = .ok (.invokestatic 37, 3) := by decide +kernel
theorem dX4_learns_7 : decode cX4_learns 7 = .ok (.ifCond .ne 8, 3) := by decide +kernel
theorem dX4_learns_10 : decode cX4_learns 10 = .ok (.aload_n 0, 1) := by decide +kernel
theorem dX4_learns_11 : decode cX4_learns 11 = .ok (.invokevirtual 41, 3) := by decide +kernel
theorem dX4_learns_14 : decode cX4_learns 14 = .ok (.ireturn, 1) := by decide +kernel
theorem dX4_learns_15 : decode cX4_learns 15 = .ok (.aload_n 0, 1) := by decide +kernel
theorem dX4_learns_16 : decode cX4_learns 16 = .ok (.getfield 19, 3) := by decide +kernel
theorem dX4_learns_19 : decode cX4_learns 19 = .ok (.aload_n 0, 1) := by decide +kernel
theorem dX4_learns_20 : decode cX4_learns 20 = .ok (.getfield 12, 3) := by decide +kernel
theorem dX4_learns_23 : decode cX4_learns 23 = .ok (.invokevirtual 45, 3) := by decide +kernel
theorem dX4_learns_26 : decode cX4_learns 26 = .ok (.aload_n 0, 1) := by decide +kernel
theorem dX4_learns_27 : decode cX4_learns 27 = .ok (.iload_n 1, 1) := by decide +kernel
theorem dX4_learns_28 : decode cX4_learns 28 = .ok (.invokevirtual 189, 3) := by decide +kernel
theorem dX4_learns_31 : decode cX4_learns 31 = .ok (.ireturn, 1) := by decide +kernel
set_option maxRecDepth 20000 in
theorem ggX4_keeps_X0_remember : GoodIn wsX4_keeps wsX0_remember := goodIn_r _ [8, 9, 10, 11, 12, 13, 14, 15, 16, 17, 18, 19, 20, 21, 22, 23, 24, 25, 26, 27, 28, 29, 136, 137, 138, 139, 140, 141, 142, 143] (by decide +kernel) (by decide +kernel)
set_option maxRecDepth 20000 in
theorem gX4_keeps_X0_remember : GoodIn wsX4_keeps (wsV RX4 45 RX0 yX0_remember wsX0_remember) := goodIn_app (goodIn_of _ (by decide +kernel)) ggX4_keeps_X0_remember
set_option maxRecDepth 20000 in
theorem ggX4_keeps_X1_solve : GoodIn wsX4_keeps wsX1_solve := goodIn_r _ [34, 35, 36, 37, 33, 38, 39, 40, 41, 42, 43, 44, 45, 46, 19, 47, 21, 22, 48, 49, 50, 51, 52, 53, 54, 55, 56, 57, 58, 59, 60, 61, 62, 23, 28, 63, 64, 14, 65, 66, 67, 68, 69, 70, 71, 72, 73, 74, 75, 76, 77, 78, 79, 80, 81, 82, 83, 84, 85, 86, 87, 88, 89, 90, 91, 92, 93, 94, 95, 96, 97, 98, 99, 100, 101, 102, 103, 104, 105, 106, 107, 108, 13, 15, 109, 110, 111, 112, 144, 145, 146, 147, 148, 149, 150, 151, 139, 140, 141, 142, 143] (by decide +kernel) (by decide +kernel)
set_option maxRecDepth 20000 in
theorem gX4_keeps_X1_solve : GoodIn wsX4_keeps (wsV RX4 111 RX1 yX1_solve wsX1_solve) := goodIn_app (goodIn_of _ (by decide +kernel)) ggX4_keeps_X1_solve
set_option maxRecDepth 20000 in
theorem ggX4_keeps_X1_leastSet : GoodIn wsX4_keeps wsX1_leastSet := goodIn_r _ [116, 39, 56, 117, 118, 119, 33, 120, 99, 100, 40, 86, 121, 122, 123, 101, 102, 103, 104, 144, 145, 146, 147, 148, 149, 150, 151] (by decide +kernel) (by decide +kernel)
set_option maxRecDepth 20000 in
theorem gX4_keeps_X1_leastSet : GoodIn wsX4_keeps (wsV RX4 115 RX1 yX1_leastSet wsX1_leastSet) := goodIn_app (goodIn_of _ (by decide +kernel)) ggX4_keeps_X1_leastSet
set_option maxRecDepth 20000 in
theorem ggX4_keeps_X2_markRest : GoodIn wsX4_keeps wsX2_markRest := goodIn_r _ [127, 29, 128, 45, 46, 19, 47, 21, 22, 121, 122, 123, 139, 140, 141, 142, 143] (by decide +kernel) (by decide +kernel)
set_option maxRecDepth 20000 in
theorem gX4_keeps_X2_markRest : GoodIn wsX4_keeps (wsV RX4 193 RX2 yX2_markRest wsX2_markRest) := goodIn_app (goodIn_of _ (by decide +kernel)) ggX4_keeps_X2_markRest
theorem dX4_keeps_0 : decode cX4_keeps 0 = .ok (.aload_n 0, 1) := by decide +kernel
theorem dX4_keeps_1 : decode cX4_keeps 1 = .ok (.getfield 19, 3) := by decide +kernel
theorem dX4_keeps_4 : decode cX4_keeps 4 = .ok (.aload_n 0, 1) := by decide +kernel
theorem dX4_keeps_5 : decode cX4_keeps 5 = .ok (.getfield 12, 3) := by decide +kernel
theorem dX4_keeps_8 : decode cX4_keeps 8 = .ok (.invokevirtual 45, 3) := by decide +kernel
theorem dX4_keeps_11 : decode cX4_keeps 11 = .ok (.aload_n 0, 1) := by decide +kernel
theorem dX4_keeps_12 : decode cX4_keeps 12 = .ok (.getfield 26, 3) := by decide +kernel
theorem dX4_keeps_15 : decode cX4_keeps 15 = .ok (.aload_n 0, 1) := by decide +kernel
theorem dX4_keeps_16 : decode cX4_keeps 16 = .ok (.getfield 12, 3) := by decide +kernel
theorem dX4_keeps_19 : decode cX4_keeps 19 = .ok (.invokevirtual 111, 3) := by decide +kernel
theorem dX4_keeps_22 : decode cX4_keeps 22 = .ok (.pop, 1) := by decide +kernel
theorem dX4_keeps_23 : decode cX4_keeps 23 = .ok (.aload_n 0, 1) := by decide +kernel
theorem dX4_keeps_24 : decode cX4_keeps 24 = .ok (.getfield 12, 3) := by decide +kernel
theorem dX4_keeps_27 : decode cX4_keeps 27 = .ok (.aload_n 0, 1) := by decide +kernel
theorem dX4_keeps_28 : decode cX4_keeps 28 = .ok (.getfield 26, 3) := by decide +kernel
theorem dX4_keeps_31 : decode cX4_keeps 31 = .ok (.invokevirtual 115, 3) := by decide +kernel
theorem dX4_keeps_34 : decode cX4_keeps 34 = .ok (.invokevirtual 193, 3) := by decide +kernel
theorem dX4_keeps_37 : decode cX4_keeps 37 = .ok (.ireturn, 1) := by decide +kernel
set_option maxRecDepth 20000 in
theorem ggX4_turns_X0_remember : GoodIn wsX4_turns wsX0_remember := goodIn_r _ [7, 8, 9, 10, 11, 12, 13, 14, 15, 16, 17, 18, 19, 20, 21, 22, 23, 24, 25, 26, 27, 28, 44, 45, 46, 47, 48, 49, 50, 51] (by decide +kernel) (by decide +kernel)
set_option maxRecDepth 20000 in
theorem gX4_turns_X0_remember : GoodIn wsX4_turns (wsV RX4 45 RX0 yX0_remember wsX0_remember) := goodIn_app (goodIn_of _ (by decide +kernel)) ggX4_turns_X0_remember
set_option maxRecDepth 20000 in
theorem ggX4_turns_X2_swapSides : GoodIn wsX4_turns wsX2_swapSides := goodIn_r _ [32, 28, 22, 33, 34, 35, 18, 36, 20, 21, 47, 48, 49, 50, 51] (by decide +kernel) (by decide +kernel)
set_option maxRecDepth 20000 in
theorem gX4_turns_X2_swapSides : GoodIn wsX4_turns (wsV RX4 196 RX2 yX2_swapSides wsX2_swapSides) := goodIn_app (goodIn_of _ (by decide +kernel)) ggX4_turns_X2_swapSides
theorem dX4_turns_0 : decode cX4_turns 0 = .ok (.aload_n 0, 1) := by decide +kernel
theorem dX4_turns_1 : decode cX4_turns 1 = .ok (.getfield 19, 3) := by decide +kernel
theorem dX4_turns_4 : decode cX4_turns 4 = .ok (.aload_n 0, 1) := by decide +kernel
theorem dX4_turns_5 : decode cX4_turns 5 = .ok (.getfield 12, 3) := by decide +kernel
theorem dX4_turns_8 : decode cX4_turns 8 = .ok (.invokevirtual 45, 3) := by decide +kernel
theorem dX4_turns_11 : decode cX4_turns 11 = .ok (.aload_n 0, 1) := by decide +kernel
theorem dX4_turns_12 : decode cX4_turns 12 = .ok (.getfield 12, 3) := by decide +kernel
theorem dX4_turns_15 : decode cX4_turns 15 = .ok (.invokevirtual 196, 3) := by decide +kernel
theorem dX4_turns_18 : decode cX4_turns 18 = .ok (.ireturn, 1) := by decide +kernel
set_option maxRecDepth 20000 in
theorem ggX4_type_X4_isWithin : GoodIn wsX4_type wsX4_isWithin := goodIn_r _ [7] (by decide +kernel) (by decide +kernel)
set_option maxRecDepth 20000 in
theorem gX4_type_X4_isWithin : GoodIn wsX4_type (va_wsS RX4 37 yX4_isWithin wsX4_isWithin) := goodIn_app (goodIn_of _ (by decide +kernel)) ggX4_type_X4_isWithin
set_option maxRecDepth 20000 in
theorem ggX4_type_X4_refuseBad : GoodIn wsX4_type wsX4_refuseBad := goodIn_r _ [11, 12, 20, 21, 22, 23, 24, 25, 26] (by decide +kernel) (by decide +kernel)
set_option maxRecDepth 20000 in
theorem gX4_type_X4_refuseBad : GoodIn wsX4_type (wsV RX4 41 RX4 yX4_refuseBad wsX4_refuseBad) := goodIn_app (goodIn_of _ (by decide +kernel)) ggX4_type_X4_refuseBad
set_option maxRecDepth 20000 in
theorem ggX4_type_X3_takeByte : GoodIn wsX4_type wsX3_takeByte := goodIn_r _ [17, 18, 19, 27, 28, 29, 30, 31, 32, 33] (by decide +kernel) (by decide +kernel)
set_option maxRecDepth 20000 in
theorem gX4_type_X3_takeByte : GoodIn wsX4_type (wsV RX4 199 RX3 yX3_takeByte wsX3_takeByte) := goodIn_app (goodIn_of _ (by decide +kernel)) ggX4_type_X3_takeByte
theorem dX4_type_0 : decode cX4_type 0 = .ok (.iload_n 1, 1) := by decide +kernel
theorem dX4_type_1 : decode cX4_type 1 = .ok (.iconst 0, 1) := by decide +kernel
theorem dX4_type_2 : decode cX4_type 2 = .ok (.bipush 127, 2) := by decide +kernel
theorem dX4_type_4 : decode cX4_type 4 = .ok (.invokestatic 37, 3) := by decide +kernel
theorem dX4_type_7 : decode cX4_type 7 = .ok (.ifCond .ne 8, 3) := by decide +kernel
theorem dX4_type_10 : decode cX4_type 10 = .ok (.aload_n 0, 1) := by decide +kernel
theorem dX4_type_11 : decode cX4_type 11 = .ok (.invokevirtual 41, 3) := by decide +kernel
theorem dX4_type_14 : decode cX4_type 14 = .ok (.ireturn, 1) := by decide +kernel
theorem dX4_type_15 : decode cX4_type 15 = .ok (.aload_n 0, 1) := by decide +kernel
theorem dX4_type_16 : decode cX4_type 16 = .ok (.getfield 33, 3) := by decide +kernel
theorem dX4_type_19 : decode cX4_type 19 = .ok (.iload_n 1, 1) := by decide +kernel
theorem dX4_type_20 : decode cX4_type 20 = .ok (.invokevirtual 199, 3) := by decide +kernel
theorem dX4_type_23 : decode cX4_type 23 = .ok (.ifCond .ne 16, 3) := by decide +kernel
theorem dX4_type_26 : decode cX4_type 26 = .ok (.aload_n 0, 1) := by decide +kernel
theorem dX4_type_27 : decode cX4_type 27 = .ok (.dup, 1) := by decide +kernel
theorem dX4_type_28 : decode cX4_type 28 = .ok (.getfield 203, 3) := by decide +kernel
theorem dX4_type_31 : decode cX4_type 31 = .ok (.iconst 1, 1) := by decide +kernel
theorem dX4_type_32 : decode cX4_type 32 = .ok (.iadd, 1) := by decide +kernel
theorem dX4_type_33 : decode cX4_type 33 = .ok (.putfield 203, 3) := by decide +kernel
theorem dX4_type_36 : decode cX4_type 36 = .ok (.bipush (-4), 2) := by decide +kernel
theorem dX4_type_38 : decode cX4_type 38 = .ok (.ireturn, 1) := by decide +kernel
theorem dX4_type_39 : decode cX4_type 39 = .ok (.aload_n 0, 1) := by decide +kernel
theorem dX4_type_40 : decode cX4_type 40 = .ok (.getfield 33, 3) := by decide +kernel
theorem dX4_type_43 : decode cX4_type 43 = .ok (.getfield 206, 3) := by decide +kernel
theorem dX4_type_46 : decode cX4_type 46 = .ok (.ireturn, 1) := by decide +kernel
theorem dX4_clear_0 : decode cX4_clear 0 = .ok (.aload_n 0, 1) := by decide +kernel
theorem dX4_clear_1 : decode cX4_clear 1 = .ok (.getfield 33, 3) := by decide +kernel
theorem dX4_clear_4 : decode cX4_clear 4 = .ok (.getfield 206, 3) := by decide +kernel
theorem dX4_clear_7 : decode cX4_clear 7 = .ok (.istore_n 1, 1) := by decide +kernel
theorem dX4_clear_8 : decode cX4_clear 8 = .ok (.aload_n 0, 1) := by decide +kernel
theorem dX4_clear_9 : decode cX4_clear 9 = .ok (.getfield 33, 3) := by decide +kernel
theorem dX4_clear_12 : decode cX4_clear 12 = .ok (.iconst 0, 1) := by decide +kernel
theorem dX4_clear_13 : decode cX4_clear 13 = .ok (.putfield 206, 3) := by decide +kernel
theorem dX4_clear_16 : decode cX4_clear 16 = .ok (.iload_n 1, 1) := by decide +kernel
theorem dX4_clear_17 : decode cX4_clear 17 = .ok (.ireturn, 1) := by decide +kernel
set_option maxRecDepth 20000 in
theorem ggX4_does_X3_findFault : GoodIn wsX4_does wsX3_findFault := goodIn_r _ [11, 12, 13, 14, 15, 16, 10, 17, 18, 19, 20, 21, 22, 23, 24, 25, 26, 27, 28, 29, 30, 31, 32, 33, 34, 35, 36, 37, 38, 39, 40, 41, 42, 43, 44, 45, 226, 227, 228, 229, 230, 231, 232] (by decide +kernel) (by decide +kernel)
set_option maxRecDepth 20000 in
theorem gX4_does_X3_findFault : GoodIn wsX4_does (wsV RX4 215 RX3 yX3_findFault wsX3_findFault) := goodIn_app (goodIn_of _ (by decide +kernel)) ggX4_does_X3_findFault
set_option maxRecDepth 20000 in
theorem ggX4_does_X0_remember : GoodIn wsX4_does wsX0_remember := goodIn_r _ [50, 51, 52, 53, 54, 55, 56, 57, 58, 59, 60, 61, 62, 63, 64, 65, 66, 67, 68, 69, 70, 71, 233, 234, 235, 221, 222, 223, 224, 225] (by decide +kernel) (by decide +kernel)
set_option maxRecDepth 20000 in
theorem gX4_does_X0_remember : GoodIn wsX4_does (wsV RX4 45 RX0 yX0_remember wsX0_remember) := goodIn_app (goodIn_of _ (by decide +kernel)) ggX4_does_X0_remember
set_option maxRecDepth 20000 in
theorem ggX4_does_X3_rewind : GoodIn wsX4_does wsX3_rewind := goodIn_r _ [17, 13, 226, 227, 228, 229, 230, 231, 232] (by decide +kernel) (by decide +kernel)
set_option maxRecDepth 20000 in
theorem gX4_does_X3_rewind : GoodIn wsX4_does (wsV RX4 221 RX3 yX3_rewind wsX3_rewind) := goodIn_app (goodIn_of _ (by decide +kernel)) ggX4_does_X3_rewind
set_option maxRecDepth 20000 in
theorem ggX4_does_X3_readOrder : GoodIn wsX4_does wsX3_readOrder := goodIn_r _ [27, 28, 29, 13, 18, 19, 20, 10, 21, 22, 23, 30, 31, 32, 33, 34, 35, 36, 37, 38, 39, 40, 41, 42, 43, 44, 45, 226, 227, 228, 229, 230, 231, 232] (by decide +kernel) (by decide +kernel)
set_option maxRecDepth 20000 in
theorem gX4_does_X3_readOrder : GoodIn wsX4_does (wsV RX4 224 RX3 yX3_readOrder wsX3_readOrder) := goodIn_app (goodIn_of _ (by decide +kernel)) ggX4_does_X3_readOrder
set_option maxRecDepth 20000 in
theorem ggX4_does_X4_obeyOrder : GoodIn wsX4_does wsX4_obeyOrder := goodIn_r _ [77, 1, 78, 2, 79, 80, 81, 82, 10, 83, 28, 38, 84, 85, 86, 40, 87, 88, 89, 90, 91, 61, 92, 93, 94, 56, 95, 96, 97, 98, 99, 100, 101, 102, 63, 103, 104, 105, 106, 107, 108, 109, 110, 71, 111, 112, 113, 114, 64, 115, 116, 117, 118, 119, 120, 121, 122, 123, 124, 125, 126, 127, 128, 129, 130, 131, 132, 133, 134, 135, 136, 137, 138, 139, 140, 141, 142, 143, 144, 145, 146, 147, 148, 149, 65, 70, 150, 151, 152, 153, 154, 155, 156, 157, 158, 159, 160, 161, 162, 163, 164, 165, 166, 167, 168, 169, 170, 171, 172, 173, 174, 175, 176, 177, 178, 179, 180, 181, 182, 183, 184, 185, 186, 187, 188, 55, 57, 189, 190, 191, 192, 193, 194, 195, 196, 197, 198, 199, 200, 201, 202, 203, 204, 205, 206, 207, 208, 209, 210, 211, 212, 213, 214, 215, 216, 217, 218, 219, 220, 226, 227, 228, 229, 230, 231, 232, 221, 222, 223, 224, 225, 236, 237, 238, 239, 240, 241, 242, 243] (by decide +kernel) (by decide +kernel)
set_option maxRecDepth 20000 in
theorem gX4_does_X4_obeyOrder : GoodIn wsX4_does (wsV RX4 227 RX4 yX4_obeyOrder wsX4_obeyOrder) := goodIn_app (goodIn_of _ (by decide +kernel)) ggX4_does_X4_obeyOrder
theorem dX4_does_0 : decode cX4_does 0 = .ok (.aload_n 0, 1) := by decide +kernel
theorem dX4_does_1 : decode cX4_does 1 = .ok (.getfield 33, 3) := by decide +kernel
theorem dX4_does_4 : decode cX4_does 4 = .ok (.aload_n 0, 1) := by decide +kernel
theorem dX4_does_5 : decode cX4_does 5 = .ok (.getfield 12, 3) := by decide +kernel
theorem dX4_does_8 : decode cX4_does 8 = .ok (.getfield 209, 3) := by decide +kernel
theorem dX4_does_11 : decode cX4_does 11 = .ok (.aload_n 0, 1) := by decide +kernel
theorem dX4_does_12 : decode cX4_does 12 = .ok (.getfield 12, 3) := by decide +kernel
theorem dX4_does_15 : decode cX4_does 15 = .ok (.getfield 212, 3) := by decide +kernel
theorem dX4_does_18 : decode cX4_does 18 = .ok (.invokevirtual 215, 3) := by decide +kernel
theorem dX4_does_21 : decode cX4_does 21 = .ok (.istore_n 1, 1) := by decide +kernel
theorem dX4_does_22 : decode cX4_does 22 = .ok (.iload_n 1, 1) := by decide +kernel
theorem dX4_does_23 : decode cX4_does 23 = .ok (.iconst (-1), 1) := by decide +kernel
theorem dX4_does_24 : decode cX4_does 24 = .ok (.if_icmp .eq 8, 3) := by decide +kernel
theorem dX4_does_27 : decode cX4_does 27 = .ok (.bipush (-10), 2) := by decide +kernel
theorem dX4_does_29 : decode cX4_does 29 = .ok (.iload_n 1, 1) := by decide +kernel
theorem dX4_does_30 : decode cX4_does 30 = .ok (.isub, 1) := by decide +kernel
theorem dX4_does_31 : decode cX4_does 31 = .ok (.ireturn, 1) := by decide +kernel
theorem dX4_does_32 : decode cX4_does 32 = .ok (.aload_n 0, 1) := by decide +kernel
theorem dX4_does_33 : decode cX4_does 33 = .ok (.getfield 19, 3) := by decide +kernel
theorem dX4_does_36 : decode cX4_does 36 = .ok (.aload_n 0, 1) := by decide +kernel
theorem dX4_does_37 : decode cX4_does 37 = .ok (.getfield 12, 3) := by decide +kernel
theorem dX4_does_40 : decode cX4_does 40 = .ok (.invokevirtual 45, 3) := by decide +kernel
theorem dX4_does_43 : decode cX4_does 43 = .ok (.aload_n 0, 1) := by decide +kernel
theorem dX4_does_44 : decode cX4_does 44 = .ok (.getfield 33, 3) := by decide +kernel
theorem dX4_does_47 : decode cX4_does 47 = .ok (.getfield 218, 3) := by decide +kernel
theorem dX4_does_50 : decode cX4_does 50 = .ok (.istore_n 2, 1) := by decide +kernel
theorem dX4_does_51 : decode cX4_does 51 = .ok (.aload_n 0, 1) := by decide +kernel
theorem dX4_does_52 : decode cX4_does 52 = .ok (.getfield 33, 3) := by decide +kernel
theorem dX4_does_55 : decode cX4_does 55 = .ok (.invokevirtual 221, 3) := by decide +kernel
theorem dX4_does_58 : decode cX4_does 58 = .ok (.iconst 0, 1) := by decide +kernel
theorem dX4_does_59 : decode cX4_does 59 = .ok (.istore_n 3, 1) := by decide +kernel
theorem dX4_does_60 : decode cX4_does 60 = .ok (.iload_n 3, 1) := by decide +kernel
theorem dX4_does_61 : decode cX4_does 61 = .ok (.iload_n 2, 1) := by decide +kernel
theorem dX4_does_62 : decode cX4_does 62 = .ok (.if_icmp .ge 37, 3) := by decide +kernel
theorem dX4_does_65 : decode cX4_does 65 = .ok (.aload_n 0, 1) := by decide +kernel
theorem dX4_does_66 : decode cX4_does 66 = .ok (.getfield 33, 3) := by decide +kernel
theorem dX4_does_69 : decode cX4_does 69 = .ok (.aload_n 0, 1) := by decide +kernel
theorem dX4_does_70 : decode cX4_does 70 = .ok (.getfield 12, 3) := by decide +kernel
theorem dX4_does_73 : decode cX4_does 73 = .ok (.getfield 209, 3) := by decide +kernel
theorem dX4_does_76 : decode cX4_does 76 = .ok (.aload_n 0, 1) := by decide +kernel
theorem dX4_does_77 : decode cX4_does 77 = .ok (.getfield 12, 3) := by decide +kernel
theorem dX4_does_80 : decode cX4_does 80 = .ok (.getfield 212, 3) := by decide +kernel
theorem dX4_does_83 : decode cX4_does 83 = .ok (.invokevirtual 224, 3) := by decide +kernel
theorem dX4_does_86 : decode cX4_does 86 = .ok (.ifCond .eq 7, 3) := by decide +kernel
theorem dX4_does_89 : decode cX4_does 89 = .ok (.aload_n 0, 1) := by decide +kernel
theorem dX4_does_90 : decode cX4_does 90 = .ok (.invokevirtual 227, 3) := by decide +kernel
theorem dX4_does_93 : decode cX4_does 93 = .ok (.iinc 3 1, 3) := by decide +kernel
theorem dX4_does_96 : decode cX4_does 96 = .ok (.goto (-36), 3) := by decide +kernel
theorem dX4_does_99 : decode cX4_does 99 = .ok (.iload_n 2, 1) := by decide +kernel
theorem dX4_does_100 : decode cX4_does 100 = .ok (.ireturn, 1) := by decide +kernel
set_option maxRecDepth 20000 in
theorem ggX4_back_X0_giveBack : GoodIn wsX4_back wsX0_giveBack := goodIn_r _ [9, 10, 11, 12, 13, 14, 15, 16, 17, 18, 19, 20, 21, 22, 23, 24, 25, 26, 34, 35, 36, 37, 38, 39, 40, 41] (by decide +kernel) (by decide +kernel)
set_option maxRecDepth 20000 in
theorem gX4_back_X0_giveBack : GoodIn wsX4_back (wsV RX4 233 RX0 yX0_giveBack wsX0_giveBack) := goodIn_app (goodIn_of _ (by decide +kernel)) ggX4_back_X0_giveBack
theorem dX4_back_0 : decode cX4_back 0 = .ok (.aload_n 0, 1) := by decide +kernel
theorem dX4_back_1 : decode cX4_back 1 = .ok (.getfield 19, 3) := by decide +kernel
theorem dX4_back_4 : decode cX4_back 4 = .ok (.getfield 230, 3) := by decide +kernel
theorem dX4_back_7 : decode cX4_back 7 = .ok (.ifCond .ne 16, 3) := by decide +kernel
theorem dX4_back_10 : decode cX4_back 10 = .ok (.aload_n 0, 1) := by decide +kernel
theorem dX4_back_11 : decode cX4_back 11 = .ok (.dup, 1) := by decide +kernel
theorem dX4_back_12 : decode cX4_back 12 = .ok (.getfield 155, 3) := by decide +kernel
theorem dX4_back_15 : decode cX4_back 15 = .ok (.iconst 1, 1) := by decide +kernel
theorem dX4_back_16 : decode cX4_back 16 = .ok (.iadd, 1) := by decide +kernel
theorem dX4_back_17 : decode cX4_back 17 = .ok (.putfield 155, 3) := by decide +kernel
theorem dX4_back_20 : decode cX4_back 20 = .ok (.bipush (-3), 2) := by decide +kernel
theorem dX4_back_22 : decode cX4_back 22 = .ok (.ireturn, 1) := by decide +kernel
theorem dX4_back_23 : decode cX4_back 23 = .ok (.aload_n 0, 1) := by decide +kernel
theorem dX4_back_24 : decode cX4_back 24 = .ok (.getfield 19, 3) := by decide +kernel
theorem dX4_back_27 : decode cX4_back 27 = .ok (.aload_n 0, 1) := by decide +kernel
theorem dX4_back_28 : decode cX4_back 28 = .ok (.getfield 12, 3) := by decide +kernel
theorem dX4_back_31 : decode cX4_back 31 = .ok (.invokevirtual 233, 3) := by decide +kernel
theorem dX4_back_34 : decode cX4_back 34 = .ok (.aload_n 0, 1) := by decide +kernel
theorem dX4_back_35 : decode cX4_back 35 = .ok (.getfield 19, 3) := by decide +kernel
theorem dX4_back_38 : decode cX4_back 38 = .ok (.getfield 230, 3) := by decide +kernel
theorem dX4_back_41 : decode cX4_back 41 = .ok (.ireturn, 1) := by decide +kernel
set_option maxRecDepth 20000 in
theorem ggX4_told_X4_isWithin : GoodIn wsX4_told wsX4_isWithin := goodIn_r _ [15] (by decide +kernel) (by decide +kernel)
set_option maxRecDepth 20000 in
theorem gX4_told_X4_isWithin : GoodIn wsX4_told (va_wsS RX4 37 yX4_isWithin wsX4_isWithin) := goodIn_app (goodIn_of _ (by decide +kernel)) ggX4_told_X4_isWithin
set_option maxRecDepth 20000 in
theorem ggX4_told_X4_refuseBad : GoodIn wsX4_told wsX4_refuseBad := goodIn_r _ [19, 1, 20, 21, 22, 23, 24, 25, 26] (by decide +kernel) (by decide +kernel)
set_option maxRecDepth 20000 in
theorem gX4_told_X4_refuseBad : GoodIn wsX4_told (wsV RX4 41 RX4 yX4_refuseBad wsX4_refuseBad) := goodIn_app (goodIn_of _ (by decide +kernel)) ggX4_told_X4_refuseBad
theorem dX4_told_0 : decode cX4_told 0 = .ok (.iload_n 1, 1) := by decide +kernel
theorem dX4_told_1 : decode cX4_told 1 = .ok (.iconst 0, 1) := by decide +kernel
theorem dX4_told_2 : decode cX4_told 2 = .ok (.bipush 12, 2) := by decide +kernel
theorem dX4_told_4 : decode cX4_told 4 = .ok (.invokestatic 37, 3) := by decide +kernel
theorem dX4_told_7 : decode cX4_told 7 = .ok (.ifCond .ne 8, 3) := by decide +kernel
theorem dX4_told_10 : decode cX4_told 10 = .ok (.aload_n 0, 1) := by decide +kernel
theorem dX4_told_11 : decode cX4_told 11 = .ok (.invokevirtual 41, 3) := by decide +kernel
theorem dX4_told_14 : decode cX4_told 14 = .ok (.ireturn, 1) := by decide +kernel
theorem dX4_told_15 : decode cX4_told 15 = .ok (.iload_n 1, 1) := by decide +kernel
theorem dX4_told_16 : decode cX4_told 16 = .ok (.tableswitch 115 0 12 #[68, 73, 78, 83, 91, 115, 115, 115, 115, 115, 115, 99, 107], 68) := by decide +kernel
theorem dX4_told_84 : decode cX4_told 84 = .ok (.aload_n 0, 1) := by decide +kernel
theorem dX4_told_85 : decode cX4_told 85 = .ok (.getfield 236, 3) := by decide +kernel
theorem dX4_told_88 : decode cX4_told 88 = .ok (.ireturn, 1) := by decide +kernel
theorem dX4_told_89 : decode cX4_told 89 = .ok (.aload_n 0, 1) := by decide +kernel
theorem dX4_told_90 : decode cX4_told 90 = .ok (.getfield 155, 3) := by decide +kernel
theorem dX4_told_93 : decode cX4_told 93 = .ok (.ireturn, 1) := by decide +kernel
theorem dX4_told_94 : decode cX4_told 94 = .ok (.aload_n 0, 1) := by decide +kernel
theorem dX4_told_95 : decode cX4_told 95 = .ok (.getfield 203, 3) := by decide +kernel
theorem dX4_told_98 : decode cX4_told 98 = .ok (.ireturn, 1) := by decide +kernel
theorem dX4_told_99 : decode cX4_told 99 = .ok (.aload_n 0, 1) := by decide +kernel
theorem dX4_told_100 : decode cX4_told 100 = .ok (.getfield 12, 3) := by decide +kernel
theorem dX4_told_103 : decode cX4_told 103 = .ok (.getfield 209, 3) := by decide +kernel
theorem dX4_told_106 : decode cX4_told 106 = .ok (.ireturn, 1) := by decide +kernel
theorem dX4_told_107 : decode cX4_told 107 = .ok (.aload_n 0, 1) := by decide +kernel
theorem dX4_told_108 : decode cX4_told 108 = .ok (.getfield 12, 3) := by decide +kernel
theorem dX4_told_111 : decode cX4_told 111 = .ok (.getfield 212, 3) := by decide +kernel
theorem dX4_told_114 : decode cX4_told 114 = .ok (.ireturn, 1) := by decide +kernel
theorem dX4_told_115 : decode cX4_told 115 = .ok (.aload_n 0, 1) := by decide +kernel
theorem dX4_told_116 : decode cX4_told 116 = .ok (.getfield 33, 3) := by decide +kernel
theorem dX4_told_119 : decode cX4_told 119 = .ok (.getfield 206, 3) := by decide +kernel
theorem dX4_told_122 : decode cX4_told 122 = .ok (.ireturn, 1) := by decide +kernel
theorem dX4_told_123 : decode cX4_told 123 = .ok (.aload_n 0, 1) := by decide +kernel
theorem dX4_told_124 : decode cX4_told 124 = .ok (.getfield 19, 3) := by decide +kernel
theorem dX4_told_127 : decode cX4_told 127 = .ok (.getfield 230, 3) := by decide +kernel
theorem dX4_told_130 : decode cX4_told 130 = .ok (.ireturn, 1) := by decide +kernel
theorem dX4_told_131 : decode cX4_told 131 = .ok (.aload_n 0, 1) := by decide +kernel
theorem dX4_told_132 : decode cX4_told 132 = .ok (.getfield 12, 3) := by decide +kernel
theorem dX4_told_135 : decode cX4_told 135 = .ok (.getfield 95, 3) := by decide +kernel
theorem dX4_told_138 : decode cX4_told 138 = .ok (.iload_n 1, 1) := by decide +kernel
theorem dX4_told_139 : decode cX4_told 139 = .ok (.iconst 5, 1) := by decide +kernel
theorem dX4_told_140 : decode cX4_told 140 = .ok (.isub, 1) := by decide +kernel
theorem dX4_told_141 : decode cX4_told 141 = .ok (.iaload, 1) := by decide +kernel
theorem dX4_told_142 : decode cX4_told 142 = .ok (.ireturn, 1) := by decide +kernel
set_option maxRecDepth 20000 in
theorem ggX4_digest_X4_told : GoodIn wsX4_digest wsX4_told := goodIn_r _ [11, 12, 13, 14, 3, 15, 16, 17, 18, 19, 20, 21, 22, 23, 10, 24, 25, 26, 27, 28, 135, 136, 137, 138, 139, 140, 141, 142, 143, 144, 145, 146, 147, 148, 149, 150, 151, 152, 153, 154, 155, 156] (by decide +kernel) (by decide +kernel)
set_option maxRecDepth 20000 in
theorem gX4_digest_X4_told : GoodIn wsX4_digest (wsV RX4 243 RX4 yX4_told wsX4_told) := goodIn_app (goodIn_of _ (by decide +kernel)) ggX4_digest_X4_told
set_option maxRecDepth 20000 in
theorem ggX4_digest_X2_dots : GoodIn wsX4_digest wsX2_dots := goodIn_r _ [33, 34, 35, 142, 143, 144, 145, 146] (by decide +kernel) (by decide +kernel)
set_option maxRecDepth 20000 in
theorem gX4_digest_X2_dots : GoodIn wsX4_digest (wsV RX4 53 RX2 yX2_dots wsX2_dots) := goodIn_app (goodIn_of _ (by decide +kernel)) ggX4_digest_X2_dots
set_option maxRecDepth 20000 in
theorem ggX4_digest_X1_solve : GoodIn wsX4_digest wsX1_solve := goodIn_r _ [40, 41, 42, 43, 39, 44, 45, 46, 47, 48, 49, 50, 30, 31, 32, 33, 34, 35, 51, 52, 53, 54, 55, 56, 57, 58, 59, 60, 61, 62, 63, 64, 65, 66, 67, 68, 69, 70, 71, 72, 73, 74, 75, 76, 77, 78, 79, 80, 81, 82, 83, 84, 85, 86, 87, 88, 89, 90, 91, 92, 93, 94, 95, 96, 97, 98, 99, 100, 101, 102, 103, 104, 105, 106, 107, 108, 109, 110, 111, 112, 113, 114, 115, 116, 117, 118, 119, 120, 157, 158, 159, 160, 161, 162, 163, 164, 142, 143, 144, 145, 146] (by decide +kernel) (by decide +kernel)
set_option maxRecDepth 20000 in
theorem gX4_digest_X1_solve : GoodIn wsX4_digest (wsV RX4 111 RX1 yX1_solve wsX1_solve) := goodIn_app (goodIn_of _ (by decide +kernel)) ggX4_digest_X1_solve
set_option maxRecDepth 20000 in
theorem ggX4_digest_X1_leastSet : GoodIn wsX4_digest wsX1_leastSet := goodIn_r _ [124, 45, 59, 125, 126, 127, 39, 128, 105, 106, 46, 92, 129, 10, 130, 107, 108, 109, 110, 157, 158, 159, 160, 161, 162, 163, 164] (by decide +kernel) (by decide +kernel)
set_option maxRecDepth 20000 in
theorem gX4_digest_X1_leastSet : GoodIn wsX4_digest (wsV RX4 115 RX1 yX1_leastSet wsX1_leastSet) := goodIn_app (goodIn_of _ (by decide +kernel)) ggX4_digest_X1_leastSet
set_option maxRecDepth 20000 in
theorem ggX4_digest_X1_greatestSet : GoodIn wsX4_digest wsX1_greatestSet := goodIn_r _ [134, 45, 100, 101, 102, 103, 39, 104, 105, 61, 106, 46, 92, 107, 108, 109, 110, 93, 94, 95, 157, 158, 159, 160, 161, 162, 163, 164] (by decide +kernel) (by decide +kernel)
set_option maxRecDepth 20000 in
theorem gX4_digest_X1_greatestSet : GoodIn wsX4_digest (wsV RX4 119 RX1 yX1_greatestSet wsX1_greatestSet) := goodIn_app (goodIn_of _ (by decide +kernel)) ggX4_digest_X1_greatestSet
theorem dX4_digest_0 : decode cX4_digest 0 = .ok (.ldc2_w 239, 3) := by decide +kernel
theorem dX4_digest_3 : decode cX4_digest 3 = .ok (.lstore_n 1, 1) := by decide +kernel
theorem dX4_digest_4 : decode cX4_digest 4 = .ok (.iconst 0, 1) := by decide +kernel
theorem dX4_digest_5 : decode cX4_digest 5 = .ok (.istore_n 3, 1) := by decide +kernel
theorem dX4_digest_6 : decode cX4_digest 6 = .ok (.iload_n 3, 1) := by decide +kernel
theorem dX4_digest_7 : decode cX4_digest 7 = .ok (.bipush 13, 2) := by decide +kernel
theorem dX4_digest_9 : decode cX4_digest 9 = .ok (.if_icmp .ge 22, 3) := by decide +kernel
theorem dX4_digest_12 : decode cX4_digest 12 = .ok (.ldc2_w 241, 3) := by decide +kernel
theorem dX4_digest_15 : decode cX4_digest 15 = .ok (.lload_n 1, 1) := by decide +kernel
theorem dX4_digest_16 : decode cX4_digest 16 = .ok (.lmul, 1) := by decide +kernel
theorem dX4_digest_17 : decode cX4_digest 17 = .ok (.aload_n 0, 1) := by decide +kernel
theorem dX4_digest_18 : decode cX4_digest 18 = .ok (.iload_n 3, 1) := by decide +kernel
theorem dX4_digest_19 : decode cX4_digest 19 = .ok (.invokevirtual 243, 3) := by decide +kernel
theorem dX4_digest_22 : decode cX4_digest 22 = .ok (.i2l, 1) := by decide +kernel
theorem dX4_digest_23 : decode cX4_digest 23 = .ok (.ladd, 1) := by decide +kernel
theorem dX4_digest_24 : decode cX4_digest 24 = .ok (.lstore_n 1, 1) := by decide +kernel
theorem dX4_digest_25 : decode cX4_digest 25 = .ok (.iinc 3 1, 3) := by decide +kernel
theorem dX4_digest_28 : decode cX4_digest 28 = .ok (.goto (-22), 3) := by decide +kernel
theorem dX4_digest_31 : decode cX4_digest 31 = .ok (.iconst 0, 1) := by decide +kernel
theorem dX4_digest_32 : decode cX4_digest 32 = .ok (.istore_n 3, 1) := by decide +kernel
theorem dX4_digest_33 : decode cX4_digest 33 = .ok (.iload_n 3, 1) := by decide +kernel
theorem dX4_digest_34 : decode cX4_digest 34 = .ok (.aload_n 0, 1) := by decide +kernel
theorem dX4_digest_35 : decode cX4_digest 35 = .ok (.getfield 12, 3) := by decide +kernel
theorem dX4_digest_38 : decode cX4_digest 38 = .ok (.invokevirtual 53, 3) := by decide +kernel
theorem dX4_digest_41 : decode cX4_digest 41 = .ok (.if_icmp .ge 43, 3) := by decide +kernel
theorem dX4_digest_44 : decode cX4_digest 44 = .ok (.ldc2_w 241, 3) := by decide +kernel
theorem dX4_digest_47 : decode cX4_digest 47 = .ok (.lload_n 1, 1) := by decide +kernel
theorem dX4_digest_48 : decode cX4_digest 48 = .ok (.lmul, 1) := by decide +kernel
theorem dX4_digest_49 : decode cX4_digest 49 = .ok (.aload_n 0, 1) := by decide +kernel
theorem dX4_digest_50 : decode cX4_digest 50 = .ok (.getfield 12, 3) := by decide +kernel
theorem dX4_digest_53 : decode cX4_digest 53 = .ok (.getfield 64, 3) := by decide +kernel
theorem dX4_digest_56 : decode cX4_digest 56 = .ok (.iload_n 3, 1) := by decide +kernel
theorem dX4_digest_57 : decode cX4_digest 57 = .ok (.iaload, 1) := by decide +kernel
theorem dX4_digest_58 : decode cX4_digest 58 = .ok (.i2l, 1) := by decide +kernel
theorem dX4_digest_59 : decode cX4_digest 59 = .ok (.ladd, 1) := by decide +kernel
theorem dX4_digest_60 : decode cX4_digest 60 = .ok (.lstore_n 1, 1) := by decide +kernel
theorem dX4_digest_61 : decode cX4_digest 61 = .ok (.ldc2_w 241, 3) := by decide +kernel
theorem dX4_digest_64 : decode cX4_digest 64 = .ok (.lload_n 1, 1) := by decide +kernel
theorem dX4_digest_65 : decode cX4_digest 65 = .ok (.lmul, 1) := by decide +kernel
theorem dX4_digest_66 : decode cX4_digest 66 = .ok (.aload_n 0, 1) := by decide +kernel
theorem dX4_digest_67 : decode cX4_digest 67 = .ok (.getfield 12, 3) := by decide +kernel
theorem dX4_digest_70 : decode cX4_digest 70 = .ok (.getfield 81, 3) := by decide +kernel
theorem dX4_digest_73 : decode cX4_digest 73 = .ok (.iload_n 3, 1) := by decide +kernel
theorem dX4_digest_74 : decode cX4_digest 74 = .ok (.iaload, 1) := by decide +kernel
theorem dX4_digest_75 : decode cX4_digest 75 = .ok (.i2l, 1) := by decide +kernel
theorem dX4_digest_76 : decode cX4_digest 76 = .ok (.ladd, 1) := by decide +kernel
theorem dX4_digest_77 : decode cX4_digest 77 = .ok (.lstore_n 1, 1) := by decide +kernel
theorem dX4_digest_78 : decode cX4_digest 78 = .ok (.iinc 3 1, 3) := by decide +kernel
theorem dX4_digest_81 : decode cX4_digest 81 = .ok (.goto (-48), 3) := by decide +kernel
theorem dX4_digest_84 : decode cX4_digest 84 = .ok (.ldc2_w 241, 3) := by decide +kernel
theorem dX4_digest_87 : decode cX4_digest 87 = .ok (.lload_n 1, 1) := by decide +kernel
theorem dX4_digest_88 : decode cX4_digest 88 = .ok (.lmul, 1) := by decide +kernel
theorem dX4_digest_89 : decode cX4_digest 89 = .ok (.aload_n 0, 1) := by decide +kernel
theorem dX4_digest_90 : decode cX4_digest 90 = .ok (.getfield 26, 3) := by decide +kernel
theorem dX4_digest_93 : decode cX4_digest 93 = .ok (.aload_n 0, 1) := by decide +kernel
theorem dX4_digest_94 : decode cX4_digest 94 = .ok (.getfield 12, 3) := by decide +kernel
theorem dX4_digest_97 : decode cX4_digest 97 = .ok (.invokevirtual 111, 3) := by decide +kernel
theorem dX4_digest_100 : decode cX4_digest 100 = .ok (.i2l, 1) := by decide +kernel
theorem dX4_digest_101 : decode cX4_digest 101 = .ok (.ladd, 1) := by decide +kernel
theorem dX4_digest_102 : decode cX4_digest 102 = .ok (.lstore_n 1, 1) := by decide +kernel
theorem dX4_digest_103 : decode cX4_digest 103 = .ok (.ldc2_w 241, 3) := by decide +kernel
theorem dX4_digest_106 : decode cX4_digest 106 = .ok (.lload_n 1, 1) := by decide +kernel
theorem dX4_digest_107 : decode cX4_digest 107 = .ok (.lmul, 1) := by decide +kernel
theorem dX4_digest_108 : decode cX4_digest 108 = .ok (.aload_n 0, 1) := by decide +kernel
theorem dX4_digest_109 : decode cX4_digest 109 = .ok (.getfield 26, 3) := by decide +kernel
theorem dX4_digest_112 : decode cX4_digest 112 = .ok (.invokevirtual 115, 3) := by decide +kernel
theorem dX4_digest_115 : decode cX4_digest 115 = .ok (.ladd, 1) := by decide +kernel
theorem dX4_digest_116 : decode cX4_digest 116 = .ok (.lstore_n 1, 1) := by decide +kernel
theorem dX4_digest_117 : decode cX4_digest 117 = .ok (.ldc2_w 241, 3) := by decide +kernel
theorem dX4_digest_120 : decode cX4_digest 120 = .ok (.lload_n 1, 1) := by decide +kernel
theorem dX4_digest_121 : decode cX4_digest 121 = .ok (.lmul, 1) := by decide +kernel
theorem dX4_digest_122 : decode cX4_digest 122 = .ok (.aload_n 0, 1) := by decide +kernel
theorem dX4_digest_123 : decode cX4_digest 123 = .ok (.getfield 26, 3) := by decide +kernel
theorem dX4_digest_126 : decode cX4_digest 126 = .ok (.invokevirtual 119, 3) := by decide +kernel
theorem dX4_digest_129 : decode cX4_digest 129 = .ok (.ladd, 1) := by decide +kernel
theorem dX4_digest_130 : decode cX4_digest 130 = .ok (.lreturn, 1) := by decide +kernel
theorem dX4_refuseBad_0 : decode cX4_refuseBad 0 = .ok (.aload_n 0, 1) := by decide +kernel
theorem dX4_refuseBad_1 : decode cX4_refuseBad 1 = .ok (.dup, 1) := by decide +kernel
theorem dX4_refuseBad_2 : decode cX4_refuseBad 2 = .ok (.getfield 236, 3) := by decide +kernel
theorem dX4_refuseBad_5 : decode cX4_refuseBad 5 = .ok (.iconst 1, 1) := by decide +kernel
theorem dX4_refuseBad_6 : decode cX4_refuseBad 6 = .ok (.iadd, 1) := by decide +kernel
theorem dX4_refuseBad_7 : decode cX4_refuseBad 7 = .ok (.putfield 236, 3) := by decide +kernel
theorem dX4_refuseBad_10 : decode cX4_refuseBad 10 = .ok (.bipush (-2), 2) := by decide +kernel
theorem dX4_refuseBad_12 : decode cX4_refuseBad 12 = .ok (.ireturn, 1) := by decide +kernel
set_option maxRecDepth 20000 in
theorem ggX4_isLinkPlace_X2_hasDot : GoodIn wsX4_isLinkPlace wsX2_hasDot := goodIn_r _ [6, 7, 8, 20, 21, 22, 23, 24] (by decide +kernel) (by decide +kernel)
set_option maxRecDepth 20000 in
theorem gX4_isLinkPlace_X2_hasDot : GoodIn wsX4_isLinkPlace (wsV RX4 56 RX2 yX2_hasDot wsX2_hasDot) := goodIn_app (goodIn_of _ (by decide +kernel)) ggX4_isLinkPlace_X2_hasDot
set_option maxRecDepth 20000 in
theorem ggX4_isLinkPlace_X4_isWithin : GoodIn wsX4_isLinkPlace wsX4_isWithin := goodIn_r _ [12] (by decide +kernel) (by decide +kernel)
set_option maxRecDepth 20000 in
theorem gX4_isLinkPlace_X4_isWithin : GoodIn wsX4_isLinkPlace (va_wsS RX4 37 yX4_isWithin wsX4_isWithin) := goodIn_app (goodIn_of _ (by decide +kernel)) ggX4_isLinkPlace_X4_isWithin
theorem dX4_isLinkPlace_0 : decode cX4_isLinkPlace 0 = .ok (.aload_n 0, 1) := by decide +kernel
theorem dX4_isLinkPlace_1 : decode cX4_isLinkPlace 1 = .ok (.getfield 12, 3) := by decide +kernel
theorem dX4_isLinkPlace_4 : decode cX4_isLinkPlace 4 = .ok (.iload_n 1, 1) := by decide +kernel
theorem dX4_isLinkPlace_5 : decode cX4_isLinkPlace 5 = .ok (.iload_n 2, 1) := by decide +kernel
theorem dX4_isLinkPlace_6 : decode cX4_isLinkPlace 6 = .ok (.invokevirtual 56, 3) := by decide +kernel
theorem dX4_isLinkPlace_9 : decode cX4_isLinkPlace 9 = .ok (.ifCond .eq 16, 3) := by decide +kernel
theorem dX4_isLinkPlace_12 : decode cX4_isLinkPlace 12 = .ok (.iload_n 3, 1) := by decide +kernel
theorem dX4_isLinkPlace_13 : decode cX4_isLinkPlace 13 = .ok (.iconst 0, 1) := by decide +kernel
theorem dX4_isLinkPlace_14 : decode cX4_isLinkPlace 14 = .ok (.iconst 3, 1) := by decide +kernel
theorem dX4_isLinkPlace_15 : decode cX4_isLinkPlace 15 = .ok (.invokestatic 37, 3) := by decide +kernel
theorem dX4_isLinkPlace_18 : decode cX4_isLinkPlace 18 = .ok (.ifCond .eq 7, 3) := by decide +kernel
theorem dX4_isLinkPlace_21 : decode cX4_isLinkPlace 21 = .ok (.iconst 1, 1) := by decide +kernel
theorem dX4_isLinkPlace_22 : decode cX4_isLinkPlace 22 = .ok (.goto 4, 3) := by decide +kernel
theorem dX4_isLinkPlace_25 : decode cX4_isLinkPlace 25 = .ok (.iconst 0, 1) := by decide +kernel
theorem dX4_isLinkPlace_26 : decode cX4_isLinkPlace 26 = .ok (.ireturn, 1) := by decide +kernel
set_option maxRecDepth 20000 in
theorem ggX4_learnRounds_X1_solve : GoodIn wsX4_learnRounds wsX1_solve := goodIn_r _ [7, 8, 9, 10, 6, 11, 12, 13, 14, 15, 16, 17, 18, 19, 20, 21, 22, 23, 24, 25, 26, 27, 28, 29, 30, 31, 32, 33, 34, 35, 36, 37, 38, 39, 40, 41, 42, 43, 44, 45, 46, 47, 48, 49, 50, 51, 52, 53, 54, 55, 56, 57, 58, 59, 60, 61, 62, 63, 64, 65, 66, 67, 68, 69, 70, 71, 72, 73, 74, 75, 76, 77, 78, 79, 80, 81, 82, 83, 84, 85, 86, 87, 88, 89, 90, 91, 92, 93, 126, 127, 128, 129, 130, 131, 132, 133, 134, 135, 136, 137, 138] (by decide +kernel) (by decide +kernel)
set_option maxRecDepth 20000 in
theorem gX4_learnRounds_X1_solve : GoodIn wsX4_learnRounds (wsV RX4 111 RX1 yX1_solve wsX1_solve) := goodIn_app (goodIn_of _ (by decide +kernel)) ggX4_learnRounds_X1_solve
set_option maxRecDepth 20000 in
theorem ggX4_learnRounds_X1_leastSet : GoodIn wsX4_learnRounds wsX1_leastSet := goodIn_r _ [97, 12, 32, 98, 99, 100, 6, 101, 78, 79, 13, 65, 102, 103, 104, 80, 81, 82, 83, 126, 127, 128, 129, 130, 131, 132, 133] (by decide +kernel) (by decide +kernel)
set_option maxRecDepth 20000 in
theorem gX4_learnRounds_X1_leastSet : GoodIn wsX4_learnRounds (wsV RX4 115 RX1 yX1_leastSet wsX1_leastSet) := goodIn_app (goodIn_of _ (by decide +kernel)) ggX4_learnRounds_X1_leastSet
set_option maxRecDepth 20000 in
theorem ggX4_learnRounds_X2_learnTones : GoodIn wsX4_learnRounds wsX2_learnTones := goodIn_r _ [108, 109, 110, 111, 112, 20, 113, 40, 39, 114, 18, 19, 21, 22, 23, 102, 103, 104, 115, 116, 117, 118, 134, 135, 136, 137, 138] (by decide +kernel) (by decide +kernel)
set_option maxRecDepth 20000 in
theorem gX4_learnRounds_X2_learnTones : GoodIn wsX4_learnRounds (wsV RX4 246 RX2 yX2_learnTones wsX2_learnTones) := goodIn_app (goodIn_of _ (by decide +kernel)) ggX4_learnRounds_X2_learnTones
theorem dX4_learnRounds_0 : decode cX4_learnRounds 0 = .ok (.iconst 0, 1) := by decide +kernel
theorem dX4_learnRounds_1 : decode cX4_learnRounds 1 = .ok (.istore_n 2, 1) := by decide +kernel
theorem dX4_learnRounds_2 : decode cX4_learnRounds 2 = .ok (.iconst 0, 1) := by decide +kernel
theorem dX4_learnRounds_3 : decode cX4_learnRounds 3 = .ok (.istore_n 3, 1) := by decide +kernel
theorem dX4_learnRounds_4 : decode cX4_learnRounds 4 = .ok (.iload_n 3, 1) := by decide +kernel
theorem dX4_learnRounds_5 : decode cX4_learnRounds 5 = .ok (.iload_n 1, 1) := by decide +kernel
theorem dX4_learnRounds_6 : decode cX4_learnRounds 6 = .ok (.if_icmp .ge 44, 3) := by decide +kernel
theorem dX4_learnRounds_9 : decode cX4_learnRounds 9 = .ok (.aload_n 0, 1) := by decide +kernel
theorem dX4_learnRounds_10 : decode cX4_learnRounds 10 = .ok (.getfield 26, 3) := by decide +kernel
theorem dX4_learnRounds_13 : decode cX4_learnRounds 13 = .ok (.aload_n 0, 1) := by decide +kernel
theorem dX4_learnRounds_14 : decode cX4_learnRounds 14 = .ok (.getfield 12, 3) := by decide +kernel
theorem dX4_learnRounds_17 : decode cX4_learnRounds 17 = .ok (.invokevirtual 111, 3) := by decide +kernel
theorem dX4_learnRounds_20 : decode cX4_learnRounds 20 = .ok (.pop, 1) := by decide +kernel
theorem dX4_learnRounds_21 : decode cX4_learnRounds 21 = .ok (.aload_n 0, 1) := by decide +kernel
theorem dX4_learnRounds_22 : decode cX4_learnRounds 22 = .ok (.getfield 12, 3) := by decide +kernel
theorem dX4_learnRounds_25 : decode cX4_learnRounds 25 = .ok (.aload_n 0, 1) := by decide +kernel
theorem dX4_learnRounds_26 : decode cX4_learnRounds 26 = .ok (.getfield 26, 3) := by decide +kernel
theorem dX4_learnRounds_29 : decode cX4_learnRounds 29 = .ok (.invokevirtual 115, 3) := by decide +kernel
theorem dX4_learnRounds_32 : decode cX4_learnRounds 32 = .ok (.invokevirtual 246, 3) := by decide +kernel
theorem dX4_learnRounds_35 : decode cX4_learnRounds 35 = .ok (.ifCond .ne 6, 3) := by decide +kernel
theorem dX4_learnRounds_38 : decode cX4_learnRounds 38 = .ok (.goto 12, 3) := by decide +kernel
theorem dX4_learnRounds_41 : decode cX4_learnRounds 41 = .ok (.iinc 2 1, 3) := by decide +kernel
theorem dX4_learnRounds_44 : decode cX4_learnRounds 44 = .ok (.iinc 3 1, 3) := by decide +kernel
theorem dX4_learnRounds_47 : decode cX4_learnRounds 47 = .ok (.goto (-43), 3) := by decide +kernel
theorem dX4_learnRounds_50 : decode cX4_learnRounds 50 = .ok (.iload_n 2, 1) := by decide +kernel
theorem dX4_learnRounds_51 : decode cX4_learnRounds 51 = .ok (.ireturn, 1) := by decide +kernel
set_option maxRecDepth 20000 in
theorem ggX4_obeyOrder_X3_number : GoodIn wsX4_obeyOrder wsX3_number := goodIn_r _ [9, 10, 11, 159, 160, 161, 162, 163, 164, 165] (by decide +kernel) (by decide +kernel)
set_option maxRecDepth 20000 in
theorem gX4_obeyOrder_X3_number : GoodIn wsX4_obeyOrder (wsV RX4 249 RX3 yX3_number wsX3_number) := goodIn_app (goodIn_of _ (by decide +kernel)) ggX4_obeyOrder_X3_number
set_option maxRecDepth 20000 in
theorem ggX4_obeyOrder_X4_markLine : GoodIn wsX4_obeyOrder wsX4_markLine := goodIn_r _ [16, 1, 17, 3, 5, 6, 7, 8, 9, 10, 11, 18, 19, 20, 21, 22, 23, 24, 25, 26, 27, 28, 29, 30, 31, 32, 33, 34, 35, 36, 37, 38, 39, 40, 41, 42, 43, 44, 45, 46, 47, 48, 49, 15, 50, 152, 153, 154, 155, 156, 157, 158, 159, 160, 161, 162, 163, 164, 165, 166, 167, 168, 169, 170] (by decide +kernel) (by decide +kernel)
set_option maxRecDepth 20000 in
theorem gX4_obeyOrder_X4_markLine : GoodIn wsX4_obeyOrder (wsV RX4 255 RX4 yX4_markLine wsX4_markLine) := goodIn_app (goodIn_of _ (by decide +kernel)) ggX4_obeyOrder_X4_markLine
set_option maxRecDepth 20000 in
theorem ggX4_obeyOrder_X2_numberOf : GoodIn wsX4_obeyOrder wsX2_numberOf := goodIn_r _ [33, 34, 166, 167, 168, 169, 170] (by decide +kernel) (by decide +kernel)
set_option maxRecDepth 20000 in
theorem gX4_obeyOrder_X2_numberOf : GoodIn wsX4_obeyOrder (wsV RX4 60 RX2 yX2_numberOf wsX2_numberOf) := goodIn_app (goodIn_of _ (by decide +kernel)) ggX4_obeyOrder_X2_numberOf
set_option maxRecDepth 20000 in
theorem ggX4_obeyOrder_X4_learnRounds : GoodIn wsX4_obeyOrder wsX4_learnRounds := goodIn_r _ [55, 56, 3, 57, 58, 59, 60, 61, 62, 63, 64, 65, 66, 67, 68, 69, 70, 71, 45, 46, 21, 47, 34, 48, 72, 31, 32, 33, 73, 74, 75, 76, 77, 78, 79, 80, 81, 82, 83, 84, 85, 23, 24, 25, 26, 86, 87, 88, 89, 90, 91, 92, 93, 30, 94, 95, 96, 97, 27, 28, 29, 98, 99, 100, 101, 102, 103, 104, 105, 106, 107, 108, 109, 110, 111, 112, 113, 114, 115, 116, 117, 118, 119, 120, 121, 122, 123, 124, 125, 126, 127, 128, 129, 130, 131, 132, 133, 134, 135, 136, 137, 138, 49, 15, 50, 139, 140, 141, 142, 143, 144, 145, 146, 147, 44, 148, 149, 150, 151, 152, 153, 154, 155, 156, 157, 158, 171, 172, 173, 174, 175, 176, 177, 178, 166, 167, 168, 169, 170] (by decide +kernel) (by decide +kernel)
set_option maxRecDepth 20000 in
theorem gX4_obeyOrder_X4_learnRounds : GoodIn wsX4_obeyOrder (wsV RX4 189 RX4 yX4_learnRounds wsX4_learnRounds) := goodIn_app (goodIn_of _ (by decide +kernel)) ggX4_obeyOrder_X4_learnRounds
theorem dX4_obeyOrder_0 : decode cX4_obeyOrder 0 = .ok (.aload_n 0, 1) := by decide +kernel
theorem dX4_obeyOrder_1 : decode cX4_obeyOrder 1 = .ok (.getfield 33, 3) := by decide +kernel
theorem dX4_obeyOrder_4 : decode cX4_obeyOrder 4 = .ok (.iconst 0, 1) := by decide +kernel
theorem dX4_obeyOrder_5 : decode cX4_obeyOrder 5 = .ok (.invokevirtual 249, 3) := by decide +kernel
theorem dX4_obeyOrder_8 : decode cX4_obeyOrder 8 = .ok (.istore_n 1, 1) := by decide +kernel
theorem dX4_obeyOrder_9 : decode cX4_obeyOrder 9 = .ok (.aload_n 0, 1) := by decide +kernel
theorem dX4_obeyOrder_10 : decode cX4_obeyOrder 10 = .ok (.getfield 33, 3) := by decide +kernel
theorem dX4_obeyOrder_13 : decode cX4_obeyOrder 13 = .ok (.iconst 1, 1) := by decide +kernel
theorem dX4_obeyOrder_14 : decode cX4_obeyOrder 14 = .ok (.invokevirtual 249, 3) := by decide +kernel
theorem dX4_obeyOrder_17 : decode cX4_obeyOrder 17 = .ok (.istore_n 2, 1) := by decide +kernel
theorem dX4_obeyOrder_18 : decode cX4_obeyOrder 18 = .ok (.aload_n 0, 1) := by decide +kernel
theorem dX4_obeyOrder_19 : decode cX4_obeyOrder 19 = .ok (.getfield 33, 3) := by decide +kernel
theorem dX4_obeyOrder_22 : decode cX4_obeyOrder 22 = .ok (.getfield 252, 3) := by decide +kernel
theorem dX4_obeyOrder_25 : decode cX4_obeyOrder 25 = .ok (.lookupswitch 101 #[(102, 43), (103, 53), (110, 63), (115, 73)], 43) := by decide +kernel
theorem dX4_obeyOrder_68 : decode cX4_obeyOrder 68 = .ok (.aload_n 0, 1) := by decide +kernel
theorem dX4_obeyOrder_69 : decode cX4_obeyOrder 69 = .ok (.iload_n 1, 1) := by decide +kernel
theorem dX4_obeyOrder_70 : decode cX4_obeyOrder 70 = .ok (.iload_n 2, 1) := by decide +kernel
theorem dX4_obeyOrder_71 : decode cX4_obeyOrder 71 = .ok (.iconst 1, 1) := by decide +kernel
theorem dX4_obeyOrder_72 : decode cX4_obeyOrder 72 = .ok (.invokevirtual 255, 3) := by decide +kernel
theorem dX4_obeyOrder_75 : decode cX4_obeyOrder 75 = .ok (.goto 64, 3) := by decide +kernel
theorem dX4_obeyOrder_78 : decode cX4_obeyOrder 78 = .ok (.aload_n 0, 1) := by decide +kernel
theorem dX4_obeyOrder_79 : decode cX4_obeyOrder 79 = .ok (.iload_n 1, 1) := by decide +kernel
theorem dX4_obeyOrder_80 : decode cX4_obeyOrder 80 = .ok (.iload_n 2, 1) := by decide +kernel
theorem dX4_obeyOrder_81 : decode cX4_obeyOrder 81 = .ok (.iconst 2, 1) := by decide +kernel
theorem dX4_obeyOrder_82 : decode cX4_obeyOrder 82 = .ok (.invokevirtual 255, 3) := by decide +kernel
theorem dX4_obeyOrder_85 : decode cX4_obeyOrder 85 = .ok (.goto 54, 3) := by decide +kernel
theorem dX4_obeyOrder_88 : decode cX4_obeyOrder 88 = .ok (.aload_n 0, 1) := by decide +kernel
theorem dX4_obeyOrder_89 : decode cX4_obeyOrder 89 = .ok (.iload_n 1, 1) := by decide +kernel
theorem dX4_obeyOrder_90 : decode cX4_obeyOrder 90 = .ok (.iload_n 2, 1) := by decide +kernel
theorem dX4_obeyOrder_91 : decode cX4_obeyOrder 91 = .ok (.iconst 0, 1) := by decide +kernel
theorem dX4_obeyOrder_92 : decode cX4_obeyOrder 92 = .ok (.invokevirtual 255, 3) := by decide +kernel
theorem dX4_obeyOrder_95 : decode cX4_obeyOrder 95 = .ok (.goto 44, 3) := by decide +kernel
theorem dX4_obeyOrder_98 : decode cX4_obeyOrder 98 = .ok (.aload_n 0, 1) := by decide +kernel
theorem dX4_obeyOrder_99 : decode cX4_obeyOrder 99 = .ok (.getfield 12, 3) := by decide +kernel
theorem dX4_obeyOrder_102 : decode cX4_obeyOrder 102 = .ok (.getfield 64, 3) := by decide +kernel
theorem dX4_obeyOrder_105 : decode cX4_obeyOrder 105 = .ok (.aload_n 0, 1) := by decide +kernel
theorem dX4_obeyOrder_106 : decode cX4_obeyOrder 106 = .ok (.getfield 12, 3) := by decide +kernel
theorem dX4_obeyOrder_109 : decode cX4_obeyOrder 109 = .ok (.iload_n 1, 1) := by decide +kernel
theorem dX4_obeyOrder_110 : decode cX4_obeyOrder 110 = .ok (.iload_n 2, 1) := by decide +kernel
theorem dX4_obeyOrder_111 : decode cX4_obeyOrder 111 = .ok (.invokevirtual 60, 3) := by decide +kernel
theorem dX4_obeyOrder_114 : decode cX4_obeyOrder 114 = .ok (.aload_n 0, 1) := by decide +kernel
theorem dX4_obeyOrder_115 : decode cX4_obeyOrder 115 = .ok (.getfield 33, 3) := by decide +kernel
theorem dX4_obeyOrder_118 : decode cX4_obeyOrder 118 = .ok (.iconst 2, 1) := by decide +kernel
theorem dX4_obeyOrder_119 : decode cX4_obeyOrder 119 = .ok (.invokevirtual 249, 3) := by decide +kernel
theorem dX4_obeyOrder_122 : decode cX4_obeyOrder 122 = .ok (.iastore, 1) := by decide +kernel
theorem dX4_obeyOrder_123 : decode cX4_obeyOrder 123 = .ok (.goto 16, 3) := by decide +kernel
theorem dX4_obeyOrder_126 : decode cX4_obeyOrder 126 = .ok (.aload_n 0, 1) := by decide +kernel
theorem dX4_obeyOrder_127 : decode cX4_obeyOrder 127 = .ok (.aload_n 0, 1) := by decide +kernel
theorem dX4_obeyOrder_128 : decode cX4_obeyOrder 128 = .ok (.getfield 33, 3) := by decide +kernel
theorem dX4_obeyOrder_131 : decode cX4_obeyOrder 131 = .ok (.iconst 0, 1) := by decide +kernel
theorem dX4_obeyOrder_132 : decode cX4_obeyOrder 132 = .ok (.invokevirtual 249, 3) := by decide +kernel
theorem dX4_obeyOrder_135 : decode cX4_obeyOrder 135 = .ok (.invokevirtual 189, 3) := by decide +kernel
theorem dX4_obeyOrder_138 : decode cX4_obeyOrder 138 = .ok (.pop, 1) := by decide +kernel
theorem dX4_obeyOrder_139 : decode cX4_obeyOrder 139 = .ok (.return_, 1) := by decide +kernel
set_option maxRecDepth 20000 in
theorem ggX4_markLine_X3_number : GoodIn wsX4_markLine wsX3_number := goodIn_r _ [8, 9, 10, 52, 53, 54, 55, 56, 57, 58] (by decide +kernel) (by decide +kernel)
set_option maxRecDepth 20000 in
theorem gX4_markLine_X3_number : GoodIn wsX4_markLine (wsV RX4 249 RX3 yX3_number wsX3_number) := goodIn_app (goodIn_of _ (by decide +kernel)) ggX4_markLine_X3_number
set_option maxRecDepth 20000 in
theorem ggX4_markLine_X2_lineOf : GoodIn wsX4_markLine wsX2_lineOf := goodIn_r _ [15, 16, 17, 18, 19, 20, 21, 22, 23, 24, 25, 14, 26, 27, 28, 29, 30, 31, 59, 60, 61, 62, 63] (by decide +kernel) (by decide +kernel)
set_option maxRecDepth 20000 in
theorem gX4_markLine_X2_lineOf : GoodIn wsX4_markLine (wsV RX4 84 RX2 yX2_lineOf wsX2_lineOf) := goodIn_app (goodIn_of _ (by decide +kernel)) ggX4_markLine_X2_lineOf
set_option maxRecDepth 20000 in
theorem ggX4_markLine_X2_markAll : GoodIn wsX4_markLine wsX2_markAll := goodIn_r _ [35, 36, 37, 38, 39, 14, 40, 27, 41, 42, 43, 44, 59, 60, 61, 62, 63] (by decide +kernel) (by decide +kernel)
set_option maxRecDepth 20000 in
theorem gX4_markLine_X2_markAll : GoodIn wsX4_markLine (wsV RX4 88 RX2 yX2_markAll wsX2_markAll) := goodIn_app (goodIn_of _ (by decide +kernel)) ggX4_markLine_X2_markAll
theorem dX4_markLine_0 : decode cX4_markLine 0 = .ok (.aload_n 0, 1) := by decide +kernel
theorem dX4_markLine_1 : decode cX4_markLine 1 = .ok (.getfield 33, 3) := by decide +kernel
theorem dX4_markLine_4 : decode cX4_markLine 4 = .ok (.getfield 259, 3) := by decide +kernel
theorem dX4_markLine_7 : decode cX4_markLine 7 = .ok (.iconst 4, 1) := by decide +kernel
theorem dX4_markLine_8 : decode cX4_markLine 8 = .ok (.if_icmp .ne 7, 3) := by decide +kernel
theorem dX4_markLine_11 : decode cX4_markLine 11 = .ok (.iconst 1, 1) := by decide +kernel
theorem dX4_markLine_12 : decode cX4_markLine 12 = .ok (.goto 4, 3) := by decide +kernel
theorem dX4_markLine_15 : decode cX4_markLine 15 = .ok (.iconst 0, 1) := by decide +kernel
theorem dX4_markLine_16 : decode cX4_markLine 16 = .ok (.istore 4, 2) := by decide +kernel
theorem dX4_markLine_18 : decode cX4_markLine 18 = .ok (.iload 4, 2) := by decide +kernel
theorem dX4_markLine_20 : decode cX4_markLine 20 = .ok (.ifCond .eq 14, 3) := by decide +kernel
theorem dX4_markLine_23 : decode cX4_markLine 23 = .ok (.aload_n 0, 1) := by decide +kernel
theorem dX4_markLine_24 : decode cX4_markLine 24 = .ok (.getfield 33, 3) := by decide +kernel
theorem dX4_markLine_27 : decode cX4_markLine 27 = .ok (.iconst 2, 1) := by decide +kernel
theorem dX4_markLine_28 : decode cX4_markLine 28 = .ok (.invokevirtual 249, 3) := by decide +kernel
theorem dX4_markLine_31 : decode cX4_markLine 31 = .ok (.goto 4, 3) := by decide +kernel
theorem dX4_markLine_34 : decode cX4_markLine 34 = .ok (.iload_n 1, 1) := by decide +kernel
theorem dX4_markLine_35 : decode cX4_markLine 35 = .ok (.istore 5, 2) := by decide +kernel
theorem dX4_markLine_37 : decode cX4_markLine 37 = .ok (.iload 4, 2) := by decide +kernel
theorem dX4_markLine_39 : decode cX4_markLine 39 = .ok (.ifCond .eq 14, 3) := by decide +kernel
theorem dX4_markLine_42 : decode cX4_markLine 42 = .ok (.aload_n 0, 1) := by decide +kernel
theorem dX4_markLine_43 : decode cX4_markLine 43 = .ok (.getfield 33, 3) := by decide +kernel
theorem dX4_markLine_46 : decode cX4_markLine 46 = .ok (.iconst 3, 1) := by decide +kernel
theorem dX4_markLine_47 : decode cX4_markLine 47 = .ok (.invokevirtual 249, 3) := by decide +kernel
theorem dX4_markLine_50 : decode cX4_markLine 50 = .ok (.goto 4, 3) := by decide +kernel
theorem dX4_markLine_53 : decode cX4_markLine 53 = .ok (.iload_n 2, 1) := by decide +kernel
theorem dX4_markLine_54 : decode cX4_markLine 54 = .ok (.istore 6, 2) := by decide +kernel
theorem dX4_markLine_56 : decode cX4_markLine 56 = .ok (.aload_n 0, 1) := by decide +kernel
theorem dX4_markLine_57 : decode cX4_markLine 57 = .ok (.getfield 12, 3) := by decide +kernel
theorem dX4_markLine_60 : decode cX4_markLine 60 = .ok (.aload_n 0, 1) := by decide +kernel
theorem dX4_markLine_61 : decode cX4_markLine 61 = .ok (.getfield 12, 3) := by decide +kernel
theorem dX4_markLine_64 : decode cX4_markLine 64 = .ok (.iload_n 1, 1) := by decide +kernel
theorem dX4_markLine_65 : decode cX4_markLine 65 = .ok (.iload_n 2, 1) := by decide +kernel
theorem dX4_markLine_66 : decode cX4_markLine 66 = .ok (.iload 5, 2) := by decide +kernel
theorem dX4_markLine_68 : decode cX4_markLine 68 = .ok (.iload 6, 2) := by decide +kernel
theorem dX4_markLine_70 : decode cX4_markLine 70 = .ok (.invokevirtual 84, 3) := by decide +kernel
theorem dX4_markLine_73 : decode cX4_markLine 73 = .ok (.iload_n 3, 1) := by decide +kernel
theorem dX4_markLine_74 : decode cX4_markLine 74 = .ok (.invokevirtual 88, 3) := by decide +kernel
theorem dX4_markLine_77 : decode cX4_markLine 77 = .ok (.pop, 1) := by decide +kernel
theorem dX4_markLine_78 : decode cX4_markLine 78 = .ok (.return_, 1) := by decide +kernel
theorem dX4_isWithin_0 : decode cX4_isWithin 0 = .ok (.iload_n 0, 1) := by decide +kernel
theorem dX4_isWithin_1 : decode cX4_isWithin 1 = .ok (.iload_n 1, 1) := by decide +kernel
theorem dX4_isWithin_2 : decode cX4_isWithin 2 = .ok (.if_icmp .lt 12, 3) := by decide +kernel
theorem dX4_isWithin_5 : decode cX4_isWithin 5 = .ok (.iload_n 0, 1) := by decide +kernel
theorem dX4_isWithin_6 : decode cX4_isWithin 6 = .ok (.iload_n 2, 1) := by decide +kernel
theorem dX4_isWithin_7 : decode cX4_isWithin 7 = .ok (.if_icmp .gt 7, 3) := by decide +kernel
theorem dX4_isWithin_10 : decode cX4_isWithin 10 = .ok (.iconst 1, 1) := by decide +kernel
theorem dX4_isWithin_11 : decode cX4_isWithin 11 = .ok (.goto 4, 3) := by decide +kernel
theorem dX4_isWithin_14 : decode cX4_isWithin 14 = .ok (.iconst 0, 1) := by decide +kernel
theorem dX4_isWithin_15 : decode cX4_isWithin 15 = .ok (.ireturn, 1) := by decide +kernel
set_option maxRecDepth 20000 in
theorem ggX4_isSettingOf_X4_isWithin : GoodIn wsX4_isSettingOf wsX4_isWithin := goodIn_r _ [6] (by decide +kernel) (by decide +kernel)
set_option maxRecDepth 20000 in
theorem gX4_isSettingOf_X4_isWithin : GoodIn wsX4_isSettingOf (va_wsS RX4 37 yX4_isWithin wsX4_isWithin) := goodIn_app (goodIn_of _ (by decide +kernel)) ggX4_isSettingOf_X4_isWithin
theorem dX4_isSettingOf_0 : decode cX4_isSettingOf 0 = .ok (.iload_n 0, 1) := by decide +kernel
theorem dX4_isSettingOf_1 : decode cX4_isSettingOf 1 = .ok (.iconst 0, 1) := by decide +kernel
theorem dX4_isSettingOf_2 : decode cX4_isSettingOf 2 = .ok (.iconst 5, 1) := by decide +kernel
theorem dX4_isSettingOf_3 : decode cX4_isSettingOf 3 = .ok (.invokestatic 37, 3) := by decide +kernel
theorem dX4_isSettingOf_6 : decode cX4_isSettingOf 6 = .ok (.ifCond .eq 20, 3) := by decide +kernel
theorem dX4_isSettingOf_9 : decode cX4_isSettingOf 9 = .ok (.iload_n 1, 1) := by decide +kernel
theorem dX4_isSettingOf_10 : decode cX4_isSettingOf 10 = .ok (.getstatic 262, 3) := by decide +kernel
theorem dX4_isSettingOf_13 : decode cX4_isSettingOf 13 = .ok (.iload_n 0, 1) := by decide +kernel
theorem dX4_isSettingOf_14 : decode cX4_isSettingOf 14 = .ok (.iaload, 1) := by decide +kernel
theorem dX4_isSettingOf_15 : decode cX4_isSettingOf 15 = .ok (.getstatic 265, 3) := by decide +kernel
theorem dX4_isSettingOf_18 : decode cX4_isSettingOf 18 = .ok (.iload_n 0, 1) := by decide +kernel
theorem dX4_isSettingOf_19 : decode cX4_isSettingOf 19 = .ok (.iaload, 1) := by decide +kernel
theorem dX4_isSettingOf_20 : decode cX4_isSettingOf 20 = .ok (.invokestatic 37, 3) := by decide +kernel
theorem dX4_isSettingOf_23 : decode cX4_isSettingOf 23 = .ok (.ifCond .ne 5, 3) := by decide +kernel
theorem dX4_isSettingOf_26 : decode cX4_isSettingOf 26 = .ok (.iconst 0, 1) := by decide +kernel
theorem dX4_isSettingOf_27 : decode cX4_isSettingOf 27 = .ok (.ireturn, 1) := by decide +kernel
theorem dX4_isSettingOf_28 : decode cX4_isSettingOf 28 = .ok (.iload_n 0, 1) := by decide +kernel
theorem dX4_isSettingOf_29 : decode cX4_isSettingOf 29 = .ok (.iconst 5, 1) := by decide +kernel
theorem dX4_isSettingOf_30 : decode cX4_isSettingOf 30 = .ok (.if_icmp .ne 21, 3) := by decide +kernel
theorem dX4_isSettingOf_33 : decode cX4_isSettingOf 33 = .ok (.iload_n 1, 1) := by decide +kernel
theorem dX4_isSettingOf_34 : decode cX4_isSettingOf 34 = .ok (.getstatic 262, 3) := by decide +kernel
theorem dX4_isSettingOf_37 : decode cX4_isSettingOf 37 = .ok (.iconst 5, 1) := by decide +kernel
theorem dX4_isSettingOf_38 : decode cX4_isSettingOf 38 = .ok (.iaload, 1) := by decide +kernel
theorem dX4_isSettingOf_39 : decode cX4_isSettingOf 39 = .ok (.if_icmp .eq 12, 3) := by decide +kernel
theorem dX4_isSettingOf_42 : decode cX4_isSettingOf 42 = .ok (.iload_n 1, 1) := by decide +kernel
theorem dX4_isSettingOf_43 : decode cX4_isSettingOf 43 = .ok (.getstatic 265, 3) := by decide +kernel
theorem dX4_isSettingOf_46 : decode cX4_isSettingOf 46 = .ok (.iconst 5, 1) := by decide +kernel
theorem dX4_isSettingOf_47 : decode cX4_isSettingOf 47 = .ok (.iaload, 1) := by decide +kernel
theorem dX4_isSettingOf_48 : decode cX4_isSettingOf 48 = .ok (.if_icmp .ne 7, 3) := by decide +kernel
theorem dX4_isSettingOf_51 : decode cX4_isSettingOf 51 = .ok (.iconst 1, 1) := by decide +kernel
theorem dX4_isSettingOf_52 : decode cX4_isSettingOf 52 = .ok (.goto 4, 3) := by decide +kernel
theorem dX4_isSettingOf_55 : decode cX4_isSettingOf 55 = .ok (.iconst 0, 1) := by decide +kernel
theorem dX4_isSettingOf_56 : decode cX4_isSettingOf 56 = .ok (.ireturn, 1) := by decide +kernel
theorem dX4_has_0 : decode cX4_has 0 = .ok (.lload_n 0, 1) := by decide +kernel
theorem dX4_has_1 : decode cX4_has 1 = .ok (.iload_n 2, 1) := by decide +kernel
theorem dX4_has_2 : decode cX4_has 2 = .ok (.lushr, 1) := by decide +kernel
theorem dX4_has_3 : decode cX4_has 3 = .ok (.lconst 1, 1) := by decide +kernel
theorem dX4_has_4 : decode cX4_has 4 = .ok (.land, 1) := by decide +kernel
theorem dX4_has_5 : decode cX4_has 5 = .ok (.lconst 0, 1) := by decide +kernel
theorem dX4_has_6 : decode cX4_has 6 = .ok (.lcmp, 1) := by decide +kernel
theorem dX4_has_7 : decode cX4_has 7 = .ok (.ifCond .eq 7, 3) := by decide +kernel
theorem dX4_has_10 : decode cX4_has 10 = .ok (.iconst 1, 1) := by decide +kernel
theorem dX4_has_11 : decode cX4_has 11 = .ok (.goto 4, 3) := by decide +kernel
theorem dX4_has_14 : decode cX4_has 14 = .ok (.iconst 0, 1) := by decide +kernel
theorem dX4_has_15 : decode cX4_has 15 = .ok (.ireturn, 1) := by decide +kernel
