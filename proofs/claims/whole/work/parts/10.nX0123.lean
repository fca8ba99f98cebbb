set_option maxRecDepth 20000 in
theorem ggX0_init_X2_init : GoodIn wsX0_init wsX2_init := goodIn_r _ [10, 11, 2, 3, 12, 13, 14, 15, 16, 17, 21, 22, 23, 24, 25] (by decide +kernel) (by decide +kernel)
set_option maxRecDepth 20000 in
theorem gX0_init_X2_init : GoodIn wsX0_init (wsX2_init) := ggX0_init_X2_init
theorem dX0_init_0 : decode cX0_init 0 = .ok (.aload_n 0, 1) := by decide +kernel
theorem dX0_init_1 : decode cX0_init 1 = .ok (.invokespecial 1, 3) := by decide +kernel
theorem dX0_init_4 : decode cX0_init 4 = .ok (.aload_n 0, 1) := by decide +kernel
theorem dX0_init_5 : decode cX0_init 5 = .ok (.bipush 8, 2) := by decide +kernel
theorem dX0_init_7 : decode cX0_init 7 = .ok (.anewarray 9, 3) := by decide +kernel
theorem dX0_init_10 : decode cX0_init 10 = .ok (.putfield 11, 3) := by decide +kernel
theorem dX0_init_13 : decode cX0_init 13 = .ok (.iconst 0, 1) := by decide +kernel
theorem dX0_init_14 : decode cX0_init 14 = .ok (.istore_n 1, 1) := by decide +kernel
theorem dX0_init_15 : decode cX0_init 15 = .ok (.iload_n 1, 1) := by decide +kernel
theorem dX0_init_16 : decode cX0_init 16 = .ok (.bipush 8, 2) := by decide +kernel
theorem dX0_init_18 : decode cX0_init 18 = .ok (.if_icmp .ge 22, 3) := by decide +kernel
theorem dX0_init_21 : decode cX0_init 21 = .ok (.aload_n 0, 1) := by decide +kernel
theorem dX0_init_22 : decode cX0_init 22 = .ok (.getfield 11, 3) := by decide +kernel
theorem dX0_init_25 : decode cX0_init 25 = .ok (.iload_n 1, 1) := by decide +kernel
theorem dX0_init_26 : decode cX0_init 26 = .ok (.new 9, 3) := by decide +kernel
theorem dX0_init_29 : decode cX0_init 29 = .ok (.dup, 1) := by decide +kernel
theorem dX0_init_30 : decode cX0_init 30 = .ok (.invokespecial 15, 3) := by decide +kernel
theorem dX0_init_33 : decode cX0_init 33 = .ok (.aastore, 1) := by decide +kernel
theorem dX0_init_34 : decode cX0_init 34 = .ok (.iinc 1 1, 3) := by decide +kernel
theorem dX0_init_37 : decode cX0_init 37 = .ok (.goto (-22), 3) := by decide +kernel
theorem dX0_init_40 : decode cX0_init 40 = .ok (.return_, 1) := by decide +kernel
set_option maxRecDepth 20000 in
theorem ggX0_remember_X2_copyFrom : GoodIn wsX0_remember wsX2_copyFrom := goodIn_r _ [12, 13, 14, 15, 16, 17, 18, 19, 20, 21, 25, 26, 27, 28, 29] (by decide +kernel) (by decide +kernel)
set_option maxRecDepth 20000 in
theorem gX0_remember_X2_copyFrom : GoodIn wsX0_remember (wsV RX0 20 RX2 yX2_copyFrom wsX2_copyFrom) := goodIn_app (goodIn_of _ (by decide +kernel)) ggX0_remember_X2_copyFrom
theorem dX0_remember_0 : decode cX0_remember 0 = .ok (.aload_n 0, 1) := by decide +kernel
theorem dX0_remember_1 : decode cX0_remember 1 = .ok (.getfield 11, 3) := by decide +kernel
theorem dX0_remember_4 : decode cX0_remember 4 = .ok (.aload_n 0, 1) := by decide +kernel
theorem dX0_remember_5 : decode cX0_remember 5 = .ok (.getfield 16, 3) := by decide +kernel
theorem dX0_remember_8 : decode cX0_remember 8 = .ok (.aaload, 1) := by decide +kernel
theorem dX0_remember_9 : decode cX0_remember 9 = .ok (.astore_n 2, 1) := by decide +kernel
theorem dX0_remember_10 : decode cX0_remember 10 = .ok (.aload_n 2, 1) := by decide +kernel
theorem dX0_remember_11 : decode cX0_remember 11 = .ok (.ifnull 8, 3) := by decide +kernel
theorem dX0_remember_14 : decode cX0_remember 14 = .ok (.aload_n 2, 1) := by decide +kernel
theorem dX0_remember_15 : decode cX0_remember 15 = .ok (.aload_n 1, 1) := by decide +kernel
theorem dX0_remember_16 : decode cX0_remember 16 = .ok (.invokevirtual 20, 3) := by decide +kernel
theorem dX0_remember_19 : decode cX0_remember 19 = .ok (.aload_n 0, 1) := by decide +kernel
theorem dX0_remember_20 : decode cX0_remember 20 = .ok (.aload_n 0, 1) := by decide +kernel
theorem dX0_remember_21 : decode cX0_remember 21 = .ok (.getfield 16, 3) := by decide +kernel
theorem dX0_remember_24 : decode cX0_remember 24 = .ok (.iconst 1, 1) := by decide +kernel
theorem dX0_remember_25 : decode cX0_remember 25 = .ok (.iadd, 1) := by decide +kernel
theorem dX0_remember_26 : decode cX0_remember 26 = .ok (.bipush 8, 2) := by decide +kernel
theorem dX0_remember_28 : decode cX0_remember 28 = .ok (.irem, 1) := by decide +kernel
theorem dX0_remember_29 : decode cX0_remember 29 = .ok (.putfield 16, 3) := by decide +kernel
theorem dX0_remember_32 : decode cX0_remember 32 = .ok (.aload_n 0, 1) := by decide +kernel
theorem dX0_remember_33 : decode cX0_remember 33 = .ok (.aload_n 0, 1) := by decide +kernel
theorem dX0_remember_34 : decode cX0_remember 34 = .ok (.getfield 24, 3) := by decide +kernel
theorem dX0_remember_37 : decode cX0_remember 37 = .ok (.iconst 1, 1) := by decide +kernel
theorem dX0_remember_38 : decode cX0_remember 38 = .ok (.iadd, 1) := by decide +kernel
theorem dX0_remember_39 : decode cX0_remember 39 = .ok (.bipush 8, 2) := by decide +kernel
theorem dX0_remember_41 : decode cX0_remember 41 = .ok (.invokestatic 27, 3) := by decide +kernel
theorem dX0_remember_44 : decode cX0_remember 44 = .ok (.putfield 24, 3) := by decide +kernel
theorem dX0_remember_47 : decode cX0_remember 47 = .ok (.return_, 1) := by decide +kernel
set_option maxRecDepth 20000 in
theorem ggX0_giveBack_X2_copyFrom : GoodIn wsX0_giveBack wsX2_copyFrom := goodIn_r _ [8, 9, 10, 11, 12, 13, 14, 15, 16, 17, 21, 22, 23, 24, 25] (by decide +kernel) (by decide +kernel)
set_option maxRecDepth 20000 in
theorem gX0_giveBack_X2_copyFrom : GoodIn wsX0_giveBack (wsV RX0 20 RX2 yX2_copyFrom wsX2_copyFrom) := goodIn_app (goodIn_of _ (by decide +kernel)) ggX0_giveBack_X2_copyFrom
theorem dX0_giveBack_0 : decode cX0_giveBack 0 = .ok (.aload_n 0, 1) := by decide +kernel
theorem dX0_giveBack_1 : decode cX0_giveBack 1 = .ok (.getfield 24, 3) := by decide +kernel
theorem dX0_giveBack_4 : decode cX0_giveBack 4 = .ok (.ifCond .le 48, 3) := by decide +kernel
theorem dX0_giveBack_7 : decode cX0_giveBack 7 = .ok (.aload_n 0, 1) := by decide +kernel
theorem dX0_giveBack_8 : decode cX0_giveBack 8 = .ok (.aload_n 0, 1) := by decide +kernel
theorem dX0_giveBack_9 : decode cX0_giveBack 9 = .ok (.getfield 16, 3) := by decide +kernel
theorem dX0_giveBack_12 : decode cX0_giveBack 12 = .ok (.bipush 8, 2) := by decide +kernel
theorem dX0_giveBack_14 : decode cX0_giveBack 14 = .ok (.iadd, 1) := by decide +kernel
theorem dX0_giveBack_15 : decode cX0_giveBack 15 = .ok (.iconst 1, 1) := by decide +kernel
theorem dX0_giveBack_16 : decode cX0_giveBack 16 = .ok (.isub, 1) := by decide +kernel
theorem dX0_giveBack_17 : decode cX0_giveBack 17 = .ok (.bipush 8, 2) := by decide +kernel
theorem dX0_giveBack_19 : decode cX0_giveBack 19 = .ok (.irem, 1) := by decide +kernel
theorem dX0_giveBack_20 : decode cX0_giveBack 20 = .ok (.putfield 16, 3) := by decide +kernel
theorem dX0_giveBack_23 : decode cX0_giveBack 23 = .ok (.aload_n 0, 1) := by decide +kernel
theorem dX0_giveBack_24 : decode cX0_giveBack 24 = .ok (.dup, 1) := by decide +kernel
theorem dX0_giveBack_25 : decode cX0_giveBack 25 = .ok (.getfield 24, 3) := by decide +kernel
theorem dX0_giveBack_28 : decode cX0_giveBack 28 = .ok (.iconst 1, 1) := by decide +kernel
theorem dX0_giveBack_29 : decode cX0_giveBack 29 = .ok (.isub, 1) := by decide +kernel
theorem dX0_giveBack_30 : decode cX0_giveBack 30 = .ok (.putfield 24, 3) := by decide +kernel
theorem dX0_giveBack_33 : decode cX0_giveBack 33 = .ok (.aload_n 0, 1) := by decide +kernel
theorem dX0_giveBack_34 : decode cX0_giveBack 34 = .ok (.getfield 11, 3) := by decide +kernel
theorem dX0_giveBack_37 : decode cX0_giveBack 37 = .ok (.aload_n 0, 1) := by decide +kernel
theorem dX0_giveBack_38 : decode cX0_giveBack 38 = .ok (.getfield 16, 3) := by decide +kernel
theorem dX0_giveBack_41 : decode cX0_giveBack 41 = .ok (.aaload, 1) := by decide +kernel
theorem dX0_giveBack_42 : decode cX0_giveBack 42 = .ok (.astore_n 2, 1) := by decide +kernel
theorem dX0_giveBack_43 : decode cX0_giveBack 43 = .ok (.aload_n 2, 1) := by decide +kernel
theorem dX0_giveBack_44 : decode cX0_giveBack 44 = .ok (.ifnull 8, 3) := by decide +kernel
theorem dX0_giveBack_47 : decode cX0_giveBack 47 = .ok (.aload_n 1, 1) := by decide +kernel
theorem dX0_giveBack_48 : decode cX0_giveBack 48 = .ok (.aload_n 2, 1) := by decide +kernel
theorem dX0_giveBack_49 : decode cX0_giveBack 49 = .ok (.invokevirtual 20, 3) := by decide +kernel
theorem dX0_giveBack_52 : decode cX0_giveBack 52 = .ok (.return_, 1) := by decide +kernel
theorem dX1_init_0 : decode cX1_init 0 = .ok (.aload_n 0, 1) := by decide +kernel
theorem dX1_init_1 : decode cX1_init 1 = .ok (.invokespecial 3, 3) := by decide +kernel
theorem dX1_init_4 : decode cX1_init 4 = .ok (.aload_n 0, 1) := by decide +kernel
theorem dX1_init_5 : decode cX1_init 5 = .ok (.bipush 36, 2) := by decide +kernel
theorem dX1_init_7 : decode cX1_init 7 = .ok (.newarray .int, 2) := by decide +kernel
theorem dX1_init_9 : decode cX1_init 9 = .ok (.putfield 9, 3) := by decide +kernel
theorem dX1_init_12 : decode cX1_init 12 = .ok (.aload_n 0, 1) := by decide +kernel
theorem dX1_init_13 : decode cX1_init 13 = .ok (.bipush 36, 2) := by decide +kernel
theorem dX1_init_15 : decode cX1_init 15 = .ok (.newarray .int, 2) := by decide +kernel
theorem dX1_init_17 : decode cX1_init 17 = .ok (.putfield 15, 3) := by decide +kernel
theorem dX1_init_20 : decode cX1_init 20 = .ok (.aload_n 0, 1) := by decide +kernel
theorem dX1_init_21 : decode cX1_init 21 = .ok (.sipush 288, 3) := by decide +kernel
theorem dX1_init_24 : decode cX1_init 24 = .ok (.newarray .int, 2) := by decide +kernel
theorem dX1_init_26 : decode cX1_init 26 = .ok (.putfield 18, 3) := by decide +kernel
theorem dX1_init_29 : decode cX1_init 29 = .ok (.aload_n 0, 1) := by decide +kernel
theorem dX1_init_30 : decode cX1_init 30 = .ok (.sipush 288, 3) := by decide +kernel
theorem dX1_init_33 : decode cX1_init 33 = .ok (.newarray .int, 2) := by decide +kernel
theorem dX1_init_35 : decode cX1_init 35 = .ok (.putfield 21, 3) := by decide +kernel
theorem dX1_init_38 : decode cX1_init 38 = .ok (.aload_n 0, 1) := by decide +kernel
theorem dX1_init_39 : decode cX1_init 39 = .ok (.bipush 36, 2) := by decide +kernel
theorem dX1_init_41 : decode cX1_init 41 = .ok (.newarray .int, 2) := by decide +kernel
theorem dX1_init_43 : decode cX1_init 43 = .ok (.putfield 24, 3) := by decide +kernel
theorem dX1_init_46 : decode cX1_init 46 = .ok (.aload_n 0, 1) := by decide +kernel
theorem dX1_init_47 : decode cX1_init 47 = .ok (.bipush 36, 2) := by decide +kernel
theorem dX1_init_49 : decode cX1_init 49 = .ok (.newarray .int, 2) := by decide +kernel
theorem dX1_init_51 : decode cX1_init 51 = .ok (.putfield 27, 3) := by decide +kernel
theorem dX1_init_54 : decode cX1_init 54 = .ok (.return_, 1) := by decide +kernel
set_option maxRecDepth 20000 in
theorem ggX1_solve_X1_load : GoodIn wsX1_solve wsX1_load := goodIn_r _ [5, 6, 7, 8, 9, 10, 11, 12, 13, 14, 15, 16, 17, 18, 19, 20, 21, 22, 23, 24, 4, 25, 26, 27, 28, 29, 30, 31, 32, 33, 34, 35, 36, 37, 38, 39, 40, 41, 42, 43, 44, 45, 46, 47, 48, 49, 50, 51, 52, 53, 54, 55, 56, 57, 58, 59, 60, 61, 62, 88, 89, 90, 91, 92, 93, 94, 95, 96, 97, 98, 99, 100] (by decide +kernel) (by decide +kernel)
set_option maxRecDepth 20000 in
theorem gX1_solve_X1_load : GoodIn wsX1_solve (wsV RX1 30 RX1 yX1_load wsX1_load) := goodIn_app (goodIn_of _ (by decide +kernel)) ggX1_solve_X1_load
set_option maxRecDepth 20000 in
theorem ggX1_solve_X1_fill : GoodIn wsX1_solve wsX1_fill := goodIn_r _ [66, 6, 26, 67, 68, 69, 70, 4, 71, 72, 28, 73, 7, 59, 74, 75, 76, 77, 60, 61, 62, 78, 79, 80, 81, 82, 37, 83, 84, 85, 86, 87, 88, 89, 90, 91, 92, 93, 94, 95] (by decide +kernel) (by decide +kernel)
set_option maxRecDepth 20000 in
theorem gX1_solve_X1_fill : GoodIn wsX1_solve (wsV RX1 34 RX1 yX1_fill wsX1_fill) := goodIn_app (goodIn_of _ (by decide +kernel)) ggX1_solve_X1_fill
theorem dX1_solve_0 : decode cX1_solve 0 = .ok (.aload_n 0, 1) := by decide +kernel
theorem dX1_solve_1 : decode cX1_solve 1 = .ok (.aload_n 1, 1) := by decide +kernel
theorem dX1_solve_2 : decode cX1_solve 2 = .ok (.invokevirtual 30, 3) := by decide +kernel
theorem dX1_solve_5 : decode cX1_solve 5 = .ok (.aload_n 0, 1) := by decide +kernel
theorem dX1_solve_6 : decode cX1_solve 6 = .ok (.invokevirtual 34, 3) := by decide +kernel
theorem dX1_solve_9 : decode cX1_solve 9 = .ok (.ireturn, 1) := by decide +kernel
set_option maxRecDepth 20000 in
theorem ggX1_load_X2_dots : GoodIn wsX1_load wsX2_dots := goodIn_r _ [10, 11, 12, 67, 68, 69, 70, 71] (by decide +kernel) (by decide +kernel)
set_option maxRecDepth 20000 in
theorem gX1_load_X2_dots : GoodIn wsX1_load (wsV RX1 38 RX2 yX2_dots wsX2_dots) := goodIn_app (goodIn_of _ (by decide +kernel)) ggX1_load_X2_dots
set_option maxRecDepth 20000 in
theorem ggX1_load_X2_numberOf : GoodIn wsX1_load wsX2_numberOf := goodIn_r _ [16, 11, 67, 68, 69, 70, 71] (by decide +kernel) (by decide +kernel)
set_option maxRecDepth 20000 in
theorem gX1_load_X2_numberOf : GoodIn wsX1_load (wsV RX1 52 RX2 yX2_numberOf wsX2_numberOf) := goodIn_app (goodIn_of _ (by decide +kernel)) ggX1_load_X2_numberOf
set_option maxRecDepth 20000 in
theorem ggX1_load_X1_loadPulls : GoodIn wsX1_load wsX1_loadPulls := goodIn_r _ [21, 22, 23, 24, 25, 26, 27, 9, 28, 29, 30, 31, 32, 33, 34, 59, 60, 61, 62, 63, 64, 65, 66, 67, 68, 69, 70, 71] (by decide +kernel) (by decide +kernel)
set_option maxRecDepth 20000 in
theorem gX1_load_X1_loadPulls : GoodIn wsX1_load (wsV RX1 59 RX1 yX1_loadPulls wsX1_loadPulls) := goodIn_app (goodIn_of _ (by decide +kernel)) ggX1_load_X1_loadPulls
set_option maxRecDepth 20000 in
theorem ggX1_load_X2_linkedTo : GoodIn wsX1_load wsX2_linkedTo := goodIn_r _ [38, 29, 39, 40, 41, 9, 42, 11, 12, 43, 14, 15, 16, 67, 68, 69, 70, 71] (by decide +kernel) (by decide +kernel)
set_option maxRecDepth 20000 in
theorem gX1_load_X2_linkedTo : GoodIn wsX1_load (wsV RX1 63 RX2 yX2_linkedTo wsX2_linkedTo) := goodIn_app (goodIn_of _ (by decide +kernel)) ggX1_load_X2_linkedTo
set_option maxRecDepth 20000 in
theorem ggX1_load_X2_weightOf : GoodIn wsX1_load wsX2_weightOf := goodIn_r _ [47, 30, 31, 32, 33, 34, 29, 48, 49, 50, 67, 68, 69, 70, 71] (by decide +kernel) (by decide +kernel)
set_option maxRecDepth 20000 in
theorem gX1_load_X2_weightOf : GoodIn wsX1_load (wsV RX1 67 RX2 yX2_weightOf wsX2_weightOf) := goodIn_app (goodIn_of _ (by decide +kernel)) ggX1_load_X2_weightOf
set_option maxRecDepth 20000 in
theorem ggX1_load_X1_join : GoodIn wsX1_load wsX1_join := goodIn_r _ [54, 2, 55, 56, 57, 20, 58, 59, 60, 61, 62, 63, 64, 65, 66] (by decide +kernel) (by decide +kernel)
set_option maxRecDepth 20000 in
theorem gX1_load_X1_join : GoodIn wsX1_load (wsV RX1 70 RX1 yX1_join wsX1_join) := goodIn_app (goodIn_of _ (by decide +kernel)) ggX1_load_X1_join
theorem dX1_load_0 : decode cX1_load 0 = .ok (.aload_n 0, 1) := by decide +kernel
theorem dX1_load_1 : decode cX1_load 1 = .ok (.aload_n 1, 1) := by decide +kernel
theorem dX1_load_2 : decode cX1_load 2 = .ok (.invokevirtual 38, 3) := by decide +kernel
theorem dX1_load_5 : decode cX1_load 5 = .ok (.putfield 43, 3) := by decide +kernel
theorem dX1_load_8 : decode cX1_load 8 = .ok (.iconst 0, 1) := by decide +kernel
theorem dX1_load_9 : decode cX1_load 9 = .ok (.istore_n 2, 1) := by decide +kernel
theorem dX1_load_10 : decode cX1_load 10 = .ok (.iload_n 2, 1) := by decide +kernel
theorem dX1_load_11 : decode cX1_load 11 = .ok (.aload_n 0, 1) := by decide +kernel
theorem dX1_load_12 : decode cX1_load 12 = .ok (.getfield 18, 3) := by decide +kernel
theorem dX1_load_15 : decode cX1_load 15 = .ok (.arraylength, 1) := by decide +kernel
theorem dX1_load_16 : decode cX1_load 16 = .ok (.if_icmp .ge 16, 3) := by decide +kernel
theorem dX1_load_19 : decode cX1_load 19 = .ok (.aload_n 0, 1) := by decide +kernel
theorem dX1_load_20 : decode cX1_load 20 = .ok (.getfield 18, 3) := by decide +kernel
theorem dX1_load_23 : decode cX1_load 23 = .ok (.iload_n 2, 1) := by decide +kernel
theorem dX1_load_24 : decode cX1_load 24 = .ok (.iconst (-1), 1) := by decide +kernel
theorem dX1_load_25 : decode cX1_load 25 = .ok (.iastore, 1) := by decide +kernel
theorem dX1_load_26 : decode cX1_load 26 = .ok (.iinc 2 1, 3) := by decide +kernel
theorem dX1_load_29 : decode cX1_load 29 = .ok (.goto (-19), 3) := by decide +kernel
theorem dX1_load_32 : decode cX1_load 32 = .ok (.iconst 0, 1) := by decide +kernel
theorem dX1_load_33 : decode cX1_load 33 = .ok (.istore_n 2, 1) := by decide +kernel
theorem dX1_load_34 : decode cX1_load 34 = .ok (.iload_n 2, 1) := by decide +kernel
theorem dX1_load_35 : decode cX1_load 35 = .ok (.aload_n 1, 1) := by decide +kernel
theorem dX1_load_36 : decode cX1_load 36 = .ok (.getfield 46, 3) := by decide +kernel
theorem dX1_load_39 : decode cX1_load 39 = .ok (.if_icmp .ge 98, 3) := by decide +kernel
theorem dX1_load_42 : decode cX1_load 42 = .ok (.iconst 0, 1) := by decide +kernel
theorem dX1_load_43 : decode cX1_load 43 = .ok (.istore_n 3, 1) := by decide +kernel
theorem dX1_load_44 : decode cX1_load 44 = .ok (.iload_n 3, 1) := by decide +kernel
theorem dX1_load_45 : decode cX1_load 45 = .ok (.aload_n 1, 1) := by decide +kernel
theorem dX1_load_46 : decode cX1_load 46 = .ok (.getfield 49, 3) := by decide +kernel
theorem dX1_load_49 : decode cX1_load 49 = .ok (.if_icmp .ge 82, 3) := by decide +kernel
theorem dX1_load_52 : decode cX1_load 52 = .ok (.aload_n 1, 1) := by decide +kernel
theorem dX1_load_53 : decode cX1_load 53 = .ok (.iload_n 3, 1) := by decide +kernel
theorem dX1_load_54 : decode cX1_load 54 = .ok (.iload_n 2, 1) := by decide +kernel
theorem dX1_load_55 : decode cX1_load 55 = .ok (.invokevirtual 52, 3) := by decide +kernel
theorem dX1_load_58 : decode cX1_load 58 = .ok (.istore 4, 2) := by decide +kernel
theorem dX1_load_60 : decode cX1_load 60 = .ok (.aload_n 0, 1) := by decide +kernel
theorem dX1_load_61 : decode cX1_load 61 = .ok (.aload_n 1, 1) := by decide +kernel
theorem dX1_load_62 : decode cX1_load 62 = .ok (.iload 4, 2) := by decide +kernel
theorem dX1_load_64 : decode cX1_load 64 = .ok (.aload_n 1, 1) := by decide +kernel
theorem dX1_load_65 : decode cX1_load 65 = .ok (.getfield 56, 3) := by decide +kernel
theorem dX1_load_68 : decode cX1_load 68 = .ok (.iload 4, 2) := by decide +kernel
theorem dX1_load_70 : decode cX1_load 70 = .ok (.iaload, 1) := by decide +kernel
theorem dX1_load_71 : decode cX1_load 71 = .ok (.invokevirtual 59, 3) := by decide +kernel
theorem dX1_load_74 : decode cX1_load 74 = .ok (.iconst 0, 1) := by decide +kernel
theorem dX1_load_75 : decode cX1_load 75 = .ok (.istore 5, 2) := by decide +kernel
theorem dX1_load_77 : decode cX1_load 77 = .ok (.iload 5, 2) := by decide +kernel
theorem dX1_load_79 : decode cX1_load 79 = .ok (.iconst 4, 1) := by decide +kernel
theorem dX1_load_80 : decode cX1_load 80 = .ok (.if_icmp .ge 45, 3) := by decide +kernel
theorem dX1_load_83 : decode cX1_load 83 = .ok (.aload_n 1, 1) := by decide +kernel
theorem dX1_load_84 : decode cX1_load 84 = .ok (.iload_n 3, 1) := by decide +kernel
theorem dX1_load_85 : decode cX1_load 85 = .ok (.iload_n 2, 1) := by decide +kernel
theorem dX1_load_86 : decode cX1_load 86 = .ok (.iload 5, 2) := by decide +kernel
theorem dX1_load_88 : decode cX1_load 88 = .ok (.invokevirtual 63, 3) := by decide +kernel
theorem dX1_load_91 : decode cX1_load 91 = .ok (.istore 6, 2) := by decide +kernel
theorem dX1_load_93 : decode cX1_load 93 = .ok (.iload 6, 2) := by decide +kernel
theorem dX1_load_95 : decode cX1_load 95 = .ok (.iconst (-1), 1) := by decide +kernel
theorem dX1_load_96 : decode cX1_load 96 = .ok (.if_icmp .eq 23, 3) := by decide +kernel
theorem dX1_load_99 : decode cX1_load 99 = .ok (.aload_n 0, 1) := by decide +kernel
theorem dX1_load_100 : decode cX1_load 100 = .ok (.iload 4, 2) := by decide +kernel
theorem dX1_load_102 : decode cX1_load 102 = .ok (.iload 6, 2) := by decide +kernel
theorem dX1_load_104 : decode cX1_load 104 = .ok (.iload 5, 2) := by decide +kernel
theorem dX1_load_106 : decode cX1_load 106 = .ok (.aload_n 1, 1) := by decide +kernel
theorem dX1_load_107 : decode cX1_load 107 = .ok (.iload 4, 2) := by decide +kernel
theorem dX1_load_109 : decode cX1_load 109 = .ok (.iload 6, 2) := by decide +kernel
theorem dX1_load_111 : decode cX1_load 111 = .ok (.iload 5, 2) := by decide +kernel
theorem dX1_load_113 : decode cX1_load 113 = .ok (.invokevirtual 67, 3) := by decide +kernel
theorem dX1_load_116 : decode cX1_load 116 = .ok (.invokevirtual 70, 3) := by decide +kernel
theorem dX1_load_119 : decode cX1_load 119 = .ok (.iinc 5 1, 3) := by decide +kernel
theorem dX1_load_122 : decode cX1_load 122 = .ok (.goto (-45), 3) := by decide +kernel
theorem dX1_load_125 : decode cX1_load 125 = .ok (.iinc 3 1, 3) := by decide +kernel
theorem dX1_load_128 : decode cX1_load 128 = .ok (.goto (-84), 3) := by decide +kernel
theorem dX1_load_131 : decode cX1_load 131 = .ok (.iinc 2 1, 3) := by decide +kernel
theorem dX1_load_134 : decode cX1_load 134 = .ok (.goto (-100), 3) := by decide +kernel
theorem dX1_load_137 : decode cX1_load 137 = .ok (.return_, 1) := by decide +kernel
set_option maxRecDepth 20000 in
theorem ggX1_loadPulls_X2_pullFrom : GoodIn wsX1_loadPulls wsX2_pullFrom := goodIn_r _ [8, 9, 10, 11, 12, 13, 14, 23, 24, 25, 26, 27] (by decide +kernel) (by decide +kernel)
set_option maxRecDepth 20000 in
theorem gX1_loadPulls_X2_pullFrom : GoodIn wsX1_loadPulls (wsV RX1 74 RX2 yX2_pullFrom wsX2_pullFrom) := goodIn_app (goodIn_of _ (by decide +kernel)) ggX1_loadPulls_X2_pullFrom
theorem dX1_loadPulls_0 : decode cX1_loadPulls 0 = .ok (.aload_n 0, 1) := by decide +kernel
theorem dX1_loadPulls_1 : decode cX1_loadPulls 1 = .ok (.getfield 9, 3) := by decide +kernel
theorem dX1_loadPulls_4 : decode cX1_loadPulls 4 = .ok (.iload_n 2, 1) := by decide +kernel
theorem dX1_loadPulls_5 : decode cX1_loadPulls 5 = .ok (.aload_n 1, 1) := by decide +kernel
theorem dX1_loadPulls_6 : decode cX1_loadPulls 6 = .ok (.iload_n 2, 1) := by decide +kernel
theorem dX1_loadPulls_7 : decode cX1_loadPulls 7 = .ok (.iconst 4, 1) := by decide +kernel
theorem dX1_loadPulls_8 : decode cX1_loadPulls 8 = .ok (.invokevirtual 74, 3) := by decide +kernel
theorem dX1_loadPulls_11 : decode cX1_loadPulls 11 = .ok (.iload_n 3, 1) := by decide +kernel
theorem dX1_loadPulls_12 : decode cX1_loadPulls 12 = .ok (.iconst 1, 1) := by decide +kernel
theorem dX1_loadPulls_13 : decode cX1_loadPulls 13 = .ok (.if_icmp .ne 8, 3) := by decide +kernel
theorem dX1_loadPulls_16 : decode cX1_loadPulls 16 = .ok (.ldc 77, 2) := by decide +kernel
theorem dX1_loadPulls_18 : decode cX1_loadPulls 18 = .ok (.goto 4, 3) := by decide +kernel
theorem dX1_loadPulls_21 : decode cX1_loadPulls 21 = .ok (.iconst 0, 1) := by decide +kernel
theorem dX1_loadPulls_22 : decode cX1_loadPulls 22 = .ok (.iadd, 1) := by decide +kernel
theorem dX1_loadPulls_23 : decode cX1_loadPulls 23 = .ok (.iastore, 1) := by decide +kernel
theorem dX1_loadPulls_24 : decode cX1_loadPulls 24 = .ok (.aload_n 0, 1) := by decide +kernel
theorem dX1_loadPulls_25 : decode cX1_loadPulls 25 = .ok (.getfield 15, 3) := by decide +kernel
theorem dX1_loadPulls_28 : decode cX1_loadPulls 28 = .ok (.iload_n 2, 1) := by decide +kernel
theorem dX1_loadPulls_29 : decode cX1_loadPulls 29 = .ok (.aload_n 1, 1) := by decide +kernel
theorem dX1_loadPulls_30 : decode cX1_loadPulls 30 = .ok (.iload_n 2, 1) := by decide +kernel
theorem dX1_loadPulls_31 : decode cX1_loadPulls 31 = .ok (.iconst 3, 1) := by decide +kernel
theorem dX1_loadPulls_32 : decode cX1_loadPulls 32 = .ok (.invokevirtual 74, 3) := by decide +kernel
theorem dX1_loadPulls_35 : decode cX1_loadPulls 35 = .ok (.iload_n 3, 1) := by decide +kernel
theorem dX1_loadPulls_36 : decode cX1_loadPulls 36 = .ok (.iconst 2, 1) := by decide +kernel
theorem dX1_loadPulls_37 : decode cX1_loadPulls 37 = .ok (.if_icmp .ne 8, 3) := by decide +kernel
theorem dX1_loadPulls_40 : decode cX1_loadPulls 40 = .ok (.ldc 77, 2) := by decide +kernel
theorem dX1_loadPulls_42 : decode cX1_loadPulls 42 = .ok (.goto 4, 3) := by decide +kernel
theorem dX1_loadPulls_45 : decode cX1_loadPulls 45 = .ok (.iconst 0, 1) := by decide +kernel
theorem dX1_loadPulls_46 : decode cX1_loadPulls 46 = .ok (.iadd, 1) := by decide +kernel
theorem dX1_loadPulls_47 : decode cX1_loadPulls 47 = .ok (.iastore, 1) := by decide +kernel
theorem dX1_loadPulls_48 : decode cX1_loadPulls 48 = .ok (.return_, 1) := by decide +kernel
set_option maxRecDepth 20000 in
theorem ggX1_join_X1_reverse : GoodIn wsX1_join wsX1_reverse := goodIn_r _ [6] (by decide +kernel) (by decide +kernel)
set_option maxRecDepth 20000 in
theorem gX1_join_X1_reverse : GoodIn wsX1_join (va_wsS RX1 78 yX1_reverse wsX1_reverse) := goodIn_app (goodIn_of _ (by decide +kernel)) ggX1_join_X1_reverse
theorem dX1_join_0 : decode cX1_join 0 = .ok (.iload_n 1, 1) := by decide +kernel
theorem dX1_join_1 : decode cX1_join 1 = .ok (.bipush 8, 2) := by decide +kernel
theorem dX1_join_3 : decode cX1_join 3 = .ok (.imul, 1) := by decide +kernel
theorem dX1_join_4 : decode cX1_join 4 = .ok (.iload_n 3, 1) := by decide +kernel
theorem dX1_join_5 : decode cX1_join 5 = .ok (.iadd, 1) := by decide +kernel
theorem dX1_join_6 : decode cX1_join 6 = .ok (.istore 5, 2) := by decide +kernel
theorem dX1_join_8 : decode cX1_join 8 = .ok (.iload_n 2, 1) := by decide +kernel
theorem dX1_join_9 : decode cX1_join 9 = .ok (.bipush 8, 2) := by decide +kernel
theorem dX1_join_11 : decode cX1_join 11 = .ok (.imul, 1) := by decide +kernel
theorem dX1_join_12 : decode cX1_join 12 = .ok (.iload_n 3, 1) := by decide +kernel
theorem dX1_join_13 : decode cX1_join 13 = .ok (.invokestatic 78, 3) := by decide +kernel
theorem dX1_join_16 : decode cX1_join 16 = .ok (.iadd, 1) := by decide +kernel
theorem dX1_join_17 : decode cX1_join 17 = .ok (.istore 6, 2) := by decide +kernel
theorem dX1_join_19 : decode cX1_join 19 = .ok (.aload_n 0, 1) := by decide +kernel
theorem dX1_join_20 : decode cX1_join 20 = .ok (.getfield 18, 3) := by decide +kernel
theorem dX1_join_23 : decode cX1_join 23 = .ok (.iload 5, 2) := by decide +kernel
theorem dX1_join_25 : decode cX1_join 25 = .ok (.iload_n 2, 1) := by decide +kernel
theorem dX1_join_26 : decode cX1_join 26 = .ok (.iastore, 1) := by decide +kernel
theorem dX1_join_27 : decode cX1_join 27 = .ok (.aload_n 0, 1) := by decide +kernel
theorem dX1_join_28 : decode cX1_join 28 = .ok (.getfield 18, 3) := by decide +kernel
theorem dX1_join_31 : decode cX1_join 31 = .ok (.iload 6, 2) := by decide +kernel
theorem dX1_join_33 : decode cX1_join 33 = .ok (.iload_n 1, 1) := by decide +kernel
theorem dX1_join_34 : decode cX1_join 34 = .ok (.iastore, 1) := by decide +kernel
theorem dX1_join_35 : decode cX1_join 35 = .ok (.aload_n 0, 1) := by decide +kernel
theorem dX1_join_36 : decode cX1_join 36 = .ok (.getfield 21, 3) := by decide +kernel
theorem dX1_join_39 : decode cX1_join 39 = .ok (.iload 5, 2) := by decide +kernel
theorem dX1_join_41 : decode cX1_join 41 = .ok (.iload 4, 2) := by decide +kernel
theorem dX1_join_43 : decode cX1_join 43 = .ok (.iastore, 1) := by decide +kernel
theorem dX1_join_44 : decode cX1_join 44 = .ok (.aload_n 0, 1) := by decide +kernel
theorem dX1_join_45 : decode cX1_join 45 = .ok (.getfield 21, 3) := by decide +kernel
theorem dX1_join_48 : decode cX1_join 48 = .ok (.iload 6, 2) := by decide +kernel
theorem dX1_join_50 : decode cX1_join 50 = .ok (.iload 4, 2) := by decide +kernel
theorem dX1_join_52 : decode cX1_join 52 = .ok (.iastore, 1) := by decide +kernel
theorem dX1_join_53 : decode cX1_join 53 = .ok (.return_, 1) := by decide +kernel
theorem dX1_reverse_0 : decode cX1_reverse 0 = .ok (.iload_n 0, 1) := by decide +kernel
theorem dX1_reverse_1 : decode cX1_reverse 1 = .ok (.iconst 4, 1) := by decide +kernel
theorem dX1_reverse_2 : decode cX1_reverse 2 = .ok (.if_icmp .ge 9, 3) := by decide +kernel
theorem dX1_reverse_5 : decode cX1_reverse 5 = .ok (.iload_n 0, 1) := by decide +kernel
theorem dX1_reverse_6 : decode cX1_reverse 6 = .ok (.iconst 4, 1) := by decide +kernel
theorem dX1_reverse_7 : decode cX1_reverse 7 = .ok (.iadd, 1) := by decide +kernel
theorem dX1_reverse_8 : decode cX1_reverse 8 = .ok (.goto 6, 3) := by decide +kernel
theorem dX1_reverse_11 : decode cX1_reverse 11 = .ok (.iload_n 0, 1) := by decide +kernel
theorem dX1_reverse_12 : decode cX1_reverse 12 = .ok (.iconst 4, 1) := by decide +kernel
theorem dX1_reverse_13 : decode cX1_reverse 13 = .ok (.isub, 1) := by decide +kernel
theorem dX1_reverse_14 : decode cX1_reverse 14 = .ok (.ireturn, 1) := by decide +kernel
set_option maxRecDepth 20000 in
theorem ggX1_fill_X1_measureDistances : GoodIn wsX1_fill wsX1_measureDistances := goodIn_r _ [8, 9, 1, 3, 10, 11, 12, 13, 14, 15, 16, 7, 17, 18, 19, 20, 32, 33, 34, 35, 36, 37, 38, 39] (by decide +kernel) (by decide +kernel)
set_option maxRecDepth 20000 in
theorem gX1_fill_X1_measureDistances : GoodIn wsX1_fill (wsV RX1 82 RX1 yX1_measureDistances wsX1_measureDistances) := goodIn_app (goodIn_of _ (by decide +kernel)) ggX1_fill_X1_measureDistances
set_option maxRecDepth 20000 in
theorem ggX1_fill_X1_send : GoodIn wsX1_fill wsX1_send := goodIn_r _ [23, 3, 10, 24, 25, 26, 27, 12, 13, 28, 29, 30, 7, 31, 21, 22, 18, 19, 20, 32, 33, 34, 35, 36, 37, 38, 39] (by decide +kernel) (by decide +kernel)
set_option maxRecDepth 20000 in
theorem gX1_fill_X1_send : GoodIn wsX1_fill (va_wsS RX1 85 yX1_send wsX1_send) := goodIn_app (goodIn_of _ (by decide +kernel)) ggX1_fill_X1_send
theorem dX1_fill_0 : decode cX1_fill 0 = .ok (.iconst 0, 1) := by decide +kernel
theorem dX1_fill_1 : decode cX1_fill 1 = .ok (.istore_n 1, 1) := by decide +kernel
theorem dX1_fill_2 : decode cX1_fill 2 = .ok (.iconst 0, 1) := by decide +kernel
theorem dX1_fill_3 : decode cX1_fill 3 = .ok (.istore_n 2, 1) := by decide +kernel
theorem dX1_fill_4 : decode cX1_fill 4 = .ok (.iload_n 2, 1) := by decide +kernel
theorem dX1_fill_5 : decode cX1_fill 5 = .ok (.sipush 1000, 3) := by decide +kernel
theorem dX1_fill_8 : decode cX1_fill 8 = .ok (.if_icmp .ge 94, 3) := by decide +kernel
theorem dX1_fill_11 : decode cX1_fill 11 = .ok (.aload_n 0, 1) := by decide +kernel
theorem dX1_fill_12 : decode cX1_fill 12 = .ok (.invokevirtual 82, 3) := by decide +kernel
theorem dX1_fill_15 : decode cX1_fill 15 = .ok (.iload_n 1, 1) := by decide +kernel
theorem dX1_fill_16 : decode cX1_fill 16 = .ok (.istore_n 3, 1) := by decide +kernel
theorem dX1_fill_17 : decode cX1_fill 17 = .ok (.iconst 0, 1) := by decide +kernel
theorem dX1_fill_18 : decode cX1_fill 18 = .ok (.istore 4, 2) := by decide +kernel
theorem dX1_fill_20 : decode cX1_fill 20 = .ok (.iload 4, 2) := by decide +kernel
theorem dX1_fill_22 : decode cX1_fill 22 = .ok (.aload_n 0, 1) := by decide +kernel
theorem dX1_fill_23 : decode cX1_fill 23 = .ok (.getfield 43, 3) := by decide +kernel
theorem dX1_fill_26 : decode cX1_fill 26 = .ok (.if_icmp .ge 62, 3) := by decide +kernel
theorem dX1_fill_29 : decode cX1_fill 29 = .ok (.aload_n 0, 1) := by decide +kernel
theorem dX1_fill_30 : decode cX1_fill 30 = .ok (.getfield 9, 3) := by decide +kernel
theorem dX1_fill_33 : decode cX1_fill 33 = .ok (.iload 4, 2) := by decide +kernel
theorem dX1_fill_35 : decode cX1_fill 35 = .ok (.iaload, 1) := by decide +kernel
theorem dX1_fill_36 : decode cX1_fill 36 = .ok (.ifCond .le 46, 3) := by decide +kernel
theorem dX1_fill_39 : decode cX1_fill 39 = .ok (.aload_n 0, 1) := by decide +kernel
theorem dX1_fill_40 : decode cX1_fill 40 = .ok (.getfield 24, 3) := by decide +kernel
theorem dX1_fill_43 : decode cX1_fill 43 = .ok (.iload 4, 2) := by decide +kernel
theorem dX1_fill_45 : decode cX1_fill 45 = .ok (.iaload, 1) := by decide +kernel
theorem dX1_fill_46 : decode cX1_fill 46 = .ok (.ifCond .le 36, 3) := by decide +kernel
theorem dX1_fill_49 : decode cX1_fill 49 = .ok (.aload_n 0, 1) := by decide +kernel
theorem dX1_fill_50 : decode cX1_fill 50 = .ok (.iload 4, 2) := by decide +kernel
theorem dX1_fill_52 : decode cX1_fill 52 = .ok (.aload_n 0, 1) := by decide +kernel
theorem dX1_fill_53 : decode cX1_fill 53 = .ok (.getfield 9, 3) := by decide +kernel
theorem dX1_fill_56 : decode cX1_fill 56 = .ok (.iload 4, 2) := by decide +kernel
theorem dX1_fill_58 : decode cX1_fill 58 = .ok (.iaload, 1) := by decide +kernel
theorem dX1_fill_59 : decode cX1_fill 59 = .ok (.iconst 1, 1) := by decide +kernel
theorem dX1_fill_60 : decode cX1_fill 60 = .ok (.invokestatic 85, 3) := by decide +kernel
theorem dX1_fill_63 : decode cX1_fill 63 = .ok (.istore 5, 2) := by decide +kernel
theorem dX1_fill_65 : decode cX1_fill 65 = .ok (.aload_n 0, 1) := by decide +kernel
theorem dX1_fill_66 : decode cX1_fill 66 = .ok (.getfield 9, 3) := by decide +kernel
theorem dX1_fill_69 : decode cX1_fill 69 = .ok (.iload 4, 2) := by decide +kernel
theorem dX1_fill_71 : decode cX1_fill 71 = .ok (.dup2, 1) := by decide +kernel
theorem dX1_fill_72 : decode cX1_fill 72 = .ok (.iaload, 1) := by decide +kernel
theorem dX1_fill_73 : decode cX1_fill 73 = .ok (.iload 5, 2) := by decide +kernel
theorem dX1_fill_75 : decode cX1_fill 75 = .ok (.isub, 1) := by decide +kernel
theorem dX1_fill_76 : decode cX1_fill 76 = .ok (.iastore, 1) := by decide +kernel
theorem dX1_fill_77 : decode cX1_fill 77 = .ok (.iload_n 1, 1) := by decide +kernel
theorem dX1_fill_78 : decode cX1_fill 78 = .ok (.iload 5, 2) := by decide +kernel
theorem dX1_fill_80 : decode cX1_fill 80 = .ok (.iadd, 1) := by decide +kernel
theorem dX1_fill_81 : decode cX1_fill 81 = .ok (.istore_n 1, 1) := by decide +kernel
theorem dX1_fill_82 : decode cX1_fill 82 = .ok (.iinc 4 1, 3) := by decide +kernel
theorem dX1_fill_85 : decode cX1_fill 85 = .ok (.goto (-65), 3) := by decide +kernel
theorem dX1_fill_88 : decode cX1_fill 88 = .ok (.iload_n 1, 1) := by decide +kernel
theorem dX1_fill_89 : decode cX1_fill 89 = .ok (.iload_n 3, 1) := by decide +kernel
theorem dX1_fill_90 : decode cX1_fill 90 = .ok (.if_icmp .ne 6, 3) := by decide +kernel
theorem dX1_fill_93 : decode cX1_fill 93 = .ok (.goto 9, 3) := by decide +kernel
theorem dX1_fill_96 : decode cX1_fill 96 = .ok (.iinc 2 1, 3) := by decide +kernel
theorem dX1_fill_99 : decode cX1_fill 99 = .ok (.goto (-95), 3) := by decide +kernel
theorem dX1_fill_102 : decode cX1_fill 102 = .ok (.iload_n 1, 1) := by decide +kernel
theorem dX1_fill_103 : decode cX1_fill 103 = .ok (.ireturn, 1) := by decide +kernel
set_option maxRecDepth 20000 in
theorem ggX1_measureDistances_X1_enqueue : GoodIn wsX1_measureDistances wsX1_enqueue := goodIn_r _ [12, 1, 5, 16, 17, 18, 19, 20, 21, 22, 23] (by decide +kernel) (by decide +kernel)
set_option maxRecDepth 20000 in
theorem gX1_measureDistances_X1_enqueue : GoodIn wsX1_measureDistances (wsV RX1 92 RX1 yX1_enqueue wsX1_enqueue) := goodIn_app (goodIn_of _ (by decide +kernel)) ggX1_measureDistances_X1_enqueue
set_option maxRecDepth 20000 in
theorem ggX1_measureDistances_X1_reverse : GoodIn wsX1_measureDistances wsX1_reverse := goodIn_r _ [15] (by decide +kernel) (by decide +kernel)
set_option maxRecDepth 20000 in
theorem gX1_measureDistances_X1_reverse : GoodIn wsX1_measureDistances (va_wsS RX1 78 yX1_reverse wsX1_reverse) := goodIn_app (goodIn_of _ (by decide +kernel)) ggX1_measureDistances_X1_reverse
theorem dX1_measureDistances_0 : decode cX1_measureDistances 0 = .ok (.aload_n 0, 1) := by decide +kernel
theorem dX1_measureDistances_1 : decode cX1_measureDistances 1 = .ok (.iconst 0, 1) := by decide +kernel
theorem dX1_measureDistances_2 : decode cX1_measureDistances 2 = .ok (.putfield 89, 3) := by decide +kernel
theorem dX1_measureDistances_5 : decode cX1_measureDistances 5 = .ok (.iconst 0, 1) := by decide +kernel
theorem dX1_measureDistances_6 : decode cX1_measureDistances 6 = .ok (.istore_n 1, 1) := by decide +kernel
theorem dX1_measureDistances_7 : decode cX1_measureDistances 7 = .ok (.iload_n 1, 1) := by decide +kernel
theorem dX1_measureDistances_8 : decode cX1_measureDistances 8 = .ok (.aload_n 0, 1) := by decide +kernel
theorem dX1_measureDistances_9 : decode cX1_measureDistances 9 = .ok (.getfield 43, 3) := by decide +kernel
theorem dX1_measureDistances_12 : decode cX1_measureDistances 12 = .ok (.if_icmp .ge 37, 3) := by decide +kernel
theorem dX1_measureDistances_15 : decode cX1_measureDistances 15 = .ok (.aload_n 0, 1) := by decide +kernel
theorem dX1_measureDistances_16 : decode cX1_measureDistances 16 = .ok (.getfield 24, 3) := by decide +kernel
theorem dX1_measureDistances_19 : decode cX1_measureDistances 19 = .ok (.iload_n 1, 1) := by decide +kernel
theorem dX1_measureDistances_20 : decode cX1_measureDistances 20 = .ok (.iconst 0, 1) := by decide +kernel
theorem dX1_measureDistances_21 : decode cX1_measureDistances 21 = .ok (.iastore, 1) := by decide +kernel
theorem dX1_measureDistances_22 : decode cX1_measureDistances 22 = .ok (.aload_n 0, 1) := by decide +kernel
theorem dX1_measureDistances_23 : decode cX1_measureDistances 23 = .ok (.getfield 15, 3) := by decide +kernel
theorem dX1_measureDistances_26 : decode cX1_measureDistances 26 = .ok (.iload_n 1, 1) := by decide +kernel
theorem dX1_measureDistances_27 : decode cX1_measureDistances 27 = .ok (.iaload, 1) := by decide +kernel
theorem dX1_measureDistances_28 : decode cX1_measureDistances 28 = .ok (.ifCond .le 15, 3) := by decide +kernel
theorem dX1_measureDistances_31 : decode cX1_measureDistances 31 = .ok (.aload_n 0, 1) := by decide +kernel
theorem dX1_measureDistances_32 : decode cX1_measureDistances 32 = .ok (.getfield 24, 3) := by decide +kernel
theorem dX1_measureDistances_35 : decode cX1_measureDistances 35 = .ok (.iload_n 1, 1) := by decide +kernel
theorem dX1_measureDistances_36 : decode cX1_measureDistances 36 = .ok (.iconst 1, 1) := by decide +kernel
theorem dX1_measureDistances_37 : decode cX1_measureDistances 37 = .ok (.iastore, 1) := by decide +kernel
theorem dX1_measureDistances_38 : decode cX1_measureDistances 38 = .ok (.aload_n 0, 1) := by decide +kernel
theorem dX1_measureDistances_39 : decode cX1_measureDistances 39 = .ok (.iload_n 1, 1) := by decide +kernel
theorem dX1_measureDistances_40 : decode cX1_measureDistances 40 = .ok (.invokevirtual 92, 3) := by decide +kernel
theorem dX1_measureDistances_43 : decode cX1_measureDistances 43 = .ok (.iinc 1 1, 3) := by decide +kernel
theorem dX1_measureDistances_46 : decode cX1_measureDistances 46 = .ok (.goto (-39), 3) := by decide +kernel
theorem dX1_measureDistances_49 : decode cX1_measureDistances 49 = .ok (.iconst 0, 1) := by decide +kernel
theorem dX1_measureDistances_50 : decode cX1_measureDistances 50 = .ok (.istore_n 1, 1) := by decide +kernel
theorem dX1_measureDistances_51 : decode cX1_measureDistances 51 = .ok (.iload_n 1, 1) := by decide +kernel
theorem dX1_measureDistances_52 : decode cX1_measureDistances 52 = .ok (.aload_n 0, 1) := by decide +kernel
theorem dX1_measureDistances_53 : decode cX1_measureDistances 53 = .ok (.getfield 89, 3) := by decide +kernel
theorem dX1_measureDistances_56 : decode cX1_measureDistances 56 = .ok (.if_icmp .ge 104, 3) := by decide +kernel
theorem dX1_measureDistances_59 : decode cX1_measureDistances 59 = .ok (.iload_n 1, 1) := by decide +kernel
theorem dX1_measureDistances_60 : decode cX1_measureDistances 60 = .ok (.bipush 36, 2) := by decide +kernel
theorem dX1_measureDistances_62 : decode cX1_measureDistances 62 = .ok (.if_icmp .ge 98, 3) := by decide +kernel
theorem dX1_measureDistances_65 : decode cX1_measureDistances 65 = .ok (.aload_n 0, 1) := by decide +kernel
theorem dX1_measureDistances_66 : decode cX1_measureDistances 66 = .ok (.getfield 27, 3) := by decide +kernel
theorem dX1_measureDistances_69 : decode cX1_measureDistances 69 = .ok (.iload_n 1, 1) := by decide +kernel
theorem dX1_measureDistances_70 : decode cX1_measureDistances 70 = .ok (.iaload, 1) := by decide +kernel
theorem dX1_measureDistances_71 : decode cX1_measureDistances 71 = .ok (.istore_n 2, 1) := by decide +kernel
theorem dX1_measureDistances_72 : decode cX1_measureDistances 72 = .ok (.iconst 0, 1) := by decide +kernel
theorem dX1_measureDistances_73 : decode cX1_measureDistances 73 = .ok (.istore_n 3, 1) := by decide +kernel
theorem dX1_measureDistances_74 : decode cX1_measureDistances 74 = .ok (.iload_n 3, 1) := by decide +kernel
theorem dX1_measureDistances_75 : decode cX1_measureDistances 75 = .ok (.bipush 8, 2) := by decide +kernel
theorem dX1_measureDistances_77 : decode cX1_measureDistances 77 = .ok (.if_icmp .ge 77, 3) := by decide +kernel
theorem dX1_measureDistances_80 : decode cX1_measureDistances 80 = .ok (.aload_n 0, 1) := by decide +kernel
theorem dX1_measureDistances_81 : decode cX1_measureDistances 81 = .ok (.getfield 18, 3) := by decide +kernel
theorem dX1_measureDistances_84 : decode cX1_measureDistances 84 = .ok (.iload_n 2, 1) := by decide +kernel
theorem dX1_measureDistances_85 : decode cX1_measureDistances 85 = .ok (.bipush 8, 2) := by decide +kernel
theorem dX1_measureDistances_87 : decode cX1_measureDistances 87 = .ok (.imul, 1) := by decide +kernel
theorem dX1_measureDistances_88 : decode cX1_measureDistances 88 = .ok (.iload_n 3, 1) := by decide +kernel
theorem dX1_measureDistances_89 : decode cX1_measureDistances 89 = .ok (.iadd, 1) := by decide +kernel
theorem dX1_measureDistances_90 : decode cX1_measureDistances 90 = .ok (.iaload, 1) := by decide +kernel
theorem dX1_measureDistances_91 : decode cX1_measureDistances 91 = .ok (.istore 4, 2) := by decide +kernel
theorem dX1_measureDistances_93 : decode cX1_measureDistances 93 = .ok (.iload 4, 2) := by decide +kernel
theorem dX1_measureDistances_95 : decode cX1_measureDistances 95 = .ok (.iconst (-1), 1) := by decide +kernel
theorem dX1_measureDistances_96 : decode cX1_measureDistances 96 = .ok (.if_icmp .eq 52, 3) := by decide +kernel
theorem dX1_measureDistances_99 : decode cX1_measureDistances 99 = .ok (.aload_n 0, 1) := by decide +kernel
theorem dX1_measureDistances_100 : decode cX1_measureDistances 100 = .ok (.getfield 24, 3) := by decide +kernel
theorem dX1_measureDistances_103 : decode cX1_measureDistances 103 = .ok (.iload 4, 2) := by decide +kernel
theorem dX1_measureDistances_105 : decode cX1_measureDistances 105 = .ok (.iaload, 1) := by decide +kernel
theorem dX1_measureDistances_106 : decode cX1_measureDistances 106 = .ok (.ifCond .ne 42, 3) := by decide +kernel
theorem dX1_measureDistances_109 : decode cX1_measureDistances 109 = .ok (.aload_n 0, 1) := by decide +kernel
theorem dX1_measureDistances_110 : decode cX1_measureDistances 110 = .ok (.getfield 21, 3) := by decide +kernel
theorem dX1_measureDistances_113 : decode cX1_measureDistances 113 = .ok (.iload 4, 2) := by decide +kernel
theorem dX1_measureDistances_115 : decode cX1_measureDistances 115 = .ok (.bipush 8, 2) := by decide +kernel
theorem dX1_measureDistances_117 : decode cX1_measureDistances 117 = .ok (.imul, 1) := by decide +kernel
theorem dX1_measureDistances_118 : decode cX1_measureDistances 118 = .ok (.iload_n 3, 1) := by decide +kernel
theorem dX1_measureDistances_119 : decode cX1_measureDistances 119 = .ok (.invokestatic 78, 3) := by decide +kernel
theorem dX1_measureDistances_122 : decode cX1_measureDistances 122 = .ok (.iadd, 1) := by decide +kernel
theorem dX1_measureDistances_123 : decode cX1_measureDistances 123 = .ok (.iaload, 1) := by decide +kernel
theorem dX1_measureDistances_124 : decode cX1_measureDistances 124 = .ok (.ifCond .le 24, 3) := by decide +kernel
theorem dX1_measureDistances_127 : decode cX1_measureDistances 127 = .ok (.aload_n 0, 1) := by decide +kernel
theorem dX1_measureDistances_128 : decode cX1_measureDistances 128 = .ok (.getfield 24, 3) := by decide +kernel
theorem dX1_measureDistances_131 : decode cX1_measureDistances 131 = .ok (.iload 4, 2) := by decide +kernel
theorem dX1_measureDistances_133 : decode cX1_measureDistances 133 = .ok (.aload_n 0, 1) := by decide +kernel
theorem dX1_measureDistances_134 : decode cX1_measureDistances 134 = .ok (.getfield 24, 3) := by decide +kernel
theorem dX1_measureDistances_137 : decode cX1_measureDistances 137 = .ok (.iload_n 2, 1) := by decide +kernel
theorem dX1_measureDistances_138 : decode cX1_measureDistances 138 = .ok (.iaload, 1) := by decide +kernel
theorem dX1_measureDistances_139 : decode cX1_measureDistances 139 = .ok (.iconst 1, 1) := by decide +kernel
theorem dX1_measureDistances_140 : decode cX1_measureDistances 140 = .ok (.iadd, 1) := by decide +kernel
theorem dX1_measureDistances_141 : decode cX1_measureDistances 141 = .ok (.iastore, 1) := by decide +kernel
theorem dX1_measureDistances_142 : decode cX1_measureDistances 142 = .ok (.aload_n 0, 1) := by decide +kernel
theorem dX1_measureDistances_143 : decode cX1_measureDistances 143 = .ok (.iload 4, 2) := by decide +kernel
theorem dX1_measureDistances_145 : decode cX1_measureDistances 145 = .ok (.invokevirtual 92, 3) := by decide +kernel
theorem dX1_measureDistances_148 : decode cX1_measureDistances 148 = .ok (.iinc 3 1, 3) := by decide +kernel
theorem dX1_measureDistances_151 : decode cX1_measureDistances 151 = .ok (.goto (-77), 3) := by decide +kernel
theorem dX1_measureDistances_154 : decode cX1_measureDistances 154 = .ok (.iinc 1 1, 3) := by decide +kernel
theorem dX1_measureDistances_157 : decode cX1_measureDistances 157 = .ok (.goto (-106), 3) := by decide +kernel
theorem dX1_measureDistances_160 : decode cX1_measureDistances 160 = .ok (.return_, 1) := by decide +kernel
theorem dX1_enqueue_0 : decode cX1_enqueue 0 = .ok (.aload_n 0, 1) := by decide +kernel
theorem dX1_enqueue_1 : decode cX1_enqueue 1 = .ok (.getfield 89, 3) := by decide +kernel
theorem dX1_enqueue_4 : decode cX1_enqueue 4 = .ok (.aload_n 0, 1) := by decide +kernel
theorem dX1_enqueue_5 : decode cX1_enqueue 5 = .ok (.getfield 27, 3) := by decide +kernel
theorem dX1_enqueue_8 : decode cX1_enqueue 8 = .ok (.arraylength, 1) := by decide +kernel
theorem dX1_enqueue_9 : decode cX1_enqueue 9 = .ok (.if_icmp .ge 23, 3) := by decide +kernel
theorem dX1_enqueue_12 : decode cX1_enqueue 12 = .ok (.aload_n 0, 1) := by decide +kernel
theorem dX1_enqueue_13 : decode cX1_enqueue 13 = .ok (.getfield 27, 3) := by decide +kernel
theorem dX1_enqueue_16 : decode cX1_enqueue 16 = .ok (.aload_n 0, 1) := by decide +kernel
theorem dX1_enqueue_17 : decode cX1_enqueue 17 = .ok (.getfield 89, 3) := by decide +kernel
theorem dX1_enqueue_20 : decode cX1_enqueue 20 = .ok (.iload_n 1, 1) := by decide +kernel
theorem dX1_enqueue_21 : decode cX1_enqueue 21 = .ok (.iastore, 1) := by decide +kernel
theorem dX1_enqueue_22 : decode cX1_enqueue 22 = .ok (.aload_n 0, 1) := by decide +kernel
theorem dX1_enqueue_23 : decode cX1_enqueue 23 = .ok (.dup, 1) := by decide +kernel
theorem dX1_enqueue_24 : decode cX1_enqueue 24 = .ok (.getfield 89, 3) := by decide +kernel
theorem dX1_enqueue_27 : decode cX1_enqueue 27 = .ok (.iconst 1, 1) := by decide +kernel
theorem dX1_enqueue_28 : decode cX1_enqueue 28 = .ok (.iadd, 1) := by decide +kernel
theorem dX1_enqueue_29 : decode cX1_enqueue 29 = .ok (.putfield 89, 3) := by decide +kernel
theorem dX1_enqueue_32 : decode cX1_enqueue 32 = .ok (.return_, 1) := by decide +kernel
set_option maxRecDepth 20000 in
theorem ggX1_send_X1_isNext : GoodIn wsX1_send wsX1_isNext := goodIn_r _ [13, 1, 19, 20, 21, 22, 23, 24, 25, 26] (by decide +kernel) (by decide +kernel)
set_option maxRecDepth 20000 in
theorem gX1_send_X1_isNext : GoodIn wsX1_send (wsV RX1 101 RX1 yX1_isNext wsX1_isNext) := goodIn_app (goodIn_of _ (by decide +kernel)) ggX1_send_X1_isNext
set_option maxRecDepth 20000 in
theorem ggX1_send_X1_send : GoodIn wsX1_send wsX1_send := goodIn_r _ [0, 1, 2, 3, 4, 5, 6, 7, 8, 9, 10, 11, 12, 13, 14, 15, 16, 17, 18, 19, 20, 21, 22, 23, 24, 25, 26] (by decide +kernel) (by decide +kernel)
set_option maxRecDepth 20000 in
theorem gX1_send_X1_send : GoodIn wsX1_send (va_wsS RX1 85 yX1_send wsX1_send) := goodIn_app (goodIn_of _ (by decide +kernel)) ggX1_send_X1_send
set_option maxRecDepth 20000 in
theorem ggX1_send_X1_reverse : GoodIn wsX1_send wsX1_reverse := goodIn_r _ [18] (by decide +kernel) (by decide +kernel)
set_option maxRecDepth 20000 in
theorem gX1_send_X1_reverse : GoodIn wsX1_send (va_wsS RX1 78 yX1_reverse wsX1_reverse) := goodIn_app (goodIn_of _ (by decide +kernel)) ggX1_send_X1_reverse
theorem dX1_send_0 : decode cX1_send 0 = .ok (.iload_n 3, 1) := by decide +kernel
theorem dX1_send_1 : decode cX1_send 1 = .ok (.bipush 36, 2) := by decide +kernel
theorem dX1_send_3 : decode cX1_send 3 = .ok (.if_icmp .le 5, 3) := by decide +kernel
theorem dX1_send_6 : decode cX1_send 6 = .ok (.iconst 0, 1) := by decide +kernel
theorem dX1_send_7 : decode cX1_send 7 = .ok (.ireturn, 1) := by decide +kernel
theorem dX1_send_8 : decode cX1_send 8 = .ok (.iconst 0, 1) := by decide +kernel
theorem dX1_send_9 : decode cX1_send 9 = .ok (.istore 4, 2) := by decide +kernel
theorem dX1_send_11 : decode cX1_send 11 = .ok (.aload_n 0, 1) := by decide +kernel
theorem dX1_send_12 : decode cX1_send 12 = .ok (.getfield 24, 3) := by decide +kernel
theorem dX1_send_15 : decode cX1_send 15 = .ok (.iload_n 1, 1) := by decide +kernel
theorem dX1_send_16 : decode cX1_send 16 = .ok (.iaload, 1) := by decide +kernel
theorem dX1_send_17 : decode cX1_send 17 = .ok (.iconst 1, 1) := by decide +kernel
theorem dX1_send_18 : decode cX1_send 18 = .ok (.if_icmp .ne 26, 3) := by decide +kernel
theorem dX1_send_21 : decode cX1_send 21 = .ok (.iload_n 2, 1) := by decide +kernel
theorem dX1_send_22 : decode cX1_send 22 = .ok (.aload_n 0, 1) := by decide +kernel
theorem dX1_send_23 : decode cX1_send 23 = .ok (.getfield 15, 3) := by decide +kernel
theorem dX1_send_26 : decode cX1_send 26 = .ok (.iload_n 1, 1) := by decide +kernel
theorem dX1_send_27 : decode cX1_send 27 = .ok (.iaload, 1) := by decide +kernel
theorem dX1_send_28 : decode cX1_send 28 = .ok (.invokestatic 96, 3) := by decide +kernel
theorem dX1_send_31 : decode cX1_send 31 = .ok (.istore 4, 2) := by decide +kernel
theorem dX1_send_33 : decode cX1_send 33 = .ok (.aload_n 0, 1) := by decide +kernel
theorem dX1_send_34 : decode cX1_send 34 = .ok (.getfield 15, 3) := by decide +kernel
theorem dX1_send_37 : decode cX1_send 37 = .ok (.iload_n 1, 1) := by decide +kernel
theorem dX1_send_38 : decode cX1_send 38 = .ok (.dup2, 1) := by decide +kernel
theorem dX1_send_39 : decode cX1_send 39 = .ok (.iaload, 1) := by decide +kernel
theorem dX1_send_40 : decode cX1_send 40 = .ok (.iload 4, 2) := by decide +kernel
theorem dX1_send_42 : decode cX1_send 42 = .ok (.isub, 1) := by decide +kernel
theorem dX1_send_43 : decode cX1_send 43 = .ok (.iastore, 1) := by decide +kernel
theorem dX1_send_44 : decode cX1_send 44 = .ok (.iconst 0, 1) := by decide +kernel
theorem dX1_send_45 : decode cX1_send 45 = .ok (.istore 5, 2) := by decide +kernel
theorem dX1_send_47 : decode cX1_send 47 = .ok (.iload 5, 2) := by decide +kernel
theorem dX1_send_49 : decode cX1_send 49 = .ok (.bipush 8, 2) := by decide +kernel
theorem dX1_send_51 : decode cX1_send 51 = .ok (.if_icmp .ge 124, 3) := by decide +kernel
theorem dX1_send_54 : decode cX1_send 54 = .ok (.iload 4, 2) := by decide +kernel
theorem dX1_send_56 : decode cX1_send 56 = .ok (.iload_n 2, 1) := by decide +kernel
theorem dX1_send_57 : decode cX1_send 57 = .ok (.if_icmp .ge 118, 3) := by decide +kernel
theorem dX1_send_60 : decode cX1_send 60 = .ok (.iload_n 1, 1) := by decide +kernel
theorem dX1_send_61 : decode cX1_send 61 = .ok (.bipush 8, 2) := by decide +kernel
theorem dX1_send_63 : decode cX1_send 63 = .ok (.imul, 1) := by decide +kernel
theorem dX1_send_64 : decode cX1_send 64 = .ok (.iload 5, 2) := by decide +kernel
theorem dX1_send_66 : decode cX1_send 66 = .ok (.iadd, 1) := by decide +kernel
theorem dX1_send_67 : decode cX1_send 67 = .ok (.istore 6, 2) := by decide +kernel
theorem dX1_send_69 : decode cX1_send 69 = .ok (.aload_n 0, 1) := by decide +kernel
theorem dX1_send_70 : decode cX1_send 70 = .ok (.getfield 18, 3) := by decide +kernel
theorem dX1_send_73 : decode cX1_send 73 = .ok (.iload 6, 2) := by decide +kernel
theorem dX1_send_75 : decode cX1_send 75 = .ok (.iaload, 1) := by decide +kernel
theorem dX1_send_76 : decode cX1_send 76 = .ok (.istore 7, 2) := by decide +kernel
theorem dX1_send_78 : decode cX1_send 78 = .ok (.iload 7, 2) := by decide +kernel
theorem dX1_send_80 : decode cX1_send 80 = .ok (.iconst (-1), 1) := by decide +kernel
theorem dX1_send_81 : decode cX1_send 81 = .ok (.if_icmp .eq 88, 3) := by decide +kernel
theorem dX1_send_84 : decode cX1_send 84 = .ok (.aload_n 0, 1) := by decide +kernel
theorem dX1_send_85 : decode cX1_send 85 = .ok (.getfield 21, 3) := by decide +kernel
theorem dX1_send_88 : decode cX1_send 88 = .ok (.iload 6, 2) := by decide +kernel
theorem dX1_send_90 : decode cX1_send 90 = .ok (.iaload, 1) := by decide +kernel
theorem dX1_send_91 : decode cX1_send 91 = .ok (.ifCond .le 78, 3) := by decide +kernel
theorem dX1_send_94 : decode cX1_send 94 = .ok (.aload_n 0, 1) := by decide +kernel
theorem dX1_send_95 : decode cX1_send 95 = .ok (.iload_n 1, 1) := by decide +kernel
theorem dX1_send_96 : decode cX1_send 96 = .ok (.iload 7, 2) := by decide +kernel
theorem dX1_send_98 : decode cX1_send 98 = .ok (.invokevirtual 101, 3) := by decide +kernel
theorem dX1_send_101 : decode cX1_send 101 = .ok (.ifCond .eq 68, 3) := by decide +kernel
theorem dX1_send_104 : decode cX1_send 104 = .ok (.aload_n 0, 1) := by decide +kernel
theorem dX1_send_105 : decode cX1_send 105 = .ok (.iload 7, 2) := by decide +kernel
theorem dX1_send_107 : decode cX1_send 107 = .ok (.iload_n 2, 1) := by decide +kernel
theorem dX1_send_108 : decode cX1_send 108 = .ok (.iload 4, 2) := by decide +kernel
theorem dX1_send_110 : decode cX1_send 110 = .ok (.isub, 1) := by decide +kernel
theorem dX1_send_111 : decode cX1_send 111 = .ok (.aload_n 0, 1) := by decide +kernel
theorem dX1_send_112 : decode cX1_send 112 = .ok (.getfield 21, 3) := by decide +kernel
theorem dX1_send_115 : decode cX1_send 115 = .ok (.iload 6, 2) := by decide +kernel
theorem dX1_send_117 : decode cX1_send 117 = .ok (.iaload, 1) := by decide +kernel
theorem dX1_send_118 : decode cX1_send 118 = .ok (.invokestatic 96, 3) := by decide +kernel
theorem dX1_send_121 : decode cX1_send 121 = .ok (.iload_n 3, 1) := by decide +kernel
theorem dX1_send_122 : decode cX1_send 122 = .ok (.iconst 1, 1) := by decide +kernel
theorem dX1_send_123 : decode cX1_send 123 = .ok (.iadd, 1) := by decide +kernel
theorem dX1_send_124 : decode cX1_send 124 = .ok (.invokestatic 85, 3) := by decide +kernel
theorem dX1_send_127 : decode cX1_send 127 = .ok (.istore 8, 2) := by decide +kernel
theorem dX1_send_129 : decode cX1_send 129 = .ok (.aload_n 0, 1) := by decide +kernel
theorem dX1_send_130 : decode cX1_send 130 = .ok (.getfield 21, 3) := by decide +kernel
theorem dX1_send_133 : decode cX1_send 133 = .ok (.iload 6, 2) := by decide +kernel
theorem dX1_send_135 : decode cX1_send 135 = .ok (.dup2, 1) := by decide +kernel
theorem dX1_send_136 : decode cX1_send 136 = .ok (.iaload, 1) := by decide +kernel
theorem dX1_send_137 : decode cX1_send 137 = .ok (.iload 8, 2) := by decide +kernel
theorem dX1_send_139 : decode cX1_send 139 = .ok (.isub, 1) := by decide +kernel
theorem dX1_send_140 : decode cX1_send 140 = .ok (.iastore, 1) := by decide +kernel
theorem dX1_send_141 : decode cX1_send 141 = .ok (.aload_n 0, 1) := by decide +kernel
theorem dX1_send_142 : decode cX1_send 142 = .ok (.getfield 21, 3) := by decide +kernel
theorem dX1_send_145 : decode cX1_send 145 = .ok (.iload 7, 2) := by decide +kernel
theorem dX1_send_147 : decode cX1_send 147 = .ok (.bipush 8, 2) := by decide +kernel
theorem dX1_send_149 : decode cX1_send 149 = .ok (.imul, 1) := by decide +kernel
theorem dX1_send_150 : decode cX1_send 150 = .ok (.iload 5, 2) := by decide +kernel
theorem dX1_send_152 : decode cX1_send 152 = .ok (.invokestatic 78, 3) := by decide +kernel
theorem dX1_send_155 : decode cX1_send 155 = .ok (.iadd, 1) := by decide +kernel
theorem dX1_send_156 : decode cX1_send 156 = .ok (.dup2, 1) := by decide +kernel
theorem dX1_send_157 : decode cX1_send 157 = .ok (.iaload, 1) := by decide +kernel
theorem dX1_send_158 : decode cX1_send 158 = .ok (.iload 8, 2) := by decide +kernel
theorem dX1_send_160 : decode cX1_send 160 = .ok (.iadd, 1) := by decide +kernel
theorem dX1_send_161 : decode cX1_send 161 = .ok (.iastore, 1) := by decide +kernel
theorem dX1_send_162 : decode cX1_send 162 = .ok (.iload 4, 2) := by decide +kernel
theorem dX1_send_164 : decode cX1_send 164 = .ok (.iload 8, 2) := by decide +kernel
theorem dX1_send_166 : decode cX1_send 166 = .ok (.iadd, 1) := by decide +kernel
theorem dX1_send_167 : decode cX1_send 167 = .ok (.istore 4, 2) := by decide +kernel
theorem dX1_send_169 : decode cX1_send 169 = .ok (.iinc 5 1, 3) := by decide +kernel
theorem dX1_send_172 : decode cX1_send 172 = .ok (.goto (-125), 3) := by decide +kernel
theorem dX1_send_175 : decode cX1_send 175 = .ok (.iload 4, 2) := by decide +kernel
theorem dX1_send_177 : decode cX1_send 177 = .ok (.iload_n 2, 1) := by decide +kernel
theorem dX1_send_178 : decode cX1_send 178 = .ok (.if_icmp .ge 10, 3) := by decide +kernel
theorem dX1_send_181 : decode cX1_send 181 = .ok (.aload_n 0, 1) := by decide +kernel
theorem dX1_send_182 : decode cX1_send 182 = .ok (.getfield 24, 3) := by decide +kernel
theorem dX1_send_185 : decode cX1_send 185 = .ok (.iload_n 1, 1) := by decide +kernel
theorem dX1_send_186 : decode cX1_send 186 = .ok (.iconst 0, 1) := by decide +kernel
theorem dX1_send_187 : decode cX1_send 187 = .ok (.iastore, 1) := by decide +kernel
theorem dX1_send_188 : decode cX1_send 188 = .ok (.iload 4, 2) := by decide +kernel
theorem dX1_send_190 : decode cX1_send 190 = .ok (.ireturn, 1) := by decide +kernel
theorem dX1_isNext_0 : decode cX1_isNext 0 = .ok (.aload_n 0, 1) := by decide +kernel
theorem dX1_isNext_1 : decode cX1_isNext 1 = .ok (.getfield 24, 3) := by decide +kernel
theorem dX1_isNext_4 : decode cX1_isNext 4 = .ok (.iload_n 2, 1) := by decide +kernel
theorem dX1_isNext_5 : decode cX1_isNext 5 = .ok (.iaload, 1) := by decide +kernel
theorem dX1_isNext_6 : decode cX1_isNext 6 = .ok (.ifCond .le 24, 3) := by decide +kernel
theorem dX1_isNext_9 : decode cX1_isNext 9 = .ok (.aload_n 0, 1) := by decide +kernel
theorem dX1_isNext_10 : decode cX1_isNext 10 = .ok (.getfield 24, 3) := by decide +kernel
theorem dX1_isNext_13 : decode cX1_isNext 13 = .ok (.iload_n 2, 1) := by decide +kernel
theorem dX1_isNext_14 : decode cX1_isNext 14 = .ok (.iaload, 1) := by decide +kernel
theorem dX1_isNext_15 : decode cX1_isNext 15 = .ok (.aload_n 0, 1) := by decide +kernel
theorem dX1_isNext_16 : decode cX1_isNext 16 = .ok (.getfield 24, 3) := by decide +kernel
theorem dX1_isNext_19 : decode cX1_isNext 19 = .ok (.iload_n 1, 1) := by decide +kernel
theorem dX1_isNext_20 : decode cX1_isNext 20 = .ok (.iaload, 1) := by decide +kernel
theorem dX1_isNext_21 : decode cX1_isNext 21 = .ok (.iconst 1, 1) := by decide +kernel
theorem dX1_isNext_22 : decode cX1_isNext 22 = .ok (.isub, 1) := by decide +kernel
theorem dX1_isNext_23 : decode cX1_isNext 23 = .ok (.if_icmp .ne 7, 3) := by decide +kernel
theorem dX1_isNext_26 : decode cX1_isNext 26 = .ok (.iconst 1, 1) := by decide +kernel
theorem dX1_isNext_27 : decode cX1_isNext 27 = .ok (.goto 4, 3) := by decide +kernel
theorem dX1_isNext_30 : decode cX1_isNext 30 = .ok (.iconst 0, 1) := by decide +kernel
theorem dX1_isNext_31 : decode cX1_isNext 31 = .ok (.ireturn, 1) := by decide +kernel
set_option maxRecDepth 20000 in
theorem ggX1_leastSet_X1_spread : GoodIn wsX1_leastSet wsX1_spread := goodIn_r _ [7, 8, 1, 9, 10, 11, 12, 13, 14, 15, 16, 17, 6, 18, 19, 20, 21, 22, 23, 24, 25, 26] (by decide +kernel) (by decide +kernel)
set_option maxRecDepth 20000 in
theorem gX1_leastSet_X1_spread : GoodIn wsX1_leastSet (wsV RX1 105 RX1 yX1_spread wsX1_spread) := goodIn_app (goodIn_of _ (by decide +kernel)) ggX1_leastSet_X1_spread
theorem dX1_leastSet_0 : decode cX1_leastSet 0 = .ok (.lconst 0, 1) := by decide +kernel
theorem dX1_leastSet_1 : decode cX1_leastSet 1 = .ok (.lstore_n 1, 1) := by decide +kernel
theorem dX1_leastSet_2 : decode cX1_leastSet 2 = .ok (.iconst 0, 1) := by decide +kernel
theorem dX1_leastSet_3 : decode cX1_leastSet 3 = .ok (.istore_n 3, 1) := by decide +kernel
theorem dX1_leastSet_4 : decode cX1_leastSet 4 = .ok (.iload_n 3, 1) := by decide +kernel
theorem dX1_leastSet_5 : decode cX1_leastSet 5 = .ok (.aload_n 0, 1) := by decide +kernel
theorem dX1_leastSet_6 : decode cX1_leastSet 6 = .ok (.getfield 43, 3) := by decide +kernel
theorem dX1_leastSet_9 : decode cX1_leastSet 9 = .ok (.if_icmp .ge 24, 3) := by decide +kernel
theorem dX1_leastSet_12 : decode cX1_leastSet 12 = .ok (.aload_n 0, 1) := by decide +kernel
theorem dX1_leastSet_13 : decode cX1_leastSet 13 = .ok (.getfield 9, 3) := by decide +kernel
theorem dX1_leastSet_16 : decode cX1_leastSet 16 = .ok (.iload_n 3, 1) := by decide +kernel
theorem dX1_leastSet_17 : decode cX1_leastSet 17 = .ok (.iaload, 1) := by decide +kernel
theorem dX1_leastSet_18 : decode cX1_leastSet 18 = .ok (.ifCond .le 9, 3) := by decide +kernel
theorem dX1_leastSet_21 : decode cX1_leastSet 21 = .ok (.lload_n 1, 1) := by decide +kernel
theorem dX1_leastSet_22 : decode cX1_leastSet 22 = .ok (.lconst 1, 1) := by decide +kernel
theorem dX1_leastSet_23 : decode cX1_leastSet 23 = .ok (.iload_n 3, 1) := by decide +kernel
theorem dX1_leastSet_24 : decode cX1_leastSet 24 = .ok (.lshl, 1) := by decide +kernel
theorem dX1_leastSet_25 : decode cX1_leastSet 25 = .ok (.lor, 1) := by decide +kernel
theorem dX1_leastSet_26 : decode cX1_leastSet 26 = .ok (.lstore_n 1, 1) := by decide +kernel
theorem dX1_leastSet_27 : decode cX1_leastSet 27 = .ok (.iinc 3 1, 3) := by decide +kernel
theorem dX1_leastSet_30 : decode cX1_leastSet 30 = .ok (.goto (-26), 3) := by decide +kernel
theorem dX1_leastSet_33 : decode cX1_leastSet 33 = .ok (.aload_n 0, 1) := by decide +kernel
theorem dX1_leastSet_34 : decode cX1_leastSet 34 = .ok (.lload_n 1, 1) := by decide +kernel
theorem dX1_leastSet_35 : decode cX1_leastSet 35 = .ok (.invokevirtual 105, 3) := by decide +kernel
theorem dX1_leastSet_38 : decode cX1_leastSet 38 = .ok (.lreturn, 1) := by decide +kernel
set_option maxRecDepth 20000 in
theorem ggX1_greatestSet_X1_measureDistances : GoodIn wsX1_greatestSet wsX1_measureDistances := goodIn_r _ [7, 8, 1, 2, 9, 10, 11, 12, 13, 14, 15, 6, 16, 17, 18, 19, 20, 21, 22, 23, 24, 25, 26, 27] (by decide +kernel) (by decide +kernel)
set_option maxRecDepth 20000 in
theorem gX1_greatestSet_X1_measureDistances : GoodIn wsX1_greatestSet (wsV RX1 82 RX1 yX1_measureDistances wsX1_measureDistances) := goodIn_app (goodIn_of _ (by decide +kernel)) ggX1_greatestSet_X1_measureDistances
theorem dX1_greatestSet_0 : decode cX1_greatestSet 0 = .ok (.aload_n 0, 1) := by decide +kernel
theorem dX1_greatestSet_1 : decode cX1_greatestSet 1 = .ok (.invokevirtual 82, 3) := by decide +kernel
theorem dX1_greatestSet_4 : decode cX1_greatestSet 4 = .ok (.lconst 0, 1) := by decide +kernel
theorem dX1_greatestSet_5 : decode cX1_greatestSet 5 = .ok (.lstore_n 1, 1) := by decide +kernel
theorem dX1_greatestSet_6 : decode cX1_greatestSet 6 = .ok (.iconst 0, 1) := by decide +kernel
theorem dX1_greatestSet_7 : decode cX1_greatestSet 7 = .ok (.istore_n 3, 1) := by decide +kernel
theorem dX1_greatestSet_8 : decode cX1_greatestSet 8 = .ok (.iload_n 3, 1) := by decide +kernel
theorem dX1_greatestSet_9 : decode cX1_greatestSet 9 = .ok (.aload_n 0, 1) := by decide +kernel
theorem dX1_greatestSet_10 : decode cX1_greatestSet 10 = .ok (.getfield 43, 3) := by decide +kernel
theorem dX1_greatestSet_13 : decode cX1_greatestSet 13 = .ok (.if_icmp .ge 24, 3) := by decide +kernel
theorem dX1_greatestSet_16 : decode cX1_greatestSet 16 = .ok (.aload_n 0, 1) := by decide +kernel
theorem dX1_greatestSet_17 : decode cX1_greatestSet 17 = .ok (.getfield 24, 3) := by decide +kernel
theorem dX1_greatestSet_20 : decode cX1_greatestSet 20 = .ok (.iload_n 3, 1) := by decide +kernel
theorem dX1_greatestSet_21 : decode cX1_greatestSet 21 = .ok (.iaload, 1) := by decide +kernel
theorem dX1_greatestSet_22 : decode cX1_greatestSet 22 = .ok (.ifCond .ne 9, 3) := by decide +kernel
theorem dX1_greatestSet_25 : decode cX1_greatestSet 25 = .ok (.lload_n 1, 1) := by decide +kernel
theorem dX1_greatestSet_26 : decode cX1_greatestSet 26 = .ok (.lconst 1, 1) := by decide +kernel
theorem dX1_greatestSet_27 : decode cX1_greatestSet 27 = .ok (.iload_n 3, 1) := by decide +kernel
theorem dX1_greatestSet_28 : decode cX1_greatestSet 28 = .ok (.lshl, 1) := by decide +kernel
theorem dX1_greatestSet_29 : decode cX1_greatestSet 29 = .ok (.lor, 1) := by decide +kernel
theorem dX1_greatestSet_30 : decode cX1_greatestSet 30 = .ok (.lstore_n 1, 1) := by decide +kernel
theorem dX1_greatestSet_31 : decode cX1_greatestSet 31 = .ok (.iinc 3 1, 3) := by decide +kernel
theorem dX1_greatestSet_34 : decode cX1_greatestSet 34 = .ok (.goto (-26), 3) := by decide +kernel
theorem dX1_greatestSet_37 : decode cX1_greatestSet 37 = .ok (.lload_n 1, 1) := by decide +kernel
theorem dX1_greatestSet_38 : decode cX1_greatestSet 38 = .ok (.lreturn, 1) := by decide +kernel
set_option maxRecDepth 20000 in
theorem ggX1_spread_X4_has : GoodIn wsX1_spread wsX4_has := goodIn_r _ [8] (by decide +kernel) (by decide +kernel)
set_option maxRecDepth 20000 in
theorem gX1_spread_X4_has_n109 : GoodIn wsX1_spread (wsX4_has) := ggX1_spread_X4_has
set_option maxRecDepth 20000 in
theorem ggX1_spread_X1_enqueue : GoodIn wsX1_spread wsX1_enqueue := goodIn_r _ [13, 1, 3, 14, 15, 16, 17, 18, 19, 20, 21] (by decide +kernel) (by decide +kernel)
set_option maxRecDepth 20000 in
theorem gX1_spread_X1_enqueue : GoodIn wsX1_spread (wsV RX1 92 RX1 yX1_enqueue wsX1_enqueue) := goodIn_app (goodIn_of _ (by decide +kernel)) ggX1_spread_X1_enqueue
theorem dX1_spread_0 : decode cX1_spread 0 = .ok (.lload_n 1, 1) := by decide +kernel
theorem dX1_spread_1 : decode cX1_spread 1 = .ok (.lstore_n 3, 1) := by decide +kernel
theorem dX1_spread_2 : decode cX1_spread 2 = .ok (.aload_n 0, 1) := by decide +kernel
theorem dX1_spread_3 : decode cX1_spread 3 = .ok (.iconst 0, 1) := by decide +kernel
theorem dX1_spread_4 : decode cX1_spread 4 = .ok (.putfield 89, 3) := by decide +kernel
theorem dX1_spread_7 : decode cX1_spread 7 = .ok (.iconst 0, 1) := by decide +kernel
theorem dX1_spread_8 : decode cX1_spread 8 = .ok (.istore 5, 2) := by decide +kernel
theorem dX1_spread_10 : decode cX1_spread 10 = .ok (.iload 5, 2) := by decide +kernel
theorem dX1_spread_12 : decode cX1_spread 12 = .ok (.aload_n 0, 1) := by decide +kernel
theorem dX1_spread_13 : decode cX1_spread 13 = .ok (.getfield 43, 3) := by decide +kernel
theorem dX1_spread_16 : decode cX1_spread 16 = .ok (.if_icmp .ge 24, 3) := by decide +kernel
theorem dX1_spread_19 : decode cX1_spread 19 = .ok (.lload_n 1, 1) := by decide +kernel
theorem dX1_spread_20 : decode cX1_spread 20 = .ok (.iload 5, 2) := by decide +kernel
theorem dX1_spread_22 : decode cX1_spread 22 = .ok (.invokestatic 109, 3) := by decide +kernel
theorem dX1_spread_25 : decode cX1_spread 25 = .ok (.ifCond .eq 9, 3) := by decide +kernel
theorem dX1_spread_28 : decode cX1_spread 28 = .ok (.aload_n 0, 1) := by decide +kernel
theorem dX1_spread_29 : decode cX1_spread 29 = .ok (.iload 5, 2) := by decide +kernel
theorem dX1_spread_31 : decode cX1_spread 31 = .ok (.invokevirtual 92, 3) := by decide +kernel
theorem dX1_spread_34 : decode cX1_spread 34 = .ok (.iinc 5 1, 3) := by decide +kernel
theorem dX1_spread_37 : decode cX1_spread 37 = .ok (.goto (-27), 3) := by decide +kernel
theorem dX1_spread_40 : decode cX1_spread 40 = .ok (.iconst 0, 1) := by decide +kernel
theorem dX1_spread_41 : decode cX1_spread 41 = .ok (.istore 5, 2) := by decide +kernel
theorem dX1_spread_43 : decode cX1_spread 43 = .ok (.iload 5, 2) := by decide +kernel
theorem dX1_spread_45 : decode cX1_spread 45 = .ok (.aload_n 0, 1) := by decide +kernel
theorem dX1_spread_46 : decode cX1_spread 46 = .ok (.getfield 89, 3) := by decide +kernel
theorem dX1_spread_49 : decode cX1_spread 49 = .ok (.if_icmp .ge 94, 3) := by decide +kernel
theorem dX1_spread_52 : decode cX1_spread 52 = .ok (.iload 5, 2) := by decide +kernel
theorem dX1_spread_54 : decode cX1_spread 54 = .ok (.bipush 36, 2) := by decide +kernel
theorem dX1_spread_56 : decode cX1_spread 56 = .ok (.if_icmp .ge 87, 3) := by decide +kernel
theorem dX1_spread_59 : decode cX1_spread 59 = .ok (.iconst 0, 1) := by decide +kernel
theorem dX1_spread_60 : decode cX1_spread 60 = .ok (.istore 6, 2) := by decide +kernel
theorem dX1_spread_62 : decode cX1_spread 62 = .ok (.iload 6, 2) := by decide +kernel
theorem dX1_spread_64 : decode cX1_spread 64 = .ok (.bipush 8, 2) := by decide +kernel
theorem dX1_spread_66 : decode cX1_spread 66 = .ok (.if_icmp .ge 71, 3) := by decide +kernel
theorem dX1_spread_69 : decode cX1_spread 69 = .ok (.aload_n 0, 1) := by decide +kernel
theorem dX1_spread_70 : decode cX1_spread 70 = .ok (.getfield 27, 3) := by decide +kernel
theorem dX1_spread_73 : decode cX1_spread 73 = .ok (.iload 5, 2) := by decide +kernel
theorem dX1_spread_75 : decode cX1_spread 75 = .ok (.iaload, 1) := by decide +kernel
theorem dX1_spread_76 : decode cX1_spread 76 = .ok (.bipush 8, 2) := by decide +kernel
theorem dX1_spread_78 : decode cX1_spread 78 = .ok (.imul, 1) := by decide +kernel
theorem dX1_spread_79 : decode cX1_spread 79 = .ok (.iload 6, 2) := by decide +kernel
theorem dX1_spread_81 : decode cX1_spread 81 = .ok (.iadd, 1) := by decide +kernel
theorem dX1_spread_82 : decode cX1_spread 82 = .ok (.istore 7, 2) := by decide +kernel
theorem dX1_spread_84 : decode cX1_spread 84 = .ok (.aload_n 0, 1) := by decide +kernel
theorem dX1_spread_85 : decode cX1_spread 85 = .ok (.getfield 18, 3) := by decide +kernel
theorem dX1_spread_88 : decode cX1_spread 88 = .ok (.iload 7, 2) := by decide +kernel
theorem dX1_spread_90 : decode cX1_spread 90 = .ok (.iaload, 1) := by decide +kernel
theorem dX1_spread_91 : decode cX1_spread 91 = .ok (.istore 8, 2) := by decide +kernel
theorem dX1_spread_93 : decode cX1_spread 93 = .ok (.iload 8, 2) := by decide +kernel
theorem dX1_spread_95 : decode cX1_spread 95 = .ok (.iconst (-1), 1) := by decide +kernel
theorem dX1_spread_96 : decode cX1_spread 96 = .ok (.if_icmp .eq 35, 3) := by decide +kernel
theorem dX1_spread_99 : decode cX1_spread 99 = .ok (.aload_n 0, 1) := by decide +kernel
theorem dX1_spread_100 : decode cX1_spread 100 = .ok (.getfield 21, 3) := by decide +kernel
theorem dX1_spread_103 : decode cX1_spread 103 = .ok (.iload 7, 2) := by decide +kernel
theorem dX1_spread_105 : decode cX1_spread 105 = .ok (.iaload, 1) := by decide +kernel
theorem dX1_spread_106 : decode cX1_spread 106 = .ok (.ifCond .le 25, 3) := by decide +kernel
theorem dX1_spread_109 : decode cX1_spread 109 = .ok (.lload_n 3, 1) := by decide +kernel
theorem dX1_spread_110 : decode cX1_spread 110 = .ok (.iload 8, 2) := by decide +kernel
theorem dX1_spread_112 : decode cX1_spread 112 = .ok (.invokestatic 109, 3) := by decide +kernel
theorem dX1_spread_115 : decode cX1_spread 115 = .ok (.ifCond .ne 16, 3) := by decide +kernel
theorem dX1_spread_118 : decode cX1_spread 118 = .ok (.lload_n 3, 1) := by decide +kernel
theorem dX1_spread_119 : decode cX1_spread 119 = .ok (.lconst 1, 1) := by decide +kernel
theorem dX1_spread_120 : decode cX1_spread 120 = .ok (.iload 8, 2) := by decide +kernel
theorem dX1_spread_122 : decode cX1_spread 122 = .ok (.lshl, 1) := by decide +kernel
theorem dX1_spread_123 : decode cX1_spread 123 = .ok (.lor, 1) := by decide +kernel
theorem dX1_spread_124 : decode cX1_spread 124 = .ok (.lstore_n 3, 1) := by decide +kernel
theorem dX1_spread_125 : decode cX1_spread 125 = .ok (.aload_n 0, 1) := by decide +kernel
theorem dX1_spread_126 : decode cX1_spread 126 = .ok (.iload 8, 2) := by decide +kernel
theorem dX1_spread_128 : decode cX1_spread 128 = .ok (.invokevirtual 92, 3) := by decide +kernel
theorem dX1_spread_131 : decode cX1_spread 131 = .ok (.iinc 6 1, 3) := by decide +kernel
theorem dX1_spread_134 : decode cX1_spread 134 = .ok (.goto (-72), 3) := by decide +kernel
theorem dX1_spread_137 : decode cX1_spread 137 = .ok (.iinc 5 1, 3) := by decide +kernel
theorem dX1_spread_140 : decode cX1_spread 140 = .ok (.goto (-97), 3) := by decide +kernel
theorem dX1_spread_143 : decode cX1_spread 143 = .ok (.lload_n 3, 1) := by decide +kernel
theorem dX1_spread_144 : decode cX1_spread 144 = .ok (.lreturn, 1) := by decide +kernel
set_option maxRecDepth 20000 in
theorem ggX1_alwaysParts_X1_leastSet : GoodIn wsX1_alwaysParts wsX1_leastSet := goodIn_r _ [5, 6, 7, 8, 9, 10, 4, 11, 12, 13, 14, 15, 16, 17, 18, 19, 20, 21, 22, 36, 37, 38, 39, 40, 41, 42, 43] (by decide +kernel) (by decide +kernel)
set_option maxRecDepth 20000 in
theorem gX1_alwaysParts_X1_leastSet : GoodIn wsX1_alwaysParts (wsV RX1 113 RX1 yX1_leastSet wsX1_leastSet) := goodIn_app (goodIn_of _ (by decide +kernel)) ggX1_alwaysParts_X1_leastSet
set_option maxRecDepth 20000 in
theorem ggX1_alwaysParts_X4_has : GoodIn wsX1_alwaysParts wsX4_has := goodIn_r _ [18] (by decide +kernel) (by decide +kernel)
set_option maxRecDepth 20000 in
theorem gX1_alwaysParts_X4_has_n109 : GoodIn wsX1_alwaysParts (wsX4_has) := ggX1_alwaysParts_X4_has
set_option maxRecDepth 20000 in
theorem ggX1_alwaysParts_X1_greatestSet : GoodIn wsX1_alwaysParts wsX1_greatestSet := goodIn_r _ [26, 6, 27, 28, 29, 30, 4, 31, 12, 32, 13, 14, 15, 19, 20, 21, 22, 33, 34, 35, 36, 37, 38, 39, 40, 41, 42, 43] (by decide +kernel) (by decide +kernel)
set_option maxRecDepth 20000 in
theorem gX1_alwaysParts_X1_greatestSet : GoodIn wsX1_alwaysParts (wsV RX1 117 RX1 yX1_greatestSet wsX1_greatestSet) := goodIn_app (goodIn_of _ (by decide +kernel)) ggX1_alwaysParts_X1_greatestSet
theorem dX1_alwaysParts_0 : decode cX1_alwaysParts 0 = .ok (.aload_n 0, 1) := by decide +kernel
theorem dX1_alwaysParts_1 : decode cX1_alwaysParts 1 = .ok (.invokevirtual 113, 3) := by decide +kernel
theorem dX1_alwaysParts_4 : decode cX1_alwaysParts 4 = .ok (.iload_n 1, 1) := by decide +kernel
theorem dX1_alwaysParts_5 : decode cX1_alwaysParts 5 = .ok (.invokestatic 109, 3) := by decide +kernel
theorem dX1_alwaysParts_8 : decode cX1_alwaysParts 8 = .ok (.ifCond .eq 18, 3) := by decide +kernel
theorem dX1_alwaysParts_11 : decode cX1_alwaysParts 11 = .ok (.aload_n 0, 1) := by decide +kernel
theorem dX1_alwaysParts_12 : decode cX1_alwaysParts 12 = .ok (.invokevirtual 117, 3) := by decide +kernel
theorem dX1_alwaysParts_15 : decode cX1_alwaysParts 15 = .ok (.iload_n 2, 1) := by decide +kernel
theorem dX1_alwaysParts_16 : decode cX1_alwaysParts 16 = .ok (.invokestatic 109, 3) := by decide +kernel
theorem dX1_alwaysParts_19 : decode cX1_alwaysParts 19 = .ok (.ifCond .ne 7, 3) := by decide +kernel
theorem dX1_alwaysParts_22 : decode cX1_alwaysParts 22 = .ok (.iconst 1, 1) := by decide +kernel
theorem dX1_alwaysParts_23 : decode cX1_alwaysParts 23 = .ok (.goto 4, 3) := by decide +kernel
theorem dX1_alwaysParts_26 : decode cX1_alwaysParts 26 = .ok (.iconst 0, 1) := by decide +kernel
theorem dX1_alwaysParts_27 : decode cX1_alwaysParts 27 = .ok (.ireturn, 1) := by decide +kernel
set_option maxRecDepth 20000 in
theorem ggX1_mayPart_X1_greatestSet : GoodIn wsX1_mayPart wsX1_greatestSet := goodIn_r _ [5, 6, 7, 8, 9, 10, 4, 11, 12, 13, 14, 15, 16, 17, 18, 19, 20, 21, 22, 23, 36, 37, 38, 39, 40, 41, 42, 43] (by decide +kernel) (by decide +kernel)
set_option maxRecDepth 20000 in
theorem gX1_mayPart_X1_greatestSet : GoodIn wsX1_mayPart (wsV RX1 117 RX1 yX1_greatestSet wsX1_greatestSet) := goodIn_app (goodIn_of _ (by decide +kernel)) ggX1_mayPart_X1_greatestSet
set_option maxRecDepth 20000 in
theorem ggX1_mayPart_X4_has : GoodIn wsX1_mayPart wsX4_has := goodIn_r _ [26] (by decide +kernel) (by decide +kernel)
set_option maxRecDepth 20000 in
theorem gX1_mayPart_X4_has_n109 : GoodIn wsX1_mayPart (wsX4_has) := ggX1_mayPart_X4_has
set_option maxRecDepth 20000 in
theorem ggX1_mayPart_X1_leastSet : GoodIn wsX1_mayPart wsX1_leastSet := goodIn_r _ [30, 6, 31, 32, 33, 34, 4, 35, 12, 14, 15, 16, 24, 25, 26, 17, 18, 19, 20, 36, 37, 38, 39, 40, 41, 42, 43] (by decide +kernel) (by decide +kernel)
set_option maxRecDepth 20000 in
theorem gX1_mayPart_X1_leastSet : GoodIn wsX1_mayPart (wsV RX1 113 RX1 yX1_leastSet wsX1_leastSet) := goodIn_app (goodIn_of _ (by decide +kernel)) ggX1_mayPart_X1_leastSet
set_option maxRecDepth 20000 in
theorem ggX1_mayPart_X1_spread : GoodIn wsX1_mayPart wsX1_spread := goodIn_r _ [35, 12, 6, 14, 15, 16, 24, 25, 26, 17, 18, 19, 4, 20, 36, 37, 38, 39, 40, 41, 42, 43] (by decide +kernel) (by decide +kernel)
set_option maxRecDepth 20000 in
theorem gX1_mayPart_X1_spread : GoodIn wsX1_mayPart (wsV RX1 105 RX1 yX1_spread wsX1_spread) := goodIn_app (goodIn_of _ (by decide +kernel)) ggX1_mayPart_X1_spread
theorem dX1_mayPart_0 : decode cX1_mayPart 0 = .ok (.aload_n 0, 1) := by decide +kernel
theorem dX1_mayPart_1 : decode cX1_mayPart 1 = .ok (.invokevirtual 117, 3) := by decide +kernel
theorem dX1_mayPart_4 : decode cX1_mayPart 4 = .ok (.iload_n 1, 1) := by decide +kernel
theorem dX1_mayPart_5 : decode cX1_mayPart 5 = .ok (.invokestatic 109, 3) := by decide +kernel
theorem dX1_mayPart_8 : decode cX1_mayPart 8 = .ok (.ifCond .ne 5, 3) := by decide +kernel
theorem dX1_mayPart_11 : decode cX1_mayPart 11 = .ok (.iconst 0, 1) := by decide +kernel
theorem dX1_mayPart_12 : decode cX1_mayPart 12 = .ok (.ireturn, 1) := by decide +kernel
theorem dX1_mayPart_13 : decode cX1_mayPart 13 = .ok (.aload_n 0, 1) := by decide +kernel
theorem dX1_mayPart_14 : decode cX1_mayPart 14 = .ok (.aload_n 0, 1) := by decide +kernel
theorem dX1_mayPart_15 : decode cX1_mayPart 15 = .ok (.invokevirtual 113, 3) := by decide +kernel
theorem dX1_mayPart_18 : decode cX1_mayPart 18 = .ok (.lconst 1, 1) := by decide +kernel
theorem dX1_mayPart_19 : decode cX1_mayPart 19 = .ok (.iload_n 1, 1) := by decide +kernel
theorem dX1_mayPart_20 : decode cX1_mayPart 20 = .ok (.lshl, 1) := by decide +kernel
theorem dX1_mayPart_21 : decode cX1_mayPart 21 = .ok (.lor, 1) := by decide +kernel
theorem dX1_mayPart_22 : decode cX1_mayPart 22 = .ok (.invokevirtual 105, 3) := by decide +kernel
theorem dX1_mayPart_25 : decode cX1_mayPart 25 = .ok (.iload_n 2, 1) := by decide +kernel
theorem dX1_mayPart_26 : decode cX1_mayPart 26 = .ok (.invokestatic 109, 3) := by decide +kernel
theorem dX1_mayPart_29 : decode cX1_mayPart 29 = .ok (.ifCond .ne 7, 3) := by decide +kernel
theorem dX1_mayPart_32 : decode cX1_mayPart 32 = .ok (.iconst 1, 1) := by decide +kernel
theorem dX1_mayPart_33 : decode cX1_mayPart 33 = .ok (.goto 4, 3) := by decide +kernel
theorem dX1_mayPart_36 : decode cX1_mayPart 36 = .ok (.iconst 0, 1) := by decide +kernel
theorem dX1_mayPart_37 : decode cX1_mayPart 37 = .ok (.ireturn, 1) := by decide +kernel
theorem dX2_init_0 : decode cX2_init 0 = .ok (.aload_n 0, 1) := by decide +kernel
theorem dX2_init_1 : decode cX2_init 1 = .ok (.invokespecial 3, 3) := by decide +kernel
theorem dX2_init_4 : decode cX2_init 4 = .ok (.aload_n 0, 1) := by decide +kernel
theorem dX2_init_5 : decode cX2_init 5 = .ok (.bipush 6, 2) := by decide +kernel
theorem dX2_init_7 : decode cX2_init 7 = .ok (.newarray .int, 2) := by decide +kernel
theorem dX2_init_9 : decode cX2_init 9 = .ok (.dup, 1) := by decide +kernel
theorem dX2_init_10 : decode cX2_init 10 = .ok (.iconst 0, 1) := by decide +kernel
theorem dX2_init_11 : decode cX2_init 11 = .ok (.bipush 10, 2) := by decide +kernel
theorem dX2_init_13 : decode cX2_init 13 = .ok (.iastore, 1) := by decide +kernel
theorem dX2_init_14 : decode cX2_init 14 = .ok (.dup, 1) := by decide +kernel
theorem dX2_init_15 : decode cX2_init 15 = .ok (.iconst 1, 1) := by decide +kernel
theorem dX2_init_16 : decode cX2_init 16 = .ok (.iconst 2, 1) := by decide +kernel
theorem dX2_init_17 : decode cX2_init 17 = .ok (.iastore, 1) := by decide +kernel
theorem dX2_init_18 : decode cX2_init 18 = .ok (.dup, 1) := by decide +kernel
theorem dX2_init_19 : decode cX2_init 19 = .ok (.iconst 2, 1) := by decide +kernel
theorem dX2_init_20 : decode cX2_init 20 = .ok (.iconst 1, 1) := by decide +kernel
theorem dX2_init_21 : decode cX2_init 21 = .ok (.iastore, 1) := by decide +kernel
theorem dX2_init_22 : decode cX2_init 22 = .ok (.dup, 1) := by decide +kernel
theorem dX2_init_23 : decode cX2_init 23 = .ok (.iconst 3, 1) := by decide +kernel
theorem dX2_init_24 : decode cX2_init 24 = .ok (.iconst 0, 1) := by decide +kernel
theorem dX2_init_25 : decode cX2_init 25 = .ok (.iastore, 1) := by decide +kernel
theorem dX2_init_26 : decode cX2_init 26 = .ok (.dup, 1) := by decide +kernel
theorem dX2_init_27 : decode cX2_init 27 = .ok (.iconst 4, 1) := by decide +kernel
theorem dX2_init_28 : decode cX2_init 28 = .ok (.bipush 9, 2) := by decide +kernel
theorem dX2_init_30 : decode cX2_init 30 = .ok (.iastore, 1) := by decide +kernel
theorem dX2_init_31 : decode cX2_init 31 = .ok (.dup, 1) := by decide +kernel
theorem dX2_init_32 : decode cX2_init 32 = .ok (.iconst 5, 1) := by decide +kernel
theorem dX2_init_33 : decode cX2_init 33 = .ok (.iconst 4, 1) := by decide +kernel
theorem dX2_init_34 : decode cX2_init 34 = .ok (.iastore, 1) := by decide +kernel
theorem dX2_init_35 : decode cX2_init 35 = .ok (.putfield 9, 3) := by decide +kernel
theorem dX2_init_38 : decode cX2_init 38 = .ok (.aload_n 0, 1) := by decide +kernel
theorem dX2_init_39 : decode cX2_init 39 = .ok (.bipush 36, 2) := by decide +kernel
theorem dX2_init_41 : decode cX2_init 41 = .ok (.newarray .int, 2) := by decide +kernel
theorem dX2_init_43 : decode cX2_init 43 = .ok (.putfield 15, 3) := by decide +kernel
theorem dX2_init_46 : decode cX2_init 46 = .ok (.aload_n 0, 1) := by decide +kernel
theorem dX2_init_47 : decode cX2_init 47 = .ok (.bipush 36, 2) := by decide +kernel
theorem dX2_init_49 : decode cX2_init 49 = .ok (.newarray .int, 2) := by decide +kernel
theorem dX2_init_51 : decode cX2_init 51 = .ok (.putfield 18, 3) := by decide +kernel
theorem dX2_init_54 : decode cX2_init 54 = .ok (.aload_n 0, 1) := by decide +kernel
theorem dX2_init_55 : decode cX2_init 55 = .ok (.iconst 4, 1) := by decide +kernel
theorem dX2_init_56 : decode cX2_init 56 = .ok (.putfield 21, 3) := by decide +kernel
theorem dX2_init_59 : decode cX2_init 59 = .ok (.aload_n 0, 1) := by decide +kernel
theorem dX2_init_60 : decode cX2_init 60 = .ok (.iconst 4, 1) := by decide +kernel
theorem dX2_init_61 : decode cX2_init 61 = .ok (.putfield 25, 3) := by decide +kernel
theorem dX2_init_64 : decode cX2_init 64 = .ok (.return_, 1) := by decide +kernel
theorem dX2_copyFrom_0 : decode cX2_copyFrom 0 = .ok (.aload_n 0, 1) := by decide +kernel
theorem dX2_copyFrom_1 : decode cX2_copyFrom 1 = .ok (.aload_n 1, 1) := by decide +kernel
theorem dX2_copyFrom_2 : decode cX2_copyFrom 2 = .ok (.getfield 21, 3) := by decide +kernel
theorem dX2_copyFrom_5 : decode cX2_copyFrom 5 = .ok (.putfield 21, 3) := by decide +kernel
theorem dX2_copyFrom_8 : decode cX2_copyFrom 8 = .ok (.aload_n 0, 1) := by decide +kernel
theorem dX2_copyFrom_9 : decode cX2_copyFrom 9 = .ok (.aload_n 1, 1) := by decide +kernel
theorem dX2_copyFrom_10 : decode cX2_copyFrom 10 = .ok (.getfield 25, 3) := by decide +kernel
theorem dX2_copyFrom_13 : decode cX2_copyFrom 13 = .ok (.putfield 25, 3) := by decide +kernel
theorem dX2_copyFrom_16 : decode cX2_copyFrom 16 = .ok (.aload_n 1, 1) := by decide +kernel
theorem dX2_copyFrom_17 : decode cX2_copyFrom 17 = .ok (.getfield 9, 3) := by decide +kernel
theorem dX2_copyFrom_20 : decode cX2_copyFrom 20 = .ok (.iconst 0, 1) := by decide +kernel
theorem dX2_copyFrom_21 : decode cX2_copyFrom 21 = .ok (.aload_n 0, 1) := by decide +kernel
theorem dX2_copyFrom_22 : decode cX2_copyFrom 22 = .ok (.getfield 9, 3) := by decide +kernel
theorem dX2_copyFrom_25 : decode cX2_copyFrom 25 = .ok (.iconst 0, 1) := by decide +kernel
theorem dX2_copyFrom_26 : decode cX2_copyFrom 26 = .ok (.bipush 6, 2) := by decide +kernel
theorem dX2_copyFrom_28 : decode cX2_copyFrom 28 = .ok (.invokestatic 28, 3) := by decide +kernel
theorem dX2_copyFrom_31 : decode cX2_copyFrom 31 = .ok (.aload_n 1, 1) := by decide +kernel
theorem dX2_copyFrom_32 : decode cX2_copyFrom 32 = .ok (.getfield 15, 3) := by decide +kernel
theorem dX2_copyFrom_35 : decode cX2_copyFrom 35 = .ok (.iconst 0, 1) := by decide +kernel
theorem dX2_copyFrom_36 : decode cX2_copyFrom 36 = .ok (.aload_n 0, 1) := by decide +kernel
theorem dX2_copyFrom_37 : decode cX2_copyFrom 37 = .ok (.getfield 15, 3) := by decide +kernel
theorem dX2_copyFrom_40 : decode cX2_copyFrom 40 = .ok (.iconst 0, 1) := by decide +kernel
theorem dX2_copyFrom_41 : decode cX2_copyFrom 41 = .ok (.bipush 36, 2) := by decide +kernel
theorem dX2_copyFrom_43 : decode cX2_copyFrom 43 = .ok (.invokestatic 28, 3) := by decide +kernel
theorem dX2_copyFrom_46 : decode cX2_copyFrom 46 = .ok (.aload_n 1, 1) := by decide +kernel
theorem dX2_copyFrom_47 : decode cX2_copyFrom 47 = .ok (.getfield 18, 3) := by decide +kernel
theorem dX2_copyFrom_50 : decode cX2_copyFrom 50 = .ok (.iconst 0, 1) := by decide +kernel
theorem dX2_copyFrom_51 : decode cX2_copyFrom 51 = .ok (.aload_n 0, 1) := by decide +kernel
theorem dX2_copyFrom_52 : decode cX2_copyFrom 52 = .ok (.getfield 18, 3) := by decide +kernel
theorem dX2_copyFrom_55 : decode cX2_copyFrom 55 = .ok (.iconst 0, 1) := by decide +kernel
theorem dX2_copyFrom_56 : decode cX2_copyFrom 56 = .ok (.bipush 36, 2) := by decide +kernel
theorem dX2_copyFrom_58 : decode cX2_copyFrom 58 = .ok (.invokestatic 28, 3) := by decide +kernel
theorem dX2_copyFrom_61 : decode cX2_copyFrom 61 = .ok (.return_, 1) := by decide +kernel
theorem dX2_startBlank_0 : decode cX2_startBlank 0 = .ok (.aload_n 0, 1) := by decide +kernel
theorem dX2_startBlank_1 : decode cX2_startBlank 1 = .ok (.iload_n 1, 1) := by decide +kernel
theorem dX2_startBlank_2 : decode cX2_startBlank 2 = .ok (.putfield 21, 3) := by decide +kernel
theorem dX2_startBlank_5 : decode cX2_startBlank 5 = .ok (.aload_n 0, 1) := by decide +kernel
theorem dX2_startBlank_6 : decode cX2_startBlank 6 = .ok (.iload_n 2, 1) := by decide +kernel
theorem dX2_startBlank_7 : decode cX2_startBlank 7 = .ok (.putfield 25, 3) := by decide +kernel
theorem dX2_startBlank_10 : decode cX2_startBlank 10 = .ok (.iconst 0, 1) := by decide +kernel
theorem dX2_startBlank_11 : decode cX2_startBlank 11 = .ok (.istore_n 3, 1) := by decide +kernel
theorem dX2_startBlank_12 : decode cX2_startBlank 12 = .ok (.iload_n 3, 1) := by decide +kernel
theorem dX2_startBlank_13 : decode cX2_startBlank 13 = .ok (.bipush 36, 2) := by decide +kernel
theorem dX2_startBlank_15 : decode cX2_startBlank 15 = .ok (.if_icmp .ge 23, 3) := by decide +kernel
theorem dX2_startBlank_18 : decode cX2_startBlank 18 = .ok (.aload_n 0, 1) := by decide +kernel
theorem dX2_startBlank_19 : decode cX2_startBlank 19 = .ok (.getfield 15, 3) := by decide +kernel
theorem dX2_startBlank_22 : decode cX2_startBlank 22 = .ok (.iload_n 3, 1) := by decide +kernel
theorem dX2_startBlank_23 : decode cX2_startBlank 23 = .ok (.iconst 0, 1) := by decide +kernel
theorem dX2_startBlank_24 : decode cX2_startBlank 24 = .ok (.iastore, 1) := by decide +kernel
theorem dX2_startBlank_25 : decode cX2_startBlank 25 = .ok (.aload_n 0, 1) := by decide +kernel
theorem dX2_startBlank_26 : decode cX2_startBlank 26 = .ok (.getfield 18, 3) := by decide +kernel
theorem dX2_startBlank_29 : decode cX2_startBlank 29 = .ok (.iload_n 3, 1) := by decide +kernel
theorem dX2_startBlank_30 : decode cX2_startBlank 30 = .ok (.iconst 0, 1) := by decide +kernel
theorem dX2_startBlank_31 : decode cX2_startBlank 31 = .ok (.iastore, 1) := by decide +kernel
theorem dX2_startBlank_32 : decode cX2_startBlank 32 = .ok (.iinc 3 1, 3) := by decide +kernel
theorem dX2_startBlank_35 : decode cX2_startBlank 35 = .ok (.goto (-23), 3) := by decide +kernel
theorem dX2_startBlank_38 : decode cX2_startBlank 38 = .ok (.return_, 1) := by decide +kernel
theorem dX2_dots_0 : decode cX2_dots 0 = .ok (.aload_n 0, 1) := by decide +kernel
theorem dX2_dots_1 : decode cX2_dots 1 = .ok (.getfield 21, 3) := by decide +kernel
theorem dX2_dots_4 : decode cX2_dots 4 = .ok (.aload_n 0, 1) := by decide +kernel
theorem dX2_dots_5 : decode cX2_dots 5 = .ok (.getfield 25, 3) := by decide +kernel
theorem dX2_dots_8 : decode cX2_dots 8 = .ok (.imul, 1) := by decide +kernel
theorem dX2_dots_9 : decode cX2_dots 9 = .ok (.ireturn, 1) := by decide +kernel
set_option maxRecDepth 20000 in
theorem ggX2_allDots_X2_dots : GoodIn wsX2_allDots wsX2_dots := goodIn_r _ [5, 6, 7, 8, 9, 10, 11, 12] (by decide +kernel) (by decide +kernel)
set_option maxRecDepth 20000 in
theorem gX2_allDots_X2_dots : GoodIn wsX2_allDots (wsV RX2 34 RX2 yX2_dots wsX2_dots) := goodIn_app (goodIn_of _ (by decide +kernel)) ggX2_allDots_X2_dots
theorem dX2_allDots_0 : decode cX2_allDots 0 = .ok (.lconst 1, 1) := by decide +kernel
theorem dX2_allDots_1 : decode cX2_allDots 1 = .ok (.aload_n 0, 1) := by decide +kernel
theorem dX2_allDots_2 : decode cX2_allDots 2 = .ok (.invokevirtual 34, 3) := by decide +kernel
theorem dX2_allDots_5 : decode cX2_allDots 5 = .ok (.lshl, 1) := by decide +kernel
theorem dX2_allDots_6 : decode cX2_allDots 6 = .ok (.lconst 1, 1) := by decide +kernel
theorem dX2_allDots_7 : decode cX2_allDots 7 = .ok (.lsub, 1) := by decide +kernel
theorem dX2_allDots_8 : decode cX2_allDots 8 = .ok (.lreturn, 1) := by decide +kernel
theorem dX2_hasDot_0 : decode cX2_hasDot 0 = .ok (.iload_n 1, 1) := by decide +kernel
theorem dX2_hasDot_1 : decode cX2_hasDot 1 = .ok (.ifCond .lt 27, 3) := by decide +kernel
theorem dX2_hasDot_4 : decode cX2_hasDot 4 = .ok (.iload_n 1, 1) := by decide +kernel
theorem dX2_hasDot_5 : decode cX2_hasDot 5 = .ok (.aload_n 0, 1) := by decide +kernel
theorem dX2_hasDot_6 : decode cX2_hasDot 6 = .ok (.getfield 21, 3) := by decide +kernel
theorem dX2_hasDot_9 : decode cX2_hasDot 9 = .ok (.if_icmp .ge 19, 3) := by decide +kernel
theorem dX2_hasDot_12 : decode cX2_hasDot 12 = .ok (.iload_n 2, 1) := by decide +kernel
theorem dX2_hasDot_13 : decode cX2_hasDot 13 = .ok (.ifCond .lt 15, 3) := by decide +kernel
theorem dX2_hasDot_16 : decode cX2_hasDot 16 = .ok (.iload_n 2, 1) := by decide +kernel
theorem dX2_hasDot_17 : decode cX2_hasDot 17 = .ok (.aload_n 0, 1) := by decide +kernel
theorem dX2_hasDot_18 : decode cX2_hasDot 18 = .ok (.getfield 25, 3) := by decide +kernel
theorem dX2_hasDot_21 : decode cX2_hasDot 21 = .ok (.if_icmp .ge 7, 3) := by decide +kernel
theorem dX2_hasDot_24 : decode cX2_hasDot 24 = .ok (.iconst 1, 1) := by decide +kernel
theorem dX2_hasDot_25 : decode cX2_hasDot 25 = .ok (.goto 4, 3) := by decide +kernel
theorem dX2_hasDot_28 : decode cX2_hasDot 28 = .ok (.iconst 0, 1) := by decide +kernel
theorem dX2_hasDot_29 : decode cX2_hasDot 29 = .ok (.ireturn, 1) := by decide +kernel
theorem dX2_numberOf_0 : decode cX2_numberOf 0 = .ok (.aload_n 0, 1) := by decide +kernel
theorem dX2_numberOf_1 : decode cX2_numberOf 1 = .ok (.getfield 21, 3) := by decide +kernel
theorem dX2_numberOf_4 : decode cX2_numberOf 4 = .ok (.iload_n 2, 1) := by decide +kernel
theorem dX2_numberOf_5 : decode cX2_numberOf 5 = .ok (.imul, 1) := by decide +kernel
theorem dX2_numberOf_6 : decode cX2_numberOf 6 = .ok (.iload_n 1, 1) := by decide +kernel
theorem dX2_numberOf_7 : decode cX2_numberOf 7 = .ok (.iadd, 1) := by decide +kernel
theorem dX2_numberOf_8 : decode cX2_numberOf 8 = .ok (.ireturn, 1) := by decide +kernel
set_option maxRecDepth 20000 in
theorem ggX2_linkedTo_X2_hasDot : GoodIn wsX2_linkedTo wsX2_hasDot := goodIn_r _ [6, 7, 8, 13, 14, 15, 16, 17] (by decide +kernel) (by decide +kernel)
set_option maxRecDepth 20000 in
theorem gX2_linkedTo_X2_hasDot : GoodIn wsX2_linkedTo (wsV RX2 44 RX2 yX2_hasDot wsX2_hasDot) := goodIn_app (goodIn_of _ (by decide +kernel)) ggX2_linkedTo_X2_hasDot
set_option maxRecDepth 20000 in
theorem ggX2_linkedTo_X2_numberOf : GoodIn wsX2_linkedTo wsX2_numberOf := goodIn_r _ [12, 7, 13, 14, 15, 16, 17] (by decide +kernel) (by decide +kernel)
set_option maxRecDepth 20000 in
theorem gX2_linkedTo_X2_numberOf : GoodIn wsX2_linkedTo (wsV RX2 48 RX2 yX2_numberOf wsX2_numberOf) := goodIn_app (goodIn_of _ (by decide +kernel)) ggX2_linkedTo_X2_numberOf
theorem dX2_linkedTo_0 : decode cX2_linkedTo 0 = .ok (.iload_n 3, 1) := by decide +kernel
theorem dX2_linkedTo_1 : decode cX2_linkedTo 1 = .ok (.iconst 2, 1) := by decide +kernel
theorem dX2_linkedTo_2 : decode cX2_linkedTo 2 = .ok (.if_icmp .lt 16, 3) := by decide +kernel
theorem dX2_linkedTo_5 : decode cX2_linkedTo 5 = .ok (.aload_n 0, 1) := by decide +kernel
theorem dX2_linkedTo_6 : decode cX2_linkedTo 6 = .ok (.getfield 9, 3) := by decide +kernel
theorem dX2_linkedTo_9 : decode cX2_linkedTo 9 = .ok (.iconst 5, 1) := by decide +kernel
theorem dX2_linkedTo_10 : decode cX2_linkedTo 10 = .ok (.iaload, 1) := by decide +kernel
theorem dX2_linkedTo_11 : decode cX2_linkedTo 11 = .ok (.bipush 8, 2) := by decide +kernel
theorem dX2_linkedTo_13 : decode cX2_linkedTo 13 = .ok (.if_icmp .eq 5, 3) := by decide +kernel
theorem dX2_linkedTo_16 : decode cX2_linkedTo 16 = .ok (.iconst (-1), 1) := by decide +kernel
theorem dX2_linkedTo_17 : decode cX2_linkedTo 17 = .ok (.ireturn, 1) := by decide +kernel
theorem dX2_linkedTo_18 : decode cX2_linkedTo 18 = .ok (.iload_n 1, 1) := by decide +kernel
theorem dX2_linkedTo_19 : decode cX2_linkedTo 19 = .ok (.getstatic 38, 3) := by decide +kernel
theorem dX2_linkedTo_22 : decode cX2_linkedTo 22 = .ok (.iload_n 3, 1) := by decide +kernel
theorem dX2_linkedTo_23 : decode cX2_linkedTo 23 = .ok (.iaload, 1) := by decide +kernel
theorem dX2_linkedTo_24 : decode cX2_linkedTo 24 = .ok (.iadd, 1) := by decide +kernel
theorem dX2_linkedTo_25 : decode cX2_linkedTo 25 = .ok (.istore 4, 2) := by decide +kernel
theorem dX2_linkedTo_27 : decode cX2_linkedTo 27 = .ok (.iload_n 2, 1) := by decide +kernel
theorem dX2_linkedTo_28 : decode cX2_linkedTo 28 = .ok (.getstatic 41, 3) := by decide +kernel
theorem dX2_linkedTo_31 : decode cX2_linkedTo 31 = .ok (.iload_n 3, 1) := by decide +kernel
theorem dX2_linkedTo_32 : decode cX2_linkedTo 32 = .ok (.iaload, 1) := by decide +kernel
theorem dX2_linkedTo_33 : decode cX2_linkedTo 33 = .ok (.iadd, 1) := by decide +kernel
theorem dX2_linkedTo_34 : decode cX2_linkedTo 34 = .ok (.istore 5, 2) := by decide +kernel
theorem dX2_linkedTo_36 : decode cX2_linkedTo 36 = .ok (.aload_n 0, 1) := by decide +kernel
theorem dX2_linkedTo_37 : decode cX2_linkedTo 37 = .ok (.iload 4, 2) := by decide +kernel
theorem dX2_linkedTo_39 : decode cX2_linkedTo 39 = .ok (.iload 5, 2) := by decide +kernel
theorem dX2_linkedTo_41 : decode cX2_linkedTo 41 = .ok (.invokevirtual 44, 3) := by decide +kernel
theorem dX2_linkedTo_44 : decode cX2_linkedTo 44 = .ok (.ifCond .eq 14, 3) := by decide +kernel
theorem dX2_linkedTo_47 : decode cX2_linkedTo 47 = .ok (.aload_n 0, 1) := by decide +kernel
theorem dX2_linkedTo_48 : decode cX2_linkedTo 48 = .ok (.iload 4, 2) := by decide +kernel
theorem dX2_linkedTo_50 : decode cX2_linkedTo 50 = .ok (.iload 5, 2) := by decide +kernel
theorem dX2_linkedTo_52 : decode cX2_linkedTo 52 = .ok (.invokevirtual 48, 3) := by decide +kernel
theorem dX2_linkedTo_55 : decode cX2_linkedTo 55 = .ok (.goto 4, 3) := by decide +kernel
theorem dX2_linkedTo_58 : decode cX2_linkedTo 58 = .ok (.iconst (-1), 1) := by decide +kernel
theorem dX2_linkedTo_59 : decode cX2_linkedTo 59 = .ok (.ireturn, 1) := by decide +kernel
theorem dX2_weightOf_0 : decode cX2_weightOf 0 = .ok (.aload_n 0, 1) := by decide +kernel
theorem dX2_weightOf_1 : decode cX2_weightOf 1 = .ok (.getfield 15, 3) := by decide +kernel
theorem dX2_weightOf_4 : decode cX2_weightOf 4 = .ok (.iload_n 1, 1) := by decide +kernel
theorem dX2_weightOf_5 : decode cX2_weightOf 5 = .ok (.iaload, 1) := by decide +kernel
theorem dX2_weightOf_6 : decode cX2_weightOf 6 = .ok (.aload_n 0, 1) := by decide +kernel
theorem dX2_weightOf_7 : decode cX2_weightOf 7 = .ok (.getfield 15, 3) := by decide +kernel
theorem dX2_weightOf_10 : decode cX2_weightOf 10 = .ok (.iload_n 2, 1) := by decide +kernel
theorem dX2_weightOf_11 : decode cX2_weightOf 11 = .ok (.iaload, 1) := by decide +kernel
theorem dX2_weightOf_12 : decode cX2_weightOf 12 = .ok (.isub, 1) := by decide +kernel
theorem dX2_weightOf_13 : decode cX2_weightOf 13 = .ok (.invokestatic 52, 3) := by decide +kernel
theorem dX2_weightOf_16 : decode cX2_weightOf 16 = .ok (.istore 4, 2) := by decide +kernel
theorem dX2_weightOf_18 : decode cX2_weightOf 18 = .ok (.iconst 1, 1) := by decide +kernel
theorem dX2_weightOf_19 : decode cX2_weightOf 19 = .ok (.aload_n 0, 1) := by decide +kernel
theorem dX2_weightOf_20 : decode cX2_weightOf 20 = .ok (.getfield 9, 3) := by decide +kernel
theorem dX2_weightOf_23 : decode cX2_weightOf 23 = .ok (.iconst 0, 1) := by decide +kernel
theorem dX2_weightOf_24 : decode cX2_weightOf 24 = .ok (.iaload, 1) := by decide +kernel
theorem dX2_weightOf_25 : decode cX2_weightOf 25 = .ok (.aload_n 0, 1) := by decide +kernel
theorem dX2_weightOf_26 : decode cX2_weightOf 26 = .ok (.getfield 9, 3) := by decide +kernel
theorem dX2_weightOf_29 : decode cX2_weightOf 29 = .ok (.iconst 1, 1) := by decide +kernel
theorem dX2_weightOf_30 : decode cX2_weightOf 30 = .ok (.iaload, 1) := by decide +kernel
theorem dX2_weightOf_31 : decode cX2_weightOf 31 = .ok (.iload 4, 2) := by decide +kernel
theorem dX2_weightOf_33 : decode cX2_weightOf 33 = .ok (.imul, 1) := by decide +kernel
theorem dX2_weightOf_34 : decode cX2_weightOf 34 = .ok (.isub, 1) := by decide +kernel
theorem dX2_weightOf_35 : decode cX2_weightOf 35 = .ok (.invokestatic 58, 3) := by decide +kernel
theorem dX2_weightOf_38 : decode cX2_weightOf 38 = .ok (.istore 5, 2) := by decide +kernel
theorem dX2_weightOf_40 : decode cX2_weightOf 40 = .ok (.iload_n 3, 1) := by decide +kernel
theorem dX2_weightOf_41 : decode cX2_weightOf 41 = .ok (.iconst 2, 1) := by decide +kernel
theorem dX2_weightOf_42 : decode cX2_weightOf 42 = .ok (.if_icmp .ge 8, 3) := by decide +kernel
theorem dX2_weightOf_45 : decode cX2_weightOf 45 = .ok (.iload 5, 2) := by decide +kernel
theorem dX2_weightOf_47 : decode cX2_weightOf 47 = .ok (.goto 11, 3) := by decide +kernel
theorem dX2_weightOf_50 : decode cX2_weightOf 50 = .ok (.iconst 1, 1) := by decide +kernel
theorem dX2_weightOf_51 : decode cX2_weightOf 51 = .ok (.iload 5, 2) := by decide +kernel
theorem dX2_weightOf_53 : decode cX2_weightOf 53 = .ok (.iconst 2, 1) := by decide +kernel
theorem dX2_weightOf_54 : decode cX2_weightOf 54 = .ok (.idiv, 1) := by decide +kernel
theorem dX2_weightOf_55 : decode cX2_weightOf 55 = .ok (.invokestatic 58, 3) := by decide +kernel
theorem dX2_weightOf_58 : decode cX2_weightOf 58 = .ok (.ireturn, 1) := by decide +kernel
theorem dX2_pullFrom_0 : decode cX2_pullFrom 0 = .ok (.aload_n 0, 1) := by decide +kernel
theorem dX2_pullFrom_1 : decode cX2_pullFrom 1 = .ok (.getfield 9, 3) := by decide +kernel
theorem dX2_pullFrom_4 : decode cX2_pullFrom 4 = .ok (.iconst 2, 1) := by decide +kernel
theorem dX2_pullFrom_5 : decode cX2_pullFrom 5 = .ok (.iaload, 1) := by decide +kernel
theorem dX2_pullFrom_6 : decode cX2_pullFrom 6 = .ok (.aload_n 0, 1) := by decide +kernel
theorem dX2_pullFrom_7 : decode cX2_pullFrom 7 = .ok (.getfield 15, 3) := by decide +kernel
theorem dX2_pullFrom_10 : decode cX2_pullFrom 10 = .ok (.iload_n 1, 1) := by decide +kernel
theorem dX2_pullFrom_11 : decode cX2_pullFrom 11 = .ok (.iaload, 1) := by decide +kernel
theorem dX2_pullFrom_12 : decode cX2_pullFrom 12 = .ok (.aload_n 0, 1) := by decide +kernel
theorem dX2_pullFrom_13 : decode cX2_pullFrom 13 = .ok (.getfield 9, 3) := by decide +kernel
theorem dX2_pullFrom_16 : decode cX2_pullFrom 16 = .ok (.iload_n 2, 1) := by decide +kernel
theorem dX2_pullFrom_17 : decode cX2_pullFrom 17 = .ok (.iaload, 1) := by decide +kernel
theorem dX2_pullFrom_18 : decode cX2_pullFrom 18 = .ok (.isub, 1) := by decide +kernel
theorem dX2_pullFrom_19 : decode cX2_pullFrom 19 = .ok (.invokestatic 52, 3) := by decide +kernel
theorem dX2_pullFrom_22 : decode cX2_pullFrom 22 = .ok (.imul, 1) := by decide +kernel
theorem dX2_pullFrom_23 : decode cX2_pullFrom 23 = .ok (.ireturn, 1) := by decide +kernel
set_option maxRecDepth 20000 in
theorem ggX2_shadeAround_X2_numberOf : GoodIn wsX2_shadeAround wsX2_numberOf := goodIn_r _ [12, 2, 13, 14, 15, 16, 17] (by decide +kernel) (by decide +kernel)
set_option maxRecDepth 20000 in
theorem gX2_shadeAround_X2_numberOf : GoodIn wsX2_shadeAround (wsV RX2 48 RX2 yX2_numberOf wsX2_numberOf) := goodIn_app (goodIn_of _ (by decide +kernel)) ggX2_shadeAround_X2_numberOf
theorem dX2_shadeAround_0 : decode cX2_shadeAround 0 = .ok (.iconst 0, 1) := by decide +kernel
theorem dX2_shadeAround_1 : decode cX2_shadeAround 1 = .ok (.istore 5, 2) := by decide +kernel
theorem dX2_shadeAround_3 : decode cX2_shadeAround 3 = .ok (.iconst 0, 1) := by decide +kernel
theorem dX2_shadeAround_4 : decode cX2_shadeAround 4 = .ok (.istore 6, 2) := by decide +kernel
theorem dX2_shadeAround_6 : decode cX2_shadeAround 6 = .ok (.iload 6, 2) := by decide +kernel
theorem dX2_shadeAround_8 : decode cX2_shadeAround 8 = .ok (.aload_n 0, 1) := by decide +kernel
theorem dX2_shadeAround_9 : decode cX2_shadeAround 9 = .ok (.getfield 25, 3) := by decide +kernel
theorem dX2_shadeAround_12 : decode cX2_shadeAround 12 = .ok (.if_icmp .ge 64, 3) := by decide +kernel
theorem dX2_shadeAround_15 : decode cX2_shadeAround 15 = .ok (.iconst 0, 1) := by decide +kernel
theorem dX2_shadeAround_16 : decode cX2_shadeAround 16 = .ok (.istore 7, 2) := by decide +kernel
theorem dX2_shadeAround_18 : decode cX2_shadeAround 18 = .ok (.iload 7, 2) := by decide +kernel
theorem dX2_shadeAround_20 : decode cX2_shadeAround 20 = .ok (.aload_n 0, 1) := by decide +kernel
theorem dX2_shadeAround_21 : decode cX2_shadeAround 21 = .ok (.getfield 21, 3) := by decide +kernel
theorem dX2_shadeAround_24 : decode cX2_shadeAround 24 = .ok (.if_icmp .ge 46, 3) := by decide +kernel
theorem dX2_shadeAround_27 : decode cX2_shadeAround 27 = .ok (.iload 7, 2) := by decide +kernel
theorem dX2_shadeAround_29 : decode cX2_shadeAround 29 = .ok (.iload_n 1, 1) := by decide +kernel
theorem dX2_shadeAround_30 : decode cX2_shadeAround 30 = .ok (.isub, 1) := by decide +kernel
theorem dX2_shadeAround_31 : decode cX2_shadeAround 31 = .ok (.invokestatic 52, 3) := by decide +kernel
theorem dX2_shadeAround_34 : decode cX2_shadeAround 34 = .ok (.iload 6, 2) := by decide +kernel
theorem dX2_shadeAround_36 : decode cX2_shadeAround 36 = .ok (.iload_n 2, 1) := by decide +kernel
theorem dX2_shadeAround_37 : decode cX2_shadeAround 37 = .ok (.isub, 1) := by decide +kernel
theorem dX2_shadeAround_38 : decode cX2_shadeAround 38 = .ok (.invokestatic 52, 3) := by decide +kernel
theorem dX2_shadeAround_41 : decode cX2_shadeAround 41 = .ok (.iadd, 1) := by decide +kernel
theorem dX2_shadeAround_42 : decode cX2_shadeAround 42 = .ok (.iload_n 3, 1) := by decide +kernel
theorem dX2_shadeAround_43 : decode cX2_shadeAround 43 = .ok (.if_icmp .gt 21, 3) := by decide +kernel
theorem dX2_shadeAround_46 : decode cX2_shadeAround 46 = .ok (.aload_n 0, 1) := by decide +kernel
theorem dX2_shadeAround_47 : decode cX2_shadeAround 47 = .ok (.getfield 15, 3) := by decide +kernel
theorem dX2_shadeAround_50 : decode cX2_shadeAround 50 = .ok (.aload_n 0, 1) := by decide +kernel
theorem dX2_shadeAround_51 : decode cX2_shadeAround 51 = .ok (.iload 7, 2) := by decide +kernel
theorem dX2_shadeAround_53 : decode cX2_shadeAround 53 = .ok (.iload 6, 2) := by decide +kernel
theorem dX2_shadeAround_55 : decode cX2_shadeAround 55 = .ok (.invokevirtual 48, 3) := by decide +kernel
theorem dX2_shadeAround_58 : decode cX2_shadeAround 58 = .ok (.iload 4, 2) := by decide +kernel
theorem dX2_shadeAround_60 : decode cX2_shadeAround 60 = .ok (.iastore, 1) := by decide +kernel
theorem dX2_shadeAround_61 : decode cX2_shadeAround 61 = .ok (.iinc 5 1, 3) := by decide +kernel
theorem dX2_shadeAround_64 : decode cX2_shadeAround 64 = .ok (.iinc 7 1, 3) := by decide +kernel
theorem dX2_shadeAround_67 : decode cX2_shadeAround 67 = .ok (.goto (-49), 3) := by decide +kernel
theorem dX2_shadeAround_70 : decode cX2_shadeAround 70 = .ok (.iinc 6 1, 3) := by decide +kernel
theorem dX2_shadeAround_73 : decode cX2_shadeAround 73 = .ok (.goto (-67), 3) := by decide +kernel
theorem dX2_shadeAround_76 : decode cX2_shadeAround 76 = .ok (.iload 5, 2) := by decide +kernel
theorem dX2_shadeAround_78 : decode cX2_shadeAround 78 = .ok (.ireturn, 1) := by decide +kernel
set_option maxRecDepth 20000 in
theorem ggX2_lineOf_X2_numberOf : GoodIn wsX2_lineOf wsX2_numberOf := goodIn_r _ [12, 13, 18, 19, 20, 21, 22] (by decide +kernel) (by decide +kernel)
set_option maxRecDepth 20000 in
theorem gX2_lineOf_X2_numberOf : GoodIn wsX2_lineOf (wsV RX2 48 RX2 yX2_numberOf wsX2_numberOf) := goodIn_app (goodIn_of _ (by decide +kernel)) ggX2_lineOf_X2_numberOf
set_option maxRecDepth 20000 in
theorem ggX2_lineOf_J9_floorDiv_7cf53 : GoodIn wsX2_lineOf wsJ9_floorDiv_7cf53 := goodIn_r _ [17] (by decide +kernel) (by decide +kernel)
set_option maxRecDepth 20000 in
theorem gX2_lineOf_J9_floorDiv_7cf53 : GoodIn wsX2_lineOf (va_wsS RX2 61 yJ9_floorDiv_7cf53 wsJ9_floorDiv_7cf53) := goodIn_app (goodIn_of _ (by decide +kernel)) ggX2_lineOf_J9_floorDiv_7cf53
theorem dX2_lineOf_0 : decode cX2_lineOf 0 = .ok (.iload_n 3, 1) := by decide +kernel
theorem dX2_lineOf_1 : decode cX2_lineOf 1 = .ok (.iload_n 1, 1) := by decide +kernel
theorem dX2_lineOf_2 : decode cX2_lineOf 2 = .ok (.isub, 1) := by decide +kernel
theorem dX2_lineOf_3 : decode cX2_lineOf 3 = .ok (.invokestatic 52, 3) := by decide +kernel
theorem dX2_lineOf_6 : decode cX2_lineOf 6 = .ok (.iload 4, 2) := by decide +kernel
theorem dX2_lineOf_8 : decode cX2_lineOf 8 = .ok (.iload_n 2, 1) := by decide +kernel
theorem dX2_lineOf_9 : decode cX2_lineOf 9 = .ok (.isub, 1) := by decide +kernel
theorem dX2_lineOf_10 : decode cX2_lineOf 10 = .ok (.invokestatic 52, 3) := by decide +kernel
theorem dX2_lineOf_13 : decode cX2_lineOf 13 = .ok (.invokestatic 58, 3) := by decide +kernel
theorem dX2_lineOf_16 : decode cX2_lineOf 16 = .ok (.istore 5, 2) := by decide +kernel
theorem dX2_lineOf_18 : decode cX2_lineOf 18 = .ok (.iload 5, 2) := by decide +kernel
theorem dX2_lineOf_20 : decode cX2_lineOf 20 = .ok (.ifCond .ne 12, 3) := by decide +kernel
theorem dX2_lineOf_23 : decode cX2_lineOf 23 = .ok (.lconst 1, 1) := by decide +kernel
theorem dX2_lineOf_24 : decode cX2_lineOf 24 = .ok (.aload_n 0, 1) := by decide +kernel
theorem dX2_lineOf_25 : decode cX2_lineOf 25 = .ok (.iload_n 1, 1) := by decide +kernel
theorem dX2_lineOf_26 : decode cX2_lineOf 26 = .ok (.iload_n 2, 1) := by decide +kernel
theorem dX2_lineOf_27 : decode cX2_lineOf 27 = .ok (.invokevirtual 48, 3) := by decide +kernel
theorem dX2_lineOf_30 : decode cX2_lineOf 30 = .ok (.lshl, 1) := by decide +kernel
theorem dX2_lineOf_31 : decode cX2_lineOf 31 = .ok (.lreturn, 1) := by decide +kernel
theorem dX2_lineOf_32 : decode cX2_lineOf 32 = .ok (.lconst 0, 1) := by decide +kernel
theorem dX2_lineOf_33 : decode cX2_lineOf 33 = .ok (.lstore 6, 2) := by decide +kernel
theorem dX2_lineOf_35 : decode cX2_lineOf 35 = .ok (.iconst 0, 1) := by decide +kernel
theorem dX2_lineOf_36 : decode cX2_lineOf 36 = .ok (.istore 8, 2) := by decide +kernel
theorem dX2_lineOf_38 : decode cX2_lineOf 38 = .ok (.iload 8, 2) := by decide +kernel
theorem dX2_lineOf_40 : decode cX2_lineOf 40 = .ok (.iload 5, 2) := by decide +kernel
theorem dX2_lineOf_42 : decode cX2_lineOf 42 = .ok (.if_icmp .gt 69, 3) := by decide +kernel
theorem dX2_lineOf_45 : decode cX2_lineOf 45 = .ok (.iload_n 1, 1) := by decide +kernel
theorem dX2_lineOf_46 : decode cX2_lineOf 46 = .ok (.iconst 2, 1) := by decide +kernel
theorem dX2_lineOf_47 : decode cX2_lineOf 47 = .ok (.iload 8, 2) := by decide +kernel
theorem dX2_lineOf_49 : decode cX2_lineOf 49 = .ok (.imul, 1) := by decide +kernel
theorem dX2_lineOf_50 : decode cX2_lineOf 50 = .ok (.iload_n 3, 1) := by decide +kernel
theorem dX2_lineOf_51 : decode cX2_lineOf 51 = .ok (.iload_n 1, 1) := by decide +kernel
theorem dX2_lineOf_52 : decode cX2_lineOf 52 = .ok (.isub, 1) := by decide +kernel
theorem dX2_lineOf_53 : decode cX2_lineOf 53 = .ok (.imul, 1) := by decide +kernel
theorem dX2_lineOf_54 : decode cX2_lineOf 54 = .ok (.iload 5, 2) := by decide +kernel
theorem dX2_lineOf_56 : decode cX2_lineOf 56 = .ok (.iadd, 1) := by decide +kernel
theorem dX2_lineOf_57 : decode cX2_lineOf 57 = .ok (.iconst 2, 1) := by decide +kernel
theorem dX2_lineOf_58 : decode cX2_lineOf 58 = .ok (.iload 5, 2) := by decide +kernel
theorem dX2_lineOf_60 : decode cX2_lineOf 60 = .ok (.imul, 1) := by decide +kernel
theorem dX2_lineOf_61 : decode cX2_lineOf 61 = .ok (.invokestatic 61, 3) := by decide +kernel
theorem dX2_lineOf_64 : decode cX2_lineOf 64 = .ok (.iadd, 1) := by decide +kernel
theorem dX2_lineOf_65 : decode cX2_lineOf 65 = .ok (.istore 9, 2) := by decide +kernel
theorem dX2_lineOf_67 : decode cX2_lineOf 67 = .ok (.iload_n 2, 1) := by decide +kernel
theorem dX2_lineOf_68 : decode cX2_lineOf 68 = .ok (.iconst 2, 1) := by decide +kernel
theorem dX2_lineOf_69 : decode cX2_lineOf 69 = .ok (.iload 8, 2) := by decide +kernel
theorem dX2_lineOf_71 : decode cX2_lineOf 71 = .ok (.imul, 1) := by decide +kernel
theorem dX2_lineOf_72 : decode cX2_lineOf 72 = .ok (.iload 4, 2) := by decide +kernel
theorem dX2_lineOf_74 : decode cX2_lineOf 74 = .ok (.iload_n 2, 1) := by decide +kernel
theorem dX2_lineOf_75 : decode cX2_lineOf 75 = .ok (.isub, 1) := by decide +kernel
theorem dX2_lineOf_76 : decode cX2_lineOf 76 = .ok (.imul, 1) := by decide +kernel
theorem dX2_lineOf_77 : decode cX2_lineOf 77 = .ok (.iload 5, 2) := by decide +kernel
theorem dX2_lineOf_79 : decode cX2_lineOf 79 = .ok (.iadd, 1) := by decide +kernel
theorem dX2_lineOf_80 : decode cX2_lineOf 80 = .ok (.iconst 2, 1) := by decide +kernel
theorem dX2_lineOf_81 : decode cX2_lineOf 81 = .ok (.iload 5, 2) := by decide +kernel
theorem dX2_lineOf_83 : decode cX2_lineOf 83 = .ok (.imul, 1) := by decide +kernel
theorem dX2_lineOf_84 : decode cX2_lineOf 84 = .ok (.invokestatic 61, 3) := by decide +kernel
theorem dX2_lineOf_87 : decode cX2_lineOf 87 = .ok (.iadd, 1) := by decide +kernel
theorem dX2_lineOf_88 : decode cX2_lineOf 88 = .ok (.istore 10, 2) := by decide +kernel
theorem dX2_lineOf_90 : decode cX2_lineOf 90 = .ok (.lload 6, 2) := by decide +kernel
theorem dX2_lineOf_92 : decode cX2_lineOf 92 = .ok (.lconst 1, 1) := by decide +kernel
theorem dX2_lineOf_93 : decode cX2_lineOf 93 = .ok (.aload_n 0, 1) := by decide +kernel
theorem dX2_lineOf_94 : decode cX2_lineOf 94 = .ok (.iload 9, 2) := by decide +kernel
theorem dX2_lineOf_96 : decode cX2_lineOf 96 = .ok (.iload 10, 2) := by decide +kernel
theorem dX2_lineOf_98 : decode cX2_lineOf 98 = .ok (.invokevirtual 48, 3) := by decide +kernel
theorem dX2_lineOf_101 : decode cX2_lineOf 101 = .ok (.lshl, 1) := by decide +kernel
theorem dX2_lineOf_102 : decode cX2_lineOf 102 = .ok (.lor, 1) := by decide +kernel
theorem dX2_lineOf_103 : decode cX2_lineOf 103 = .ok (.lstore 6, 2) := by decide +kernel
theorem dX2_lineOf_105 : decode cX2_lineOf 105 = .ok (.iinc 8 1, 3) := by decide +kernel
theorem dX2_lineOf_108 : decode cX2_lineOf 108 = .ok (.goto (-70), 3) := by decide +kernel
theorem dX2_lineOf_111 : decode cX2_lineOf 111 = .ok (.lload 6, 2) := by decide +kernel
theorem dX2_lineOf_113 : decode cX2_lineOf 113 = .ok (.lreturn, 1) := by decide +kernel
set_option maxRecDepth 20000 in
theorem ggX2_markAll_X2_dots : GoodIn wsX2_markAll wsX2_dots := goodIn_r _ [6, 7, 8, 12, 13, 14, 15, 16] (by decide +kernel) (by decide +kernel)
set_option maxRecDepth 20000 in
theorem gX2_markAll_X2_dots : GoodIn wsX2_markAll (wsV RX2 34 RX2 yX2_dots wsX2_dots) := goodIn_app (goodIn_of _ (by decide +kernel)) ggX2_markAll_X2_dots
set_option maxRecDepth 20000 in
theorem ggX2_markAll_X4_has : GoodIn wsX2_markAll wsX4_has := goodIn_r _ [11] (by decide +kernel) (by decide +kernel)
set_option maxRecDepth 20000 in
theorem gX2_markAll_X4_has_n64 : GoodIn wsX2_markAll (wsX4_has) := ggX2_markAll_X4_has
theorem dX2_markAll_0 : decode cX2_markAll 0 = .ok (.iconst 0, 1) := by decide +kernel
theorem dX2_markAll_1 : decode cX2_markAll 1 = .ok (.istore 4, 2) := by decide +kernel
theorem dX2_markAll_3 : decode cX2_markAll 3 = .ok (.iconst 0, 1) := by decide +kernel
theorem dX2_markAll_4 : decode cX2_markAll 4 = .ok (.istore 5, 2) := by decide +kernel
theorem dX2_markAll_6 : decode cX2_markAll 6 = .ok (.iload 5, 2) := by decide +kernel
theorem dX2_markAll_8 : decode cX2_markAll 8 = .ok (.aload_n 0, 1) := by decide +kernel
theorem dX2_markAll_9 : decode cX2_markAll 9 = .ok (.invokevirtual 34, 3) := by decide +kernel
theorem dX2_markAll_12 : decode cX2_markAll 12 = .ok (.if_icmp .ge 40, 3) := by decide +kernel
theorem dX2_markAll_15 : decode cX2_markAll 15 = .ok (.lload_n 1, 1) := by decide +kernel
theorem dX2_markAll_16 : decode cX2_markAll 16 = .ok (.iload 5, 2) := by decide +kernel
theorem dX2_markAll_18 : decode cX2_markAll 18 = .ok (.invokestatic 64, 3) := by decide +kernel
theorem dX2_markAll_21 : decode cX2_markAll 21 = .ok (.ifCond .eq 25, 3) := by decide +kernel
theorem dX2_markAll_24 : decode cX2_markAll 24 = .ok (.aload_n 0, 1) := by decide +kernel
theorem dX2_markAll_25 : decode cX2_markAll 25 = .ok (.getfield 18, 3) := by decide +kernel
theorem dX2_markAll_28 : decode cX2_markAll 28 = .ok (.iload 5, 2) := by decide +kernel
theorem dX2_markAll_30 : decode cX2_markAll 30 = .ok (.iaload, 1) := by decide +kernel
theorem dX2_markAll_31 : decode cX2_markAll 31 = .ok (.iload_n 3, 1) := by decide +kernel
theorem dX2_markAll_32 : decode cX2_markAll 32 = .ok (.if_icmp .eq 14, 3) := by decide +kernel
theorem dX2_markAll_35 : decode cX2_markAll 35 = .ok (.aload_n 0, 1) := by decide +kernel
theorem dX2_markAll_36 : decode cX2_markAll 36 = .ok (.getfield 18, 3) := by decide +kernel
theorem dX2_markAll_39 : decode cX2_markAll 39 = .ok (.iload 5, 2) := by decide +kernel
theorem dX2_markAll_41 : decode cX2_markAll 41 = .ok (.iload_n 3, 1) := by decide +kernel
theorem dX2_markAll_42 : decode cX2_markAll 42 = .ok (.iastore, 1) := by decide +kernel
theorem dX2_markAll_43 : decode cX2_markAll 43 = .ok (.iinc 4 1, 3) := by decide +kernel
theorem dX2_markAll_46 : decode cX2_markAll 46 = .ok (.iinc 5 1, 3) := by decide +kernel
theorem dX2_markAll_49 : decode cX2_markAll 49 = .ok (.goto (-43), 3) := by decide +kernel
theorem dX2_markAll_52 : decode cX2_markAll 52 = .ok (.iload 4, 2) := by decide +kernel
theorem dX2_markAll_54 : decode cX2_markAll 54 = .ok (.ireturn, 1) := by decide +kernel
set_option maxRecDepth 20000 in
theorem ggX2_markRest_X2_dots : GoodIn wsX2_markRest wsX2_dots := goodIn_r _ [6, 7, 8, 12, 13, 14, 15, 16] (by decide +kernel) (by decide +kernel)
set_option maxRecDepth 20000 in
theorem gX2_markRest_X2_dots : GoodIn wsX2_markRest (wsV RX2 34 RX2 yX2_dots wsX2_dots) := goodIn_app (goodIn_of _ (by decide +kernel)) ggX2_markRest_X2_dots
set_option maxRecDepth 20000 in
theorem ggX2_markRest_X4_has : GoodIn wsX2_markRest wsX4_has := goodIn_r _ [11] (by decide +kernel) (by decide +kernel)
set_option maxRecDepth 20000 in
theorem gX2_markRest_X4_has_n64 : GoodIn wsX2_markRest (wsX4_has) := ggX2_markRest_X4_has
theorem dX2_markRest_0 : decode cX2_markRest 0 = .ok (.iconst 0, 1) := by decide +kernel
theorem dX2_markRest_1 : decode cX2_markRest 1 = .ok (.istore_n 3, 1) := by decide +kernel
theorem dX2_markRest_2 : decode cX2_markRest 2 = .ok (.iconst 0, 1) := by decide +kernel
theorem dX2_markRest_3 : decode cX2_markRest 3 = .ok (.istore 4, 2) := by decide +kernel
theorem dX2_markRest_5 : decode cX2_markRest 5 = .ok (.iload 4, 2) := by decide +kernel
theorem dX2_markRest_7 : decode cX2_markRest 7 = .ok (.aload_n 0, 1) := by decide +kernel
theorem dX2_markRest_8 : decode cX2_markRest 8 = .ok (.invokevirtual 34, 3) := by decide +kernel
theorem dX2_markRest_11 : decode cX2_markRest 11 = .ok (.if_icmp .ge 43, 3) := by decide +kernel
theorem dX2_markRest_14 : decode cX2_markRest 14 = .ok (.aload_n 0, 1) := by decide +kernel
theorem dX2_markRest_15 : decode cX2_markRest 15 = .ok (.getfield 18, 3) := by decide +kernel
theorem dX2_markRest_18 : decode cX2_markRest 18 = .ok (.iload 4, 2) := by decide +kernel
theorem dX2_markRest_20 : decode cX2_markRest 20 = .ok (.iaload, 1) := by decide +kernel
theorem dX2_markRest_21 : decode cX2_markRest 21 = .ok (.ifCond .ne 27, 3) := by decide +kernel
theorem dX2_markRest_24 : decode cX2_markRest 24 = .ok (.aload_n 0, 1) := by decide +kernel
theorem dX2_markRest_25 : decode cX2_markRest 25 = .ok (.getfield 18, 3) := by decide +kernel
theorem dX2_markRest_28 : decode cX2_markRest 28 = .ok (.iload 4, 2) := by decide +kernel
theorem dX2_markRest_30 : decode cX2_markRest 30 = .ok (.lload_n 1, 1) := by decide +kernel
theorem dX2_markRest_31 : decode cX2_markRest 31 = .ok (.iload 4, 2) := by decide +kernel
theorem dX2_markRest_33 : decode cX2_markRest 33 = .ok (.invokestatic 64, 3) := by decide +kernel
theorem dX2_markRest_36 : decode cX2_markRest 36 = .ok (.ifCond .eq 7, 3) := by decide +kernel
theorem dX2_markRest_39 : decode cX2_markRest 39 = .ok (.iconst 1, 1) := by decide +kernel
theorem dX2_markRest_40 : decode cX2_markRest 40 = .ok (.goto 4, 3) := by decide +kernel
theorem dX2_markRest_43 : decode cX2_markRest 43 = .ok (.iconst 2, 1) := by decide +kernel
theorem dX2_markRest_44 : decode cX2_markRest 44 = .ok (.iastore, 1) := by decide +kernel
theorem dX2_markRest_45 : decode cX2_markRest 45 = .ok (.iinc 3 1, 3) := by decide +kernel
theorem dX2_markRest_48 : decode cX2_markRest 48 = .ok (.iinc 4 1, 3) := by decide +kernel
theorem dX2_markRest_51 : decode cX2_markRest 51 = .ok (.goto (-46), 3) := by decide +kernel
theorem dX2_markRest_54 : decode cX2_markRest 54 = .ok (.iload_n 3, 1) := by decide +kernel
theorem dX2_markRest_55 : decode cX2_markRest 55 = .ok (.ireturn, 1) := by decide +kernel
set_option maxRecDepth 20000 in
theorem ggX2_swapSides_X2_dots : GoodIn wsX2_swapSides wsX2_dots := goodIn_r _ [7, 8, 9, 10, 11, 12, 13, 14] (by decide +kernel) (by decide +kernel)
set_option maxRecDepth 20000 in
theorem gX2_swapSides_X2_dots : GoodIn wsX2_swapSides (wsV RX2 34 RX2 yX2_dots wsX2_dots) := goodIn_app (goodIn_of _ (by decide +kernel)) ggX2_swapSides_X2_dots
theorem dX2_swapSides_0 : decode cX2_swapSides 0 = .ok (.iconst 0, 1) := by decide +kernel
theorem dX2_swapSides_1 : decode cX2_swapSides 1 = .ok (.istore_n 1, 1) := by decide +kernel
theorem dX2_swapSides_2 : decode cX2_swapSides 2 = .ok (.iconst 0, 1) := by decide +kernel
theorem dX2_swapSides_3 : decode cX2_swapSides 3 = .ok (.istore_n 2, 1) := by decide +kernel
theorem dX2_swapSides_4 : decode cX2_swapSides 4 = .ok (.iload_n 2, 1) := by decide +kernel
theorem dX2_swapSides_5 : decode cX2_swapSides 5 = .ok (.aload_n 0, 1) := by decide +kernel
theorem dX2_swapSides_6 : decode cX2_swapSides 6 = .ok (.invokevirtual 34, 3) := by decide +kernel
theorem dX2_swapSides_9 : decode cX2_swapSides 9 = .ok (.if_icmp .ge 42, 3) := by decide +kernel
theorem dX2_swapSides_12 : decode cX2_swapSides 12 = .ok (.aload_n 0, 1) := by decide +kernel
theorem dX2_swapSides_13 : decode cX2_swapSides 13 = .ok (.getfield 18, 3) := by decide +kernel
theorem dX2_swapSides_16 : decode cX2_swapSides 16 = .ok (.iload_n 2, 1) := by decide +kernel
theorem dX2_swapSides_17 : decode cX2_swapSides 17 = .ok (.iaload, 1) := by decide +kernel
theorem dX2_swapSides_18 : decode cX2_swapSides 18 = .ok (.ifCond .eq 27, 3) := by decide +kernel
theorem dX2_swapSides_21 : decode cX2_swapSides 21 = .ok (.aload_n 0, 1) := by decide +kernel
theorem dX2_swapSides_22 : decode cX2_swapSides 22 = .ok (.getfield 18, 3) := by decide +kernel
theorem dX2_swapSides_25 : decode cX2_swapSides 25 = .ok (.iload_n 2, 1) := by decide +kernel
theorem dX2_swapSides_26 : decode cX2_swapSides 26 = .ok (.aload_n 0, 1) := by decide +kernel
theorem dX2_swapSides_27 : decode cX2_swapSides 27 = .ok (.getfield 18, 3) := by decide +kernel
theorem dX2_swapSides_30 : decode cX2_swapSides 30 = .ok (.iload_n 2, 1) := by decide +kernel
theorem dX2_swapSides_31 : decode cX2_swapSides 31 = .ok (.iaload, 1) := by decide +kernel
theorem dX2_swapSides_32 : decode cX2_swapSides 32 = .ok (.iconst 1, 1) := by decide +kernel
theorem dX2_swapSides_33 : decode cX2_swapSides 33 = .ok (.if_icmp .ne 7, 3) := by decide +kernel
theorem dX2_swapSides_36 : decode cX2_swapSides 36 = .ok (.iconst 2, 1) := by decide +kernel
theorem dX2_swapSides_37 : decode cX2_swapSides 37 = .ok (.goto 4, 3) := by decide +kernel
theorem dX2_swapSides_40 : decode cX2_swapSides 40 = .ok (.iconst 1, 1) := by decide +kernel
theorem dX2_swapSides_41 : decode cX2_swapSides 41 = .ok (.iastore, 1) := by decide +kernel
theorem dX2_swapSides_42 : decode cX2_swapSides 42 = .ok (.iinc 1 1, 3) := by decide +kernel
theorem dX2_swapSides_45 : decode cX2_swapSides 45 = .ok (.iinc 2 1, 3) := by decide +kernel
theorem dX2_swapSides_48 : decode cX2_swapSides 48 = .ok (.goto (-44), 3) := by decide +kernel
theorem dX2_swapSides_51 : decode cX2_swapSides 51 = .ok (.aload_n 0, 1) := by decide +kernel
theorem dX2_swapSides_52 : decode cX2_swapSides 52 = .ok (.getfield 9, 3) := by decide +kernel
theorem dX2_swapSides_55 : decode cX2_swapSides 55 = .ok (.iconst 3, 1) := by decide +kernel
theorem dX2_swapSides_56 : decode cX2_swapSides 56 = .ok (.iaload, 1) := by decide +kernel
theorem dX2_swapSides_57 : decode cX2_swapSides 57 = .ok (.istore_n 2, 1) := by decide +kernel
theorem dX2_swapSides_58 : decode cX2_swapSides 58 = .ok (.aload_n 0, 1) := by decide +kernel
theorem dX2_swapSides_59 : decode cX2_swapSides 59 = .ok (.getfield 9, 3) := by decide +kernel
theorem dX2_swapSides_62 : decode cX2_swapSides 62 = .ok (.iconst 3, 1) := by decide +kernel
theorem dX2_swapSides_63 : decode cX2_swapSides 63 = .ok (.aload_n 0, 1) := by decide +kernel
theorem dX2_swapSides_64 : decode cX2_swapSides 64 = .ok (.getfield 9, 3) := by decide +kernel
theorem dX2_swapSides_67 : decode cX2_swapSides 67 = .ok (.iconst 4, 1) := by decide +kernel
theorem dX2_swapSides_68 : decode cX2_swapSides 68 = .ok (.iaload, 1) := by decide +kernel
theorem dX2_swapSides_69 : decode cX2_swapSides 69 = .ok (.iastore, 1) := by decide +kernel
theorem dX2_swapSides_70 : decode cX2_swapSides 70 = .ok (.aload_n 0, 1) := by decide +kernel
theorem dX2_swapSides_71 : decode cX2_swapSides 71 = .ok (.getfield 9, 3) := by decide +kernel
theorem dX2_swapSides_74 : decode cX2_swapSides 74 = .ok (.iconst 4, 1) := by decide +kernel
theorem dX2_swapSides_75 : decode cX2_swapSides 75 = .ok (.iload_n 2, 1) := by decide +kernel
theorem dX2_swapSides_76 : decode cX2_swapSides 76 = .ok (.iastore, 1) := by decide +kernel
theorem dX2_swapSides_77 : decode cX2_swapSides 77 = .ok (.iload_n 1, 1) := by decide +kernel
theorem dX2_swapSides_78 : decode cX2_swapSides 78 = .ok (.ireturn, 1) := by decide +kernel
set_option maxRecDepth 20000 in
theorem ggX2_learnTones_X2_learnTone : GoodIn wsX2_learnTones wsX2_learnTone := goodIn_r _ [6, 7, 8, 9, 10, 11, 5, 12, 13, 14, 15, 16, 17, 22, 23, 24, 25, 26] (by decide +kernel) (by decide +kernel)
set_option maxRecDepth 20000 in
theorem gX2_learnTones_X2_learnTone : GoodIn wsX2_learnTones (wsV RX2 68 RX2 yX2_learnTone wsX2_learnTone) := goodIn_app (goodIn_of _ (by decide +kernel)) ggX2_learnTones_X2_learnTone
set_option maxRecDepth 20000 in
theorem ggX2_learnTones_X2_allDots : GoodIn wsX2_learnTones wsX2_allDots := goodIn_r _ [21, 9, 10, 11, 5, 12, 13, 14, 22, 23, 24, 25, 26] (by decide +kernel) (by decide +kernel)
set_option maxRecDepth 20000 in
theorem gX2_learnTones_X2_allDots : GoodIn wsX2_learnTones (wsV RX2 72 RX2 yX2_allDots wsX2_allDots) := goodIn_app (goodIn_of _ (by decide +kernel)) ggX2_learnTones_X2_allDots
theorem dX2_learnTones_0 : decode cX2_learnTones 0 = .ok (.aload_n 0, 1) := by decide +kernel
theorem dX2_learnTones_1 : decode cX2_learnTones 1 = .ok (.iconst 3, 1) := by decide +kernel
theorem dX2_learnTones_2 : decode cX2_learnTones 2 = .ok (.lload_n 1, 1) := by decide +kernel
theorem dX2_learnTones_3 : decode cX2_learnTones 3 = .ok (.invokevirtual 68, 3) := by decide +kernel
theorem dX2_learnTones_6 : decode cX2_learnTones 6 = .ok (.istore_n 3, 1) := by decide +kernel
theorem dX2_learnTones_7 : decode cX2_learnTones 7 = .ok (.aload_n 0, 1) := by decide +kernel
theorem dX2_learnTones_8 : decode cX2_learnTones 8 = .ok (.iconst 4, 1) := by decide +kernel
theorem dX2_learnTones_9 : decode cX2_learnTones 9 = .ok (.aload_n 0, 1) := by decide +kernel
theorem dX2_learnTones_10 : decode cX2_learnTones 10 = .ok (.invokevirtual 72, 3) := by decide +kernel
theorem dX2_learnTones_13 : decode cX2_learnTones 13 = .ok (.lload_n 1, 1) := by decide +kernel
theorem dX2_learnTones_14 : decode cX2_learnTones 14 = .ok (.ldc2_w 76, 3) := by decide +kernel
theorem dX2_learnTones_17 : decode cX2_learnTones 17 = .ok (.lxor, 1) := by decide +kernel
theorem dX2_learnTones_18 : decode cX2_learnTones 18 = .ok (.land, 1) := by decide +kernel
theorem dX2_learnTones_19 : decode cX2_learnTones 19 = .ok (.invokevirtual 68, 3) := by decide +kernel
theorem dX2_learnTones_22 : decode cX2_learnTones 22 = .ok (.istore 4, 2) := by decide +kernel
theorem dX2_learnTones_24 : decode cX2_learnTones 24 = .ok (.iload_n 3, 1) := by decide +kernel
theorem dX2_learnTones_25 : decode cX2_learnTones 25 = .ok (.ifCond .ne 8, 3) := by decide +kernel
theorem dX2_learnTones_28 : decode cX2_learnTones 28 = .ok (.iload 4, 2) := by decide +kernel
theorem dX2_learnTones_30 : decode cX2_learnTones 30 = .ok (.ifCond .eq 7, 3) := by decide +kernel
theorem dX2_learnTones_33 : decode cX2_learnTones 33 = .ok (.iconst 1, 1) := by decide +kernel
theorem dX2_learnTones_34 : decode cX2_learnTones 34 = .ok (.goto 4, 3) := by decide +kernel
theorem dX2_learnTones_37 : decode cX2_learnTones 37 = .ok (.iconst 0, 1) := by decide +kernel
theorem dX2_learnTones_38 : decode cX2_learnTones 38 = .ok (.ireturn, 1) := by decide +kernel
set_option maxRecDepth 20000 in
theorem ggX2_learnTone_X2_dots : GoodIn wsX2_learnTone wsX2_dots := goodIn_r _ [7, 8, 9, 13, 14, 15, 16, 17] (by decide +kernel) (by decide +kernel)
set_option maxRecDepth 20000 in
theorem gX2_learnTone_X2_dots : GoodIn wsX2_learnTone (wsV RX2 34 RX2 yX2_dots wsX2_dots) := goodIn_app (goodIn_of _ (by decide +kernel)) ggX2_learnTone_X2_dots
set_option maxRecDepth 20000 in
theorem ggX2_learnTone_X4_has : GoodIn wsX2_learnTone wsX4_has := goodIn_r _ [12] (by decide +kernel) (by decide +kernel)
set_option maxRecDepth 20000 in
theorem gX2_learnTone_X4_has_n64 : GoodIn wsX2_learnTone (wsX4_has) := ggX2_learnTone_X4_has
theorem dX2_learnTone_0 : decode cX2_learnTone 0 = .ok (.iconst 0, 1) := by decide +kernel
theorem dX2_learnTone_1 : decode cX2_learnTone 1 = .ok (.istore 4, 2) := by decide +kernel
theorem dX2_learnTone_3 : decode cX2_learnTone 3 = .ok (.iconst 0, 1) := by decide +kernel
theorem dX2_learnTone_4 : decode cX2_learnTone 4 = .ok (.istore 5, 2) := by decide +kernel
theorem dX2_learnTone_6 : decode cX2_learnTone 6 = .ok (.iconst 0, 1) := by decide +kernel
theorem dX2_learnTone_7 : decode cX2_learnTone 7 = .ok (.istore 6, 2) := by decide +kernel
theorem dX2_learnTone_9 : decode cX2_learnTone 9 = .ok (.iload 6, 2) := by decide +kernel
theorem dX2_learnTone_11 : decode cX2_learnTone 11 = .ok (.aload_n 0, 1) := by decide +kernel
theorem dX2_learnTone_12 : decode cX2_learnTone 12 = .ok (.invokevirtual 34, 3) := by decide +kernel
theorem dX2_learnTone_15 : decode cX2_learnTone 15 = .ok (.if_icmp .ge 33, 3) := by decide +kernel
theorem dX2_learnTone_18 : decode cX2_learnTone 18 = .ok (.lload_n 2, 1) := by decide +kernel
theorem dX2_learnTone_19 : decode cX2_learnTone 19 = .ok (.iload 6, 2) := by decide +kernel
theorem dX2_learnTone_21 : decode cX2_learnTone 21 = .ok (.invokestatic 64, 3) := by decide +kernel
theorem dX2_learnTone_24 : decode cX2_learnTone 24 = .ok (.ifCond .eq 18, 3) := by decide +kernel
theorem dX2_learnTone_27 : decode cX2_learnTone 27 = .ok (.iinc 4 1, 3) := by decide +kernel
theorem dX2_learnTone_30 : decode cX2_learnTone 30 = .ok (.iload 5, 2) := by decide +kernel
theorem dX2_learnTone_32 : decode cX2_learnTone 32 = .ok (.aload_n 0, 1) := by decide +kernel
theorem dX2_learnTone_33 : decode cX2_learnTone 33 = .ok (.getfield 15, 3) := by decide +kernel
theorem dX2_learnTone_36 : decode cX2_learnTone 36 = .ok (.iload 6, 2) := by decide +kernel
theorem dX2_learnTone_38 : decode cX2_learnTone 38 = .ok (.iaload, 1) := by decide +kernel
theorem dX2_learnTone_39 : decode cX2_learnTone 39 = .ok (.iadd, 1) := by decide +kernel
theorem dX2_learnTone_40 : decode cX2_learnTone 40 = .ok (.istore 5, 2) := by decide +kernel
theorem dX2_learnTone_42 : decode cX2_learnTone 42 = .ok (.iinc 6 1, 3) := by decide +kernel
theorem dX2_learnTone_45 : decode cX2_learnTone 45 = .ok (.goto (-36), 3) := by decide +kernel
theorem dX2_learnTone_48 : decode cX2_learnTone 48 = .ok (.aload_n 0, 1) := by decide +kernel
theorem dX2_learnTone_49 : decode cX2_learnTone 49 = .ok (.getfield 9, 3) := by decide +kernel
theorem dX2_learnTone_52 : decode cX2_learnTone 52 = .ok (.iload_n 1, 1) := by decide +kernel
theorem dX2_learnTone_53 : decode cX2_learnTone 53 = .ok (.iaload, 1) := by decide +kernel
theorem dX2_learnTone_54 : decode cX2_learnTone 54 = .ok (.istore 6, 2) := by decide +kernel
theorem dX2_learnTone_56 : decode cX2_learnTone 56 = .ok (.iload 4, 2) := by decide +kernel
theorem dX2_learnTone_58 : decode cX2_learnTone 58 = .ok (.ifCond .le 14, 3) := by decide +kernel
theorem dX2_learnTone_61 : decode cX2_learnTone 61 = .ok (.aload_n 0, 1) := by decide +kernel
theorem dX2_learnTone_62 : decode cX2_learnTone 62 = .ok (.getfield 9, 3) := by decide +kernel
theorem dX2_learnTone_65 : decode cX2_learnTone 65 = .ok (.iload_n 1, 1) := by decide +kernel
theorem dX2_learnTone_66 : decode cX2_learnTone 66 = .ok (.iload 5, 2) := by decide +kernel
theorem dX2_learnTone_68 : decode cX2_learnTone 68 = .ok (.iload 4, 2) := by decide +kernel
theorem dX2_learnTone_70 : decode cX2_learnTone 70 = .ok (.idiv, 1) := by decide +kernel
theorem dX2_learnTone_71 : decode cX2_learnTone 71 = .ok (.iastore, 1) := by decide +kernel
theorem dX2_learnTone_72 : decode cX2_learnTone 72 = .ok (.aload_n 0, 1) := by decide +kernel
theorem dX2_learnTone_73 : decode cX2_learnTone 73 = .ok (.getfield 9, 3) := by decide +kernel
theorem dX2_learnTone_76 : decode cX2_learnTone 76 = .ok (.iload_n 1, 1) := by decide +kernel
theorem dX2_learnTone_77 : decode cX2_learnTone 77 = .ok (.iaload, 1) := by decide +kernel
theorem dX2_learnTone_78 : decode cX2_learnTone 78 = .ok (.iload 6, 2) := by decide +kernel
theorem dX2_learnTone_80 : decode cX2_learnTone 80 = .ok (.if_icmp .eq 7, 3) := by decide +kernel
theorem dX2_learnTone_83 : decode cX2_learnTone 83 = .ok (.iconst 1, 1) := by decide +kernel
theorem dX2_learnTone_84 : decode cX2_learnTone 84 = .ok (.goto 4, 3) := by decide +kernel
theorem dX2_learnTone_87 : decode cX2_learnTone 87 = .ok (.iconst 0, 1) := by decide +kernel
theorem dX2_learnTone_88 : decode cX2_learnTone 88 = .ok (.ireturn, 1) := by decide +kernel
set_option maxRecDepth 20000 in
theorem ggX2_isCutOut_X2_dots : GoodIn wsX2_isCutOut wsX2_dots := goodIn_r _ [6, 7, 8, 12, 13, 14, 15, 16] (by decide +kernel) (by decide +kernel)
set_option maxRecDepth 20000 in
theorem gX2_isCutOut_X2_dots : GoodIn wsX2_isCutOut (wsV RX2 34 RX2 yX2_dots wsX2_dots) := goodIn_app (goodIn_of _ (by decide +kernel)) ggX2_isCutOut_X2_dots
set_option maxRecDepth 20000 in
theorem ggX2_isCutOut_X4_has : GoodIn wsX2_isCutOut wsX4_has := goodIn_r _ [11] (by decide +kernel) (by decide +kernel)
set_option maxRecDepth 20000 in
theorem gX2_isCutOut_X4_has_n64 : GoodIn wsX2_isCutOut (wsX4_has) := ggX2_isCutOut_X4_has
theorem dX2_isCutOut_0 : decode cX2_isCutOut 0 = .ok (.iconst 0, 1) := by decide +kernel
theorem dX2_isCutOut_1 : decode cX2_isCutOut 1 = .ok (.istore_n 3, 1) := by decide +kernel
theorem dX2_isCutOut_2 : decode cX2_isCutOut 2 = .ok (.iload_n 3, 1) := by decide +kernel
theorem dX2_isCutOut_3 : decode cX2_isCutOut 3 = .ok (.aload_n 0, 1) := by decide +kernel
theorem dX2_isCutOut_4 : decode cX2_isCutOut 4 = .ok (.invokevirtual 34, 3) := by decide +kernel
theorem dX2_isCutOut_7 : decode cX2_isCutOut 7 = .ok (.if_icmp .ge 33, 3) := by decide +kernel
theorem dX2_isCutOut_10 : decode cX2_isCutOut 10 = .ok (.aload_n 0, 1) := by decide +kernel
theorem dX2_isCutOut_11 : decode cX2_isCutOut 11 = .ok (.getfield 18, 3) := by decide +kernel
theorem dX2_isCutOut_14 : decode cX2_isCutOut 14 = .ok (.iload_n 3, 1) := by decide +kernel
theorem dX2_isCutOut_15 : decode cX2_isCutOut 15 = .ok (.iaload, 1) := by decide +kernel
theorem dX2_isCutOut_16 : decode cX2_isCutOut 16 = .ok (.lload_n 1, 1) := by decide +kernel
theorem dX2_isCutOut_17 : decode cX2_isCutOut 17 = .ok (.iload_n 3, 1) := by decide +kernel
theorem dX2_isCutOut_18 : decode cX2_isCutOut 18 = .ok (.invokestatic 64, 3) := by decide +kernel
theorem dX2_isCutOut_21 : decode cX2_isCutOut 21 = .ok (.ifCond .eq 7, 3) := by decide +kernel
theorem dX2_isCutOut_24 : decode cX2_isCutOut 24 = .ok (.iconst 2, 1) := by decide +kernel
theorem dX2_isCutOut_25 : decode cX2_isCutOut 25 = .ok (.goto 4, 3) := by decide +kernel
theorem dX2_isCutOut_28 : decode cX2_isCutOut 28 = .ok (.iconst 1, 1) := by decide +kernel
theorem dX2_isCutOut_29 : decode cX2_isCutOut 29 = .ok (.if_icmp .ne 5, 3) := by decide +kernel
theorem dX2_isCutOut_32 : decode cX2_isCutOut 32 = .ok (.iconst 0, 1) := by decide +kernel
theorem dX2_isCutOut_33 : decode cX2_isCutOut 33 = .ok (.ireturn, 1) := by decide +kernel
theorem dX2_isCutOut_34 : decode cX2_isCutOut 34 = .ok (.iinc 3 1, 3) := by decide +kernel
theorem dX2_isCutOut_37 : decode cX2_isCutOut 37 = .ok (.goto (-35), 3) := by decide +kernel
theorem dX2_isCutOut_40 : decode cX2_isCutOut 40 = .ok (.iconst 1, 1) := by decide +kernel
theorem dX2_isCutOut_41 : decode cX2_isCutOut 41 = .ok (.ireturn, 1) := by decide +kernel
set_option maxRecDepth 20000 in
theorem ggX2_costOf_X2_numberOf : GoodIn wsX2_costOf wsX2_numberOf := goodIn_r _ [7, 2, 40, 41, 42, 43, 44] (by decide +kernel) (by decide +kernel)
set_option maxRecDepth 20000 in
theorem gX2_costOf_X2_numberOf : GoodIn wsX2_costOf (wsV RX2 48 RX2 yX2_numberOf wsX2_numberOf) := goodIn_app (goodIn_of _ (by decide +kernel)) ggX2_costOf_X2_numberOf
set_option maxRecDepth 20000 in
theorem ggX2_costOf_X4_has : GoodIn wsX2_costOf wsX4_has := goodIn_r _ [10] (by decide +kernel) (by decide +kernel)
set_option maxRecDepth 20000 in
theorem gX2_costOf_X4_has_n64 : GoodIn wsX2_costOf (wsX4_has) := ggX2_costOf_X4_has
set_option maxRecDepth 20000 in
theorem ggX2_costOf_X2_pullFrom : GoodIn wsX2_costOf wsX2_pullFrom := goodIn_r _ [14, 15, 16, 17, 18, 19, 20, 40, 41, 42, 43, 44] (by decide +kernel) (by decide +kernel)
set_option maxRecDepth 20000 in
theorem gX2_costOf_X2_pullFrom : GoodIn wsX2_costOf (wsV RX2 78 RX2 yX2_pullFrom wsX2_pullFrom) := goodIn_app (goodIn_of _ (by decide +kernel)) ggX2_costOf_X2_pullFrom
set_option maxRecDepth 20000 in
theorem ggX2_costOf_X2_linkCosts : GoodIn wsX2_costOf wsX2_linkCosts := goodIn_r _ [24, 3, 4, 5, 6, 7, 2, 25, 26, 27, 28, 15, 29, 30, 31, 32, 1, 8, 9, 10, 33, 34, 35, 36, 16, 17, 18, 19, 20, 37, 38, 39, 40, 41, 42, 43, 44] (by decide +kernel) (by decide +kernel)
set_option maxRecDepth 20000 in
theorem gX2_costOf_X2_linkCosts : GoodIn wsX2_costOf (wsV RX2 81 RX2 yX2_linkCosts wsX2_linkCosts) := goodIn_app (goodIn_of _ (by decide +kernel)) ggX2_costOf_X2_linkCosts
theorem dX2_costOf_0 : decode cX2_costOf 0 = .ok (.iconst 0, 1) := by decide +kernel
theorem dX2_costOf_1 : decode cX2_costOf 1 = .ok (.istore_n 3, 1) := by decide +kernel
theorem dX2_costOf_2 : decode cX2_costOf 2 = .ok (.iconst 0, 1) := by decide +kernel
theorem dX2_costOf_3 : decode cX2_costOf 3 = .ok (.istore 4, 2) := by decide +kernel
theorem dX2_costOf_5 : decode cX2_costOf 5 = .ok (.iload 4, 2) := by decide +kernel
theorem dX2_costOf_7 : decode cX2_costOf 7 = .ok (.aload_n 0, 1) := by decide +kernel
theorem dX2_costOf_8 : decode cX2_costOf 8 = .ok (.getfield 25, 3) := by decide +kernel
theorem dX2_costOf_11 : decode cX2_costOf 11 = .ok (.if_icmp .ge 72, 3) := by decide +kernel
theorem dX2_costOf_14 : decode cX2_costOf 14 = .ok (.iconst 0, 1) := by decide +kernel
theorem dX2_costOf_15 : decode cX2_costOf 15 = .ok (.istore 5, 2) := by decide +kernel
theorem dX2_costOf_17 : decode cX2_costOf 17 = .ok (.iload 5, 2) := by decide +kernel
theorem dX2_costOf_19 : decode cX2_costOf 19 = .ok (.aload_n 0, 1) := by decide +kernel
theorem dX2_costOf_20 : decode cX2_costOf 20 = .ok (.getfield 21, 3) := by decide +kernel
theorem dX2_costOf_23 : decode cX2_costOf 23 = .ok (.if_icmp .ge 54, 3) := by decide +kernel
theorem dX2_costOf_26 : decode cX2_costOf 26 = .ok (.aload_n 0, 1) := by decide +kernel
theorem dX2_costOf_27 : decode cX2_costOf 27 = .ok (.iload 5, 2) := by decide +kernel
theorem dX2_costOf_29 : decode cX2_costOf 29 = .ok (.iload 4, 2) := by decide +kernel
theorem dX2_costOf_31 : decode cX2_costOf 31 = .ok (.invokevirtual 48, 3) := by decide +kernel
theorem dX2_costOf_34 : decode cX2_costOf 34 = .ok (.istore 6, 2) := by decide +kernel
theorem dX2_costOf_36 : decode cX2_costOf 36 = .ok (.iload_n 3, 1) := by decide +kernel
theorem dX2_costOf_37 : decode cX2_costOf 37 = .ok (.aload_n 0, 1) := by decide +kernel
theorem dX2_costOf_38 : decode cX2_costOf 38 = .ok (.iload 6, 2) := by decide +kernel
theorem dX2_costOf_40 : decode cX2_costOf 40 = .ok (.lload_n 1, 1) := by decide +kernel
theorem dX2_costOf_41 : decode cX2_costOf 41 = .ok (.iload 6, 2) := by decide +kernel
theorem dX2_costOf_43 : decode cX2_costOf 43 = .ok (.invokestatic 64, 3) := by decide +kernel
theorem dX2_costOf_46 : decode cX2_costOf 46 = .ok (.ifCond .eq 7, 3) := by decide +kernel
theorem dX2_costOf_49 : decode cX2_costOf 49 = .ok (.iconst 3, 1) := by decide +kernel
theorem dX2_costOf_50 : decode cX2_costOf 50 = .ok (.goto 4, 3) := by decide +kernel
theorem dX2_costOf_53 : decode cX2_costOf 53 = .ok (.iconst 4, 1) := by decide +kernel
theorem dX2_costOf_54 : decode cX2_costOf 54 = .ok (.invokevirtual 78, 3) := by decide +kernel
theorem dX2_costOf_57 : decode cX2_costOf 57 = .ok (.iadd, 1) := by decide +kernel
theorem dX2_costOf_58 : decode cX2_costOf 58 = .ok (.istore_n 3, 1) := by decide +kernel
theorem dX2_costOf_59 : decode cX2_costOf 59 = .ok (.iload_n 3, 1) := by decide +kernel
theorem dX2_costOf_60 : decode cX2_costOf 60 = .ok (.aload_n 0, 1) := by decide +kernel
theorem dX2_costOf_61 : decode cX2_costOf 61 = .ok (.lload_n 1, 1) := by decide +kernel
theorem dX2_costOf_62 : decode cX2_costOf 62 = .ok (.iload 5, 2) := by decide +kernel
theorem dX2_costOf_64 : decode cX2_costOf 64 = .ok (.iload 4, 2) := by decide +kernel
theorem dX2_costOf_66 : decode cX2_costOf 66 = .ok (.invokevirtual 81, 3) := by decide +kernel
theorem dX2_costOf_69 : decode cX2_costOf 69 = .ok (.iadd, 1) := by decide +kernel
theorem dX2_costOf_70 : decode cX2_costOf 70 = .ok (.istore_n 3, 1) := by decide +kernel
theorem dX2_costOf_71 : decode cX2_costOf 71 = .ok (.iinc 5 1, 3) := by decide +kernel
theorem dX2_costOf_74 : decode cX2_costOf 74 = .ok (.goto (-57), 3) := by decide +kernel
theorem dX2_costOf_77 : decode cX2_costOf 77 = .ok (.iinc 4 1, 3) := by decide +kernel
theorem dX2_costOf_80 : decode cX2_costOf 80 = .ok (.goto (-75), 3) := by decide +kernel
theorem dX2_costOf_83 : decode cX2_costOf 83 = .ok (.iload_n 3, 1) := by decide +kernel
theorem dX2_costOf_84 : decode cX2_costOf 84 = .ok (.ireturn, 1) := by decide +kernel
set_option maxRecDepth 20000 in
theorem ggX2_linkCosts_X2_numberOf : GoodIn wsX2_linkCosts wsX2_numberOf := goodIn_r _ [5, 6, 32, 33, 34, 35, 36] (by decide +kernel) (by decide +kernel)
set_option maxRecDepth 20000 in
theorem gX2_linkCosts_X2_numberOf : GoodIn wsX2_linkCosts (wsV RX2 48 RX2 yX2_numberOf wsX2_numberOf) := goodIn_app (goodIn_of _ (by decide +kernel)) ggX2_linkCosts_X2_numberOf
set_option maxRecDepth 20000 in
theorem ggX2_linkCosts_X2_linkedTo : GoodIn wsX2_linkCosts wsX2_linkedTo := goodIn_r _ [10, 11, 12, 13, 14, 4, 15, 6, 16, 1, 2, 3, 5, 32, 33, 34, 35, 36] (by decide +kernel) (by decide +kernel)
set_option maxRecDepth 20000 in
theorem gX2_linkCosts_X2_linkedTo : GoodIn wsX2_linkCosts (wsV RX2 85 RX2 yX2_linkedTo wsX2_linkedTo) := goodIn_app (goodIn_of _ (by decide +kernel)) ggX2_linkCosts_X2_linkedTo
set_option maxRecDepth 20000 in
theorem ggX2_linkCosts_X4_has : GoodIn wsX2_linkCosts wsX4_has := goodIn_r _ [19] (by decide +kernel) (by decide +kernel)
set_option maxRecDepth 20000 in
theorem gX2_linkCosts_X4_has_n64 : GoodIn wsX2_linkCosts (wsX4_has) := ggX2_linkCosts_X4_has
set_option maxRecDepth 20000 in
theorem ggX2_linkCosts_X2_weightOf : GoodIn wsX2_linkCosts wsX2_weightOf := goodIn_r _ [23, 24, 25, 26, 27, 28, 11, 29, 30, 31, 32, 33, 34, 35, 36] (by decide +kernel) (by decide +kernel)
set_option maxRecDepth 20000 in
theorem gX2_linkCosts_X2_weightOf : GoodIn wsX2_linkCosts (wsV RX2 89 RX2 yX2_weightOf wsX2_weightOf) := goodIn_app (goodIn_of _ (by decide +kernel)) ggX2_linkCosts_X2_weightOf
theorem dX2_linkCosts_0 : decode cX2_linkCosts 0 = .ok (.aload_n 0, 1) := by decide +kernel
theorem dX2_linkCosts_1 : decode cX2_linkCosts 1 = .ok (.iload_n 3, 1) := by decide +kernel
theorem dX2_linkCosts_2 : decode cX2_linkCosts 2 = .ok (.iload 4, 2) := by decide +kernel
theorem dX2_linkCosts_4 : decode cX2_linkCosts 4 = .ok (.invokevirtual 48, 3) := by decide +kernel
theorem dX2_linkCosts_7 : decode cX2_linkCosts 7 = .ok (.istore 5, 2) := by decide +kernel
theorem dX2_linkCosts_9 : decode cX2_linkCosts 9 = .ok (.iconst 0, 1) := by decide +kernel
theorem dX2_linkCosts_10 : decode cX2_linkCosts 10 = .ok (.istore 6, 2) := by decide +kernel
theorem dX2_linkCosts_12 : decode cX2_linkCosts 12 = .ok (.iconst 0, 1) := by decide +kernel
theorem dX2_linkCosts_13 : decode cX2_linkCosts 13 = .ok (.istore 7, 2) := by decide +kernel
theorem dX2_linkCosts_15 : decode cX2_linkCosts 15 = .ok (.iload 7, 2) := by decide +kernel
theorem dX2_linkCosts_17 : decode cX2_linkCosts 17 = .ok (.iconst 4, 1) := by decide +kernel
theorem dX2_linkCosts_18 : decode cX2_linkCosts 18 = .ok (.if_icmp .ge 56, 3) := by decide +kernel
theorem dX2_linkCosts_21 : decode cX2_linkCosts 21 = .ok (.aload_n 0, 1) := by decide +kernel
theorem dX2_linkCosts_22 : decode cX2_linkCosts 22 = .ok (.iload_n 3, 1) := by decide +kernel
theorem dX2_linkCosts_23 : decode cX2_linkCosts 23 = .ok (.iload 4, 2) := by decide +kernel
theorem dX2_linkCosts_25 : decode cX2_linkCosts 25 = .ok (.iload 7, 2) := by decide +kernel
theorem dX2_linkCosts_27 : decode cX2_linkCosts 27 = .ok (.invokevirtual 85, 3) := by decide +kernel
theorem dX2_linkCosts_30 : decode cX2_linkCosts 30 = .ok (.istore 8, 2) := by decide +kernel
theorem dX2_linkCosts_32 : decode cX2_linkCosts 32 = .ok (.iload 8, 2) := by decide +kernel
theorem dX2_linkCosts_34 : decode cX2_linkCosts 34 = .ok (.iconst (-1), 1) := by decide +kernel
theorem dX2_linkCosts_35 : decode cX2_linkCosts 35 = .ok (.if_icmp .eq 33, 3) := by decide +kernel
theorem dX2_linkCosts_38 : decode cX2_linkCosts 38 = .ok (.lload_n 1, 1) := by decide +kernel
theorem dX2_linkCosts_39 : decode cX2_linkCosts 39 = .ok (.iload 5, 2) := by decide +kernel
theorem dX2_linkCosts_41 : decode cX2_linkCosts 41 = .ok (.invokestatic 64, 3) := by decide +kernel
theorem dX2_linkCosts_44 : decode cX2_linkCosts 44 = .ok (.lload_n 1, 1) := by decide +kernel
theorem dX2_linkCosts_45 : decode cX2_linkCosts 45 = .ok (.iload 8, 2) := by decide +kernel
theorem dX2_linkCosts_47 : decode cX2_linkCosts 47 = .ok (.invokestatic 64, 3) := by decide +kernel
theorem dX2_linkCosts_50 : decode cX2_linkCosts 50 = .ok (.if_icmp .eq 18, 3) := by decide +kernel
theorem dX2_linkCosts_53 : decode cX2_linkCosts 53 = .ok (.iload 6, 2) := by decide +kernel
theorem dX2_linkCosts_55 : decode cX2_linkCosts 55 = .ok (.aload_n 0, 1) := by decide +kernel
theorem dX2_linkCosts_56 : decode cX2_linkCosts 56 = .ok (.iload 5, 2) := by decide +kernel
theorem dX2_linkCosts_58 : decode cX2_linkCosts 58 = .ok (.iload 8, 2) := by decide +kernel
theorem dX2_linkCosts_60 : decode cX2_linkCosts 60 = .ok (.iload 7, 2) := by decide +kernel
theorem dX2_linkCosts_62 : decode cX2_linkCosts 62 = .ok (.invokevirtual 89, 3) := by decide +kernel
theorem dX2_linkCosts_65 : decode cX2_linkCosts 65 = .ok (.iadd, 1) := by decide +kernel
theorem dX2_linkCosts_66 : decode cX2_linkCosts 66 = .ok (.istore 6, 2) := by decide +kernel
theorem dX2_linkCosts_68 : decode cX2_linkCosts 68 = .ok (.iinc 7 1, 3) := by decide +kernel
theorem dX2_linkCosts_71 : decode cX2_linkCosts 71 = .ok (.goto (-56), 3) := by decide +kernel
theorem dX2_linkCosts_74 : decode cX2_linkCosts 74 = .ok (.iload 6, 2) := by decide +kernel
theorem dX2_linkCosts_76 : decode cX2_linkCosts 76 = .ok (.ireturn, 1) := by decide +kernel
set_option maxRecDepth 20000 in
theorem ggX2_column_X2_numberOf : GoodIn wsX2_column wsX2_numberOf := goodIn_r _ [6, 7, 8, 9, 10, 11, 12] (by decide +kernel) (by decide +kernel)
set_option maxRecDepth 20000 in
theorem gX2_column_X2_numberOf : GoodIn wsX2_column (wsV RX2 48 RX2 yX2_numberOf wsX2_numberOf) := goodIn_app (goodIn_of _ (by decide +kernel)) ggX2_column_X2_numberOf
theorem dX2_column_0 : decode cX2_column 0 = .ok (.lconst 0, 1) := by decide +kernel
theorem dX2_column_1 : decode cX2_column 1 = .ok (.lstore_n 2, 1) := by decide +kernel
theorem dX2_column_2 : decode cX2_column 2 = .ok (.iconst 0, 1) := by decide +kernel
theorem dX2_column_3 : decode cX2_column 3 = .ok (.istore 4, 2) := by decide +kernel
theorem dX2_column_5 : decode cX2_column 5 = .ok (.iload 4, 2) := by decide +kernel
theorem dX2_column_7 : decode cX2_column 7 = .ok (.aload_n 0, 1) := by decide +kernel
theorem dX2_column_8 : decode cX2_column 8 = .ok (.getfield 25, 3) := by decide +kernel
theorem dX2_column_11 : decode cX2_column 11 = .ok (.if_icmp .ge 21, 3) := by decide +kernel
theorem dX2_column_14 : decode cX2_column 14 = .ok (.lload_n 2, 1) := by decide +kernel
theorem dX2_column_15 : decode cX2_column 15 = .ok (.lconst 1, 1) := by decide +kernel
theorem dX2_column_16 : decode cX2_column 16 = .ok (.aload_n 0, 1) := by decide +kernel
theorem dX2_column_17 : decode cX2_column 17 = .ok (.iload_n 1, 1) := by decide +kernel
theorem dX2_column_18 : decode cX2_column 18 = .ok (.iload 4, 2) := by decide +kernel
theorem dX2_column_20 : decode cX2_column 20 = .ok (.invokevirtual 48, 3) := by decide +kernel
theorem dX2_column_23 : decode cX2_column 23 = .ok (.lshl, 1) := by decide +kernel
theorem dX2_column_24 : decode cX2_column 24 = .ok (.lor, 1) := by decide +kernel
theorem dX2_column_25 : decode cX2_column 25 = .ok (.lstore_n 2, 1) := by decide +kernel
theorem dX2_column_26 : decode cX2_column 26 = .ok (.iinc 4 1, 3) := by decide +kernel
theorem dX2_column_29 : decode cX2_column 29 = .ok (.goto (-24), 3) := by decide +kernel
theorem dX2_column_32 : decode cX2_column 32 = .ok (.lload_n 2, 1) := by decide +kernel
theorem dX2_column_33 : decode cX2_column 33 = .ok (.lreturn, 1) := by decide +kernel
set_option maxRecDepth 20000 in
theorem ggX2_row_X2_numberOf : GoodIn wsX2_row wsX2_numberOf := goodIn_r _ [6, 1, 7, 8, 9, 10, 11] (by decide +kernel) (by decide +kernel)
set_option maxRecDepth 20000 in
theorem gX2_row_X2_numberOf : GoodIn wsX2_row (wsV RX2 48 RX2 yX2_numberOf wsX2_numberOf) := goodIn_app (goodIn_of _ (by decide +kernel)) ggX2_row_X2_numberOf
theorem dX2_row_0 : decode cX2_row 0 = .ok (.lconst 0, 1) := by decide +kernel
theorem dX2_row_1 : decode cX2_row 1 = .ok (.lstore_n 2, 1) := by decide +kernel
theorem dX2_row_2 : decode cX2_row 2 = .ok (.iconst 0, 1) := by decide +kernel
theorem dX2_row_3 : decode cX2_row 3 = .ok (.istore 4, 2) := by decide +kernel
theorem dX2_row_5 : decode cX2_row 5 = .ok (.iload 4, 2) := by decide +kernel
theorem dX2_row_7 : decode cX2_row 7 = .ok (.aload_n 0, 1) := by decide +kernel
theorem dX2_row_8 : decode cX2_row 8 = .ok (.getfield 21, 3) := by decide +kernel
theorem dX2_row_11 : decode cX2_row 11 = .ok (.if_icmp .ge 21, 3) := by decide +kernel
theorem dX2_row_14 : decode cX2_row 14 = .ok (.lload_n 2, 1) := by decide +kernel
theorem dX2_row_15 : decode cX2_row 15 = .ok (.lconst 1, 1) := by decide +kernel
theorem dX2_row_16 : decode cX2_row 16 = .ok (.aload_n 0, 1) := by decide +kernel
theorem dX2_row_17 : decode cX2_row 17 = .ok (.iload 4, 2) := by decide +kernel
theorem dX2_row_19 : decode cX2_row 19 = .ok (.iload_n 1, 1) := by decide +kernel
theorem dX2_row_20 : decode cX2_row 20 = .ok (.invokevirtual 48, 3) := by decide +kernel
theorem dX2_row_23 : decode cX2_row 23 = .ok (.lshl, 1) := by decide +kernel
theorem dX2_row_24 : decode cX2_row 24 = .ok (.lor, 1) := by decide +kernel
theorem dX2_row_25 : decode cX2_row 25 = .ok (.lstore_n 2, 1) := by decide +kernel
theorem dX2_row_26 : decode cX2_row 26 = .ok (.iinc 4 1, 3) := by decide +kernel
theorem dX2_row_29 : decode cX2_row 29 = .ok (.goto (-24), 3) := by decide +kernel
theorem dX2_row_32 : decode cX2_row 32 = .ok (.lload_n 2, 1) := by decide +kernel
theorem dX2_row_33 : decode cX2_row 33 = .ok (.lreturn, 1) := by decide +kernel
set_option maxRecDepth 20000 in
theorem ggX2_border_X2_column : GoodIn wsX2_border wsX2_column := goodIn_r _ [7, 2, 8, 9, 10, 6, 11, 1, 16, 17, 18, 19, 20] (by decide +kernel) (by decide +kernel)
set_option maxRecDepth 20000 in
theorem gX2_border_X2_column : GoodIn wsX2_border (wsV RX2 92 RX2 yX2_column wsX2_column) := goodIn_app (goodIn_of _ (by decide +kernel)) ggX2_border_X2_column
set_option maxRecDepth 20000 in
theorem ggX2_border_X2_row : GoodIn wsX2_border wsX2_row := goodIn_r _ [15, 1, 8, 9, 10, 6, 11, 16, 17, 18, 19, 20] (by decide +kernel) (by decide +kernel)
set_option maxRecDepth 20000 in
theorem gX2_border_X2_row : GoodIn wsX2_border (wsV RX2 96 RX2 yX2_row wsX2_row) := goodIn_app (goodIn_of _ (by decide +kernel)) ggX2_border_X2_row
theorem dX2_border_0 : decode cX2_border 0 = .ok (.aload_n 0, 1) := by decide +kernel
theorem dX2_border_1 : decode cX2_border 1 = .ok (.iconst 0, 1) := by decide +kernel
theorem dX2_border_2 : decode cX2_border 2 = .ok (.invokevirtual 92, 3) := by decide +kernel
theorem dX2_border_5 : decode cX2_border 5 = .ok (.aload_n 0, 1) := by decide +kernel
theorem dX2_border_6 : decode cX2_border 6 = .ok (.aload_n 0, 1) := by decide +kernel
theorem dX2_border_7 : decode cX2_border 7 = .ok (.getfield 21, 3) := by decide +kernel
theorem dX2_border_10 : decode cX2_border 10 = .ok (.iconst 1, 1) := by decide +kernel
theorem dX2_border_11 : decode cX2_border 11 = .ok (.isub, 1) := by decide +kernel
theorem dX2_border_12 : decode cX2_border 12 = .ok (.invokevirtual 92, 3) := by decide +kernel
theorem dX2_border_15 : decode cX2_border 15 = .ok (.lor, 1) := by decide +kernel
theorem dX2_border_16 : decode cX2_border 16 = .ok (.aload_n 0, 1) := by decide +kernel
theorem dX2_border_17 : decode cX2_border 17 = .ok (.iconst 0, 1) := by decide +kernel
theorem dX2_border_18 : decode cX2_border 18 = .ok (.invokevirtual 96, 3) := by decide +kernel
theorem dX2_border_21 : decode cX2_border 21 = .ok (.lor, 1) := by decide +kernel
theorem dX2_border_22 : decode cX2_border 22 = .ok (.aload_n 0, 1) := by decide +kernel
theorem dX2_border_23 : decode cX2_border 23 = .ok (.aload_n 0, 1) := by decide +kernel
theorem dX2_border_24 : decode cX2_border 24 = .ok (.getfield 25, 3) := by decide +kernel
theorem dX2_border_27 : decode cX2_border 27 = .ok (.iconst 1, 1) := by decide +kernel
theorem dX2_border_28 : decode cX2_border 28 = .ok (.isub, 1) := by decide +kernel
theorem dX2_border_29 : decode cX2_border 29 = .ok (.invokevirtual 96, 3) := by decide +kernel
theorem dX2_border_32 : decode cX2_border 32 = .ok (.lor, 1) := by decide +kernel
theorem dX2_border_33 : decode cX2_border 33 = .ok (.lreturn, 1) := by decide +kernel
set_option maxRecDepth 20000 in
theorem ggX2_pieces_X2_countPieces : GoodIn wsX2_pieces wsX2_countPieces := goodIn_r _ [5, 6, 7, 8, 9, 4, 10, 11, 12, 13, 14, 15, 16, 17, 18, 19, 20, 21, 22, 23, 24, 25, 26, 27, 28, 29] (by decide +kernel) (by decide +kernel)
set_option maxRecDepth 20000 in
theorem gX2_pieces_X2_countPieces : GoodIn wsX2_pieces (wsV RX2 99 RX2 yX2_countPieces wsX2_countPieces) := goodIn_app (goodIn_of _ (by decide +kernel)) ggX2_pieces_X2_countPieces
theorem dX2_pieces_0 : decode cX2_pieces 0 = .ok (.aload_n 0, 1) := by decide +kernel
theorem dX2_pieces_1 : decode cX2_pieces 1 = .ok (.lload_n 1, 1) := by decide +kernel
theorem dX2_pieces_2 : decode cX2_pieces 2 = .ok (.lconst 0, 1) := by decide +kernel
theorem dX2_pieces_3 : decode cX2_pieces 3 = .ok (.invokevirtual 99, 3) := by decide +kernel
theorem dX2_pieces_6 : decode cX2_pieces 6 = .ok (.ireturn, 1) := by decide +kernel
set_option maxRecDepth 20000 in
theorem ggX2_holes_X2_allDots : GoodIn wsX2_holes wsX2_allDots := goodIn_r _ [6, 7, 8, 9, 5, 10, 11, 12, 37, 38, 39, 40, 41] (by decide +kernel) (by decide +kernel)
set_option maxRecDepth 20000 in
theorem gX2_holes_X2_allDots : GoodIn wsX2_holes (wsV RX2 72 RX2 yX2_allDots wsX2_allDots) := goodIn_app (goodIn_of _ (by decide +kernel)) ggX2_holes_X2_allDots
set_option maxRecDepth 20000 in
theorem ggX2_holes_X2_border : GoodIn wsX2_holes wsX2_border := goodIn_r _ [16, 11, 12, 17, 18, 19, 5, 20, 21, 22, 23, 24, 25, 26, 27, 28, 37, 38, 39, 40, 41] (by decide +kernel) (by decide +kernel)
set_option maxRecDepth 20000 in
theorem gX2_holes_X2_border : GoodIn wsX2_holes (wsV RX2 103 RX2 yX2_border wsX2_border) := goodIn_app (goodIn_of _ (by decide +kernel)) ggX2_holes_X2_border
set_option maxRecDepth 20000 in
theorem ggX2_holes_X2_countPieces : GoodIn wsX2_holes wsX2_countPieces := goodIn_r _ [32, 1, 7, 8, 9, 5, 10, 11, 12, 33, 34, 35, 36, 17, 18, 19, 20, 21, 22, 23, 24, 37, 38, 39, 40, 41] (by decide +kernel) (by decide +kernel)
set_option maxRecDepth 20000 in
theorem gX2_holes_X2_countPieces : GoodIn wsX2_holes (wsV RX2 99 RX2 yX2_countPieces wsX2_countPieces) := goodIn_app (goodIn_of _ (by decide +kernel)) ggX2_holes_X2_countPieces
theorem dX2_holes_0 : decode cX2_holes 0 = .ok (.aload_n 0, 1) := by decide +kernel
theorem dX2_holes_1 : decode cX2_holes 1 = .ok (.aload_n 0, 1) := by decide +kernel
theorem dX2_holes_2 : decode cX2_holes 2 = .ok (.invokevirtual 72, 3) := by decide +kernel
theorem dX2_holes_5 : decode cX2_holes 5 = .ok (.lload_n 1, 1) := by decide +kernel
theorem dX2_holes_6 : decode cX2_holes 6 = .ok (.ldc2_w 76, 3) := by decide +kernel
theorem dX2_holes_9 : decode cX2_holes 9 = .ok (.lxor, 1) := by decide +kernel
theorem dX2_holes_10 : decode cX2_holes 10 = .ok (.land, 1) := by decide +kernel
theorem dX2_holes_11 : decode cX2_holes 11 = .ok (.aload_n 0, 1) := by decide +kernel
theorem dX2_holes_12 : decode cX2_holes 12 = .ok (.invokevirtual 103, 3) := by decide +kernel
theorem dX2_holes_15 : decode cX2_holes 15 = .ok (.invokevirtual 99, 3) := by decide +kernel
theorem dX2_holes_18 : decode cX2_holes 18 = .ok (.ireturn, 1) := by decide +kernel
set_option maxRecDepth 20000 in
theorem ggX2_countPieces_X2_dots : GoodIn wsX2_countPieces wsX2_dots := goodIn_r _ [6, 7, 8, 21, 22, 23, 24, 25] (by decide +kernel) (by decide +kernel)
set_option maxRecDepth 20000 in
theorem gX2_countPieces_X2_dots : GoodIn wsX2_countPieces (wsV RX2 34 RX2 yX2_dots wsX2_dots) := goodIn_app (goodIn_of _ (by decide +kernel)) ggX2_countPieces_X2_dots
set_option maxRecDepth 20000 in
theorem ggX2_countPieces_X2_pieceOf : GoodIn wsX2_countPieces wsX2_pieceOf := goodIn_r _ [12, 1, 7, 13, 14, 15, 5, 16, 8, 17, 18, 19, 20, 2, 3, 4, 6, 21, 22, 23, 24, 25] (by decide +kernel) (by decide +kernel)
set_option maxRecDepth 20000 in
theorem gX2_countPieces_X2_pieceOf : GoodIn wsX2_countPieces (wsV RX2 106 RX2 yX2_pieceOf wsX2_pieceOf) := goodIn_app (goodIn_of _ (by decide +kernel)) ggX2_countPieces_X2_pieceOf
theorem dX2_countPieces_0 : decode cX2_countPieces 0 = .ok (.lload_n 1, 1) := by decide +kernel
theorem dX2_countPieces_1 : decode cX2_countPieces 1 = .ok (.lstore 5, 2) := by decide +kernel
theorem dX2_countPieces_3 : decode cX2_countPieces 3 = .ok (.iconst 0, 1) := by decide +kernel
theorem dX2_countPieces_4 : decode cX2_countPieces 4 = .ok (.istore 7, 2) := by decide +kernel
theorem dX2_countPieces_6 : decode cX2_countPieces 6 = .ok (.iconst 0, 1) := by decide +kernel
theorem dX2_countPieces_7 : decode cX2_countPieces 7 = .ok (.istore 8, 2) := by decide +kernel
theorem dX2_countPieces_9 : decode cX2_countPieces 9 = .ok (.iload 8, 2) := by decide +kernel
theorem dX2_countPieces_11 : decode cX2_countPieces 11 = .ok (.aload_n 0, 1) := by decide +kernel
theorem dX2_countPieces_12 : decode cX2_countPieces 12 = .ok (.invokevirtual 34, 3) := by decide +kernel
theorem dX2_countPieces_15 : decode cX2_countPieces 15 = .ok (.if_icmp .ge 52, 3) := by decide +kernel
theorem dX2_countPieces_18 : decode cX2_countPieces 18 = .ok (.lload 5, 2) := by decide +kernel
theorem dX2_countPieces_20 : decode cX2_countPieces 20 = .ok (.lconst 0, 1) := by decide +kernel
theorem dX2_countPieces_21 : decode cX2_countPieces 21 = .ok (.lcmp, 1) := by decide +kernel
theorem dX2_countPieces_22 : decode cX2_countPieces 22 = .ok (.ifCond .eq 45, 3) := by decide +kernel
theorem dX2_countPieces_25 : decode cX2_countPieces 25 = .ok (.aload_n 0, 1) := by decide +kernel
theorem dX2_countPieces_26 : decode cX2_countPieces 26 = .ok (.lload 5, 2) := by decide +kernel
theorem dX2_countPieces_28 : decode cX2_countPieces 28 = .ok (.lload 5, 2) := by decide +kernel
theorem dX2_countPieces_30 : decode cX2_countPieces 30 = .ok (.lneg, 1) := by decide +kernel
theorem dX2_countPieces_31 : decode cX2_countPieces 31 = .ok (.land, 1) := by decide +kernel
theorem dX2_countPieces_32 : decode cX2_countPieces 32 = .ok (.lload_n 1, 1) := by decide +kernel
theorem dX2_countPieces_33 : decode cX2_countPieces 33 = .ok (.invokevirtual 106, 3) := by decide +kernel
theorem dX2_countPieces_36 : decode cX2_countPieces 36 = .ok (.lstore 9, 2) := by decide +kernel
theorem dX2_countPieces_38 : decode cX2_countPieces 38 = .ok (.lload 5, 2) := by decide +kernel
theorem dX2_countPieces_40 : decode cX2_countPieces 40 = .ok (.lload 9, 2) := by decide +kernel
theorem dX2_countPieces_42 : decode cX2_countPieces 42 = .ok (.ldc2_w 76, 3) := by decide +kernel
theorem dX2_countPieces_45 : decode cX2_countPieces 45 = .ok (.lxor, 1) := by decide +kernel
theorem dX2_countPieces_46 : decode cX2_countPieces 46 = .ok (.land, 1) := by decide +kernel
theorem dX2_countPieces_47 : decode cX2_countPieces 47 = .ok (.lstore 5, 2) := by decide +kernel
theorem dX2_countPieces_49 : decode cX2_countPieces 49 = .ok (.lload 9, 2) := by decide +kernel
theorem dX2_countPieces_51 : decode cX2_countPieces 51 = .ok (.lload_n 3, 1) := by decide +kernel
theorem dX2_countPieces_52 : decode cX2_countPieces 52 = .ok (.land, 1) := by decide +kernel
theorem dX2_countPieces_53 : decode cX2_countPieces 53 = .ok (.lconst 0, 1) := by decide +kernel
theorem dX2_countPieces_54 : decode cX2_countPieces 54 = .ok (.lcmp, 1) := by decide +kernel
theorem dX2_countPieces_55 : decode cX2_countPieces 55 = .ok (.ifCond .ne 6, 3) := by decide +kernel
theorem dX2_countPieces_58 : decode cX2_countPieces 58 = .ok (.iinc 7 1, 3) := by decide +kernel
theorem dX2_countPieces_61 : decode cX2_countPieces 61 = .ok (.iinc 8 1, 3) := by decide +kernel
theorem dX2_countPieces_64 : decode cX2_countPieces 64 = .ok (.goto (-55), 3) := by decide +kernel
theorem dX2_countPieces_67 : decode cX2_countPieces 67 = .ok (.iload 7, 2) := by decide +kernel
theorem dX2_countPieces_69 : decode cX2_countPieces 69 = .ok (.ireturn, 1) := by decide +kernel
set_option maxRecDepth 20000 in
theorem ggX2_pieceOf_X2_column : GoodIn wsX2_pieceOf wsX2_column := goodIn_r _ [7, 8, 9, 10, 11, 6, 12, 2, 17, 18, 19, 20, 21] (by decide +kernel) (by decide +kernel)
set_option maxRecDepth 20000 in
theorem gX2_pieceOf_X2_column : GoodIn wsX2_pieceOf (wsV RX2 92 RX2 yX2_column wsX2_column) := goodIn_app (goodIn_of _ (by decide +kernel)) ggX2_pieceOf_X2_column
set_option maxRecDepth 20000 in
theorem ggX2_pieceOf_X2_dots : GoodIn wsX2_pieceOf wsX2_dots := goodIn_r _ [16, 2, 8, 17, 18, 19, 20, 21] (by decide +kernel) (by decide +kernel)
set_option maxRecDepth 20000 in
theorem gX2_pieceOf_X2_dots : GoodIn wsX2_pieceOf (wsV RX2 34 RX2 yX2_dots wsX2_dots) := goodIn_app (goodIn_of _ (by decide +kernel)) ggX2_pieceOf_X2_dots
theorem dX2_pieceOf_0 : decode cX2_pieceOf 0 = .ok (.aload_n 0, 1) := by decide +kernel
theorem dX2_pieceOf_1 : decode cX2_pieceOf 1 = .ok (.iconst 0, 1) := by decide +kernel
theorem dX2_pieceOf_2 : decode cX2_pieceOf 2 = .ok (.invokevirtual 92, 3) := by decide +kernel
theorem dX2_pieceOf_5 : decode cX2_pieceOf 5 = .ok (.ldc2_w 76, 3) := by decide +kernel
theorem dX2_pieceOf_8 : decode cX2_pieceOf 8 = .ok (.lxor, 1) := by decide +kernel
theorem dX2_pieceOf_9 : decode cX2_pieceOf 9 = .ok (.lstore 5, 2) := by decide +kernel
theorem dX2_pieceOf_11 : decode cX2_pieceOf 11 = .ok (.aload_n 0, 1) := by decide +kernel
theorem dX2_pieceOf_12 : decode cX2_pieceOf 12 = .ok (.aload_n 0, 1) := by decide +kernel
theorem dX2_pieceOf_13 : decode cX2_pieceOf 13 = .ok (.getfield 21, 3) := by decide +kernel
theorem dX2_pieceOf_16 : decode cX2_pieceOf 16 = .ok (.iconst 1, 1) := by decide +kernel
theorem dX2_pieceOf_17 : decode cX2_pieceOf 17 = .ok (.isub, 1) := by decide +kernel
theorem dX2_pieceOf_18 : decode cX2_pieceOf 18 = .ok (.invokevirtual 92, 3) := by decide +kernel
theorem dX2_pieceOf_21 : decode cX2_pieceOf 21 = .ok (.ldc2_w 76, 3) := by decide +kernel
theorem dX2_pieceOf_24 : decode cX2_pieceOf 24 = .ok (.lxor, 1) := by decide +kernel
theorem dX2_pieceOf_25 : decode cX2_pieceOf 25 = .ok (.lstore 7, 2) := by decide +kernel
theorem dX2_pieceOf_27 : decode cX2_pieceOf 27 = .ok (.lload_n 1, 1) := by decide +kernel
theorem dX2_pieceOf_28 : decode cX2_pieceOf 28 = .ok (.lstore 9, 2) := by decide +kernel
theorem dX2_pieceOf_30 : decode cX2_pieceOf 30 = .ok (.iconst 0, 1) := by decide +kernel
theorem dX2_pieceOf_31 : decode cX2_pieceOf 31 = .ok (.istore 11, 2) := by decide +kernel
theorem dX2_pieceOf_33 : decode cX2_pieceOf 33 = .ok (.iload 11, 2) := by decide +kernel
theorem dX2_pieceOf_35 : decode cX2_pieceOf 35 = .ok (.aload_n 0, 1) := by decide +kernel
theorem dX2_pieceOf_36 : decode cX2_pieceOf 36 = .ok (.invokevirtual 34, 3) := by decide +kernel
theorem dX2_pieceOf_39 : decode cX2_pieceOf 39 = .ok (.if_icmp .ge 66, 3) := by decide +kernel
theorem dX2_pieceOf_42 : decode cX2_pieceOf 42 = .ok (.lload 9, 2) := by decide +kernel
theorem dX2_pieceOf_44 : decode cX2_pieceOf 44 = .ok (.lload 7, 2) := by decide +kernel
theorem dX2_pieceOf_46 : decode cX2_pieceOf 46 = .ok (.land, 1) := by decide +kernel
theorem dX2_pieceOf_47 : decode cX2_pieceOf 47 = .ok (.iconst 1, 1) := by decide +kernel
theorem dX2_pieceOf_48 : decode cX2_pieceOf 48 = .ok (.lshl, 1) := by decide +kernel
theorem dX2_pieceOf_49 : decode cX2_pieceOf 49 = .ok (.lload 9, 2) := by decide +kernel
theorem dX2_pieceOf_51 : decode cX2_pieceOf 51 = .ok (.lload 5, 2) := by decide +kernel
theorem dX2_pieceOf_53 : decode cX2_pieceOf 53 = .ok (.land, 1) := by decide +kernel
theorem dX2_pieceOf_54 : decode cX2_pieceOf 54 = .ok (.iconst 1, 1) := by decide +kernel
theorem dX2_pieceOf_55 : decode cX2_pieceOf 55 = .ok (.lushr, 1) := by decide +kernel
theorem dX2_pieceOf_56 : decode cX2_pieceOf 56 = .ok (.lor, 1) := by decide +kernel
theorem dX2_pieceOf_57 : decode cX2_pieceOf 57 = .ok (.lstore 12, 2) := by decide +kernel
theorem dX2_pieceOf_59 : decode cX2_pieceOf 59 = .ok (.lload 9, 2) := by decide +kernel
theorem dX2_pieceOf_61 : decode cX2_pieceOf 61 = .ok (.lload 12, 2) := by decide +kernel
theorem dX2_pieceOf_63 : decode cX2_pieceOf 63 = .ok (.lor, 1) := by decide +kernel
theorem dX2_pieceOf_64 : decode cX2_pieceOf 64 = .ok (.lload 9, 2) := by decide +kernel
theorem dX2_pieceOf_66 : decode cX2_pieceOf 66 = .ok (.aload_n 0, 1) := by decide +kernel
theorem dX2_pieceOf_67 : decode cX2_pieceOf 67 = .ok (.getfield 21, 3) := by decide +kernel
theorem dX2_pieceOf_70 : decode cX2_pieceOf 70 = .ok (.lshl, 1) := by decide +kernel
theorem dX2_pieceOf_71 : decode cX2_pieceOf 71 = .ok (.lor, 1) := by decide +kernel
theorem dX2_pieceOf_72 : decode cX2_pieceOf 72 = .ok (.lload 9, 2) := by decide +kernel
theorem dX2_pieceOf_74 : decode cX2_pieceOf 74 = .ok (.aload_n 0, 1) := by decide +kernel
theorem dX2_pieceOf_75 : decode cX2_pieceOf 75 = .ok (.getfield 21, 3) := by decide +kernel
theorem dX2_pieceOf_78 : decode cX2_pieceOf 78 = .ok (.lushr, 1) := by decide +kernel
theorem dX2_pieceOf_79 : decode cX2_pieceOf 79 = .ok (.lor, 1) := by decide +kernel
theorem dX2_pieceOf_80 : decode cX2_pieceOf 80 = .ok (.lload_n 3, 1) := by decide +kernel
theorem dX2_pieceOf_81 : decode cX2_pieceOf 81 = .ok (.land, 1) := by decide +kernel
theorem dX2_pieceOf_82 : decode cX2_pieceOf 82 = .ok (.lstore 14, 2) := by decide +kernel
theorem dX2_pieceOf_84 : decode cX2_pieceOf 84 = .ok (.lload 14, 2) := by decide +kernel
theorem dX2_pieceOf_86 : decode cX2_pieceOf 86 = .ok (.lload 9, 2) := by decide +kernel
theorem dX2_pieceOf_88 : decode cX2_pieceOf 88 = .ok (.lcmp, 1) := by decide +kernel
theorem dX2_pieceOf_89 : decode cX2_pieceOf 89 = .ok (.ifCond .ne 6, 3) := by decide +kernel
theorem dX2_pieceOf_92 : decode cX2_pieceOf 92 = .ok (.goto 13, 3) := by decide +kernel
theorem dX2_pieceOf_95 : decode cX2_pieceOf 95 = .ok (.lload 14, 2) := by decide +kernel
theorem dX2_pieceOf_97 : decode cX2_pieceOf 97 = .ok (.lstore 9, 2) := by decide +kernel
theorem dX2_pieceOf_99 : decode cX2_pieceOf 99 = .ok (.iinc 11 1, 3) := by decide +kernel
theorem dX2_pieceOf_102 : decode cX2_pieceOf 102 = .ok (.goto (-69), 3) := by decide +kernel
theorem dX2_pieceOf_105 : decode cX2_pieceOf 105 = .ok (.lload 9, 2) := by decide +kernel
theorem dX2_pieceOf_107 : decode cX2_pieceOf 107 = .ok (.lreturn, 1) := by decide +kernel
set_option maxRecDepth 20000 in
theorem ggX2_edges_X2_column : GoodIn wsX2_edges wsX2_column := goodIn_r _ [7, 8, 9, 10, 11, 6, 12, 1, 20, 21, 22, 23, 24] (by decide +kernel) (by decide +kernel)
set_option maxRecDepth 20000 in
theorem gX2_edges_X2_column : GoodIn wsX2_edges (wsV RX2 92 RX2 yX2_column wsX2_column) := goodIn_app (goodIn_of _ (by decide +kernel)) ggX2_edges_X2_column
set_option maxRecDepth 20000 in
theorem ggX2_edges_J13_bitCount_95d88 : GoodIn wsX2_edges wsJ13_bitCount_95d88 := goodIn_r _ [16, 17, 18, 19] (by decide +kernel) (by decide +kernel)
set_option maxRecDepth 20000 in
theorem gX2_edges_J13_bitCount_95d88 : GoodIn wsX2_edges (va_wsS RX2 110 yJ13_bitCount_95d88 wsJ13_bitCount_95d88) := goodIn_app (goodIn_of _ (by decide +kernel)) ggX2_edges_J13_bitCount_95d88
theorem dX2_edges_0 : decode cX2_edges 0 = .ok (.lload_n 1, 1) := by decide +kernel
theorem dX2_edges_1 : decode cX2_edges 1 = .ok (.aload_n 0, 1) := by decide +kernel
theorem dX2_edges_2 : decode cX2_edges 2 = .ok (.aload_n 0, 1) := by decide +kernel
theorem dX2_edges_3 : decode cX2_edges 3 = .ok (.getfield 21, 3) := by decide +kernel
theorem dX2_edges_6 : decode cX2_edges 6 = .ok (.iconst 1, 1) := by decide +kernel
theorem dX2_edges_7 : decode cX2_edges 7 = .ok (.isub, 1) := by decide +kernel
theorem dX2_edges_8 : decode cX2_edges 8 = .ok (.invokevirtual 92, 3) := by decide +kernel
theorem dX2_edges_11 : decode cX2_edges 11 = .ok (.ldc2_w 76, 3) := by decide +kernel
theorem dX2_edges_14 : decode cX2_edges 14 = .ok (.lxor, 1) := by decide +kernel
theorem dX2_edges_15 : decode cX2_edges 15 = .ok (.land, 1) := by decide +kernel
theorem dX2_edges_16 : decode cX2_edges 16 = .ok (.lload_n 1, 1) := by decide +kernel
theorem dX2_edges_17 : decode cX2_edges 17 = .ok (.iconst 1, 1) := by decide +kernel
theorem dX2_edges_18 : decode cX2_edges 18 = .ok (.lushr, 1) := by decide +kernel
theorem dX2_edges_19 : decode cX2_edges 19 = .ok (.land, 1) := by decide +kernel
theorem dX2_edges_20 : decode cX2_edges 20 = .ok (.lstore_n 3, 1) := by decide +kernel
theorem dX2_edges_21 : decode cX2_edges 21 = .ok (.lload_n 1, 1) := by decide +kernel
theorem dX2_edges_22 : decode cX2_edges 22 = .ok (.lload_n 1, 1) := by decide +kernel
theorem dX2_edges_23 : decode cX2_edges 23 = .ok (.aload_n 0, 1) := by decide +kernel
theorem dX2_edges_24 : decode cX2_edges 24 = .ok (.getfield 21, 3) := by decide +kernel
theorem dX2_edges_27 : decode cX2_edges 27 = .ok (.lushr, 1) := by decide +kernel
theorem dX2_edges_28 : decode cX2_edges 28 = .ok (.land, 1) := by decide +kernel
theorem dX2_edges_29 : decode cX2_edges 29 = .ok (.lstore 5, 2) := by decide +kernel
theorem dX2_edges_31 : decode cX2_edges 31 = .ok (.iconst 4, 1) := by decide +kernel
theorem dX2_edges_32 : decode cX2_edges 32 = .ok (.lload_n 1, 1) := by decide +kernel
theorem dX2_edges_33 : decode cX2_edges 33 = .ok (.invokestatic 110, 3) := by decide +kernel
theorem dX2_edges_36 : decode cX2_edges 36 = .ok (.imul, 1) := by decide +kernel
theorem dX2_edges_37 : decode cX2_edges 37 = .ok (.iconst 2, 1) := by decide +kernel
theorem dX2_edges_38 : decode cX2_edges 38 = .ok (.lload_n 3, 1) := by decide +kernel
theorem dX2_edges_39 : decode cX2_edges 39 = .ok (.invokestatic 110, 3) := by decide +kernel
theorem dX2_edges_42 : decode cX2_edges 42 = .ok (.lload 5, 2) := by decide +kernel
theorem dX2_edges_44 : decode cX2_edges 44 = .ok (.invokestatic 110, 3) := by decide +kernel
theorem dX2_edges_47 : decode cX2_edges 47 = .ok (.iadd, 1) := by decide +kernel
theorem dX2_edges_48 : decode cX2_edges 48 = .ok (.imul, 1) := by decide +kernel
theorem dX2_edges_49 : decode cX2_edges 49 = .ok (.isub, 1) := by decide +kernel
theorem dX2_edges_50 : decode cX2_edges 50 = .ok (.ireturn, 1) := by decide +kernel
set_option maxRecDepth 20000 in
theorem ggX2_firstColumn_X2_column : GoodIn wsX2_firstColumn wsX2_column := goodIn_r _ [6, 7, 8, 9, 10, 5, 11, 1, 12, 13, 14, 15, 16] (by decide +kernel) (by decide +kernel)
set_option maxRecDepth 20000 in
theorem gX2_firstColumn_X2_column : GoodIn wsX2_firstColumn (wsV RX2 92 RX2 yX2_column wsX2_column) := goodIn_app (goodIn_of _ (by decide +kernel)) ggX2_firstColumn_X2_column
theorem dX2_firstColumn_0 : decode cX2_firstColumn 0 = .ok (.iconst 0, 1) := by decide +kernel
theorem dX2_firstColumn_1 : decode cX2_firstColumn 1 = .ok (.istore_n 3, 1) := by decide +kernel
theorem dX2_firstColumn_2 : decode cX2_firstColumn 2 = .ok (.iload_n 3, 1) := by decide +kernel
theorem dX2_firstColumn_3 : decode cX2_firstColumn 3 = .ok (.aload_n 0, 1) := by decide +kernel
theorem dX2_firstColumn_4 : decode cX2_firstColumn 4 = .ok (.getfield 21, 3) := by decide +kernel
theorem dX2_firstColumn_7 : decode cX2_firstColumn 7 = .ok (.if_icmp .ge 23, 3) := by decide +kernel
theorem dX2_firstColumn_10 : decode cX2_firstColumn 10 = .ok (.lload_n 1, 1) := by decide +kernel
theorem dX2_firstColumn_11 : decode cX2_firstColumn 11 = .ok (.aload_n 0, 1) := by decide +kernel
theorem dX2_firstColumn_12 : decode cX2_firstColumn 12 = .ok (.iload_n 3, 1) := by decide +kernel
theorem dX2_firstColumn_13 : decode cX2_firstColumn 13 = .ok (.invokevirtual 92, 3) := by decide +kernel
theorem dX2_firstColumn_16 : decode cX2_firstColumn 16 = .ok (.land, 1) := by decide +kernel
theorem dX2_firstColumn_17 : decode cX2_firstColumn 17 = .ok (.lconst 0, 1) := by decide +kernel
theorem dX2_firstColumn_18 : decode cX2_firstColumn 18 = .ok (.lcmp, 1) := by decide +kernel
theorem dX2_firstColumn_19 : decode cX2_firstColumn 19 = .ok (.ifCond .eq 5, 3) := by decide +kernel
theorem dX2_firstColumn_22 : decode cX2_firstColumn 22 = .ok (.iload_n 3, 1) := by decide +kernel
theorem dX2_firstColumn_23 : decode cX2_firstColumn 23 = .ok (.ireturn, 1) := by decide +kernel
theorem dX2_firstColumn_24 : decode cX2_firstColumn 24 = .ok (.iinc 3 1, 3) := by decide +kernel
theorem dX2_firstColumn_27 : decode cX2_firstColumn 27 = .ok (.goto (-25), 3) := by decide +kernel
theorem dX2_firstColumn_30 : decode cX2_firstColumn 30 = .ok (.iconst (-1), 1) := by decide +kernel
theorem dX2_firstColumn_31 : decode cX2_firstColumn 31 = .ok (.ireturn, 1) := by decide +kernel
set_option maxRecDepth 20000 in
theorem ggX2_firstRow_X2_row : GoodIn wsX2_firstRow wsX2_row := goodIn_r _ [6, 7, 8, 9, 10, 5, 11, 12, 13, 14, 15, 16] (by decide +kernel) (by decide +kernel)
set_option maxRecDepth 20000 in
theorem gX2_firstRow_X2_row : GoodIn wsX2_firstRow (wsV RX2 96 RX2 yX2_row wsX2_row) := goodIn_app (goodIn_of _ (by decide +kernel)) ggX2_firstRow_X2_row
theorem dX2_firstRow_0 : decode cX2_firstRow 0 = .ok (.iconst 0, 1) := by decide +kernel
theorem dX2_firstRow_1 : decode cX2_firstRow 1 = .ok (.istore_n 3, 1) := by decide +kernel
theorem dX2_firstRow_2 : decode cX2_firstRow 2 = .ok (.iload_n 3, 1) := by decide +kernel
theorem dX2_firstRow_3 : decode cX2_firstRow 3 = .ok (.aload_n 0, 1) := by decide +kernel
theorem dX2_firstRow_4 : decode cX2_firstRow 4 = .ok (.getfield 25, 3) := by decide +kernel
theorem dX2_firstRow_7 : decode cX2_firstRow 7 = .ok (.if_icmp .ge 23, 3) := by decide +kernel
theorem dX2_firstRow_10 : decode cX2_firstRow 10 = .ok (.lload_n 1, 1) := by decide +kernel
theorem dX2_firstRow_11 : decode cX2_firstRow 11 = .ok (.aload_n 0, 1) := by decide +kernel
theorem dX2_firstRow_12 : decode cX2_firstRow 12 = .ok (.iload_n 3, 1) := by decide +kernel
theorem dX2_firstRow_13 : decode cX2_firstRow 13 = .ok (.invokevirtual 96, 3) := by decide +kernel
theorem dX2_firstRow_16 : decode cX2_firstRow 16 = .ok (.land, 1) := by decide +kernel
theorem dX2_firstRow_17 : decode cX2_firstRow 17 = .ok (.lconst 0, 1) := by decide +kernel
theorem dX2_firstRow_18 : decode cX2_firstRow 18 = .ok (.lcmp, 1) := by decide +kernel
theorem dX2_firstRow_19 : decode cX2_firstRow 19 = .ok (.ifCond .eq 5, 3) := by decide +kernel
theorem dX2_firstRow_22 : decode cX2_firstRow 22 = .ok (.iload_n 3, 1) := by decide +kernel
theorem dX2_firstRow_23 : decode cX2_firstRow 23 = .ok (.ireturn, 1) := by decide +kernel
theorem dX2_firstRow_24 : decode cX2_firstRow 24 = .ok (.iinc 3 1, 3) := by decide +kernel
theorem dX2_firstRow_27 : decode cX2_firstRow 27 = .ok (.goto (-25), 3) := by decide +kernel
theorem dX2_firstRow_30 : decode cX2_firstRow 30 = .ok (.iconst (-1), 1) := by decide +kernel
theorem dX2_firstRow_31 : decode cX2_firstRow 31 = .ok (.ireturn, 1) := by decide +kernel
set_option maxRecDepth 20000 in
theorem ggX2_lastColumn_X2_column : GoodIn wsX2_lastColumn wsX2_column := goodIn_r _ [6, 7, 8, 9, 10, 5, 11, 1, 12, 13, 14, 15, 16] (by decide +kernel) (by decide +kernel)
set_option maxRecDepth 20000 in
theorem gX2_lastColumn_X2_column : GoodIn wsX2_lastColumn (wsV RX2 92 RX2 yX2_column wsX2_column) := goodIn_app (goodIn_of _ (by decide +kernel)) ggX2_lastColumn_X2_column
theorem dX2_lastColumn_0 : decode cX2_lastColumn 0 = .ok (.aload_n 0, 1) := by decide +kernel
theorem dX2_lastColumn_1 : decode cX2_lastColumn 1 = .ok (.getfield 21, 3) := by decide +kernel
theorem dX2_lastColumn_4 : decode cX2_lastColumn 4 = .ok (.iconst 1, 1) := by decide +kernel
theorem dX2_lastColumn_5 : decode cX2_lastColumn 5 = .ok (.isub, 1) := by decide +kernel
theorem dX2_lastColumn_6 : decode cX2_lastColumn 6 = .ok (.istore_n 3, 1) := by decide +kernel
theorem dX2_lastColumn_7 : decode cX2_lastColumn 7 = .ok (.iload_n 3, 1) := by decide +kernel
theorem dX2_lastColumn_8 : decode cX2_lastColumn 8 = .ok (.ifCond .lt 23, 3) := by decide +kernel
theorem dX2_lastColumn_11 : decode cX2_lastColumn 11 = .ok (.lload_n 1, 1) := by decide +kernel
theorem dX2_lastColumn_12 : decode cX2_lastColumn 12 = .ok (.aload_n 0, 1) := by decide +kernel
theorem dX2_lastColumn_13 : decode cX2_lastColumn 13 = .ok (.iload_n 3, 1) := by decide +kernel
theorem dX2_lastColumn_14 : decode cX2_lastColumn 14 = .ok (.invokevirtual 92, 3) := by decide +kernel
theorem dX2_lastColumn_17 : decode cX2_lastColumn 17 = .ok (.land, 1) := by decide +kernel
theorem dX2_lastColumn_18 : decode cX2_lastColumn 18 = .ok (.lconst 0, 1) := by decide +kernel
theorem dX2_lastColumn_19 : decode cX2_lastColumn 19 = .ok (.lcmp, 1) := by decide +kernel
theorem dX2_lastColumn_20 : decode cX2_lastColumn 20 = .ok (.ifCond .eq 5, 3) := by decide +kernel
theorem dX2_lastColumn_23 : decode cX2_lastColumn 23 = .ok (.iload_n 3, 1) := by decide +kernel
theorem dX2_lastColumn_24 : decode cX2_lastColumn 24 = .ok (.ireturn, 1) := by decide +kernel
theorem dX2_lastColumn_25 : decode cX2_lastColumn 25 = .ok (.iinc 3 (-1), 3) := by decide +kernel
theorem dX2_lastColumn_28 : decode cX2_lastColumn 28 = .ok (.goto (-21), 3) := by decide +kernel
theorem dX2_lastColumn_31 : decode cX2_lastColumn 31 = .ok (.iconst (-1), 1) := by decide +kernel
theorem dX2_lastColumn_32 : decode cX2_lastColumn 32 = .ok (.ireturn, 1) := by decide +kernel
set_option maxRecDepth 20000 in
theorem ggX2_lastRow_X2_row : GoodIn wsX2_lastRow wsX2_row := goodIn_r _ [6, 7, 8, 9, 10, 5, 11, 12, 13, 14, 15, 16] (by decide +kernel) (by decide +kernel)
set_option maxRecDepth 20000 in
theorem gX2_lastRow_X2_row : GoodIn wsX2_lastRow (wsV RX2 96 RX2 yX2_row wsX2_row) := goodIn_app (goodIn_of _ (by decide +kernel)) ggX2_lastRow_X2_row
theorem dX2_lastRow_0 : decode cX2_lastRow 0 = .ok (.aload_n 0, 1) := by decide +kernel
theorem dX2_lastRow_1 : decode cX2_lastRow 1 = .ok (.getfield 25, 3) := by decide +kernel
theorem dX2_lastRow_4 : decode cX2_lastRow 4 = .ok (.iconst 1, 1) := by decide +kernel
theorem dX2_lastRow_5 : decode cX2_lastRow 5 = .ok (.isub, 1) := by decide +kernel
theorem dX2_lastRow_6 : decode cX2_lastRow 6 = .ok (.istore_n 3, 1) := by decide +kernel
theorem dX2_lastRow_7 : decode cX2_lastRow 7 = .ok (.iload_n 3, 1) := by decide +kernel
theorem dX2_lastRow_8 : decode cX2_lastRow 8 = .ok (.ifCond .lt 23, 3) := by decide +kernel
theorem dX2_lastRow_11 : decode cX2_lastRow 11 = .ok (.lload_n 1, 1) := by decide +kernel
theorem dX2_lastRow_12 : decode cX2_lastRow 12 = .ok (.aload_n 0, 1) := by decide +kernel
theorem dX2_lastRow_13 : decode cX2_lastRow 13 = .ok (.iload_n 3, 1) := by decide +kernel
theorem dX2_lastRow_14 : decode cX2_lastRow 14 = .ok (.invokevirtual 96, 3) := by decide +kernel
theorem dX2_lastRow_17 : decode cX2_lastRow 17 = .ok (.land, 1) := by decide +kernel
theorem dX2_lastRow_18 : decode cX2_lastRow 18 = .ok (.lconst 0, 1) := by decide +kernel
theorem dX2_lastRow_19 : decode cX2_lastRow 19 = .ok (.lcmp, 1) := by decide +kernel
theorem dX2_lastRow_20 : decode cX2_lastRow 20 = .ok (.ifCond .eq 5, 3) := by decide +kernel
theorem dX2_lastRow_23 : decode cX2_lastRow 23 = .ok (.iload_n 3, 1) := by decide +kernel
theorem dX2_lastRow_24 : decode cX2_lastRow 24 = .ok (.ireturn, 1) := by decide +kernel
theorem dX2_lastRow_25 : decode cX2_lastRow 25 = .ok (.iinc 3 (-1), 3) := by decide +kernel
theorem dX2_lastRow_28 : decode cX2_lastRow 28 = .ok (.goto (-21), 3) := by decide +kernel
theorem dX2_lastRow_31 : decode cX2_lastRow 31 = .ok (.iconst (-1), 1) := by decide +kernel
theorem dX2_lastRow_32 : decode cX2_lastRow 32 = .ok (.ireturn, 1) := by decide +kernel
theorem dX3_init_0 : decode cX3_init 0 = .ok (.aload_n 0, 1) := by decide +kernel
theorem dX3_init_1 : decode cX3_init 1 = .ok (.invokespecial 3, 3) := by decide +kernel
theorem dX3_init_4 : decode cX3_init 4 = .ok (.aload_n 0, 1) := by decide +kernel
theorem dX3_init_5 : decode cX3_init 5 = .ok (.bipush 100, 2) := by decide +kernel
theorem dX3_init_7 : decode cX3_init 7 = .ok (.newarray .int, 2) := by decide +kernel
theorem dX3_init_9 : decode cX3_init 9 = .ok (.putfield 11, 3) := by decide +kernel
theorem dX3_init_12 : decode cX3_init 12 = .ok (.aload_n 0, 1) := by decide +kernel
theorem dX3_init_13 : decode cX3_init 13 = .ok (.iconst 4, 1) := by decide +kernel
theorem dX3_init_14 : decode cX3_init 14 = .ok (.newarray .int, 2) := by decide +kernel
theorem dX3_init_16 : decode cX3_init 16 = .ok (.putfield 15, 3) := by decide +kernel
theorem dX3_init_19 : decode cX3_init 19 = .ok (.return_, 1) := by decide +kernel
theorem dX3_takeByte_0 : decode cX3_takeByte 0 = .ok (.aload_n 0, 1) := by decide +kernel
theorem dX3_takeByte_1 : decode cX3_takeByte 1 = .ok (.getfield 18, 3) := by decide +kernel
theorem dX3_takeByte_4 : decode cX3_takeByte 4 = .ok (.bipush 100, 2) := by decide +kernel
theorem dX3_takeByte_6 : decode cX3_takeByte 6 = .ok (.if_icmp .lt 5, 3) := by decide +kernel
theorem dX3_takeByte_9 : decode cX3_takeByte 9 = .ok (.iconst 0, 1) := by decide +kernel
theorem dX3_takeByte_10 : decode cX3_takeByte 10 = .ok (.ireturn, 1) := by decide +kernel
theorem dX3_takeByte_11 : decode cX3_takeByte 11 = .ok (.aload_n 0, 1) := by decide +kernel
theorem dX3_takeByte_12 : decode cX3_takeByte 12 = .ok (.getfield 11, 3) := by decide +kernel
theorem dX3_takeByte_15 : decode cX3_takeByte 15 = .ok (.aload_n 0, 1) := by decide +kernel
theorem dX3_takeByte_16 : decode cX3_takeByte 16 = .ok (.getfield 18, 3) := by decide +kernel
theorem dX3_takeByte_19 : decode cX3_takeByte 19 = .ok (.iload_n 1, 1) := by decide +kernel
theorem dX3_takeByte_20 : decode cX3_takeByte 20 = .ok (.iastore, 1) := by decide +kernel
theorem dX3_takeByte_21 : decode cX3_takeByte 21 = .ok (.aload_n 0, 1) := by decide +kernel
theorem dX3_takeByte_22 : decode cX3_takeByte 22 = .ok (.dup, 1) := by decide +kernel
theorem dX3_takeByte_23 : decode cX3_takeByte 23 = .ok (.getfield 18, 3) := by decide +kernel
theorem dX3_takeByte_26 : decode cX3_takeByte 26 = .ok (.iconst 1, 1) := by decide +kernel
theorem dX3_takeByte_27 : decode cX3_takeByte 27 = .ok (.iadd, 1) := by decide +kernel
theorem dX3_takeByte_28 : decode cX3_takeByte 28 = .ok (.putfield 18, 3) := by decide +kernel
theorem dX3_takeByte_31 : decode cX3_takeByte 31 = .ok (.iconst 1, 1) := by decide +kernel
theorem dX3_takeByte_32 : decode cX3_takeByte 32 = .ok (.ireturn, 1) := by decide +kernel
theorem dX3_rewind_0 : decode cX3_rewind 0 = .ok (.aload_n 0, 1) := by decide +kernel
theorem dX3_rewind_1 : decode cX3_rewind 1 = .ok (.iconst 0, 1) := by decide +kernel
theorem dX3_rewind_2 : decode cX3_rewind 2 = .ok (.putfield 22, 3) := by decide +kernel
theorem dX3_rewind_5 : decode cX3_rewind 5 = .ok (.return_, 1) := by decide +kernel
theorem dX3_number_0 : decode cX3_number 0 = .ok (.iload_n 1, 1) := by decide +kernel
theorem dX3_number_1 : decode cX3_number 1 = .ok (.ifCond .lt 20, 3) := by decide +kernel
theorem dX3_number_4 : decode cX3_number 4 = .ok (.iload_n 1, 1) := by decide +kernel
theorem dX3_number_5 : decode cX3_number 5 = .ok (.aload_n 0, 1) := by decide +kernel
theorem dX3_number_6 : decode cX3_number 6 = .ok (.getfield 25, 3) := by decide +kernel
theorem dX3_number_9 : decode cX3_number 9 = .ok (.if_icmp .ge 12, 3) := by decide +kernel
theorem dX3_number_12 : decode cX3_number 12 = .ok (.aload_n 0, 1) := by decide +kernel
theorem dX3_number_13 : decode cX3_number 13 = .ok (.getfield 15, 3) := by decide +kernel
theorem dX3_number_16 : decode cX3_number 16 = .ok (.iload_n 1, 1) := by decide +kernel
theorem dX3_number_17 : decode cX3_number 17 = .ok (.iaload, 1) := by decide +kernel
theorem dX3_number_18 : decode cX3_number 18 = .ok (.goto 4, 3) := by decide +kernel
theorem dX3_number_21 : decode cX3_number 21 = .ok (.iconst 0, 1) := by decide +kernel
theorem dX3_number_22 : decode cX3_number 22 = .ok (.ireturn, 1) := by decide +kernel
set_option maxRecDepth 20000 in
theorem ggX3_findFault_X3_rewind : GoodIn wsX3_findFault wsX3_rewind := goodIn_r _ [7, 2, 36, 37, 38, 39, 40, 41, 42] (by decide +kernel) (by decide +kernel)
set_option maxRecDepth 20000 in
theorem gX3_findFault_X3_rewind : GoodIn wsX3_findFault (wsV RX3 28 RX3 yX3_rewind wsX3_rewind) := goodIn_app (goodIn_of _ (by decide +kernel)) ggX3_findFault_X3_rewind
set_option maxRecDepth 20000 in
theorem ggX3_findFault_X3_peekSign : GoodIn wsX3_findFault wsX3_peekSign := goodIn_r _ [11, 2, 12, 13, 36, 37, 38, 39, 40, 41, 42] (by decide +kernel) (by decide +kernel)
set_option maxRecDepth 20000 in
theorem gX3_findFault_X3_peekSign : GoodIn wsX3_findFault (wsV RX3 34 RX3 yX3_peekSign wsX3_peekSign) := goodIn_app (goodIn_of _ (by decide +kernel)) ggX3_findFault_X3_peekSign
set_option maxRecDepth 20000 in
theorem ggX3_findFault_X3_readOrder : GoodIn wsX3_findFault wsX3_readOrder := goodIn_r _ [17, 18, 19, 2, 8, 9, 10, 6, 11, 12, 13, 20, 21, 22, 23, 24, 25, 26, 27, 28, 29, 30, 31, 32, 33, 34, 35, 36, 37, 38, 39, 40, 41, 42] (by decide +kernel) (by decide +kernel)
set_option maxRecDepth 20000 in
theorem gX3_findFault_X3_readOrder : GoodIn wsX3_findFault (wsV RX3 38 RX3 yX3_readOrder wsX3_readOrder) := goodIn_app (goodIn_of _ (by decide +kernel)) ggX3_findFault_X3_readOrder
theorem dX3_findFault_0 : decode cX3_findFault 0 = .ok (.aload_n 0, 1) := by decide +kernel
theorem dX3_findFault_1 : decode cX3_findFault 1 = .ok (.invokevirtual 28, 3) := by decide +kernel
theorem dX3_findFault_4 : decode cX3_findFault 4 = .ok (.aload_n 0, 1) := by decide +kernel
theorem dX3_findFault_5 : decode cX3_findFault 5 = .ok (.iconst 0, 1) := by decide +kernel
theorem dX3_findFault_6 : decode cX3_findFault 6 = .ok (.putfield 31, 3) := by decide +kernel
theorem dX3_findFault_9 : decode cX3_findFault 9 = .ok (.iconst 0, 1) := by decide +kernel
theorem dX3_findFault_10 : decode cX3_findFault 10 = .ok (.istore_n 3, 1) := by decide +kernel
theorem dX3_findFault_11 : decode cX3_findFault 11 = .ok (.iload_n 3, 1) := by decide +kernel
theorem dX3_findFault_12 : decode cX3_findFault 12 = .ok (.bipush 100, 2) := by decide +kernel
theorem dX3_findFault_14 : decode cX3_findFault 14 = .ok (.if_icmp .gt 50, 3) := by decide +kernel
theorem dX3_findFault_17 : decode cX3_findFault 17 = .ok (.aload_n 0, 1) := by decide +kernel
theorem dX3_findFault_18 : decode cX3_findFault 18 = .ok (.getfield 31, 3) := by decide +kernel
theorem dX3_findFault_21 : decode cX3_findFault 21 = .ok (.ifCond .le 13, 3) := by decide +kernel
theorem dX3_findFault_24 : decode cX3_findFault 24 = .ok (.aload_n 0, 1) := by decide +kernel
theorem dX3_findFault_25 : decode cX3_findFault 25 = .ok (.invokevirtual 34, 3) := by decide +kernel
theorem dX3_findFault_28 : decode cX3_findFault 28 = .ok (.iconst (-1), 1) := by decide +kernel
theorem dX3_findFault_29 : decode cX3_findFault 29 = .ok (.if_icmp .ne 5, 3) := by decide +kernel
theorem dX3_findFault_32 : decode cX3_findFault 32 = .ok (.iconst (-1), 1) := by decide +kernel
theorem dX3_findFault_33 : decode cX3_findFault 33 = .ok (.ireturn, 1) := by decide +kernel
theorem dX3_findFault_34 : decode cX3_findFault 34 = .ok (.aload_n 0, 1) := by decide +kernel
theorem dX3_findFault_35 : decode cX3_findFault 35 = .ok (.iload_n 1, 1) := by decide +kernel
theorem dX3_findFault_36 : decode cX3_findFault 36 = .ok (.iload_n 2, 1) := by decide +kernel
theorem dX3_findFault_37 : decode cX3_findFault 37 = .ok (.invokevirtual 38, 3) := by decide +kernel
theorem dX3_findFault_40 : decode cX3_findFault 40 = .ok (.ifCond .ne 8, 3) := by decide +kernel
theorem dX3_findFault_43 : decode cX3_findFault 43 = .ok (.aload_n 0, 1) := by decide +kernel
theorem dX3_findFault_44 : decode cX3_findFault 44 = .ok (.getfield 22, 3) := by decide +kernel
theorem dX3_findFault_47 : decode cX3_findFault 47 = .ok (.ireturn, 1) := by decide +kernel
theorem dX3_findFault_48 : decode cX3_findFault 48 = .ok (.aload_n 0, 1) := by decide +kernel
theorem dX3_findFault_49 : decode cX3_findFault 49 = .ok (.dup, 1) := by decide +kernel
theorem dX3_findFault_50 : decode cX3_findFault 50 = .ok (.getfield 31, 3) := by decide +kernel
theorem dX3_findFault_53 : decode cX3_findFault 53 = .ok (.iconst 1, 1) := by decide +kernel
theorem dX3_findFault_54 : decode cX3_findFault 54 = .ok (.iadd, 1) := by decide +kernel
theorem dX3_findFault_55 : decode cX3_findFault 55 = .ok (.putfield 31, 3) := by decide +kernel
theorem dX3_findFault_58 : decode cX3_findFault 58 = .ok (.iinc 3 1, 3) := by decide +kernel
theorem dX3_findFault_61 : decode cX3_findFault 61 = .ok (.goto (-50), 3) := by decide +kernel
theorem dX3_findFault_64 : decode cX3_findFault 64 = .ok (.aload_n 0, 1) := by decide +kernel
theorem dX3_findFault_65 : decode cX3_findFault 65 = .ok (.getfield 22, 3) := by decide +kernel
theorem dX3_findFault_68 : decode cX3_findFault 68 = .ok (.ireturn, 1) := by decide +kernel
set_option maxRecDepth 20000 in
theorem ggX3_readOrder_X3_peekSign : GoodIn wsX3_readOrder wsX3_peekSign := goodIn_r _ [8, 3, 9, 10, 27, 28, 29, 30, 31, 32, 33] (by decide +kernel) (by decide +kernel)
set_option maxRecDepth 20000 in
theorem gX3_readOrder_X3_peekSign : GoodIn wsX3_readOrder (wsV RX3 34 RX3 yX3_peekSign wsX3_peekSign) := goodIn_app (goodIn_of _ (by decide +kernel)) ggX3_readOrder_X3_peekSign
set_option maxRecDepth 20000 in
theorem ggX3_readOrder_X3_readDot : GoodIn wsX3_readOrder wsX3_readDot := goodIn_r _ [14, 15, 16, 17, 7, 18, 1, 19, 3, 4, 5, 6, 8, 9, 10, 20, 21, 22, 27, 28, 29, 30, 31, 32, 33] (by decide +kernel) (by decide +kernel)
set_option maxRecDepth 20000 in
theorem gX3_readOrder_X3_readDot : GoodIn wsX3_readOrder (wsV RX3 45 RX3 yX3_readDot wsX3_readDot) := goodIn_app (goodIn_of _ (by decide +kernel)) ggX3_readOrder_X3_readDot
set_option maxRecDepth 20000 in
theorem ggX3_readOrder_X3_readEnd : GoodIn wsX3_readOrder wsX3_readEnd := goodIn_r _ [26, 3, 4, 5, 6, 7, 8, 9, 10, 27, 28, 29, 30, 31, 32, 33] (by decide +kernel) (by decide +kernel)
set_option maxRecDepth 20000 in
theorem gX3_readOrder_X3_readEnd : GoodIn wsX3_readOrder (wsV RX3 48 RX3 yX3_readEnd wsX3_readEnd) := goodIn_app (goodIn_of _ (by decide +kernel)) ggX3_readOrder_X3_readEnd
set_option maxRecDepth 20000 in
theorem ggX3_readOrder_X3_readFigure : GoodIn wsX3_readOrder wsX3_readFigure := goodIn_r _ [18, 1, 19, 3, 4, 5, 6, 7, 8, 9, 10, 20, 21, 22, 27, 28, 29, 30, 31, 32, 33] (by decide +kernel) (by decide +kernel)
set_option maxRecDepth 20000 in
theorem gX3_readOrder_X3_readFigure : GoodIn wsX3_readOrder (wsV RX3 52 RX3 yX3_readFigure wsX3_readFigure) := goodIn_app (goodIn_of _ (by decide +kernel)) ggX3_readOrder_X3_readFigure
theorem dX3_readOrder_0 : decode cX3_readOrder 0 = .ok (.aload_n 0, 1) := by decide +kernel
theorem dX3_readOrder_1 : decode cX3_readOrder 1 = .ok (.iconst 0, 1) := by decide +kernel
theorem dX3_readOrder_2 : decode cX3_readOrder 2 = .ok (.putfield 25, 3) := by decide +kernel
theorem dX3_readOrder_5 : decode cX3_readOrder 5 = .ok (.aload_n 0, 1) := by decide +kernel
theorem dX3_readOrder_6 : decode cX3_readOrder 6 = .ok (.aload_n 0, 1) := by decide +kernel
theorem dX3_readOrder_7 : decode cX3_readOrder 7 = .ok (.invokevirtual 34, 3) := by decide +kernel
theorem dX3_readOrder_10 : decode cX3_readOrder 10 = .ok (.putfield 42, 3) := by decide +kernel
theorem dX3_readOrder_13 : decode cX3_readOrder 13 = .ok (.aload_n 0, 1) := by decide +kernel
theorem dX3_readOrder_14 : decode cX3_readOrder 14 = .ok (.getfield 42, 3) := by decide +kernel
theorem dX3_readOrder_17 : decode cX3_readOrder 17 = .ok (.tableswitch 196 102 115 #[71, 71, 196, 196, 196, 196, 163, 196, 71, 196, 196, 196, 196, 121], 71) := by decide +kernel
theorem dX3_readOrder_88 : decode cX3_readOrder 88 = .ok (.aload_n 0, 1) := by decide +kernel
theorem dX3_readOrder_89 : decode cX3_readOrder 89 = .ok (.dup, 1) := by decide +kernel
theorem dX3_readOrder_90 : decode cX3_readOrder 90 = .ok (.getfield 22, 3) := by decide +kernel
theorem dX3_readOrder_93 : decode cX3_readOrder 93 = .ok (.iconst 1, 1) := by decide +kernel
theorem dX3_readOrder_94 : decode cX3_readOrder 94 = .ok (.iadd, 1) := by decide +kernel
theorem dX3_readOrder_95 : decode cX3_readOrder 95 = .ok (.putfield 22, 3) := by decide +kernel
theorem dX3_readOrder_98 : decode cX3_readOrder 98 = .ok (.aload_n 0, 1) := by decide +kernel
theorem dX3_readOrder_99 : decode cX3_readOrder 99 = .ok (.iload_n 1, 1) := by decide +kernel
theorem dX3_readOrder_100 : decode cX3_readOrder 100 = .ok (.iload_n 2, 1) := by decide +kernel
theorem dX3_readOrder_101 : decode cX3_readOrder 101 = .ok (.invokevirtual 45, 3) := by decide +kernel
theorem dX3_readOrder_104 : decode cX3_readOrder 104 = .ok (.ifCond .eq 32, 3) := by decide +kernel
theorem dX3_readOrder_107 : decode cX3_readOrder 107 = .ok (.aload_n 0, 1) := by decide +kernel
theorem dX3_readOrder_108 : decode cX3_readOrder 108 = .ok (.invokevirtual 34, 3) := by decide +kernel
theorem dX3_readOrder_111 : decode cX3_readOrder 111 = .ok (.bipush 59, 2) := by decide +kernel
theorem dX3_readOrder_113 : decode cX3_readOrder 113 = .ok (.if_icmp .eq 12, 3) := by decide +kernel
theorem dX3_readOrder_116 : decode cX3_readOrder 116 = .ok (.aload_n 0, 1) := by decide +kernel
theorem dX3_readOrder_117 : decode cX3_readOrder 117 = .ok (.iload_n 1, 1) := by decide +kernel
theorem dX3_readOrder_118 : decode cX3_readOrder 118 = .ok (.iload_n 2, 1) := by decide +kernel
theorem dX3_readOrder_119 : decode cX3_readOrder 119 = .ok (.invokevirtual 45, 3) := by decide +kernel
theorem dX3_readOrder_122 : decode cX3_readOrder 122 = .ok (.ifCond .eq 14, 3) := by decide +kernel
theorem dX3_readOrder_125 : decode cX3_readOrder 125 = .ok (.aload_n 0, 1) := by decide +kernel
theorem dX3_readOrder_126 : decode cX3_readOrder 126 = .ok (.invokevirtual 48, 3) := by decide +kernel
theorem dX3_readOrder_129 : decode cX3_readOrder 129 = .ok (.ifCond .eq 7, 3) := by decide +kernel
theorem dX3_readOrder_132 : decode cX3_readOrder 132 = .ok (.iconst 1, 1) := by decide +kernel
theorem dX3_readOrder_133 : decode cX3_readOrder 133 = .ok (.goto 4, 3) := by decide +kernel
theorem dX3_readOrder_136 : decode cX3_readOrder 136 = .ok (.iconst 0, 1) := by decide +kernel
theorem dX3_readOrder_137 : decode cX3_readOrder 137 = .ok (.ireturn, 1) := by decide +kernel
theorem dX3_readOrder_138 : decode cX3_readOrder 138 = .ok (.aload_n 0, 1) := by decide +kernel
theorem dX3_readOrder_139 : decode cX3_readOrder 139 = .ok (.dup, 1) := by decide +kernel
theorem dX3_readOrder_140 : decode cX3_readOrder 140 = .ok (.getfield 22, 3) := by decide +kernel
theorem dX3_readOrder_143 : decode cX3_readOrder 143 = .ok (.iconst 1, 1) := by decide +kernel
theorem dX3_readOrder_144 : decode cX3_readOrder 144 = .ok (.iadd, 1) := by decide +kernel
theorem dX3_readOrder_145 : decode cX3_readOrder 145 = .ok (.putfield 22, 3) := by decide +kernel
theorem dX3_readOrder_148 : decode cX3_readOrder 148 = .ok (.aload_n 0, 1) := by decide +kernel
theorem dX3_readOrder_149 : decode cX3_readOrder 149 = .ok (.iload_n 1, 1) := by decide +kernel
theorem dX3_readOrder_150 : decode cX3_readOrder 150 = .ok (.iload_n 2, 1) := by decide +kernel
theorem dX3_readOrder_151 : decode cX3_readOrder 151 = .ok (.invokevirtual 45, 3) := by decide +kernel
theorem dX3_readOrder_154 : decode cX3_readOrder 154 = .ok (.ifCond .eq 24, 3) := by decide +kernel
theorem dX3_readOrder_157 : decode cX3_readOrder 157 = .ok (.aload_n 0, 1) := by decide +kernel
theorem dX3_readOrder_158 : decode cX3_readOrder 158 = .ok (.iconst 0, 1) := by decide +kernel
theorem dX3_readOrder_159 : decode cX3_readOrder 159 = .ok (.bipush 9, 2) := by decide +kernel
theorem dX3_readOrder_161 : decode cX3_readOrder 161 = .ok (.invokevirtual 52, 3) := by decide +kernel
theorem dX3_readOrder_164 : decode cX3_readOrder 164 = .ok (.ifCond .eq 14, 3) := by decide +kernel
theorem dX3_readOrder_167 : decode cX3_readOrder 167 = .ok (.aload_n 0, 1) := by decide +kernel
theorem dX3_readOrder_168 : decode cX3_readOrder 168 = .ok (.invokevirtual 48, 3) := by decide +kernel
theorem dX3_readOrder_171 : decode cX3_readOrder 171 = .ok (.ifCond .eq 7, 3) := by decide +kernel
theorem dX3_readOrder_174 : decode cX3_readOrder 174 = .ok (.iconst 1, 1) := by decide +kernel
theorem dX3_readOrder_175 : decode cX3_readOrder 175 = .ok (.goto 4, 3) := by decide +kernel
theorem dX3_readOrder_178 : decode cX3_readOrder 178 = .ok (.iconst 0, 1) := by decide +kernel
theorem dX3_readOrder_179 : decode cX3_readOrder 179 = .ok (.ireturn, 1) := by decide +kernel
theorem dX3_readOrder_180 : decode cX3_readOrder 180 = .ok (.aload_n 0, 1) := by decide +kernel
theorem dX3_readOrder_181 : decode cX3_readOrder 181 = .ok (.dup, 1) := by decide +kernel
theorem dX3_readOrder_182 : decode cX3_readOrder 182 = .ok (.getfield 22, 3) := by decide +kernel
theorem dX3_readOrder_185 : decode cX3_readOrder 185 = .ok (.iconst 1, 1) := by decide +kernel
theorem dX3_readOrder_186 : decode cX3_readOrder 186 = .ok (.iadd, 1) := by decide +kernel
theorem dX3_readOrder_187 : decode cX3_readOrder 187 = .ok (.putfield 22, 3) := by decide +kernel
theorem dX3_readOrder_190 : decode cX3_readOrder 190 = .ok (.aload_n 0, 1) := by decide +kernel
theorem dX3_readOrder_191 : decode cX3_readOrder 191 = .ok (.iconst 1, 1) := by decide +kernel
theorem dX3_readOrder_192 : decode cX3_readOrder 192 = .ok (.bipush 9, 2) := by decide +kernel
theorem dX3_readOrder_194 : decode cX3_readOrder 194 = .ok (.invokevirtual 52, 3) := by decide +kernel
theorem dX3_readOrder_197 : decode cX3_readOrder 197 = .ok (.ifCond .eq 14, 3) := by decide +kernel
theorem dX3_readOrder_200 : decode cX3_readOrder 200 = .ok (.aload_n 0, 1) := by decide +kernel
theorem dX3_readOrder_201 : decode cX3_readOrder 201 = .ok (.invokevirtual 48, 3) := by decide +kernel
theorem dX3_readOrder_204 : decode cX3_readOrder 204 = .ok (.ifCond .eq 7, 3) := by decide +kernel
theorem dX3_readOrder_207 : decode cX3_readOrder 207 = .ok (.iconst 1, 1) := by decide +kernel
theorem dX3_readOrder_208 : decode cX3_readOrder 208 = .ok (.goto 4, 3) := by decide +kernel
theorem dX3_readOrder_211 : decode cX3_readOrder 211 = .ok (.iconst 0, 1) := by decide +kernel
theorem dX3_readOrder_212 : decode cX3_readOrder 212 = .ok (.ireturn, 1) := by decide +kernel
theorem dX3_readOrder_213 : decode cX3_readOrder 213 = .ok (.iconst 0, 1) := by decide +kernel
theorem dX3_readOrder_214 : decode cX3_readOrder 214 = .ok (.ireturn, 1) := by decide +kernel
set_option maxRecDepth 20000 in
theorem ggX3_readDot_X3_readFigure : GoodIn wsX3_readDot wsX3_readFigure := goodIn_r _ [5, 6, 7, 8, 9, 10, 11, 4, 12, 13, 14, 15, 16, 17, 18, 19, 20, 21, 22, 23, 24] (by decide +kernel) (by decide +kernel)
set_option maxRecDepth 20000 in
theorem gX3_readDot_X3_readFigure : GoodIn wsX3_readDot (wsV RX3 52 RX3 yX3_readFigure wsX3_readFigure) := goodIn_app (goodIn_of _ (by decide +kernel)) ggX3_readDot_X3_readFigure
theorem dX3_readDot_0 : decode cX3_readDot 0 = .ok (.aload_n 0, 1) := by decide +kernel
theorem dX3_readDot_1 : decode cX3_readDot 1 = .ok (.iconst 0, 1) := by decide +kernel
theorem dX3_readDot_2 : decode cX3_readDot 2 = .ok (.iload_n 1, 1) := by decide +kernel
theorem dX3_readDot_3 : decode cX3_readDot 3 = .ok (.iconst 1, 1) := by decide +kernel
theorem dX3_readDot_4 : decode cX3_readDot 4 = .ok (.isub, 1) := by decide +kernel
theorem dX3_readDot_5 : decode cX3_readDot 5 = .ok (.invokevirtual 52, 3) := by decide +kernel
theorem dX3_readDot_8 : decode cX3_readDot 8 = .ok (.ifCond .eq 18, 3) := by decide +kernel
theorem dX3_readDot_11 : decode cX3_readDot 11 = .ok (.aload_n 0, 1) := by decide +kernel
theorem dX3_readDot_12 : decode cX3_readDot 12 = .ok (.iconst 0, 1) := by decide +kernel
theorem dX3_readDot_13 : decode cX3_readDot 13 = .ok (.iload_n 2, 1) := by decide +kernel
theorem dX3_readDot_14 : decode cX3_readDot 14 = .ok (.iconst 1, 1) := by decide +kernel
theorem dX3_readDot_15 : decode cX3_readDot 15 = .ok (.isub, 1) := by decide +kernel
theorem dX3_readDot_16 : decode cX3_readDot 16 = .ok (.invokevirtual 52, 3) := by decide +kernel
theorem dX3_readDot_19 : decode cX3_readDot 19 = .ok (.ifCond .eq 7, 3) := by decide +kernel
theorem dX3_readDot_22 : decode cX3_readDot 22 = .ok (.iconst 1, 1) := by decide +kernel
theorem dX3_readDot_23 : decode cX3_readDot 23 = .ok (.goto 4, 3) := by decide +kernel
theorem dX3_readDot_26 : decode cX3_readDot 26 = .ok (.iconst 0, 1) := by decide +kernel
theorem dX3_readDot_27 : decode cX3_readDot 27 = .ok (.ireturn, 1) := by decide +kernel
set_option maxRecDepth 20000 in
theorem ggX3_readFigure_X3_peekSign : GoodIn wsX3_readFigure wsX3_peekSign := goodIn_r _ [8, 3, 9, 10, 14, 15, 16, 17, 18, 19, 20] (by decide +kernel) (by decide +kernel)
set_option maxRecDepth 20000 in
theorem gX3_readFigure_X3_peekSign : GoodIn wsX3_readFigure (wsV RX3 34 RX3 yX3_peekSign wsX3_peekSign) := goodIn_app (goodIn_of _ (by decide +kernel)) ggX3_readFigure_X3_peekSign
set_option maxRecDepth 20000 in
theorem ggX3_readFigure_X4_isWithin : GoodIn wsX3_readFigure wsX4_isWithin := goodIn_r _ [13] (by decide +kernel) (by decide +kernel)
set_option maxRecDepth 20000 in
theorem gX3_readFigure_X4_isWithin_n55 : GoodIn wsX3_readFigure (wsX4_isWithin) := ggX3_readFigure_X4_isWithin
theorem dX3_readFigure_0 : decode cX3_readFigure 0 = .ok (.aload_n 0, 1) := by decide +kernel
theorem dX3_readFigure_1 : decode cX3_readFigure 1 = .ok (.invokevirtual 34, 3) := by decide +kernel
theorem dX3_readFigure_4 : decode cX3_readFigure 4 = .ok (.bipush 48, 2) := by decide +kernel
theorem dX3_readFigure_6 : decode cX3_readFigure 6 = .ok (.isub, 1) := by decide +kernel
theorem dX3_readFigure_7 : decode cX3_readFigure 7 = .ok (.istore_n 3, 1) := by decide +kernel
theorem dX3_readFigure_8 : decode cX3_readFigure 8 = .ok (.iload_n 3, 1) := by decide +kernel
theorem dX3_readFigure_9 : decode cX3_readFigure 9 = .ok (.iload_n 1, 1) := by decide +kernel
theorem dX3_readFigure_10 : decode cX3_readFigure 10 = .ok (.iload_n 2, 1) := by decide +kernel
theorem dX3_readFigure_11 : decode cX3_readFigure 11 = .ok (.invokestatic 55, 3) := by decide +kernel
theorem dX3_readFigure_14 : decode cX3_readFigure 14 = .ok (.ifCond .eq 11, 3) := by decide +kernel
theorem dX3_readFigure_17 : decode cX3_readFigure 17 = .ok (.aload_n 0, 1) := by decide +kernel
theorem dX3_readFigure_18 : decode cX3_readFigure 18 = .ok (.getfield 25, 3) := by decide +kernel
theorem dX3_readFigure_21 : decode cX3_readFigure 21 = .ok (.iconst 4, 1) := by decide +kernel
theorem dX3_readFigure_22 : decode cX3_readFigure 22 = .ok (.if_icmp .lt 5, 3) := by decide +kernel
theorem dX3_readFigure_25 : decode cX3_readFigure 25 = .ok (.iconst 0, 1) := by decide +kernel
theorem dX3_readFigure_26 : decode cX3_readFigure 26 = .ok (.ireturn, 1) := by decide +kernel
theorem dX3_readFigure_27 : decode cX3_readFigure 27 = .ok (.aload_n 0, 1) := by decide +kernel
theorem dX3_readFigure_28 : decode cX3_readFigure 28 = .ok (.getfield 15, 3) := by decide +kernel
theorem dX3_readFigure_31 : decode cX3_readFigure 31 = .ok (.aload_n 0, 1) := by decide +kernel
theorem dX3_readFigure_32 : decode cX3_readFigure 32 = .ok (.getfield 25, 3) := by decide +kernel
theorem dX3_readFigure_35 : decode cX3_readFigure 35 = .ok (.iload_n 3, 1) := by decide +kernel
theorem dX3_readFigure_36 : decode cX3_readFigure 36 = .ok (.iastore, 1) := by decide +kernel
theorem dX3_readFigure_37 : decode cX3_readFigure 37 = .ok (.aload_n 0, 1) := by decide +kernel
theorem dX3_readFigure_38 : decode cX3_readFigure 38 = .ok (.dup, 1) := by decide +kernel
theorem dX3_readFigure_39 : decode cX3_readFigure 39 = .ok (.getfield 25, 3) := by decide +kernel
theorem dX3_readFigure_42 : decode cX3_readFigure 42 = .ok (.iconst 1, 1) := by decide +kernel
theorem dX3_readFigure_43 : decode cX3_readFigure 43 = .ok (.iadd, 1) := by decide +kernel
theorem dX3_readFigure_44 : decode cX3_readFigure 44 = .ok (.putfield 25, 3) := by decide +kernel
theorem dX3_readFigure_47 : decode cX3_readFigure 47 = .ok (.aload_n 0, 1) := by decide +kernel
theorem dX3_readFigure_48 : decode cX3_readFigure 48 = .ok (.dup, 1) := by decide +kernel
theorem dX3_readFigure_49 : decode cX3_readFigure 49 = .ok (.getfield 22, 3) := by decide +kernel
theorem dX3_readFigure_52 : decode cX3_readFigure 52 = .ok (.iconst 1, 1) := by decide +kernel
theorem dX3_readFigure_53 : decode cX3_readFigure 53 = .ok (.iadd, 1) := by decide +kernel
theorem dX3_readFigure_54 : decode cX3_readFigure 54 = .ok (.putfield 22, 3) := by decide +kernel
theorem dX3_readFigure_57 : decode cX3_readFigure 57 = .ok (.iconst 1, 1) := by decide +kernel
theorem dX3_readFigure_58 : decode cX3_readFigure 58 = .ok (.ireturn, 1) := by decide +kernel
set_option maxRecDepth 20000 in
theorem ggX3_readEnd_X3_peekSign : GoodIn wsX3_readEnd wsX3_peekSign := goodIn_r _ [6, 1, 7, 8, 9, 10, 11, 12, 13, 14, 15] (by decide +kernel) (by decide +kernel)
set_option maxRecDepth 20000 in
theorem gX3_readEnd_X3_peekSign : GoodIn wsX3_readEnd (wsV RX3 34 RX3 yX3_peekSign wsX3_peekSign) := goodIn_app (goodIn_of _ (by decide +kernel)) ggX3_readEnd_X3_peekSign
theorem dX3_readEnd_0 : decode cX3_readEnd 0 = .ok (.aload_n 0, 1) := by decide +kernel
theorem dX3_readEnd_1 : decode cX3_readEnd 1 = .ok (.invokevirtual 34, 3) := by decide +kernel
theorem dX3_readEnd_4 : decode cX3_readEnd 4 = .ok (.bipush 59, 2) := by decide +kernel
theorem dX3_readEnd_6 : decode cX3_readEnd 6 = .ok (.if_icmp .eq 5, 3) := by decide +kernel
theorem dX3_readEnd_9 : decode cX3_readEnd 9 = .ok (.iconst 0, 1) := by decide +kernel
theorem dX3_readEnd_10 : decode cX3_readEnd 10 = .ok (.ireturn, 1) := by decide +kernel
theorem dX3_readEnd_11 : decode cX3_readEnd 11 = .ok (.aload_n 0, 1) := by decide +kernel
theorem dX3_readEnd_12 : decode cX3_readEnd 12 = .ok (.dup, 1) := by decide +kernel
theorem dX3_readEnd_13 : decode cX3_readEnd 13 = .ok (.getfield 22, 3) := by decide +kernel
theorem dX3_readEnd_16 : decode cX3_readEnd 16 = .ok (.iconst 1, 1) := by decide +kernel
theorem dX3_readEnd_17 : decode cX3_readEnd 17 = .ok (.iadd, 1) := by decide +kernel
theorem dX3_readEnd_18 : decode cX3_readEnd 18 = .ok (.putfield 22, 3) := by decide +kernel
theorem dX3_readEnd_21 : decode cX3_readEnd 21 = .ok (.iconst 1, 1) := by decide +kernel
theorem dX3_readEnd_22 : decode cX3_readEnd 22 = .ok (.ireturn, 1) := by decide +kernel
theorem dX3_peekSign_0 : decode cX3_peekSign 0 = .ok (.aload_n 0, 1) := by decide +kernel
theorem dX3_peekSign_1 : decode cX3_peekSign 1 = .ok (.getfield 22, 3) := by decide +kernel
theorem dX3_peekSign_4 : decode cX3_peekSign 4 = .ok (.aload_n 0, 1) := by decide +kernel
theorem dX3_peekSign_5 : decode cX3_peekSign 5 = .ok (.getfield 18, 3) := by decide +kernel
theorem dX3_peekSign_8 : decode cX3_peekSign 8 = .ok (.if_icmp .ge 30, 3) := by decide +kernel
theorem dX3_peekSign_11 : decode cX3_peekSign 11 = .ok (.aload_n 0, 1) := by decide +kernel
theorem dX3_peekSign_12 : decode cX3_peekSign 12 = .ok (.getfield 11, 3) := by decide +kernel
theorem dX3_peekSign_15 : decode cX3_peekSign 15 = .ok (.aload_n 0, 1) := by decide +kernel
theorem dX3_peekSign_16 : decode cX3_peekSign 16 = .ok (.getfield 22, 3) := by decide +kernel
theorem dX3_peekSign_19 : decode cX3_peekSign 19 = .ok (.iaload, 1) := by decide +kernel
theorem dX3_peekSign_20 : decode cX3_peekSign 20 = .ok (.bipush 32, 2) := by decide +kernel
theorem dX3_peekSign_22 : decode cX3_peekSign 22 = .ok (.if_icmp .ne 16, 3) := by decide +kernel
theorem dX3_peekSign_25 : decode cX3_peekSign 25 = .ok (.aload_n 0, 1) := by decide +kernel
theorem dX3_peekSign_26 : decode cX3_peekSign 26 = .ok (.dup, 1) := by decide +kernel
theorem dX3_peekSign_27 : decode cX3_peekSign 27 = .ok (.getfield 22, 3) := by decide +kernel
theorem dX3_peekSign_30 : decode cX3_peekSign 30 = .ok (.iconst 1, 1) := by decide +kernel
theorem dX3_peekSign_31 : decode cX3_peekSign 31 = .ok (.iadd, 1) := by decide +kernel
theorem dX3_peekSign_32 : decode cX3_peekSign 32 = .ok (.putfield 22, 3) := by decide +kernel
theorem dX3_peekSign_35 : decode cX3_peekSign 35 = .ok (.goto (-35), 3) := by decide +kernel
theorem dX3_peekSign_38 : decode cX3_peekSign 38 = .ok (.aload_n 0, 1) := by decide +kernel
theorem dX3_peekSign_39 : decode cX3_peekSign 39 = .ok (.getfield 22, 3) := by decide +kernel
theorem dX3_peekSign_42 : decode cX3_peekSign 42 = .ok (.aload_n 0, 1) := by decide +kernel
theorem dX3_peekSign_43 : decode cX3_peekSign 43 = .ok (.getfield 18, 3) := by decide +kernel
theorem dX3_peekSign_46 : decode cX3_peekSign 46 = .ok (.if_icmp .ge 15, 3) := by decide +kernel
theorem dX3_peekSign_49 : decode cX3_peekSign 49 = .ok (.aload_n 0, 1) := by decide +kernel
theorem dX3_peekSign_50 : decode cX3_peekSign 50 = .ok (.getfield 11, 3) := by decide +kernel
theorem dX3_peekSign_53 : decode cX3_peekSign 53 = .ok (.aload_n 0, 1) := by decide +kernel
theorem dX3_peekSign_54 : decode cX3_peekSign 54 = .ok (.getfield 22, 3) := by decide +kernel
theorem dX3_peekSign_57 : decode cX3_peekSign 57 = .ok (.iaload, 1) := by decide +kernel
theorem dX3_peekSign_58 : decode cX3_peekSign 58 = .ok (.goto 4, 3) := by decide +kernel
theorem dX3_peekSign_61 : decode cX3_peekSign 61 = .ok (.iconst (-1), 1) := by decide +kernel
theorem dX3_peekSign_62 : decode cX3_peekSign 62 = .ok (.ireturn, 1) := by decide +kernel
