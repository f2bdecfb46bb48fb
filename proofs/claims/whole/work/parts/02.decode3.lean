theorem dX7_home_34 : decode cX7_home 34 = .ok (.getfield 19, 3) := by decide +kernel
theorem dX7_home_37 : decode cX7_home 37 = .ok (.iconst 0, 1) := by decide +kernel
theorem dX7_home_38 : decode cX7_home 38 = .ok (.dup2, 1) := by decide +kernel
theorem dX7_home_39 : decode cX7_home 39 = .ok (.iaload, 1) := by decide +kernel
theorem dX7_home_40 : decode cX7_home 40 = .ok (.iload_n 1, 1) := by decide +kernel
theorem dX7_home_41 : decode cX7_home 41 = .ok (.iadd, 1) := by decide +kernel
theorem dX7_home_42 : decode cX7_home 42 = .ok (.iastore, 1) := by decide +kernel
theorem dX7_home_43 : decode cX7_home 43 = .ok (.aload_n 0, 1) := by decide +kernel
theorem dX7_home_44 : decode cX7_home 44 = .ok (.getfield 19, 3) := by decide +kernel
theorem dX7_home_47 : decode cX7_home 47 = .ok (.iconst 1, 1) := by decide +kernel
theorem dX7_home_48 : decode cX7_home 48 = .ok (.aload_n 0, 1) := by decide +kernel
theorem dX7_home_49 : decode cX7_home 49 = .ok (.getfield 19, 3) := by decide +kernel
theorem dX7_home_52 : decode cX7_home 52 = .ok (.iconst 1, 1) := by decide +kernel
theorem dX7_home_53 : decode cX7_home 53 = .ok (.iaload, 1) := by decide +kernel
theorem dX7_home_54 : decode cX7_home 54 = .ok (.iload_n 1, 1) := by decide +kernel
theorem dX7_home_55 : decode cX7_home 55 = .ok (.isub, 1) := by decide +kernel
theorem dX7_home_56 : decode cX7_home 56 = .ok (.iconst 0, 1) := by decide +kernel
theorem dX7_home_57 : decode cX7_home 57 = .ok (.bipush 24, 2) := by decide +kernel
theorem dX7_home_59 : decode cX7_home 59 = .ok (.invokestatic 121, 3) := by decide +kernel
theorem dX7_home_62 : decode cX7_home 62 = .ok (.iastore, 1) := by decide +kernel
theorem dX7_home_63 : decode cX7_home 63 = .ok (.aload_n 0, 1) := by decide +kernel
theorem dX7_home_64 : decode cX7_home 64 = .ok (.getfield 19, 3) := by decide +kernel
theorem dX7_home_67 : decode cX7_home 67 = .ok (.iconst 1, 1) := by decide +kernel
theorem dX7_home_68 : decode cX7_home 68 = .ok (.iaload, 1) := by decide +kernel
theorem dX7_home_69 : decode cX7_home 69 = .ok (.ireturn, 1) := by decide +kernel
set_option maxRecDepth 20000 in
theorem ggX7_falls_X7_isWoman : GoodIn wsX7_falls wsX7_isWoman := goodIn_r _ [6, 7, 8, 9, 5, 10, 20, 21, 22, 23, 24, 25, 26, 27, 28, 29, 30, 31, 32, 33, 34, 35, 36, 37, 38] (by decide +kernel) (by decide +kernel)
set_option maxRecDepth 20000 in
theorem gX7_falls_X7_isWoman : GoodIn wsX7_falls (wsV RX7 108 RX7 yX7_isWoman wsX7_isWoman) := goodIn_app (goodIn_of _ (by decide +kernel)) ggX7_falls_X7_isWoman
set_option maxRecDepth 20000 in
theorem ggX7_falls_X7_in : GoodIn wsX7_falls wsX7_in := goodIn_r _ [10] (by decide +kernel) (by decide +kernel)
set_option maxRecDepth 20000 in
theorem gX7_falls_X7_in : GoodIn wsX7_falls (va_wsS RX7 51 yX7_in wsX7_in) := goodIn_app (goodIn_of _ (by decide +kernel)) ggX7_falls_X7_in
set_option maxRecDepth 20000 in
theorem ggX7_falls_X7_keeps : GoodIn wsX7_falls wsX7_keeps := goodIn_r _ [14, 15, 16, 1, 20, 21, 22, 23, 24, 25, 26, 27, 28, 29, 30, 31, 32, 33, 34, 35, 36, 37, 38] (by decide +kernel) (by decide +kernel)
set_option maxRecDepth 20000 in
theorem gX7_falls_X7_keeps : GoodIn wsX7_falls (wsV RX7 134 RX7 yX7_keeps wsX7_keeps) := goodIn_app (goodIn_of _ (by decide +kernel)) ggX7_falls_X7_keeps
set_option maxRecDepth 20000 in
theorem ggX7_falls_X7_ones : GoodIn wsX7_falls wsX7_ones := goodIn_r _ [19] (by decide +kernel) (by decide +kernel)
set_option maxRecDepth 20000 in
theorem gX7_falls_X7_ones : GoodIn wsX7_falls (va_wsS RX7 140 yX7_ones wsX7_ones) := goodIn_app (goodIn_of _ (by decide +kernel)) ggX7_falls_X7_ones
theorem dX7_falls_0 : decode cX7_falls 0 = .ok (.aload_n 0, 1) := by decide +kernel
theorem dX7_falls_1 : decode cX7_falls 1 = .ok (.iload_n 1, 1) := by decide +kernel
theorem dX7_falls_2 : decode cX7_falls 2 = .ok (.invokevirtual 108, 3) := by decide +kernel
theorem dX7_falls_5 : decode cX7_falls 5 = .ok (.ifCond .eq 12, 3) := by decide +kernel
theorem dX7_falls_8 : decode cX7_falls 8 = .ok (.iload_n 2, 1) := by decide +kernel
theorem dX7_falls_9 : decode cX7_falls 9 = .ok (.iconst 0, 1) := by decide +kernel
theorem dX7_falls_10 : decode cX7_falls 10 = .ok (.iconst 1, 1) := by decide +kernel
theorem dX7_falls_11 : decode cX7_falls 11 = .ok (.invokestatic 51, 3) := by decide +kernel
theorem dX7_falls_14 : decode cX7_falls 14 = .ok (.ifCond .ne 5, 3) := by decide +kernel
theorem dX7_falls_17 : decode cX7_falls 17 = .ok (.iconst (-1), 1) := by decide +kernel
theorem dX7_falls_18 : decode cX7_falls 18 = .ok (.ireturn, 1) := by decide +kernel
theorem dX7_falls_19 : decode cX7_falls 19 = .ok (.aload_n 0, 1) := by decide +kernel
theorem dX7_falls_20 : decode cX7_falls 20 = .ok (.getfield 19, 3) := by decide +kernel
theorem dX7_falls_23 : decode cX7_falls 23 = .ok (.iconst 3, 1) := by decide +kernel
theorem dX7_falls_24 : decode cX7_falls 24 = .ok (.iaload, 1) := by decide +kernel
theorem dX7_falls_25 : decode cX7_falls 25 = .ok (.iload_n 1, 1) := by decide +kernel
theorem dX7_falls_26 : decode cX7_falls 26 = .ok (.ishr, 1) := by decide +kernel
theorem dX7_falls_27 : decode cX7_falls 27 = .ok (.iconst 1, 1) := by decide +kernel
theorem dX7_falls_28 : decode cX7_falls 28 = .ok (.iand, 1) := by decide +kernel
theorem dX7_falls_29 : decode cX7_falls 29 = .ok (.iload_n 2, 1) := by decide +kernel
theorem dX7_falls_30 : decode cX7_falls 30 = .ok (.if_icmp .ne 6, 3) := by decide +kernel
theorem dX7_falls_33 : decode cX7_falls 33 = .ok (.bipush (-2), 2) := by decide +kernel
theorem dX7_falls_35 : decode cX7_falls 35 = .ok (.ireturn, 1) := by decide +kernel
theorem dX7_falls_36 : decode cX7_falls 36 = .ok (.aload_n 0, 1) := by decide +kernel
theorem dX7_falls_37 : decode cX7_falls 37 = .ok (.invokevirtual 134, 3) := by decide +kernel
theorem dX7_falls_40 : decode cX7_falls 40 = .ok (.aload_n 0, 1) := by decide +kernel
theorem dX7_falls_41 : decode cX7_falls 41 = .ok (.getfield 19, 3) := by decide +kernel
theorem dX7_falls_44 : decode cX7_falls 44 = .ok (.iconst 3, 1) := by decide +kernel
theorem dX7_falls_45 : decode cX7_falls 45 = .ok (.dup2, 1) := by decide +kernel
theorem dX7_falls_46 : decode cX7_falls 46 = .ok (.iaload, 1) := by decide +kernel
theorem dX7_falls_47 : decode cX7_falls 47 = .ok (.iconst 1, 1) := by decide +kernel
theorem dX7_falls_48 : decode cX7_falls 48 = .ok (.iload_n 1, 1) := by decide +kernel
theorem dX7_falls_49 : decode cX7_falls 49 = .ok (.ishl, 1) := by decide +kernel
theorem dX7_falls_50 : decode cX7_falls 50 = .ok (.ixor, 1) := by decide +kernel
theorem dX7_falls_51 : decode cX7_falls 51 = .ok (.iastore, 1) := by decide +kernel
theorem dX7_falls_52 : decode cX7_falls 52 = .ok (.aload_n 0, 1) := by decide +kernel
theorem dX7_falls_53 : decode cX7_falls 53 = .ok (.getfield 19, 3) := by decide +kernel
theorem dX7_falls_56 : decode cX7_falls 56 = .ok (.iconst 3, 1) := by decide +kernel
theorem dX7_falls_57 : decode cX7_falls 57 = .ok (.iaload, 1) := by decide +kernel
theorem dX7_falls_58 : decode cX7_falls 58 = .ok (.invokestatic 140, 3) := by decide +kernel
theorem dX7_falls_61 : decode cX7_falls 61 = .ok (.ireturn, 1) := by decide +kernel
theorem dX7_undo_0 : decode cX7_undo 0 = .ok (.aload_n 0, 1) := by decide +kernel
theorem dX7_undo_1 : decode cX7_undo 1 = .ok (.getfield 95, 3) := by decide +kernel
theorem dX7_undo_4 : decode cX7_undo 4 = .ok (.ifCond .ne 6, 3) := by decide +kernel
theorem dX7_undo_7 : decode cX7_undo 7 = .ok (.bipush (-2), 2) := by decide +kernel
theorem dX7_undo_9 : decode cX7_undo 9 = .ok (.ireturn, 1) := by decide +kernel
theorem dX7_undo_10 : decode cX7_undo 10 = .ok (.aload_n 0, 1) := by decide +kernel
theorem dX7_undo_11 : decode cX7_undo 11 = .ok (.dup, 1) := by decide +kernel
theorem dX7_undo_12 : decode cX7_undo 12 = .ok (.getfield 95, 3) := by decide +kernel
theorem dX7_undo_15 : decode cX7_undo 15 = .ok (.iconst 1, 1) := by decide +kernel
theorem dX7_undo_16 : decode cX7_undo 16 = .ok (.isub, 1) := by decide +kernel
theorem dX7_undo_17 : decode cX7_undo 17 = .ok (.putfield 95, 3) := by decide +kernel
theorem dX7_undo_20 : decode cX7_undo 20 = .ok (.iconst 0, 1) := by decide +kernel
theorem dX7_undo_21 : decode cX7_undo 21 = .ok (.istore_n 1, 1) := by decide +kernel
theorem dX7_undo_22 : decode cX7_undo 22 = .ok (.iload_n 1, 1) := by decide +kernel
theorem dX7_undo_23 : decode cX7_undo 23 = .ok (.bipush 8, 2) := by decide +kernel
theorem dX7_undo_25 : decode cX7_undo 25 = .ok (.if_icmp .ge 29, 3) := by decide +kernel
theorem dX7_undo_28 : decode cX7_undo 28 = .ok (.aload_n 0, 1) := by decide +kernel
theorem dX7_undo_29 : decode cX7_undo 29 = .ok (.getfield 19, 3) := by decide +kernel
theorem dX7_undo_32 : decode cX7_undo 32 = .ok (.iload_n 1, 1) := by decide +kernel
theorem dX7_undo_33 : decode cX7_undo 33 = .ok (.aload_n 0, 1) := by decide +kernel
theorem dX7_undo_34 : decode cX7_undo 34 = .ok (.getfield 22, 3) := by decide +kernel
theorem dX7_undo_37 : decode cX7_undo 37 = .ok (.bipush 8, 2) := by decide +kernel
theorem dX7_undo_39 : decode cX7_undo 39 = .ok (.aload_n 0, 1) := by decide +kernel
theorem dX7_undo_40 : decode cX7_undo 40 = .ok (.getfield 95, 3) := by decide +kernel
theorem dX7_undo_43 : decode cX7_undo 43 = .ok (.imul, 1) := by decide +kernel
theorem dX7_undo_44 : decode cX7_undo 44 = .ok (.iload_n 1, 1) := by decide +kernel
theorem dX7_undo_45 : decode cX7_undo 45 = .ok (.iadd, 1) := by decide +kernel
theorem dX7_undo_46 : decode cX7_undo 46 = .ok (.iaload, 1) := by decide +kernel
theorem dX7_undo_47 : decode cX7_undo 47 = .ok (.iastore, 1) := by decide +kernel
theorem dX7_undo_48 : decode cX7_undo 48 = .ok (.iinc 1 1, 3) := by decide +kernel
theorem dX7_undo_51 : decode cX7_undo 51 = .ok (.goto (-29), 3) := by decide +kernel
theorem dX7_undo_54 : decode cX7_undo 54 = .ok (.aload_n 0, 1) := by decide +kernel
theorem dX7_undo_55 : decode cX7_undo 55 = .ok (.getfield 95, 3) := by decide +kernel
theorem dX7_undo_58 : decode cX7_undo 58 = .ok (.ireturn, 1) := by decide +kernel
set_option maxRecDepth 20000 in
theorem ggX7_would_X7_isMorning : GoodIn wsX7_would wsX7_isMorning := goodIn_r _ [5, 6, 7, 8, 4, 9, 10, 11, 12, 13, 14, 15, 16, 17, 29, 30, 31, 32, 33, 34, 35, 36, 37, 38, 39, 40, 41, 42, 43, 44, 45, 46, 47] (by decide +kernel) (by decide +kernel)
set_option maxRecDepth 20000 in
theorem gX7_would_X7_isMorning : GoodIn wsX7_would (wsV RX7 131 RX7 yX7_isMorning wsX7_isMorning) := goodIn_app (goodIn_of _ (by decide +kernel)) ggX7_would_X7_isMorning
set_option maxRecDepth 20000 in
theorem ggX7_would_X7_criesNow : GoodIn wsX7_would wsX7_criesNow := goodIn_r _ [21, 10, 22, 23, 24, 4, 25, 26, 27, 28, 29, 30, 31, 32, 33, 34, 35, 36, 37, 38, 39, 40, 41, 42, 43, 44, 45, 46, 47] (by decide +kernel) (by decide +kernel)
set_option maxRecDepth 20000 in
theorem gX7_would_X7_criesNow : GoodIn wsX7_would (wsV RX7 128 RX7 yX7_criesNow wsX7_criesNow) := goodIn_app (goodIn_of _ (by decide +kernel)) ggX7_would_X7_criesNow
theorem dX7_would_0 : decode cX7_would 0 = .ok (.aload_n 0, 1) := by decide +kernel
theorem dX7_would_1 : decode cX7_would 1 = .ok (.iload_n 1, 1) := by decide +kernel
theorem dX7_would_2 : decode cX7_would 2 = .ok (.iload_n 2, 1) := by decide +kernel
theorem dX7_would_3 : decode cX7_would 3 = .ok (.iload_n 3, 1) := by decide +kernel
theorem dX7_would_4 : decode cX7_would 4 = .ok (.invokevirtual 131, 3) := by decide +kernel
theorem dX7_would_7 : decode cX7_would 7 = .ok (.ifCond .eq 13, 3) := by decide +kernel
theorem dX7_would_10 : decode cX7_would 10 = .ok (.aload_n 0, 1) := by decide +kernel
theorem dX7_would_11 : decode cX7_would 11 = .ok (.iload_n 1, 1) := by decide +kernel
theorem dX7_would_12 : decode cX7_would 12 = .ok (.iload_n 2, 1) := by decide +kernel
theorem dX7_would_13 : decode cX7_would 13 = .ok (.iload_n 3, 1) := by decide +kernel
theorem dX7_would_14 : decode cX7_would 14 = .ok (.invokevirtual 128, 3) := by decide +kernel
theorem dX7_would_17 : decode cX7_would 17 = .ok (.goto 4, 3) := by decide +kernel
theorem dX7_would_20 : decode cX7_would 20 = .ok (.iconst (-1), 1) := by decide +kernel
theorem dX7_would_21 : decode cX7_would 21 = .ok (.ireturn, 1) := by decide +kernel
set_option maxRecDepth 20000 in
theorem ggX7_farthest_X7_isGoodbye : GoodIn wsX7_farthest wsX7_isGoodbye := goodIn_r _ [6, 7, 8, 9, 5, 10, 19, 20, 21, 22, 23, 24, 25, 26, 27, 28, 29, 30, 31, 32, 33, 34, 35, 36, 37] (by decide +kernel) (by decide +kernel)
set_option maxRecDepth 20000 in
theorem gX7_farthest_X7_isGoodbye : GoodIn wsX7_farthest (wsV RX7 101 RX7 yX7_isGoodbye wsX7_isGoodbye) := goodIn_app (goodIn_of _ (by decide +kernel)) ggX7_farthest_X7_isGoodbye
set_option maxRecDepth 20000 in
theorem ggX7_farthest_X7_isWoman : GoodIn wsX7_farthest wsX7_isWoman := goodIn_r _ [14, 7, 8, 9, 5, 10, 19, 20, 21, 22, 23, 24, 25, 26, 27, 28, 29, 30, 31, 32, 33, 34, 35, 36, 37] (by decide +kernel) (by decide +kernel)
set_option maxRecDepth 20000 in
theorem gX7_farthest_X7_isWoman : GoodIn wsX7_farthest (wsV RX7 108 RX7 yX7_isWoman wsX7_isWoman) := goodIn_app (goodIn_of _ (by decide +kernel)) ggX7_farthest_X7_isWoman
set_option maxRecDepth 20000 in
theorem ggX7_farthest_X7_calmTo : GoodIn wsX7_farthest wsX7_calmTo := goodIn_r _ [18, 7, 19, 20, 21, 22, 23, 24, 25, 26, 27, 28, 29, 30, 31, 32, 33, 34, 35, 36, 37] (by decide +kernel) (by decide +kernel)
set_option maxRecDepth 20000 in
theorem gX7_farthest_X7_calmTo : GoodIn wsX7_farthest (wsV RX7 104 RX7 yX7_calmTo wsX7_calmTo) := goodIn_app (goodIn_of _ (by decide +kernel)) ggX7_farthest_X7_calmTo
theorem dX7_farthest_0 : decode cX7_farthest 0 = .ok (.aload_n 0, 1) := by decide +kernel
theorem dX7_farthest_1 : decode cX7_farthest 1 = .ok (.iload_n 1, 1) := by decide +kernel
theorem dX7_farthest_2 : decode cX7_farthest 2 = .ok (.invokevirtual 101, 3) := by decide +kernel
theorem dX7_farthest_5 : decode cX7_farthest 5 = .ok (.ifCond .eq 11, 3) := by decide +kernel
theorem dX7_farthest_8 : decode cX7_farthest 8 = .ok (.aload_n 0, 1) := by decide +kernel
theorem dX7_farthest_9 : decode cX7_farthest 9 = .ok (.iload_n 2, 1) := by decide +kernel
theorem dX7_farthest_10 : decode cX7_farthest 10 = .ok (.invokevirtual 108, 3) := by decide +kernel
theorem dX7_farthest_13 : decode cX7_farthest 13 = .ok (.ifCond .ne 5, 3) := by decide +kernel
theorem dX7_farthest_16 : decode cX7_farthest 16 = .ok (.iconst (-1), 1) := by decide +kernel
theorem dX7_farthest_17 : decode cX7_farthest 17 = .ok (.ireturn, 1) := by decide +kernel
theorem dX7_farthest_18 : decode cX7_farthest 18 = .ok (.aload_n 0, 1) := by decide +kernel
theorem dX7_farthest_19 : decode cX7_farthest 19 = .ok (.iload_n 1, 1) := by decide +kernel
theorem dX7_farthest_20 : decode cX7_farthest 20 = .ok (.aload_n 0, 1) := by decide +kernel
theorem dX7_farthest_21 : decode cX7_farthest 21 = .ok (.getfield 19, 3) := by decide +kernel
theorem dX7_farthest_24 : decode cX7_farthest 24 = .ok (.iconst 1, 1) := by decide +kernel
theorem dX7_farthest_25 : decode cX7_farthest 25 = .ok (.iaload, 1) := by decide +kernel
theorem dX7_farthest_26 : decode cX7_farthest 26 = .ok (.aload_n 0, 1) := by decide +kernel
theorem dX7_farthest_27 : decode cX7_farthest 27 = .ok (.getfield 19, 3) := by decide +kernel
theorem dX7_farthest_30 : decode cX7_farthest 30 = .ok (.iconst 4, 1) := by decide +kernel
theorem dX7_farthest_31 : decode cX7_farthest 31 = .ok (.iload_n 2, 1) := by decide +kernel
theorem dX7_farthest_32 : decode cX7_farthest 32 = .ok (.iadd, 1) := by decide +kernel
theorem dX7_farthest_33 : decode cX7_farthest 33 = .ok (.iaload, 1) := by decide +kernel
theorem dX7_farthest_34 : decode cX7_farthest 34 = .ok (.invokevirtual 104, 3) := by decide +kernel
theorem dX7_farthest_37 : decode cX7_farthest 37 = .ok (.istore_n 3, 1) := by decide +kernel
theorem dX7_farthest_38 : decode cX7_farthest 38 = .ok (.iload_n 3, 1) := by decide +kernel
theorem dX7_farthest_39 : decode cX7_farthest 39 = .ok (.ifCond .ne 8, 3) := by decide +kernel
theorem dX7_farthest_42 : decode cX7_farthest 42 = .ok (.bipush (-9), 2) := by decide +kernel
theorem dX7_farthest_44 : decode cX7_farthest 44 = .ok (.goto 4, 3) := by decide +kernel
theorem dX7_farthest_47 : decode cX7_farthest 47 = .ok (.iload_n 3, 1) := by decide +kernel
theorem dX7_farthest_48 : decode cX7_farthest 48 = .ok (.ireturn, 1) := by decide +kernel
set_option maxRecDepth 20000 in
theorem ggX7_place_X7_bound : GoodIn wsX7_place wsX7_bound := goodIn_r _ [4] (by decide +kernel) (by decide +kernel)
set_option maxRecDepth 20000 in
theorem gX7_place_X7_bound : GoodIn wsX7_place (va_wsS RX7 121 yX7_bound wsX7_bound) := goodIn_app (goodIn_of _ (by decide +kernel)) ggX7_place_X7_bound
theorem dX7_place_0 : decode cX7_place 0 = .ok (.bipush 10, 2) := by decide +kernel
theorem dX7_place_2 : decode cX7_place 2 = .ok (.iload_n 0, 1) := by decide +kernel
theorem dX7_place_3 : decode cX7_place 3 = .ok (.iconst 0, 1) := by decide +kernel
theorem dX7_place_4 : decode cX7_place 4 = .ok (.bipush 24, 2) := by decide +kernel
theorem dX7_place_6 : decode cX7_place 6 = .ok (.invokestatic 121, 3) := by decide +kernel
theorem dX7_place_9 : decode cX7_place 9 = .ok (.imul, 1) := by decide +kernel
theorem dX7_place_10 : decode cX7_place 10 = .ok (.iload_n 1, 1) := by decide +kernel
theorem dX7_place_11 : decode cX7_place 11 = .ok (.iconst 0, 1) := by decide +kernel
theorem dX7_place_12 : decode cX7_place 12 = .ok (.bipush 9, 2) := by decide +kernel
theorem dX7_place_14 : decode cX7_place 14 = .ok (.invokestatic 121, 3) := by decide +kernel
theorem dX7_place_17 : decode cX7_place 17 = .ok (.iadd, 1) := by decide +kernel
theorem dX7_place_18 : decode cX7_place 18 = .ok (.ireturn, 1) := by decide +kernel
set_option maxRecDepth 20000 in
theorem ggX7_calmly_X7_place : GoodIn wsX7_calmly wsX7_place := goodIn_r _ [5, 6, 7, 4, 8] (by decide +kernel) (by decide +kernel)
set_option maxRecDepth 20000 in
theorem gX7_calmly_X7_place : GoodIn wsX7_calmly (va_wsS RX7 143 yX7_place wsX7_place) := goodIn_app (goodIn_of _ (by decide +kernel)) ggX7_calmly_X7_place
theorem dX7_calmly_0 : decode cX7_calmly 0 = .ok (.iload_n 2, 1) := by decide +kernel
theorem dX7_calmly_1 : decode cX7_calmly 1 = .ok (.aload_n 0, 1) := by decide +kernel
theorem dX7_calmly_2 : decode cX7_calmly 2 = .ok (.getfield 13, 3) := by decide +kernel
theorem dX7_calmly_5 : decode cX7_calmly 5 = .ok (.bipush 13, 2) := by decide +kernel
theorem dX7_calmly_7 : decode cX7_calmly 7 = .ok (.iload_n 1, 1) := by decide +kernel
theorem dX7_calmly_8 : decode cX7_calmly 8 = .ok (.iadd, 1) := by decide +kernel
theorem dX7_calmly_9 : decode cX7_calmly 9 = .ok (.iaload, 1) := by decide +kernel
theorem dX7_calmly_10 : decode cX7_calmly 10 = .ok (.iadd, 1) := by decide +kernel
theorem dX7_calmly_11 : decode cX7_calmly 11 = .ok (.iload_n 3, 1) := by decide +kernel
theorem dX7_calmly_12 : decode cX7_calmly 12 = .ok (.iconst 1, 1) := by decide +kernel
theorem dX7_calmly_13 : decode cX7_calmly 13 = .ok (.iadd, 1) := by decide +kernel
theorem dX7_calmly_14 : decode cX7_calmly 14 = .ok (.invokestatic 143, 3) := by decide +kernel
theorem dX7_calmly_17 : decode cX7_calmly 17 = .ok (.ireturn, 1) := by decide +kernel
set_option maxRecDepth 20000 in
theorem ggX7_wildly_X7_place : GoodIn wsX7_wildly wsX7_place := goodIn_r _ [4, 5, 6, 3, 7] (by decide +kernel) (by decide +kernel)
set_option maxRecDepth 20000 in
theorem gX7_wildly_X7_place : GoodIn wsX7_wildly (va_wsS RX7 143 yX7_place wsX7_place) := goodIn_app (goodIn_of _ (by decide +kernel)) ggX7_wildly_X7_place
theorem dX7_wildly_0 : decode cX7_wildly 0 = .ok (.iload_n 0, 1) := by decide +kernel
theorem dX7_wildly_1 : decode cX7_wildly 1 = .ok (.iconst 2, 1) := by decide +kernel
theorem dX7_wildly_2 : decode cX7_wildly 2 = .ok (.isub, 1) := by decide +kernel
theorem dX7_wildly_3 : decode cX7_wildly 3 = .ok (.iload_n 1, 1) := by decide +kernel
theorem dX7_wildly_4 : decode cX7_wildly 4 = .ok (.iconst 1, 1) := by decide +kernel
theorem dX7_wildly_5 : decode cX7_wildly 5 = .ok (.isub, 1) := by decide +kernel
theorem dX7_wildly_6 : decode cX7_wildly 6 = .ok (.invokestatic 143, 3) := by decide +kernel
theorem dX7_wildly_9 : decode cX7_wildly 9 = .ok (.ireturn, 1) := by decide +kernel
set_option maxRecDepth 20000 in
theorem ggX7_waysFrom_X7_calmTo : GoodIn wsX7_waysFrom wsX7_calmTo := goodIn_r _ [9, 1, 27, 28, 29, 30, 31, 32, 33, 34, 35, 36, 37, 38, 39, 40, 41, 42, 43, 44, 45] (by decide +kernel) (by decide +kernel)
set_option maxRecDepth 20000 in
theorem gX7_waysFrom_X7_calmTo : GoodIn wsX7_waysFrom (wsV RX7 104 RX7 yX7_calmTo wsX7_calmTo) := goodIn_app (goodIn_of _ (by decide +kernel)) ggX7_waysFrom_X7_calmTo
set_option maxRecDepth 20000 in
theorem ggX7_waysFrom_X7_wildFrom : GoodIn wsX7_waysFrom wsX7_wildFrom := goodIn_r _ [13, 1, 27, 28, 29, 30, 31, 32, 33, 34, 35, 36, 37, 38, 39, 40, 41, 42, 43, 44, 45] (by decide +kernel) (by decide +kernel)
set_option maxRecDepth 20000 in
theorem gX7_waysFrom_X7_wildFrom : GoodIn wsX7_waysFrom (wsV RX7 147 RX7 yX7_wildFrom wsX7_wildFrom) := goodIn_app (goodIn_of _ (by decide +kernel)) ggX7_waysFrom_X7_wildFrom
set_option maxRecDepth 20000 in
theorem ggX7_waysFrom_X7_calmly : GoodIn wsX7_waysFrom wsX7_calmly := goodIn_r _ [17, 1, 18, 19, 8, 20, 21, 22, 23, 27, 28, 29, 30, 31, 32, 33, 34, 35, 36, 37, 38, 39, 40, 41, 42, 43, 44, 45] (by decide +kernel) (by decide +kernel)
set_option maxRecDepth 20000 in
theorem gX7_waysFrom_X7_calmly : GoodIn wsX7_waysFrom (wsV RX7 150 RX7 yX7_calmly wsX7_calmly) := goodIn_app (goodIn_of _ (by decide +kernel)) ggX7_waysFrom_X7_calmly
set_option maxRecDepth 20000 in
theorem ggX7_waysFrom_X7_wildly : GoodIn wsX7_waysFrom wsX7_wildly := goodIn_r _ [26, 18, 19, 8, 20, 21, 22, 23] (by decide +kernel) (by decide +kernel)
set_option maxRecDepth 20000 in
theorem gX7_waysFrom_X7_wildly : GoodIn wsX7_waysFrom (va_wsS RX7 154 yX7_wildly wsX7_wildly) := goodIn_app (goodIn_of _ (by decide +kernel)) ggX7_waysFrom_X7_wildly
theorem dX7_waysFrom_0 : decode cX7_waysFrom 0 = .ok (.iconst 0, 1) := by decide +kernel
theorem dX7_waysFrom_1 : decode cX7_waysFrom 1 = .ok (.istore 4, 2) := by decide +kernel
theorem dX7_waysFrom_3 : decode cX7_waysFrom 3 = .ok (.iconst 0, 1) := by decide +kernel
theorem dX7_waysFrom_4 : decode cX7_waysFrom 4 = .ok (.istore 5, 2) := by decide +kernel
theorem dX7_waysFrom_6 : decode cX7_waysFrom 6 = .ok (.iload 5, 2) := by decide +kernel
theorem dX7_waysFrom_8 : decode cX7_waysFrom 8 = .ok (.aload_n 0, 1) := by decide +kernel
theorem dX7_waysFrom_9 : decode cX7_waysFrom 9 = .ok (.getfield 13, 3) := by decide +kernel
theorem dX7_waysFrom_12 : decode cX7_waysFrom 12 = .ok (.iconst 0, 1) := by decide +kernel
theorem dX7_waysFrom_13 : decode cX7_waysFrom 13 = .ok (.iaload, 1) := by decide +kernel
theorem dX7_waysFrom_14 : decode cX7_waysFrom 14 = .ok (.if_icmp .ge 167, 3) := by decide +kernel
theorem dX7_waysFrom_17 : decode cX7_waysFrom 17 = .ok (.aload_n 0, 1) := by decide +kernel
theorem dX7_waysFrom_18 : decode cX7_waysFrom 18 = .ok (.iload 5, 2) := by decide +kernel
theorem dX7_waysFrom_20 : decode cX7_waysFrom 20 = .ok (.iload_n 1, 1) := by decide +kernel
theorem dX7_waysFrom_21 : decode cX7_waysFrom 21 = .ok (.iload_n 2, 1) := by decide +kernel
theorem dX7_waysFrom_22 : decode cX7_waysFrom 22 = .ok (.invokevirtual 104, 3) := by decide +kernel
theorem dX7_waysFrom_25 : decode cX7_waysFrom 25 = .ok (.istore 6, 2) := by decide +kernel
theorem dX7_waysFrom_27 : decode cX7_waysFrom 27 = .ok (.aload_n 0, 1) := by decide +kernel
theorem dX7_waysFrom_28 : decode cX7_waysFrom 28 = .ok (.iload 5, 2) := by decide +kernel
theorem dX7_waysFrom_30 : decode cX7_waysFrom 30 = .ok (.iload_n 1, 1) := by decide +kernel
theorem dX7_waysFrom_31 : decode cX7_waysFrom 31 = .ok (.iload_n 2, 1) := by decide +kernel
theorem dX7_waysFrom_32 : decode cX7_waysFrom 32 = .ok (.invokevirtual 147, 3) := by decide +kernel
theorem dX7_waysFrom_35 : decode cX7_waysFrom 35 = .ok (.istore 7, 2) := by decide +kernel
theorem dX7_waysFrom_37 : decode cX7_waysFrom 37 = .ok (.aload_n 0, 1) := by decide +kernel
theorem dX7_waysFrom_38 : decode cX7_waysFrom 38 = .ok (.iload 5, 2) := by decide +kernel
theorem dX7_waysFrom_40 : decode cX7_waysFrom 40 = .ok (.iload_n 1, 1) := by decide +kernel
theorem dX7_waysFrom_41 : decode cX7_waysFrom 41 = .ok (.iload_n 2, 1) := by decide +kernel
theorem dX7_waysFrom_42 : decode cX7_waysFrom 42 = .ok (.invokevirtual 150, 3) := by decide +kernel
theorem dX7_waysFrom_45 : decode cX7_waysFrom 45 = .ok (.istore 8, 2) := by decide +kernel
theorem dX7_waysFrom_47 : decode cX7_waysFrom 47 = .ok (.iload_n 3, 1) := by decide +kernel
theorem dX7_waysFrom_48 : decode cX7_waysFrom 48 = .ok (.iconst 1, 1) := by decide +kernel
theorem dX7_waysFrom_49 : decode cX7_waysFrom 49 = .ok (.if_icmp .ne 37, 3) := by decide +kernel
theorem dX7_waysFrom_52 : decode cX7_waysFrom 52 = .ok (.iload 4, 2) := by decide +kernel
theorem dX7_waysFrom_54 : decode cX7_waysFrom 54 = .ok (.iload 6, 2) := by decide +kernel
theorem dX7_waysFrom_56 : decode cX7_waysFrom 56 = .ok (.aload_n 0, 1) := by decide +kernel
theorem dX7_waysFrom_57 : decode cX7_waysFrom 57 = .ok (.getfield 13, 3) := by decide +kernel
theorem dX7_waysFrom_60 : decode cX7_waysFrom 60 = .ok (.iconst 5, 1) := by decide +kernel
theorem dX7_waysFrom_61 : decode cX7_waysFrom 61 = .ok (.iaload, 1) := by decide +kernel
theorem dX7_waysFrom_62 : decode cX7_waysFrom 62 = .ok (.if_icmp .lt 17, 3) := by decide +kernel
theorem dX7_waysFrom_65 : decode cX7_waysFrom 65 = .ok (.iload 6, 2) := by decide +kernel
theorem dX7_waysFrom_67 : decode cX7_waysFrom 67 = .ok (.aload_n 0, 1) := by decide +kernel
theorem dX7_waysFrom_68 : decode cX7_waysFrom 68 = .ok (.getfield 13, 3) := by decide +kernel
theorem dX7_waysFrom_71 : decode cX7_waysFrom 71 = .ok (.iconst 5, 1) := by decide +kernel
theorem dX7_waysFrom_72 : decode cX7_waysFrom 72 = .ok (.iaload, 1) := by decide +kernel
theorem dX7_waysFrom_73 : decode cX7_waysFrom 73 = .ok (.isub, 1) := by decide +kernel
theorem dX7_waysFrom_74 : decode cX7_waysFrom 74 = .ok (.iconst 1, 1) := by decide +kernel
theorem dX7_waysFrom_75 : decode cX7_waysFrom 75 = .ok (.iadd, 1) := by decide +kernel
theorem dX7_waysFrom_76 : decode cX7_waysFrom 76 = .ok (.goto 4, 3) := by decide +kernel
theorem dX7_waysFrom_79 : decode cX7_waysFrom 79 = .ok (.iconst 0, 1) := by decide +kernel
theorem dX7_waysFrom_80 : decode cX7_waysFrom 80 = .ok (.iadd, 1) := by decide +kernel
theorem dX7_waysFrom_81 : decode cX7_waysFrom 81 = .ok (.istore 4, 2) := by decide +kernel
theorem dX7_waysFrom_83 : decode cX7_waysFrom 83 = .ok (.goto 92, 3) := by decide +kernel
theorem dX7_waysFrom_86 : decode cX7_waysFrom 86 = .ok (.iload 4, 2) := by decide +kernel
theorem dX7_waysFrom_88 : decode cX7_waysFrom 88 = .ok (.aload_n 0, 1) := by decide +kernel
theorem dX7_waysFrom_89 : decode cX7_waysFrom 89 = .ok (.getfield 35, 3) := by decide +kernel
theorem dX7_waysFrom_92 : decode cX7_waysFrom 92 = .ok (.iload 8, 2) := by decide +kernel
theorem dX7_waysFrom_94 : decode cX7_waysFrom 94 = .ok (.iaload, 1) := by decide +kernel
theorem dX7_waysFrom_95 : decode cX7_waysFrom 95 = .ok (.iload_n 3, 1) := by decide +kernel
theorem dX7_waysFrom_96 : decode cX7_waysFrom 96 = .ok (.iconst 1, 1) := by decide +kernel
theorem dX7_waysFrom_97 : decode cX7_waysFrom 97 = .ok (.isub, 1) := by decide +kernel
theorem dX7_waysFrom_98 : decode cX7_waysFrom 98 = .ok (.if_icmp .ne 19, 3) := by decide +kernel
theorem dX7_waysFrom_101 : decode cX7_waysFrom 101 = .ok (.iload 6, 2) := by decide +kernel
theorem dX7_waysFrom_103 : decode cX7_waysFrom 103 = .ok (.aload_n 0, 1) := by decide +kernel
theorem dX7_waysFrom_104 : decode cX7_waysFrom 104 = .ok (.getfield 38, 3) := by decide +kernel
theorem dX7_waysFrom_107 : decode cX7_waysFrom 107 = .ok (.iload 8, 2) := by decide +kernel
theorem dX7_waysFrom_109 : decode cX7_waysFrom 109 = .ok (.iaload, 1) := by decide +kernel
theorem dX7_waysFrom_110 : decode cX7_waysFrom 110 = .ok (.imul, 1) := by decide +kernel
theorem dX7_waysFrom_111 : decode cX7_waysFrom 111 = .ok (.ldc 153, 2) := by decide +kernel
theorem dX7_waysFrom_113 : decode cX7_waysFrom 113 = .ok (.irem, 1) := by decide +kernel
theorem dX7_waysFrom_114 : decode cX7_waysFrom 114 = .ok (.goto 4, 3) := by decide +kernel
theorem dX7_waysFrom_117 : decode cX7_waysFrom 117 = .ok (.iconst 0, 1) := by decide +kernel
theorem dX7_waysFrom_118 : decode cX7_waysFrom 118 = .ok (.iadd, 1) := by decide +kernel
theorem dX7_waysFrom_119 : decode cX7_waysFrom 119 = .ok (.istore 4, 2) := by decide +kernel
theorem dX7_waysFrom_121 : decode cX7_waysFrom 121 = .ok (.iload_n 1, 1) := by decide +kernel
theorem dX7_waysFrom_122 : decode cX7_waysFrom 122 = .ok (.iload_n 2, 1) := by decide +kernel
theorem dX7_waysFrom_123 : decode cX7_waysFrom 123 = .ok (.invokestatic 154, 3) := by decide +kernel
theorem dX7_waysFrom_126 : decode cX7_waysFrom 126 = .ok (.istore 8, 2) := by decide +kernel
theorem dX7_waysFrom_128 : decode cX7_waysFrom 128 = .ok (.iload 4, 2) := by decide +kernel
theorem dX7_waysFrom_130 : decode cX7_waysFrom 130 = .ok (.iload 7, 2) := by decide +kernel
theorem dX7_waysFrom_132 : decode cX7_waysFrom 132 = .ok (.bipush 96, 2) := by decide +kernel
theorem dX7_waysFrom_134 : decode cX7_waysFrom 134 = .ok (.if_icmp .gt 37, 3) := by decide +kernel
theorem dX7_waysFrom_137 : decode cX7_waysFrom 137 = .ok (.aload_n 0, 1) := by decide +kernel
theorem dX7_waysFrom_138 : decode cX7_waysFrom 138 = .ok (.getfield 35, 3) := by decide +kernel
theorem dX7_waysFrom_141 : decode cX7_waysFrom 141 = .ok (.iload 8, 2) := by decide +kernel
theorem dX7_waysFrom_143 : decode cX7_waysFrom 143 = .ok (.iaload, 1) := by decide +kernel
theorem dX7_waysFrom_144 : decode cX7_waysFrom 144 = .ok (.iload_n 3, 1) := by decide +kernel
theorem dX7_waysFrom_145 : decode cX7_waysFrom 145 = .ok (.iconst 1, 1) := by decide +kernel
theorem dX7_waysFrom_146 : decode cX7_waysFrom 146 = .ok (.isub, 1) := by decide +kernel
theorem dX7_waysFrom_147 : decode cX7_waysFrom 147 = .ok (.if_icmp .ne 24, 3) := by decide +kernel
theorem dX7_waysFrom_150 : decode cX7_waysFrom 150 = .ok (.bipush 96, 2) := by decide +kernel
theorem dX7_waysFrom_152 : decode cX7_waysFrom 152 = .ok (.iload 7, 2) := by decide +kernel
theorem dX7_waysFrom_154 : decode cX7_waysFrom 154 = .ok (.isub, 1) := by decide +kernel
theorem dX7_waysFrom_155 : decode cX7_waysFrom 155 = .ok (.iconst 1, 1) := by decide +kernel
theorem dX7_waysFrom_156 : decode cX7_waysFrom 156 = .ok (.iadd, 1) := by decide +kernel
theorem dX7_waysFrom_157 : decode cX7_waysFrom 157 = .ok (.aload_n 0, 1) := by decide +kernel
theorem dX7_waysFrom_158 : decode cX7_waysFrom 158 = .ok (.getfield 38, 3) := by decide +kernel
theorem dX7_waysFrom_161 : decode cX7_waysFrom 161 = .ok (.iload 8, 2) := by decide +kernel
theorem dX7_waysFrom_163 : decode cX7_waysFrom 163 = .ok (.iaload, 1) := by decide +kernel
theorem dX7_waysFrom_164 : decode cX7_waysFrom 164 = .ok (.imul, 1) := by decide +kernel
theorem dX7_waysFrom_165 : decode cX7_waysFrom 165 = .ok (.ldc 153, 2) := by decide +kernel
theorem dX7_waysFrom_167 : decode cX7_waysFrom 167 = .ok (.irem, 1) := by decide +kernel
theorem dX7_waysFrom_168 : decode cX7_waysFrom 168 = .ok (.goto 4, 3) := by decide +kernel
theorem dX7_waysFrom_171 : decode cX7_waysFrom 171 = .ok (.iconst 0, 1) := by decide +kernel
theorem dX7_waysFrom_172 : decode cX7_waysFrom 172 = .ok (.iadd, 1) := by decide +kernel
theorem dX7_waysFrom_173 : decode cX7_waysFrom 173 = .ok (.istore 4, 2) := by decide +kernel
theorem dX7_waysFrom_175 : decode cX7_waysFrom 175 = .ok (.iinc 5 1, 3) := by decide +kernel
theorem dX7_waysFrom_178 : decode cX7_waysFrom 178 = .ok (.goto (-172), 3) := by decide +kernel
theorem dX7_waysFrom_181 : decode cX7_waysFrom 181 = .ok (.iload 4, 2) := by decide +kernel
theorem dX7_waysFrom_183 : decode cX7_waysFrom 183 = .ok (.ldc 153, 2) := by decide +kernel
theorem dX7_waysFrom_185 : decode cX7_waysFrom 185 = .ok (.irem, 1) := by decide +kernel
theorem dX7_waysFrom_186 : decode cX7_waysFrom 186 = .ok (.ireturn, 1) := by decide +kernel
set_option maxRecDepth 20000 in
theorem ggX7_isNearer_X7_calmTo : GoodIn wsX7_isNearer wsX7_calmTo := goodIn_r _ [7, 1, 25, 26, 27, 28, 29, 30, 31, 32, 33, 34, 35, 36, 37, 38, 39, 40, 41, 42, 43] (by decide +kernel) (by decide +kernel)
set_option maxRecDepth 20000 in
theorem gX7_isNearer_X7_calmTo : GoodIn wsX7_isNearer (wsV RX7 104 RX7 yX7_calmTo wsX7_calmTo) := goodIn_app (goodIn_of _ (by decide +kernel)) ggX7_isNearer_X7_calmTo
set_option maxRecDepth 20000 in
theorem ggX7_isNearer_X7_calmly : GoodIn wsX7_isNearer wsX7_calmly := goodIn_r _ [11, 1, 12, 13, 6, 14, 15, 16, 17, 25, 26, 27, 28, 29, 30, 31, 32, 33, 34, 35, 36, 37, 38, 39, 40, 41, 42, 43] (by decide +kernel) (by decide +kernel)
set_option maxRecDepth 20000 in
theorem gX7_isNearer_X7_calmly : GoodIn wsX7_isNearer (wsV RX7 150 RX7 yX7_calmly wsX7_calmly) := goodIn_app (goodIn_of _ (by decide +kernel)) ggX7_isNearer_X7_calmly
set_option maxRecDepth 20000 in
theorem ggX7_isNearer_X7_wildFrom : GoodIn wsX7_isNearer wsX7_wildFrom := goodIn_r _ [21, 1, 25, 26, 27, 28, 29, 30, 31, 32, 33, 34, 35, 36, 37, 38, 39, 40, 41, 42, 43] (by decide +kernel) (by decide +kernel)
set_option maxRecDepth 20000 in
theorem gX7_isNearer_X7_wildFrom : GoodIn wsX7_isNearer (wsV RX7 147 RX7 yX7_wildFrom wsX7_wildFrom) := goodIn_app (goodIn_of _ (by decide +kernel)) ggX7_isNearer_X7_wildFrom
set_option maxRecDepth 20000 in
theorem ggX7_isNearer_X7_wildly : GoodIn wsX7_isNearer wsX7_wildly := goodIn_r _ [24, 12, 13, 6, 14, 15, 16, 17] (by decide +kernel) (by decide +kernel)
set_option maxRecDepth 20000 in
theorem gX7_isNearer_X7_wildly : GoodIn wsX7_isNearer (va_wsS RX7 154 yX7_wildly wsX7_wildly) := goodIn_app (goodIn_of _ (by decide +kernel)) ggX7_isNearer_X7_wildly
theorem dX7_isNearer_0 : decode cX7_isNearer 0 = .ok (.iconst 0, 1) := by decide +kernel
theorem dX7_isNearer_1 : decode cX7_isNearer 1 = .ok (.istore 4, 2) := by decide +kernel
theorem dX7_isNearer_3 : decode cX7_isNearer 3 = .ok (.iconst 0, 1) := by decide +kernel
theorem dX7_isNearer_4 : decode cX7_isNearer 4 = .ok (.istore 5, 2) := by decide +kernel
theorem dX7_isNearer_6 : decode cX7_isNearer 6 = .ok (.iload 5, 2) := by decide +kernel
theorem dX7_isNearer_8 : decode cX7_isNearer 8 = .ok (.aload_n 0, 1) := by decide +kernel
theorem dX7_isNearer_9 : decode cX7_isNearer 9 = .ok (.getfield 13, 3) := by decide +kernel
theorem dX7_isNearer_12 : decode cX7_isNearer 12 = .ok (.iconst 0, 1) := by decide +kernel
theorem dX7_isNearer_13 : decode cX7_isNearer 13 = .ok (.iaload, 1) := by decide +kernel
theorem dX7_isNearer_14 : decode cX7_isNearer 14 = .ok (.if_icmp .ge 137, 3) := by decide +kernel
theorem dX7_isNearer_17 : decode cX7_isNearer 17 = .ok (.aload_n 0, 1) := by decide +kernel
theorem dX7_isNearer_18 : decode cX7_isNearer 18 = .ok (.iload 5, 2) := by decide +kernel
theorem dX7_isNearer_20 : decode cX7_isNearer 20 = .ok (.iload_n 1, 1) := by decide +kernel
theorem dX7_isNearer_21 : decode cX7_isNearer 21 = .ok (.iload_n 2, 1) := by decide +kernel
theorem dX7_isNearer_22 : decode cX7_isNearer 22 = .ok (.invokevirtual 104, 3) := by decide +kernel
theorem dX7_isNearer_25 : decode cX7_isNearer 25 = .ok (.istore 6, 2) := by decide +kernel
theorem dX7_isNearer_27 : decode cX7_isNearer 27 = .ok (.iload_n 3, 1) := by decide +kernel
theorem dX7_isNearer_28 : decode cX7_isNearer 28 = .ok (.iconst 1, 1) := by decide +kernel
theorem dX7_isNearer_29 : decode cX7_isNearer 29 = .ok (.if_icmp .ne 22, 3) := by decide +kernel
theorem dX7_isNearer_32 : decode cX7_isNearer 32 = .ok (.iload 6, 2) := by decide +kernel
theorem dX7_isNearer_34 : decode cX7_isNearer 34 = .ok (.aload_n 0, 1) := by decide +kernel
theorem dX7_isNearer_35 : decode cX7_isNearer 35 = .ok (.getfield 13, 3) := by decide +kernel
theorem dX7_isNearer_38 : decode cX7_isNearer 38 = .ok (.iconst 5, 1) := by decide +kernel
theorem dX7_isNearer_39 : decode cX7_isNearer 39 = .ok (.iaload, 1) := by decide +kernel
theorem dX7_isNearer_40 : decode cX7_isNearer 40 = .ok (.if_icmp .lt 7, 3) := by decide +kernel
theorem dX7_isNearer_43 : decode cX7_isNearer 43 = .ok (.iconst 1, 1) := by decide +kernel
theorem dX7_isNearer_44 : decode cX7_isNearer 44 = .ok (.goto 36, 3) := by decide +kernel
theorem dX7_isNearer_47 : decode cX7_isNearer 47 = .ok (.iconst 0, 1) := by decide +kernel
theorem dX7_isNearer_48 : decode cX7_isNearer 48 = .ok (.goto 32, 3) := by decide +kernel
theorem dX7_isNearer_51 : decode cX7_isNearer 51 = .ok (.iload 6, 2) := by decide +kernel
theorem dX7_isNearer_53 : decode cX7_isNearer 53 = .ok (.ifCond .le 26, 3) := by decide +kernel
theorem dX7_isNearer_56 : decode cX7_isNearer 56 = .ok (.aload_n 0, 1) := by decide +kernel
theorem dX7_isNearer_57 : decode cX7_isNearer 57 = .ok (.getfield 35, 3) := by decide +kernel
theorem dX7_isNearer_60 : decode cX7_isNearer 60 = .ok (.aload_n 0, 1) := by decide +kernel
theorem dX7_isNearer_61 : decode cX7_isNearer 61 = .ok (.iload 5, 2) := by decide +kernel
theorem dX7_isNearer_63 : decode cX7_isNearer 63 = .ok (.iload_n 1, 1) := by decide +kernel
theorem dX7_isNearer_64 : decode cX7_isNearer 64 = .ok (.iload_n 2, 1) := by decide +kernel
theorem dX7_isNearer_65 : decode cX7_isNearer 65 = .ok (.invokevirtual 150, 3) := by decide +kernel
theorem dX7_isNearer_68 : decode cX7_isNearer 68 = .ok (.iaload, 1) := by decide +kernel
theorem dX7_isNearer_69 : decode cX7_isNearer 69 = .ok (.iload_n 3, 1) := by decide +kernel
theorem dX7_isNearer_70 : decode cX7_isNearer 70 = .ok (.iconst 1, 1) := by decide +kernel
theorem dX7_isNearer_71 : decode cX7_isNearer 71 = .ok (.isub, 1) := by decide +kernel
theorem dX7_isNearer_72 : decode cX7_isNearer 72 = .ok (.if_icmp .ne 7, 3) := by decide +kernel
theorem dX7_isNearer_75 : decode cX7_isNearer 75 = .ok (.iconst 1, 1) := by decide +kernel
theorem dX7_isNearer_76 : decode cX7_isNearer 76 = .ok (.goto 4, 3) := by decide +kernel
theorem dX7_isNearer_79 : decode cX7_isNearer 79 = .ok (.iconst 0, 1) := by decide +kernel
theorem dX7_isNearer_80 : decode cX7_isNearer 80 = .ok (.istore 7, 2) := by decide +kernel
theorem dX7_isNearer_82 : decode cX7_isNearer 82 = .ok (.iload_n 3, 1) := by decide +kernel
theorem dX7_isNearer_83 : decode cX7_isNearer 83 = .ok (.iconst 1, 1) := by decide +kernel
theorem dX7_isNearer_84 : decode cX7_isNearer 84 = .ok (.if_icmp .le 36, 3) := by decide +kernel
theorem dX7_isNearer_87 : decode cX7_isNearer 87 = .ok (.aload_n 0, 1) := by decide +kernel
theorem dX7_isNearer_88 : decode cX7_isNearer 88 = .ok (.iload 5, 2) := by decide +kernel
theorem dX7_isNearer_90 : decode cX7_isNearer 90 = .ok (.iload_n 1, 1) := by decide +kernel
theorem dX7_isNearer_91 : decode cX7_isNearer 91 = .ok (.iload_n 2, 1) := by decide +kernel
theorem dX7_isNearer_92 : decode cX7_isNearer 92 = .ok (.invokevirtual 147, 3) := by decide +kernel
theorem dX7_isNearer_95 : decode cX7_isNearer 95 = .ok (.bipush 96, 2) := by decide +kernel
theorem dX7_isNearer_97 : decode cX7_isNearer 97 = .ok (.if_icmp .gt 23, 3) := by decide +kernel
theorem dX7_isNearer_100 : decode cX7_isNearer 100 = .ok (.aload_n 0, 1) := by decide +kernel
theorem dX7_isNearer_101 : decode cX7_isNearer 101 = .ok (.getfield 35, 3) := by decide +kernel
theorem dX7_isNearer_104 : decode cX7_isNearer 104 = .ok (.iload_n 1, 1) := by decide +kernel
theorem dX7_isNearer_105 : decode cX7_isNearer 105 = .ok (.iload_n 2, 1) := by decide +kernel
theorem dX7_isNearer_106 : decode cX7_isNearer 106 = .ok (.invokestatic 154, 3) := by decide +kernel
theorem dX7_isNearer_109 : decode cX7_isNearer 109 = .ok (.iaload, 1) := by decide +kernel
theorem dX7_isNearer_110 : decode cX7_isNearer 110 = .ok (.iload_n 3, 1) := by decide +kernel
theorem dX7_isNearer_111 : decode cX7_isNearer 111 = .ok (.iconst 1, 1) := by decide +kernel
theorem dX7_isNearer_112 : decode cX7_isNearer 112 = .ok (.isub, 1) := by decide +kernel
theorem dX7_isNearer_113 : decode cX7_isNearer 113 = .ok (.if_icmp .ne 7, 3) := by decide +kernel
theorem dX7_isNearer_116 : decode cX7_isNearer 116 = .ok (.iconst 1, 1) := by decide +kernel
theorem dX7_isNearer_117 : decode cX7_isNearer 117 = .ok (.goto 4, 3) := by decide +kernel
theorem dX7_isNearer_120 : decode cX7_isNearer 120 = .ok (.iconst 0, 1) := by decide +kernel
theorem dX7_isNearer_121 : decode cX7_isNearer 121 = .ok (.istore 8, 2) := by decide +kernel
theorem dX7_isNearer_123 : decode cX7_isNearer 123 = .ok (.iload 4, 2) := by decide +kernel
theorem dX7_isNearer_125 : decode cX7_isNearer 125 = .ok (.ifCond .ne 13, 3) := by decide +kernel
theorem dX7_isNearer_128 : decode cX7_isNearer 128 = .ok (.iload 7, 2) := by decide +kernel
theorem dX7_isNearer_130 : decode cX7_isNearer 130 = .ok (.ifCond .ne 8, 3) := by decide +kernel
theorem dX7_isNearer_133 : decode cX7_isNearer 133 = .ok (.iload 8, 2) := by decide +kernel
theorem dX7_isNearer_135 : decode cX7_isNearer 135 = .ok (.ifCond .eq 7, 3) := by decide +kernel
theorem dX7_isNearer_138 : decode cX7_isNearer 138 = .ok (.iconst 1, 1) := by decide +kernel
theorem dX7_isNearer_139 : decode cX7_isNearer 139 = .ok (.goto 4, 3) := by decide +kernel
theorem dX7_isNearer_142 : decode cX7_isNearer 142 = .ok (.iconst 0, 1) := by decide +kernel
theorem dX7_isNearer_143 : decode cX7_isNearer 143 = .ok (.istore 4, 2) := by decide +kernel
theorem dX7_isNearer_145 : decode cX7_isNearer 145 = .ok (.iinc 5 1, 3) := by decide +kernel
theorem dX7_isNearer_148 : decode cX7_isNearer 148 = .ok (.goto (-142), 3) := by decide +kernel
theorem dX7_isNearer_151 : decode cX7_isNearer 151 = .ok (.iload 4, 2) := by decide +kernel
theorem dX7_isNearer_153 : decode cX7_isNearer 153 = .ok (.ireturn, 1) := by decide +kernel
set_option maxRecDepth 20000 in
theorem ggX7_reckons_X7_place : GoodIn wsX7_reckons wsX7_place := goodIn_r _ [6, 7, 8, 5, 9] (by decide +kernel) (by decide +kernel)
set_option maxRecDepth 20000 in
theorem gX7_reckons_X7_place : GoodIn wsX7_reckons (va_wsS RX7 143 yX7_place wsX7_place) := goodIn_app (goodIn_of _ (by decide +kernel)) ggX7_reckons_X7_place
set_option maxRecDepth 20000 in
theorem ggX7_reckons_X7_isNearer : GoodIn wsX7_reckons wsX7_isNearer := goodIn_r _ [13, 14, 1, 15, 16, 17, 5, 18, 19, 20, 21, 22, 3, 4, 6, 7, 8, 9, 23, 24, 25, 26, 27, 28, 29, 35, 36, 37, 38, 39, 40, 41, 42, 43, 44, 45, 46, 47, 48, 49, 50, 51, 52, 53] (by decide +kernel) (by decide +kernel)
set_option maxRecDepth 20000 in
theorem gX7_reckons_X7_isNearer : GoodIn wsX7_reckons (wsV RX7 157 RX7 yX7_isNearer wsX7_isNearer) := goodIn_app (goodIn_of _ (by decide +kernel)) ggX7_reckons_X7_isNearer
set_option maxRecDepth 20000 in
theorem ggX7_reckons_X7_waysFrom : GoodIn wsX7_reckons wsX7_waysFrom := goodIn_r _ [33, 14, 1, 2, 34, 15, 16, 17, 5, 18, 23, 24, 25, 26, 19, 20, 21, 22, 3, 4, 6, 7, 8, 9, 27, 28, 29, 35, 36, 37, 38, 39, 40, 41, 42, 43, 44, 45, 46, 47, 48, 49, 50, 51, 52, 53] (by decide +kernel) (by decide +kernel)
set_option maxRecDepth 20000 in
theorem gX7_reckons_X7_waysFrom : GoodIn wsX7_reckons (wsV RX7 160 RX7 yX7_waysFrom wsX7_waysFrom) := goodIn_app (goodIn_of _ (by decide +kernel)) ggX7_reckons_X7_waysFrom
theorem dX7_reckons_0 : decode cX7_reckons 0 = .ok (.iconst 0, 1) := by decide +kernel
theorem dX7_reckons_1 : decode cX7_reckons 1 = .ok (.istore_n 3, 1) := by decide +kernel
theorem dX7_reckons_2 : decode cX7_reckons 2 = .ok (.iload_n 3, 1) := by decide +kernel
theorem dX7_reckons_3 : decode cX7_reckons 3 = .ok (.sipush 250, 3) := by decide +kernel
theorem dX7_reckons_6 : decode cX7_reckons 6 = .ok (.if_icmp .ge 23, 3) := by decide +kernel
theorem dX7_reckons_9 : decode cX7_reckons 9 = .ok (.aload_n 0, 1) := by decide +kernel
theorem dX7_reckons_10 : decode cX7_reckons 10 = .ok (.getfield 35, 3) := by decide +kernel
theorem dX7_reckons_13 : decode cX7_reckons 13 = .ok (.iload_n 3, 1) := by decide +kernel
theorem dX7_reckons_14 : decode cX7_reckons 14 = .ok (.iconst 0, 1) := by decide +kernel
theorem dX7_reckons_15 : decode cX7_reckons 15 = .ok (.iastore, 1) := by decide +kernel
theorem dX7_reckons_16 : decode cX7_reckons 16 = .ok (.aload_n 0, 1) := by decide +kernel
theorem dX7_reckons_17 : decode cX7_reckons 17 = .ok (.getfield 38, 3) := by decide +kernel
theorem dX7_reckons_20 : decode cX7_reckons 20 = .ok (.iload_n 3, 1) := by decide +kernel
theorem dX7_reckons_21 : decode cX7_reckons 21 = .ok (.iconst 0, 1) := by decide +kernel
theorem dX7_reckons_22 : decode cX7_reckons 22 = .ok (.iastore, 1) := by decide +kernel
theorem dX7_reckons_23 : decode cX7_reckons 23 = .ok (.iinc 3 1, 3) := by decide +kernel
theorem dX7_reckons_26 : decode cX7_reckons 26 = .ok (.goto (-24), 3) := by decide +kernel
theorem dX7_reckons_29 : decode cX7_reckons 29 = .ok (.iconst 1, 1) := by decide +kernel
theorem dX7_reckons_30 : decode cX7_reckons 30 = .ok (.istore_n 3, 1) := by decide +kernel
theorem dX7_reckons_31 : decode cX7_reckons 31 = .ok (.iload_n 3, 1) := by decide +kernel
theorem dX7_reckons_32 : decode cX7_reckons 32 = .ok (.bipush 60, 2) := by decide +kernel
theorem dX7_reckons_34 : decode cX7_reckons 34 = .ok (.if_icmp .gt 115, 3) := by decide +kernel
theorem dX7_reckons_37 : decode cX7_reckons 37 = .ok (.aload_n 0, 1) := by decide +kernel
theorem dX7_reckons_38 : decode cX7_reckons 38 = .ok (.getfield 35, 3) := by decide +kernel
theorem dX7_reckons_41 : decode cX7_reckons 41 = .ok (.iload_n 1, 1) := by decide +kernel
theorem dX7_reckons_42 : decode cX7_reckons 42 = .ok (.iload_n 2, 1) := by decide +kernel
theorem dX7_reckons_43 : decode cX7_reckons 43 = .ok (.invokestatic 143, 3) := by decide +kernel
theorem dX7_reckons_46 : decode cX7_reckons 46 = .ok (.iaload, 1) := by decide +kernel
theorem dX7_reckons_47 : decode cX7_reckons 47 = .ok (.ifCond .ne 102, 3) := by decide +kernel
theorem dX7_reckons_50 : decode cX7_reckons 50 = .ok (.iconst 0, 1) := by decide +kernel
theorem dX7_reckons_51 : decode cX7_reckons 51 = .ok (.istore 4, 2) := by decide +kernel
theorem dX7_reckons_53 : decode cX7_reckons 53 = .ok (.iload 4, 2) := by decide +kernel
theorem dX7_reckons_55 : decode cX7_reckons 55 = .ok (.bipush 24, 2) := by decide +kernel
theorem dX7_reckons_57 : decode cX7_reckons 57 = .ok (.if_icmp .gt 86, 3) := by decide +kernel
theorem dX7_reckons_60 : decode cX7_reckons 60 = .ok (.iconst 0, 1) := by decide +kernel
theorem dX7_reckons_61 : decode cX7_reckons 61 = .ok (.istore 5, 2) := by decide +kernel
theorem dX7_reckons_63 : decode cX7_reckons 63 = .ok (.iload 5, 2) := by decide +kernel
theorem dX7_reckons_65 : decode cX7_reckons 65 = .ok (.bipush 9, 2) := by decide +kernel
theorem dX7_reckons_67 : decode cX7_reckons 67 = .ok (.if_icmp .gt 70, 3) := by decide +kernel
theorem dX7_reckons_70 : decode cX7_reckons 70 = .ok (.aload_n 0, 1) := by decide +kernel
theorem dX7_reckons_71 : decode cX7_reckons 71 = .ok (.getfield 35, 3) := by decide +kernel
theorem dX7_reckons_74 : decode cX7_reckons 74 = .ok (.iload 4, 2) := by decide +kernel
theorem dX7_reckons_76 : decode cX7_reckons 76 = .ok (.iload 5, 2) := by decide +kernel
theorem dX7_reckons_78 : decode cX7_reckons 78 = .ok (.invokestatic 143, 3) := by decide +kernel
theorem dX7_reckons_81 : decode cX7_reckons 81 = .ok (.iaload, 1) := by decide +kernel
theorem dX7_reckons_82 : decode cX7_reckons 82 = .ok (.ifCond .ne 49, 3) := by decide +kernel
theorem dX7_reckons_85 : decode cX7_reckons 85 = .ok (.aload_n 0, 1) := by decide +kernel
theorem dX7_reckons_86 : decode cX7_reckons 86 = .ok (.iload 4, 2) := by decide +kernel
theorem dX7_reckons_88 : decode cX7_reckons 88 = .ok (.iload 5, 2) := by decide +kernel
theorem dX7_reckons_90 : decode cX7_reckons 90 = .ok (.iload_n 3, 1) := by decide +kernel
theorem dX7_reckons_91 : decode cX7_reckons 91 = .ok (.invokevirtual 157, 3) := by decide +kernel
theorem dX7_reckons_94 : decode cX7_reckons 94 = .ok (.ifCond .eq 37, 3) := by decide +kernel
theorem dX7_reckons_97 : decode cX7_reckons 97 = .ok (.aload_n 0, 1) := by decide +kernel
theorem dX7_reckons_98 : decode cX7_reckons 98 = .ok (.getfield 38, 3) := by decide +kernel
theorem dX7_reckons_101 : decode cX7_reckons 101 = .ok (.iload 4, 2) := by decide +kernel
theorem dX7_reckons_103 : decode cX7_reckons 103 = .ok (.iload 5, 2) := by decide +kernel
theorem dX7_reckons_105 : decode cX7_reckons 105 = .ok (.invokestatic 143, 3) := by decide +kernel
theorem dX7_reckons_108 : decode cX7_reckons 108 = .ok (.aload_n 0, 1) := by decide +kernel
theorem dX7_reckons_109 : decode cX7_reckons 109 = .ok (.iload 4, 2) := by decide +kernel
theorem dX7_reckons_111 : decode cX7_reckons 111 = .ok (.iload 5, 2) := by decide +kernel
theorem dX7_reckons_113 : decode cX7_reckons 113 = .ok (.iload_n 3, 1) := by decide +kernel
theorem dX7_reckons_114 : decode cX7_reckons 114 = .ok (.invokevirtual 160, 3) := by decide +kernel
theorem dX7_reckons_117 : decode cX7_reckons 117 = .ok (.iastore, 1) := by decide +kernel
theorem dX7_reckons_118 : decode cX7_reckons 118 = .ok (.aload_n 0, 1) := by decide +kernel
theorem dX7_reckons_119 : decode cX7_reckons 119 = .ok (.getfield 35, 3) := by decide +kernel
theorem dX7_reckons_122 : decode cX7_reckons 122 = .ok (.iload 4, 2) := by decide +kernel
theorem dX7_reckons_124 : decode cX7_reckons 124 = .ok (.iload 5, 2) := by decide +kernel
theorem dX7_reckons_126 : decode cX7_reckons 126 = .ok (.invokestatic 143, 3) := by decide +kernel
theorem dX7_reckons_129 : decode cX7_reckons 129 = .ok (.iload_n 3, 1) := by decide +kernel
theorem dX7_reckons_130 : decode cX7_reckons 130 = .ok (.iastore, 1) := by decide +kernel
theorem dX7_reckons_131 : decode cX7_reckons 131 = .ok (.iinc 5 1, 3) := by decide +kernel
theorem dX7_reckons_134 : decode cX7_reckons 134 = .ok (.goto (-71), 3) := by decide +kernel
theorem dX7_reckons_137 : decode cX7_reckons 137 = .ok (.iinc 4 1, 3) := by decide +kernel
theorem dX7_reckons_140 : decode cX7_reckons 140 = .ok (.goto (-87), 3) := by decide +kernel
theorem dX7_reckons_143 : decode cX7_reckons 143 = .ok (.iinc 3 1, 3) := by decide +kernel
theorem dX7_reckons_146 : decode cX7_reckons 146 = .ok (.goto (-115), 3) := by decide +kernel
theorem dX7_reckons_149 : decode cX7_reckons 149 = .ok (.aload_n 0, 1) := by decide +kernel
theorem dX7_reckons_150 : decode cX7_reckons 150 = .ok (.getfield 35, 3) := by decide +kernel
theorem dX7_reckons_153 : decode cX7_reckons 153 = .ok (.iload_n 1, 1) := by decide +kernel
theorem dX7_reckons_154 : decode cX7_reckons 154 = .ok (.iload_n 2, 1) := by decide +kernel
theorem dX7_reckons_155 : decode cX7_reckons 155 = .ok (.invokestatic 143, 3) := by decide +kernel
theorem dX7_reckons_158 : decode cX7_reckons 158 = .ok (.iaload, 1) := by decide +kernel
theorem dX7_reckons_159 : decode cX7_reckons 159 = .ok (.istore_n 3, 1) := by decide +kernel
theorem dX7_reckons_160 : decode cX7_reckons 160 = .ok (.iload_n 3, 1) := by decide +kernel
theorem dX7_reckons_161 : decode cX7_reckons 161 = .ok (.ifCond .ne 8, 3) := by decide +kernel
theorem dX7_reckons_164 : decode cX7_reckons 164 = .ok (.bipush (-9), 2) := by decide +kernel
theorem dX7_reckons_166 : decode cX7_reckons 166 = .ok (.goto 4, 3) := by decide +kernel
theorem dX7_reckons_169 : decode cX7_reckons 169 = .ok (.iload_n 3, 1) := by decide +kernel
theorem dX7_reckons_170 : decode cX7_reckons 170 = .ok (.ireturn, 1) := by decide +kernel
set_option maxRecDepth 20000 in
theorem ggX7_firstFrom_X7_calmTo : GoodIn wsX7_firstFrom wsX7_calmTo := goodIn_r _ [7, 1, 25, 26, 27, 28, 29, 30, 31, 32, 33, 34, 35, 36, 37, 38, 39, 40, 41, 42, 43] (by decide +kernel) (by decide +kernel)
set_option maxRecDepth 20000 in
theorem gX7_firstFrom_X7_calmTo : GoodIn wsX7_firstFrom (wsV RX7 104 RX7 yX7_calmTo wsX7_calmTo) := goodIn_app (goodIn_of _ (by decide +kernel)) ggX7_firstFrom_X7_calmTo
set_option maxRecDepth 20000 in
theorem ggX7_firstFrom_X7_wildFrom : GoodIn wsX7_firstFrom wsX7_wildFrom := goodIn_r _ [11, 1, 25, 26, 27, 28, 29, 30, 31, 32, 33, 34, 35, 36, 37, 38, 39, 40, 41, 42, 43] (by decide +kernel) (by decide +kernel)
set_option maxRecDepth 20000 in
theorem gX7_firstFrom_X7_wildFrom : GoodIn wsX7_firstFrom (wsV RX7 147 RX7 yX7_wildFrom wsX7_wildFrom) := goodIn_app (goodIn_of _ (by decide +kernel)) ggX7_firstFrom_X7_wildFrom
set_option maxRecDepth 20000 in
theorem ggX7_firstFrom_X7_wildly : GoodIn wsX7_firstFrom wsX7_wildly := goodIn_r _ [14, 15, 16, 6, 17, 18, 19, 20] (by decide +kernel) (by decide +kernel)
set_option maxRecDepth 20000 in
theorem gX7_firstFrom_X7_wildly : GoodIn wsX7_firstFrom (va_wsS RX7 154 yX7_wildly wsX7_wildly) := goodIn_app (goodIn_of _ (by decide +kernel)) ggX7_firstFrom_X7_wildly
set_option maxRecDepth 20000 in
theorem ggX7_firstFrom_X7_calmly : GoodIn wsX7_firstFrom wsX7_calmly := goodIn_r _ [24, 1, 15, 16, 6, 17, 18, 19, 20, 25, 26, 27, 28, 29, 30, 31, 32, 33, 34, 35, 36, 37, 38, 39, 40, 41, 42, 43] (by decide +kernel) (by decide +kernel)
set_option maxRecDepth 20000 in
theorem gX7_firstFrom_X7_calmly : GoodIn wsX7_firstFrom (wsV RX7 150 RX7 yX7_calmly wsX7_calmly) := goodIn_app (goodIn_of _ (by decide +kernel)) ggX7_firstFrom_X7_calmly
theorem dX7_firstFrom_0 : decode cX7_firstFrom 0 = .ok (.bipush (-9), 2) := by decide +kernel
theorem dX7_firstFrom_2 : decode cX7_firstFrom 2 = .ok (.istore 4, 2) := by decide +kernel
theorem dX7_firstFrom_4 : decode cX7_firstFrom 4 = .ok (.aload_n 0, 1) := by decide +kernel
theorem dX7_firstFrom_5 : decode cX7_firstFrom 5 = .ok (.getfield 13, 3) := by decide +kernel
theorem dX7_firstFrom_8 : decode cX7_firstFrom 8 = .ok (.iconst 0, 1) := by decide +kernel
theorem dX7_firstFrom_9 : decode cX7_firstFrom 9 = .ok (.iaload, 1) := by decide +kernel
theorem dX7_firstFrom_10 : decode cX7_firstFrom 10 = .ok (.iconst 1, 1) := by decide +kernel
theorem dX7_firstFrom_11 : decode cX7_firstFrom 11 = .ok (.isub, 1) := by decide +kernel
theorem dX7_firstFrom_12 : decode cX7_firstFrom 12 = .ok (.istore 5, 2) := by decide +kernel
theorem dX7_firstFrom_14 : decode cX7_firstFrom 14 = .ok (.iload 5, 2) := by decide +kernel
theorem dX7_firstFrom_16 : decode cX7_firstFrom 16 = .ok (.ifCond .lt 143, 3) := by decide +kernel
theorem dX7_firstFrom_19 : decode cX7_firstFrom 19 = .ok (.aload_n 0, 1) := by decide +kernel
theorem dX7_firstFrom_20 : decode cX7_firstFrom 20 = .ok (.iload 5, 2) := by decide +kernel
theorem dX7_firstFrom_22 : decode cX7_firstFrom 22 = .ok (.iload_n 1, 1) := by decide +kernel
theorem dX7_firstFrom_23 : decode cX7_firstFrom 23 = .ok (.iload_n 2, 1) := by decide +kernel
theorem dX7_firstFrom_24 : decode cX7_firstFrom 24 = .ok (.invokevirtual 104, 3) := by decide +kernel
theorem dX7_firstFrom_27 : decode cX7_firstFrom 27 = .ok (.istore 6, 2) := by decide +kernel
theorem dX7_firstFrom_29 : decode cX7_firstFrom 29 = .ok (.aload_n 0, 1) := by decide +kernel
theorem dX7_firstFrom_30 : decode cX7_firstFrom 30 = .ok (.iload 5, 2) := by decide +kernel
theorem dX7_firstFrom_32 : decode cX7_firstFrom 32 = .ok (.iload_n 1, 1) := by decide +kernel
theorem dX7_firstFrom_33 : decode cX7_firstFrom 33 = .ok (.iload_n 2, 1) := by decide +kernel
theorem dX7_firstFrom_34 : decode cX7_firstFrom 34 = .ok (.invokevirtual 147, 3) := by decide +kernel
theorem dX7_firstFrom_37 : decode cX7_firstFrom 37 = .ok (.istore 7, 2) := by decide +kernel
theorem dX7_firstFrom_39 : decode cX7_firstFrom 39 = .ok (.iload_n 3, 1) := by decide +kernel
theorem dX7_firstFrom_40 : decode cX7_firstFrom 40 = .ok (.iconst 1, 1) := by decide +kernel
theorem dX7_firstFrom_41 : decode cX7_firstFrom 41 = .ok (.if_icmp .ne 36, 3) := by decide +kernel
theorem dX7_firstFrom_44 : decode cX7_firstFrom 44 = .ok (.iload 6, 2) := by decide +kernel
theorem dX7_firstFrom_46 : decode cX7_firstFrom 46 = .ok (.aload_n 0, 1) := by decide +kernel
theorem dX7_firstFrom_47 : decode cX7_firstFrom 47 = .ok (.getfield 13, 3) := by decide +kernel
theorem dX7_firstFrom_50 : decode cX7_firstFrom 50 = .ok (.iconst 5, 1) := by decide +kernel
theorem dX7_firstFrom_51 : decode cX7_firstFrom 51 = .ok (.iaload, 1) := by decide +kernel
theorem dX7_firstFrom_52 : decode cX7_firstFrom 52 = .ok (.if_icmp .lt 18, 3) := by decide +kernel
theorem dX7_firstFrom_55 : decode cX7_firstFrom 55 = .ok (.bipush 100, 2) := by decide +kernel
theorem dX7_firstFrom_57 : decode cX7_firstFrom 57 = .ok (.iload 5, 2) := by decide +kernel
theorem dX7_firstFrom_59 : decode cX7_firstFrom 59 = .ok (.imul, 1) := by decide +kernel
theorem dX7_firstFrom_60 : decode cX7_firstFrom 60 = .ok (.aload_n 0, 1) := by decide +kernel
theorem dX7_firstFrom_61 : decode cX7_firstFrom 61 = .ok (.getfield 13, 3) := by decide +kernel
theorem dX7_firstFrom_64 : decode cX7_firstFrom 64 = .ok (.iconst 5, 1) := by decide +kernel
theorem dX7_firstFrom_65 : decode cX7_firstFrom 65 = .ok (.iaload, 1) := by decide +kernel
theorem dX7_firstFrom_66 : decode cX7_firstFrom 66 = .ok (.iadd, 1) := by decide +kernel
theorem dX7_firstFrom_67 : decode cX7_firstFrom 67 = .ok (.goto 5, 3) := by decide +kernel
theorem dX7_firstFrom_70 : decode cX7_firstFrom 70 = .ok (.iload 4, 2) := by decide +kernel
theorem dX7_firstFrom_72 : decode cX7_firstFrom 72 = .ok (.istore 4, 2) := by decide +kernel
theorem dX7_firstFrom_74 : decode cX7_firstFrom 74 = .ok (.goto 79, 3) := by decide +kernel
theorem dX7_firstFrom_77 : decode cX7_firstFrom 77 = .ok (.iload 7, 2) := by decide +kernel
theorem dX7_firstFrom_79 : decode cX7_firstFrom 79 = .ok (.bipush 96, 2) := by decide +kernel
theorem dX7_firstFrom_81 : decode cX7_firstFrom 81 = .ok (.if_icmp .gt 30, 3) := by decide +kernel
theorem dX7_firstFrom_84 : decode cX7_firstFrom 84 = .ok (.aload_n 0, 1) := by decide +kernel
theorem dX7_firstFrom_85 : decode cX7_firstFrom 85 = .ok (.getfield 35, 3) := by decide +kernel
theorem dX7_firstFrom_88 : decode cX7_firstFrom 88 = .ok (.iload_n 1, 1) := by decide +kernel
theorem dX7_firstFrom_89 : decode cX7_firstFrom 89 = .ok (.iload_n 2, 1) := by decide +kernel
theorem dX7_firstFrom_90 : decode cX7_firstFrom 90 = .ok (.invokestatic 154, 3) := by decide +kernel
theorem dX7_firstFrom_93 : decode cX7_firstFrom 93 = .ok (.iaload, 1) := by decide +kernel
theorem dX7_firstFrom_94 : decode cX7_firstFrom 94 = .ok (.iload_n 3, 1) := by decide +kernel
theorem dX7_firstFrom_95 : decode cX7_firstFrom 95 = .ok (.iconst 1, 1) := by decide +kernel
theorem dX7_firstFrom_96 : decode cX7_firstFrom 96 = .ok (.isub, 1) := by decide +kernel
theorem dX7_firstFrom_97 : decode cX7_firstFrom 97 = .ok (.if_icmp .ne 14, 3) := by decide +kernel
theorem dX7_firstFrom_100 : decode cX7_firstFrom 100 = .ok (.bipush 100, 2) := by decide +kernel
theorem dX7_firstFrom_102 : decode cX7_firstFrom 102 = .ok (.iload 5, 2) := by decide +kernel
theorem dX7_firstFrom_104 : decode cX7_firstFrom 104 = .ok (.imul, 1) := by decide +kernel
theorem dX7_firstFrom_105 : decode cX7_firstFrom 105 = .ok (.iload 7, 2) := by decide +kernel
theorem dX7_firstFrom_107 : decode cX7_firstFrom 107 = .ok (.iadd, 1) := by decide +kernel
theorem dX7_firstFrom_108 : decode cX7_firstFrom 108 = .ok (.goto 5, 3) := by decide +kernel
theorem dX7_firstFrom_111 : decode cX7_firstFrom 111 = .ok (.iload 4, 2) := by decide +kernel
theorem dX7_firstFrom_113 : decode cX7_firstFrom 113 = .ok (.istore 4, 2) := by decide +kernel
theorem dX7_firstFrom_115 : decode cX7_firstFrom 115 = .ok (.iload 6, 2) := by decide +kernel
theorem dX7_firstFrom_117 : decode cX7_firstFrom 117 = .ok (.ifCond .le 32, 3) := by decide +kernel
theorem dX7_firstFrom_120 : decode cX7_firstFrom 120 = .ok (.aload_n 0, 1) := by decide +kernel
theorem dX7_firstFrom_121 : decode cX7_firstFrom 121 = .ok (.getfield 35, 3) := by decide +kernel
theorem dX7_firstFrom_124 : decode cX7_firstFrom 124 = .ok (.aload_n 0, 1) := by decide +kernel
theorem dX7_firstFrom_125 : decode cX7_firstFrom 125 = .ok (.iload 5, 2) := by decide +kernel
theorem dX7_firstFrom_127 : decode cX7_firstFrom 127 = .ok (.iload_n 1, 1) := by decide +kernel
theorem dX7_firstFrom_128 : decode cX7_firstFrom 128 = .ok (.iload_n 2, 1) := by decide +kernel
theorem dX7_firstFrom_129 : decode cX7_firstFrom 129 = .ok (.invokevirtual 150, 3) := by decide +kernel
theorem dX7_firstFrom_132 : decode cX7_firstFrom 132 = .ok (.iaload, 1) := by decide +kernel
theorem dX7_firstFrom_133 : decode cX7_firstFrom 133 = .ok (.iload_n 3, 1) := by decide +kernel
theorem dX7_firstFrom_134 : decode cX7_firstFrom 134 = .ok (.iconst 1, 1) := by decide +kernel
theorem dX7_firstFrom_135 : decode cX7_firstFrom 135 = .ok (.isub, 1) := by decide +kernel
theorem dX7_firstFrom_136 : decode cX7_firstFrom 136 = .ok (.if_icmp .ne 13, 3) := by decide +kernel
theorem dX7_firstFrom_139 : decode cX7_firstFrom 139 = .ok (.bipush 100, 2) := by decide +kernel
theorem dX7_firstFrom_141 : decode cX7_firstFrom 141 = .ok (.iload 5, 2) := by decide +kernel
theorem dX7_firstFrom_143 : decode cX7_firstFrom 143 = .ok (.imul, 1) := by decide +kernel
theorem dX7_firstFrom_144 : decode cX7_firstFrom 144 = .ok (.iconst 1, 1) := by decide +kernel
theorem dX7_firstFrom_145 : decode cX7_firstFrom 145 = .ok (.iadd, 1) := by decide +kernel
theorem dX7_firstFrom_146 : decode cX7_firstFrom 146 = .ok (.goto 5, 3) := by decide +kernel
theorem dX7_firstFrom_149 : decode cX7_firstFrom 149 = .ok (.iload 4, 2) := by decide +kernel
theorem dX7_firstFrom_151 : decode cX7_firstFrom 151 = .ok (.istore 4, 2) := by decide +kernel
theorem dX7_firstFrom_153 : decode cX7_firstFrom 153 = .ok (.iinc 5 (-1), 3) := by decide +kernel
theorem dX7_firstFrom_156 : decode cX7_firstFrom 156 = .ok (.goto (-142), 3) := by decide +kernel
theorem dX7_firstFrom_159 : decode cX7_firstFrom 159 = .ok (.iload 4, 2) := by decide +kernel
theorem dX7_firstFrom_161 : decode cX7_firstFrom 161 = .ok (.ireturn, 1) := by decide +kernel
set_option maxRecDepth 20000 in
theorem ggX7_plan_X7_isWoman : GoodIn wsX7_plan wsX7_isWoman := goodIn_r _ [6, 7, 8, 9, 5, 10, 51, 52, 53, 54, 55, 56, 57, 58, 59, 60, 61, 62, 63, 64, 65, 66, 67, 68, 69] (by decide +kernel) (by decide +kernel)
set_option maxRecDepth 20000 in
theorem gX7_plan_X7_isWoman : GoodIn wsX7_plan (wsV RX7 108 RX7 yX7_isWoman wsX7_isWoman) := goodIn_app (goodIn_of _ (by decide +kernel)) ggX7_plan_X7_isWoman
set_option maxRecDepth 20000 in
theorem ggX7_plan_X7_reckons : GoodIn wsX7_plan wsX7_reckons := goodIn_r _ [14, 15, 16, 17, 18, 5, 19, 20, 21, 22, 23, 24, 25, 26, 7, 27, 28, 29, 30, 31, 32, 33, 34, 35, 36, 37, 38, 39, 40, 41, 42, 43, 44, 45, 46, 51, 52, 53, 54, 55, 56, 57, 58, 59, 60, 61, 62, 63, 64, 65, 66, 67, 68, 69] (by decide +kernel) (by decide +kernel)
set_option maxRecDepth 20000 in
theorem gX7_plan_X7_reckons : GoodIn wsX7_plan (wsV RX7 163 RX7 yX7_reckons wsX7_reckons) := goodIn_app (goodIn_of _ (by decide +kernel)) ggX7_plan_X7_reckons
set_option maxRecDepth 20000 in
theorem ggX7_plan_X7_firstFrom : GoodIn wsX7_plan wsX7_firstFrom := goodIn_r _ [50, 7, 15, 27, 28, 29, 5, 30, 35, 36, 37, 38, 39, 40, 41, 17, 18, 19, 20, 21, 22, 31, 32, 33, 34, 51, 52, 53, 54, 55, 56, 57, 58, 59, 60, 61, 62, 63, 64, 65, 66, 67, 68, 69] (by decide +kernel) (by decide +kernel)
set_option maxRecDepth 20000 in
theorem gX7_plan_X7_firstFrom : GoodIn wsX7_plan (wsV RX7 166 RX7 yX7_firstFrom wsX7_firstFrom) := goodIn_app (goodIn_of _ (by decide +kernel)) ggX7_plan_X7_firstFrom
set_option maxRecDepth 20000 in
theorem ggX7_plan_X7_calmTo : GoodIn wsX7_plan wsX7_calmTo := goodIn_r _ [30, 7, 51, 52, 53, 54, 55, 56, 57, 58, 59, 60, 61, 62, 63, 64, 65, 66, 67, 68, 69] (by decide +kernel) (by decide +kernel)
set_option maxRecDepth 20000 in
theorem gX7_plan_X7_calmTo : GoodIn wsX7_plan (wsV RX7 104 RX7 yX7_calmTo wsX7_calmTo) := goodIn_app (goodIn_of _ (by decide +kernel)) ggX7_plan_X7_calmTo
set_option maxRecDepth 20000 in
theorem ggX7_plan_X7_calmly : GoodIn wsX7_plan wsX7_calmly := goodIn_r _ [34, 7, 17, 18, 5, 19, 20, 21, 22, 51, 52, 53, 54, 55, 56, 57, 58, 59, 60, 61, 62, 63, 64, 65, 66, 67, 68, 69] (by decide +kernel) (by decide +kernel)
set_option maxRecDepth 20000 in
theorem gX7_plan_X7_calmly : GoodIn wsX7_plan (wsV RX7 150 RX7 yX7_calmly wsX7_calmly) := goodIn_app (goodIn_of _ (by decide +kernel)) ggX7_plan_X7_calmly
set_option maxRecDepth 20000 in
theorem ggX7_plan_X7_wildly : GoodIn wsX7_plan wsX7_wildly := goodIn_r _ [41, 17, 18, 5, 19, 20, 21, 22] (by decide +kernel) (by decide +kernel)
set_option maxRecDepth 20000 in
theorem gX7_plan_X7_wildly : GoodIn wsX7_plan (va_wsS RX7 154 yX7_wildly wsX7_wildly) := goodIn_app (goodIn_of _ (by decide +kernel)) ggX7_plan_X7_wildly
theorem dX7_plan_0 : decode cX7_plan 0 = .ok (.aload_n 0, 1) := by decide +kernel
theorem dX7_plan_1 : decode cX7_plan 1 = .ok (.iload_n 1, 1) := by decide +kernel
theorem dX7_plan_2 : decode cX7_plan 2 = .ok (.invokevirtual 108, 3) := by decide +kernel
theorem dX7_plan_5 : decode cX7_plan 5 = .ok (.ifCond .eq 8, 3) := by decide +kernel
theorem dX7_plan_8 : decode cX7_plan 8 = .ok (.iload_n 2, 1) := by decide +kernel
theorem dX7_plan_9 : decode cX7_plan 9 = .ok (.iconst (-1), 1) := by decide +kernel
theorem dX7_plan_10 : decode cX7_plan 10 = .ok (.if_icmp .ge 5, 3) := by decide +kernel
theorem dX7_plan_13 : decode cX7_plan 13 = .ok (.iconst (-1), 1) := by decide +kernel
theorem dX7_plan_14 : decode cX7_plan 14 = .ok (.ireturn, 1) := by decide +kernel
theorem dX7_plan_15 : decode cX7_plan 15 = .ok (.aload_n 0, 1) := by decide +kernel
theorem dX7_plan_16 : decode cX7_plan 16 = .ok (.getfield 19, 3) := by decide +kernel
theorem dX7_plan_19 : decode cX7_plan 19 = .ok (.iconst 1, 1) := by decide +kernel
theorem dX7_plan_20 : decode cX7_plan 20 = .ok (.iaload, 1) := by decide +kernel
theorem dX7_plan_21 : decode cX7_plan 21 = .ok (.istore_n 3, 1) := by decide +kernel
theorem dX7_plan_22 : decode cX7_plan 22 = .ok (.aload_n 0, 1) := by decide +kernel
theorem dX7_plan_23 : decode cX7_plan 23 = .ok (.getfield 19, 3) := by decide +kernel
theorem dX7_plan_26 : decode cX7_plan 26 = .ok (.iconst 4, 1) := by decide +kernel
theorem dX7_plan_27 : decode cX7_plan 27 = .ok (.iload_n 1, 1) := by decide +kernel
theorem dX7_plan_28 : decode cX7_plan 28 = .ok (.iadd, 1) := by decide +kernel
theorem dX7_plan_29 : decode cX7_plan 29 = .ok (.iaload, 1) := by decide +kernel
theorem dX7_plan_30 : decode cX7_plan 30 = .ok (.istore 4, 2) := by decide +kernel
theorem dX7_plan_32 : decode cX7_plan 32 = .ok (.aload_n 0, 1) := by decide +kernel
theorem dX7_plan_33 : decode cX7_plan 33 = .ok (.iload_n 3, 1) := by decide +kernel
theorem dX7_plan_34 : decode cX7_plan 34 = .ok (.iload 4, 2) := by decide +kernel
theorem dX7_plan_36 : decode cX7_plan 36 = .ok (.invokevirtual 163, 3) := by decide +kernel
theorem dX7_plan_39 : decode cX7_plan 39 = .ok (.istore 5, 2) := by decide +kernel
theorem dX7_plan_41 : decode cX7_plan 41 = .ok (.iload 5, 2) := by decide +kernel
theorem dX7_plan_43 : decode cX7_plan 43 = .ok (.bipush (-9), 2) := by decide +kernel
theorem dX7_plan_45 : decode cX7_plan 45 = .ok (.if_icmp .eq 8, 3) := by decide +kernel
theorem dX7_plan_48 : decode cX7_plan 48 = .ok (.iload_n 2, 1) := by decide +kernel
theorem dX7_plan_49 : decode cX7_plan 49 = .ok (.iconst (-1), 1) := by decide +kernel
theorem dX7_plan_50 : decode cX7_plan 50 = .ok (.if_icmp .ne 6, 3) := by decide +kernel
theorem dX7_plan_53 : decode cX7_plan 53 = .ok (.iload 5, 2) := by decide +kernel
theorem dX7_plan_55 : decode cX7_plan 55 = .ok (.ireturn, 1) := by decide +kernel
theorem dX7_plan_56 : decode cX7_plan 56 = .ok (.bipush (-5), 2) := by decide +kernel
theorem dX7_plan_58 : decode cX7_plan 58 = .ok (.istore 6, 2) := by decide +kernel
theorem dX7_plan_60 : decode cX7_plan 60 = .ok (.iconst 0, 1) := by decide +kernel
theorem dX7_plan_61 : decode cX7_plan 61 = .ok (.istore 7, 2) := by decide +kernel
theorem dX7_plan_63 : decode cX7_plan 63 = .ok (.iload 7, 2) := by decide +kernel
theorem dX7_plan_65 : decode cX7_plan 65 = .ok (.iload_n 2, 1) := by decide +kernel
theorem dX7_plan_66 : decode cX7_plan 66 = .ok (.if_icmp .gt 90, 3) := by decide +kernel
theorem dX7_plan_69 : decode cX7_plan 69 = .ok (.iload 7, 2) := by decide +kernel
theorem dX7_plan_71 : decode cX7_plan 71 = .ok (.iload 5, 2) := by decide +kernel
theorem dX7_plan_73 : decode cX7_plan 73 = .ok (.if_icmp .ge 83, 3) := by decide +kernel
theorem dX7_plan_76 : decode cX7_plan 76 = .ok (.iload 5, 2) := by decide +kernel
theorem dX7_plan_78 : decode cX7_plan 78 = .ok (.iload 7, 2) := by decide +kernel
theorem dX7_plan_80 : decode cX7_plan 80 = .ok (.isub, 1) := by decide +kernel
theorem dX7_plan_81 : decode cX7_plan 81 = .ok (.istore 8, 2) := by decide +kernel
theorem dX7_plan_83 : decode cX7_plan 83 = .ok (.aload_n 0, 1) := by decide +kernel
theorem dX7_plan_84 : decode cX7_plan 84 = .ok (.iload_n 3, 1) := by decide +kernel
theorem dX7_plan_85 : decode cX7_plan 85 = .ok (.iload 4, 2) := by decide +kernel
theorem dX7_plan_87 : decode cX7_plan 87 = .ok (.iload 8, 2) := by decide +kernel
theorem dX7_plan_89 : decode cX7_plan 89 = .ok (.invokevirtual 166, 3) := by decide +kernel
theorem dX7_plan_92 : decode cX7_plan 92 = .ok (.istore 6, 2) := by decide +kernel
theorem dX7_plan_94 : decode cX7_plan 94 = .ok (.iload 6, 2) := by decide +kernel
theorem dX7_plan_96 : decode cX7_plan 96 = .ok (.bipush 100, 2) := by decide +kernel
theorem dX7_plan_98 : decode cX7_plan 98 = .ok (.irem, 1) := by decide +kernel
theorem dX7_plan_99 : decode cX7_plan 99 = .ok (.aload_n 0, 1) := by decide +kernel
theorem dX7_plan_100 : decode cX7_plan 100 = .ok (.iload 6, 2) := by decide +kernel
theorem dX7_plan_102 : decode cX7_plan 102 = .ok (.bipush 100, 2) := by decide +kernel
theorem dX7_plan_104 : decode cX7_plan 104 = .ok (.idiv, 1) := by decide +kernel
theorem dX7_plan_105 : decode cX7_plan 105 = .ok (.iload_n 3, 1) := by decide +kernel
theorem dX7_plan_106 : decode cX7_plan 106 = .ok (.iload 4, 2) := by decide +kernel
theorem dX7_plan_108 : decode cX7_plan 108 = .ok (.invokevirtual 104, 3) := by decide +kernel
theorem dX7_plan_111 : decode cX7_plan 111 = .ok (.if_icmp .gt 18, 3) := by decide +kernel
theorem dX7_plan_114 : decode cX7_plan 114 = .ok (.aload_n 0, 1) := by decide +kernel
theorem dX7_plan_115 : decode cX7_plan 115 = .ok (.iload 6, 2) := by decide +kernel
theorem dX7_plan_117 : decode cX7_plan 117 = .ok (.bipush 100, 2) := by decide +kernel
theorem dX7_plan_119 : decode cX7_plan 119 = .ok (.idiv, 1) := by decide +kernel
theorem dX7_plan_120 : decode cX7_plan 120 = .ok (.iload_n 3, 1) := by decide +kernel
theorem dX7_plan_121 : decode cX7_plan 121 = .ok (.iload 4, 2) := by decide +kernel
theorem dX7_plan_123 : decode cX7_plan 123 = .ok (.invokevirtual 150, 3) := by decide +kernel
theorem dX7_plan_126 : decode cX7_plan 126 = .ok (.goto 9, 3) := by decide +kernel
theorem dX7_plan_129 : decode cX7_plan 129 = .ok (.iload_n 3, 1) := by decide +kernel
theorem dX7_plan_130 : decode cX7_plan 130 = .ok (.iload 4, 2) := by decide +kernel
theorem dX7_plan_132 : decode cX7_plan 132 = .ok (.invokestatic 154, 3) := by decide +kernel
theorem dX7_plan_135 : decode cX7_plan 135 = .ok (.istore 9, 2) := by decide +kernel
theorem dX7_plan_137 : decode cX7_plan 137 = .ok (.iload 9, 2) := by decide +kernel
theorem dX7_plan_139 : decode cX7_plan 139 = .ok (.bipush 10, 2) := by decide +kernel
theorem dX7_plan_141 : decode cX7_plan 141 = .ok (.idiv, 1) := by decide +kernel
theorem dX7_plan_142 : decode cX7_plan 142 = .ok (.istore_n 3, 1) := by decide +kernel
theorem dX7_plan_143 : decode cX7_plan 143 = .ok (.iload 9, 2) := by decide +kernel
theorem dX7_plan_145 : decode cX7_plan 145 = .ok (.bipush 10, 2) := by decide +kernel
theorem dX7_plan_147 : decode cX7_plan 147 = .ok (.irem, 1) := by decide +kernel
theorem dX7_plan_148 : decode cX7_plan 148 = .ok (.istore 4, 2) := by decide +kernel
theorem dX7_plan_150 : decode cX7_plan 150 = .ok (.iinc 7 1, 3) := by decide +kernel
theorem dX7_plan_153 : decode cX7_plan 153 = .ok (.goto (-90), 3) := by decide +kernel
theorem dX7_plan_156 : decode cX7_plan 156 = .ok (.iload_n 2, 1) := by decide +kernel
theorem dX7_plan_157 : decode cX7_plan 157 = .ok (.iload 5, 2) := by decide +kernel
theorem dX7_plan_159 : decode cX7_plan 159 = .ok (.if_icmp .ge 8, 3) := by decide +kernel
theorem dX7_plan_162 : decode cX7_plan 162 = .ok (.iload 6, 2) := by decide +kernel
theorem dX7_plan_164 : decode cX7_plan 164 = .ok (.goto 5, 3) := by decide +kernel
theorem dX7_plan_167 : decode cX7_plan 167 = .ok (.bipush (-5), 2) := by decide +kernel
theorem dX7_plan_169 : decode cX7_plan 169 = .ok (.ireturn, 1) := by decide +kernel
set_option maxRecDepth 20000 in
theorem ggX7_ways_X7_isWoman : GoodIn wsX7_ways wsX7_isWoman := goodIn_r _ [7, 8, 9, 10, 6, 11, 47, 48, 49, 50, 51, 52, 53, 54, 55, 56, 57, 58, 59, 60, 61, 62, 63, 64, 65] (by decide +kernel) (by decide +kernel)
set_option maxRecDepth 20000 in
theorem gX7_ways_X7_isWoman : GoodIn wsX7_ways (wsV RX7 108 RX7 yX7_isWoman wsX7_isWoman) := goodIn_app (goodIn_of _ (by decide +kernel)) ggX7_ways_X7_isWoman
set_option maxRecDepth 20000 in
theorem ggX7_ways_X7_reckons : GoodIn wsX7_ways wsX7_reckons := goodIn_r _ [15, 16, 2, 17, 18, 6, 19, 20, 21, 22, 23, 24, 25, 26, 8, 27, 28, 29, 30, 31, 32, 33, 34, 35, 36, 37, 38, 39, 40, 41, 42, 43, 44, 45, 46, 47, 48, 49, 50, 51, 52, 53, 54, 55, 56, 57, 58, 59, 60, 61, 62, 63, 64, 65] (by decide +kernel) (by decide +kernel)
set_option maxRecDepth 20000 in
theorem gX7_ways_X7_reckons : GoodIn wsX7_ways (wsV RX7 163 RX7 yX7_reckons wsX7_reckons) := goodIn_app (goodIn_of _ (by decide +kernel)) ggX7_ways_X7_reckons
set_option maxRecDepth 20000 in
theorem ggX7_ways_X7_place : GoodIn wsX7_ways wsX7_place := goodIn_r _ [19, 20, 21, 6, 22] (by decide +kernel) (by decide +kernel)
set_option maxRecDepth 20000 in
theorem gX7_ways_X7_place : GoodIn wsX7_ways (va_wsS RX7 143 yX7_place wsX7_place) := goodIn_app (goodIn_of _ (by decide +kernel)) ggX7_ways_X7_place
theorem dX7_ways_0 : decode cX7_ways 0 = .ok (.aload_n 0, 1) := by decide +kernel
theorem dX7_ways_1 : decode cX7_ways 1 = .ok (.iload_n 1, 1) := by decide +kernel
theorem dX7_ways_2 : decode cX7_ways 2 = .ok (.invokevirtual 108, 3) := by decide +kernel
theorem dX7_ways_5 : decode cX7_ways 5 = .ok (.ifCond .ne 5, 3) := by decide +kernel
theorem dX7_ways_8 : decode cX7_ways 8 = .ok (.iconst (-1), 1) := by decide +kernel
theorem dX7_ways_9 : decode cX7_ways 9 = .ok (.ireturn, 1) := by decide +kernel
theorem dX7_ways_10 : decode cX7_ways 10 = .ok (.aload_n 0, 1) := by decide +kernel
theorem dX7_ways_11 : decode cX7_ways 11 = .ok (.aload_n 0, 1) := by decide +kernel
theorem dX7_ways_12 : decode cX7_ways 12 = .ok (.getfield 19, 3) := by decide +kernel
theorem dX7_ways_15 : decode cX7_ways 15 = .ok (.iconst 1, 1) := by decide +kernel
theorem dX7_ways_16 : decode cX7_ways 16 = .ok (.iaload, 1) := by decide +kernel
theorem dX7_ways_17 : decode cX7_ways 17 = .ok (.aload_n 0, 1) := by decide +kernel
theorem dX7_ways_18 : decode cX7_ways 18 = .ok (.getfield 19, 3) := by decide +kernel
theorem dX7_ways_21 : decode cX7_ways 21 = .ok (.iconst 4, 1) := by decide +kernel
theorem dX7_ways_22 : decode cX7_ways 22 = .ok (.iload_n 1, 1) := by decide +kernel
theorem dX7_ways_23 : decode cX7_ways 23 = .ok (.iadd, 1) := by decide +kernel
theorem dX7_ways_24 : decode cX7_ways 24 = .ok (.iaload, 1) := by decide +kernel
theorem dX7_ways_25 : decode cX7_ways 25 = .ok (.invokevirtual 163, 3) := by decide +kernel
theorem dX7_ways_28 : decode cX7_ways 28 = .ok (.istore_n 2, 1) := by decide +kernel
theorem dX7_ways_29 : decode cX7_ways 29 = .ok (.iload_n 2, 1) := by decide +kernel
theorem dX7_ways_30 : decode cX7_ways 30 = .ok (.bipush (-9), 2) := by decide +kernel
theorem dX7_ways_32 : decode cX7_ways 32 = .ok (.if_icmp .ne 7, 3) := by decide +kernel
theorem dX7_ways_35 : decode cX7_ways 35 = .ok (.iconst 0, 1) := by decide +kernel
theorem dX7_ways_36 : decode cX7_ways 36 = .ok (.goto 25, 3) := by decide +kernel
theorem dX7_ways_39 : decode cX7_ways 39 = .ok (.aload_n 0, 1) := by decide +kernel
theorem dX7_ways_40 : decode cX7_ways 40 = .ok (.getfield 38, 3) := by decide +kernel
theorem dX7_ways_43 : decode cX7_ways 43 = .ok (.aload_n 0, 1) := by decide +kernel
theorem dX7_ways_44 : decode cX7_ways 44 = .ok (.getfield 19, 3) := by decide +kernel
theorem dX7_ways_47 : decode cX7_ways 47 = .ok (.iconst 1, 1) := by decide +kernel
theorem dX7_ways_48 : decode cX7_ways 48 = .ok (.iaload, 1) := by decide +kernel
theorem dX7_ways_49 : decode cX7_ways 49 = .ok (.aload_n 0, 1) := by decide +kernel
theorem dX7_ways_50 : decode cX7_ways 50 = .ok (.getfield 19, 3) := by decide +kernel
theorem dX7_ways_53 : decode cX7_ways 53 = .ok (.iconst 4, 1) := by decide +kernel
theorem dX7_ways_54 : decode cX7_ways 54 = .ok (.iload_n 1, 1) := by decide +kernel
theorem dX7_ways_55 : decode cX7_ways 55 = .ok (.iadd, 1) := by decide +kernel
theorem dX7_ways_56 : decode cX7_ways 56 = .ok (.iaload, 1) := by decide +kernel
theorem dX7_ways_57 : decode cX7_ways 57 = .ok (.invokestatic 143, 3) := by decide +kernel
theorem dX7_ways_60 : decode cX7_ways 60 = .ok (.iaload, 1) := by decide +kernel
theorem dX7_ways_61 : decode cX7_ways 61 = .ok (.ireturn, 1) := by decide +kernel
theorem dX7_holds_0 : decode cX7_holds 0 = .ok (.iconst 0, 1) := by decide +kernel
theorem dX7_holds_1 : decode cX7_holds 1 = .ok (.istore_n 1, 1) := by decide +kernel
theorem dX7_holds_2 : decode cX7_holds 2 = .ok (.iload_n 1, 1) := by decide +kernel
theorem dX7_holds_3 : decode cX7_holds 3 = .ok (.bipush 8, 2) := by decide +kernel
theorem dX7_holds_5 : decode cX7_holds 5 = .ok (.if_icmp .ge 21, 3) := by decide +kernel
theorem dX7_holds_8 : decode cX7_holds 8 = .ok (.aload_n 0, 1) := by decide +kernel
theorem dX7_holds_9 : decode cX7_holds 9 = .ok (.getfield 41, 3) := by decide +kernel
theorem dX7_holds_12 : decode cX7_holds 12 = .ok (.iload_n 1, 1) := by decide +kernel
theorem dX7_holds_13 : decode cX7_holds 13 = .ok (.aload_n 0, 1) := by decide +kernel
theorem dX7_holds_14 : decode cX7_holds 14 = .ok (.getfield 19, 3) := by decide +kernel
theorem dX7_holds_17 : decode cX7_holds 17 = .ok (.iload_n 1, 1) := by decide +kernel
theorem dX7_holds_18 : decode cX7_holds 18 = .ok (.iaload, 1) := by decide +kernel
theorem dX7_holds_19 : decode cX7_holds 19 = .ok (.iastore, 1) := by decide +kernel
theorem dX7_holds_20 : decode cX7_holds 20 = .ok (.iinc 1 1, 3) := by decide +kernel
theorem dX7_holds_23 : decode cX7_holds 23 = .ok (.goto (-21), 3) := by decide +kernel
theorem dX7_holds_26 : decode cX7_holds 26 = .ok (.return_, 1) := by decide +kernel
theorem dX7_lets_0 : decode cX7_lets 0 = .ok (.iconst 0, 1) := by decide +kernel
theorem dX7_lets_1 : decode cX7_lets 1 = .ok (.istore_n 1, 1) := by decide +kernel
theorem dX7_lets_2 : decode cX7_lets 2 = .ok (.iload_n 1, 1) := by decide +kernel
theorem dX7_lets_3 : decode cX7_lets 3 = .ok (.bipush 8, 2) := by decide +kernel
theorem dX7_lets_5 : decode cX7_lets 5 = .ok (.if_icmp .ge 21, 3) := by decide +kernel
theorem dX7_lets_8 : decode cX7_lets 8 = .ok (.aload_n 0, 1) := by decide +kernel
theorem dX7_lets_9 : decode cX7_lets 9 = .ok (.getfield 19, 3) := by decide +kernel
theorem dX7_lets_12 : decode cX7_lets 12 = .ok (.iload_n 1, 1) := by decide +kernel
theorem dX7_lets_13 : decode cX7_lets 13 = .ok (.aload_n 0, 1) := by decide +kernel
theorem dX7_lets_14 : decode cX7_lets 14 = .ok (.getfield 41, 3) := by decide +kernel
theorem dX7_lets_17 : decode cX7_lets 17 = .ok (.iload_n 1, 1) := by decide +kernel
theorem dX7_lets_18 : decode cX7_lets 18 = .ok (.iaload, 1) := by decide +kernel
theorem dX7_lets_19 : decode cX7_lets 19 = .ok (.iastore, 1) := by decide +kernel
theorem dX7_lets_20 : decode cX7_lets 20 = .ok (.iinc 1 1, 3) := by decide +kernel
theorem dX7_lets_23 : decode cX7_lets 23 = .ok (.goto (-21), 3) := by decide +kernel
theorem dX7_lets_26 : decode cX7_lets 26 = .ok (.return_, 1) := by decide +kernel
set_option maxRecDepth 20000 in
theorem ggX7_setback_X7_isMorning : GoodIn wsX7_setback wsX7_isMorning := goodIn_r _ [7, 8, 9, 10, 6, 11, 12, 13, 14, 15, 16, 17, 18, 19, 76, 77, 78, 79, 80, 81, 82, 83, 84, 85, 86, 87, 88, 89, 90, 91, 92, 93, 94] (by decide +kernel) (by decide +kernel)
set_option maxRecDepth 20000 in
theorem gX7_setback_X7_isMorning : GoodIn wsX7_setback (wsV RX7 131 RX7 yX7_isMorning wsX7_isMorning) := goodIn_app (goodIn_of _ (by decide +kernel)) ggX7_setback_X7_isMorning
set_option maxRecDepth 20000 in
theorem ggX7_setback_X7_reckons : GoodIn wsX7_setback wsX7_reckons := goodIn_r _ [23, 24, 25, 26, 27, 6, 28, 29, 30, 31, 32, 33, 34, 35, 12, 36, 37, 38, 39, 40, 41, 42, 43, 44, 45, 46, 47, 48, 49, 50, 51, 52, 53, 54, 55, 76, 77, 78, 79, 80, 81, 82, 83, 84, 85, 86, 87, 88, 89, 90, 91, 92, 93, 94] (by decide +kernel) (by decide +kernel)
set_option maxRecDepth 20000 in
theorem gX7_setback_X7_reckons : GoodIn wsX7_setback (wsV RX7 163 RX7 yX7_reckons wsX7_reckons) := goodIn_app (goodIn_of _ (by decide +kernel)) ggX7_setback_X7_reckons
set_option maxRecDepth 20000 in
theorem ggX7_setback_X7_holds : GoodIn wsX7_setback wsX7_holds := goodIn_r _ [59, 60, 2, 76, 77, 78, 79, 80, 81, 82, 83, 84, 85, 86, 87, 88, 89, 90, 91, 92, 93, 94] (by decide +kernel) (by decide +kernel)
set_option maxRecDepth 20000 in
theorem gX7_setback_X7_holds : GoodIn wsX7_setback (wsV RX7 170 RX7 yX7_holds wsX7_holds) := goodIn_app (goodIn_of _ (by decide +kernel)) ggX7_setback_X7_holds
set_option maxRecDepth 20000 in
theorem ggX7_setback_X7_goes : GoodIn wsX7_setback wsX7_goes := goodIn_r _ [64, 12, 2, 65, 66, 67, 6, 68, 69, 70, 71, 29, 30, 31, 76, 77, 78, 79, 80, 81, 82, 83, 84, 85, 86, 87, 88, 89, 90, 91, 92, 93, 94] (by decide +kernel) (by decide +kernel)
set_option maxRecDepth 20000 in
theorem gX7_setback_X7_goes : GoodIn wsX7_setback (wsV RX7 137 RX7 yX7_goes wsX7_goes) := goodIn_app (goodIn_of _ (by decide +kernel)) ggX7_setback_X7_goes
set_option maxRecDepth 20000 in
theorem ggX7_setback_X7_lets : GoodIn wsX7_setback wsX7_lets := goodIn_r _ [75, 2, 60, 76, 77, 78, 79, 80, 81, 82, 83, 84, 85, 86, 87, 88, 89, 90, 91, 92, 93, 94] (by decide +kernel) (by decide +kernel)
set_option maxRecDepth 20000 in
theorem gX7_setback_X7_lets : GoodIn wsX7_setback (wsV RX7 173 RX7 yX7_lets wsX7_lets) := goodIn_app (goodIn_of _ (by decide +kernel)) ggX7_setback_X7_lets
theorem dX7_setback_0 : decode cX7_setback 0 = .ok (.aload_n 0, 1) := by decide +kernel
theorem dX7_setback_1 : decode cX7_setback 1 = .ok (.iload_n 1, 1) := by decide +kernel
theorem dX7_setback_2 : decode cX7_setback 2 = .ok (.iload_n 2, 1) := by decide +kernel
theorem dX7_setback_3 : decode cX7_setback 3 = .ok (.iload_n 3, 1) := by decide +kernel
theorem dX7_setback_4 : decode cX7_setback 4 = .ok (.invokevirtual 131, 3) := by decide +kernel
theorem dX7_setback_7 : decode cX7_setback 7 = .ok (.ifCond .ne 6, 3) := by decide +kernel
theorem dX7_setback_10 : decode cX7_setback 10 = .ok (.ldc 169, 2) := by decide +kernel
theorem dX7_setback_12 : decode cX7_setback 12 = .ok (.ireturn, 1) := by decide +kernel
theorem dX7_setback_13 : decode cX7_setback 13 = .ok (.aload_n 0, 1) := by decide +kernel
theorem dX7_setback_14 : decode cX7_setback 14 = .ok (.aload_n 0, 1) := by decide +kernel
theorem dX7_setback_15 : decode cX7_setback 15 = .ok (.getfield 19, 3) := by decide +kernel
theorem dX7_setback_18 : decode cX7_setback 18 = .ok (.iconst 1, 1) := by decide +kernel
theorem dX7_setback_19 : decode cX7_setback 19 = .ok (.iaload, 1) := by decide +kernel
theorem dX7_setback_20 : decode cX7_setback 20 = .ok (.aload_n 0, 1) := by decide +kernel
theorem dX7_setback_21 : decode cX7_setback 21 = .ok (.getfield 19, 3) := by decide +kernel
theorem dX7_setback_24 : decode cX7_setback 24 = .ok (.iconst 4, 1) := by decide +kernel
theorem dX7_setback_25 : decode cX7_setback 25 = .ok (.iload_n 3, 1) := by decide +kernel
theorem dX7_setback_26 : decode cX7_setback 26 = .ok (.iadd, 1) := by decide +kernel
theorem dX7_setback_27 : decode cX7_setback 27 = .ok (.iaload, 1) := by decide +kernel
theorem dX7_setback_28 : decode cX7_setback 28 = .ok (.invokevirtual 163, 3) := by decide +kernel
theorem dX7_setback_31 : decode cX7_setback 31 = .ok (.istore 4, 2) := by decide +kernel
theorem dX7_setback_33 : decode cX7_setback 33 = .ok (.aload_n 0, 1) := by decide +kernel
theorem dX7_setback_34 : decode cX7_setback 34 = .ok (.invokevirtual 170, 3) := by decide +kernel
theorem dX7_setback_37 : decode cX7_setback 37 = .ok (.aload_n 0, 1) := by decide +kernel
theorem dX7_setback_38 : decode cX7_setback 38 = .ok (.iload_n 1, 1) := by decide +kernel
theorem dX7_setback_39 : decode cX7_setback 39 = .ok (.iload_n 2, 1) := by decide +kernel
theorem dX7_setback_40 : decode cX7_setback 40 = .ok (.iload_n 3, 1) := by decide +kernel
theorem dX7_setback_41 : decode cX7_setback 41 = .ok (.invokevirtual 137, 3) := by decide +kernel
theorem dX7_setback_44 : decode cX7_setback 44 = .ok (.pop, 1) := by decide +kernel
theorem dX7_setback_45 : decode cX7_setback 45 = .ok (.aload_n 0, 1) := by decide +kernel
theorem dX7_setback_46 : decode cX7_setback 46 = .ok (.aload_n 0, 1) := by decide +kernel
theorem dX7_setback_47 : decode cX7_setback 47 = .ok (.getfield 19, 3) := by decide +kernel
theorem dX7_setback_50 : decode cX7_setback 50 = .ok (.iconst 1, 1) := by decide +kernel
theorem dX7_setback_51 : decode cX7_setback 51 = .ok (.iaload, 1) := by decide +kernel
theorem dX7_setback_52 : decode cX7_setback 52 = .ok (.aload_n 0, 1) := by decide +kernel
theorem dX7_setback_53 : decode cX7_setback 53 = .ok (.getfield 19, 3) := by decide +kernel
theorem dX7_setback_56 : decode cX7_setback 56 = .ok (.iconst 4, 1) := by decide +kernel
theorem dX7_setback_57 : decode cX7_setback 57 = .ok (.iload_n 3, 1) := by decide +kernel
theorem dX7_setback_58 : decode cX7_setback 58 = .ok (.iadd, 1) := by decide +kernel
theorem dX7_setback_59 : decode cX7_setback 59 = .ok (.iaload, 1) := by decide +kernel
theorem dX7_setback_60 : decode cX7_setback 60 = .ok (.invokevirtual 163, 3) := by decide +kernel
theorem dX7_setback_63 : decode cX7_setback 63 = .ok (.istore 5, 2) := by decide +kernel
theorem dX7_setback_65 : decode cX7_setback 65 = .ok (.aload_n 0, 1) := by decide +kernel
theorem dX7_setback_66 : decode cX7_setback 66 = .ok (.invokevirtual 173, 3) := by decide +kernel
theorem dX7_setback_69 : decode cX7_setback 69 = .ok (.iload 4, 2) := by decide +kernel
theorem dX7_setback_71 : decode cX7_setback 71 = .ok (.bipush (-9), 2) := by decide +kernel
theorem dX7_setback_73 : decode cX7_setback 73 = .ok (.if_icmp .eq 10, 3) := by decide +kernel
theorem dX7_setback_76 : decode cX7_setback 76 = .ok (.iload 5, 2) := by decide +kernel
theorem dX7_setback_78 : decode cX7_setback 78 = .ok (.bipush (-9), 2) := by decide +kernel
theorem dX7_setback_80 : decode cX7_setback 80 = .ok (.if_icmp .ne 8, 3) := by decide +kernel
theorem dX7_setback_83 : decode cX7_setback 83 = .ok (.ldc 169, 2) := by decide +kernel
theorem dX7_setback_85 : decode cX7_setback 85 = .ok (.goto 8, 3) := by decide +kernel
theorem dX7_setback_88 : decode cX7_setback 88 = .ok (.iload 5, 2) := by decide +kernel
theorem dX7_setback_90 : decode cX7_setback 90 = .ok (.iload 4, 2) := by decide +kernel
theorem dX7_setback_92 : decode cX7_setback 92 = .ok (.isub, 1) := by decide +kernel
theorem dX7_setback_93 : decode cX7_setback 93 = .ok (.ireturn, 1) := by decide +kernel
set_option maxRecDepth 20000 in
theorem ggX7_odds_X7_isMorning : GoodIn wsX7_odds wsX7_isMorning := goodIn_r _ [6, 7, 8, 9, 5, 10, 1, 11, 12, 13, 14, 15, 16, 17, 42, 43, 44, 45, 46, 47, 48, 49, 50, 51, 52, 53, 54, 55, 56, 57, 58, 59, 60] (by decide +kernel) (by decide +kernel)
set_option maxRecDepth 20000 in
theorem gX7_odds_X7_isMorning : GoodIn wsX7_odds (wsV RX7 131 RX7 yX7_isMorning wsX7_isMorning) := goodIn_app (goodIn_of _ (by decide +kernel)) ggX7_odds_X7_isMorning
set_option maxRecDepth 20000 in
theorem ggX7_odds_X7_in : GoodIn wsX7_odds wsX7_in := goodIn_r _ [13] (by decide +kernel) (by decide +kernel)
set_option maxRecDepth 20000 in
theorem gX7_odds_X7_in : GoodIn wsX7_odds (va_wsS RX7 51 yX7_in wsX7_in) := goodIn_app (goodIn_of _ (by decide +kernel)) ggX7_odds_X7_in
set_option maxRecDepth 20000 in
theorem ggX7_odds_X7_holds : GoodIn wsX7_odds wsX7_holds := goodIn_r _ [21, 22, 23, 42, 43, 44, 45, 46, 47, 48, 49, 50, 51, 52, 53, 54, 55, 56, 57, 58, 59, 60] (by decide +kernel) (by decide +kernel)
set_option maxRecDepth 20000 in
theorem gX7_odds_X7_holds : GoodIn wsX7_odds (wsV RX7 170 RX7 yX7_holds wsX7_holds) := goodIn_app (goodIn_of _ (by decide +kernel)) ggX7_odds_X7_holds
set_option maxRecDepth 20000 in
theorem ggX7_odds_X7_criesNow : GoodIn wsX7_odds wsX7_criesNow := goodIn_r _ [27, 1, 23, 28, 29, 5, 30, 31, 32, 33, 42, 43, 44, 45, 46, 47, 48, 49, 50, 51, 52, 53, 54, 55, 56, 57, 58, 59, 60] (by decide +kernel) (by decide +kernel)
set_option maxRecDepth 20000 in
theorem gX7_odds_X7_criesNow : GoodIn wsX7_odds (wsV RX7 128 RX7 yX7_criesNow wsX7_criesNow) := goodIn_app (goodIn_of _ (by decide +kernel)) ggX7_odds_X7_criesNow
set_option maxRecDepth 20000 in
theorem ggX7_odds_X7_bound : GoodIn wsX7_odds wsX7_bound := goodIn_r _ [33] (by decide +kernel) (by decide +kernel)
set_option maxRecDepth 20000 in
theorem gX7_odds_X7_bound : GoodIn wsX7_odds (va_wsS RX7 121 yX7_bound wsX7_bound) := goodIn_app (goodIn_of _ (by decide +kernel)) ggX7_odds_X7_bound
set_option maxRecDepth 20000 in
theorem ggX7_odds_X7_goes : GoodIn wsX7_odds wsX7_goes := goodIn_r _ [37, 1, 23, 24, 25, 26, 5, 27, 28, 29, 30, 31, 32, 33, 42, 43, 44, 45, 46, 47, 48, 49, 50, 51, 52, 53, 54, 55, 56, 57, 58, 59, 60] (by decide +kernel) (by decide +kernel)
set_option maxRecDepth 20000 in
theorem gX7_odds_X7_goes : GoodIn wsX7_odds (wsV RX7 137 RX7 yX7_goes wsX7_goes) := goodIn_app (goodIn_of _ (by decide +kernel)) ggX7_odds_X7_goes
set_option maxRecDepth 20000 in
theorem ggX7_odds_X7_lets : GoodIn wsX7_odds wsX7_lets := goodIn_r _ [41, 23, 22, 42, 43, 44, 45, 46, 47, 48, 49, 50, 51, 52, 53, 54, 55, 56, 57, 58, 59, 60] (by decide +kernel) (by decide +kernel)
set_option maxRecDepth 20000 in
theorem gX7_odds_X7_lets : GoodIn wsX7_odds (wsV RX7 173 RX7 yX7_lets wsX7_lets) := goodIn_app (goodIn_of _ (by decide +kernel)) ggX7_odds_X7_lets
theorem dX7_odds_0 : decode cX7_odds 0 = .ok (.aload_n 0, 1) := by decide +kernel
theorem dX7_odds_1 : decode cX7_odds 1 = .ok (.iload_n 1, 1) := by decide +kernel
theorem dX7_odds_2 : decode cX7_odds 2 = .ok (.iload_n 2, 1) := by decide +kernel
theorem dX7_odds_3 : decode cX7_odds 3 = .ok (.iload_n 3, 1) := by decide +kernel
theorem dX7_odds_4 : decode cX7_odds 4 = .ok (.invokevirtual 131, 3) := by decide +kernel
theorem dX7_odds_7 : decode cX7_odds 7 = .ok (.ifCond .eq 45, 3) := by decide +kernel
theorem dX7_odds_10 : decode cX7_odds 10 = .ok (.iload 4, 2) := by decide +kernel
theorem dX7_odds_12 : decode cX7_odds 12 = .ok (.iconst 0, 1) := by decide +kernel
theorem dX7_odds_13 : decode cX7_odds 13 = .ok (.iconst 5, 1) := by decide +kernel
theorem dX7_odds_14 : decode cX7_odds 14 = .ok (.invokestatic 51, 3) := by decide +kernel
theorem dX7_odds_17 : decode cX7_odds 17 = .ok (.ifCond .eq 35, 3) := by decide +kernel
theorem dX7_odds_20 : decode cX7_odds 20 = .ok (.iload 5, 2) := by decide +kernel
theorem dX7_odds_22 : decode cX7_odds 22 = .ok (.iconst 0, 1) := by decide +kernel
theorem dX7_odds_23 : decode cX7_odds 23 = .ok (.bipush 10, 2) := by decide +kernel
theorem dX7_odds_25 : decode cX7_odds 25 = .ok (.invokestatic 51, 3) := by decide +kernel
theorem dX7_odds_28 : decode cX7_odds 28 = .ok (.ifCond .eq 24, 3) := by decide +kernel
theorem dX7_odds_31 : decode cX7_odds 31 = .ok (.iload 6, 2) := by decide +kernel
theorem dX7_odds_33 : decode cX7_odds 33 = .ok (.iconst 1, 1) := by decide +kernel
theorem dX7_odds_34 : decode cX7_odds 34 = .ok (.bipush 20, 2) := by decide +kernel
theorem dX7_odds_36 : decode cX7_odds 36 = .ok (.invokestatic 51, 3) := by decide +kernel
theorem dX7_odds_39 : decode cX7_odds 39 = .ok (.ifCond .eq 13, 3) := by decide +kernel
theorem dX7_odds_42 : decode cX7_odds 42 = .ok (.iload 7, 2) := by decide +kernel
theorem dX7_odds_44 : decode cX7_odds 44 = .ok (.iconst 0, 1) := by decide +kernel
theorem dX7_odds_45 : decode cX7_odds 45 = .ok (.iconst 1, 1) := by decide +kernel
theorem dX7_odds_46 : decode cX7_odds 46 = .ok (.invokestatic 51, 3) := by decide +kernel
theorem dX7_odds_49 : decode cX7_odds 49 = .ok (.ifCond .ne 5, 3) := by decide +kernel
theorem dX7_odds_52 : decode cX7_odds 52 = .ok (.iconst (-1), 1) := by decide +kernel
theorem dX7_odds_53 : decode cX7_odds 53 = .ok (.ireturn, 1) := by decide +kernel
theorem dX7_odds_54 : decode cX7_odds 54 = .ok (.aload_n 0, 1) := by decide +kernel
theorem dX7_odds_55 : decode cX7_odds 55 = .ok (.invokevirtual 170, 3) := by decide +kernel
theorem dX7_odds_58 : decode cX7_odds 58 = .ok (.iconst 1, 1) := by decide +kernel
theorem dX7_odds_59 : decode cX7_odds 59 = .ok (.istore 8, 2) := by decide +kernel
theorem dX7_odds_61 : decode cX7_odds 61 = .ok (.iconst 1, 1) := by decide +kernel
theorem dX7_odds_62 : decode cX7_odds 62 = .ok (.istore 9, 2) := by decide +kernel
theorem dX7_odds_64 : decode cX7_odds 64 = .ok (.iconst 0, 1) := by decide +kernel
theorem dX7_odds_65 : decode cX7_odds 65 = .ok (.istore 10, 2) := by decide +kernel
theorem dX7_odds_67 : decode cX7_odds 67 = .ok (.iload 10, 2) := by decide +kernel
theorem dX7_odds_69 : decode cX7_odds 69 = .ok (.iload 4, 2) := by decide +kernel
theorem dX7_odds_71 : decode cX7_odds 71 = .ok (.if_icmp .ge 89, 3) := by decide +kernel
theorem dX7_odds_74 : decode cX7_odds 74 = .ok (.aload_n 0, 1) := by decide +kernel
theorem dX7_odds_75 : decode cX7_odds 75 = .ok (.iload_n 1, 1) := by decide +kernel
theorem dX7_odds_76 : decode cX7_odds 76 = .ok (.iload_n 2, 1) := by decide +kernel
theorem dX7_odds_77 : decode cX7_odds 77 = .ok (.iload_n 3, 1) := by decide +kernel
theorem dX7_odds_78 : decode cX7_odds 78 = .ok (.invokevirtual 128, 3) := by decide +kernel
theorem dX7_odds_81 : decode cX7_odds 81 = .ok (.istore 11, 2) := by decide +kernel
theorem dX7_odds_83 : decode cX7_odds 83 = .ok (.iload 11, 2) := by decide +kernel
theorem dX7_odds_85 : decode cX7_odds 85 = .ok (.iload 6, 2) := by decide +kernel
theorem dX7_odds_87 : decode cX7_odds 87 = .ok (.iadd, 1) := by decide +kernel
theorem dX7_odds_88 : decode cX7_odds 88 = .ok (.iconst 0, 1) := by decide +kernel
theorem dX7_odds_89 : decode cX7_odds 89 = .ok (.bipush 60, 2) := by decide +kernel
theorem dX7_odds_91 : decode cX7_odds 91 = .ok (.invokestatic 121, 3) := by decide +kernel
theorem dX7_odds_94 : decode cX7_odds 94 = .ok (.istore 12, 2) := by decide +kernel
theorem dX7_odds_96 : decode cX7_odds 96 = .ok (.iload 8, 2) := by decide +kernel
theorem dX7_odds_98 : decode cX7_odds 98 = .ok (.iload 11, 2) := by decide +kernel
theorem dX7_odds_100 : decode cX7_odds 100 = .ok (.aload_n 0, 1) := by decide +kernel
theorem dX7_odds_101 : decode cX7_odds 101 = .ok (.getfield 13, 3) := by decide +kernel
theorem dX7_odds_104 : decode cX7_odds 104 = .ok (.iconst 3, 1) := by decide +kernel
theorem dX7_odds_105 : decode cX7_odds 105 = .ok (.iaload, 1) := by decide +kernel
theorem dX7_odds_106 : decode cX7_odds 106 = .ok (.if_icmp .gt 11, 3) := by decide +kernel
theorem dX7_odds_109 : decode cX7_odds 109 = .ok (.bipush 10, 2) := by decide +kernel
theorem dX7_odds_111 : decode cX7_odds 111 = .ok (.iload 5, 2) := by decide +kernel
theorem dX7_odds_113 : decode cX7_odds 113 = .ok (.isub, 1) := by decide +kernel
theorem dX7_odds_114 : decode cX7_odds 114 = .ok (.goto 4, 3) := by decide +kernel
theorem dX7_odds_117 : decode cX7_odds 117 = .ok (.iconst 0, 1) := by decide +kernel
theorem dX7_odds_118 : decode cX7_odds 118 = .ok (.iload 12, 2) := by decide +kernel
theorem dX7_odds_120 : decode cX7_odds 120 = .ok (.aload_n 0, 1) := by decide +kernel
theorem dX7_odds_121 : decode cX7_odds 121 = .ok (.getfield 13, 3) := by decide +kernel
theorem dX7_odds_124 : decode cX7_odds 124 = .ok (.iconst 3, 1) := by decide +kernel
theorem dX7_odds_125 : decode cX7_odds 125 = .ok (.iaload, 1) := by decide +kernel
theorem dX7_odds_126 : decode cX7_odds 126 = .ok (.if_icmp .gt 8, 3) := by decide +kernel
theorem dX7_odds_129 : decode cX7_odds 129 = .ok (.iload 5, 2) := by decide +kernel
theorem dX7_odds_131 : decode cX7_odds 131 = .ok (.goto 4, 3) := by decide +kernel
theorem dX7_odds_134 : decode cX7_odds 134 = .ok (.iconst 0, 1) := by decide +kernel
theorem dX7_odds_135 : decode cX7_odds 135 = .ok (.iadd, 1) := by decide +kernel
theorem dX7_odds_136 : decode cX7_odds 136 = .ok (.imul, 1) := by decide +kernel
theorem dX7_odds_137 : decode cX7_odds 137 = .ok (.istore 8, 2) := by decide +kernel
theorem dX7_odds_139 : decode cX7_odds 139 = .ok (.iload 9, 2) := by decide +kernel
theorem dX7_odds_141 : decode cX7_odds 141 = .ok (.bipush 10, 2) := by decide +kernel
theorem dX7_odds_143 : decode cX7_odds 143 = .ok (.imul, 1) := by decide +kernel
theorem dX7_odds_144 : decode cX7_odds 144 = .ok (.istore 9, 2) := by decide +kernel
theorem dX7_odds_146 : decode cX7_odds 146 = .ok (.aload_n 0, 1) := by decide +kernel
theorem dX7_odds_147 : decode cX7_odds 147 = .ok (.iload_n 1, 1) := by decide +kernel
theorem dX7_odds_148 : decode cX7_odds 148 = .ok (.iload_n 2, 1) := by decide +kernel
theorem dX7_odds_149 : decode cX7_odds 149 = .ok (.iload_n 3, 1) := by decide +kernel
theorem dX7_odds_150 : decode cX7_odds 150 = .ok (.invokevirtual 137, 3) := by decide +kernel
theorem dX7_odds_153 : decode cX7_odds 153 = .ok (.pop, 1) := by decide +kernel
theorem dX7_odds_154 : decode cX7_odds 154 = .ok (.iinc 10 1, 3) := by decide +kernel
theorem dX7_odds_157 : decode cX7_odds 157 = .ok (.goto (-90), 3) := by decide +kernel
theorem dX7_odds_160 : decode cX7_odds 160 = .ok (.aload_n 0, 1) := by decide +kernel
theorem dX7_odds_161 : decode cX7_odds 161 = .ok (.invokevirtual 173, 3) := by decide +kernel
theorem dX7_odds_164 : decode cX7_odds 164 = .ok (.iload 8, 2) := by decide +kernel
theorem dX7_odds_166 : decode cX7_odds 166 = .ok (.istore 10, 2) := by decide +kernel
theorem dX7_odds_168 : decode cX7_odds 168 = .ok (.iload 9, 2) := by decide +kernel
theorem dX7_odds_170 : decode cX7_odds 170 = .ok (.istore 11, 2) := by decide +kernel
theorem dX7_odds_172 : decode cX7_odds 172 = .ok (.iload 11, 2) := by decide +kernel
theorem dX7_odds_174 : decode cX7_odds 174 = .ok (.ifCond .le 21, 3) := by decide +kernel
theorem dX7_odds_177 : decode cX7_odds 177 = .ok (.iload 10, 2) := by decide +kernel
theorem dX7_odds_179 : decode cX7_odds 179 = .ok (.iload 11, 2) := by decide +kernel
theorem dX7_odds_181 : decode cX7_odds 181 = .ok (.irem, 1) := by decide +kernel
theorem dX7_odds_182 : decode cX7_odds 182 = .ok (.istore 12, 2) := by decide +kernel
theorem dX7_odds_184 : decode cX7_odds 184 = .ok (.iload 11, 2) := by decide +kernel
theorem dX7_odds_186 : decode cX7_odds 186 = .ok (.istore 10, 2) := by decide +kernel
theorem dX7_odds_188 : decode cX7_odds 188 = .ok (.iload 12, 2) := by decide +kernel
theorem dX7_odds_190 : decode cX7_odds 190 = .ok (.istore 11, 2) := by decide +kernel
theorem dX7_odds_192 : decode cX7_odds 192 = .ok (.goto (-20), 3) := by decide +kernel
theorem dX7_odds_195 : decode cX7_odds 195 = .ok (.iload 7, 2) := by decide +kernel
theorem dX7_odds_197 : decode cX7_odds 197 = .ok (.ifCond .ne 11, 3) := by decide +kernel
theorem dX7_odds_200 : decode cX7_odds 200 = .ok (.iload 8, 2) := by decide +kernel
theorem dX7_odds_202 : decode cX7_odds 202 = .ok (.iload 10, 2) := by decide +kernel
theorem dX7_odds_204 : decode cX7_odds 204 = .ok (.idiv, 1) := by decide +kernel
theorem dX7_odds_205 : decode cX7_odds 205 = .ok (.goto 8, 3) := by decide +kernel
theorem dX7_odds_208 : decode cX7_odds 208 = .ok (.iload 9, 2) := by decide +kernel
theorem dX7_odds_210 : decode cX7_odds 210 = .ok (.iload 10, 2) := by decide +kernel
theorem dX7_odds_212 : decode cX7_odds 212 = .ok (.idiv, 1) := by decide +kernel
theorem dX7_odds_213 : decode cX7_odds 213 = .ok (.ireturn, 1) := by decide +kernel
set_option maxRecDepth 20000 in
theorem ggX7_shows_X7_isGoodbye : GoodIn wsX7_shows wsX7_isGoodbye := goodIn_r _ [7, 8, 9, 10, 6, 11, 12, 13, 14, 15, 16, 17, 18, 19, 20, 21, 22, 23, 24, 25, 26, 27, 28, 29, 30] (by decide +kernel) (by decide +kernel)
set_option maxRecDepth 20000 in
theorem gX7_shows_X7_isGoodbye : GoodIn wsX7_shows (wsV RX7 101 RX7 yX7_isGoodbye wsX7_isGoodbye) := goodIn_app (goodIn_of _ (by decide +kernel)) ggX7_shows_X7_isGoodbye
set_option maxRecDepth 20000 in
theorem ggX7_shows_X7_in : GoodIn wsX7_shows wsX7_in := goodIn_r _ [11] (by decide +kernel) (by decide +kernel)
set_option maxRecDepth 20000 in
theorem gX7_shows_X7_in : GoodIn wsX7_shows (va_wsS RX7 51 yX7_in wsX7_in) := goodIn_app (goodIn_of _ (by decide +kernel)) ggX7_shows_X7_in
theorem dX7_shows_0 : decode cX7_shows 0 = .ok (.aload_n 0, 1) := by decide +kernel
theorem dX7_shows_1 : decode cX7_shows 1 = .ok (.iload_n 1, 1) := by decide +kernel
theorem dX7_shows_2 : decode cX7_shows 2 = .ok (.invokevirtual 101, 3) := by decide +kernel
theorem dX7_shows_5 : decode cX7_shows 5 = .ok (.ifCond .eq 45, 3) := by decide +kernel
theorem dX7_shows_8 : decode cX7_shows 8 = .ok (.iload_n 2, 1) := by decide +kernel
theorem dX7_shows_9 : decode cX7_shows 9 = .ok (.iconst 0, 1) := by decide +kernel
theorem dX7_shows_10 : decode cX7_shows 10 = .ok (.bipush 24, 2) := by decide +kernel
theorem dX7_shows_12 : decode cX7_shows 12 = .ok (.invokestatic 51, 3) := by decide +kernel
theorem dX7_shows_15 : decode cX7_shows 15 = .ok (.ifCond .eq 35, 3) := by decide +kernel
theorem dX7_shows_18 : decode cX7_shows 18 = .ok (.iload_n 3, 1) := by decide +kernel
theorem dX7_shows_19 : decode cX7_shows 19 = .ok (.iconst 1, 1) := by decide +kernel
theorem dX7_shows_20 : decode cX7_shows 20 = .ok (.bipush 96, 2) := by decide +kernel
theorem dX7_shows_22 : decode cX7_shows 22 = .ok (.invokestatic 51, 3) := by decide +kernel
theorem dX7_shows_25 : decode cX7_shows 25 = .ok (.ifCond .eq 25, 3) := by decide +kernel
theorem dX7_shows_28 : decode cX7_shows 28 = .ok (.iload 4, 2) := by decide +kernel
theorem dX7_shows_30 : decode cX7_shows 30 = .ok (.iconst 0, 1) := by decide +kernel
theorem dX7_shows_31 : decode cX7_shows 31 = .ok (.bipush 9, 2) := by decide +kernel
theorem dX7_shows_33 : decode cX7_shows 33 = .ok (.invokestatic 51, 3) := by decide +kernel
theorem dX7_shows_36 : decode cX7_shows 36 = .ok (.ifCond .eq 14, 3) := by decide +kernel
theorem dX7_shows_39 : decode cX7_shows 39 = .ok (.iload 5, 2) := by decide +kernel
theorem dX7_shows_41 : decode cX7_shows 41 = .ok (.iconst 0, 1) := by decide +kernel
theorem dX7_shows_42 : decode cX7_shows 42 = .ok (.bipush 60, 2) := by decide +kernel
theorem dX7_shows_44 : decode cX7_shows 44 = .ok (.invokestatic 51, 3) := by decide +kernel
theorem dX7_shows_47 : decode cX7_shows 47 = .ok (.ifCond .ne 5, 3) := by decide +kernel
theorem dX7_shows_50 : decode cX7_shows 50 = .ok (.iconst (-1), 1) := by decide +kernel
theorem dX7_shows_51 : decode cX7_shows 51 = .ok (.ireturn, 1) := by decide +kernel
theorem dX7_shows_52 : decode cX7_shows 52 = .ok (.aload_n 0, 1) := by decide +kernel
theorem dX7_shows_53 : decode cX7_shows 53 = .ok (.getfield 98, 3) := by decide +kernel
theorem dX7_shows_56 : decode cX7_shows 56 = .ok (.bipush 6, 2) := by decide +kernel
theorem dX7_shows_58 : decode cX7_shows 58 = .ok (.if_icmp .ne 6, 3) := by decide +kernel
theorem dX7_shows_61 : decode cX7_shows 61 = .ok (.bipush (-3), 2) := by decide +kernel
theorem dX7_shows_63 : decode cX7_shows 63 = .ok (.ireturn, 1) := by decide +kernel
theorem dX7_shows_64 : decode cX7_shows 64 = .ok (.aload_n 0, 1) := by decide +kernel
theorem dX7_shows_65 : decode cX7_shows 65 = .ok (.getfield 32, 3) := by decide +kernel
theorem dX7_shows_68 : decode cX7_shows 68 = .ok (.iconst 5, 1) := by decide +kernel
theorem dX7_shows_69 : decode cX7_shows 69 = .ok (.aload_n 0, 1) := by decide +kernel
theorem dX7_shows_70 : decode cX7_shows 70 = .ok (.getfield 98, 3) := by decide +kernel
theorem dX7_shows_73 : decode cX7_shows 73 = .ok (.imul, 1) := by decide +kernel
theorem dX7_shows_74 : decode cX7_shows 74 = .ok (.iload_n 1, 1) := by decide +kernel
theorem dX7_shows_75 : decode cX7_shows 75 = .ok (.iastore, 1) := by decide +kernel
theorem dX7_shows_76 : decode cX7_shows 76 = .ok (.aload_n 0, 1) := by decide +kernel
theorem dX7_shows_77 : decode cX7_shows 77 = .ok (.getfield 32, 3) := by decide +kernel
theorem dX7_shows_80 : decode cX7_shows 80 = .ok (.iconst 5, 1) := by decide +kernel
theorem dX7_shows_81 : decode cX7_shows 81 = .ok (.aload_n 0, 1) := by decide +kernel
theorem dX7_shows_82 : decode cX7_shows 82 = .ok (.getfield 98, 3) := by decide +kernel
theorem dX7_shows_85 : decode cX7_shows 85 = .ok (.imul, 1) := by decide +kernel
theorem dX7_shows_86 : decode cX7_shows 86 = .ok (.iconst 1, 1) := by decide +kernel
theorem dX7_shows_87 : decode cX7_shows 87 = .ok (.iadd, 1) := by decide +kernel
theorem dX7_shows_88 : decode cX7_shows 88 = .ok (.iload_n 2, 1) := by decide +kernel
theorem dX7_shows_89 : decode cX7_shows 89 = .ok (.iastore, 1) := by decide +kernel
theorem dX7_shows_90 : decode cX7_shows 90 = .ok (.aload_n 0, 1) := by decide +kernel
theorem dX7_shows_91 : decode cX7_shows 91 = .ok (.getfield 32, 3) := by decide +kernel
theorem dX7_shows_94 : decode cX7_shows 94 = .ok (.iconst 5, 1) := by decide +kernel
theorem dX7_shows_95 : decode cX7_shows 95 = .ok (.aload_n 0, 1) := by decide +kernel
theorem dX7_shows_96 : decode cX7_shows 96 = .ok (.getfield 98, 3) := by decide +kernel
theorem dX7_shows_99 : decode cX7_shows 99 = .ok (.imul, 1) := by decide +kernel
theorem dX7_shows_100 : decode cX7_shows 100 = .ok (.iconst 2, 1) := by decide +kernel
theorem dX7_shows_101 : decode cX7_shows 101 = .ok (.iadd, 1) := by decide +kernel
theorem dX7_shows_102 : decode cX7_shows 102 = .ok (.iload_n 3, 1) := by decide +kernel
theorem dX7_shows_103 : decode cX7_shows 103 = .ok (.iastore, 1) := by decide +kernel
theorem dX7_shows_104 : decode cX7_shows 104 = .ok (.aload_n 0, 1) := by decide +kernel
theorem dX7_shows_105 : decode cX7_shows 105 = .ok (.getfield 32, 3) := by decide +kernel
theorem dX7_shows_108 : decode cX7_shows 108 = .ok (.iconst 5, 1) := by decide +kernel
theorem dX7_shows_109 : decode cX7_shows 109 = .ok (.aload_n 0, 1) := by decide +kernel
theorem dX7_shows_110 : decode cX7_shows 110 = .ok (.getfield 98, 3) := by decide +kernel
theorem dX7_shows_113 : decode cX7_shows 113 = .ok (.imul, 1) := by decide +kernel
theorem dX7_shows_114 : decode cX7_shows 114 = .ok (.iconst 3, 1) := by decide +kernel
theorem dX7_shows_115 : decode cX7_shows 115 = .ok (.iadd, 1) := by decide +kernel
theorem dX7_shows_116 : decode cX7_shows 116 = .ok (.iload 4, 2) := by decide +kernel
theorem dX7_shows_118 : decode cX7_shows 118 = .ok (.iastore, 1) := by decide +kernel
theorem dX7_shows_119 : decode cX7_shows 119 = .ok (.aload_n 0, 1) := by decide +kernel
theorem dX7_shows_120 : decode cX7_shows 120 = .ok (.getfield 32, 3) := by decide +kernel
theorem dX7_shows_123 : decode cX7_shows 123 = .ok (.iconst 5, 1) := by decide +kernel
theorem dX7_shows_124 : decode cX7_shows 124 = .ok (.aload_n 0, 1) := by decide +kernel
theorem dX7_shows_125 : decode cX7_shows 125 = .ok (.getfield 98, 3) := by decide +kernel
theorem dX7_shows_128 : decode cX7_shows 128 = .ok (.imul, 1) := by decide +kernel
theorem dX7_shows_129 : decode cX7_shows 129 = .ok (.iconst 4, 1) := by decide +kernel
theorem dX7_shows_130 : decode cX7_shows 130 = .ok (.iadd, 1) := by decide +kernel
theorem dX7_shows_131 : decode cX7_shows 131 = .ok (.iload 5, 2) := by decide +kernel
theorem dX7_shows_133 : decode cX7_shows 133 = .ok (.iastore, 1) := by decide +kernel
theorem dX7_shows_134 : decode cX7_shows 134 = .ok (.aload_n 0, 1) := by decide +kernel
theorem dX7_shows_135 : decode cX7_shows 135 = .ok (.dup, 1) := by decide +kernel
theorem dX7_shows_136 : decode cX7_shows 136 = .ok (.getfield 98, 3) := by decide +kernel
theorem dX7_shows_139 : decode cX7_shows 139 = .ok (.iconst 1, 1) := by decide +kernel
theorem dX7_shows_140 : decode cX7_shows 140 = .ok (.iadd, 1) := by decide +kernel
theorem dX7_shows_141 : decode cX7_shows 141 = .ok (.putfield 98, 3) := by decide +kernel
theorem dX7_shows_144 : decode cX7_shows 144 = .ok (.aload_n 0, 1) := by decide +kernel
theorem dX7_shows_145 : decode cX7_shows 145 = .ok (.getfield 98, 3) := by decide +kernel
theorem dX7_shows_148 : decode cX7_shows 148 = .ok (.ireturn, 1) := by decide +kernel
theorem dX7_forget_0 : decode cX7_forget 0 = .ok (.aload_n 0, 1) := by decide +kernel
theorem dX7_forget_1 : decode cX7_forget 1 = .ok (.getfield 98, 3) := by decide +kernel
theorem dX7_forget_4 : decode cX7_forget 4 = .ok (.istore_n 1, 1) := by decide +kernel
theorem dX7_forget_5 : decode cX7_forget 5 = .ok (.aload_n 0, 1) := by decide +kernel
theorem dX7_forget_6 : decode cX7_forget 6 = .ok (.iconst 0, 1) := by decide +kernel
theorem dX7_forget_7 : decode cX7_forget 7 = .ok (.putfield 98, 3) := by decide +kernel
theorem dX7_forget_10 : decode cX7_forget 10 = .ok (.iload_n 1, 1) := by decide +kernel
theorem dX7_forget_11 : decode cX7_forget 11 = .ok (.ireturn, 1) := by decide +kernel
set_option maxRecDepth 20000 in
theorem ggX7_fits_X7_cries : GoodIn wsX7_fits wsX7_cries := goodIn_r _ [7, 8, 9, 6, 10] (by decide +kernel) (by decide +kernel)
set_option maxRecDepth 20000 in
theorem gX7_fits_X7_cries : GoodIn wsX7_fits (va_wsS RX7 124 yX7_cries wsX7_cries) := goodIn_app (goodIn_of _ (by decide +kernel)) ggX7_fits_X7_cries
theorem dX7_fits_0 : decode cX7_fits 0 = .ok (.iconst 0, 1) := by decide +kernel
theorem dX7_fits_1 : decode cX7_fits 1 = .ok (.istore_n 1, 1) := by decide +kernel
theorem dX7_fits_2 : decode cX7_fits 2 = .ok (.iconst 1, 1) := by decide +kernel
theorem dX7_fits_3 : decode cX7_fits 3 = .ok (.istore_n 2, 1) := by decide +kernel
theorem dX7_fits_4 : decode cX7_fits 4 = .ok (.iload_n 2, 1) := by decide +kernel
theorem dX7_fits_5 : decode cX7_fits 5 = .ok (.bipush 10, 2) := by decide +kernel
theorem dX7_fits_7 : decode cX7_fits 7 = .ok (.if_icmp .ge 113, 3) := by decide +kernel
theorem dX7_fits_10 : decode cX7_fits 10 = .ok (.iconst 1, 1) := by decide +kernel
theorem dX7_fits_11 : decode cX7_fits 11 = .ok (.istore_n 3, 1) := by decide +kernel
theorem dX7_fits_12 : decode cX7_fits 12 = .ok (.iconst 0, 1) := by decide +kernel
theorem dX7_fits_13 : decode cX7_fits 13 = .ok (.istore 4, 2) := by decide +kernel
theorem dX7_fits_15 : decode cX7_fits 15 = .ok (.iload 4, 2) := by decide +kernel
theorem dX7_fits_17 : decode cX7_fits 17 = .ok (.iconst 5, 1) := by decide +kernel
theorem dX7_fits_18 : decode cX7_fits 18 = .ok (.aload_n 0, 1) := by decide +kernel
theorem dX7_fits_19 : decode cX7_fits 19 = .ok (.getfield 98, 3) := by decide +kernel
theorem dX7_fits_22 : decode cX7_fits 22 = .ok (.imul, 1) := by decide +kernel
theorem dX7_fits_23 : decode cX7_fits 23 = .ok (.if_icmp .ge 77, 3) := by decide +kernel
theorem dX7_fits_26 : decode cX7_fits 26 = .ok (.iload_n 3, 1) := by decide +kernel
theorem dX7_fits_27 : decode cX7_fits 27 = .ok (.ifCond .eq 65, 3) := by decide +kernel
theorem dX7_fits_30 : decode cX7_fits 30 = .ok (.aload_n 0, 1) := by decide +kernel
theorem dX7_fits_31 : decode cX7_fits 31 = .ok (.getfield 13, 3) := by decide +kernel
theorem dX7_fits_34 : decode cX7_fits 34 = .ok (.bipush 8, 2) := by decide +kernel
theorem dX7_fits_36 : decode cX7_fits 36 = .ok (.aload_n 0, 1) := by decide +kernel
theorem dX7_fits_37 : decode cX7_fits 37 = .ok (.getfield 32, 3) := by decide +kernel
theorem dX7_fits_40 : decode cX7_fits 40 = .ok (.iload 4, 2) := by decide +kernel
theorem dX7_fits_42 : decode cX7_fits 42 = .ok (.iaload, 1) := by decide +kernel
theorem dX7_fits_43 : decode cX7_fits 43 = .ok (.iadd, 1) := by decide +kernel
theorem dX7_fits_44 : decode cX7_fits 44 = .ok (.iaload, 1) := by decide +kernel
theorem dX7_fits_45 : decode cX7_fits 45 = .ok (.iload_n 2, 1) := by decide +kernel
theorem dX7_fits_46 : decode cX7_fits 46 = .ok (.aload_n 0, 1) := by decide +kernel
theorem dX7_fits_47 : decode cX7_fits 47 = .ok (.getfield 32, 3) := by decide +kernel
theorem dX7_fits_50 : decode cX7_fits 50 = .ok (.iload 4, 2) := by decide +kernel
theorem dX7_fits_52 : decode cX7_fits 52 = .ok (.iconst 1, 1) := by decide +kernel
theorem dX7_fits_53 : decode cX7_fits 53 = .ok (.iadd, 1) := by decide +kernel
theorem dX7_fits_54 : decode cX7_fits 54 = .ok (.iaload, 1) := by decide +kernel
theorem dX7_fits_55 : decode cX7_fits 55 = .ok (.aload_n 0, 1) := by decide +kernel
theorem dX7_fits_56 : decode cX7_fits 56 = .ok (.getfield 32, 3) := by decide +kernel
theorem dX7_fits_59 : decode cX7_fits 59 = .ok (.iload 4, 2) := by decide +kernel
theorem dX7_fits_61 : decode cX7_fits 61 = .ok (.iconst 2, 1) := by decide +kernel
theorem dX7_fits_62 : decode cX7_fits 62 = .ok (.iadd, 1) := by decide +kernel
theorem dX7_fits_63 : decode cX7_fits 63 = .ok (.iaload, 1) := by decide +kernel
theorem dX7_fits_64 : decode cX7_fits 64 = .ok (.aload_n 0, 1) := by decide +kernel
theorem dX7_fits_65 : decode cX7_fits 65 = .ok (.getfield 32, 3) := by decide +kernel
theorem dX7_fits_68 : decode cX7_fits 68 = .ok (.iload 4, 2) := by decide +kernel
theorem dX7_fits_70 : decode cX7_fits 70 = .ok (.iconst 3, 1) := by decide +kernel
theorem dX7_fits_71 : decode cX7_fits 71 = .ok (.iadd, 1) := by decide +kernel
theorem dX7_fits_72 : decode cX7_fits 72 = .ok (.iaload, 1) := by decide +kernel
theorem dX7_fits_73 : decode cX7_fits 73 = .ok (.invokestatic 124, 3) := by decide +kernel
theorem dX7_fits_76 : decode cX7_fits 76 = .ok (.aload_n 0, 1) := by decide +kernel
theorem dX7_fits_77 : decode cX7_fits 77 = .ok (.getfield 32, 3) := by decide +kernel
theorem dX7_fits_80 : decode cX7_fits 80 = .ok (.iload 4, 2) := by decide +kernel
theorem dX7_fits_82 : decode cX7_fits 82 = .ok (.iconst 4, 1) := by decide +kernel
theorem dX7_fits_83 : decode cX7_fits 83 = .ok (.iadd, 1) := by decide +kernel
theorem dX7_fits_84 : decode cX7_fits 84 = .ok (.iaload, 1) := by decide +kernel
theorem dX7_fits_85 : decode cX7_fits 85 = .ok (.if_icmp .ne 7, 3) := by decide +kernel
theorem dX7_fits_88 : decode cX7_fits 88 = .ok (.iconst 1, 1) := by decide +kernel
theorem dX7_fits_89 : decode cX7_fits 89 = .ok (.goto 4, 3) := by decide +kernel
theorem dX7_fits_92 : decode cX7_fits 92 = .ok (.iconst 0, 1) := by decide +kernel
theorem dX7_fits_93 : decode cX7_fits 93 = .ok (.istore_n 3, 1) := by decide +kernel
theorem dX7_fits_94 : decode cX7_fits 94 = .ok (.iinc 4 5, 3) := by decide +kernel
theorem dX7_fits_97 : decode cX7_fits 97 = .ok (.goto (-82), 3) := by decide +kernel
theorem dX7_fits_100 : decode cX7_fits 100 = .ok (.iload_n 1, 1) := by decide +kernel
theorem dX7_fits_101 : decode cX7_fits 101 = .ok (.iload_n 3, 1) := by decide +kernel
theorem dX7_fits_102 : decode cX7_fits 102 = .ok (.ifCond .eq 9, 3) := by decide +kernel
theorem dX7_fits_105 : decode cX7_fits 105 = .ok (.iconst 1, 1) := by decide +kernel
theorem dX7_fits_106 : decode cX7_fits 106 = .ok (.iload_n 2, 1) := by decide +kernel
theorem dX7_fits_107 : decode cX7_fits 107 = .ok (.ishl, 1) := by decide +kernel
theorem dX7_fits_108 : decode cX7_fits 108 = .ok (.goto 4, 3) := by decide +kernel
theorem dX7_fits_111 : decode cX7_fits 111 = .ok (.iconst 0, 1) := by decide +kernel
theorem dX7_fits_112 : decode cX7_fits 112 = .ok (.ior, 1) := by decide +kernel
theorem dX7_fits_113 : decode cX7_fits 113 = .ok (.istore_n 1, 1) := by decide +kernel
theorem dX7_fits_114 : decode cX7_fits 114 = .ok (.iinc 2 1, 3) := by decide +kernel
theorem dX7_fits_117 : decode cX7_fits 117 = .ok (.goto (-113), 3) := by decide +kernel
theorem dX7_fits_120 : decode cX7_fits 120 = .ok (.iload_n 1, 1) := by decide +kernel
theorem dX7_fits_121 : decode cX7_fits 121 = .ok (.ireturn, 1) := by decide +kernel
set_option maxRecDepth 20000 in
theorem ggX7_rate_X7_in : GoodIn wsX7_rate wsX7_in := goodIn_r _ [13] (by decide +kernel) (by decide +kernel)
set_option maxRecDepth 20000 in
theorem gX7_rate_X7_in : GoodIn wsX7_rate (va_wsS RX7 51 yX7_in wsX7_in) := goodIn_app (goodIn_of _ (by decide +kernel)) ggX7_rate_X7_in
set_option maxRecDepth 20000 in
theorem ggX7_rate_X7_isGoodbye : GoodIn wsX7_rate wsX7_isGoodbye := goodIn_r _ [17, 8, 10, 11, 12, 13, 18, 19, 20, 21, 22, 23, 24, 25, 26, 27, 28, 29, 30, 31, 32, 33, 34, 35, 36] (by decide +kernel) (by decide +kernel)
set_option maxRecDepth 20000 in
theorem gX7_rate_X7_isGoodbye : GoodIn wsX7_rate (wsV RX7 101 RX7 yX7_isGoodbye wsX7_isGoodbye) := goodIn_app (goodIn_of _ (by decide +kernel)) ggX7_rate_X7_isGoodbye
theorem dX7_rate_0 : decode cX7_rate 0 = .ok (.iload_n 1, 1) := by decide +kernel
theorem dX7_rate_1 : decode cX7_rate 1 = .ok (.iconst 0, 1) := by decide +kernel
theorem dX7_rate_2 : decode cX7_rate 2 = .ok (.iconst 5, 1) := by decide +kernel
theorem dX7_rate_3 : decode cX7_rate 3 = .ok (.invokestatic 51, 3) := by decide +kernel
theorem dX7_rate_6 : decode cX7_rate 6 = .ok (.ifCond .eq 11, 3) := by decide +kernel
theorem dX7_rate_9 : decode cX7_rate 9 = .ok (.aload_n 0, 1) := by decide +kernel
theorem dX7_rate_10 : decode cX7_rate 10 = .ok (.iload_n 2, 1) := by decide +kernel
theorem dX7_rate_11 : decode cX7_rate 11 = .ok (.invokevirtual 101, 3) := by decide +kernel
theorem dX7_rate_14 : decode cX7_rate 14 = .ok (.ifCond .ne 6, 3) := by decide +kernel
theorem dX7_rate_17 : decode cX7_rate 17 = .ok (.ldc 169, 2) := by decide +kernel
theorem dX7_rate_19 : decode cX7_rate 19 = .ok (.ireturn, 1) := by decide +kernel
theorem dX7_rate_20 : decode cX7_rate 20 = .ok (.aload_n 0, 1) := by decide +kernel
theorem dX7_rate_21 : decode cX7_rate 21 = .ok (.dup, 1) := by decide +kernel
theorem dX7_rate_22 : decode cX7_rate 22 = .ok (.getfield 176, 3) := by decide +kernel
theorem dX7_rate_25 : decode cX7_rate 25 = .ok (.iload_n 1, 1) := by decide +kernel
theorem dX7_rate_26 : decode cX7_rate 26 = .ok (.ifCond .ne 7, 3) := by decide +kernel
theorem dX7_rate_29 : decode cX7_rate 29 = .ok (.lconst 1, 1) := by decide +kernel
theorem dX7_rate_30 : decode cX7_rate 30 = .ok (.goto 50, 3) := by decide +kernel
theorem dX7_rate_33 : decode cX7_rate 33 = .ok (.iload_n 1, 1) := by decide +kernel
theorem dX7_rate_34 : decode cX7_rate 34 = .ok (.iconst 1, 1) := by decide +kernel
theorem dX7_rate_35 : decode cX7_rate 35 = .ok (.if_icmp .ne 9, 3) := by decide +kernel
theorem dX7_rate_38 : decode cX7_rate 38 = .ok (.ldc2_w 180, 3) := by decide +kernel
theorem dX7_rate_41 : decode cX7_rate 41 = .ok (.goto 39, 3) := by decide +kernel
theorem dX7_rate_44 : decode cX7_rate 44 = .ok (.iload_n 1, 1) := by decide +kernel
theorem dX7_rate_45 : decode cX7_rate 45 = .ok (.iconst 2, 1) := by decide +kernel
theorem dX7_rate_46 : decode cX7_rate 46 = .ok (.if_icmp .ne 9, 3) := by decide +kernel
theorem dX7_rate_49 : decode cX7_rate 49 = .ok (.ldc2_w 182, 3) := by decide +kernel
theorem dX7_rate_52 : decode cX7_rate 52 = .ok (.goto 28, 3) := by decide +kernel
theorem dX7_rate_55 : decode cX7_rate 55 = .ok (.iload_n 1, 1) := by decide +kernel
theorem dX7_rate_56 : decode cX7_rate 56 = .ok (.iconst 3, 1) := by decide +kernel
theorem dX7_rate_57 : decode cX7_rate 57 = .ok (.if_icmp .ne 9, 3) := by decide +kernel
theorem dX7_rate_60 : decode cX7_rate 60 = .ok (.ldc2_w 184, 3) := by decide +kernel
theorem dX7_rate_63 : decode cX7_rate 63 = .ok (.goto 17, 3) := by decide +kernel
theorem dX7_rate_66 : decode cX7_rate 66 = .ok (.iload_n 1, 1) := by decide +kernel
theorem dX7_rate_67 : decode cX7_rate 67 = .ok (.iconst 4, 1) := by decide +kernel
theorem dX7_rate_68 : decode cX7_rate 68 = .ok (.if_icmp .ne 9, 3) := by decide +kernel
theorem dX7_rate_71 : decode cX7_rate 71 = .ok (.ldc2_w 186, 3) := by decide +kernel
theorem dX7_rate_74 : decode cX7_rate 74 = .ok (.goto 6, 3) := by decide +kernel
theorem dX7_rate_77 : decode cX7_rate 77 = .ok (.ldc2_w 188, 3) := by decide +kernel
theorem dX7_rate_80 : decode cX7_rate 80 = .ok (.ladd, 1) := by decide +kernel
theorem dX7_rate_81 : decode cX7_rate 81 = .ok (.putfield 176, 3) := by decide +kernel
theorem dX7_rate_84 : decode cX7_rate 84 = .ok (.aload_n 0, 1) := by decide +kernel
theorem dX7_rate_85 : decode cX7_rate 85 = .ok (.getfield 13, 3) := by decide +kernel
theorem dX7_rate_88 : decode cX7_rate 88 = .ok (.bipush 8, 2) := by decide +kernel
theorem dX7_rate_90 : decode cX7_rate 90 = .ok (.iload_n 2, 1) := by decide +kernel
theorem dX7_rate_91 : decode cX7_rate 91 = .ok (.iadd, 1) := by decide +kernel
theorem dX7_rate_92 : decode cX7_rate 92 = .ok (.iaload, 1) := by decide +kernel
theorem dX7_rate_93 : decode cX7_rate 93 = .ok (.istore_n 3, 1) := by decide +kernel
theorem dX7_rate_94 : decode cX7_rate 94 = .ok (.iload_n 3, 1) := by decide +kernel
theorem dX7_rate_95 : decode cX7_rate 95 = .ok (.aload_n 0, 1) := by decide +kernel
theorem dX7_rate_96 : decode cX7_rate 96 = .ok (.getfield 13, 3) := by decide +kernel
theorem dX7_rate_99 : decode cX7_rate 99 = .ok (.bipush 13, 2) := by decide +kernel
theorem dX7_rate_101 : decode cX7_rate 101 = .ok (.iload_n 2, 1) := by decide +kernel
theorem dX7_rate_102 : decode cX7_rate 102 = .ok (.iadd, 1) := by decide +kernel
theorem dX7_rate_103 : decode cX7_rate 103 = .ok (.iaload, 1) := by decide +kernel
theorem dX7_rate_104 : decode cX7_rate 104 = .ok (.iadd, 1) := by decide +kernel
theorem dX7_rate_105 : decode cX7_rate 105 = .ok (.istore 4, 2) := by decide +kernel
theorem dX7_rate_107 : decode cX7_rate 107 = .ok (.iload_n 3, 1) := by decide +kernel
theorem dX7_rate_108 : decode cX7_rate 108 = .ok (.aload_n 0, 1) := by decide +kernel
theorem dX7_rate_109 : decode cX7_rate 109 = .ok (.getfield 19, 3) := by decide +kernel
theorem dX7_rate_112 : decode cX7_rate 112 = .ok (.iconst 1, 1) := by decide +kernel
theorem dX7_rate_113 : decode cX7_rate 113 = .ok (.iaload, 1) := by decide +kernel
theorem dX7_rate_114 : decode cX7_rate 114 = .ok (.isub, 1) := by decide +kernel
theorem dX7_rate_115 : decode cX7_rate 115 = .ok (.istore 5, 2) := by decide +kernel
theorem dX7_rate_117 : decode cX7_rate 117 = .ok (.iload_n 1, 1) := by decide +kernel
theorem dX7_rate_118 : decode cX7_rate 118 = .ok (.ifCond .ne 7, 3) := by decide +kernel
theorem dX7_rate_121 : decode cX7_rate 121 = .ok (.iload_n 3, 1) := by decide +kernel
theorem dX7_rate_122 : decode cX7_rate 122 = .ok (.goto 55, 3) := by decide +kernel
theorem dX7_rate_125 : decode cX7_rate 125 = .ok (.iload_n 1, 1) := by decide +kernel
theorem dX7_rate_126 : decode cX7_rate 126 = .ok (.iconst 1, 1) := by decide +kernel
theorem dX7_rate_127 : decode cX7_rate 127 = .ok (.if_icmp .ne 8, 3) := by decide +kernel
theorem dX7_rate_130 : decode cX7_rate 130 = .ok (.iload 4, 2) := by decide +kernel
theorem dX7_rate_132 : decode cX7_rate 132 = .ok (.goto 45, 3) := by decide +kernel
theorem dX7_rate_135 : decode cX7_rate 135 = .ok (.iload_n 1, 1) := by decide +kernel
theorem dX7_rate_136 : decode cX7_rate 136 = .ok (.iconst 2, 1) := by decide +kernel
theorem dX7_rate_137 : decode cX7_rate 137 = .ok (.if_icmp .ne 8, 3) := by decide +kernel
theorem dX7_rate_140 : decode cX7_rate 140 = .ok (.iload 5, 2) := by decide +kernel
theorem dX7_rate_142 : decode cX7_rate 142 = .ok (.goto 35, 3) := by decide +kernel
theorem dX7_rate_145 : decode cX7_rate 145 = .ok (.iload_n 1, 1) := by decide +kernel
theorem dX7_rate_146 : decode cX7_rate 146 = .ok (.iconst 3, 1) := by decide +kernel
theorem dX7_rate_147 : decode cX7_rate 147 = .ok (.if_icmp .ne 10, 3) := by decide +kernel
theorem dX7_rate_150 : decode cX7_rate 150 = .ok (.iconst 2, 1) := by decide +kernel
theorem dX7_rate_151 : decode cX7_rate 151 = .ok (.iload 4, 2) := by decide +kernel
theorem dX7_rate_153 : decode cX7_rate 153 = .ok (.imul, 1) := by decide +kernel
theorem dX7_rate_154 : decode cX7_rate 154 = .ok (.goto 23, 3) := by decide +kernel
theorem dX7_rate_157 : decode cX7_rate 157 = .ok (.iload_n 1, 1) := by decide +kernel
theorem dX7_rate_158 : decode cX7_rate 158 = .ok (.iconst 4, 1) := by decide +kernel
theorem dX7_rate_159 : decode cX7_rate 159 = .ok (.if_icmp .ne 10, 3) := by decide +kernel
theorem dX7_rate_162 : decode cX7_rate 162 = .ok (.iload 5, 2) := by decide +kernel
theorem dX7_rate_164 : decode cX7_rate 164 = .ok (.iload_n 2, 1) := by decide +kernel
theorem dX7_rate_165 : decode cX7_rate 165 = .ok (.iadd, 1) := by decide +kernel
theorem dX7_rate_166 : decode cX7_rate 166 = .ok (.goto 11, 3) := by decide +kernel
theorem dX7_rate_169 : decode cX7_rate 169 = .ok (.iload_n 3, 1) := by decide +kernel
theorem dX7_rate_170 : decode cX7_rate 170 = .ok (.aload_n 0, 1) := by decide +kernel
theorem dX7_rate_171 : decode cX7_rate 171 = .ok (.getfield 19, 3) := by decide +kernel
theorem dX7_rate_174 : decode cX7_rate 174 = .ok (.iconst 0, 1) := by decide +kernel
theorem dX7_rate_175 : decode cX7_rate 175 = .ok (.iaload, 1) := by decide +kernel
theorem dX7_rate_176 : decode cX7_rate 176 = .ok (.iadd, 1) := by decide +kernel
theorem dX7_rate_177 : decode cX7_rate 177 = .ok (.ireturn, 1) := by decide +kernel
set_option maxRecDepth 20000 in
theorem ggX7_keep_X7_in : GoodIn wsX7_keep wsX7_in := goodIn_r _ [7] (by decide +kernel) (by decide +kernel)
set_option maxRecDepth 20000 in
theorem gX7_keep_X7_in : GoodIn wsX7_keep (va_wsS RX7 51 yX7_in wsX7_in) := goodIn_app (goodIn_of _ (by decide +kernel)) ggX7_keep_X7_in
theorem dX7_keep_0 : decode cX7_keep 0 = .ok (.iload_n 1, 1) := by decide +kernel
theorem dX7_keep_1 : decode cX7_keep 1 = .ok (.iconst 0, 1) := by decide +kernel
theorem dX7_keep_2 : decode cX7_keep 2 = .ok (.iconst 1, 1) := by decide +kernel
theorem dX7_keep_3 : decode cX7_keep 3 = .ok (.invokestatic 51, 3) := by decide +kernel
theorem dX7_keep_6 : decode cX7_keep 6 = .ok (.ifCond .ne 5, 3) := by decide +kernel
theorem dX7_keep_9 : decode cX7_keep 9 = .ok (.iconst (-1), 1) := by decide +kernel
theorem dX7_keep_10 : decode cX7_keep 10 = .ok (.ireturn, 1) := by decide +kernel
theorem dX7_keep_11 : decode cX7_keep 11 = .ok (.iconst 0, 1) := by decide +kernel
theorem dX7_keep_12 : decode cX7_keep 12 = .ok (.istore_n 2, 1) := by decide +kernel
theorem dX7_keep_13 : decode cX7_keep 13 = .ok (.iload_n 2, 1) := by decide +kernel
theorem dX7_keep_14 : decode cX7_keep 14 = .ok (.bipush 8, 2) := by decide +kernel
theorem dX7_keep_16 : decode cX7_keep 16 = .ok (.if_icmp .ge 26, 3) := by decide +kernel
theorem dX7_keep_19 : decode cX7_keep 19 = .ok (.aload_n 0, 1) := by decide +kernel
theorem dX7_keep_20 : decode cX7_keep 20 = .ok (.getfield 25, 3) := by decide +kernel
theorem dX7_keep_23 : decode cX7_keep 23 = .ok (.bipush 8, 2) := by decide +kernel
theorem dX7_keep_25 : decode cX7_keep 25 = .ok (.iload_n 1, 1) := by decide +kernel
theorem dX7_keep_26 : decode cX7_keep 26 = .ok (.imul, 1) := by decide +kernel
theorem dX7_keep_27 : decode cX7_keep 27 = .ok (.iload_n 2, 1) := by decide +kernel
theorem dX7_keep_28 : decode cX7_keep 28 = .ok (.iadd, 1) := by decide +kernel
theorem dX7_keep_29 : decode cX7_keep 29 = .ok (.aload_n 0, 1) := by decide +kernel
theorem dX7_keep_30 : decode cX7_keep 30 = .ok (.getfield 19, 3) := by decide +kernel
theorem dX7_keep_33 : decode cX7_keep 33 = .ok (.iload_n 2, 1) := by decide +kernel
theorem dX7_keep_34 : decode cX7_keep 34 = .ok (.iaload, 1) := by decide +kernel
theorem dX7_keep_35 : decode cX7_keep 35 = .ok (.iastore, 1) := by decide +kernel
theorem dX7_keep_36 : decode cX7_keep 36 = .ok (.iinc 2 1, 3) := by decide +kernel
theorem dX7_keep_39 : decode cX7_keep 39 = .ok (.goto (-26), 3) := by decide +kernel
theorem dX7_keep_42 : decode cX7_keep 42 = .ok (.aload_n 0, 1) := by decide +kernel
theorem dX7_keep_43 : decode cX7_keep 43 = .ok (.getfield 28, 3) := by decide +kernel
theorem dX7_keep_46 : decode cX7_keep 46 = .ok (.iload_n 1, 1) := by decide +kernel
theorem dX7_keep_47 : decode cX7_keep 47 = .ok (.iconst 1, 1) := by decide +kernel
theorem dX7_keep_48 : decode cX7_keep 48 = .ok (.bastore, 1) := by decide +kernel
theorem dX7_keep_49 : decode cX7_keep 49 = .ok (.aload_n 0, 1) := by decide +kernel
theorem dX7_keep_50 : decode cX7_keep 50 = .ok (.getfield 19, 3) := by decide +kernel
theorem dX7_keep_53 : decode cX7_keep 53 = .ok (.iconst 0, 1) := by decide +kernel
theorem dX7_keep_54 : decode cX7_keep 54 = .ok (.iaload, 1) := by decide +kernel
theorem dX7_keep_55 : decode cX7_keep 55 = .ok (.ireturn, 1) := by decide +kernel
set_option maxRecDepth 20000 in
theorem ggX7_back_X7_in : GoodIn wsX7_back wsX7_in := goodIn_r _ [8] (by decide +kernel) (by decide +kernel)
set_option maxRecDepth 20000 in
theorem gX7_back_X7_in : GoodIn wsX7_back (va_wsS RX7 51 yX7_in wsX7_in) := goodIn_app (goodIn_of _ (by decide +kernel)) ggX7_back_X7_in
theorem dX7_back_0 : decode cX7_back 0 = .ok (.iload_n 1, 1) := by decide +kernel
theorem dX7_back_1 : decode cX7_back 1 = .ok (.iconst 0, 1) := by decide +kernel
theorem dX7_back_2 : decode cX7_back 2 = .ok (.iconst 1, 1) := by decide +kernel
theorem dX7_back_3 : decode cX7_back 3 = .ok (.invokestatic 51, 3) := by decide +kernel
theorem dX7_back_6 : decode cX7_back 6 = .ok (.ifCond .ne 5, 3) := by decide +kernel
theorem dX7_back_9 : decode cX7_back 9 = .ok (.iconst (-1), 1) := by decide +kernel
theorem dX7_back_10 : decode cX7_back 10 = .ok (.ireturn, 1) := by decide +kernel
theorem dX7_back_11 : decode cX7_back 11 = .ok (.aload_n 0, 1) := by decide +kernel
theorem dX7_back_12 : decode cX7_back 12 = .ok (.getfield 28, 3) := by decide +kernel
theorem dX7_back_15 : decode cX7_back 15 = .ok (.iload_n 1, 1) := by decide +kernel
theorem dX7_back_16 : decode cX7_back 16 = .ok (.baload, 1) := by decide +kernel
theorem dX7_back_17 : decode cX7_back 17 = .ok (.ifCond .ne 6, 3) := by decide +kernel
theorem dX7_back_20 : decode cX7_back 20 = .ok (.bipush (-2), 2) := by decide +kernel
theorem dX7_back_22 : decode cX7_back 22 = .ok (.ireturn, 1) := by decide +kernel
theorem dX7_back_23 : decode cX7_back 23 = .ok (.iconst 0, 1) := by decide +kernel
theorem dX7_back_24 : decode cX7_back 24 = .ok (.istore_n 2, 1) := by decide +kernel
theorem dX7_back_25 : decode cX7_back 25 = .ok (.iload_n 2, 1) := by decide +kernel
theorem dX7_back_26 : decode cX7_back 26 = .ok (.bipush 8, 2) := by decide +kernel
theorem dX7_back_28 : decode cX7_back 28 = .ok (.if_icmp .ge 26, 3) := by decide +kernel
theorem dX7_back_31 : decode cX7_back 31 = .ok (.aload_n 0, 1) := by decide +kernel
theorem dX7_back_32 : decode cX7_back 32 = .ok (.getfield 19, 3) := by decide +kernel
theorem dX7_back_35 : decode cX7_back 35 = .ok (.iload_n 2, 1) := by decide +kernel
theorem dX7_back_36 : decode cX7_back 36 = .ok (.aload_n 0, 1) := by decide +kernel
theorem dX7_back_37 : decode cX7_back 37 = .ok (.getfield 25, 3) := by decide +kernel
theorem dX7_back_40 : decode cX7_back 40 = .ok (.bipush 8, 2) := by decide +kernel
theorem dX7_back_42 : decode cX7_back 42 = .ok (.iload_n 1, 1) := by decide +kernel
theorem dX7_back_43 : decode cX7_back 43 = .ok (.imul, 1) := by decide +kernel
theorem dX7_back_44 : decode cX7_back 44 = .ok (.iload_n 2, 1) := by decide +kernel
theorem dX7_back_45 : decode cX7_back 45 = .ok (.iadd, 1) := by decide +kernel
theorem dX7_back_46 : decode cX7_back 46 = .ok (.iaload, 1) := by decide +kernel
theorem dX7_back_47 : decode cX7_back 47 = .ok (.iastore, 1) := by decide +kernel
theorem dX7_back_48 : decode cX7_back 48 = .ok (.iinc 2 1, 3) := by decide +kernel
theorem dX7_back_51 : decode cX7_back 51 = .ok (.goto (-26), 3) := by decide +kernel
theorem dX7_back_54 : decode cX7_back 54 = .ok (.aload_n 0, 1) := by decide +kernel
theorem dX7_back_55 : decode cX7_back 55 = .ok (.iconst 0, 1) := by decide +kernel
theorem dX7_back_56 : decode cX7_back 56 = .ok (.putfield 95, 3) := by decide +kernel
theorem dX7_back_59 : decode cX7_back 59 = .ok (.aload_n 0, 1) := by decide +kernel
theorem dX7_back_60 : decode cX7_back 60 = .ok (.getfield 19, 3) := by decide +kernel
theorem dX7_back_63 : decode cX7_back 63 = .ok (.iconst 0, 1) := by decide +kernel
theorem dX7_back_64 : decode cX7_back 64 = .ok (.iaload, 1) := by decide +kernel
theorem dX7_back_65 : decode cX7_back 65 = .ok (.ireturn, 1) := by decide +kernel
theorem dX7_count_0 : decode cX7_count 0 = .ok (.iload_n 1, 1) := by decide +kernel
theorem dX7_count_1 : decode cX7_count 1 = .ok (.tableswitch 99 0 7 #[47, 54, 61, 68, 75, 82, 89, 94], 47) := by decide +kernel
theorem dX7_count_48 : decode cX7_count 48 = .ok (.aload_n 0, 1) := by decide +kernel
theorem dX7_count_49 : decode cX7_count 49 = .ok (.getfield 13, 3) := by decide +kernel
theorem dX7_count_52 : decode cX7_count 52 = .ok (.iconst 0, 1) := by decide +kernel
theorem dX7_count_53 : decode cX7_count 53 = .ok (.iaload, 1) := by decide +kernel
theorem dX7_count_54 : decode cX7_count 54 = .ok (.ireturn, 1) := by decide +kernel
theorem dX7_count_55 : decode cX7_count 55 = .ok (.aload_n 0, 1) := by decide +kernel
theorem dX7_count_56 : decode cX7_count 56 = .ok (.getfield 13, 3) := by decide +kernel
theorem dX7_count_59 : decode cX7_count 59 = .ok (.iconst 1, 1) := by decide +kernel
theorem dX7_count_60 : decode cX7_count 60 = .ok (.iaload, 1) := by decide +kernel
theorem dX7_count_61 : decode cX7_count 61 = .ok (.ireturn, 1) := by decide +kernel
theorem dX7_count_62 : decode cX7_count 62 = .ok (.aload_n 0, 1) := by decide +kernel
theorem dX7_count_63 : decode cX7_count 63 = .ok (.getfield 13, 3) := by decide +kernel
theorem dX7_count_66 : decode cX7_count 66 = .ok (.iconst 2, 1) := by decide +kernel
theorem dX7_count_67 : decode cX7_count 67 = .ok (.iaload, 1) := by decide +kernel
theorem dX7_count_68 : decode cX7_count 68 = .ok (.ireturn, 1) := by decide +kernel
theorem dX7_count_69 : decode cX7_count 69 = .ok (.aload_n 0, 1) := by decide +kernel
theorem dX7_count_70 : decode cX7_count 70 = .ok (.getfield 13, 3) := by decide +kernel
theorem dX7_count_73 : decode cX7_count 73 = .ok (.iconst 3, 1) := by decide +kernel
theorem dX7_count_74 : decode cX7_count 74 = .ok (.iaload, 1) := by decide +kernel
theorem dX7_count_75 : decode cX7_count 75 = .ok (.ireturn, 1) := by decide +kernel
theorem dX7_count_76 : decode cX7_count 76 = .ok (.aload_n 0, 1) := by decide +kernel
theorem dX7_count_77 : decode cX7_count 77 = .ok (.getfield 13, 3) := by decide +kernel
theorem dX7_count_80 : decode cX7_count 80 = .ok (.iconst 4, 1) := by decide +kernel
theorem dX7_count_81 : decode cX7_count 81 = .ok (.iaload, 1) := by decide +kernel
theorem dX7_count_82 : decode cX7_count 82 = .ok (.ireturn, 1) := by decide +kernel
theorem dX7_count_83 : decode cX7_count 83 = .ok (.aload_n 0, 1) := by decide +kernel
theorem dX7_count_84 : decode cX7_count 84 = .ok (.getfield 13, 3) := by decide +kernel
theorem dX7_count_87 : decode cX7_count 87 = .ok (.iconst 5, 1) := by decide +kernel
theorem dX7_count_88 : decode cX7_count 88 = .ok (.iaload, 1) := by decide +kernel
theorem dX7_count_89 : decode cX7_count 89 = .ok (.ireturn, 1) := by decide +kernel
theorem dX7_count_90 : decode cX7_count 90 = .ok (.aload_n 0, 1) := by decide +kernel
theorem dX7_count_91 : decode cX7_count 91 = .ok (.getfield 98, 3) := by decide +kernel
theorem dX7_count_94 : decode cX7_count 94 = .ok (.ireturn, 1) := by decide +kernel
theorem dX7_count_95 : decode cX7_count 95 = .ok (.aload_n 0, 1) := by decide +kernel
theorem dX7_count_96 : decode cX7_count 96 = .ok (.getfield 55, 3) := by decide +kernel
theorem dX7_count_99 : decode cX7_count 99 = .ok (.ireturn, 1) := by decide +kernel
theorem dX7_count_100 : decode cX7_count 100 = .ok (.iconst (-1), 1) := by decide +kernel
theorem dX7_count_101 : decode cX7_count 101 = .ok (.ireturn, 1) := by decide +kernel
theorem dX7_trace_0 : decode cX7_trace 0 = .ok (.aload_n 0, 1) := by decide +kernel
theorem dX7_trace_1 : decode cX7_trace 1 = .ok (.getfield 176, 3) := by decide +kernel
theorem dX7_trace_4 : decode cX7_trace 4 = .ok (.lreturn, 1) := by decide +kernel
theorem dJ6_bitCount_0f7a4_0 : decode cJ6_bitCount_0f7a4 0 = .ok (.iload_n 0, 1) := by decide +kernel
theorem dJ6_bitCount_0f7a4_1 : decode cJ6_bitCount_0f7a4 1 = .ok (.iload_n 0, 1) := by decide +kernel
