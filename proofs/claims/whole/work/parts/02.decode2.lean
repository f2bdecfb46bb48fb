theorem dX6_bestWoman_51 : decode cX6_bestWoman 51 = .ok (.iinc 3 1, 3) := by decide +kernel
theorem dX6_bestWoman_54 : decode cX6_bestWoman 54 = .ok (.goto (-47), 3) := by decide +kernel
theorem dX6_bestWoman_57 : decode cX6_bestWoman 57 = .ok (.iload_n 1, 1) := by decide +kernel
theorem dX6_bestWoman_58 : decode cX6_bestWoman 58 = .ok (.ireturn, 1) := by decide +kernel
set_option maxRecDepth 20000 in
theorem ggX6_farthestWith_X6_reachNow : GoodIn wsX6_farthestWith wsX6_reachNow := goodIn_r _ [11, 1, 12, 13, 14, 15, 16, 17, 18, 19, 20, 21, 22, 23, 24, 25, 26, 5, 27, 28, 29, 30, 31, 32, 33, 34, 35, 36, 37, 38, 39, 40, 41, 42, 43, 10, 44, 45, 46, 47, 48, 49, 50, 51, 52, 53, 60, 61, 62, 63, 64, 54, 55, 56, 57, 58, 59] (by decide +kernel) (by decide +kernel)
set_option maxRecDepth 20000 in
theorem gX6_farthestWith_X6_reachNow : GoodIn wsX6_farthestWith (wsV RX6 176 RX6 yX6_reachNow wsX6_reachNow) := goodIn_app (goodIn_of _ (by decide +kernel)) ggX6_farthestWith_X6_reachNow
theorem dX6_farthestWith_0 : decode cX6_farthestWith 0 = .ok (.iconst 0, 1) := by decide +kernel
theorem dX6_farthestWith_1 : decode cX6_farthestWith 1 = .ok (.istore_n 2, 1) := by decide +kernel
theorem dX6_farthestWith_2 : decode cX6_farthestWith 2 = .ok (.iconst 0, 1) := by decide +kernel
theorem dX6_farthestWith_3 : decode cX6_farthestWith 3 = .ok (.istore_n 3, 1) := by decide +kernel
theorem dX6_farthestWith_4 : decode cX6_farthestWith 4 = .ok (.iload_n 3, 1) := by decide +kernel
theorem dX6_farthestWith_5 : decode cX6_farthestWith 5 = .ok (.aload_n 0, 1) := by decide +kernel
theorem dX6_farthestWith_6 : decode cX6_farthestWith 6 = .ok (.getfield 53, 3) := by decide +kernel
theorem dX6_farthestWith_9 : decode cX6_farthestWith 9 = .ok (.getfield 241, 3) := by decide +kernel
theorem dX6_farthestWith_12 : decode cX6_farthestWith 12 = .ok (.if_icmp .ge 20, 3) := by decide +kernel
theorem dX6_farthestWith_15 : decode cX6_farthestWith 15 = .ok (.iload_n 2, 1) := by decide +kernel
theorem dX6_farthestWith_16 : decode cX6_farthestWith 16 = .ok (.aload_n 0, 1) := by decide +kernel
theorem dX6_farthestWith_17 : decode cX6_farthestWith 17 = .ok (.iload_n 3, 1) := by decide +kernel
theorem dX6_farthestWith_18 : decode cX6_farthestWith 18 = .ok (.iload_n 1, 1) := by decide +kernel
theorem dX6_farthestWith_19 : decode cX6_farthestWith 19 = .ok (.invokevirtual 176, 3) := by decide +kernel
theorem dX6_farthestWith_22 : decode cX6_farthestWith 22 = .ok (.invokestatic 160, 3) := by decide +kernel
theorem dX6_farthestWith_25 : decode cX6_farthestWith 25 = .ok (.istore_n 2, 1) := by decide +kernel
theorem dX6_farthestWith_26 : decode cX6_farthestWith 26 = .ok (.iinc 3 1, 3) := by decide +kernel
theorem dX6_farthestWith_29 : decode cX6_farthestWith 29 = .ok (.goto (-25), 3) := by decide +kernel
theorem dX6_farthestWith_32 : decode cX6_farthestWith 32 = .ok (.iload_n 2, 1) := by decide +kernel
theorem dX6_farthestWith_33 : decode cX6_farthestWith 33 = .ok (.ireturn, 1) := by decide +kernel
set_option maxRecDepth 20000 in
theorem ggX6_lookAhead_X1_workOut : GoodIn wsX6_lookAhead wsX1_workOut := goodIn_r _ [8, 9, 10, 11, 12, 7, 13, 14, 15, 16, 17, 18, 19, 20, 21, 22, 23, 24, 25, 26, 27, 28, 29, 30, 31, 32, 33, 34, 35, 36, 37, 38, 39, 40, 41, 42, 43, 44, 45, 46, 47, 48, 49, 50, 51, 52, 53, 54, 55, 56, 57, 58, 59, 60, 61, 62, 63, 64, 65, 66, 67, 68, 69, 70, 71, 72, 73, 74, 75, 76, 77, 87, 88, 89, 90, 91, 92, 93, 94, 95, 96] (by decide +kernel) (by decide +kernel)
set_option maxRecDepth 20000 in
theorem gX6_lookAhead_X1_workOut : GoodIn wsX6_lookAhead (wsV RX6 257 RX1 yX1_workOut wsX1_workOut) := goodIn_app (goodIn_of _ (by decide +kernel)) ggX6_lookAhead_X1_workOut
theorem dX6_lookAhead_0 : decode cX6_lookAhead 0 = .ok (.aload_n 0, 1) := by decide +kernel
theorem dX6_lookAhead_1 : decode cX6_lookAhead 1 = .ok (.getfield 40, 3) := by decide +kernel
theorem dX6_lookAhead_4 : decode cX6_lookAhead 4 = .ok (.getfield 83, 3) := by decide +kernel
theorem dX6_lookAhead_7 : decode cX6_lookAhead 7 = .ok (.ifCond .ne 14, 3) := by decide +kernel
theorem dX6_lookAhead_10 : decode cX6_lookAhead 10 = .ok (.aload_n 0, 1) := by decide +kernel
theorem dX6_lookAhead_11 : decode cX6_lookAhead 11 = .ok (.getfield 40, 3) := by decide +kernel
theorem dX6_lookAhead_14 : decode cX6_lookAhead 14 = .ok (.aload_n 0, 1) := by decide +kernel
theorem dX6_lookAhead_15 : decode cX6_lookAhead 15 = .ok (.getfield 53, 3) := by decide +kernel
theorem dX6_lookAhead_18 : decode cX6_lookAhead 18 = .ok (.invokevirtual 257, 3) := by decide +kernel
theorem dX6_lookAhead_21 : decode cX6_lookAhead 21 = .ok (.return_, 1) := by decide +kernel
set_option maxRecDepth 20000 in
theorem ggX6_rateOfGoodbye_X5_tearsOf : GoodIn wsX6_rateOfGoodbye wsX5_tearsOf := goodIn_r _ [7, 8, 9, 10, 11, 6, 12, 13, 23, 24, 25, 26, 27, 28] (by decide +kernel) (by decide +kernel)
set_option maxRecDepth 20000 in
theorem gX6_rateOfGoodbye_X5_tearsOf : GoodIn wsX6_rateOfGoodbye (wsV RX6 91 RX5 yX5_tearsOf wsX5_tearsOf) := goodIn_app (goodIn_of _ (by decide +kernel)) ggX6_rateOfGoodbye_X5_tearsOf
theorem dX6_rateOfGoodbye_0 : decode cX6_rateOfGoodbye 0 = .ok (.aload_n 0, 1) := by decide +kernel
theorem dX6_rateOfGoodbye_1 : decode cX6_rateOfGoodbye 1 = .ok (.dup, 1) := by decide +kernel
theorem dX6_rateOfGoodbye_2 : decode cX6_rateOfGoodbye 2 = .ok (.getfield 60, 3) := by decide +kernel
theorem dX6_rateOfGoodbye_5 : decode cX6_rateOfGoodbye 5 = .ok (.lconst 1, 1) := by decide +kernel
theorem dX6_rateOfGoodbye_6 : decode cX6_rateOfGoodbye 6 = .ok (.ladd, 1) := by decide +kernel
theorem dX6_rateOfGoodbye_7 : decode cX6_rateOfGoodbye 7 = .ok (.putfield 60, 3) := by decide +kernel
theorem dX6_rateOfGoodbye_10 : decode cX6_rateOfGoodbye 10 = .ok (.aload_n 0, 1) := by decide +kernel
theorem dX6_rateOfGoodbye_11 : decode cX6_rateOfGoodbye 11 = .ok (.getfield 53, 3) := by decide +kernel
theorem dX6_rateOfGoodbye_14 : decode cX6_rateOfGoodbye 14 = .ok (.iload_n 1, 1) := by decide +kernel
theorem dX6_rateOfGoodbye_15 : decode cX6_rateOfGoodbye 15 = .ok (.invokevirtual 91, 3) := by decide +kernel
theorem dX6_rateOfGoodbye_18 : decode cX6_rateOfGoodbye 18 = .ok (.ireturn, 1) := by decide +kernel
set_option maxRecDepth 20000 in
theorem ggX6_rateOfSlow_X6_rateOfGoodbye : GoodIn wsX6_rateOfSlow wsX6_rateOfGoodbye := goodIn_r _ [8, 1, 3, 9, 10, 11, 12, 13, 14, 15, 16, 17, 18, 19, 25, 26, 27, 28, 29, 30, 31, 32, 33, 34, 35, 36, 37, 38, 39] (by decide +kernel) (by decide +kernel)
set_option maxRecDepth 20000 in
theorem gX6_rateOfSlow_X6_rateOfGoodbye : GoodIn wsX6_rateOfSlow (wsV RX6 223 RX6 yX6_rateOfGoodbye wsX6_rateOfGoodbye) := goodIn_app (goodIn_of _ (by decide +kernel)) ggX6_rateOfSlow_X6_rateOfGoodbye
set_option maxRecDepth 20000 in
theorem ggX6_rateOfSlow_X5_gainOf : GoodIn wsX6_rateOfSlow wsX5_gainOf := goodIn_r _ [23, 24, 15, 16, 17, 12, 18, 19, 34, 35, 36, 37, 38, 39] (by decide +kernel) (by decide +kernel)
set_option maxRecDepth 20000 in
theorem gX6_rateOfSlow_X5_gainOf : GoodIn wsX6_rateOfSlow (wsV RX6 94 RX5 yX5_gainOf wsX5_gainOf) := goodIn_app (goodIn_of _ (by decide +kernel)) ggX6_rateOfSlow_X5_gainOf
theorem dX6_rateOfSlow_0 : decode cX6_rateOfSlow 0 = .ok (.aload_n 0, 1) := by decide +kernel
theorem dX6_rateOfSlow_1 : decode cX6_rateOfSlow 1 = .ok (.dup, 1) := by decide +kernel
theorem dX6_rateOfSlow_2 : decode cX6_rateOfSlow 2 = .ok (.getfield 60, 3) := by decide +kernel
theorem dX6_rateOfSlow_5 : decode cX6_rateOfSlow 5 = .ok (.ldc2_w 260, 3) := by decide +kernel
theorem dX6_rateOfSlow_8 : decode cX6_rateOfSlow 8 = .ok (.ladd, 1) := by decide +kernel
theorem dX6_rateOfSlow_9 : decode cX6_rateOfSlow 9 = .ok (.putfield 60, 3) := by decide +kernel
theorem dX6_rateOfSlow_12 : decode cX6_rateOfSlow 12 = .ok (.aload_n 0, 1) := by decide +kernel
theorem dX6_rateOfSlow_13 : decode cX6_rateOfSlow 13 = .ok (.iload_n 1, 1) := by decide +kernel
theorem dX6_rateOfSlow_14 : decode cX6_rateOfSlow 14 = .ok (.invokevirtual 223, 3) := by decide +kernel
theorem dX6_rateOfSlow_17 : decode cX6_rateOfSlow 17 = .ok (.aload_n 0, 1) := by decide +kernel
theorem dX6_rateOfSlow_18 : decode cX6_rateOfSlow 18 = .ok (.getfield 53, 3) := by decide +kernel
theorem dX6_rateOfSlow_21 : decode cX6_rateOfSlow 21 = .ok (.iload_n 1, 1) := by decide +kernel
theorem dX6_rateOfSlow_22 : decode cX6_rateOfSlow 22 = .ok (.invokevirtual 94, 3) := by decide +kernel
theorem dX6_rateOfSlow_25 : decode cX6_rateOfSlow 25 = .ok (.iadd, 1) := by decide +kernel
theorem dX6_rateOfSlow_26 : decode cX6_rateOfSlow 26 = .ok (.ireturn, 1) := by decide +kernel
set_option maxRecDepth 20000 in
theorem ggX6_rateOfQuick_X6_rateOfGoodbye : GoodIn wsX6_rateOfQuick wsX6_rateOfGoodbye := goodIn_r _ [9, 1, 10, 11, 12, 13, 14, 15, 16, 17, 18, 19, 20, 21, 22, 23, 24, 25, 26, 27, 28, 29, 30, 36, 37, 38, 39, 40, 41] (by decide +kernel) (by decide +kernel)
set_option maxRecDepth 20000 in
theorem gX6_rateOfQuick_X6_rateOfGoodbye : GoodIn wsX6_rateOfQuick (wsV RX6 223 RX6 yX6_rateOfGoodbye wsX6_rateOfGoodbye) := goodIn_app (goodIn_of _ (by decide +kernel)) ggX6_rateOfQuick_X6_rateOfGoodbye
theorem dX6_rateOfQuick_0 : decode cX6_rateOfQuick 0 = .ok (.aload_n 0, 1) := by decide +kernel
theorem dX6_rateOfQuick_1 : decode cX6_rateOfQuick 1 = .ok (.dup, 1) := by decide +kernel
theorem dX6_rateOfQuick_2 : decode cX6_rateOfQuick 2 = .ok (.getfield 60, 3) := by decide +kernel
theorem dX6_rateOfQuick_5 : decode cX6_rateOfQuick 5 = .ok (.ldc2_w 262, 3) := by decide +kernel
theorem dX6_rateOfQuick_8 : decode cX6_rateOfQuick 8 = .ok (.ladd, 1) := by decide +kernel
theorem dX6_rateOfQuick_9 : decode cX6_rateOfQuick 9 = .ok (.putfield 60, 3) := by decide +kernel
theorem dX6_rateOfQuick_12 : decode cX6_rateOfQuick 12 = .ok (.aload_n 0, 1) := by decide +kernel
theorem dX6_rateOfQuick_13 : decode cX6_rateOfQuick 13 = .ok (.iload_n 1, 1) := by decide +kernel
theorem dX6_rateOfQuick_14 : decode cX6_rateOfQuick 14 = .ok (.invokevirtual 223, 3) := by decide +kernel
theorem dX6_rateOfQuick_17 : decode cX6_rateOfQuick 17 = .ok (.aload_n 0, 1) := by decide +kernel
theorem dX6_rateOfQuick_18 : decode cX6_rateOfQuick 18 = .ok (.getfield 19, 3) := by decide +kernel
theorem dX6_rateOfQuick_21 : decode cX6_rateOfQuick 21 = .ok (.getfield 113, 3) := by decide +kernel
theorem dX6_rateOfQuick_24 : decode cX6_rateOfQuick 24 = .ok (.isub, 1) := by decide +kernel
theorem dX6_rateOfQuick_25 : decode cX6_rateOfQuick 25 = .ok (.ireturn, 1) := by decide +kernel
set_option maxRecDepth 20000 in
theorem ggX6_rateOfWave_X6_rateOfSlow : GoodIn wsX6_rateOfWave wsX6_rateOfSlow := goodIn_r _ [7, 1, 8, 9, 10, 11, 12, 6, 13, 14, 15, 16, 17, 18, 19, 20, 21, 22, 23, 24, 25, 26, 27, 28, 29, 30, 31, 32, 33, 34, 35, 36, 37, 38, 39, 40, 41, 42, 43, 44] (by decide +kernel) (by decide +kernel)
set_option maxRecDepth 20000 in
theorem gX6_rateOfWave_X6_rateOfSlow : GoodIn wsX6_rateOfWave (wsV RX6 226 RX6 yX6_rateOfSlow wsX6_rateOfSlow) := goodIn_app (goodIn_of _ (by decide +kernel)) ggX6_rateOfWave_X6_rateOfSlow
theorem dX6_rateOfWave_0 : decode cX6_rateOfWave 0 = .ok (.aload_n 0, 1) := by decide +kernel
theorem dX6_rateOfWave_1 : decode cX6_rateOfWave 1 = .ok (.dup, 1) := by decide +kernel
theorem dX6_rateOfWave_2 : decode cX6_rateOfWave 2 = .ok (.getfield 60, 3) := by decide +kernel
theorem dX6_rateOfWave_5 : decode cX6_rateOfWave 5 = .ok (.ldc2_w 264, 3) := by decide +kernel
theorem dX6_rateOfWave_8 : decode cX6_rateOfWave 8 = .ok (.ladd, 1) := by decide +kernel
theorem dX6_rateOfWave_9 : decode cX6_rateOfWave 9 = .ok (.putfield 60, 3) := by decide +kernel
theorem dX6_rateOfWave_12 : decode cX6_rateOfWave 12 = .ok (.iconst 2, 1) := by decide +kernel
theorem dX6_rateOfWave_13 : decode cX6_rateOfWave 13 = .ok (.aload_n 0, 1) := by decide +kernel
theorem dX6_rateOfWave_14 : decode cX6_rateOfWave 14 = .ok (.iload_n 1, 1) := by decide +kernel
theorem dX6_rateOfWave_15 : decode cX6_rateOfWave 15 = .ok (.invokevirtual 226, 3) := by decide +kernel
theorem dX6_rateOfWave_18 : decode cX6_rateOfWave 18 = .ok (.imul, 1) := by decide +kernel
theorem dX6_rateOfWave_19 : decode cX6_rateOfWave 19 = .ok (.ireturn, 1) := by decide +kernel
set_option maxRecDepth 20000 in
theorem ggX6_rateOfUnseen_X6_rateOfQuick : GoodIn wsX6_rateOfUnseen wsX6_rateOfQuick := goodIn_r _ [7, 1, 8, 9, 10, 11, 12, 13, 6, 14, 15, 16, 17, 18, 19, 20, 21, 22, 23, 24, 25, 26, 27, 28, 29, 30, 31, 32, 33, 34, 35, 36, 37, 38, 39, 40, 41, 42, 43, 44, 45, 46] (by decide +kernel) (by decide +kernel)
set_option maxRecDepth 20000 in
theorem gX6_rateOfUnseen_X6_rateOfQuick : GoodIn wsX6_rateOfUnseen (wsV RX6 229 RX6 yX6_rateOfQuick wsX6_rateOfQuick) := goodIn_app (goodIn_of _ (by decide +kernel)) ggX6_rateOfUnseen_X6_rateOfQuick
theorem dX6_rateOfUnseen_0 : decode cX6_rateOfUnseen 0 = .ok (.aload_n 0, 1) := by decide +kernel
theorem dX6_rateOfUnseen_1 : decode cX6_rateOfUnseen 1 = .ok (.dup, 1) := by decide +kernel
theorem dX6_rateOfUnseen_2 : decode cX6_rateOfUnseen 2 = .ok (.getfield 60, 3) := by decide +kernel
theorem dX6_rateOfUnseen_5 : decode cX6_rateOfUnseen 5 = .ok (.ldc2_w 266, 3) := by decide +kernel
theorem dX6_rateOfUnseen_8 : decode cX6_rateOfUnseen 8 = .ok (.ladd, 1) := by decide +kernel
theorem dX6_rateOfUnseen_9 : decode cX6_rateOfUnseen 9 = .ok (.putfield 60, 3) := by decide +kernel
theorem dX6_rateOfUnseen_12 : decode cX6_rateOfUnseen 12 = .ok (.aload_n 0, 1) := by decide +kernel
theorem dX6_rateOfUnseen_13 : decode cX6_rateOfUnseen 13 = .ok (.iload_n 1, 1) := by decide +kernel
theorem dX6_rateOfUnseen_14 : decode cX6_rateOfUnseen 14 = .ok (.invokevirtual 229, 3) := by decide +kernel
theorem dX6_rateOfUnseen_17 : decode cX6_rateOfUnseen 17 = .ok (.iload_n 1, 1) := by decide +kernel
theorem dX6_rateOfUnseen_18 : decode cX6_rateOfUnseen 18 = .ok (.iadd, 1) := by decide +kernel
theorem dX6_rateOfUnseen_19 : decode cX6_rateOfUnseen 19 = .ok (.ireturn, 1) := by decide +kernel
set_option maxRecDepth 20000 in
theorem ggX6_rateOfKiss_X6_rateOfGoodbye : GoodIn wsX6_rateOfKiss wsX6_rateOfGoodbye := goodIn_r _ [9, 1, 10, 11, 12, 13, 14, 15, 16, 17, 18, 19, 20, 21, 22, 23, 24, 25, 26, 27, 28, 29, 30, 36, 37, 38, 39, 40, 41] (by decide +kernel) (by decide +kernel)
set_option maxRecDepth 20000 in
theorem gX6_rateOfKiss_X6_rateOfGoodbye : GoodIn wsX6_rateOfKiss (wsV RX6 223 RX6 yX6_rateOfGoodbye wsX6_rateOfGoodbye) := goodIn_app (goodIn_of _ (by decide +kernel)) ggX6_rateOfKiss_X6_rateOfGoodbye
theorem dX6_rateOfKiss_0 : decode cX6_rateOfKiss 0 = .ok (.aload_n 0, 1) := by decide +kernel
theorem dX6_rateOfKiss_1 : decode cX6_rateOfKiss 1 = .ok (.dup, 1) := by decide +kernel
theorem dX6_rateOfKiss_2 : decode cX6_rateOfKiss 2 = .ok (.getfield 60, 3) := by decide +kernel
theorem dX6_rateOfKiss_5 : decode cX6_rateOfKiss 5 = .ok (.ldc2_w 268, 3) := by decide +kernel
theorem dX6_rateOfKiss_8 : decode cX6_rateOfKiss 8 = .ok (.ladd, 1) := by decide +kernel
theorem dX6_rateOfKiss_9 : decode cX6_rateOfKiss 9 = .ok (.putfield 60, 3) := by decide +kernel
theorem dX6_rateOfKiss_12 : decode cX6_rateOfKiss 12 = .ok (.aload_n 0, 1) := by decide +kernel
theorem dX6_rateOfKiss_13 : decode cX6_rateOfKiss 13 = .ok (.iload_n 1, 1) := by decide +kernel
theorem dX6_rateOfKiss_14 : decode cX6_rateOfKiss 14 = .ok (.invokevirtual 223, 3) := by decide +kernel
theorem dX6_rateOfKiss_17 : decode cX6_rateOfKiss 17 = .ok (.aload_n 0, 1) := by decide +kernel
theorem dX6_rateOfKiss_18 : decode cX6_rateOfKiss 18 = .ok (.getfield 19, 3) := by decide +kernel
theorem dX6_rateOfKiss_21 : decode cX6_rateOfKiss 21 = .ok (.getfield 109, 3) := by decide +kernel
theorem dX6_rateOfKiss_24 : decode cX6_rateOfKiss 24 = .ok (.iadd, 1) := by decide +kernel
theorem dX6_rateOfKiss_25 : decode cX6_rateOfKiss 25 = .ok (.ireturn, 1) := by decide +kernel
theorem dX6_beyondTrust_0 : decode cX6_beyondTrust 0 = .ok (.iconst 0, 1) := by decide +kernel
theorem dX6_beyondTrust_1 : decode cX6_beyondTrust 1 = .ok (.iload_n 0, 1) := by decide +kernel
theorem dX6_beyondTrust_2 : decode cX6_beyondTrust 2 = .ok (.iconst 2, 1) := by decide +kernel
theorem dX6_beyondTrust_3 : decode cX6_beyondTrust 3 = .ok (.iload_n 1, 1) := by decide +kernel
theorem dX6_beyondTrust_4 : decode cX6_beyondTrust 4 = .ok (.imul, 1) := by decide +kernel
theorem dX6_beyondTrust_5 : decode cX6_beyondTrust 5 = .ok (.isub, 1) := by decide +kernel
theorem dX6_beyondTrust_6 : decode cX6_beyondTrust 6 = .ok (.invokestatic 160, 3) := by decide +kernel
theorem dX6_beyondTrust_9 : decode cX6_beyondTrust 9 = .ok (.ireturn, 1) := by decide +kernel
theorem dX6_withinMinutes_0 : decode cX6_withinMinutes 0 = .ok (.iconst 0, 1) := by decide +kernel
theorem dX6_withinMinutes_1 : decode cX6_withinMinutes 1 = .ok (.bipush 60, 2) := by decide +kernel
theorem dX6_withinMinutes_3 : decode cX6_withinMinutes 3 = .ok (.iload_n 0, 1) := by decide +kernel
theorem dX6_withinMinutes_4 : decode cX6_withinMinutes 4 = .ok (.invokestatic 270, 3) := by decide +kernel
theorem dX6_withinMinutes_7 : decode cX6_withinMinutes 7 = .ok (.invokestatic 160, 3) := by decide +kernel
theorem dX6_withinMinutes_10 : decode cX6_withinMinutes 10 = .ok (.ireturn, 1) := by decide +kernel
theorem dX6_quotient_0 : decode cX6_quotient 0 = .ok (.iload_n 1, 1) := by decide +kernel
theorem dX6_quotient_1 : decode cX6_quotient 1 = .ok (.iconst 1, 1) := by decide +kernel
theorem dX6_quotient_2 : decode cX6_quotient 2 = .ok (.if_icmp .ge 7, 3) := by decide +kernel
theorem dX6_quotient_5 : decode cX6_quotient 5 = .ok (.iconst 0, 1) := by decide +kernel
theorem dX6_quotient_6 : decode cX6_quotient 6 = .ok (.goto 6, 3) := by decide +kernel
theorem dX6_quotient_9 : decode cX6_quotient 9 = .ok (.iload_n 0, 1) := by decide +kernel
theorem dX6_quotient_10 : decode cX6_quotient 10 = .ok (.iload_n 1, 1) := by decide +kernel
theorem dX6_quotient_11 : decode cX6_quotient 11 = .ok (.idiv, 1) := by decide +kernel
theorem dX6_quotient_12 : decode cX6_quotient 12 = .ok (.ireturn, 1) := by decide +kernel
theorem dX6_greatestDivisor_0 : decode cX6_greatestDivisor 0 = .ok (.iload_n 0, 1) := by decide +kernel
theorem dX6_greatestDivisor_1 : decode cX6_greatestDivisor 1 = .ok (.istore_n 2, 1) := by decide +kernel
theorem dX6_greatestDivisor_2 : decode cX6_greatestDivisor 2 = .ok (.iload_n 1, 1) := by decide +kernel
theorem dX6_greatestDivisor_3 : decode cX6_greatestDivisor 3 = .ok (.istore_n 3, 1) := by decide +kernel
theorem dX6_greatestDivisor_4 : decode cX6_greatestDivisor 4 = .ok (.iconst 0, 1) := by decide +kernel
theorem dX6_greatestDivisor_5 : decode cX6_greatestDivisor 5 = .ok (.istore 4, 2) := by decide +kernel
theorem dX6_greatestDivisor_7 : decode cX6_greatestDivisor 7 = .ok (.iload 4, 2) := by decide +kernel
theorem dX6_greatestDivisor_9 : decode cX6_greatestDivisor 9 = .ok (.bipush 64, 2) := by decide +kernel
theorem dX6_greatestDivisor_11 : decode cX6_greatestDivisor 11 = .ok (.if_icmp .ge 23, 3) := by decide +kernel
theorem dX6_greatestDivisor_14 : decode cX6_greatestDivisor 14 = .ok (.iload_n 3, 1) := by decide +kernel
theorem dX6_greatestDivisor_15 : decode cX6_greatestDivisor 15 = .ok (.ifCond .eq 19, 3) := by decide +kernel
theorem dX6_greatestDivisor_18 : decode cX6_greatestDivisor 18 = .ok (.iload_n 2, 1) := by decide +kernel
theorem dX6_greatestDivisor_19 : decode cX6_greatestDivisor 19 = .ok (.iload_n 3, 1) := by decide +kernel
theorem dX6_greatestDivisor_20 : decode cX6_greatestDivisor 20 = .ok (.irem, 1) := by decide +kernel
theorem dX6_greatestDivisor_21 : decode cX6_greatestDivisor 21 = .ok (.istore 5, 2) := by decide +kernel
theorem dX6_greatestDivisor_23 : decode cX6_greatestDivisor 23 = .ok (.iload_n 3, 1) := by decide +kernel
theorem dX6_greatestDivisor_24 : decode cX6_greatestDivisor 24 = .ok (.istore_n 2, 1) := by decide +kernel
theorem dX6_greatestDivisor_25 : decode cX6_greatestDivisor 25 = .ok (.iload 5, 2) := by decide +kernel
theorem dX6_greatestDivisor_27 : decode cX6_greatestDivisor 27 = .ok (.istore_n 3, 1) := by decide +kernel
theorem dX6_greatestDivisor_28 : decode cX6_greatestDivisor 28 = .ok (.iinc 4 1, 3) := by decide +kernel
theorem dX6_greatestDivisor_31 : decode cX6_greatestDivisor 31 = .ok (.goto (-24), 3) := by decide +kernel
theorem dX6_greatestDivisor_34 : decode cX6_greatestDivisor 34 = .ok (.iload_n 2, 1) := by decide +kernel
theorem dX6_greatestDivisor_35 : decode cX6_greatestDivisor 35 = .ok (.ireturn, 1) := by decide +kernel
set_option maxRecDepth 20000 in
theorem ggX7_init_X7_reads : GoodIn wsX7_init wsX7_reads := goodIn_r _ [21, 7, 22, 23, 24, 25, 26, 20, 27, 28, 29, 5, 30, 31, 32, 33, 34, 35, 36, 37, 38, 39, 40, 41, 42, 43, 44, 45, 46, 47, 48, 49, 50, 51, 52, 53, 54, 55, 62, 63, 64, 65, 66, 67, 68, 69, 70, 71, 72, 73, 74, 75, 76, 77, 78, 79, 80] (by decide +kernel) (by decide +kernel)
set_option maxRecDepth 20000 in
theorem gX7_init_X7_reads : GoodIn wsX7_init (wsV RX7 44 RX7 yX7_reads wsX7_reads) := goodIn_app (goodIn_of _ (by decide +kernel)) ggX7_init_X7_reads
set_option maxRecDepth 20000 in
theorem ggX7_init_X7_begins : GoodIn wsX7_init wsX7_begins := goodIn_r _ [59, 6, 7, 8, 60, 61, 12, 62, 63, 64, 65, 66, 67, 68, 69, 70, 71, 72, 73, 74, 75, 76, 77, 78, 79, 80] (by decide +kernel) (by decide +kernel)
set_option maxRecDepth 20000 in
theorem gX7_init_X7_begins : GoodIn wsX7_init (wsV RX7 48 RX7 yX7_begins wsX7_begins) := goodIn_app (goodIn_of _ (by decide +kernel)) ggX7_init_X7_begins
theorem dX7_init_0 : decode cX7_init 0 = .ok (.aload_n 0, 1) := by decide +kernel
theorem dX7_init_1 : decode cX7_init 1 = .ok (.invokespecial 1, 3) := by decide +kernel
theorem dX7_init_4 : decode cX7_init 4 = .ok (.aload_n 0, 1) := by decide +kernel
theorem dX7_init_5 : decode cX7_init 5 = .ok (.bipush 120, 2) := by decide +kernel
theorem dX7_init_7 : decode cX7_init 7 = .ok (.newarray .int, 2) := by decide +kernel
theorem dX7_init_9 : decode cX7_init 9 = .ok (.putfield 7, 3) := by decide +kernel
theorem dX7_init_12 : decode cX7_init 12 = .ok (.aload_n 0, 1) := by decide +kernel
theorem dX7_init_13 : decode cX7_init 13 = .ok (.bipush 22, 2) := by decide +kernel
theorem dX7_init_15 : decode cX7_init 15 = .ok (.newarray .int, 2) := by decide +kernel
theorem dX7_init_17 : decode cX7_init 17 = .ok (.putfield 13, 3) := by decide +kernel
theorem dX7_init_20 : decode cX7_init 20 = .ok (.aload_n 0, 1) := by decide +kernel
theorem dX7_init_21 : decode cX7_init 21 = .ok (.bipush 22, 2) := by decide +kernel
theorem dX7_init_23 : decode cX7_init 23 = .ok (.newarray .int, 2) := by decide +kernel
theorem dX7_init_25 : decode cX7_init 25 = .ok (.putfield 16, 3) := by decide +kernel
theorem dX7_init_28 : decode cX7_init 28 = .ok (.aload_n 0, 1) := by decide +kernel
theorem dX7_init_29 : decode cX7_init 29 = .ok (.bipush 8, 2) := by decide +kernel
theorem dX7_init_31 : decode cX7_init 31 = .ok (.newarray .int, 2) := by decide +kernel
theorem dX7_init_33 : decode cX7_init 33 = .ok (.putfield 19, 3) := by decide +kernel
theorem dX7_init_36 : decode cX7_init 36 = .ok (.aload_n 0, 1) := by decide +kernel
theorem dX7_init_37 : decode cX7_init 37 = .ok (.bipush 80, 2) := by decide +kernel
theorem dX7_init_39 : decode cX7_init 39 = .ok (.newarray .int, 2) := by decide +kernel
theorem dX7_init_41 : decode cX7_init 41 = .ok (.putfield 22, 3) := by decide +kernel
theorem dX7_init_44 : decode cX7_init 44 = .ok (.aload_n 0, 1) := by decide +kernel
theorem dX7_init_45 : decode cX7_init 45 = .ok (.bipush 16, 2) := by decide +kernel
theorem dX7_init_47 : decode cX7_init 47 = .ok (.newarray .int, 2) := by decide +kernel
theorem dX7_init_49 : decode cX7_init 49 = .ok (.putfield 25, 3) := by decide +kernel
theorem dX7_init_52 : decode cX7_init 52 = .ok (.aload_n 0, 1) := by decide +kernel
theorem dX7_init_53 : decode cX7_init 53 = .ok (.iconst 2, 1) := by decide +kernel
theorem dX7_init_54 : decode cX7_init 54 = .ok (.newarray .boolean, 2) := by decide +kernel
theorem dX7_init_56 : decode cX7_init 56 = .ok (.putfield 28, 3) := by decide +kernel
theorem dX7_init_59 : decode cX7_init 59 = .ok (.aload_n 0, 1) := by decide +kernel
theorem dX7_init_60 : decode cX7_init 60 = .ok (.bipush 30, 2) := by decide +kernel
theorem dX7_init_62 : decode cX7_init 62 = .ok (.newarray .int, 2) := by decide +kernel
theorem dX7_init_64 : decode cX7_init 64 = .ok (.putfield 32, 3) := by decide +kernel
theorem dX7_init_67 : decode cX7_init 67 = .ok (.aload_n 0, 1) := by decide +kernel
theorem dX7_init_68 : decode cX7_init 68 = .ok (.sipush 250, 3) := by decide +kernel
theorem dX7_init_71 : decode cX7_init 71 = .ok (.newarray .int, 2) := by decide +kernel
theorem dX7_init_73 : decode cX7_init 73 = .ok (.putfield 35, 3) := by decide +kernel
theorem dX7_init_76 : decode cX7_init 76 = .ok (.aload_n 0, 1) := by decide +kernel
theorem dX7_init_77 : decode cX7_init 77 = .ok (.sipush 250, 3) := by decide +kernel
theorem dX7_init_80 : decode cX7_init 80 = .ok (.newarray .int, 2) := by decide +kernel
theorem dX7_init_82 : decode cX7_init 82 = .ok (.putfield 38, 3) := by decide +kernel
theorem dX7_init_85 : decode cX7_init 85 = .ok (.aload_n 0, 1) := by decide +kernel
theorem dX7_init_86 : decode cX7_init 86 = .ok (.bipush 8, 2) := by decide +kernel
theorem dX7_init_88 : decode cX7_init 88 = .ok (.newarray .int, 2) := by decide +kernel
theorem dX7_init_90 : decode cX7_init 90 = .ok (.putfield 41, 3) := by decide +kernel
theorem dX7_init_93 : decode cX7_init 93 = .ok (.aload_n 0, 1) := by decide +kernel
theorem dX7_init_94 : decode cX7_init 94 = .ok (.invokevirtual 44, 3) := by decide +kernel
theorem dX7_init_97 : decode cX7_init 97 = .ok (.pop, 1) := by decide +kernel
theorem dX7_init_98 : decode cX7_init 98 = .ok (.aload_n 0, 1) := by decide +kernel
theorem dX7_init_99 : decode cX7_init 99 = .ok (.invokevirtual 48, 3) := by decide +kernel
theorem dX7_init_102 : decode cX7_init 102 = .ok (.return_, 1) := by decide +kernel
theorem dX7_in_0 : decode cX7_in 0 = .ok (.iload_n 0, 1) := by decide +kernel
theorem dX7_in_1 : decode cX7_in 1 = .ok (.iload_n 1, 1) := by decide +kernel
theorem dX7_in_2 : decode cX7_in 2 = .ok (.if_icmp .lt 12, 3) := by decide +kernel
theorem dX7_in_5 : decode cX7_in 5 = .ok (.iload_n 0, 1) := by decide +kernel
theorem dX7_in_6 : decode cX7_in 6 = .ok (.iload_n 2, 1) := by decide +kernel
theorem dX7_in_7 : decode cX7_in 7 = .ok (.if_icmp .gt 7, 3) := by decide +kernel
theorem dX7_in_10 : decode cX7_in 10 = .ok (.iconst 1, 1) := by decide +kernel
theorem dX7_in_11 : decode cX7_in 11 = .ok (.goto 4, 3) := by decide +kernel
theorem dX7_in_14 : decode cX7_in 14 = .ok (.iconst 0, 1) := by decide +kernel
theorem dX7_in_15 : decode cX7_in 15 = .ok (.ireturn, 1) := by decide +kernel
theorem dX7_bound_0 : decode cX7_bound 0 = .ok (.iload_n 0, 1) := by decide +kernel
theorem dX7_bound_1 : decode cX7_bound 1 = .ok (.iload_n 1, 1) := by decide +kernel
theorem dX7_bound_2 : decode cX7_bound 2 = .ok (.if_icmp .ge 7, 3) := by decide +kernel
theorem dX7_bound_5 : decode cX7_bound 5 = .ok (.iload_n 1, 1) := by decide +kernel
theorem dX7_bound_6 : decode cX7_bound 6 = .ok (.goto 13, 3) := by decide +kernel
theorem dX7_bound_9 : decode cX7_bound 9 = .ok (.iload_n 0, 1) := by decide +kernel
theorem dX7_bound_10 : decode cX7_bound 10 = .ok (.iload_n 2, 1) := by decide +kernel
theorem dX7_bound_11 : decode cX7_bound 11 = .ok (.if_icmp .le 7, 3) := by decide +kernel
theorem dX7_bound_14 : decode cX7_bound 14 = .ok (.iload_n 2, 1) := by decide +kernel
theorem dX7_bound_15 : decode cX7_bound 15 = .ok (.goto 4, 3) := by decide +kernel
theorem dX7_bound_18 : decode cX7_bound 18 = .ok (.iload_n 0, 1) := by decide +kernel
theorem dX7_bound_19 : decode cX7_bound 19 = .ok (.ireturn, 1) := by decide +kernel
set_option maxRecDepth 20000 in
theorem ggX7_isGoodbye_X7_in : GoodIn wsX7_isGoodbye wsX7_in := goodIn_r _ [5] (by decide +kernel) (by decide +kernel)
set_option maxRecDepth 20000 in
theorem gX7_isGoodbye_X7_in : GoodIn wsX7_isGoodbye (va_wsS RX7 51 yX7_in wsX7_in) := goodIn_app (goodIn_of _ (by decide +kernel)) ggX7_isGoodbye_X7_in
theorem dX7_isGoodbye_0 : decode cX7_isGoodbye 0 = .ok (.iload_n 1, 1) := by decide +kernel
theorem dX7_isGoodbye_1 : decode cX7_isGoodbye 1 = .ok (.iconst 0, 1) := by decide +kernel
theorem dX7_isGoodbye_2 : decode cX7_isGoodbye 2 = .ok (.aload_n 0, 1) := by decide +kernel
theorem dX7_isGoodbye_3 : decode cX7_isGoodbye 3 = .ok (.getfield 13, 3) := by decide +kernel
theorem dX7_isGoodbye_6 : decode cX7_isGoodbye 6 = .ok (.iconst 0, 1) := by decide +kernel
theorem dX7_isGoodbye_7 : decode cX7_isGoodbye 7 = .ok (.iaload, 1) := by decide +kernel
theorem dX7_isGoodbye_8 : decode cX7_isGoodbye 8 = .ok (.iconst 1, 1) := by decide +kernel
theorem dX7_isGoodbye_9 : decode cX7_isGoodbye 9 = .ok (.isub, 1) := by decide +kernel
theorem dX7_isGoodbye_10 : decode cX7_isGoodbye 10 = .ok (.invokestatic 51, 3) := by decide +kernel
theorem dX7_isGoodbye_13 : decode cX7_isGoodbye 13 = .ok (.ireturn, 1) := by decide +kernel
set_option maxRecDepth 20000 in
theorem ggX7_isWoman_X7_in : GoodIn wsX7_isWoman wsX7_in := goodIn_r _ [5] (by decide +kernel) (by decide +kernel)
set_option maxRecDepth 20000 in
theorem gX7_isWoman_X7_in : GoodIn wsX7_isWoman (va_wsS RX7 51 yX7_in wsX7_in) := goodIn_app (goodIn_of _ (by decide +kernel)) ggX7_isWoman_X7_in
theorem dX7_isWoman_0 : decode cX7_isWoman 0 = .ok (.iload_n 1, 1) := by decide +kernel
theorem dX7_isWoman_1 : decode cX7_isWoman 1 = .ok (.iconst 0, 1) := by decide +kernel
theorem dX7_isWoman_2 : decode cX7_isWoman 2 = .ok (.aload_n 0, 1) := by decide +kernel
theorem dX7_isWoman_3 : decode cX7_isWoman 3 = .ok (.getfield 13, 3) := by decide +kernel
theorem dX7_isWoman_6 : decode cX7_isWoman 6 = .ok (.iconst 1, 1) := by decide +kernel
theorem dX7_isWoman_7 : decode cX7_isWoman 7 = .ok (.iaload, 1) := by decide +kernel
theorem dX7_isWoman_8 : decode cX7_isWoman 8 = .ok (.iconst 1, 1) := by decide +kernel
theorem dX7_isWoman_9 : decode cX7_isWoman 9 = .ok (.isub, 1) := by decide +kernel
theorem dX7_isWoman_10 : decode cX7_isWoman 10 = .ok (.invokestatic 51, 3) := by decide +kernel
theorem dX7_isWoman_13 : decode cX7_isWoman 13 = .ok (.ireturn, 1) := by decide +kernel
set_option maxRecDepth 20000 in
theorem ggX7_type_X7_in : GoodIn wsX7_type wsX7_in := goodIn_r _ [6] (by decide +kernel) (by decide +kernel)
set_option maxRecDepth 20000 in
theorem gX7_type_X7_in : GoodIn wsX7_type (va_wsS RX7 51 yX7_in wsX7_in) := goodIn_app (goodIn_of _ (by decide +kernel)) ggX7_type_X7_in
theorem dX7_type_0 : decode cX7_type 0 = .ok (.iload_n 1, 1) := by decide +kernel
theorem dX7_type_1 : decode cX7_type 1 = .ok (.iconst 0, 1) := by decide +kernel
theorem dX7_type_2 : decode cX7_type 2 = .ok (.sipush 255, 3) := by decide +kernel
theorem dX7_type_5 : decode cX7_type 5 = .ok (.invokestatic 51, 3) := by decide +kernel
theorem dX7_type_8 : decode cX7_type 8 = .ok (.ifCond .ne 5, 3) := by decide +kernel
theorem dX7_type_11 : decode cX7_type 11 = .ok (.iconst (-1), 1) := by decide +kernel
theorem dX7_type_12 : decode cX7_type 12 = .ok (.ireturn, 1) := by decide +kernel
theorem dX7_type_13 : decode cX7_type 13 = .ok (.aload_n 0, 1) := by decide +kernel
theorem dX7_type_14 : decode cX7_type 14 = .ok (.getfield 55, 3) := by decide +kernel
theorem dX7_type_17 : decode cX7_type 17 = .ok (.bipush 120, 2) := by decide +kernel
theorem dX7_type_19 : decode cX7_type 19 = .ok (.if_icmp .ne 6, 3) := by decide +kernel
theorem dX7_type_22 : decode cX7_type 22 = .ok (.bipush (-3), 2) := by decide +kernel
theorem dX7_type_24 : decode cX7_type 24 = .ok (.ireturn, 1) := by decide +kernel
theorem dX7_type_25 : decode cX7_type 25 = .ok (.aload_n 0, 1) := by decide +kernel
theorem dX7_type_26 : decode cX7_type 26 = .ok (.getfield 7, 3) := by decide +kernel
theorem dX7_type_29 : decode cX7_type 29 = .ok (.aload_n 0, 1) := by decide +kernel
theorem dX7_type_30 : decode cX7_type 30 = .ok (.getfield 55, 3) := by decide +kernel
theorem dX7_type_33 : decode cX7_type 33 = .ok (.iload_n 1, 1) := by decide +kernel
theorem dX7_type_34 : decode cX7_type 34 = .ok (.iastore, 1) := by decide +kernel
theorem dX7_type_35 : decode cX7_type 35 = .ok (.aload_n 0, 1) := by decide +kernel
theorem dX7_type_36 : decode cX7_type 36 = .ok (.dup, 1) := by decide +kernel
theorem dX7_type_37 : decode cX7_type 37 = .ok (.getfield 55, 3) := by decide +kernel
theorem dX7_type_40 : decode cX7_type 40 = .ok (.iconst 1, 1) := by decide +kernel
theorem dX7_type_41 : decode cX7_type 41 = .ok (.iadd, 1) := by decide +kernel
theorem dX7_type_42 : decode cX7_type 42 = .ok (.putfield 55, 3) := by decide +kernel
theorem dX7_type_45 : decode cX7_type 45 = .ok (.aload_n 0, 1) := by decide +kernel
theorem dX7_type_46 : decode cX7_type 46 = .ok (.getfield 55, 3) := by decide +kernel
theorem dX7_type_49 : decode cX7_type 49 = .ok (.ireturn, 1) := by decide +kernel
theorem dX7_clear_0 : decode cX7_clear 0 = .ok (.aload_n 0, 1) := by decide +kernel
theorem dX7_clear_1 : decode cX7_clear 1 = .ok (.getfield 55, 3) := by decide +kernel
theorem dX7_clear_4 : decode cX7_clear 4 = .ok (.istore_n 1, 1) := by decide +kernel
theorem dX7_clear_5 : decode cX7_clear 5 = .ok (.aload_n 0, 1) := by decide +kernel
theorem dX7_clear_6 : decode cX7_clear 6 = .ok (.iconst 0, 1) := by decide +kernel
theorem dX7_clear_7 : decode cX7_clear 7 = .ok (.putfield 55, 3) := by decide +kernel
theorem dX7_clear_10 : decode cX7_clear 10 = .ok (.iload_n 1, 1) := by decide +kernel
theorem dX7_clear_11 : decode cX7_clear 11 = .ok (.ireturn, 1) := by decide +kernel
theorem dX7_letterAt_0 : decode cX7_letterAt 0 = .ok (.iload_n 1, 1) := by decide +kernel
theorem dX7_letterAt_1 : decode cX7_letterAt 1 = .ok (.aload_n 0, 1) := by decide +kernel
theorem dX7_letterAt_2 : decode cX7_letterAt 2 = .ok (.getfield 55, 3) := by decide +kernel
theorem dX7_letterAt_5 : decode cX7_letterAt 5 = .ok (.if_icmp .ge 12, 3) := by decide +kernel
theorem dX7_letterAt_8 : decode cX7_letterAt 8 = .ok (.aload_n 0, 1) := by decide +kernel
theorem dX7_letterAt_9 : decode cX7_letterAt 9 = .ok (.getfield 7, 3) := by decide +kernel
theorem dX7_letterAt_12 : decode cX7_letterAt 12 = .ok (.iload_n 1, 1) := by decide +kernel
theorem dX7_letterAt_13 : decode cX7_letterAt 13 = .ok (.iaload, 1) := by decide +kernel
theorem dX7_letterAt_14 : decode cX7_letterAt 14 = .ok (.goto 4, 3) := by decide +kernel
theorem dX7_letterAt_17 : decode cX7_letterAt 17 = .ok (.iconst (-1), 1) := by decide +kernel
theorem dX7_letterAt_18 : decode cX7_letterAt 18 = .ok (.ireturn, 1) := by decide +kernel
set_option maxRecDepth 20000 in
theorem ggX7_isDigit_X7_in : GoodIn wsX7_isDigit wsX7_in := goodIn_r _ [4] (by decide +kernel) (by decide +kernel)
set_option maxRecDepth 20000 in
theorem gX7_isDigit_X7_in : GoodIn wsX7_isDigit (va_wsS RX7 51 yX7_in wsX7_in) := goodIn_app (goodIn_of _ (by decide +kernel)) ggX7_isDigit_X7_in
theorem dX7_isDigit_0 : decode cX7_isDigit 0 = .ok (.iload_n 0, 1) := by decide +kernel
theorem dX7_isDigit_1 : decode cX7_isDigit 1 = .ok (.bipush 48, 2) := by decide +kernel
theorem dX7_isDigit_3 : decode cX7_isDigit 3 = .ok (.bipush 57, 2) := by decide +kernel
theorem dX7_isDigit_5 : decode cX7_isDigit 5 = .ok (.invokestatic 51, 3) := by decide +kernel
theorem dX7_isDigit_8 : decode cX7_isDigit 8 = .ok (.ireturn, 1) := by decide +kernel
theorem dX7_isWord_0 : decode cX7_isWord 0 = .ok (.iload_n 0, 1) := by decide +kernel
theorem dX7_isWord_1 : decode cX7_isWord 1 = .ok (.bipush 103, 2) := by decide +kernel
theorem dX7_isWord_3 : decode cX7_isWord 3 = .ok (.if_icmp .eq 33, 3) := by decide +kernel
theorem dX7_isWord_6 : decode cX7_isWord 6 = .ok (.iload_n 0, 1) := by decide +kernel
theorem dX7_isWord_7 : decode cX7_isWord 7 = .ok (.bipush 119, 2) := by decide +kernel
theorem dX7_isWord_9 : decode cX7_isWord 9 = .ok (.if_icmp .eq 27, 3) := by decide +kernel
theorem dX7_isWord_12 : decode cX7_isWord 12 = .ok (.iload_n 0, 1) := by decide +kernel
theorem dX7_isWord_13 : decode cX7_isWord 13 = .ok (.bipush 115, 2) := by decide +kernel
theorem dX7_isWord_15 : decode cX7_isWord 15 = .ok (.if_icmp .eq 21, 3) := by decide +kernel
theorem dX7_isWord_18 : decode cX7_isWord 18 = .ok (.iload_n 0, 1) := by decide +kernel
theorem dX7_isWord_19 : decode cX7_isWord 19 = .ok (.bipush 99, 2) := by decide +kernel
theorem dX7_isWord_21 : decode cX7_isWord 21 = .ok (.if_icmp .eq 15, 3) := by decide +kernel
theorem dX7_isWord_24 : decode cX7_isWord 24 = .ok (.iload_n 0, 1) := by decide +kernel
theorem dX7_isWord_25 : decode cX7_isWord 25 = .ok (.bipush 120, 2) := by decide +kernel
theorem dX7_isWord_27 : decode cX7_isWord 27 = .ok (.if_icmp .eq 9, 3) := by decide +kernel
theorem dX7_isWord_30 : decode cX7_isWord 30 = .ok (.iload_n 0, 1) := by decide +kernel
theorem dX7_isWord_31 : decode cX7_isWord 31 = .ok (.bipush 122, 2) := by decide +kernel
theorem dX7_isWord_33 : decode cX7_isWord 33 = .ok (.if_icmp .ne 7, 3) := by decide +kernel
theorem dX7_isWord_36 : decode cX7_isWord 36 = .ok (.iconst 1, 1) := by decide +kernel
theorem dX7_isWord_37 : decode cX7_isWord 37 = .ok (.goto 4, 3) := by decide +kernel
theorem dX7_isWord_40 : decode cX7_isWord 40 = .ok (.iconst 0, 1) := by decide +kernel
theorem dX7_isWord_41 : decode cX7_isWord 41 = .ok (.ireturn, 1) := by decide +kernel
set_option maxRecDepth 20000 in
theorem ggX7_token_X7_letterAt : GoodIn wsX7_token wsX7_letterAt := goodIn_r _ [10, 11, 5, 21, 22, 23, 24, 25, 26, 27, 28, 29, 30, 31, 32, 33, 34, 35, 36, 37, 38, 39] (by decide +kernel) (by decide +kernel)
set_option maxRecDepth 20000 in
theorem gX7_token_X7_letterAt : GoodIn wsX7_token (wsV RX7 62 RX7 yX7_letterAt wsX7_letterAt) := goodIn_app (goodIn_of _ (by decide +kernel)) ggX7_token_X7_letterAt
set_option maxRecDepth 20000 in
theorem ggX7_token_X7_isWord : GoodIn wsX7_token wsX7_isWord := goodIn_r _ [14] (by decide +kernel) (by decide +kernel)
set_option maxRecDepth 20000 in
theorem gX7_token_X7_isWord : GoodIn wsX7_token (va_wsS RX7 69 yX7_isWord wsX7_isWord) := goodIn_app (goodIn_of _ (by decide +kernel)) ggX7_token_X7_isWord
set_option maxRecDepth 20000 in
theorem ggX7_token_X7_isDigit : GoodIn wsX7_token wsX7_isDigit := goodIn_r _ [17, 18, 19, 9, 20] (by decide +kernel) (by decide +kernel)
set_option maxRecDepth 20000 in
theorem gX7_token_X7_isDigit : GoodIn wsX7_token (va_wsS RX7 73 yX7_isDigit wsX7_isDigit) := goodIn_app (goodIn_of _ (by decide +kernel)) ggX7_token_X7_isDigit
theorem dX7_token_0 : decode cX7_token 0 = .ok (.aload_n 0, 1) := by decide +kernel
theorem dX7_token_1 : decode cX7_token 1 = .ok (.aload_n 0, 1) := by decide +kernel
theorem dX7_token_2 : decode cX7_token 2 = .ok (.getfield 59, 3) := by decide +kernel
theorem dX7_token_5 : decode cX7_token 5 = .ok (.invokevirtual 62, 3) := by decide +kernel
theorem dX7_token_8 : decode cX7_token 8 = .ok (.bipush 32, 2) := by decide +kernel
theorem dX7_token_10 : decode cX7_token 10 = .ok (.if_icmp .ne 16, 3) := by decide +kernel
theorem dX7_token_13 : decode cX7_token 13 = .ok (.aload_n 0, 1) := by decide +kernel
theorem dX7_token_14 : decode cX7_token 14 = .ok (.dup, 1) := by decide +kernel
theorem dX7_token_15 : decode cX7_token 15 = .ok (.getfield 59, 3) := by decide +kernel
theorem dX7_token_18 : decode cX7_token 18 = .ok (.iconst 1, 1) := by decide +kernel
theorem dX7_token_19 : decode cX7_token 19 = .ok (.iadd, 1) := by decide +kernel
theorem dX7_token_20 : decode cX7_token 20 = .ok (.putfield 59, 3) := by decide +kernel
theorem dX7_token_23 : decode cX7_token 23 = .ok (.goto (-23), 3) := by decide +kernel
theorem dX7_token_26 : decode cX7_token 26 = .ok (.aload_n 0, 1) := by decide +kernel
theorem dX7_token_27 : decode cX7_token 27 = .ok (.aload_n 0, 1) := by decide +kernel
theorem dX7_token_28 : decode cX7_token 28 = .ok (.getfield 59, 3) := by decide +kernel
theorem dX7_token_31 : decode cX7_token 31 = .ok (.putfield 66, 3) := by decide +kernel
theorem dX7_token_34 : decode cX7_token 34 = .ok (.aload_n 0, 1) := by decide +kernel
theorem dX7_token_35 : decode cX7_token 35 = .ok (.aload_n 0, 1) := by decide +kernel
theorem dX7_token_36 : decode cX7_token 36 = .ok (.getfield 59, 3) := by decide +kernel
theorem dX7_token_39 : decode cX7_token 39 = .ok (.invokevirtual 62, 3) := by decide +kernel
theorem dX7_token_42 : decode cX7_token 42 = .ok (.istore_n 1, 1) := by decide +kernel
theorem dX7_token_43 : decode cX7_token 43 = .ok (.aload_n 0, 1) := by decide +kernel
theorem dX7_token_44 : decode cX7_token 44 = .ok (.iload_n 1, 1) := by decide +kernel
theorem dX7_token_45 : decode cX7_token 45 = .ok (.ifCond .ge 7, 3) := by decide +kernel
theorem dX7_token_48 : decode cX7_token 48 = .ok (.iconst 0, 1) := by decide +kernel
theorem dX7_token_49 : decode cX7_token 49 = .ok (.goto 36, 3) := by decide +kernel
theorem dX7_token_52 : decode cX7_token 52 = .ok (.iload_n 1, 1) := by decide +kernel
theorem dX7_token_53 : decode cX7_token 53 = .ok (.invokestatic 69, 3) := by decide +kernel
theorem dX7_token_56 : decode cX7_token 56 = .ok (.ifCond .eq 7, 3) := by decide +kernel
theorem dX7_token_59 : decode cX7_token 59 = .ok (.iconst 1, 1) := by decide +kernel
theorem dX7_token_60 : decode cX7_token 60 = .ok (.goto 25, 3) := by decide +kernel
theorem dX7_token_63 : decode cX7_token 63 = .ok (.iload_n 1, 1) := by decide +kernel
theorem dX7_token_64 : decode cX7_token 64 = .ok (.invokestatic 73, 3) := by decide +kernel
theorem dX7_token_67 : decode cX7_token 67 = .ok (.ifCond .eq 7, 3) := by decide +kernel
theorem dX7_token_70 : decode cX7_token 70 = .ok (.iconst 2, 1) := by decide +kernel
theorem dX7_token_71 : decode cX7_token 71 = .ok (.goto 14, 3) := by decide +kernel
theorem dX7_token_74 : decode cX7_token 74 = .ok (.iload_n 1, 1) := by decide +kernel
theorem dX7_token_75 : decode cX7_token 75 = .ok (.bipush 59, 2) := by decide +kernel
theorem dX7_token_77 : decode cX7_token 77 = .ok (.if_icmp .ne 7, 3) := by decide +kernel
theorem dX7_token_80 : decode cX7_token 80 = .ok (.iconst 3, 1) := by decide +kernel
theorem dX7_token_81 : decode cX7_token 81 = .ok (.goto 4, 3) := by decide +kernel
theorem dX7_token_84 : decode cX7_token 84 = .ok (.iconst 4, 1) := by decide +kernel
theorem dX7_token_85 : decode cX7_token 85 = .ok (.putfield 76, 3) := by decide +kernel
theorem dX7_token_88 : decode cX7_token 88 = .ok (.aload_n 0, 1) := by decide +kernel
theorem dX7_token_89 : decode cX7_token 89 = .ok (.iload_n 1, 1) := by decide +kernel
theorem dX7_token_90 : decode cX7_token 90 = .ok (.putfield 79, 3) := by decide +kernel
theorem dX7_token_93 : decode cX7_token 93 = .ok (.aload_n 0, 1) := by decide +kernel
theorem dX7_token_94 : decode cX7_token 94 = .ok (.dup, 1) := by decide +kernel
theorem dX7_token_95 : decode cX7_token 95 = .ok (.getfield 59, 3) := by decide +kernel
theorem dX7_token_98 : decode cX7_token 98 = .ok (.aload_n 0, 1) := by decide +kernel
theorem dX7_token_99 : decode cX7_token 99 = .ok (.getfield 76, 3) := by decide +kernel
theorem dX7_token_102 : decode cX7_token 102 = .ok (.ifCond .ne 7, 3) := by decide +kernel
theorem dX7_token_105 : decode cX7_token 105 = .ok (.iconst 0, 1) := by decide +kernel
theorem dX7_token_106 : decode cX7_token 106 = .ok (.goto 4, 3) := by decide +kernel
theorem dX7_token_109 : decode cX7_token 109 = .ok (.iconst 1, 1) := by decide +kernel
theorem dX7_token_110 : decode cX7_token 110 = .ok (.iadd, 1) := by decide +kernel
theorem dX7_token_111 : decode cX7_token 111 = .ok (.putfield 59, 3) := by decide +kernel
theorem dX7_token_114 : decode cX7_token 114 = .ok (.aload_n 0, 1) := by decide +kernel
theorem dX7_token_115 : decode cX7_token 115 = .ok (.getfield 76, 3) := by decide +kernel
theorem dX7_token_118 : decode cX7_token 118 = .ok (.iconst 2, 1) := by decide +kernel
theorem dX7_token_119 : decode cX7_token 119 = .ok (.if_icmp .ne 83, 3) := by decide +kernel
theorem dX7_token_122 : decode cX7_token 122 = .ok (.aload_n 0, 1) := by decide +kernel
theorem dX7_token_123 : decode cX7_token 123 = .ok (.iload_n 1, 1) := by decide +kernel
theorem dX7_token_124 : decode cX7_token 124 = .ok (.bipush 48, 2) := by decide +kernel
theorem dX7_token_126 : decode cX7_token 126 = .ok (.isub, 1) := by decide +kernel
theorem dX7_token_127 : decode cX7_token 127 = .ok (.putfield 79, 3) := by decide +kernel
theorem dX7_token_130 : decode cX7_token 130 = .ok (.aload_n 0, 1) := by decide +kernel
theorem dX7_token_131 : decode cX7_token 131 = .ok (.aload_n 0, 1) := by decide +kernel
theorem dX7_token_132 : decode cX7_token 132 = .ok (.getfield 59, 3) := by decide +kernel
theorem dX7_token_135 : decode cX7_token 135 = .ok (.invokevirtual 62, 3) := by decide +kernel
theorem dX7_token_138 : decode cX7_token 138 = .ok (.invokestatic 73, 3) := by decide +kernel
theorem dX7_token_141 : decode cX7_token 141 = .ok (.ifCond .eq 61, 3) := by decide +kernel
theorem dX7_token_144 : decode cX7_token 144 = .ok (.aload_n 0, 1) := by decide +kernel
theorem dX7_token_145 : decode cX7_token 145 = .ok (.iload_n 1, 1) := by decide +kernel
theorem dX7_token_146 : decode cX7_token 146 = .ok (.bipush 48, 2) := by decide +kernel
theorem dX7_token_148 : decode cX7_token 148 = .ok (.if_icmp .eq 12, 3) := by decide +kernel
theorem dX7_token_151 : decode cX7_token 151 = .ok (.aload_n 0, 1) := by decide +kernel
theorem dX7_token_152 : decode cX7_token 152 = .ok (.getfield 79, 3) := by decide +kernel
theorem dX7_token_155 : decode cX7_token 155 = .ok (.bipush 99, 2) := by decide +kernel
theorem dX7_token_157 : decode cX7_token 157 = .ok (.if_icmp .le 9, 3) := by decide +kernel
theorem dX7_token_160 : decode cX7_token 160 = .ok (.sipush 1000, 3) := by decide +kernel
theorem dX7_token_163 : decode cX7_token 163 = .ok (.goto 23, 3) := by decide +kernel
theorem dX7_token_166 : decode cX7_token 166 = .ok (.bipush 10, 2) := by decide +kernel
theorem dX7_token_168 : decode cX7_token 168 = .ok (.aload_n 0, 1) := by decide +kernel
theorem dX7_token_169 : decode cX7_token 169 = .ok (.getfield 79, 3) := by decide +kernel
theorem dX7_token_172 : decode cX7_token 172 = .ok (.imul, 1) := by decide +kernel
theorem dX7_token_173 : decode cX7_token 173 = .ok (.aload_n 0, 1) := by decide +kernel
theorem dX7_token_174 : decode cX7_token 174 = .ok (.getfield 7, 3) := by decide +kernel
theorem dX7_token_177 : decode cX7_token 177 = .ok (.aload_n 0, 1) := by decide +kernel
theorem dX7_token_178 : decode cX7_token 178 = .ok (.getfield 59, 3) := by decide +kernel
theorem dX7_token_181 : decode cX7_token 181 = .ok (.iaload, 1) := by decide +kernel
theorem dX7_token_182 : decode cX7_token 182 = .ok (.iadd, 1) := by decide +kernel
theorem dX7_token_183 : decode cX7_token 183 = .ok (.bipush 48, 2) := by decide +kernel
theorem dX7_token_185 : decode cX7_token 185 = .ok (.isub, 1) := by decide +kernel
theorem dX7_token_186 : decode cX7_token 186 = .ok (.putfield 79, 3) := by decide +kernel
theorem dX7_token_189 : decode cX7_token 189 = .ok (.aload_n 0, 1) := by decide +kernel
theorem dX7_token_190 : decode cX7_token 190 = .ok (.dup, 1) := by decide +kernel
theorem dX7_token_191 : decode cX7_token 191 = .ok (.getfield 59, 3) := by decide +kernel
theorem dX7_token_194 : decode cX7_token 194 = .ok (.iconst 1, 1) := by decide +kernel
theorem dX7_token_195 : decode cX7_token 195 = .ok (.iadd, 1) := by decide +kernel
theorem dX7_token_196 : decode cX7_token 196 = .ok (.putfield 59, 3) := by decide +kernel
theorem dX7_token_199 : decode cX7_token 199 = .ok (.goto (-69), 3) := by decide +kernel
theorem dX7_token_202 : decode cX7_token 202 = .ok (.return_, 1) := by decide +kernel
set_option maxRecDepth 20000 in
theorem ggX7_number_X7_token : GoodIn wsX7_number wsX7_token := goodIn_r _ [8, 9, 10, 3, 2, 11, 12, 13, 14, 7, 15, 16, 17, 18, 19, 20, 21, 22, 23, 24, 25, 26, 27, 28, 29, 30, 31, 32, 33, 34, 35, 36, 37, 38, 39, 40, 41, 42, 43, 44] (by decide +kernel) (by decide +kernel)
set_option maxRecDepth 20000 in
theorem gX7_number_X7_token : GoodIn wsX7_number (wsV RX7 82 RX7 yX7_token wsX7_token) := goodIn_app (goodIn_of _ (by decide +kernel)) ggX7_number_X7_token
set_option maxRecDepth 20000 in
theorem ggX7_number_X7_in : GoodIn wsX7_number wsX7_in := goodIn_r _ [25] (by decide +kernel) (by decide +kernel)
set_option maxRecDepth 20000 in
theorem gX7_number_X7_in : GoodIn wsX7_number (va_wsS RX7 51 yX7_in wsX7_in) := goodIn_app (goodIn_of _ (by decide +kernel)) ggX7_number_X7_in
theorem dX7_number_0 : decode cX7_number 0 = .ok (.aload_n 0, 1) := by decide +kernel
theorem dX7_number_1 : decode cX7_number 1 = .ok (.invokevirtual 82, 3) := by decide +kernel
theorem dX7_number_4 : decode cX7_number 4 = .ok (.aload_n 0, 1) := by decide +kernel
theorem dX7_number_5 : decode cX7_number 5 = .ok (.getfield 16, 3) := by decide +kernel
theorem dX7_number_8 : decode cX7_number 8 = .ok (.iload_n 1, 1) := by decide +kernel
theorem dX7_number_9 : decode cX7_number 9 = .ok (.aload_n 0, 1) := by decide +kernel
theorem dX7_number_10 : decode cX7_number 10 = .ok (.getfield 79, 3) := by decide +kernel
theorem dX7_number_13 : decode cX7_number 13 = .ok (.iastore, 1) := by decide +kernel
theorem dX7_number_14 : decode cX7_number 14 = .ok (.aload_n 0, 1) := by decide +kernel
theorem dX7_number_15 : decode cX7_number 15 = .ok (.getfield 76, 3) := by decide +kernel
theorem dX7_number_18 : decode cX7_number 18 = .ok (.iconst 2, 1) := by decide +kernel
theorem dX7_number_19 : decode cX7_number 19 = .ok (.if_icmp .ne 19, 3) := by decide +kernel
theorem dX7_number_22 : decode cX7_number 22 = .ok (.aload_n 0, 1) := by decide +kernel
theorem dX7_number_23 : decode cX7_number 23 = .ok (.getfield 79, 3) := by decide +kernel
theorem dX7_number_26 : decode cX7_number 26 = .ok (.iload_n 2, 1) := by decide +kernel
theorem dX7_number_27 : decode cX7_number 27 = .ok (.iload_n 3, 1) := by decide +kernel
theorem dX7_number_28 : decode cX7_number 28 = .ok (.invokestatic 51, 3) := by decide +kernel
theorem dX7_number_31 : decode cX7_number 31 = .ok (.ifCond .eq 7, 3) := by decide +kernel
theorem dX7_number_34 : decode cX7_number 34 = .ok (.iconst 1, 1) := by decide +kernel
theorem dX7_number_35 : decode cX7_number 35 = .ok (.goto 4, 3) := by decide +kernel
theorem dX7_number_38 : decode cX7_number 38 = .ok (.iconst 0, 1) := by decide +kernel
theorem dX7_number_39 : decode cX7_number 39 = .ok (.ireturn, 1) := by decide +kernel
set_option maxRecDepth 20000 in
theorem ggX7_once_X7_number : GoodIn wsX7_once wsX7_number := goodIn_r _ [6, 1, 7, 8, 9, 10, 11, 5, 12, 13, 14, 15, 16, 17, 18, 19, 20, 21, 22, 23, 24, 25, 26, 27, 28, 29, 30, 31, 32, 33, 34, 35, 36, 37, 38, 39, 40, 41, 42, 43, 44, 45, 46, 47, 48] (by decide +kernel) (by decide +kernel)
set_option maxRecDepth 20000 in
theorem gX7_once_X7_number : GoodIn wsX7_once (wsV RX7 85 RX7 yX7_number wsX7_number) := goodIn_app (goodIn_of _ (by decide +kernel)) ggX7_once_X7_number
theorem dX7_once_0 : decode cX7_once 0 = .ok (.aload_n 0, 1) := by decide +kernel
theorem dX7_once_1 : decode cX7_once 1 = .ok (.getfield 16, 3) := by decide +kernel
theorem dX7_once_4 : decode cX7_once 4 = .ok (.bipush 7, 2) := by decide +kernel
theorem dX7_once_6 : decode cX7_once 6 = .ok (.iaload, 1) := by decide +kernel
theorem dX7_once_7 : decode cX7_once 7 = .ok (.iload_n 1, 1) := by decide +kernel
theorem dX7_once_8 : decode cX7_once 8 = .ok (.iand, 1) := by decide +kernel
theorem dX7_once_9 : decode cX7_once 9 = .ok (.ifCond .eq 5, 3) := by decide +kernel
theorem dX7_once_12 : decode cX7_once 12 = .ok (.iconst 0, 1) := by decide +kernel
theorem dX7_once_13 : decode cX7_once 13 = .ok (.ireturn, 1) := by decide +kernel
theorem dX7_once_14 : decode cX7_once 14 = .ok (.aload_n 0, 1) := by decide +kernel
theorem dX7_once_15 : decode cX7_once 15 = .ok (.getfield 16, 3) := by decide +kernel
theorem dX7_once_18 : decode cX7_once 18 = .ok (.bipush 7, 2) := by decide +kernel
theorem dX7_once_20 : decode cX7_once 20 = .ok (.dup2, 1) := by decide +kernel
theorem dX7_once_21 : decode cX7_once 21 = .ok (.iaload, 1) := by decide +kernel
theorem dX7_once_22 : decode cX7_once 22 = .ok (.iload_n 1, 1) := by decide +kernel
theorem dX7_once_23 : decode cX7_once 23 = .ok (.ior, 1) := by decide +kernel
theorem dX7_once_24 : decode cX7_once 24 = .ok (.iastore, 1) := by decide +kernel
theorem dX7_once_25 : decode cX7_once 25 = .ok (.aload_n 0, 1) := by decide +kernel
theorem dX7_once_26 : decode cX7_once 26 = .ok (.iload_n 2, 1) := by decide +kernel
theorem dX7_once_27 : decode cX7_once 27 = .ok (.iload_n 3, 1) := by decide +kernel
theorem dX7_once_28 : decode cX7_once 28 = .ok (.iload 4, 2) := by decide +kernel
theorem dX7_once_30 : decode cX7_once 30 = .ok (.invokevirtual 85, 3) := by decide +kernel
theorem dX7_once_33 : decode cX7_once 33 = .ok (.ireturn, 1) := by decide +kernel
set_option maxRecDepth 20000 in
theorem ggX7_readsItem_X7_number : GoodIn wsX7_readsItem wsX7_number := goodIn_r _ [8, 3, 2, 1, 9, 10, 11, 7, 12, 13, 14, 15, 16, 17, 18, 19, 20, 21, 22, 23, 24, 25, 26, 27, 28, 29, 34, 35, 36, 37, 38, 39, 40, 41, 42, 43, 44, 45, 46, 47, 48, 49, 50, 51, 52] (by decide +kernel) (by decide +kernel)
set_option maxRecDepth 20000 in
theorem gX7_readsItem_X7_number : GoodIn wsX7_readsItem (wsV RX7 85 RX7 yX7_number wsX7_number) := goodIn_app (goodIn_of _ (by decide +kernel)) ggX7_readsItem_X7_number
set_option maxRecDepth 20000 in
theorem ggX7_readsItem_X7_once : GoodIn wsX7_readsItem wsX7_once := goodIn_r _ [33, 3, 4, 5, 6, 7, 8, 2, 1, 9, 10, 11, 12, 13, 14, 15, 16, 17, 18, 19, 20, 21, 22, 23, 24, 25, 26, 27, 28, 29, 34, 35, 36, 37, 38, 39, 40, 41, 42, 43, 44, 45, 46, 47, 48, 49, 50, 51, 52] (by decide +kernel) (by decide +kernel)
set_option maxRecDepth 20000 in
theorem gX7_readsItem_X7_once : GoodIn wsX7_readsItem (wsV RX7 88 RX7 yX7_once wsX7_once) := goodIn_app (goodIn_of _ (by decide +kernel)) ggX7_readsItem_X7_once
theorem dX7_readsItem_0 : decode cX7_readsItem 0 = .ok (.aload_n 0, 1) := by decide +kernel
theorem dX7_readsItem_1 : decode cX7_readsItem 1 = .ok (.getfield 76, 3) := by decide +kernel
theorem dX7_readsItem_4 : decode cX7_readsItem 4 = .ok (.iconst 1, 1) := by decide +kernel
theorem dX7_readsItem_5 : decode cX7_readsItem 5 = .ok (.if_icmp .ne 10, 3) := by decide +kernel
theorem dX7_readsItem_8 : decode cX7_readsItem 8 = .ok (.aload_n 0, 1) := by decide +kernel
theorem dX7_readsItem_9 : decode cX7_readsItem 9 = .ok (.getfield 79, 3) := by decide +kernel
theorem dX7_readsItem_12 : decode cX7_readsItem 12 = .ok (.goto 4, 3) := by decide +kernel
theorem dX7_readsItem_15 : decode cX7_readsItem 15 = .ok (.iconst 0, 1) := by decide +kernel
theorem dX7_readsItem_16 : decode cX7_readsItem 16 = .ok (.istore_n 1, 1) := by decide +kernel
theorem dX7_readsItem_17 : decode cX7_readsItem 17 = .ok (.iload_n 1, 1) := by decide +kernel
theorem dX7_readsItem_18 : decode cX7_readsItem 18 = .ok (.bipush 103, 2) := by decide +kernel
theorem dX7_readsItem_20 : decode cX7_readsItem 20 = .ok (.if_icmp .ne 12, 3) := by decide +kernel
theorem dX7_readsItem_23 : decode cX7_readsItem 23 = .ok (.aload_n 0, 1) := by decide +kernel
theorem dX7_readsItem_24 : decode cX7_readsItem 24 = .ok (.getfield 16, 3) := by decide +kernel
theorem dX7_readsItem_27 : decode cX7_readsItem 27 = .ok (.iconst 0, 1) := by decide +kernel
theorem dX7_readsItem_28 : decode cX7_readsItem 28 = .ok (.iaload, 1) := by decide +kernel
theorem dX7_readsItem_29 : decode cX7_readsItem 29 = .ok (.goto 9, 3) := by decide +kernel
theorem dX7_readsItem_32 : decode cX7_readsItem 32 = .ok (.aload_n 0, 1) := by decide +kernel
theorem dX7_readsItem_33 : decode cX7_readsItem 33 = .ok (.getfield 16, 3) := by decide +kernel
theorem dX7_readsItem_36 : decode cX7_readsItem 36 = .ok (.iconst 1, 1) := by decide +kernel
theorem dX7_readsItem_37 : decode cX7_readsItem 37 = .ok (.iaload, 1) := by decide +kernel
theorem dX7_readsItem_38 : decode cX7_readsItem 38 = .ok (.istore_n 2, 1) := by decide +kernel
theorem dX7_readsItem_39 : decode cX7_readsItem 39 = .ok (.iload_n 1, 1) := by decide +kernel
theorem dX7_readsItem_40 : decode cX7_readsItem 40 = .ok (.lookupswitch 181 #[(99, 149), (103, 60), (115, 139), (119, 106), (120, 159), (122, 170)], 60) := by decide +kernel
theorem dX7_readsItem_100 : decode cX7_readsItem 100 = .ok (.iload_n 2, 1) := by decide +kernel
theorem dX7_readsItem_101 : decode cX7_readsItem 101 = .ok (.iconst 5, 1) := by decide +kernel
theorem dX7_readsItem_102 : decode cX7_readsItem 102 = .ok (.if_icmp .eq 30, 3) := by decide +kernel
theorem dX7_readsItem_105 : decode cX7_readsItem 105 = .ok (.aload_n 0, 1) := by decide +kernel
theorem dX7_readsItem_106 : decode cX7_readsItem 106 = .ok (.bipush 8, 2) := by decide +kernel
theorem dX7_readsItem_108 : decode cX7_readsItem 108 = .ok (.iload_n 2, 1) := by decide +kernel
theorem dX7_readsItem_109 : decode cX7_readsItem 109 = .ok (.iadd, 1) := by decide +kernel
theorem dX7_readsItem_110 : decode cX7_readsItem 110 = .ok (.iconst 0, 1) := by decide +kernel
theorem dX7_readsItem_111 : decode cX7_readsItem 111 = .ok (.bipush 40, 2) := by decide +kernel
theorem dX7_readsItem_113 : decode cX7_readsItem 113 = .ok (.invokevirtual 85, 3) := by decide +kernel
theorem dX7_readsItem_116 : decode cX7_readsItem 116 = .ok (.ifCond .eq 16, 3) := by decide +kernel
theorem dX7_readsItem_119 : decode cX7_readsItem 119 = .ok (.aload_n 0, 1) := by decide +kernel
theorem dX7_readsItem_120 : decode cX7_readsItem 120 = .ok (.bipush 13, 2) := by decide +kernel
theorem dX7_readsItem_122 : decode cX7_readsItem 122 = .ok (.iload_n 2, 1) := by decide +kernel
theorem dX7_readsItem_123 : decode cX7_readsItem 123 = .ok (.iadd, 1) := by decide +kernel
theorem dX7_readsItem_124 : decode cX7_readsItem 124 = .ok (.iconst 0, 1) := by decide +kernel
theorem dX7_readsItem_125 : decode cX7_readsItem 125 = .ok (.iconst 3, 1) := by decide +kernel
theorem dX7_readsItem_126 : decode cX7_readsItem 126 = .ok (.invokevirtual 85, 3) := by decide +kernel
theorem dX7_readsItem_129 : decode cX7_readsItem 129 = .ok (.ifCond .ne 5, 3) := by decide +kernel
theorem dX7_readsItem_132 : decode cX7_readsItem 132 = .ok (.iconst 0, 1) := by decide +kernel
theorem dX7_readsItem_133 : decode cX7_readsItem 133 = .ok (.ireturn, 1) := by decide +kernel
theorem dX7_readsItem_134 : decode cX7_readsItem 134 = .ok (.aload_n 0, 1) := by decide +kernel
theorem dX7_readsItem_135 : decode cX7_readsItem 135 = .ok (.getfield 16, 3) := by decide +kernel
theorem dX7_readsItem_138 : decode cX7_readsItem 138 = .ok (.iconst 0, 1) := by decide +kernel
theorem dX7_readsItem_139 : decode cX7_readsItem 139 = .ok (.dup2, 1) := by decide +kernel
theorem dX7_readsItem_140 : decode cX7_readsItem 140 = .ok (.iaload, 1) := by decide +kernel
theorem dX7_readsItem_141 : decode cX7_readsItem 141 = .ok (.iconst 1, 1) := by decide +kernel
theorem dX7_readsItem_142 : decode cX7_readsItem 142 = .ok (.iadd, 1) := by decide +kernel
theorem dX7_readsItem_143 : decode cX7_readsItem 143 = .ok (.iastore, 1) := by decide +kernel
theorem dX7_readsItem_144 : decode cX7_readsItem 144 = .ok (.iconst 1, 1) := by decide +kernel
theorem dX7_readsItem_145 : decode cX7_readsItem 145 = .ok (.ireturn, 1) := by decide +kernel
theorem dX7_readsItem_146 : decode cX7_readsItem 146 = .ok (.iload_n 2, 1) := by decide +kernel
theorem dX7_readsItem_147 : decode cX7_readsItem 147 = .ok (.iconst 4, 1) := by decide +kernel
theorem dX7_readsItem_148 : decode cX7_readsItem 148 = .ok (.if_icmp .eq 17, 3) := by decide +kernel
theorem dX7_readsItem_151 : decode cX7_readsItem 151 = .ok (.aload_n 0, 1) := by decide +kernel
theorem dX7_readsItem_152 : decode cX7_readsItem 152 = .ok (.bipush 18, 2) := by decide +kernel
theorem dX7_readsItem_154 : decode cX7_readsItem 154 = .ok (.iload_n 2, 1) := by decide +kernel
theorem dX7_readsItem_155 : decode cX7_readsItem 155 = .ok (.iadd, 1) := by decide +kernel
theorem dX7_readsItem_156 : decode cX7_readsItem 156 = .ok (.iconst 0, 1) := by decide +kernel
theorem dX7_readsItem_157 : decode cX7_readsItem 157 = .ok (.bipush 9, 2) := by decide +kernel
theorem dX7_readsItem_159 : decode cX7_readsItem 159 = .ok (.invokevirtual 85, 3) := by decide +kernel
theorem dX7_readsItem_162 : decode cX7_readsItem 162 = .ok (.ifCond .ne 5, 3) := by decide +kernel
theorem dX7_readsItem_165 : decode cX7_readsItem 165 = .ok (.iconst 0, 1) := by decide +kernel
theorem dX7_readsItem_166 : decode cX7_readsItem 166 = .ok (.ireturn, 1) := by decide +kernel
theorem dX7_readsItem_167 : decode cX7_readsItem 167 = .ok (.aload_n 0, 1) := by decide +kernel
theorem dX7_readsItem_168 : decode cX7_readsItem 168 = .ok (.getfield 16, 3) := by decide +kernel
theorem dX7_readsItem_171 : decode cX7_readsItem 171 = .ok (.iconst 1, 1) := by decide +kernel
theorem dX7_readsItem_172 : decode cX7_readsItem 172 = .ok (.dup2, 1) := by decide +kernel
theorem dX7_readsItem_173 : decode cX7_readsItem 173 = .ok (.iaload, 1) := by decide +kernel
theorem dX7_readsItem_174 : decode cX7_readsItem 174 = .ok (.iconst 1, 1) := by decide +kernel
theorem dX7_readsItem_175 : decode cX7_readsItem 175 = .ok (.iadd, 1) := by decide +kernel
theorem dX7_readsItem_176 : decode cX7_readsItem 176 = .ok (.iastore, 1) := by decide +kernel
theorem dX7_readsItem_177 : decode cX7_readsItem 177 = .ok (.iconst 1, 1) := by decide +kernel
theorem dX7_readsItem_178 : decode cX7_readsItem 178 = .ok (.ireturn, 1) := by decide +kernel
theorem dX7_readsItem_179 : decode cX7_readsItem 179 = .ok (.aload_n 0, 1) := by decide +kernel
theorem dX7_readsItem_180 : decode cX7_readsItem 180 = .ok (.iconst 1, 1) := by decide +kernel
theorem dX7_readsItem_181 : decode cX7_readsItem 181 = .ok (.iconst 2, 1) := by decide +kernel
theorem dX7_readsItem_182 : decode cX7_readsItem 182 = .ok (.iconst 1, 1) := by decide +kernel
theorem dX7_readsItem_183 : decode cX7_readsItem 183 = .ok (.bipush 9, 2) := by decide +kernel
theorem dX7_readsItem_185 : decode cX7_readsItem 185 = .ok (.invokevirtual 88, 3) := by decide +kernel
theorem dX7_readsItem_188 : decode cX7_readsItem 188 = .ok (.ireturn, 1) := by decide +kernel
theorem dX7_readsItem_189 : decode cX7_readsItem 189 = .ok (.aload_n 0, 1) := by decide +kernel
theorem dX7_readsItem_190 : decode cX7_readsItem 190 = .ok (.iconst 2, 1) := by decide +kernel
theorem dX7_readsItem_191 : decode cX7_readsItem 191 = .ok (.iconst 3, 1) := by decide +kernel
theorem dX7_readsItem_192 : decode cX7_readsItem 192 = .ok (.iconst 0, 1) := by decide +kernel
theorem dX7_readsItem_193 : decode cX7_readsItem 193 = .ok (.bipush 20, 2) := by decide +kernel
theorem dX7_readsItem_195 : decode cX7_readsItem 195 = .ok (.invokevirtual 88, 3) := by decide +kernel
theorem dX7_readsItem_198 : decode cX7_readsItem 198 = .ok (.ireturn, 1) := by decide +kernel
theorem dX7_readsItem_199 : decode cX7_readsItem 199 = .ok (.aload_n 0, 1) := by decide +kernel
theorem dX7_readsItem_200 : decode cX7_readsItem 200 = .ok (.iconst 4, 1) := by decide +kernel
theorem dX7_readsItem_201 : decode cX7_readsItem 201 = .ok (.iconst 4, 1) := by decide +kernel
theorem dX7_readsItem_202 : decode cX7_readsItem 202 = .ok (.bipush 21, 2) := by decide +kernel
theorem dX7_readsItem_204 : decode cX7_readsItem 204 = .ok (.bipush 60, 2) := by decide +kernel
theorem dX7_readsItem_206 : decode cX7_readsItem 206 = .ok (.invokevirtual 88, 3) := by decide +kernel
theorem dX7_readsItem_209 : decode cX7_readsItem 209 = .ok (.ireturn, 1) := by decide +kernel
theorem dX7_readsItem_210 : decode cX7_readsItem 210 = .ok (.aload_n 0, 1) := by decide +kernel
theorem dX7_readsItem_211 : decode cX7_readsItem 211 = .ok (.bipush 8, 2) := by decide +kernel
theorem dX7_readsItem_213 : decode cX7_readsItem 213 = .ok (.iconst 5, 1) := by decide +kernel
theorem dX7_readsItem_214 : decode cX7_readsItem 214 = .ok (.iconst 1, 1) := by decide +kernel
theorem dX7_readsItem_215 : decode cX7_readsItem 215 = .ok (.bipush 96, 2) := by decide +kernel
theorem dX7_readsItem_217 : decode cX7_readsItem 217 = .ok (.invokevirtual 88, 3) := by decide +kernel
theorem dX7_readsItem_220 : decode cX7_readsItem 220 = .ok (.ireturn, 1) := by decide +kernel
theorem dX7_readsItem_221 : decode cX7_readsItem 221 = .ok (.iconst 0, 1) := by decide +kernel
theorem dX7_readsItem_222 : decode cX7_readsItem 222 = .ok (.ireturn, 1) := by decide +kernel
set_option maxRecDepth 20000 in
theorem ggX7_reads_X7_token : GoodIn wsX7_reads wsX7_token := goodIn_r _ [8, 2, 9, 3, 10, 11, 12, 13, 14, 7, 15, 16, 17, 18, 19, 20, 21, 22, 23, 24, 25, 38, 39, 40, 41, 42, 43, 44, 45, 46, 47, 48, 49, 50, 51, 52, 53, 54, 55, 56] (by decide +kernel) (by decide +kernel)
set_option maxRecDepth 20000 in
theorem gX7_reads_X7_token : GoodIn wsX7_reads (wsV RX7 82 RX7 yX7_token wsX7_token) := goodIn_app (goodIn_of _ (by decide +kernel)) ggX7_reads_X7_token
set_option maxRecDepth 20000 in
theorem ggX7_reads_X7_readsItem : GoodIn wsX7_reads wsX7_readsItem := goodIn_r _ [29, 3, 10, 1, 30, 31, 32, 7, 33, 4, 5, 6, 8, 2, 9, 11, 12, 13, 14, 15, 16, 17, 18, 19, 20, 21, 22, 23, 24, 25, 34, 35, 36, 37, 38, 39, 40, 41, 42, 43, 44, 45, 46, 47, 48, 49, 50, 51, 52, 53, 54, 55, 56] (by decide +kernel) (by decide +kernel)
set_option maxRecDepth 20000 in
theorem gX7_reads_X7_readsItem : GoodIn wsX7_reads (wsV RX7 92 RX7 yX7_readsItem wsX7_readsItem) := goodIn_app (goodIn_of _ (by decide +kernel)) ggX7_reads_X7_readsItem
theorem dX7_reads_0 : decode cX7_reads 0 = .ok (.iconst 0, 1) := by decide +kernel
theorem dX7_reads_1 : decode cX7_reads 1 = .ok (.istore_n 1, 1) := by decide +kernel
theorem dX7_reads_2 : decode cX7_reads 2 = .ok (.iload_n 1, 1) := by decide +kernel
theorem dX7_reads_3 : decode cX7_reads 3 = .ok (.bipush 22, 2) := by decide +kernel
theorem dX7_reads_5 : decode cX7_reads 5 = .ok (.if_icmp .ge 16, 3) := by decide +kernel
theorem dX7_reads_8 : decode cX7_reads 8 = .ok (.aload_n 0, 1) := by decide +kernel
theorem dX7_reads_9 : decode cX7_reads 9 = .ok (.getfield 16, 3) := by decide +kernel
theorem dX7_reads_12 : decode cX7_reads 12 = .ok (.iload_n 1, 1) := by decide +kernel
theorem dX7_reads_13 : decode cX7_reads 13 = .ok (.iconst 0, 1) := by decide +kernel
theorem dX7_reads_14 : decode cX7_reads 14 = .ok (.iastore, 1) := by decide +kernel
theorem dX7_reads_15 : decode cX7_reads 15 = .ok (.iinc 1 1, 3) := by decide +kernel
theorem dX7_reads_18 : decode cX7_reads 18 = .ok (.goto (-16), 3) := by decide +kernel
theorem dX7_reads_21 : decode cX7_reads 21 = .ok (.aload_n 0, 1) := by decide +kernel
theorem dX7_reads_22 : decode cX7_reads 22 = .ok (.getfield 16, 3) := by decide +kernel
theorem dX7_reads_25 : decode cX7_reads 25 = .ok (.iconst 2, 1) := by decide +kernel
theorem dX7_reads_26 : decode cX7_reads 26 = .ok (.iconst 2, 1) := by decide +kernel
theorem dX7_reads_27 : decode cX7_reads 27 = .ok (.iastore, 1) := by decide +kernel
theorem dX7_reads_28 : decode cX7_reads 28 = .ok (.aload_n 0, 1) := by decide +kernel
theorem dX7_reads_29 : decode cX7_reads 29 = .ok (.getfield 16, 3) := by decide +kernel
theorem dX7_reads_32 : decode cX7_reads 32 = .ok (.iconst 3, 1) := by decide +kernel
theorem dX7_reads_33 : decode cX7_reads 33 = .ok (.iconst 5, 1) := by decide +kernel
theorem dX7_reads_34 : decode cX7_reads 34 = .ok (.iastore, 1) := by decide +kernel
theorem dX7_reads_35 : decode cX7_reads 35 = .ok (.aload_n 0, 1) := by decide +kernel
theorem dX7_reads_36 : decode cX7_reads 36 = .ok (.getfield 16, 3) := by decide +kernel
theorem dX7_reads_39 : decode cX7_reads 39 = .ok (.iconst 4, 1) := by decide +kernel
theorem dX7_reads_40 : decode cX7_reads 40 = .ok (.bipush 25, 2) := by decide +kernel
theorem dX7_reads_42 : decode cX7_reads 42 = .ok (.iastore, 1) := by decide +kernel
theorem dX7_reads_43 : decode cX7_reads 43 = .ok (.aload_n 0, 1) := by decide +kernel
theorem dX7_reads_44 : decode cX7_reads 44 = .ok (.getfield 16, 3) := by decide +kernel
theorem dX7_reads_47 : decode cX7_reads 47 = .ok (.iconst 5, 1) := by decide +kernel
theorem dX7_reads_48 : decode cX7_reads 48 = .ok (.bipush 48, 2) := by decide +kernel
theorem dX7_reads_50 : decode cX7_reads 50 = .ok (.iastore, 1) := by decide +kernel
theorem dX7_reads_51 : decode cX7_reads 51 = .ok (.aload_n 0, 1) := by decide +kernel
theorem dX7_reads_52 : decode cX7_reads 52 = .ok (.iconst 0, 1) := by decide +kernel
theorem dX7_reads_53 : decode cX7_reads 53 = .ok (.putfield 59, 3) := by decide +kernel
theorem dX7_reads_56 : decode cX7_reads 56 = .ok (.aload_n 0, 1) := by decide +kernel
theorem dX7_reads_57 : decode cX7_reads 57 = .ok (.invokevirtual 82, 3) := by decide +kernel
theorem dX7_reads_60 : decode cX7_reads 60 = .ok (.aload_n 0, 1) := by decide +kernel
theorem dX7_reads_61 : decode cX7_reads 61 = .ok (.getfield 76, 3) := by decide +kernel
theorem dX7_reads_64 : decode cX7_reads 64 = .ok (.ifCond .eq 44, 3) := by decide +kernel
theorem dX7_reads_67 : decode cX7_reads 67 = .ok (.aload_n 0, 1) := by decide +kernel
theorem dX7_reads_68 : decode cX7_reads 68 = .ok (.invokevirtual 92, 3) := by decide +kernel
theorem dX7_reads_71 : decode cX7_reads 71 = .ok (.ifCond .ne 5, 3) := by decide +kernel
theorem dX7_reads_74 : decode cX7_reads 74 = .ok (.iconst 0, 1) := by decide +kernel
theorem dX7_reads_75 : decode cX7_reads 75 = .ok (.ireturn, 1) := by decide +kernel
theorem dX7_reads_76 : decode cX7_reads 76 = .ok (.aload_n 0, 1) := by decide +kernel
theorem dX7_reads_77 : decode cX7_reads 77 = .ok (.invokevirtual 82, 3) := by decide +kernel
theorem dX7_reads_80 : decode cX7_reads 80 = .ok (.aload_n 0, 1) := by decide +kernel
theorem dX7_reads_81 : decode cX7_reads 81 = .ok (.getfield 76, 3) := by decide +kernel
theorem dX7_reads_84 : decode cX7_reads 84 = .ok (.iconst 3, 1) := by decide +kernel
theorem dX7_reads_85 : decode cX7_reads 85 = .ok (.if_icmp .eq 5, 3) := by decide +kernel
theorem dX7_reads_88 : decode cX7_reads 88 = .ok (.iconst 0, 1) := by decide +kernel
theorem dX7_reads_89 : decode cX7_reads 89 = .ok (.ireturn, 1) := by decide +kernel
theorem dX7_reads_90 : decode cX7_reads 90 = .ok (.aload_n 0, 1) := by decide +kernel
theorem dX7_reads_91 : decode cX7_reads 91 = .ok (.getfield 16, 3) := by decide +kernel
theorem dX7_reads_94 : decode cX7_reads 94 = .ok (.bipush 6, 2) := by decide +kernel
theorem dX7_reads_96 : decode cX7_reads 96 = .ok (.dup2, 1) := by decide +kernel
theorem dX7_reads_97 : decode cX7_reads 97 = .ok (.iaload, 1) := by decide +kernel
theorem dX7_reads_98 : decode cX7_reads 98 = .ok (.iconst 1, 1) := by decide +kernel
theorem dX7_reads_99 : decode cX7_reads 99 = .ok (.iadd, 1) := by decide +kernel
theorem dX7_reads_100 : decode cX7_reads 100 = .ok (.iastore, 1) := by decide +kernel
theorem dX7_reads_101 : decode cX7_reads 101 = .ok (.aload_n 0, 1) := by decide +kernel
theorem dX7_reads_102 : decode cX7_reads 102 = .ok (.invokevirtual 82, 3) := by decide +kernel
theorem dX7_reads_105 : decode cX7_reads 105 = .ok (.goto (-45), 3) := by decide +kernel
theorem dX7_reads_108 : decode cX7_reads 108 = .ok (.iconst 1, 1) := by decide +kernel
theorem dX7_reads_109 : decode cX7_reads 109 = .ok (.ireturn, 1) := by decide +kernel
theorem dX7_begins_0 : decode cX7_begins 0 = .ok (.iconst 0, 1) := by decide +kernel
theorem dX7_begins_1 : decode cX7_begins 1 = .ok (.istore_n 1, 1) := by decide +kernel
theorem dX7_begins_2 : decode cX7_begins 2 = .ok (.iload_n 1, 1) := by decide +kernel
theorem dX7_begins_3 : decode cX7_begins 3 = .ok (.bipush 22, 2) := by decide +kernel
theorem dX7_begins_5 : decode cX7_begins 5 = .ok (.if_icmp .ge 21, 3) := by decide +kernel
theorem dX7_begins_8 : decode cX7_begins 8 = .ok (.aload_n 0, 1) := by decide +kernel
theorem dX7_begins_9 : decode cX7_begins 9 = .ok (.getfield 13, 3) := by decide +kernel
theorem dX7_begins_12 : decode cX7_begins 12 = .ok (.iload_n 1, 1) := by decide +kernel
theorem dX7_begins_13 : decode cX7_begins 13 = .ok (.aload_n 0, 1) := by decide +kernel
theorem dX7_begins_14 : decode cX7_begins 14 = .ok (.getfield 16, 3) := by decide +kernel
theorem dX7_begins_17 : decode cX7_begins 17 = .ok (.iload_n 1, 1) := by decide +kernel
theorem dX7_begins_18 : decode cX7_begins 18 = .ok (.iaload, 1) := by decide +kernel
theorem dX7_begins_19 : decode cX7_begins 19 = .ok (.iastore, 1) := by decide +kernel
theorem dX7_begins_20 : decode cX7_begins 20 = .ok (.iinc 1 1, 3) := by decide +kernel
theorem dX7_begins_23 : decode cX7_begins 23 = .ok (.goto (-21), 3) := by decide +kernel
theorem dX7_begins_26 : decode cX7_begins 26 = .ok (.iconst 0, 1) := by decide +kernel
theorem dX7_begins_27 : decode cX7_begins 27 = .ok (.istore_n 1, 1) := by decide +kernel
theorem dX7_begins_28 : decode cX7_begins 28 = .ok (.iload_n 1, 1) := by decide +kernel
theorem dX7_begins_29 : decode cX7_begins 29 = .ok (.bipush 8, 2) := by decide +kernel
theorem dX7_begins_31 : decode cX7_begins 31 = .ok (.if_icmp .ge 35, 3) := by decide +kernel
theorem dX7_begins_34 : decode cX7_begins 34 = .ok (.aload_n 0, 1) := by decide +kernel
theorem dX7_begins_35 : decode cX7_begins 35 = .ok (.getfield 19, 3) := by decide +kernel
theorem dX7_begins_38 : decode cX7_begins 38 = .ok (.iload_n 1, 1) := by decide +kernel
theorem dX7_begins_39 : decode cX7_begins 39 = .ok (.iload_n 1, 1) := by decide +kernel
theorem dX7_begins_40 : decode cX7_begins 40 = .ok (.iconst 4, 1) := by decide +kernel
theorem dX7_begins_41 : decode cX7_begins 41 = .ok (.if_icmp .ge 7, 3) := by decide +kernel
theorem dX7_begins_44 : decode cX7_begins 44 = .ok (.iconst 0, 1) := by decide +kernel
theorem dX7_begins_45 : decode cX7_begins 45 = .ok (.goto 14, 3) := by decide +kernel
theorem dX7_begins_48 : decode cX7_begins 48 = .ok (.aload_n 0, 1) := by decide +kernel
theorem dX7_begins_49 : decode cX7_begins 49 = .ok (.getfield 13, 3) := by decide +kernel
theorem dX7_begins_52 : decode cX7_begins 52 = .ok (.bipush 18, 2) := by decide +kernel
theorem dX7_begins_54 : decode cX7_begins 54 = .ok (.iload_n 1, 1) := by decide +kernel
theorem dX7_begins_55 : decode cX7_begins 55 = .ok (.iadd, 1) := by decide +kernel
theorem dX7_begins_56 : decode cX7_begins 56 = .ok (.iconst 4, 1) := by decide +kernel
theorem dX7_begins_57 : decode cX7_begins 57 = .ok (.isub, 1) := by decide +kernel
theorem dX7_begins_58 : decode cX7_begins 58 = .ok (.iaload, 1) := by decide +kernel
theorem dX7_begins_59 : decode cX7_begins 59 = .ok (.iastore, 1) := by decide +kernel
theorem dX7_begins_60 : decode cX7_begins 60 = .ok (.iinc 1 1, 3) := by decide +kernel
theorem dX7_begins_63 : decode cX7_begins 63 = .ok (.goto (-35), 3) := by decide +kernel
theorem dX7_begins_66 : decode cX7_begins 66 = .ok (.aload_n 0, 1) := by decide +kernel
theorem dX7_begins_67 : decode cX7_begins 67 = .ok (.iconst 0, 1) := by decide +kernel
theorem dX7_begins_68 : decode cX7_begins 68 = .ok (.putfield 95, 3) := by decide +kernel
theorem dX7_begins_71 : decode cX7_begins 71 = .ok (.aload_n 0, 1) := by decide +kernel
theorem dX7_begins_72 : decode cX7_begins 72 = .ok (.iconst 0, 1) := by decide +kernel
theorem dX7_begins_73 : decode cX7_begins 73 = .ok (.putfield 98, 3) := by decide +kernel
theorem dX7_begins_76 : decode cX7_begins 76 = .ok (.aload_n 0, 1) := by decide +kernel
theorem dX7_begins_77 : decode cX7_begins 77 = .ok (.getfield 28, 3) := by decide +kernel
theorem dX7_begins_80 : decode cX7_begins 80 = .ok (.iconst 0, 1) := by decide +kernel
theorem dX7_begins_81 : decode cX7_begins 81 = .ok (.iconst 0, 1) := by decide +kernel
theorem dX7_begins_82 : decode cX7_begins 82 = .ok (.bastore, 1) := by decide +kernel
theorem dX7_begins_83 : decode cX7_begins 83 = .ok (.aload_n 0, 1) := by decide +kernel
theorem dX7_begins_84 : decode cX7_begins 84 = .ok (.getfield 28, 3) := by decide +kernel
theorem dX7_begins_87 : decode cX7_begins 87 = .ok (.iconst 1, 1) := by decide +kernel
theorem dX7_begins_88 : decode cX7_begins 88 = .ok (.iconst 0, 1) := by decide +kernel
theorem dX7_begins_89 : decode cX7_begins 89 = .ok (.bastore, 1) := by decide +kernel
theorem dX7_begins_90 : decode cX7_begins 90 = .ok (.return_, 1) := by decide +kernel
set_option maxRecDepth 20000 in
theorem ggX7_nursery_X7_reads : GoodIn wsX7_nursery wsX7_reads := goodIn_r _ [8, 9, 10, 11, 12, 13, 14, 7, 15, 1, 16, 17, 18, 19, 20, 21, 2, 22, 23, 24, 25, 26, 27, 28, 29, 30, 31, 32, 33, 34, 35, 36, 37, 38, 39, 40, 41, 42, 51, 52, 53, 54, 55, 56, 57, 58, 59, 60, 61, 62, 63, 64, 65, 66, 67, 68, 69] (by decide +kernel) (by decide +kernel)
set_option maxRecDepth 20000 in
theorem gX7_nursery_X7_reads : GoodIn wsX7_nursery (wsV RX7 44 RX7 yX7_reads wsX7_reads) := goodIn_app (goodIn_of _ (by decide +kernel)) ggX7_nursery_X7_reads
set_option maxRecDepth 20000 in
theorem ggX7_nursery_X7_begins : GoodIn wsX7_nursery wsX7_begins := goodIn_r _ [46, 3, 9, 47, 48, 49, 50, 51, 52, 53, 54, 55, 56, 57, 58, 59, 60, 61, 62, 63, 64, 65, 66, 67, 68, 69] (by decide +kernel) (by decide +kernel)
set_option maxRecDepth 20000 in
theorem gX7_nursery_X7_begins : GoodIn wsX7_nursery (wsV RX7 48 RX7 yX7_begins wsX7_begins) := goodIn_app (goodIn_of _ (by decide +kernel)) ggX7_nursery_X7_begins
theorem dX7_nursery_0 : decode cX7_nursery 0 = .ok (.aload_n 0, 1) := by decide +kernel
theorem dX7_nursery_1 : decode cX7_nursery 1 = .ok (.invokevirtual 44, 3) := by decide +kernel
theorem dX7_nursery_4 : decode cX7_nursery 4 = .ok (.ifCond .ne 11, 3) := by decide +kernel
theorem dX7_nursery_7 : decode cX7_nursery 7 = .ok (.bipush (-10), 2) := by decide +kernel
theorem dX7_nursery_9 : decode cX7_nursery 9 = .ok (.aload_n 0, 1) := by decide +kernel
theorem dX7_nursery_10 : decode cX7_nursery 10 = .ok (.getfield 66, 3) := by decide +kernel
theorem dX7_nursery_13 : decode cX7_nursery 13 = .ok (.isub, 1) := by decide +kernel
theorem dX7_nursery_14 : decode cX7_nursery 14 = .ok (.ireturn, 1) := by decide +kernel
theorem dX7_nursery_15 : decode cX7_nursery 15 = .ok (.aload_n 0, 1) := by decide +kernel
theorem dX7_nursery_16 : decode cX7_nursery 16 = .ok (.invokevirtual 48, 3) := by decide +kernel
theorem dX7_nursery_19 : decode cX7_nursery 19 = .ok (.aload_n 0, 1) := by decide +kernel
theorem dX7_nursery_20 : decode cX7_nursery 20 = .ok (.iconst 0, 1) := by decide +kernel
theorem dX7_nursery_21 : decode cX7_nursery 21 = .ok (.putfield 55, 3) := by decide +kernel
theorem dX7_nursery_24 : decode cX7_nursery 24 = .ok (.aload_n 0, 1) := by decide +kernel
theorem dX7_nursery_25 : decode cX7_nursery 25 = .ok (.getfield 13, 3) := by decide +kernel
theorem dX7_nursery_28 : decode cX7_nursery 28 = .ok (.bipush 6, 2) := by decide +kernel
theorem dX7_nursery_30 : decode cX7_nursery 30 = .ok (.iaload, 1) := by decide +kernel
theorem dX7_nursery_31 : decode cX7_nursery 31 = .ok (.ireturn, 1) := by decide +kernel
set_option maxRecDepth 20000 in
theorem ggX7_goodbye_X7_isGoodbye : GoodIn wsX7_goodbye wsX7_isGoodbye := goodIn_r _ [6, 1, 7, 8, 5, 9, 10, 11, 12, 13, 14, 15, 16, 17, 18, 19, 20, 21, 22, 23, 24, 25, 26, 27, 28] (by decide +kernel) (by decide +kernel)
set_option maxRecDepth 20000 in
theorem gX7_goodbye_X7_isGoodbye : GoodIn wsX7_goodbye (wsV RX7 101 RX7 yX7_isGoodbye wsX7_isGoodbye) := goodIn_app (goodIn_of _ (by decide +kernel)) ggX7_goodbye_X7_isGoodbye
set_option maxRecDepth 20000 in
theorem ggX7_goodbye_X7_in : GoodIn wsX7_goodbye wsX7_in := goodIn_r _ [9] (by decide +kernel) (by decide +kernel)
set_option maxRecDepth 20000 in
theorem gX7_goodbye_X7_in : GoodIn wsX7_goodbye (va_wsS RX7 51 yX7_in wsX7_in) := goodIn_app (goodIn_of _ (by decide +kernel)) ggX7_goodbye_X7_in
theorem dX7_goodbye_0 : decode cX7_goodbye 0 = .ok (.aload_n 0, 1) := by decide +kernel
theorem dX7_goodbye_1 : decode cX7_goodbye 1 = .ok (.iload_n 1, 1) := by decide +kernel
theorem dX7_goodbye_2 : decode cX7_goodbye 2 = .ok (.invokevirtual 101, 3) := by decide +kernel
theorem dX7_goodbye_5 : decode cX7_goodbye 5 = .ok (.ifCond .eq 12, 3) := by decide +kernel
theorem dX7_goodbye_8 : decode cX7_goodbye 8 = .ok (.iload_n 2, 1) := by decide +kernel
theorem dX7_goodbye_9 : decode cX7_goodbye 9 = .ok (.iconst 0, 1) := by decide +kernel
theorem dX7_goodbye_10 : decode cX7_goodbye 10 = .ok (.iconst 1, 1) := by decide +kernel
theorem dX7_goodbye_11 : decode cX7_goodbye 11 = .ok (.invokestatic 51, 3) := by decide +kernel
theorem dX7_goodbye_14 : decode cX7_goodbye 14 = .ok (.ifCond .ne 7, 3) := by decide +kernel
theorem dX7_goodbye_17 : decode cX7_goodbye 17 = .ok (.iconst (-1), 1) := by decide +kernel
theorem dX7_goodbye_18 : decode cX7_goodbye 18 = .ok (.goto 21, 3) := by decide +kernel
theorem dX7_goodbye_21 : decode cX7_goodbye 21 = .ok (.aload_n 0, 1) := by decide +kernel
theorem dX7_goodbye_22 : decode cX7_goodbye 22 = .ok (.getfield 13, 3) := by decide +kernel
theorem dX7_goodbye_25 : decode cX7_goodbye 25 = .ok (.iload_n 2, 1) := by decide +kernel
theorem dX7_goodbye_26 : decode cX7_goodbye 26 = .ok (.ifCond .ne 8, 3) := by decide +kernel
theorem dX7_goodbye_29 : decode cX7_goodbye 29 = .ok (.bipush 8, 2) := by decide +kernel
theorem dX7_goodbye_31 : decode cX7_goodbye 31 = .ok (.goto 5, 3) := by decide +kernel
theorem dX7_goodbye_34 : decode cX7_goodbye 34 = .ok (.bipush 13, 2) := by decide +kernel
theorem dX7_goodbye_36 : decode cX7_goodbye 36 = .ok (.iload_n 1, 1) := by decide +kernel
theorem dX7_goodbye_37 : decode cX7_goodbye 37 = .ok (.iadd, 1) := by decide +kernel
theorem dX7_goodbye_38 : decode cX7_goodbye 38 = .ok (.iaload, 1) := by decide +kernel
theorem dX7_goodbye_39 : decode cX7_goodbye 39 = .ok (.ireturn, 1) := by decide +kernel
theorem dX7_ones_0 : decode cX7_ones 0 = .ok (.iconst 0, 1) := by decide +kernel
theorem dX7_ones_1 : decode cX7_ones 1 = .ok (.istore_n 1, 1) := by decide +kernel
theorem dX7_ones_2 : decode cX7_ones 2 = .ok (.iconst 0, 1) := by decide +kernel
theorem dX7_ones_3 : decode cX7_ones 3 = .ok (.istore_n 2, 1) := by decide +kernel
theorem dX7_ones_4 : decode cX7_ones 4 = .ok (.iload_n 2, 1) := by decide +kernel
theorem dX7_ones_5 : decode cX7_ones 5 = .ok (.iconst 4, 1) := by decide +kernel
theorem dX7_ones_6 : decode cX7_ones 6 = .ok (.if_icmp .ge 17, 3) := by decide +kernel
theorem dX7_ones_9 : decode cX7_ones 9 = .ok (.iload_n 1, 1) := by decide +kernel
theorem dX7_ones_10 : decode cX7_ones 10 = .ok (.iload_n 0, 1) := by decide +kernel
theorem dX7_ones_11 : decode cX7_ones 11 = .ok (.iload_n 2, 1) := by decide +kernel
theorem dX7_ones_12 : decode cX7_ones 12 = .ok (.ishr, 1) := by decide +kernel
theorem dX7_ones_13 : decode cX7_ones 13 = .ok (.iconst 1, 1) := by decide +kernel
theorem dX7_ones_14 : decode cX7_ones 14 = .ok (.iand, 1) := by decide +kernel
theorem dX7_ones_15 : decode cX7_ones 15 = .ok (.iadd, 1) := by decide +kernel
theorem dX7_ones_16 : decode cX7_ones 16 = .ok (.istore_n 1, 1) := by decide +kernel
theorem dX7_ones_17 : decode cX7_ones 17 = .ok (.iinc 2 1, 3) := by decide +kernel
theorem dX7_ones_20 : decode cX7_ones 20 = .ok (.goto (-16), 3) := by decide +kernel
theorem dX7_ones_23 : decode cX7_ones 23 = .ok (.iload_n 1, 1) := by decide +kernel
theorem dX7_ones_24 : decode cX7_ones 24 = .ok (.ireturn, 1) := by decide +kernel
theorem dX7_isIll_0 : decode cX7_isIll 0 = .ok (.aload_n 0, 1) := by decide +kernel
theorem dX7_isIll_1 : decode cX7_isIll 1 = .ok (.getfield 19, 3) := by decide +kernel
theorem dX7_isIll_4 : decode cX7_isIll 4 = .ok (.iconst 3, 1) := by decide +kernel
theorem dX7_isIll_5 : decode cX7_isIll 5 = .ok (.iaload, 1) := by decide +kernel
theorem dX7_isIll_6 : decode cX7_isIll 6 = .ok (.iload_n 1, 1) := by decide +kernel
theorem dX7_isIll_7 : decode cX7_isIll 7 = .ok (.ishr, 1) := by decide +kernel
theorem dX7_isIll_8 : decode cX7_isIll 8 = .ok (.iconst 1, 1) := by decide +kernel
theorem dX7_isIll_9 : decode cX7_isIll 9 = .ok (.iand, 1) := by decide +kernel
theorem dX7_isIll_10 : decode cX7_isIll 10 = .ok (.iconst 1, 1) := by decide +kernel
theorem dX7_isIll_11 : decode cX7_isIll 11 = .ok (.if_icmp .ne 7, 3) := by decide +kernel
theorem dX7_isIll_14 : decode cX7_isIll 14 = .ok (.iconst 1, 1) := by decide +kernel
theorem dX7_isIll_15 : decode cX7_isIll 15 = .ok (.goto 4, 3) := by decide +kernel
theorem dX7_isIll_18 : decode cX7_isIll 18 = .ok (.iconst 0, 1) := by decide +kernel
theorem dX7_isIll_19 : decode cX7_isIll 19 = .ok (.ireturn, 1) := by decide +kernel
theorem dX7_calmTo_0 : decode cX7_calmTo 0 = .ok (.aload_n 0, 1) := by decide +kernel
theorem dX7_calmTo_1 : decode cX7_calmTo 1 = .ok (.getfield 13, 3) := by decide +kernel
theorem dX7_calmTo_4 : decode cX7_calmTo 4 = .ok (.iconst 3, 1) := by decide +kernel
theorem dX7_calmTo_5 : decode cX7_calmTo 5 = .ok (.iaload, 1) := by decide +kernel
theorem dX7_calmTo_6 : decode cX7_calmTo 6 = .ok (.iload_n 3, 1) := by decide +kernel
theorem dX7_calmTo_7 : decode cX7_calmTo 7 = .ok (.iadd, 1) := by decide +kernel
theorem dX7_calmTo_8 : decode cX7_calmTo 8 = .ok (.aload_n 0, 1) := by decide +kernel
theorem dX7_calmTo_9 : decode cX7_calmTo 9 = .ok (.getfield 13, 3) := by decide +kernel
theorem dX7_calmTo_12 : decode cX7_calmTo 12 = .ok (.bipush 8, 2) := by decide +kernel
theorem dX7_calmTo_14 : decode cX7_calmTo 14 = .ok (.iload_n 1, 1) := by decide +kernel
theorem dX7_calmTo_15 : decode cX7_calmTo 15 = .ok (.iadd, 1) := by decide +kernel
theorem dX7_calmTo_16 : decode cX7_calmTo 16 = .ok (.iaload, 1) := by decide +kernel
theorem dX7_calmTo_17 : decode cX7_calmTo 17 = .ok (.isub, 1) := by decide +kernel
theorem dX7_calmTo_18 : decode cX7_calmTo 18 = .ok (.istore 4, 2) := by decide +kernel
theorem dX7_calmTo_20 : decode cX7_calmTo 20 = .ok (.iload 4, 2) := by decide +kernel
theorem dX7_calmTo_22 : decode cX7_calmTo 22 = .ok (.ifCond .ge 7, 3) := by decide +kernel
theorem dX7_calmTo_25 : decode cX7_calmTo 25 = .ok (.iconst 0, 1) := by decide +kernel
theorem dX7_calmTo_26 : decode cX7_calmTo 26 = .ok (.goto 16, 3) := by decide +kernel
theorem dX7_calmTo_29 : decode cX7_calmTo 29 = .ok (.iconst 2, 1) := by decide +kernel
theorem dX7_calmTo_30 : decode cX7_calmTo 30 = .ok (.iload_n 2, 1) := by decide +kernel
theorem dX7_calmTo_31 : decode cX7_calmTo 31 = .ok (.imul, 1) := by decide +kernel
theorem dX7_calmTo_32 : decode cX7_calmTo 32 = .ok (.iload 4, 2) := by decide +kernel
theorem dX7_calmTo_34 : decode cX7_calmTo 34 = .ok (.aload_n 0, 1) := by decide +kernel
theorem dX7_calmTo_35 : decode cX7_calmTo 35 = .ok (.getfield 13, 3) := by decide +kernel
theorem dX7_calmTo_38 : decode cX7_calmTo 38 = .ok (.iconst 2, 1) := by decide +kernel
theorem dX7_calmTo_39 : decode cX7_calmTo 39 = .ok (.iaload, 1) := by decide +kernel
theorem dX7_calmTo_40 : decode cX7_calmTo 40 = .ok (.idiv, 1) := by decide +kernel
theorem dX7_calmTo_41 : decode cX7_calmTo 41 = .ok (.iadd, 1) := by decide +kernel
theorem dX7_calmTo_42 : decode cX7_calmTo 42 = .ok (.istore 5, 2) := by decide +kernel
theorem dX7_calmTo_44 : decode cX7_calmTo 44 = .ok (.iload 5, 2) := by decide +kernel
theorem dX7_calmTo_46 : decode cX7_calmTo 46 = .ok (.bipush 96, 2) := by decide +kernel
theorem dX7_calmTo_48 : decode cX7_calmTo 48 = .ok (.if_icmp .le 8, 3) := by decide +kernel
theorem dX7_calmTo_51 : decode cX7_calmTo 51 = .ok (.bipush 96, 2) := by decide +kernel
theorem dX7_calmTo_53 : decode cX7_calmTo 53 = .ok (.goto 5, 3) := by decide +kernel
theorem dX7_calmTo_56 : decode cX7_calmTo 56 = .ok (.iload 5, 2) := by decide +kernel
theorem dX7_calmTo_58 : decode cX7_calmTo 58 = .ok (.ireturn, 1) := by decide +kernel
theorem dX7_wildFrom_0 : decode cX7_wildFrom 0 = .ok (.aload_n 0, 1) := by decide +kernel
theorem dX7_wildFrom_1 : decode cX7_wildFrom 1 = .ok (.getfield 13, 3) := by decide +kernel
theorem dX7_wildFrom_4 : decode cX7_wildFrom 4 = .ok (.iconst 4, 1) := by decide +kernel
theorem dX7_wildFrom_5 : decode cX7_wildFrom 5 = .ok (.iaload, 1) := by decide +kernel
theorem dX7_wildFrom_6 : decode cX7_wildFrom 6 = .ok (.iload_n 3, 1) := by decide +kernel
theorem dX7_wildFrom_7 : decode cX7_wildFrom 7 = .ok (.iadd, 1) := by decide +kernel
theorem dX7_wildFrom_8 : decode cX7_wildFrom 8 = .ok (.aload_n 0, 1) := by decide +kernel
theorem dX7_wildFrom_9 : decode cX7_wildFrom 9 = .ok (.getfield 13, 3) := by decide +kernel
theorem dX7_wildFrom_12 : decode cX7_wildFrom 12 = .ok (.bipush 8, 2) := by decide +kernel
theorem dX7_wildFrom_14 : decode cX7_wildFrom 14 = .ok (.iload_n 1, 1) := by decide +kernel
theorem dX7_wildFrom_15 : decode cX7_wildFrom 15 = .ok (.iadd, 1) := by decide +kernel
theorem dX7_wildFrom_16 : decode cX7_wildFrom 16 = .ok (.iaload, 1) := by decide +kernel
theorem dX7_wildFrom_17 : decode cX7_wildFrom 17 = .ok (.isub, 1) := by decide +kernel
theorem dX7_wildFrom_18 : decode cX7_wildFrom 18 = .ok (.istore 4, 2) := by decide +kernel
theorem dX7_wildFrom_20 : decode cX7_wildFrom 20 = .ok (.iload 4, 2) := by decide +kernel
theorem dX7_wildFrom_22 : decode cX7_wildFrom 22 = .ok (.ifCond .gt 7, 3) := by decide +kernel
theorem dX7_wildFrom_25 : decode cX7_wildFrom 25 = .ok (.iconst 1, 1) := by decide +kernel
theorem dX7_wildFrom_26 : decode cX7_wildFrom 26 = .ok (.goto 25, 3) := by decide +kernel
theorem dX7_wildFrom_29 : decode cX7_wildFrom 29 = .ok (.iconst 2, 1) := by decide +kernel
theorem dX7_wildFrom_30 : decode cX7_wildFrom 30 = .ok (.iload_n 2, 1) := by decide +kernel
theorem dX7_wildFrom_31 : decode cX7_wildFrom 31 = .ok (.imul, 1) := by decide +kernel
theorem dX7_wildFrom_32 : decode cX7_wildFrom 32 = .ok (.iload 4, 2) := by decide +kernel
theorem dX7_wildFrom_34 : decode cX7_wildFrom 34 = .ok (.aload_n 0, 1) := by decide +kernel
theorem dX7_wildFrom_35 : decode cX7_wildFrom 35 = .ok (.getfield 13, 3) := by decide +kernel
theorem dX7_wildFrom_38 : decode cX7_wildFrom 38 = .ok (.iconst 2, 1) := by decide +kernel
theorem dX7_wildFrom_39 : decode cX7_wildFrom 39 = .ok (.iaload, 1) := by decide +kernel
theorem dX7_wildFrom_40 : decode cX7_wildFrom 40 = .ok (.iadd, 1) := by decide +kernel
theorem dX7_wildFrom_41 : decode cX7_wildFrom 41 = .ok (.iconst 1, 1) := by decide +kernel
theorem dX7_wildFrom_42 : decode cX7_wildFrom 42 = .ok (.isub, 1) := by decide +kernel
theorem dX7_wildFrom_43 : decode cX7_wildFrom 43 = .ok (.aload_n 0, 1) := by decide +kernel
theorem dX7_wildFrom_44 : decode cX7_wildFrom 44 = .ok (.getfield 13, 3) := by decide +kernel
theorem dX7_wildFrom_47 : decode cX7_wildFrom 47 = .ok (.iconst 2, 1) := by decide +kernel
theorem dX7_wildFrom_48 : decode cX7_wildFrom 48 = .ok (.iaload, 1) := by decide +kernel
theorem dX7_wildFrom_49 : decode cX7_wildFrom 49 = .ok (.idiv, 1) := by decide +kernel
theorem dX7_wildFrom_50 : decode cX7_wildFrom 50 = .ok (.iadd, 1) := by decide +kernel
theorem dX7_wildFrom_51 : decode cX7_wildFrom 51 = .ok (.ireturn, 1) := by decide +kernel
set_option maxRecDepth 20000 in
theorem ggX7_bestWith_X7_calmTo : GoodIn wsX7_bestWith wsX7_calmTo := goodIn_r _ [7, 1, 8, 9, 10, 11, 12, 13, 14, 15, 16, 17, 18, 19, 20, 21, 22, 23, 24, 25, 26] (by decide +kernel) (by decide +kernel)
set_option maxRecDepth 20000 in
theorem gX7_bestWith_X7_calmTo : GoodIn wsX7_bestWith (wsV RX7 104 RX7 yX7_calmTo wsX7_calmTo) := goodIn_app (goodIn_of _ (by decide +kernel)) ggX7_bestWith_X7_calmTo
theorem dX7_bestWith_0 : decode cX7_bestWith 0 = .ok (.bipush (-9), 2) := by decide +kernel
theorem dX7_bestWith_2 : decode cX7_bestWith 2 = .ok (.istore_n 2, 1) := by decide +kernel
theorem dX7_bestWith_3 : decode cX7_bestWith 3 = .ok (.iconst 0, 1) := by decide +kernel
theorem dX7_bestWith_4 : decode cX7_bestWith 4 = .ok (.istore_n 3, 1) := by decide +kernel
theorem dX7_bestWith_5 : decode cX7_bestWith 5 = .ok (.iconst 0, 1) := by decide +kernel
theorem dX7_bestWith_6 : decode cX7_bestWith 6 = .ok (.istore 4, 2) := by decide +kernel
theorem dX7_bestWith_8 : decode cX7_bestWith 8 = .ok (.iload 4, 2) := by decide +kernel
theorem dX7_bestWith_10 : decode cX7_bestWith 10 = .ok (.aload_n 0, 1) := by decide +kernel
theorem dX7_bestWith_11 : decode cX7_bestWith 11 = .ok (.getfield 13, 3) := by decide +kernel
theorem dX7_bestWith_14 : decode cX7_bestWith 14 = .ok (.iconst 0, 1) := by decide +kernel
theorem dX7_bestWith_15 : decode cX7_bestWith 15 = .ok (.iaload, 1) := by decide +kernel
theorem dX7_bestWith_16 : decode cX7_bestWith 16 = .ok (.if_icmp .ge 76, 3) := by decide +kernel
theorem dX7_bestWith_19 : decode cX7_bestWith 19 = .ok (.aload_n 0, 1) := by decide +kernel
theorem dX7_bestWith_20 : decode cX7_bestWith 20 = .ok (.iload 4, 2) := by decide +kernel
theorem dX7_bestWith_22 : decode cX7_bestWith 22 = .ok (.aload_n 0, 1) := by decide +kernel
theorem dX7_bestWith_23 : decode cX7_bestWith 23 = .ok (.getfield 19, 3) := by decide +kernel
theorem dX7_bestWith_26 : decode cX7_bestWith 26 = .ok (.iconst 1, 1) := by decide +kernel
theorem dX7_bestWith_27 : decode cX7_bestWith 27 = .ok (.iaload, 1) := by decide +kernel
theorem dX7_bestWith_28 : decode cX7_bestWith 28 = .ok (.aload_n 0, 1) := by decide +kernel
theorem dX7_bestWith_29 : decode cX7_bestWith 29 = .ok (.getfield 19, 3) := by decide +kernel
theorem dX7_bestWith_32 : decode cX7_bestWith 32 = .ok (.iconst 4, 1) := by decide +kernel
theorem dX7_bestWith_33 : decode cX7_bestWith 33 = .ok (.iload_n 1, 1) := by decide +kernel
theorem dX7_bestWith_34 : decode cX7_bestWith 34 = .ok (.iadd, 1) := by decide +kernel
theorem dX7_bestWith_35 : decode cX7_bestWith 35 = .ok (.iaload, 1) := by decide +kernel
theorem dX7_bestWith_36 : decode cX7_bestWith 36 = .ok (.invokevirtual 104, 3) := by decide +kernel
theorem dX7_bestWith_39 : decode cX7_bestWith 39 = .ok (.istore 5, 2) := by decide +kernel
theorem dX7_bestWith_41 : decode cX7_bestWith 41 = .ok (.iload 5, 2) := by decide +kernel
theorem dX7_bestWith_43 : decode cX7_bestWith 43 = .ok (.iload_n 3, 1) := by decide +kernel
theorem dX7_bestWith_44 : decode cX7_bestWith 44 = .ok (.if_icmp .gt 36, 3) := by decide +kernel
theorem dX7_bestWith_47 : decode cX7_bestWith 47 = .ok (.iload 5, 2) := by decide +kernel
theorem dX7_bestWith_49 : decode cX7_bestWith 49 = .ok (.ifCond .le 37, 3) := by decide +kernel
theorem dX7_bestWith_52 : decode cX7_bestWith 52 = .ok (.iload 5, 2) := by decide +kernel
theorem dX7_bestWith_54 : decode cX7_bestWith 54 = .ok (.iload_n 3, 1) := by decide +kernel
theorem dX7_bestWith_55 : decode cX7_bestWith 55 = .ok (.if_icmp .ne 31, 3) := by decide +kernel
theorem dX7_bestWith_58 : decode cX7_bestWith 58 = .ok (.aload_n 0, 1) := by decide +kernel
theorem dX7_bestWith_59 : decode cX7_bestWith 59 = .ok (.getfield 13, 3) := by decide +kernel
theorem dX7_bestWith_62 : decode cX7_bestWith 62 = .ok (.bipush 13, 2) := by decide +kernel
theorem dX7_bestWith_64 : decode cX7_bestWith 64 = .ok (.iload 4, 2) := by decide +kernel
theorem dX7_bestWith_66 : decode cX7_bestWith 66 = .ok (.iadd, 1) := by decide +kernel
theorem dX7_bestWith_67 : decode cX7_bestWith 67 = .ok (.iaload, 1) := by decide +kernel
theorem dX7_bestWith_68 : decode cX7_bestWith 68 = .ok (.aload_n 0, 1) := by decide +kernel
theorem dX7_bestWith_69 : decode cX7_bestWith 69 = .ok (.getfield 13, 3) := by decide +kernel
theorem dX7_bestWith_72 : decode cX7_bestWith 72 = .ok (.bipush 13, 2) := by decide +kernel
theorem dX7_bestWith_74 : decode cX7_bestWith 74 = .ok (.iload_n 2, 1) := by decide +kernel
theorem dX7_bestWith_75 : decode cX7_bestWith 75 = .ok (.iadd, 1) := by decide +kernel
theorem dX7_bestWith_76 : decode cX7_bestWith 76 = .ok (.iaload, 1) := by decide +kernel
theorem dX7_bestWith_77 : decode cX7_bestWith 77 = .ok (.if_icmp .le 9, 3) := by decide +kernel
theorem dX7_bestWith_80 : decode cX7_bestWith 80 = .ok (.iload 4, 2) := by decide +kernel
theorem dX7_bestWith_82 : decode cX7_bestWith 82 = .ok (.istore_n 2, 1) := by decide +kernel
theorem dX7_bestWith_83 : decode cX7_bestWith 83 = .ok (.iload 5, 2) := by decide +kernel
theorem dX7_bestWith_85 : decode cX7_bestWith 85 = .ok (.istore_n 3, 1) := by decide +kernel
theorem dX7_bestWith_86 : decode cX7_bestWith 86 = .ok (.iinc 4 1, 3) := by decide +kernel
theorem dX7_bestWith_89 : decode cX7_bestWith 89 = .ok (.goto (-81), 3) := by decide +kernel
theorem dX7_bestWith_92 : decode cX7_bestWith 92 = .ok (.iload_n 2, 1) := by decide +kernel
theorem dX7_bestWith_93 : decode cX7_bestWith 93 = .ok (.ireturn, 1) := by decide +kernel
set_option maxRecDepth 20000 in
theorem ggX7_woman_X7_isWoman : GoodIn wsX7_woman wsX7_isWoman := goodIn_r _ [6, 7, 8, 9, 5, 10, 23, 24, 25, 26, 27, 28, 29, 30, 31, 32, 33, 34, 35, 36, 37, 38, 39, 40, 41] (by decide +kernel) (by decide +kernel)
set_option maxRecDepth 20000 in
theorem gX7_woman_X7_isWoman : GoodIn wsX7_woman (wsV RX7 108 RX7 yX7_isWoman wsX7_isWoman) := goodIn_app (goodIn_of _ (by decide +kernel)) ggX7_woman_X7_isWoman
set_option maxRecDepth 20000 in
theorem ggX7_woman_X7_isIll : GoodIn wsX7_woman wsX7_isIll := goodIn_r _ [14, 1, 23, 24, 25, 26, 27, 28, 29, 30, 31, 32, 33, 34, 35, 36, 37, 38, 39, 40, 41] (by decide +kernel) (by decide +kernel)
set_option maxRecDepth 20000 in
theorem gX7_woman_X7_isIll : GoodIn wsX7_woman (wsV RX7 111 RX7 yX7_isIll wsX7_isIll) := goodIn_app (goodIn_of _ (by decide +kernel)) ggX7_woman_X7_isIll
set_option maxRecDepth 20000 in
theorem ggX7_woman_X7_bestWith : GoodIn wsX7_woman wsX7_bestWith := goodIn_r _ [18, 7, 1, 19, 20, 21, 5, 22, 23, 24, 25, 26, 27, 28, 29, 30, 31, 32, 33, 34, 35, 36, 37, 38, 39, 40, 41] (by decide +kernel) (by decide +kernel)
set_option maxRecDepth 20000 in
theorem gX7_woman_X7_bestWith : GoodIn wsX7_woman (wsV RX7 114 RX7 yX7_bestWith wsX7_bestWith) := goodIn_app (goodIn_of _ (by decide +kernel)) ggX7_woman_X7_bestWith
theorem dX7_woman_0 : decode cX7_woman 0 = .ok (.aload_n 0, 1) := by decide +kernel
theorem dX7_woman_1 : decode cX7_woman 1 = .ok (.iload_n 1, 1) := by decide +kernel
theorem dX7_woman_2 : decode cX7_woman 2 = .ok (.invokevirtual 108, 3) := by decide +kernel
theorem dX7_woman_5 : decode cX7_woman 5 = .ok (.ifCond .ne 5, 3) := by decide +kernel
theorem dX7_woman_8 : decode cX7_woman 8 = .ok (.iconst (-1), 1) := by decide +kernel
theorem dX7_woman_9 : decode cX7_woman 9 = .ok (.ireturn, 1) := by decide +kernel
theorem dX7_woman_10 : decode cX7_woman 10 = .ok (.iload_n 2, 1) := by decide +kernel
theorem dX7_woman_11 : decode cX7_woman 11 = .ok (.tableswitch 54 0 2 #[25, 34, 48], 25) := by decide +kernel
theorem dX7_woman_36 : decode cX7_woman 36 = .ok (.aload_n 0, 1) := by decide +kernel
theorem dX7_woman_37 : decode cX7_woman 37 = .ok (.getfield 19, 3) := by decide +kernel
theorem dX7_woman_40 : decode cX7_woman 40 = .ok (.iconst 4, 1) := by decide +kernel
theorem dX7_woman_41 : decode cX7_woman 41 = .ok (.iload_n 1, 1) := by decide +kernel
theorem dX7_woman_42 : decode cX7_woman 42 = .ok (.iadd, 1) := by decide +kernel
theorem dX7_woman_43 : decode cX7_woman 43 = .ok (.iaload, 1) := by decide +kernel
theorem dX7_woman_44 : decode cX7_woman 44 = .ok (.ireturn, 1) := by decide +kernel
theorem dX7_woman_45 : decode cX7_woman 45 = .ok (.aload_n 0, 1) := by decide +kernel
theorem dX7_woman_46 : decode cX7_woman 46 = .ok (.iload_n 1, 1) := by decide +kernel
theorem dX7_woman_47 : decode cX7_woman 47 = .ok (.invokevirtual 111, 3) := by decide +kernel
theorem dX7_woman_50 : decode cX7_woman 50 = .ok (.ifCond .eq 7, 3) := by decide +kernel
theorem dX7_woman_53 : decode cX7_woman 53 = .ok (.iconst 1, 1) := by decide +kernel
theorem dX7_woman_54 : decode cX7_woman 54 = .ok (.goto 4, 3) := by decide +kernel
theorem dX7_woman_57 : decode cX7_woman 57 = .ok (.iconst 0, 1) := by decide +kernel
theorem dX7_woman_58 : decode cX7_woman 58 = .ok (.ireturn, 1) := by decide +kernel
theorem dX7_woman_59 : decode cX7_woman 59 = .ok (.aload_n 0, 1) := by decide +kernel
theorem dX7_woman_60 : decode cX7_woman 60 = .ok (.iload_n 1, 1) := by decide +kernel
theorem dX7_woman_61 : decode cX7_woman 61 = .ok (.invokevirtual 114, 3) := by decide +kernel
theorem dX7_woman_64 : decode cX7_woman 64 = .ok (.ireturn, 1) := by decide +kernel
theorem dX7_woman_65 : decode cX7_woman 65 = .ok (.iconst (-1), 1) := by decide +kernel
theorem dX7_woman_66 : decode cX7_woman 66 = .ok (.ireturn, 1) := by decide +kernel
set_option maxRecDepth 20000 in
theorem ggX7_with_X7_bestWith : GoodIn wsX7_with wsX7_bestWith := goodIn_r _ [7, 1, 2, 8, 9, 10, 6, 11, 16, 17, 18, 19, 20, 21, 22, 23, 24, 25, 26, 27, 28, 29, 30, 31, 32, 33, 34] (by decide +kernel) (by decide +kernel)
set_option maxRecDepth 20000 in
theorem gX7_with_X7_bestWith : GoodIn wsX7_with (wsV RX7 114 RX7 yX7_bestWith wsX7_bestWith) := goodIn_app (goodIn_of _ (by decide +kernel)) ggX7_with_X7_bestWith
set_option maxRecDepth 20000 in
theorem ggX7_with_X7_isIll : GoodIn wsX7_with wsX7_isIll := goodIn_r _ [15, 2, 16, 17, 18, 19, 20, 21, 22, 23, 24, 25, 26, 27, 28, 29, 30, 31, 32, 33, 34] (by decide +kernel) (by decide +kernel)
set_option maxRecDepth 20000 in
theorem gX7_with_X7_isIll : GoodIn wsX7_with (wsV RX7 111 RX7 yX7_isIll wsX7_isIll) := goodIn_app (goodIn_of _ (by decide +kernel)) ggX7_with_X7_isIll
set_option maxRecDepth 20000 in
theorem ggX7_with_X7_calmTo : GoodIn wsX7_with wsX7_calmTo := goodIn_r _ [11, 1, 16, 17, 18, 19, 20, 21, 22, 23, 24, 25, 26, 27, 28, 29, 30, 31, 32, 33, 34] (by decide +kernel) (by decide +kernel)
set_option maxRecDepth 20000 in
theorem gX7_with_X7_calmTo : GoodIn wsX7_with (wsV RX7 104 RX7 yX7_calmTo wsX7_calmTo) := goodIn_app (goodIn_of _ (by decide +kernel)) ggX7_with_X7_calmTo
theorem dX7_with_0 : decode cX7_with 0 = .ok (.bipush (-9), 2) := by decide +kernel
theorem dX7_with_2 : decode cX7_with 2 = .ok (.istore_n 1, 1) := by decide +kernel
theorem dX7_with_3 : decode cX7_with 3 = .ok (.iconst 0, 1) := by decide +kernel
theorem dX7_with_4 : decode cX7_with 4 = .ok (.istore_n 2, 1) := by decide +kernel
theorem dX7_with_5 : decode cX7_with 5 = .ok (.iconst 0, 1) := by decide +kernel
theorem dX7_with_6 : decode cX7_with 6 = .ok (.istore_n 3, 1) := by decide +kernel
theorem dX7_with_7 : decode cX7_with 7 = .ok (.iload_n 3, 1) := by decide +kernel
theorem dX7_with_8 : decode cX7_with 8 = .ok (.aload_n 0, 1) := by decide +kernel
theorem dX7_with_9 : decode cX7_with 9 = .ok (.getfield 13, 3) := by decide +kernel
theorem dX7_with_12 : decode cX7_with 12 = .ok (.iconst 1, 1) := by decide +kernel
theorem dX7_with_13 : decode cX7_with 13 = .ok (.iaload, 1) := by decide +kernel
theorem dX7_with_14 : decode cX7_with 14 = .ok (.if_icmp .ge 82, 3) := by decide +kernel
theorem dX7_with_17 : decode cX7_with 17 = .ok (.aload_n 0, 1) := by decide +kernel
theorem dX7_with_18 : decode cX7_with 18 = .ok (.iload_n 3, 1) := by decide +kernel
theorem dX7_with_19 : decode cX7_with 19 = .ok (.invokevirtual 114, 3) := by decide +kernel
theorem dX7_with_22 : decode cX7_with 22 = .ok (.istore 4, 2) := by decide +kernel
theorem dX7_with_24 : decode cX7_with 24 = .ok (.iload 4, 2) := by decide +kernel
theorem dX7_with_26 : decode cX7_with 26 = .ok (.bipush (-9), 2) := by decide +kernel
theorem dX7_with_28 : decode cX7_with 28 = .ok (.if_icmp .eq 11, 3) := by decide +kernel
theorem dX7_with_31 : decode cX7_with 31 = .ok (.aload_n 0, 1) := by decide +kernel
theorem dX7_with_32 : decode cX7_with 32 = .ok (.iload_n 3, 1) := by decide +kernel
theorem dX7_with_33 : decode cX7_with 33 = .ok (.invokevirtual 111, 3) := by decide +kernel
theorem dX7_with_36 : decode cX7_with 36 = .ok (.ifCond .eq 7, 3) := by decide +kernel
theorem dX7_with_39 : decode cX7_with 39 = .ok (.iconst 0, 1) := by decide +kernel
theorem dX7_with_40 : decode cX7_with 40 = .ok (.goto 23, 3) := by decide +kernel
theorem dX7_with_43 : decode cX7_with 43 = .ok (.aload_n 0, 1) := by decide +kernel
theorem dX7_with_44 : decode cX7_with 44 = .ok (.iload 4, 2) := by decide +kernel
theorem dX7_with_46 : decode cX7_with 46 = .ok (.aload_n 0, 1) := by decide +kernel
theorem dX7_with_47 : decode cX7_with 47 = .ok (.getfield 19, 3) := by decide +kernel
theorem dX7_with_50 : decode cX7_with 50 = .ok (.iconst 1, 1) := by decide +kernel
theorem dX7_with_51 : decode cX7_with 51 = .ok (.iaload, 1) := by decide +kernel
theorem dX7_with_52 : decode cX7_with 52 = .ok (.aload_n 0, 1) := by decide +kernel
theorem dX7_with_53 : decode cX7_with 53 = .ok (.getfield 19, 3) := by decide +kernel
theorem dX7_with_56 : decode cX7_with 56 = .ok (.iconst 4, 1) := by decide +kernel
theorem dX7_with_57 : decode cX7_with 57 = .ok (.iload_n 3, 1) := by decide +kernel
theorem dX7_with_58 : decode cX7_with 58 = .ok (.iadd, 1) := by decide +kernel
theorem dX7_with_59 : decode cX7_with 59 = .ok (.iaload, 1) := by decide +kernel
theorem dX7_with_60 : decode cX7_with 60 = .ok (.invokevirtual 104, 3) := by decide +kernel
theorem dX7_with_63 : decode cX7_with 63 = .ok (.istore 5, 2) := by decide +kernel
theorem dX7_with_65 : decode cX7_with 65 = .ok (.iload 5, 2) := by decide +kernel
theorem dX7_with_67 : decode cX7_with 67 = .ok (.iload_n 2, 1) := by decide +kernel
theorem dX7_with_68 : decode cX7_with 68 = .ok (.if_icmp .le 7, 3) := by decide +kernel
theorem dX7_with_71 : decode cX7_with 71 = .ok (.iload_n 3, 1) := by decide +kernel
theorem dX7_with_72 : decode cX7_with 72 = .ok (.goto 4, 3) := by decide +kernel
theorem dX7_with_75 : decode cX7_with 75 = .ok (.iload_n 1, 1) := by decide +kernel
theorem dX7_with_76 : decode cX7_with 76 = .ok (.istore_n 1, 1) := by decide +kernel
theorem dX7_with_77 : decode cX7_with 77 = .ok (.iload 5, 2) := by decide +kernel
theorem dX7_with_79 : decode cX7_with 79 = .ok (.iload_n 2, 1) := by decide +kernel
theorem dX7_with_80 : decode cX7_with 80 = .ok (.if_icmp .le 8, 3) := by decide +kernel
theorem dX7_with_83 : decode cX7_with 83 = .ok (.iload 5, 2) := by decide +kernel
theorem dX7_with_85 : decode cX7_with 85 = .ok (.goto 4, 3) := by decide +kernel
theorem dX7_with_88 : decode cX7_with 88 = .ok (.iload_n 2, 1) := by decide +kernel
theorem dX7_with_89 : decode cX7_with 89 = .ok (.istore_n 2, 1) := by decide +kernel
theorem dX7_with_90 : decode cX7_with 90 = .ok (.iinc 3 1, 3) := by decide +kernel
theorem dX7_with_93 : decode cX7_with 93 = .ok (.goto (-86), 3) := by decide +kernel
theorem dX7_with_96 : decode cX7_with 96 = .ok (.iload_n 1, 1) := by decide +kernel
theorem dX7_with_97 : decode cX7_with 97 = .ok (.ireturn, 1) := by decide +kernel
set_option maxRecDepth 20000 in
theorem ggX7_now_X7_with : GoodIn wsX7_now wsX7_with := goodIn_r _ [7, 8, 1, 9, 10, 11, 6, 12, 13, 14, 15, 16, 17, 18, 19, 20, 21, 22, 23, 24, 25, 26, 27, 28, 29, 30, 31, 32, 33, 34, 35, 36, 37, 38, 39] (by decide +kernel) (by decide +kernel)
set_option maxRecDepth 20000 in
theorem gX7_now_X7_with : GoodIn wsX7_now (wsV RX7 117 RX7 yX7_with wsX7_with) := goodIn_app (goodIn_of _ (by decide +kernel)) ggX7_now_X7_with
theorem dX7_now_0 : decode cX7_now 0 = .ok (.iload_n 1, 1) := by decide +kernel
theorem dX7_now_1 : decode cX7_now 1 = .ok (.tableswitch 77 0 5 #[39, 46, 53, 60, 65, 72], 39) := by decide +kernel
theorem dX7_now_40 : decode cX7_now 40 = .ok (.aload_n 0, 1) := by decide +kernel
theorem dX7_now_41 : decode cX7_now 41 = .ok (.getfield 19, 3) := by decide +kernel
theorem dX7_now_44 : decode cX7_now 44 = .ok (.iconst 0, 1) := by decide +kernel
theorem dX7_now_45 : decode cX7_now 45 = .ok (.iaload, 1) := by decide +kernel
theorem dX7_now_46 : decode cX7_now 46 = .ok (.ireturn, 1) := by decide +kernel
theorem dX7_now_47 : decode cX7_now 47 = .ok (.aload_n 0, 1) := by decide +kernel
theorem dX7_now_48 : decode cX7_now 48 = .ok (.getfield 19, 3) := by decide +kernel
theorem dX7_now_51 : decode cX7_now 51 = .ok (.iconst 1, 1) := by decide +kernel
theorem dX7_now_52 : decode cX7_now 52 = .ok (.iaload, 1) := by decide +kernel
theorem dX7_now_53 : decode cX7_now 53 = .ok (.ireturn, 1) := by decide +kernel
theorem dX7_now_54 : decode cX7_now 54 = .ok (.aload_n 0, 1) := by decide +kernel
theorem dX7_now_55 : decode cX7_now 55 = .ok (.getfield 19, 3) := by decide +kernel
theorem dX7_now_58 : decode cX7_now 58 = .ok (.iconst 2, 1) := by decide +kernel
theorem dX7_now_59 : decode cX7_now 59 = .ok (.iaload, 1) := by decide +kernel
theorem dX7_now_60 : decode cX7_now 60 = .ok (.ireturn, 1) := by decide +kernel
theorem dX7_now_61 : decode cX7_now 61 = .ok (.aload_n 0, 1) := by decide +kernel
theorem dX7_now_62 : decode cX7_now 62 = .ok (.invokevirtual 117, 3) := by decide +kernel
theorem dX7_now_65 : decode cX7_now 65 = .ok (.ireturn, 1) := by decide +kernel
theorem dX7_now_66 : decode cX7_now 66 = .ok (.aload_n 0, 1) := by decide +kernel
theorem dX7_now_67 : decode cX7_now 67 = .ok (.getfield 19, 3) := by decide +kernel
theorem dX7_now_70 : decode cX7_now 70 = .ok (.iconst 3, 1) := by decide +kernel
theorem dX7_now_71 : decode cX7_now 71 = .ok (.iaload, 1) := by decide +kernel
theorem dX7_now_72 : decode cX7_now 72 = .ok (.ireturn, 1) := by decide +kernel
theorem dX7_now_73 : decode cX7_now 73 = .ok (.aload_n 0, 1) := by decide +kernel
theorem dX7_now_74 : decode cX7_now 74 = .ok (.getfield 95, 3) := by decide +kernel
theorem dX7_now_77 : decode cX7_now 77 = .ok (.ireturn, 1) := by decide +kernel
theorem dX7_now_78 : decode cX7_now 78 = .ok (.iconst (-1), 1) := by decide +kernel
theorem dX7_now_79 : decode cX7_now 79 = .ok (.ireturn, 1) := by decide +kernel
theorem dX7_keeps_0 : decode cX7_keeps 0 = .ok (.aload_n 0, 1) := by decide +kernel
theorem dX7_keeps_1 : decode cX7_keeps 1 = .ok (.getfield 95, 3) := by decide +kernel
theorem dX7_keeps_4 : decode cX7_keeps 4 = .ok (.bipush 10, 2) := by decide +kernel
theorem dX7_keeps_6 : decode cX7_keeps 6 = .ok (.if_icmp .ne 42, 3) := by decide +kernel
theorem dX7_keeps_9 : decode cX7_keeps 9 = .ok (.iconst 0, 1) := by decide +kernel
theorem dX7_keeps_10 : decode cX7_keeps 10 = .ok (.istore_n 1, 1) := by decide +kernel
theorem dX7_keeps_11 : decode cX7_keeps 11 = .ok (.iload_n 1, 1) := by decide +kernel
theorem dX7_keeps_12 : decode cX7_keeps 12 = .ok (.bipush 72, 2) := by decide +kernel
theorem dX7_keeps_14 : decode cX7_keeps 14 = .ok (.if_icmp .ge 24, 3) := by decide +kernel
theorem dX7_keeps_17 : decode cX7_keeps 17 = .ok (.aload_n 0, 1) := by decide +kernel
theorem dX7_keeps_18 : decode cX7_keeps 18 = .ok (.getfield 22, 3) := by decide +kernel
theorem dX7_keeps_21 : decode cX7_keeps 21 = .ok (.iload_n 1, 1) := by decide +kernel
theorem dX7_keeps_22 : decode cX7_keeps 22 = .ok (.aload_n 0, 1) := by decide +kernel
theorem dX7_keeps_23 : decode cX7_keeps 23 = .ok (.getfield 22, 3) := by decide +kernel
theorem dX7_keeps_26 : decode cX7_keeps 26 = .ok (.iload_n 1, 1) := by decide +kernel
theorem dX7_keeps_27 : decode cX7_keeps 27 = .ok (.bipush 8, 2) := by decide +kernel
theorem dX7_keeps_29 : decode cX7_keeps 29 = .ok (.iadd, 1) := by decide +kernel
theorem dX7_keeps_30 : decode cX7_keeps 30 = .ok (.iaload, 1) := by decide +kernel
theorem dX7_keeps_31 : decode cX7_keeps 31 = .ok (.iastore, 1) := by decide +kernel
theorem dX7_keeps_32 : decode cX7_keeps 32 = .ok (.iinc 1 1, 3) := by decide +kernel
theorem dX7_keeps_35 : decode cX7_keeps 35 = .ok (.goto (-24), 3) := by decide +kernel
theorem dX7_keeps_38 : decode cX7_keeps 38 = .ok (.aload_n 0, 1) := by decide +kernel
theorem dX7_keeps_39 : decode cX7_keeps 39 = .ok (.dup, 1) := by decide +kernel
theorem dX7_keeps_40 : decode cX7_keeps 40 = .ok (.getfield 95, 3) := by decide +kernel
theorem dX7_keeps_43 : decode cX7_keeps 43 = .ok (.iconst 1, 1) := by decide +kernel
theorem dX7_keeps_44 : decode cX7_keeps 44 = .ok (.isub, 1) := by decide +kernel
theorem dX7_keeps_45 : decode cX7_keeps 45 = .ok (.putfield 95, 3) := by decide +kernel
theorem dX7_keeps_48 : decode cX7_keeps 48 = .ok (.iconst 0, 1) := by decide +kernel
theorem dX7_keeps_49 : decode cX7_keeps 49 = .ok (.istore_n 1, 1) := by decide +kernel
theorem dX7_keeps_50 : decode cX7_keeps 50 = .ok (.iload_n 1, 1) := by decide +kernel
theorem dX7_keeps_51 : decode cX7_keeps 51 = .ok (.bipush 8, 2) := by decide +kernel
theorem dX7_keeps_53 : decode cX7_keeps 53 = .ok (.if_icmp .ge 29, 3) := by decide +kernel
theorem dX7_keeps_56 : decode cX7_keeps 56 = .ok (.aload_n 0, 1) := by decide +kernel
theorem dX7_keeps_57 : decode cX7_keeps 57 = .ok (.getfield 22, 3) := by decide +kernel
theorem dX7_keeps_60 : decode cX7_keeps 60 = .ok (.bipush 8, 2) := by decide +kernel
theorem dX7_keeps_62 : decode cX7_keeps 62 = .ok (.aload_n 0, 1) := by decide +kernel
theorem dX7_keeps_63 : decode cX7_keeps 63 = .ok (.getfield 95, 3) := by decide +kernel
theorem dX7_keeps_66 : decode cX7_keeps 66 = .ok (.imul, 1) := by decide +kernel
theorem dX7_keeps_67 : decode cX7_keeps 67 = .ok (.iload_n 1, 1) := by decide +kernel
theorem dX7_keeps_68 : decode cX7_keeps 68 = .ok (.iadd, 1) := by decide +kernel
theorem dX7_keeps_69 : decode cX7_keeps 69 = .ok (.aload_n 0, 1) := by decide +kernel
theorem dX7_keeps_70 : decode cX7_keeps 70 = .ok (.getfield 19, 3) := by decide +kernel
theorem dX7_keeps_73 : decode cX7_keeps 73 = .ok (.iload_n 1, 1) := by decide +kernel
theorem dX7_keeps_74 : decode cX7_keeps 74 = .ok (.iaload, 1) := by decide +kernel
theorem dX7_keeps_75 : decode cX7_keeps 75 = .ok (.iastore, 1) := by decide +kernel
theorem dX7_keeps_76 : decode cX7_keeps 76 = .ok (.iinc 1 1, 3) := by decide +kernel
theorem dX7_keeps_79 : decode cX7_keeps 79 = .ok (.goto (-29), 3) := by decide +kernel
theorem dX7_keeps_82 : decode cX7_keeps 82 = .ok (.aload_n 0, 1) := by decide +kernel
theorem dX7_keeps_83 : decode cX7_keeps 83 = .ok (.dup, 1) := by decide +kernel
theorem dX7_keeps_84 : decode cX7_keeps 84 = .ok (.getfield 95, 3) := by decide +kernel
theorem dX7_keeps_87 : decode cX7_keeps 87 = .ok (.iconst 1, 1) := by decide +kernel
theorem dX7_keeps_88 : decode cX7_keeps 88 = .ok (.iadd, 1) := by decide +kernel
theorem dX7_keeps_89 : decode cX7_keeps 89 = .ok (.putfield 95, 3) := by decide +kernel
theorem dX7_keeps_92 : decode cX7_keeps 92 = .ok (.return_, 1) := by decide +kernel
set_option maxRecDepth 20000 in
theorem ggX7_cries_X7_bound : GoodIn wsX7_cries wsX7_bound := goodIn_r _ [4] (by decide +kernel) (by decide +kernel)
set_option maxRecDepth 20000 in
theorem gX7_cries_X7_bound : GoodIn wsX7_cries (va_wsS RX7 121 yX7_bound wsX7_bound) := goodIn_app (goodIn_of _ (by decide +kernel)) ggX7_cries_X7_bound
theorem dX7_cries_0 : decode cX7_cries 0 = .ok (.iload_n 3, 1) := by decide +kernel
theorem dX7_cries_1 : decode cX7_cries 1 = .ok (.iconst 2, 1) := by decide +kernel
theorem dX7_cries_2 : decode cX7_cries 2 = .ok (.iload_n 2, 1) := by decide +kernel
theorem dX7_cries_3 : decode cX7_cries 3 = .ok (.imul, 1) := by decide +kernel
theorem dX7_cries_4 : decode cX7_cries 4 = .ok (.if_icmp .le 11, 3) := by decide +kernel
theorem dX7_cries_7 : decode cX7_cries 7 = .ok (.iload_n 3, 1) := by decide +kernel
theorem dX7_cries_8 : decode cX7_cries 8 = .ok (.iconst 2, 1) := by decide +kernel
theorem dX7_cries_9 : decode cX7_cries 9 = .ok (.iload_n 2, 1) := by decide +kernel
theorem dX7_cries_10 : decode cX7_cries 10 = .ok (.imul, 1) := by decide +kernel
theorem dX7_cries_11 : decode cX7_cries 11 = .ok (.isub, 1) := by decide +kernel
theorem dX7_cries_12 : decode cX7_cries 12 = .ok (.goto 4, 3) := by decide +kernel
theorem dX7_cries_15 : decode cX7_cries 15 = .ok (.iconst 0, 1) := by decide +kernel
theorem dX7_cries_16 : decode cX7_cries 16 = .ok (.istore 5, 2) := by decide +kernel
theorem dX7_cries_18 : decode cX7_cries 18 = .ok (.iload_n 0, 1) := by decide +kernel
theorem dX7_cries_19 : decode cX7_cries 19 = .ok (.iload_n 1, 1) := by decide +kernel
theorem dX7_cries_20 : decode cX7_cries 20 = .ok (.iload 5, 2) := by decide +kernel
theorem dX7_cries_22 : decode cX7_cries 22 = .ok (.imul, 1) := by decide +kernel
theorem dX7_cries_23 : decode cX7_cries 23 = .ok (.iadd, 1) := by decide +kernel
theorem dX7_cries_24 : decode cX7_cries 24 = .ok (.iload 4, 2) := by decide +kernel
theorem dX7_cries_26 : decode cX7_cries 26 = .ok (.isub, 1) := by decide +kernel
theorem dX7_cries_27 : decode cX7_cries 27 = .ok (.iconst 0, 1) := by decide +kernel
theorem dX7_cries_28 : decode cX7_cries 28 = .ok (.bipush 60, 2) := by decide +kernel
theorem dX7_cries_30 : decode cX7_cries 30 = .ok (.invokestatic 121, 3) := by decide +kernel
theorem dX7_cries_33 : decode cX7_cries 33 = .ok (.ireturn, 1) := by decide +kernel
set_option maxRecDepth 20000 in
theorem ggX7_criesNow_X7_cries : GoodIn wsX7_criesNow wsX7_cries := goodIn_r _ [6, 7, 8, 5, 9] (by decide +kernel) (by decide +kernel)
set_option maxRecDepth 20000 in
theorem gX7_criesNow_X7_cries : GoodIn wsX7_criesNow (va_wsS RX7 124 yX7_cries wsX7_cries) := goodIn_app (goodIn_of _ (by decide +kernel)) ggX7_criesNow_X7_cries
theorem dX7_criesNow_0 : decode cX7_criesNow 0 = .ok (.aload_n 0, 1) := by decide +kernel
theorem dX7_criesNow_1 : decode cX7_criesNow 1 = .ok (.getfield 13, 3) := by decide +kernel
theorem dX7_criesNow_4 : decode cX7_criesNow 4 = .ok (.bipush 8, 2) := by decide +kernel
theorem dX7_criesNow_6 : decode cX7_criesNow 6 = .ok (.iload_n 1, 1) := by decide +kernel
theorem dX7_criesNow_7 : decode cX7_criesNow 7 = .ok (.iadd, 1) := by decide +kernel
theorem dX7_criesNow_8 : decode cX7_criesNow 8 = .ok (.iaload, 1) := by decide +kernel
theorem dX7_criesNow_9 : decode cX7_criesNow 9 = .ok (.aload_n 0, 1) := by decide +kernel
theorem dX7_criesNow_10 : decode cX7_criesNow 10 = .ok (.getfield 13, 3) := by decide +kernel
theorem dX7_criesNow_13 : decode cX7_criesNow 13 = .ok (.iconst 2, 1) := by decide +kernel
theorem dX7_criesNow_14 : decode cX7_criesNow 14 = .ok (.iaload, 1) := by decide +kernel
theorem dX7_criesNow_15 : decode cX7_criesNow 15 = .ok (.aload_n 0, 1) := by decide +kernel
theorem dX7_criesNow_16 : decode cX7_criesNow 16 = .ok (.getfield 19, 3) := by decide +kernel
theorem dX7_criesNow_19 : decode cX7_criesNow 19 = .ok (.iconst 1, 1) := by decide +kernel
theorem dX7_criesNow_20 : decode cX7_criesNow 20 = .ok (.iaload, 1) := by decide +kernel
theorem dX7_criesNow_21 : decode cX7_criesNow 21 = .ok (.iload_n 2, 1) := by decide +kernel
theorem dX7_criesNow_22 : decode cX7_criesNow 22 = .ok (.aload_n 0, 1) := by decide +kernel
theorem dX7_criesNow_23 : decode cX7_criesNow 23 = .ok (.getfield 19, 3) := by decide +kernel
theorem dX7_criesNow_26 : decode cX7_criesNow 26 = .ok (.iconst 4, 1) := by decide +kernel
theorem dX7_criesNow_27 : decode cX7_criesNow 27 = .ok (.iload_n 3, 1) := by decide +kernel
theorem dX7_criesNow_28 : decode cX7_criesNow 28 = .ok (.iadd, 1) := by decide +kernel
theorem dX7_criesNow_29 : decode cX7_criesNow 29 = .ok (.iaload, 1) := by decide +kernel
theorem dX7_criesNow_30 : decode cX7_criesNow 30 = .ok (.invokestatic 124, 3) := by decide +kernel
theorem dX7_criesNow_33 : decode cX7_criesNow 33 = .ok (.ireturn, 1) := by decide +kernel
set_option maxRecDepth 20000 in
theorem ggX7_goes_X7_criesNow : GoodIn wsX7_goes wsX7_criesNow := goodIn_r _ [7, 1, 2, 8, 9, 6, 10, 11, 12, 13, 14, 15, 16, 17, 18, 19, 20, 21, 22, 23, 24, 25, 26, 27, 28, 29, 30, 31, 32] (by decide +kernel) (by decide +kernel)
set_option maxRecDepth 20000 in
theorem gX7_goes_X7_criesNow : GoodIn wsX7_goes (wsV RX7 128 RX7 yX7_criesNow wsX7_criesNow) := goodIn_app (goodIn_of _ (by decide +kernel)) ggX7_goes_X7_criesNow
set_option maxRecDepth 20000 in
theorem ggX7_goes_X7_bound : GoodIn wsX7_goes wsX7_bound := goodIn_r _ [13] (by decide +kernel) (by decide +kernel)
set_option maxRecDepth 20000 in
theorem gX7_goes_X7_bound : GoodIn wsX7_goes (va_wsS RX7 121 yX7_bound wsX7_bound) := goodIn_app (goodIn_of _ (by decide +kernel)) ggX7_goes_X7_bound
theorem dX7_goes_0 : decode cX7_goes 0 = .ok (.aload_n 0, 1) := by decide +kernel
theorem dX7_goes_1 : decode cX7_goes 1 = .ok (.iload_n 1, 1) := by decide +kernel
theorem dX7_goes_2 : decode cX7_goes 2 = .ok (.iload_n 2, 1) := by decide +kernel
theorem dX7_goes_3 : decode cX7_goes 3 = .ok (.iload_n 3, 1) := by decide +kernel
theorem dX7_goes_4 : decode cX7_goes 4 = .ok (.invokevirtual 128, 3) := by decide +kernel
theorem dX7_goes_7 : decode cX7_goes 7 = .ok (.istore 4, 2) := by decide +kernel
theorem dX7_goes_9 : decode cX7_goes 9 = .ok (.iload 4, 2) := by decide +kernel
theorem dX7_goes_11 : decode cX7_goes 11 = .ok (.aload_n 0, 1) := by decide +kernel
theorem dX7_goes_12 : decode cX7_goes 12 = .ok (.getfield 13, 3) := by decide +kernel
theorem dX7_goes_15 : decode cX7_goes 15 = .ok (.iconst 3, 1) := by decide +kernel
theorem dX7_goes_16 : decode cX7_goes 16 = .ok (.iaload, 1) := by decide +kernel
theorem dX7_goes_17 : decode cX7_goes 17 = .ok (.if_icmp .gt 84, 3) := by decide +kernel
theorem dX7_goes_20 : decode cX7_goes 20 = .ok (.aload_n 0, 1) := by decide +kernel
theorem dX7_goes_21 : decode cX7_goes 21 = .ok (.getfield 19, 3) := by decide +kernel
theorem dX7_goes_24 : decode cX7_goes 24 = .ok (.iconst 1, 1) := by decide +kernel
theorem dX7_goes_25 : decode cX7_goes 25 = .ok (.aload_n 0, 1) := by decide +kernel
theorem dX7_goes_26 : decode cX7_goes 26 = .ok (.getfield 19, 3) := by decide +kernel
theorem dX7_goes_29 : decode cX7_goes 29 = .ok (.iconst 1, 1) := by decide +kernel
theorem dX7_goes_30 : decode cX7_goes 30 = .ok (.iaload, 1) := by decide +kernel
theorem dX7_goes_31 : decode cX7_goes 31 = .ok (.aload_n 0, 1) := by decide +kernel
theorem dX7_goes_32 : decode cX7_goes 32 = .ok (.getfield 13, 3) := by decide +kernel
theorem dX7_goes_35 : decode cX7_goes 35 = .ok (.bipush 13, 2) := by decide +kernel
theorem dX7_goes_37 : decode cX7_goes 37 = .ok (.iload_n 1, 1) := by decide +kernel
theorem dX7_goes_38 : decode cX7_goes 38 = .ok (.iadd, 1) := by decide +kernel
theorem dX7_goes_39 : decode cX7_goes 39 = .ok (.iaload, 1) := by decide +kernel
theorem dX7_goes_40 : decode cX7_goes 40 = .ok (.iadd, 1) := by decide +kernel
theorem dX7_goes_41 : decode cX7_goes 41 = .ok (.iconst 0, 1) := by decide +kernel
theorem dX7_goes_42 : decode cX7_goes 42 = .ok (.bipush 24, 2) := by decide +kernel
theorem dX7_goes_44 : decode cX7_goes 44 = .ok (.invokestatic 121, 3) := by decide +kernel
theorem dX7_goes_47 : decode cX7_goes 47 = .ok (.iastore, 1) := by decide +kernel
theorem dX7_goes_48 : decode cX7_goes 48 = .ok (.aload_n 0, 1) := by decide +kernel
theorem dX7_goes_49 : decode cX7_goes 49 = .ok (.getfield 19, 3) := by decide +kernel
theorem dX7_goes_52 : decode cX7_goes 52 = .ok (.iconst 4, 1) := by decide +kernel
theorem dX7_goes_53 : decode cX7_goes 53 = .ok (.iload_n 3, 1) := by decide +kernel
theorem dX7_goes_54 : decode cX7_goes 54 = .ok (.iadd, 1) := by decide +kernel
theorem dX7_goes_55 : decode cX7_goes 55 = .ok (.aload_n 0, 1) := by decide +kernel
theorem dX7_goes_56 : decode cX7_goes 56 = .ok (.getfield 19, 3) := by decide +kernel
theorem dX7_goes_59 : decode cX7_goes 59 = .ok (.iconst 4, 1) := by decide +kernel
theorem dX7_goes_60 : decode cX7_goes 60 = .ok (.iload_n 3, 1) := by decide +kernel
theorem dX7_goes_61 : decode cX7_goes 61 = .ok (.iadd, 1) := by decide +kernel
theorem dX7_goes_62 : decode cX7_goes 62 = .ok (.iaload, 1) := by decide +kernel
theorem dX7_goes_63 : decode cX7_goes 63 = .ok (.iconst 1, 1) := by decide +kernel
theorem dX7_goes_64 : decode cX7_goes 64 = .ok (.iadd, 1) := by decide +kernel
theorem dX7_goes_65 : decode cX7_goes 65 = .ok (.iconst 0, 1) := by decide +kernel
theorem dX7_goes_66 : decode cX7_goes 66 = .ok (.bipush 9, 2) := by decide +kernel
theorem dX7_goes_68 : decode cX7_goes 68 = .ok (.invokestatic 121, 3) := by decide +kernel
theorem dX7_goes_71 : decode cX7_goes 71 = .ok (.iastore, 1) := by decide +kernel
theorem dX7_goes_72 : decode cX7_goes 72 = .ok (.aload_n 0, 1) := by decide +kernel
theorem dX7_goes_73 : decode cX7_goes 73 = .ok (.getfield 19, 3) := by decide +kernel
theorem dX7_goes_76 : decode cX7_goes 76 = .ok (.iconst 2, 1) := by decide +kernel
theorem dX7_goes_77 : decode cX7_goes 77 = .ok (.iload_n 2, 1) := by decide +kernel
theorem dX7_goes_78 : decode cX7_goes 78 = .ok (.aload_n 0, 1) := by decide +kernel
theorem dX7_goes_79 : decode cX7_goes 79 = .ok (.getfield 13, 3) := by decide +kernel
theorem dX7_goes_82 : decode cX7_goes 82 = .ok (.iconst 5, 1) := by decide +kernel
theorem dX7_goes_83 : decode cX7_goes 83 = .ok (.iaload, 1) := by decide +kernel
theorem dX7_goes_84 : decode cX7_goes 84 = .ok (.if_icmp .lt 7, 3) := by decide +kernel
theorem dX7_goes_87 : decode cX7_goes 87 = .ok (.iconst 1, 1) := by decide +kernel
theorem dX7_goes_88 : decode cX7_goes 88 = .ok (.goto 9, 3) := by decide +kernel
theorem dX7_goes_91 : decode cX7_goes 91 = .ok (.aload_n 0, 1) := by decide +kernel
theorem dX7_goes_92 : decode cX7_goes 92 = .ok (.getfield 19, 3) := by decide +kernel
theorem dX7_goes_95 : decode cX7_goes 95 = .ok (.iconst 2, 1) := by decide +kernel
theorem dX7_goes_96 : decode cX7_goes 96 = .ok (.iaload, 1) := by decide +kernel
theorem dX7_goes_97 : decode cX7_goes 97 = .ok (.iastore, 1) := by decide +kernel
theorem dX7_goes_98 : decode cX7_goes 98 = .ok (.goto 58, 3) := by decide +kernel
theorem dX7_goes_101 : decode cX7_goes 101 = .ok (.iload 4, 2) := by decide +kernel
theorem dX7_goes_103 : decode cX7_goes 103 = .ok (.aload_n 0, 1) := by decide +kernel
theorem dX7_goes_104 : decode cX7_goes 104 = .ok (.getfield 13, 3) := by decide +kernel
theorem dX7_goes_107 : decode cX7_goes 107 = .ok (.iconst 4, 1) := by decide +kernel
theorem dX7_goes_108 : decode cX7_goes 108 = .ok (.iaload, 1) := by decide +kernel
theorem dX7_goes_109 : decode cX7_goes 109 = .ok (.if_icmp .lt 47, 3) := by decide +kernel
theorem dX7_goes_112 : decode cX7_goes 112 = .ok (.aload_n 0, 1) := by decide +kernel
theorem dX7_goes_113 : decode cX7_goes 113 = .ok (.getfield 19, 3) := by decide +kernel
theorem dX7_goes_116 : decode cX7_goes 116 = .ok (.iconst 1, 1) := by decide +kernel
theorem dX7_goes_117 : decode cX7_goes 117 = .ok (.aload_n 0, 1) := by decide +kernel
theorem dX7_goes_118 : decode cX7_goes 118 = .ok (.getfield 19, 3) := by decide +kernel
theorem dX7_goes_121 : decode cX7_goes 121 = .ok (.iconst 1, 1) := by decide +kernel
theorem dX7_goes_122 : decode cX7_goes 122 = .ok (.iaload, 1) := by decide +kernel
theorem dX7_goes_123 : decode cX7_goes 123 = .ok (.iconst 2, 1) := by decide +kernel
theorem dX7_goes_124 : decode cX7_goes 124 = .ok (.isub, 1) := by decide +kernel
theorem dX7_goes_125 : decode cX7_goes 125 = .ok (.iconst 0, 1) := by decide +kernel
theorem dX7_goes_126 : decode cX7_goes 126 = .ok (.bipush 24, 2) := by decide +kernel
theorem dX7_goes_128 : decode cX7_goes 128 = .ok (.invokestatic 121, 3) := by decide +kernel
theorem dX7_goes_131 : decode cX7_goes 131 = .ok (.iastore, 1) := by decide +kernel
theorem dX7_goes_132 : decode cX7_goes 132 = .ok (.aload_n 0, 1) := by decide +kernel
theorem dX7_goes_133 : decode cX7_goes 133 = .ok (.getfield 19, 3) := by decide +kernel
theorem dX7_goes_136 : decode cX7_goes 136 = .ok (.iconst 4, 1) := by decide +kernel
theorem dX7_goes_137 : decode cX7_goes 137 = .ok (.iload_n 3, 1) := by decide +kernel
theorem dX7_goes_138 : decode cX7_goes 138 = .ok (.iadd, 1) := by decide +kernel
theorem dX7_goes_139 : decode cX7_goes 139 = .ok (.aload_n 0, 1) := by decide +kernel
theorem dX7_goes_140 : decode cX7_goes 140 = .ok (.getfield 19, 3) := by decide +kernel
theorem dX7_goes_143 : decode cX7_goes 143 = .ok (.iconst 4, 1) := by decide +kernel
theorem dX7_goes_144 : decode cX7_goes 144 = .ok (.iload_n 3, 1) := by decide +kernel
theorem dX7_goes_145 : decode cX7_goes 145 = .ok (.iadd, 1) := by decide +kernel
theorem dX7_goes_146 : decode cX7_goes 146 = .ok (.iaload, 1) := by decide +kernel
theorem dX7_goes_147 : decode cX7_goes 147 = .ok (.iconst 1, 1) := by decide +kernel
theorem dX7_goes_148 : decode cX7_goes 148 = .ok (.isub, 1) := by decide +kernel
theorem dX7_goes_149 : decode cX7_goes 149 = .ok (.iconst 0, 1) := by decide +kernel
theorem dX7_goes_150 : decode cX7_goes 150 = .ok (.bipush 9, 2) := by decide +kernel
theorem dX7_goes_152 : decode cX7_goes 152 = .ok (.invokestatic 121, 3) := by decide +kernel
theorem dX7_goes_155 : decode cX7_goes 155 = .ok (.iastore, 1) := by decide +kernel
theorem dX7_goes_156 : decode cX7_goes 156 = .ok (.aload_n 0, 1) := by decide +kernel
theorem dX7_goes_157 : decode cX7_goes 157 = .ok (.getfield 19, 3) := by decide +kernel
theorem dX7_goes_160 : decode cX7_goes 160 = .ok (.iconst 0, 1) := by decide +kernel
theorem dX7_goes_161 : decode cX7_goes 161 = .ok (.dup2, 1) := by decide +kernel
theorem dX7_goes_162 : decode cX7_goes 162 = .ok (.iaload, 1) := by decide +kernel
theorem dX7_goes_163 : decode cX7_goes 163 = .ok (.iconst 1, 1) := by decide +kernel
theorem dX7_goes_164 : decode cX7_goes 164 = .ok (.iadd, 1) := by decide +kernel
theorem dX7_goes_165 : decode cX7_goes 165 = .ok (.iastore, 1) := by decide +kernel
theorem dX7_goes_166 : decode cX7_goes 166 = .ok (.iload 4, 2) := by decide +kernel
theorem dX7_goes_168 : decode cX7_goes 168 = .ok (.ireturn, 1) := by decide +kernel
set_option maxRecDepth 20000 in
theorem ggX7_isMorning_X7_isGoodbye : GoodIn wsX7_isMorning wsX7_isGoodbye := goodIn_r _ [5, 6, 7, 8, 4, 9, 14, 15, 16, 17, 18, 19, 20, 21, 22, 23, 24, 25, 26, 27, 28, 29, 30, 31, 32] (by decide +kernel) (by decide +kernel)
set_option maxRecDepth 20000 in
theorem gX7_isMorning_X7_isGoodbye : GoodIn wsX7_isMorning (wsV RX7 101 RX7 yX7_isGoodbye wsX7_isGoodbye) := goodIn_app (goodIn_of _ (by decide +kernel)) ggX7_isMorning_X7_isGoodbye
set_option maxRecDepth 20000 in
theorem ggX7_isMorning_X7_in : GoodIn wsX7_isMorning wsX7_in := goodIn_r _ [9] (by decide +kernel) (by decide +kernel)
set_option maxRecDepth 20000 in
theorem gX7_isMorning_X7_in : GoodIn wsX7_isMorning (va_wsS RX7 51 yX7_in wsX7_in) := goodIn_app (goodIn_of _ (by decide +kernel)) ggX7_isMorning_X7_in
set_option maxRecDepth 20000 in
theorem ggX7_isMorning_X7_isWoman : GoodIn wsX7_isMorning wsX7_isWoman := goodIn_r _ [13, 6, 7, 8, 4, 9, 14, 15, 16, 17, 18, 19, 20, 21, 22, 23, 24, 25, 26, 27, 28, 29, 30, 31, 32] (by decide +kernel) (by decide +kernel)
set_option maxRecDepth 20000 in
theorem gX7_isMorning_X7_isWoman : GoodIn wsX7_isMorning (wsV RX7 108 RX7 yX7_isWoman wsX7_isWoman) := goodIn_app (goodIn_of _ (by decide +kernel)) ggX7_isMorning_X7_isWoman
theorem dX7_isMorning_0 : decode cX7_isMorning 0 = .ok (.aload_n 0, 1) := by decide +kernel
theorem dX7_isMorning_1 : decode cX7_isMorning 1 = .ok (.iload_n 1, 1) := by decide +kernel
theorem dX7_isMorning_2 : decode cX7_isMorning 2 = .ok (.invokevirtual 101, 3) := by decide +kernel
theorem dX7_isMorning_5 : decode cX7_isMorning 5 = .ok (.ifCond .eq 25, 3) := by decide +kernel
theorem dX7_isMorning_8 : decode cX7_isMorning 8 = .ok (.iload_n 2, 1) := by decide +kernel
theorem dX7_isMorning_9 : decode cX7_isMorning 9 = .ok (.iconst 1, 1) := by decide +kernel
theorem dX7_isMorning_10 : decode cX7_isMorning 10 = .ok (.bipush 96, 2) := by decide +kernel
theorem dX7_isMorning_12 : decode cX7_isMorning 12 = .ok (.invokestatic 51, 3) := by decide +kernel
theorem dX7_isMorning_15 : decode cX7_isMorning 15 = .ok (.ifCond .eq 15, 3) := by decide +kernel
theorem dX7_isMorning_18 : decode cX7_isMorning 18 = .ok (.aload_n 0, 1) := by decide +kernel
theorem dX7_isMorning_19 : decode cX7_isMorning 19 = .ok (.iload_n 3, 1) := by decide +kernel
theorem dX7_isMorning_20 : decode cX7_isMorning 20 = .ok (.invokevirtual 108, 3) := by decide +kernel
theorem dX7_isMorning_23 : decode cX7_isMorning 23 = .ok (.ifCond .eq 7, 3) := by decide +kernel
theorem dX7_isMorning_26 : decode cX7_isMorning 26 = .ok (.iconst 1, 1) := by decide +kernel
theorem dX7_isMorning_27 : decode cX7_isMorning 27 = .ok (.goto 4, 3) := by decide +kernel
theorem dX7_isMorning_30 : decode cX7_isMorning 30 = .ok (.iconst 0, 1) := by decide +kernel
theorem dX7_isMorning_31 : decode cX7_isMorning 31 = .ok (.ireturn, 1) := by decide +kernel
set_option maxRecDepth 20000 in
theorem ggX7_morning_X7_isMorning : GoodIn wsX7_morning wsX7_isMorning := goodIn_r _ [6, 7, 8, 9, 5, 10, 11, 12, 13, 14, 15, 16, 17, 18, 43, 44, 45, 46, 47, 48, 49, 50, 51, 52, 53, 54, 55, 56, 57, 58, 59, 60, 61] (by decide +kernel) (by decide +kernel)
set_option maxRecDepth 20000 in
theorem gX7_morning_X7_isMorning : GoodIn wsX7_morning (wsV RX7 131 RX7 yX7_isMorning wsX7_isMorning) := goodIn_app (goodIn_of _ (by decide +kernel)) ggX7_morning_X7_isMorning
set_option maxRecDepth 20000 in
theorem ggX7_morning_X7_isIll : GoodIn wsX7_morning wsX7_isIll := goodIn_r _ [22, 1, 43, 44, 45, 46, 47, 48, 49, 50, 51, 52, 53, 54, 55, 56, 57, 58, 59, 60, 61] (by decide +kernel) (by decide +kernel)
set_option maxRecDepth 20000 in
theorem gX7_morning_X7_isIll : GoodIn wsX7_morning (wsV RX7 111 RX7 yX7_isIll wsX7_isIll) := goodIn_app (goodIn_of _ (by decide +kernel)) ggX7_morning_X7_isIll
set_option maxRecDepth 20000 in
theorem ggX7_morning_X7_keeps : GoodIn wsX7_morning wsX7_keeps := goodIn_r _ [26, 27, 28, 1, 43, 44, 45, 46, 47, 48, 49, 50, 51, 52, 53, 54, 55, 56, 57, 58, 59, 60, 61] (by decide +kernel) (by decide +kernel)
set_option maxRecDepth 20000 in
theorem gX7_morning_X7_keeps : GoodIn wsX7_morning (wsV RX7 134 RX7 yX7_keeps wsX7_keeps) := goodIn_app (goodIn_of _ (by decide +kernel)) ggX7_morning_X7_keeps
set_option maxRecDepth 20000 in
theorem ggX7_morning_X7_goes : GoodIn wsX7_morning wsX7_goes := goodIn_r _ [32, 11, 1, 33, 34, 35, 5, 36, 37, 38, 39, 40, 41, 42, 43, 44, 45, 46, 47, 48, 49, 50, 51, 52, 53, 54, 55, 56, 57, 58, 59, 60, 61] (by decide +kernel) (by decide +kernel)
set_option maxRecDepth 20000 in
theorem gX7_morning_X7_goes : GoodIn wsX7_morning (wsV RX7 137 RX7 yX7_goes wsX7_goes) := goodIn_app (goodIn_of _ (by decide +kernel)) ggX7_morning_X7_goes
theorem dX7_morning_0 : decode cX7_morning 0 = .ok (.aload_n 0, 1) := by decide +kernel
theorem dX7_morning_1 : decode cX7_morning 1 = .ok (.iload_n 1, 1) := by decide +kernel
theorem dX7_morning_2 : decode cX7_morning 2 = .ok (.iload_n 2, 1) := by decide +kernel
theorem dX7_morning_3 : decode cX7_morning 3 = .ok (.iload_n 3, 1) := by decide +kernel
theorem dX7_morning_4 : decode cX7_morning 4 = .ok (.invokevirtual 131, 3) := by decide +kernel
theorem dX7_morning_7 : decode cX7_morning 7 = .ok (.ifCond .ne 5, 3) := by decide +kernel
theorem dX7_morning_10 : decode cX7_morning 10 = .ok (.iconst (-1), 1) := by decide +kernel
theorem dX7_morning_11 : decode cX7_morning 11 = .ok (.ireturn, 1) := by decide +kernel
theorem dX7_morning_12 : decode cX7_morning 12 = .ok (.aload_n 0, 1) := by decide +kernel
theorem dX7_morning_13 : decode cX7_morning 13 = .ok (.iload_n 3, 1) := by decide +kernel
theorem dX7_morning_14 : decode cX7_morning 14 = .ok (.invokevirtual 111, 3) := by decide +kernel
theorem dX7_morning_17 : decode cX7_morning 17 = .ok (.ifCond .ne 15, 3) := by decide +kernel
theorem dX7_morning_20 : decode cX7_morning 20 = .ok (.aload_n 0, 1) := by decide +kernel
theorem dX7_morning_21 : decode cX7_morning 21 = .ok (.getfield 19, 3) := by decide +kernel
theorem dX7_morning_24 : decode cX7_morning 24 = .ok (.iconst 0, 1) := by decide +kernel
theorem dX7_morning_25 : decode cX7_morning 25 = .ok (.iaload, 1) := by decide +kernel
theorem dX7_morning_26 : decode cX7_morning 26 = .ok (.sipush 999, 3) := by decide +kernel
theorem dX7_morning_29 : decode cX7_morning 29 = .ok (.if_icmp .ne 6, 3) := by decide +kernel
theorem dX7_morning_32 : decode cX7_morning 32 = .ok (.bipush (-2), 2) := by decide +kernel
theorem dX7_morning_34 : decode cX7_morning 34 = .ok (.ireturn, 1) := by decide +kernel
theorem dX7_morning_35 : decode cX7_morning 35 = .ok (.aload_n 0, 1) := by decide +kernel
theorem dX7_morning_36 : decode cX7_morning 36 = .ok (.invokevirtual 134, 3) := by decide +kernel
theorem dX7_morning_39 : decode cX7_morning 39 = .ok (.aload_n 0, 1) := by decide +kernel
theorem dX7_morning_40 : decode cX7_morning 40 = .ok (.iload_n 1, 1) := by decide +kernel
theorem dX7_morning_41 : decode cX7_morning 41 = .ok (.iload_n 2, 1) := by decide +kernel
theorem dX7_morning_42 : decode cX7_morning 42 = .ok (.iload_n 3, 1) := by decide +kernel
theorem dX7_morning_43 : decode cX7_morning 43 = .ok (.invokevirtual 137, 3) := by decide +kernel
theorem dX7_morning_46 : decode cX7_morning 46 = .ok (.ireturn, 1) := by decide +kernel
set_option maxRecDepth 20000 in
theorem ggX7_home_X7_in : GoodIn wsX7_home wsX7_in := goodIn_r _ [5] (by decide +kernel) (by decide +kernel)
set_option maxRecDepth 20000 in
theorem gX7_home_X7_in : GoodIn wsX7_home (va_wsS RX7 51 yX7_in wsX7_in) := goodIn_app (goodIn_of _ (by decide +kernel)) ggX7_home_X7_in
set_option maxRecDepth 20000 in
theorem ggX7_home_X7_keeps : GoodIn wsX7_home wsX7_keeps := goodIn_r _ [9, 10, 11, 1, 15, 16, 17, 18, 19, 20, 21, 22, 23, 24, 25, 26, 27, 28, 29, 30, 31, 32, 33] (by decide +kernel) (by decide +kernel)
set_option maxRecDepth 20000 in
theorem gX7_home_X7_keeps : GoodIn wsX7_home (wsV RX7 134 RX7 yX7_keeps wsX7_keeps) := goodIn_app (goodIn_of _ (by decide +kernel)) ggX7_home_X7_keeps
set_option maxRecDepth 20000 in
theorem ggX7_home_X7_bound : GoodIn wsX7_home wsX7_bound := goodIn_r _ [14] (by decide +kernel) (by decide +kernel)
set_option maxRecDepth 20000 in
theorem gX7_home_X7_bound : GoodIn wsX7_home (va_wsS RX7 121 yX7_bound wsX7_bound) := goodIn_app (goodIn_of _ (by decide +kernel)) ggX7_home_X7_bound
theorem dX7_home_0 : decode cX7_home 0 = .ok (.iload_n 1, 1) := by decide +kernel
theorem dX7_home_1 : decode cX7_home 1 = .ok (.iconst 1, 1) := by decide +kernel
theorem dX7_home_2 : decode cX7_home 2 = .ok (.bipush 9, 2) := by decide +kernel
theorem dX7_home_4 : decode cX7_home 4 = .ok (.invokestatic 51, 3) := by decide +kernel
theorem dX7_home_7 : decode cX7_home 7 = .ok (.ifCond .ne 5, 3) := by decide +kernel
theorem dX7_home_10 : decode cX7_home 10 = .ok (.iconst (-1), 1) := by decide +kernel
theorem dX7_home_11 : decode cX7_home 11 = .ok (.ireturn, 1) := by decide +kernel
theorem dX7_home_12 : decode cX7_home 12 = .ok (.aload_n 0, 1) := by decide +kernel
theorem dX7_home_13 : decode cX7_home 13 = .ok (.getfield 19, 3) := by decide +kernel
theorem dX7_home_16 : decode cX7_home 16 = .ok (.iconst 0, 1) := by decide +kernel
theorem dX7_home_17 : decode cX7_home 17 = .ok (.iaload, 1) := by decide +kernel
theorem dX7_home_18 : decode cX7_home 18 = .ok (.iload_n 1, 1) := by decide +kernel
theorem dX7_home_19 : decode cX7_home 19 = .ok (.iadd, 1) := by decide +kernel
theorem dX7_home_20 : decode cX7_home 20 = .ok (.sipush 999, 3) := by decide +kernel
theorem dX7_home_23 : decode cX7_home 23 = .ok (.if_icmp .le 6, 3) := by decide +kernel
theorem dX7_home_26 : decode cX7_home 26 = .ok (.bipush (-2), 2) := by decide +kernel
theorem dX7_home_28 : decode cX7_home 28 = .ok (.ireturn, 1) := by decide +kernel
theorem dX7_home_29 : decode cX7_home 29 = .ok (.aload_n 0, 1) := by decide +kernel
theorem dX7_home_30 : decode cX7_home 30 = .ok (.invokevirtual 134, 3) := by decide +kernel
theorem dX7_home_33 : decode cX7_home 33 = .ok (.aload_n 0, 1) := by decide +kernel
