theorem dX5_trustAfter_8 : decode cX5_trustAfter 8 = .ok (.aload_n 0, 1) := by decide +kernel
theorem dX5_trustAfter_9 : decode cX5_trustAfter 9 = .ok (.iload_n 1, 1) := by decide +kernel
theorem dX5_trustAfter_10 : decode cX5_trustAfter 10 = .ok (.iload_n 2, 1) := by decide +kernel
theorem dX5_trustAfter_11 : decode cX5_trustAfter 11 = .ok (.invokevirtual 63, 3) := by decide +kernel
theorem dX5_trustAfter_14 : decode cX5_trustAfter 14 = .ok (.ireturn, 1) := by decide +kernel
theorem dX5_trustAfter_15 : decode cX5_trustAfter 15 = .ok (.aload_n 0, 1) := by decide +kernel
theorem dX5_trustAfter_16 : decode cX5_trustAfter 16 = .ok (.iload_n 3, 1) := by decide +kernel
theorem dX5_trustAfter_17 : decode cX5_trustAfter 17 = .ok (.invokevirtual 66, 3) := by decide +kernel
theorem dX5_trustAfter_20 : decode cX5_trustAfter 20 = .ok (.ifCond .eq 13, 3) := by decide +kernel
theorem dX5_trustAfter_23 : decode cX5_trustAfter 23 = .ok (.iconst 0, 1) := by decide +kernel
theorem dX5_trustAfter_24 : decode cX5_trustAfter 24 = .ok (.iload_n 2, 1) := by decide +kernel
theorem dX5_trustAfter_25 : decode cX5_trustAfter 25 = .ok (.iconst 2, 1) := by decide +kernel
theorem dX5_trustAfter_26 : decode cX5_trustAfter 26 = .ok (.isub, 1) := by decide +kernel
theorem dX5_trustAfter_27 : decode cX5_trustAfter 27 = .ok (.invokestatic 69, 3) := by decide +kernel
theorem dX5_trustAfter_30 : decode cX5_trustAfter 30 = .ok (.goto 4, 3) := by decide +kernel
theorem dX5_trustAfter_33 : decode cX5_trustAfter 33 = .ok (.iload_n 2, 1) := by decide +kernel
theorem dX5_trustAfter_34 : decode cX5_trustAfter 34 = .ok (.ireturn, 1) := by decide +kernel
set_option maxRecDepth 20000 in
theorem ggX5_likingAfter_X5_isCalm : GoodIn wsX5_likingAfter wsX5_isCalm := goodIn_r _ [9, 10, 11, 12, 8, 13, 14, 26, 27, 28, 29, 30, 31] (by decide +kernel) (by decide +kernel)
set_option maxRecDepth 20000 in
theorem gX5_likingAfter_X5_isCalm : GoodIn wsX5_likingAfter (wsV RX5 60 RX5 yX5_isCalm wsX5_isCalm) := goodIn_app (goodIn_of _ (by decide +kernel)) ggX5_likingAfter_X5_isCalm
set_option maxRecDepth 20000 in
theorem ggX5_likingAfter_X5_calmerLiking : GoodIn wsX5_likingAfter wsX5_calmerLiking := goodIn_r _ [18, 19, 20, 3, 21] (by decide +kernel) (by decide +kernel)
set_option maxRecDepth 20000 in
theorem gX5_likingAfter_X5_calmerLiking : GoodIn wsX5_likingAfter (wsV RX5 74 RX5 yX5_calmerLiking wsX5_calmerLiking) := goodIn_app (goodIn_of _ (by decide +kernel)) ggX5_likingAfter_X5_calmerLiking
set_option maxRecDepth 20000 in
theorem ggX5_likingAfter_X5_isWild : GoodIn wsX5_likingAfter wsX5_isWild := goodIn_r _ [25, 10, 11, 12, 8, 13, 14, 26, 27, 28, 29, 30, 31] (by decide +kernel) (by decide +kernel)
set_option maxRecDepth 20000 in
theorem gX5_likingAfter_X5_isWild : GoodIn wsX5_likingAfter (wsV RX5 66 RX5 yX5_isWild wsX5_isWild) := goodIn_app (goodIn_of _ (by decide +kernel)) ggX5_likingAfter_X5_isWild
theorem dX5_likingAfter_0 : decode cX5_likingAfter 0 = .ok (.aload_n 0, 1) := by decide +kernel
theorem dX5_likingAfter_1 : decode cX5_likingAfter 1 = .ok (.iload_n 2, 1) := by decide +kernel
theorem dX5_likingAfter_2 : decode cX5_likingAfter 2 = .ok (.invokevirtual 60, 3) := by decide +kernel
theorem dX5_likingAfter_5 : decode cX5_likingAfter 5 = .ok (.ifCond .eq 9, 3) := by decide +kernel
theorem dX5_likingAfter_8 : decode cX5_likingAfter 8 = .ok (.aload_n 0, 1) := by decide +kernel
theorem dX5_likingAfter_9 : decode cX5_likingAfter 9 = .ok (.iload_n 1, 1) := by decide +kernel
theorem dX5_likingAfter_10 : decode cX5_likingAfter 10 = .ok (.invokevirtual 74, 3) := by decide +kernel
theorem dX5_likingAfter_13 : decode cX5_likingAfter 13 = .ok (.ireturn, 1) := by decide +kernel
theorem dX5_likingAfter_14 : decode cX5_likingAfter 14 = .ok (.aload_n 0, 1) := by decide +kernel
theorem dX5_likingAfter_15 : decode cX5_likingAfter 15 = .ok (.iload_n 2, 1) := by decide +kernel
theorem dX5_likingAfter_16 : decode cX5_likingAfter 16 = .ok (.invokevirtual 66, 3) := by decide +kernel
theorem dX5_likingAfter_19 : decode cX5_likingAfter 19 = .ok (.ifCond .eq 13, 3) := by decide +kernel
theorem dX5_likingAfter_22 : decode cX5_likingAfter 22 = .ok (.iconst 0, 1) := by decide +kernel
theorem dX5_likingAfter_23 : decode cX5_likingAfter 23 = .ok (.iload_n 1, 1) := by decide +kernel
theorem dX5_likingAfter_24 : decode cX5_likingAfter 24 = .ok (.iconst 1, 1) := by decide +kernel
theorem dX5_likingAfter_25 : decode cX5_likingAfter 25 = .ok (.isub, 1) := by decide +kernel
theorem dX5_likingAfter_26 : decode cX5_likingAfter 26 = .ok (.invokestatic 69, 3) := by decide +kernel
theorem dX5_likingAfter_29 : decode cX5_likingAfter 29 = .ok (.goto 4, 3) := by decide +kernel
theorem dX5_likingAfter_32 : decode cX5_likingAfter 32 = .ok (.iload_n 1, 1) := by decide +kernel
theorem dX5_likingAfter_33 : decode cX5_likingAfter 33 = .ok (.ireturn, 1) := by decide +kernel
set_option maxRecDepth 20000 in
theorem ggX5_calmerTrust_X5_gainOf : GoodIn wsX5_calmerTrust wsX5_gainOf := goodIn_r _ [9, 10, 11, 12, 13, 8, 14, 15, 16, 17, 18, 19, 20, 21] (by decide +kernel) (by decide +kernel)
set_option maxRecDepth 20000 in
theorem gX5_calmerTrust_X5_gainOf : GoodIn wsX5_calmerTrust (wsV RX5 77 RX5 yX5_gainOf wsX5_gainOf) := goodIn_app (goodIn_of _ (by decide +kernel)) ggX5_calmerTrust_X5_gainOf
theorem dX5_calmerTrust_0 : decode cX5_calmerTrust 0 = .ok (.bipush 24, 2) := by decide +kernel
theorem dX5_calmerTrust_2 : decode cX5_calmerTrust 2 = .ok (.iload_n 2, 1) := by decide +kernel
theorem dX5_calmerTrust_3 : decode cX5_calmerTrust 3 = .ok (.aload_n 0, 1) := by decide +kernel
theorem dX5_calmerTrust_4 : decode cX5_calmerTrust 4 = .ok (.iload_n 1, 1) := by decide +kernel
theorem dX5_calmerTrust_5 : decode cX5_calmerTrust 5 = .ok (.invokevirtual 77, 3) := by decide +kernel
theorem dX5_calmerTrust_8 : decode cX5_calmerTrust 8 = .ok (.iadd, 1) := by decide +kernel
theorem dX5_calmerTrust_9 : decode cX5_calmerTrust 9 = .ok (.invokestatic 80, 3) := by decide +kernel
theorem dX5_calmerTrust_12 : decode cX5_calmerTrust 12 = .ok (.ireturn, 1) := by decide +kernel
theorem dX5_calmerLiking_0 : decode cX5_calmerLiking 0 = .ok (.bipush 9, 2) := by decide +kernel
theorem dX5_calmerLiking_2 : decode cX5_calmerLiking 2 = .ok (.iload_n 1, 1) := by decide +kernel
theorem dX5_calmerLiking_3 : decode cX5_calmerLiking 3 = .ok (.iconst 1, 1) := by decide +kernel
theorem dX5_calmerLiking_4 : decode cX5_calmerLiking 4 = .ok (.iadd, 1) := by decide +kernel
theorem dX5_calmerLiking_5 : decode cX5_calmerLiking 5 = .ok (.invokestatic 80, 3) := by decide +kernel
theorem dX5_calmerLiking_8 : decode cX5_calmerLiking 8 = .ok (.ireturn, 1) := by decide +kernel
set_option maxRecDepth 20000 in
theorem ggX5_reach_X5_setting : GoodIn wsX5_reach wsX5_setting := goodIn_r _ [9, 10, 24, 25, 26, 27, 28, 29] (by decide +kernel) (by decide +kernel)
set_option maxRecDepth 20000 in
theorem gX5_reach_X5_setting : GoodIn wsX5_reach (wsV RX5 50 RX5 yX5_setting wsX5_setting) := goodIn_app (goodIn_of _ (by decide +kernel)) ggX5_reach_X5_setting
set_option maxRecDepth 20000 in
theorem ggX5_reach_X5_tearsOf : GoodIn wsX5_reach wsX5_tearsOf := goodIn_r _ [14, 15, 16, 17, 18, 8, 19, 20, 24, 25, 26, 27, 28, 29] (by decide +kernel) (by decide +kernel)
set_option maxRecDepth 20000 in
theorem gX5_reach_X5_tearsOf : GoodIn wsX5_reach (wsV RX5 46 RX5 yX5_tearsOf wsX5_tearsOf) := goodIn_app (goodIn_of _ (by decide +kernel)) ggX5_reach_X5_tearsOf
set_option maxRecDepth 20000 in
theorem ggX5_reach_X6_quotient : GoodIn wsX5_reach wsX6_quotient := goodIn_r _ [23] (by decide +kernel) (by decide +kernel)
set_option maxRecDepth 20000 in
theorem gX5_reach_X6_quotient_n83 : GoodIn wsX5_reach (wsX6_quotient) := ggX5_reach_X6_quotient
theorem dX5_reach_0 : decode cX5_reach 0 = .ok (.aload_n 0, 1) := by decide +kernel
theorem dX5_reach_1 : decode cX5_reach 1 = .ok (.iconst 1, 1) := by decide +kernel
theorem dX5_reach_2 : decode cX5_reach 2 = .ok (.invokevirtual 50, 3) := by decide +kernel
theorem dX5_reach_5 : decode cX5_reach 5 = .ok (.iload_n 3, 1) := by decide +kernel
theorem dX5_reach_6 : decode cX5_reach 6 = .ok (.iadd, 1) := by decide +kernel
theorem dX5_reach_7 : decode cX5_reach 7 = .ok (.aload_n 0, 1) := by decide +kernel
theorem dX5_reach_8 : decode cX5_reach 8 = .ok (.iload_n 1, 1) := by decide +kernel
theorem dX5_reach_9 : decode cX5_reach 9 = .ok (.invokevirtual 46, 3) := by decide +kernel
theorem dX5_reach_12 : decode cX5_reach 12 = .ok (.isub, 1) := by decide +kernel
theorem dX5_reach_13 : decode cX5_reach 13 = .ok (.istore 4, 2) := by decide +kernel
theorem dX5_reach_15 : decode cX5_reach 15 = .ok (.iload 4, 2) := by decide +kernel
theorem dX5_reach_17 : decode cX5_reach 17 = .ok (.ifCond .ge 5, 3) := by decide +kernel
theorem dX5_reach_20 : decode cX5_reach 20 = .ok (.iconst 0, 1) := by decide +kernel
theorem dX5_reach_21 : decode cX5_reach 21 = .ok (.ireturn, 1) := by decide +kernel
theorem dX5_reach_22 : decode cX5_reach 22 = .ok (.bipush 96, 2) := by decide +kernel
theorem dX5_reach_24 : decode cX5_reach 24 = .ok (.iconst 2, 1) := by decide +kernel
theorem dX5_reach_25 : decode cX5_reach 25 = .ok (.iload_n 2, 1) := by decide +kernel
theorem dX5_reach_26 : decode cX5_reach 26 = .ok (.imul, 1) := by decide +kernel
theorem dX5_reach_27 : decode cX5_reach 27 = .ok (.iload 4, 2) := by decide +kernel
theorem dX5_reach_29 : decode cX5_reach 29 = .ok (.aload_n 0, 1) := by decide +kernel
theorem dX5_reach_30 : decode cX5_reach 30 = .ok (.iconst 0, 1) := by decide +kernel
theorem dX5_reach_31 : decode cX5_reach 31 = .ok (.invokevirtual 50, 3) := by decide +kernel
theorem dX5_reach_34 : decode cX5_reach 34 = .ok (.invokestatic 83, 3) := by decide +kernel
theorem dX5_reach_37 : decode cX5_reach 37 = .ok (.iadd, 1) := by decide +kernel
theorem dX5_reach_38 : decode cX5_reach 38 = .ok (.invokestatic 80, 3) := by decide +kernel
theorem dX5_reach_41 : decode cX5_reach 41 = .ok (.ireturn, 1) := by decide +kernel
set_option maxRecDepth 20000 in
theorem ggX5_calmTenths_X5_isCalm : GoodIn wsX5_calmTenths wsX5_isCalm := goodIn_r _ [9, 10, 11, 12, 8, 13, 14, 15, 16, 17, 18, 19, 20] (by decide +kernel) (by decide +kernel)
set_option maxRecDepth 20000 in
theorem gX5_calmTenths_X5_isCalm : GoodIn wsX5_calmTenths (wsV RX5 60 RX5 yX5_isCalm wsX5_isCalm) := goodIn_app (goodIn_of _ (by decide +kernel)) ggX5_calmTenths_X5_isCalm
theorem dX5_calmTenths_0 : decode cX5_calmTenths 0 = .ok (.aload_n 0, 1) := by decide +kernel
theorem dX5_calmTenths_1 : decode cX5_calmTenths 1 = .ok (.iload_n 1, 1) := by decide +kernel
theorem dX5_calmTenths_2 : decode cX5_calmTenths 2 = .ok (.invokevirtual 60, 3) := by decide +kernel
theorem dX5_calmTenths_5 : decode cX5_calmTenths 5 = .ok (.ifCond .eq 10, 3) := by decide +kernel
theorem dX5_calmTenths_8 : decode cX5_calmTenths 8 = .ok (.bipush 10, 2) := by decide +kernel
theorem dX5_calmTenths_10 : decode cX5_calmTenths 10 = .ok (.iload_n 2, 1) := by decide +kernel
theorem dX5_calmTenths_11 : decode cX5_calmTenths 11 = .ok (.isub, 1) := by decide +kernel
theorem dX5_calmTenths_12 : decode cX5_calmTenths 12 = .ok (.goto 4, 3) := by decide +kernel
theorem dX5_calmTenths_15 : decode cX5_calmTenths 15 = .ok (.iconst 0, 1) := by decide +kernel
theorem dX5_calmTenths_16 : decode cX5_calmTenths 16 = .ok (.istore 4, 2) := by decide +kernel
theorem dX5_calmTenths_18 : decode cX5_calmTenths 18 = .ok (.aload_n 0, 1) := by decide +kernel
theorem dX5_calmTenths_19 : decode cX5_calmTenths 19 = .ok (.bipush 60, 2) := by decide +kernel
theorem dX5_calmTenths_21 : decode cX5_calmTenths 21 = .ok (.iload_n 1, 1) := by decide +kernel
theorem dX5_calmTenths_22 : decode cX5_calmTenths 22 = .ok (.iload_n 3, 1) := by decide +kernel
theorem dX5_calmTenths_23 : decode cX5_calmTenths 23 = .ok (.iadd, 1) := by decide +kernel
theorem dX5_calmTenths_24 : decode cX5_calmTenths 24 = .ok (.invokestatic 80, 3) := by decide +kernel
theorem dX5_calmTenths_27 : decode cX5_calmTenths 27 = .ok (.invokevirtual 60, 3) := by decide +kernel
theorem dX5_calmTenths_30 : decode cX5_calmTenths 30 = .ok (.ifCond .eq 7, 3) := by decide +kernel
theorem dX5_calmTenths_33 : decode cX5_calmTenths 33 = .ok (.iload_n 2, 1) := by decide +kernel
theorem dX5_calmTenths_34 : decode cX5_calmTenths 34 = .ok (.goto 4, 3) := by decide +kernel
theorem dX5_calmTenths_37 : decode cX5_calmTenths 37 = .ok (.iconst 0, 1) := by decide +kernel
theorem dX5_calmTenths_38 : decode cX5_calmTenths 38 = .ok (.istore 5, 2) := by decide +kernel
theorem dX5_calmTenths_40 : decode cX5_calmTenths 40 = .ok (.iload 4, 2) := by decide +kernel
theorem dX5_calmTenths_42 : decode cX5_calmTenths 42 = .ok (.iload 5, 2) := by decide +kernel
theorem dX5_calmTenths_44 : decode cX5_calmTenths 44 = .ok (.iadd, 1) := by decide +kernel
theorem dX5_calmTenths_45 : decode cX5_calmTenths 45 = .ok (.ireturn, 1) := by decide +kernel
set_option maxRecDepth 20000 in
theorem ggX6_init_X4_init : GoodIn wsX6_init wsX4_init := goodIn_r _ [34, 35, 2, 3, 36, 37, 38, 39, 40, 41, 84, 85, 86, 87, 88] (by decide +kernel) (by decide +kernel)
set_option maxRecDepth 20000 in
theorem gX6_init_X4_init_n9 : GoodIn wsX6_init (wsX4_init) := ggX6_init_X4_init
set_option maxRecDepth 20000 in
theorem ggX6_init_X0_init : GoodIn wsX6_init wsX0_init := goodIn_r _ [43, 44, 2, 3, 36, 45, 46, 47, 48, 49, 98, 99, 100, 101, 102] (by decide +kernel) (by decide +kernel)
set_option maxRecDepth 20000 in
theorem gX6_init_X0_init_n18 : GoodIn wsX6_init (wsX0_init) := ggX6_init_X0_init
set_option maxRecDepth 20000 in
theorem ggX6_init_X2_init : GoodIn wsX6_init wsX2_init := goodIn_r _ [51, 52, 2, 3, 24, 53, 54, 103, 104] (by decide +kernel) (by decide +kernel)
set_option maxRecDepth 20000 in
theorem gX6_init_X2_init_n25 : GoodIn wsX6_init (wsX2_init) := ggX6_init_X2_init
set_option maxRecDepth 20000 in
theorem ggX6_init_X3_init : GoodIn wsX6_init wsX3_init := goodIn_r _ [56, 57, 2, 3, 36, 58, 59, 60, 61, 105, 106, 107, 108] (by decide +kernel) (by decide +kernel)
set_option maxRecDepth 20000 in
theorem gX6_init_X3_init_n32 : GoodIn wsX6_init (wsX3_init) := ggX6_init_X3_init
set_option maxRecDepth 20000 in
theorem ggX6_init_X1_init : GoodIn wsX6_init wsX1_init := goodIn_r _ [63, 64, 2, 3, 36, 65, 66, 67, 68, 109, 110, 111, 112] (by decide +kernel) (by decide +kernel)
set_option maxRecDepth 20000 in
theorem gX6_init_X1_init_n39 : GoodIn wsX6_init (wsX1_init) := ggX6_init_X1_init
set_option maxRecDepth 20000 in
theorem ggX6_init_X5_init : GoodIn wsX6_init wsX5_init := goodIn_r _ [70, 71, 2, 3, 36, 72, 73, 74, 75, 76, 77, 78, 79, 80, 81, 82, 83, 113, 114, 115, 116, 117, 118] (by decide +kernel) (by decide +kernel)
set_option maxRecDepth 20000 in
theorem gX6_init_X5_init_n52 : GoodIn wsX6_init (wsX5_init) := ggX6_init_X5_init
theorem dX6_init_0 : decode cX6_init 0 = .ok (.aload_n 0, 1) := by decide +kernel
theorem dX6_init_1 : decode cX6_init 1 = .ok (.invokespecial 1, 3) := by decide +kernel
theorem dX6_init_4 : decode cX6_init 4 = .ok (.aload_n 0, 1) := by decide +kernel
theorem dX6_init_5 : decode cX6_init 5 = .ok (.new 7, 3) := by decide +kernel
theorem dX6_init_8 : decode cX6_init 8 = .ok (.dup, 1) := by decide +kernel
theorem dX6_init_9 : decode cX6_init 9 = .ok (.invokespecial 9, 3) := by decide +kernel
theorem dX6_init_12 : decode cX6_init 12 = .ok (.putfield 10, 3) := by decide +kernel
theorem dX6_init_15 : decode cX6_init 15 = .ok (.aload_n 0, 1) := by decide +kernel
theorem dX6_init_16 : decode cX6_init 16 = .ok (.new 16, 3) := by decide +kernel
theorem dX6_init_19 : decode cX6_init 19 = .ok (.dup, 1) := by decide +kernel
theorem dX6_init_20 : decode cX6_init 20 = .ok (.invokespecial 18, 3) := by decide +kernel
theorem dX6_init_23 : decode cX6_init 23 = .ok (.putfield 19, 3) := by decide +kernel
theorem dX6_init_26 : decode cX6_init 26 = .ok (.aload_n 0, 1) := by decide +kernel
theorem dX6_init_27 : decode cX6_init 27 = .ok (.new 23, 3) := by decide +kernel
theorem dX6_init_30 : decode cX6_init 30 = .ok (.dup, 1) := by decide +kernel
theorem dX6_init_31 : decode cX6_init 31 = .ok (.invokespecial 25, 3) := by decide +kernel
theorem dX6_init_34 : decode cX6_init 34 = .ok (.putfield 26, 3) := by decide +kernel
theorem dX6_init_37 : decode cX6_init 37 = .ok (.aload_n 0, 1) := by decide +kernel
theorem dX6_init_38 : decode cX6_init 38 = .ok (.new 30, 3) := by decide +kernel
theorem dX6_init_41 : decode cX6_init 41 = .ok (.dup, 1) := by decide +kernel
theorem dX6_init_42 : decode cX6_init 42 = .ok (.invokespecial 32, 3) := by decide +kernel
theorem dX6_init_45 : decode cX6_init 45 = .ok (.putfield 33, 3) := by decide +kernel
theorem dX6_init_48 : decode cX6_init 48 = .ok (.aload_n 0, 1) := by decide +kernel
theorem dX6_init_49 : decode cX6_init 49 = .ok (.new 37, 3) := by decide +kernel
theorem dX6_init_52 : decode cX6_init 52 = .ok (.dup, 1) := by decide +kernel
theorem dX6_init_53 : decode cX6_init 53 = .ok (.invokespecial 39, 3) := by decide +kernel
theorem dX6_init_56 : decode cX6_init 56 = .ok (.putfield 40, 3) := by decide +kernel
theorem dX6_init_59 : decode cX6_init 59 = .ok (.aload_n 0, 1) := by decide +kernel
theorem dX6_init_60 : decode cX6_init 60 = .ok (.iconst 2, 1) := by decide +kernel
theorem dX6_init_61 : decode cX6_init 61 = .ok (.newarray .long, 2) := by decide +kernel
theorem dX6_init_63 : decode cX6_init 63 = .ok (.dup, 1) := by decide +kernel
theorem dX6_init_64 : decode cX6_init 64 = .ok (.iconst 0, 1) := by decide +kernel
theorem dX6_init_65 : decode cX6_init 65 = .ok (.ldc2_w 44, 3) := by decide +kernel
theorem dX6_init_68 : decode cX6_init 68 = .ok (.lastore, 1) := by decide +kernel
theorem dX6_init_69 : decode cX6_init 69 = .ok (.dup, 1) := by decide +kernel
theorem dX6_init_70 : decode cX6_init 70 = .ok (.iconst 1, 1) := by decide +kernel
theorem dX6_init_71 : decode cX6_init 71 = .ok (.ldc2_w 44, 3) := by decide +kernel
theorem dX6_init_74 : decode cX6_init 74 = .ok (.lastore, 1) := by decide +kernel
theorem dX6_init_75 : decode cX6_init 75 = .ok (.putfield 46, 3) := by decide +kernel
theorem dX6_init_78 : decode cX6_init 78 = .ok (.aload_n 0, 1) := by decide +kernel
theorem dX6_init_79 : decode cX6_init 79 = .ok (.new 50, 3) := by decide +kernel
theorem dX6_init_82 : decode cX6_init 82 = .ok (.dup, 1) := by decide +kernel
theorem dX6_init_83 : decode cX6_init 83 = .ok (.invokespecial 52, 3) := by decide +kernel
theorem dX6_init_86 : decode cX6_init 86 = .ok (.putfield 53, 3) := by decide +kernel
theorem dX6_init_89 : decode cX6_init 89 = .ok (.aload_n 0, 1) := by decide +kernel
theorem dX6_init_90 : decode cX6_init 90 = .ok (.new 50, 3) := by decide +kernel
theorem dX6_init_93 : decode cX6_init 93 = .ok (.dup, 1) := by decide +kernel
theorem dX6_init_94 : decode cX6_init 94 = .ok (.invokespecial 52, 3) := by decide +kernel
theorem dX6_init_97 : decode cX6_init 97 = .ok (.putfield 57, 3) := by decide +kernel
theorem dX6_init_100 : decode cX6_init 100 = .ok (.aload_n 0, 1) := by decide +kernel
theorem dX6_init_101 : decode cX6_init 101 = .ok (.lconst 0, 1) := by decide +kernel
theorem dX6_init_102 : decode cX6_init 102 = .ok (.putfield 60, 3) := by decide +kernel
theorem dX6_init_105 : decode cX6_init 105 = .ok (.return_, 1) := by decide +kernel
set_option maxRecDepth 20000 in
theorem ggX6_type_X4_add : GoodIn wsX6_type wsX4_add := goodIn_r _ [6, 7, 8, 18, 19, 20, 21, 22] (by decide +kernel) (by decide +kernel)
set_option maxRecDepth 20000 in
theorem gX6_type_X4_add : GoodIn wsX6_type (wsV RX6 64 RX4 yX4_add wsX4_add) := goodIn_app (goodIn_of _ (by decide +kernel)) ggX6_type_X4_add
theorem dX6_type_0 : decode cX6_type 0 = .ok (.iload_n 1, 1) := by decide +kernel
theorem dX6_type_1 : decode cX6_type 1 = .ok (.ifCond .lt 10, 3) := by decide +kernel
theorem dX6_type_4 : decode cX6_type 4 = .ok (.iload_n 1, 1) := by decide +kernel
theorem dX6_type_5 : decode cX6_type 5 = .ok (.sipush 255, 3) := by decide +kernel
theorem dX6_type_8 : decode cX6_type 8 = .ok (.if_icmp .le 5, 3) := by decide +kernel
theorem dX6_type_11 : decode cX6_type 11 = .ok (.iconst (-1), 1) := by decide +kernel
theorem dX6_type_12 : decode cX6_type 12 = .ok (.ireturn, 1) := by decide +kernel
theorem dX6_type_13 : decode cX6_type 13 = .ok (.aload_n 0, 1) := by decide +kernel
theorem dX6_type_14 : decode cX6_type 14 = .ok (.getfield 10, 3) := by decide +kernel
theorem dX6_type_17 : decode cX6_type 17 = .ok (.iload_n 1, 1) := by decide +kernel
theorem dX6_type_18 : decode cX6_type 18 = .ok (.invokevirtual 64, 3) := by decide +kernel
theorem dX6_type_21 : decode cX6_type 21 = .ok (.ireturn, 1) := by decide +kernel
set_option maxRecDepth 20000 in
theorem ggX6_clear_X4_empty : GoodIn wsX6_clear wsX4_empty := goodIn_r _ [6, 7, 17, 18, 19, 20, 21] (by decide +kernel) (by decide +kernel)
set_option maxRecDepth 20000 in
theorem gX6_clear_X4_empty : GoodIn wsX6_clear (wsV RX6 68 RX4 yX4_empty wsX4_empty) := goodIn_app (goodIn_of _ (by decide +kernel)) ggX6_clear_X4_empty
theorem dX6_clear_0 : decode cX6_clear 0 = .ok (.aload_n 0, 1) := by decide +kernel
theorem dX6_clear_1 : decode cX6_clear 1 = .ok (.getfield 10, 3) := by decide +kernel
theorem dX6_clear_4 : decode cX6_clear 4 = .ok (.invokevirtual 68, 3) := by decide +kernel
theorem dX6_clear_7 : decode cX6_clear 7 = .ok (.ireturn, 1) := by decide +kernel
set_option maxRecDepth 20000 in
theorem ggX6_nursery_X4_tell : GoodIn wsX6_nursery wsX4_tell := goodIn_r _ [15, 16, 17, 18, 19, 20, 21, 22, 23, 24, 25, 26, 27, 28, 29, 30, 14, 31, 32, 33, 34, 35, 36, 37, 38, 39, 40, 41, 42, 43, 44, 45, 46, 47, 48, 49, 50, 51, 52, 53, 54, 55, 56, 57, 58, 59, 60, 61, 62, 63, 64, 65, 66, 67, 68, 69, 70, 71, 72, 73, 74, 75, 76, 77, 78, 79, 80, 81, 82, 83, 84, 85, 133, 134, 135, 136, 137, 138, 139, 140, 141, 142, 143] (by decide +kernel) (by decide +kernel)
set_option maxRecDepth 20000 in
theorem gX6_nursery_X4_tell : GoodIn wsX6_nursery (wsV RX6 72 RX4 yX4_tell wsX4_tell) := goodIn_app (goodIn_of _ (by decide +kernel)) ggX6_nursery_X4_tell
set_option maxRecDepth 20000 in
theorem ggX6_nursery_X4_empty : GoodIn wsX6_nursery wsX4_empty := goodIn_r _ [89, 18, 133, 134, 135, 136, 137] (by decide +kernel) (by decide +kernel)
set_option maxRecDepth 20000 in
theorem gX6_nursery_X4_empty : GoodIn wsX6_nursery (wsV RX6 68 RX4 yX4_empty wsX4_empty) := goodIn_app (goodIn_of _ (by decide +kernel)) ggX6_nursery_X4_empty
set_option maxRecDepth 20000 in
theorem ggX6_nursery_X0_startAnew : GoodIn wsX6_nursery wsX0_startAnew := goodIn_r _ [94, 95, 96, 97, 98, 99, 100, 101, 102, 23, 103, 77, 104, 105, 106, 107, 26, 144, 145, 146, 147, 148, 138, 139, 140, 141, 142, 143] (by decide +kernel) (by decide +kernel)
set_option maxRecDepth 20000 in
theorem gX6_nursery_X0_startAnew : GoodIn wsX6_nursery (wsV RX6 76 RX0 yX0_startAnew wsX0_startAnew) := goodIn_app (goodIn_of _ (by decide +kernel)) ggX6_nursery_X0_startAnew
set_option maxRecDepth 20000 in
theorem ggX6_nursery_X2_empty : GoodIn wsX6_nursery wsX2_empty := goodIn_r _ [112, 113, 149, 150] (by decide +kernel) (by decide +kernel)
set_option maxRecDepth 20000 in
theorem gX6_nursery_X2_empty : GoodIn wsX6_nursery (wsV RX6 80 RX2 yX2_empty wsX2_empty) := goodIn_app (goodIn_of _ (by decide +kernel)) ggX6_nursery_X2_empty
set_option maxRecDepth 20000 in
theorem ggX6_nursery_X3_empty : GoodIn wsX6_nursery wsX3_empty := goodIn_r _ [118, 119, 151, 152, 153, 154] (by decide +kernel) (by decide +kernel)
set_option maxRecDepth 20000 in
theorem gX6_nursery_X3_empty : GoodIn wsX6_nursery (wsV RX6 82 RX3 yX3_empty wsX3_empty) := goodIn_app (goodIn_of _ (by decide +kernel)) ggX6_nursery_X3_empty
theorem dX6_nursery_0 : decode cX6_nursery 0 = .ok (.aload_n 0, 1) := by decide +kernel
theorem dX6_nursery_1 : decode cX6_nursery 1 = .ok (.getfield 10, 3) := by decide +kernel
theorem dX6_nursery_4 : decode cX6_nursery 4 = .ok (.aload_n 0, 1) := by decide +kernel
theorem dX6_nursery_5 : decode cX6_nursery 5 = .ok (.getfield 57, 3) := by decide +kernel
theorem dX6_nursery_8 : decode cX6_nursery 8 = .ok (.invokevirtual 72, 3) := by decide +kernel
theorem dX6_nursery_11 : decode cX6_nursery 11 = .ok (.istore_n 1, 1) := by decide +kernel
theorem dX6_nursery_12 : decode cX6_nursery 12 = .ok (.iload_n 1, 1) := by decide +kernel
theorem dX6_nursery_13 : decode cX6_nursery 13 = .ok (.ifCond .ge 5, 3) := by decide +kernel
theorem dX6_nursery_16 : decode cX6_nursery 16 = .ok (.iload_n 1, 1) := by decide +kernel
theorem dX6_nursery_17 : decode cX6_nursery 17 = .ok (.ireturn, 1) := by decide +kernel
theorem dX6_nursery_18 : decode cX6_nursery 18 = .ok (.aload_n 0, 1) := by decide +kernel
theorem dX6_nursery_19 : decode cX6_nursery 19 = .ok (.getfield 53, 3) := by decide +kernel
theorem dX6_nursery_22 : decode cX6_nursery 22 = .ok (.astore_n 2, 1) := by decide +kernel
theorem dX6_nursery_23 : decode cX6_nursery 23 = .ok (.aload_n 0, 1) := by decide +kernel
theorem dX6_nursery_24 : decode cX6_nursery 24 = .ok (.aload_n 0, 1) := by decide +kernel
theorem dX6_nursery_25 : decode cX6_nursery 25 = .ok (.getfield 57, 3) := by decide +kernel
theorem dX6_nursery_28 : decode cX6_nursery 28 = .ok (.putfield 53, 3) := by decide +kernel
theorem dX6_nursery_31 : decode cX6_nursery 31 = .ok (.aload_n 0, 1) := by decide +kernel
theorem dX6_nursery_32 : decode cX6_nursery 32 = .ok (.aload_n 2, 1) := by decide +kernel
theorem dX6_nursery_33 : decode cX6_nursery 33 = .ok (.putfield 57, 3) := by decide +kernel
theorem dX6_nursery_36 : decode cX6_nursery 36 = .ok (.aload_n 0, 1) := by decide +kernel
theorem dX6_nursery_37 : decode cX6_nursery 37 = .ok (.getfield 10, 3) := by decide +kernel
theorem dX6_nursery_40 : decode cX6_nursery 40 = .ok (.invokevirtual 68, 3) := by decide +kernel
theorem dX6_nursery_43 : decode cX6_nursery 43 = .ok (.pop, 1) := by decide +kernel
theorem dX6_nursery_44 : decode cX6_nursery 44 = .ok (.aload_n 0, 1) := by decide +kernel
theorem dX6_nursery_45 : decode cX6_nursery 45 = .ok (.getfield 19, 3) := by decide +kernel
theorem dX6_nursery_48 : decode cX6_nursery 48 = .ok (.aload_n 0, 1) := by decide +kernel
theorem dX6_nursery_49 : decode cX6_nursery 49 = .ok (.getfield 53, 3) := by decide +kernel
theorem dX6_nursery_52 : decode cX6_nursery 52 = .ok (.invokevirtual 76, 3) := by decide +kernel
theorem dX6_nursery_55 : decode cX6_nursery 55 = .ok (.aload_n 0, 1) := by decide +kernel
theorem dX6_nursery_56 : decode cX6_nursery 56 = .ok (.getfield 26, 3) := by decide +kernel
theorem dX6_nursery_59 : decode cX6_nursery 59 = .ok (.invokevirtual 80, 3) := by decide +kernel
theorem dX6_nursery_62 : decode cX6_nursery 62 = .ok (.aload_n 0, 1) := by decide +kernel
theorem dX6_nursery_63 : decode cX6_nursery 63 = .ok (.getfield 33, 3) := by decide +kernel
theorem dX6_nursery_66 : decode cX6_nursery 66 = .ok (.invokevirtual 82, 3) := by decide +kernel
theorem dX6_nursery_69 : decode cX6_nursery 69 = .ok (.pop, 1) := by decide +kernel
theorem dX6_nursery_70 : decode cX6_nursery 70 = .ok (.aload_n 0, 1) := by decide +kernel
theorem dX6_nursery_71 : decode cX6_nursery 71 = .ok (.getfield 40, 3) := by decide +kernel
theorem dX6_nursery_74 : decode cX6_nursery 74 = .ok (.iconst 0, 1) := by decide +kernel
theorem dX6_nursery_75 : decode cX6_nursery 75 = .ok (.putfield 83, 3) := by decide +kernel
theorem dX6_nursery_78 : decode cX6_nursery 78 = .ok (.iconst 0, 1) := by decide +kernel
theorem dX6_nursery_79 : decode cX6_nursery 79 = .ok (.istore_n 3, 1) := by decide +kernel
theorem dX6_nursery_80 : decode cX6_nursery 80 = .ok (.iload_n 3, 1) := by decide +kernel
theorem dX6_nursery_81 : decode cX6_nursery 81 = .ok (.iconst 2, 1) := by decide +kernel
theorem dX6_nursery_82 : decode cX6_nursery 82 = .ok (.if_icmp .ge 18, 3) := by decide +kernel
theorem dX6_nursery_85 : decode cX6_nursery 85 = .ok (.aload_n 0, 1) := by decide +kernel
theorem dX6_nursery_86 : decode cX6_nursery 86 = .ok (.getfield 46, 3) := by decide +kernel
theorem dX6_nursery_89 : decode cX6_nursery 89 = .ok (.iload_n 3, 1) := by decide +kernel
theorem dX6_nursery_90 : decode cX6_nursery 90 = .ok (.ldc2_w 44, 3) := by decide +kernel
theorem dX6_nursery_93 : decode cX6_nursery 93 = .ok (.lastore, 1) := by decide +kernel
theorem dX6_nursery_94 : decode cX6_nursery 94 = .ok (.iinc 3 1, 3) := by decide +kernel
theorem dX6_nursery_97 : decode cX6_nursery 97 = .ok (.goto (-17), 3) := by decide +kernel
theorem dX6_nursery_100 : decode cX6_nursery 100 = .ok (.iload_n 1, 1) := by decide +kernel
theorem dX6_nursery_101 : decode cX6_nursery 101 = .ok (.ireturn, 1) := by decide +kernel
set_option maxRecDepth 20000 in
theorem ggX6_goodbye_X5_hasGoodbye : GoodIn wsX6_goodbye wsX5_hasGoodbye := goodIn_r _ [6, 7, 28, 29, 30, 31, 32, 33] (by decide +kernel) (by decide +kernel)
set_option maxRecDepth 20000 in
theorem gX6_goodbye_X5_hasGoodbye : GoodIn wsX6_goodbye (wsV RX6 87 RX5 yX5_hasGoodbye wsX5_hasGoodbye) := goodIn_app (goodIn_of _ (by decide +kernel)) ggX6_goodbye_X5_hasGoodbye
set_option maxRecDepth 20000 in
theorem ggX6_goodbye_X5_tearsOf : GoodIn wsX6_goodbye wsX5_tearsOf := goodIn_r _ [11, 12, 13, 3, 4, 5, 6, 7, 28, 29, 30, 31, 32, 33] (by decide +kernel) (by decide +kernel)
set_option maxRecDepth 20000 in
theorem gX6_goodbye_X5_tearsOf : GoodIn wsX6_goodbye (wsV RX6 91 RX5 yX5_tearsOf wsX5_tearsOf) := goodIn_app (goodIn_of _ (by decide +kernel)) ggX6_goodbye_X5_tearsOf
set_option maxRecDepth 20000 in
theorem ggX6_goodbye_X5_gainOf : GoodIn wsX6_goodbye wsX5_gainOf := goodIn_r _ [17, 18, 13, 3, 4, 5, 6, 7, 28, 29, 30, 31, 32, 33] (by decide +kernel) (by decide +kernel)
set_option maxRecDepth 20000 in
theorem gX6_goodbye_X5_gainOf : GoodIn wsX6_goodbye (wsV RX6 94 RX5 yX5_gainOf wsX5_gainOf) := goodIn_app (goodIn_of _ (by decide +kernel)) ggX6_goodbye_X5_gainOf
theorem dX6_goodbye_0 : decode cX6_goodbye 0 = .ok (.aload_n 0, 1) := by decide +kernel
theorem dX6_goodbye_1 : decode cX6_goodbye 1 = .ok (.getfield 53, 3) := by decide +kernel
theorem dX6_goodbye_4 : decode cX6_goodbye 4 = .ok (.iload_n 1, 1) := by decide +kernel
theorem dX6_goodbye_5 : decode cX6_goodbye 5 = .ok (.invokevirtual 87, 3) := by decide +kernel
theorem dX6_goodbye_8 : decode cX6_goodbye 8 = .ok (.ifCond .ne 5, 3) := by decide +kernel
theorem dX6_goodbye_11 : decode cX6_goodbye 11 = .ok (.iconst (-1), 1) := by decide +kernel
theorem dX6_goodbye_12 : decode cX6_goodbye 12 = .ok (.ireturn, 1) := by decide +kernel
theorem dX6_goodbye_13 : decode cX6_goodbye 13 = .ok (.iload_n 2, 1) := by decide +kernel
theorem dX6_goodbye_14 : decode cX6_goodbye 14 = .ok (.lookupswitch 44 #[(0, 26), (1, 35)], 26) := by decide +kernel
theorem dX6_goodbye_40 : decode cX6_goodbye 40 = .ok (.aload_n 0, 1) := by decide +kernel
theorem dX6_goodbye_41 : decode cX6_goodbye 41 = .ok (.getfield 53, 3) := by decide +kernel
theorem dX6_goodbye_44 : decode cX6_goodbye 44 = .ok (.iload_n 1, 1) := by decide +kernel
theorem dX6_goodbye_45 : decode cX6_goodbye 45 = .ok (.invokevirtual 91, 3) := by decide +kernel
theorem dX6_goodbye_48 : decode cX6_goodbye 48 = .ok (.ireturn, 1) := by decide +kernel
theorem dX6_goodbye_49 : decode cX6_goodbye 49 = .ok (.aload_n 0, 1) := by decide +kernel
theorem dX6_goodbye_50 : decode cX6_goodbye 50 = .ok (.getfield 53, 3) := by decide +kernel
theorem dX6_goodbye_53 : decode cX6_goodbye 53 = .ok (.iload_n 1, 1) := by decide +kernel
theorem dX6_goodbye_54 : decode cX6_goodbye 54 = .ok (.invokevirtual 94, 3) := by decide +kernel
theorem dX6_goodbye_57 : decode cX6_goodbye 57 = .ok (.ireturn, 1) := by decide +kernel
theorem dX6_goodbye_58 : decode cX6_goodbye 58 = .ok (.iconst (-1), 1) := by decide +kernel
theorem dX6_goodbye_59 : decode cX6_goodbye 59 = .ok (.ireturn, 1) := by decide +kernel
set_option maxRecDepth 20000 in
theorem ggX6_woman_X5_hasWoman : GoodIn wsX6_woman wsX5_hasWoman := goodIn_r _ [7, 8, 70, 71, 72, 73, 74, 75] (by decide +kernel) (by decide +kernel)
set_option maxRecDepth 20000 in
theorem gX6_woman_X5_hasWoman : GoodIn wsX6_woman (wsV RX6 97 RX5 yX5_hasWoman wsX5_hasWoman) := goodIn_app (goodIn_of _ (by decide +kernel)) ggX6_woman_X5_hasWoman
set_option maxRecDepth 20000 in
theorem ggX6_woman_X0_likingOf : GoodIn wsX6_woman wsX0_likingOf := goodIn_r _ [13, 14, 76, 77, 78, 79, 80] (by decide +kernel) (by decide +kernel)
set_option maxRecDepth 20000 in
theorem gX6_woman_X0_likingOf : GoodIn wsX6_woman (wsV RX6 100 RX0 yX0_likingOf wsX0_likingOf) := goodIn_app (goodIn_of _ (by decide +kernel)) ggX6_woman_X0_likingOf
set_option maxRecDepth 20000 in
theorem ggX6_woman_X0_isIll : GoodIn wsX6_woman wsX0_isIll := goodIn_r _ [18, 19, 76, 77, 78, 79, 80] (by decide +kernel) (by decide +kernel)
set_option maxRecDepth 20000 in
theorem gX6_woman_X0_isIll : GoodIn wsX6_woman (wsV RX6 103 RX0 yX0_isIll wsX0_isIll) := goodIn_app (goodIn_of _ (by decide +kernel)) ggX6_woman_X0_isIll
set_option maxRecDepth 20000 in
theorem ggX6_woman_X6_bestGoodbye : GoodIn wsX6_woman wsX6_bestGoodbye := goodIn_r _ [24, 1, 25, 26, 27, 28, 23, 29, 2, 30, 9, 10, 11, 12, 13, 14, 31, 32, 33, 6, 34, 35, 36, 37, 38, 39, 40, 41, 42, 43, 44, 45, 46, 47, 48, 49, 50, 51, 52, 53, 54, 55, 56, 57, 58, 59, 60, 61, 62, 63, 64, 65, 66, 67, 68, 69, 70, 71, 72, 73, 74, 75, 76, 77, 78, 79, 80] (by decide +kernel) (by decide +kernel)
set_option maxRecDepth 20000 in
theorem gX6_woman_X6_bestGoodbye : GoodIn wsX6_woman (wsV RX6 106 RX6 yX6_bestGoodbye wsX6_bestGoodbye) := goodIn_app (goodIn_of _ (by decide +kernel)) ggX6_woman_X6_bestGoodbye
theorem dX6_woman_0 : decode cX6_woman 0 = .ok (.aload_n 0, 1) := by decide +kernel
theorem dX6_woman_1 : decode cX6_woman 1 = .ok (.getfield 53, 3) := by decide +kernel
theorem dX6_woman_4 : decode cX6_woman 4 = .ok (.iload_n 1, 1) := by decide +kernel
theorem dX6_woman_5 : decode cX6_woman 5 = .ok (.invokevirtual 97, 3) := by decide +kernel
theorem dX6_woman_8 : decode cX6_woman 8 = .ok (.ifCond .ne 5, 3) := by decide +kernel
theorem dX6_woman_11 : decode cX6_woman 11 = .ok (.iconst (-1), 1) := by decide +kernel
theorem dX6_woman_12 : decode cX6_woman 12 = .ok (.ireturn, 1) := by decide +kernel
theorem dX6_woman_13 : decode cX6_woman 13 = .ok (.iload_n 2, 1) := by decide +kernel
theorem dX6_woman_14 : decode cX6_woman 14 = .ok (.tableswitch 58 0 2 #[26, 35, 52], 26) := by decide +kernel
theorem dX6_woman_40 : decode cX6_woman 40 = .ok (.aload_n 0, 1) := by decide +kernel
theorem dX6_woman_41 : decode cX6_woman 41 = .ok (.getfield 19, 3) := by decide +kernel
theorem dX6_woman_44 : decode cX6_woman 44 = .ok (.iload_n 1, 1) := by decide +kernel
theorem dX6_woman_45 : decode cX6_woman 45 = .ok (.invokevirtual 100, 3) := by decide +kernel
theorem dX6_woman_48 : decode cX6_woman 48 = .ok (.ireturn, 1) := by decide +kernel
theorem dX6_woman_49 : decode cX6_woman 49 = .ok (.aload_n 0, 1) := by decide +kernel
theorem dX6_woman_50 : decode cX6_woman 50 = .ok (.getfield 19, 3) := by decide +kernel
theorem dX6_woman_53 : decode cX6_woman 53 = .ok (.iload_n 1, 1) := by decide +kernel
theorem dX6_woman_54 : decode cX6_woman 54 = .ok (.invokevirtual 103, 3) := by decide +kernel
theorem dX6_woman_57 : decode cX6_woman 57 = .ok (.ifCond .eq 7, 3) := by decide +kernel
theorem dX6_woman_60 : decode cX6_woman 60 = .ok (.iconst 1, 1) := by decide +kernel
theorem dX6_woman_61 : decode cX6_woman 61 = .ok (.goto 4, 3) := by decide +kernel
theorem dX6_woman_64 : decode cX6_woman 64 = .ok (.iconst 0, 1) := by decide +kernel
theorem dX6_woman_65 : decode cX6_woman 65 = .ok (.ireturn, 1) := by decide +kernel
theorem dX6_woman_66 : decode cX6_woman 66 = .ok (.aload_n 0, 1) := by decide +kernel
theorem dX6_woman_67 : decode cX6_woman 67 = .ok (.iload_n 1, 1) := by decide +kernel
theorem dX6_woman_68 : decode cX6_woman 68 = .ok (.invokevirtual 106, 3) := by decide +kernel
theorem dX6_woman_71 : decode cX6_woman 71 = .ok (.ireturn, 1) := by decide +kernel
theorem dX6_woman_72 : decode cX6_woman 72 = .ok (.iconst (-1), 1) := by decide +kernel
theorem dX6_woman_73 : decode cX6_woman 73 = .ok (.ireturn, 1) := by decide +kernel
set_option maxRecDepth 20000 in
theorem ggX6_now_X6_bestWoman : GoodIn wsX6_now wsX6_bestWoman := goodIn_r _ [12, 13, 14, 1, 15, 16, 17, 18, 19, 20, 21, 22, 23, 11, 24, 25, 26, 27, 28, 29, 30, 31, 32, 33, 3, 34, 35, 36, 37, 38, 39, 40, 41, 42, 43, 44, 45, 46, 47, 48, 49, 50, 51, 52, 53, 54, 55, 56, 57, 58, 59, 60, 61, 62, 63, 64, 65, 66, 67, 68, 69, 70, 71, 72, 80, 81, 82, 83, 84, 85, 73, 74, 75, 76, 77] (by decide +kernel) (by decide +kernel)
set_option maxRecDepth 20000 in
theorem gX6_now_X6_bestWoman : GoodIn wsX6_now (wsV RX6 119 RX6 yX6_bestWoman wsX6_bestWoman) := goodIn_app (goodIn_of _ (by decide +kernel)) ggX6_now_X6_bestWoman
theorem dX6_now_0 : decode cX6_now 0 = .ok (.iload_n 1, 1) := by decide +kernel
theorem dX6_now_1 : decode cX6_now 1 = .ok (.tableswitch 92 0 5 #[39, 47, 55, 71, 76, 84], 39) := by decide +kernel
theorem dX6_now_40 : decode cX6_now 40 = .ok (.aload_n 0, 1) := by decide +kernel
theorem dX6_now_41 : decode cX6_now 41 = .ok (.getfield 19, 3) := by decide +kernel
theorem dX6_now_44 : decode cX6_now 44 = .ok (.getfield 109, 3) := by decide +kernel
theorem dX6_now_47 : decode cX6_now 47 = .ok (.ireturn, 1) := by decide +kernel
theorem dX6_now_48 : decode cX6_now 48 = .ok (.aload_n 0, 1) := by decide +kernel
theorem dX6_now_49 : decode cX6_now 49 = .ok (.getfield 19, 3) := by decide +kernel
theorem dX6_now_52 : decode cX6_now 52 = .ok (.getfield 113, 3) := by decide +kernel
theorem dX6_now_55 : decode cX6_now 55 = .ok (.ireturn, 1) := by decide +kernel
theorem dX6_now_56 : decode cX6_now 56 = .ok (.aload_n 0, 1) := by decide +kernel
theorem dX6_now_57 : decode cX6_now 57 = .ok (.getfield 19, 3) := by decide +kernel
theorem dX6_now_60 : decode cX6_now 60 = .ok (.getfield 116, 3) := by decide +kernel
theorem dX6_now_63 : decode cX6_now 63 = .ok (.ifCond .eq 7, 3) := by decide +kernel
theorem dX6_now_66 : decode cX6_now 66 = .ok (.iconst 1, 1) := by decide +kernel
theorem dX6_now_67 : decode cX6_now 67 = .ok (.goto 4, 3) := by decide +kernel
theorem dX6_now_70 : decode cX6_now 70 = .ok (.iconst 0, 1) := by decide +kernel
theorem dX6_now_71 : decode cX6_now 71 = .ok (.ireturn, 1) := by decide +kernel
theorem dX6_now_72 : decode cX6_now 72 = .ok (.aload_n 0, 1) := by decide +kernel
theorem dX6_now_73 : decode cX6_now 73 = .ok (.invokevirtual 119, 3) := by decide +kernel
theorem dX6_now_76 : decode cX6_now 76 = .ok (.ireturn, 1) := by decide +kernel
theorem dX6_now_77 : decode cX6_now 77 = .ok (.aload_n 0, 1) := by decide +kernel
theorem dX6_now_78 : decode cX6_now 78 = .ok (.getfield 19, 3) := by decide +kernel
theorem dX6_now_81 : decode cX6_now 81 = .ok (.getfield 122, 3) := by decide +kernel
theorem dX6_now_84 : decode cX6_now 84 = .ok (.ireturn, 1) := by decide +kernel
theorem dX6_now_85 : decode cX6_now 85 = .ok (.aload_n 0, 1) := by decide +kernel
theorem dX6_now_86 : decode cX6_now 86 = .ok (.getfield 26, 3) := by decide +kernel
theorem dX6_now_89 : decode cX6_now 89 = .ok (.getfield 125, 3) := by decide +kernel
theorem dX6_now_92 : decode cX6_now 92 = .ok (.ireturn, 1) := by decide +kernel
theorem dX6_now_93 : decode cX6_now 93 = .ok (.iconst (-1), 1) := by decide +kernel
theorem dX6_now_94 : decode cX6_now 94 = .ok (.ireturn, 1) := by decide +kernel
set_option maxRecDepth 20000 in
theorem ggX6_morning_X6_isMorning : GoodIn wsX6_morning wsX6_isMorning := goodIn_r _ [11, 4, 12, 13, 14, 15, 16, 17, 18, 19, 10, 20, 21, 22, 23, 24, 25, 122, 123, 124, 125, 126, 127, 128, 129, 130, 136, 137, 138, 139, 140, 141] (by decide +kernel) (by decide +kernel)
set_option maxRecDepth 20000 in
theorem gX6_morning_X6_isMorning : GoodIn wsX6_morning (wsV RX6 128 RX6 yX6_isMorning wsX6_isMorning) := goodIn_app (goodIn_of _ (by decide +kernel)) ggX6_morning_X6_isMorning
set_option maxRecDepth 20000 in
theorem ggX6_morning_X0_isIll : GoodIn wsX6_morning wsX0_isIll := goodIn_r _ [30, 31, 131, 132, 133, 134, 135] (by decide +kernel) (by decide +kernel)
set_option maxRecDepth 20000 in
theorem gX6_morning_X0_isIll : GoodIn wsX6_morning (wsV RX6 103 RX0 yX0_isIll wsX0_isIll) := goodIn_app (goodIn_of _ (by decide +kernel)) ggX6_morning_X0_isIll
set_option maxRecDepth 20000 in
theorem ggX6_morning_X0_folded : GoodIn wsX6_morning wsX0_folded := goodIn_r _ [35, 36, 37, 38, 31, 39, 131, 132, 133, 134, 135] (by decide +kernel) (by decide +kernel)
set_option maxRecDepth 20000 in
theorem gX6_morning_X0_folded : GoodIn wsX6_morning (wsV RX6 132 RX0 yX0_folded wsX0_folded) := goodIn_app (goodIn_of _ (by decide +kernel)) ggX6_morning_X0_folded
set_option maxRecDepth 20000 in
theorem ggX6_morning_X2_add : GoodIn wsX6_morning wsX2_add := goodIn_r _ [44, 45, 46, 47, 48, 49, 43, 50, 142, 143] (by decide +kernel) (by decide +kernel)
set_option maxRecDepth 20000 in
theorem gX6_morning_X2_add : GoodIn wsX6_morning (wsV RX6 136 RX2 yX2_add wsX2_add) := goodIn_app (goodIn_of _ (by decide +kernel)) ggX6_morning_X2_add
set_option maxRecDepth 20000 in
theorem ggX6_morning_X6_minutesNow : GoodIn wsX6_morning wsX6_minutesNow := goodIn_r _ [54, 4, 1, 5, 55, 56, 57, 29, 58, 38, 59, 60, 61, 15, 62, 63, 64, 65, 66, 67, 68, 13, 14, 16, 17, 69, 70, 71, 72, 73, 74, 10, 75, 76, 77, 78, 79, 80, 81, 82, 83, 84, 122, 123, 124, 125, 126, 127, 128, 129, 130, 131, 132, 133, 134, 135, 136, 137, 138, 139, 140, 141] (by decide +kernel) (by decide +kernel)
set_option maxRecDepth 20000 in
theorem gX6_morning_X6_minutesNow : GoodIn wsX6_morning (wsV RX6 139 RX6 yX6_minutesNow wsX6_minutesNow) := goodIn_app (goodIn_of _ (by decide +kernel)) ggX6_morning_X6_minutesNow
set_option maxRecDepth 20000 in
theorem ggX6_morning_X5_trustAfter : GoodIn wsX6_morning wsX5_trustAfter := goodIn_r _ [88, 89, 77, 78, 79, 90, 91, 92, 15, 93, 69, 70, 71, 72, 73, 94, 95, 96, 97, 98, 83, 84, 99, 100, 101, 102, 103, 68, 13, 14, 16, 17, 104, 105, 106, 107, 136, 137, 138, 139, 140, 141] (by decide +kernel) (by decide +kernel)
set_option maxRecDepth 20000 in
theorem gX6_morning_X5_trustAfter : GoodIn wsX6_morning (wsV RX6 143 RX5 yX5_trustAfter wsX5_trustAfter) := goodIn_app (goodIn_of _ (by decide +kernel)) ggX6_morning_X5_trustAfter
set_option maxRecDepth 20000 in
theorem ggX6_morning_X0_likingOf : GoodIn wsX6_morning wsX0_likingOf := goodIn_r _ [58, 38, 131, 132, 133, 134, 135] (by decide +kernel) (by decide +kernel)
set_option maxRecDepth 20000 in
theorem gX6_morning_X0_likingOf : GoodIn wsX6_morning (wsV RX6 100 RX0 yX0_likingOf wsX0_likingOf) := goodIn_app (goodIn_of _ (by decide +kernel)) ggX6_morning_X0_likingOf
set_option maxRecDepth 20000 in
theorem ggX6_morning_X5_likingAfter : GoodIn wsX6_morning wsX5_likingAfter := goodIn_r _ [111, 89, 77, 78, 79, 90, 91, 92, 15, 93, 69, 70, 71, 72, 73, 112, 113, 114, 115, 98, 83, 84, 104, 105, 106, 107, 136, 137, 138, 139, 140, 141] (by decide +kernel) (by decide +kernel)
set_option maxRecDepth 20000 in
theorem gX6_morning_X5_likingAfter : GoodIn wsX6_morning (wsV RX6 146 RX5 yX5_likingAfter wsX5_likingAfter) := goodIn_app (goodIn_of _ (by decide +kernel)) ggX6_morning_X5_likingAfter
set_option maxRecDepth 20000 in
theorem ggX6_morning_X0_setLiking : GoodIn wsX6_morning wsX0_setLiking := goodIn_r _ [119, 38, 131, 132, 133, 134, 135] (by decide +kernel) (by decide +kernel)
set_option maxRecDepth 20000 in
theorem gX6_morning_X0_setLiking : GoodIn wsX6_morning (wsV RX6 150 RX0 yX0_setLiking wsX0_setLiking) := goodIn_app (goodIn_of _ (by decide +kernel)) ggX6_morning_X0_setLiking
set_option maxRecDepth 20000 in
theorem ggX6_morning_X5_isCalm : GoodIn wsX6_morning wsX5_isCalm := goodIn_r _ [93, 69, 70, 71, 15, 72, 73, 136, 137, 138, 139, 140, 141] (by decide +kernel) (by decide +kernel)
set_option maxRecDepth 20000 in
theorem gX6_morning_X5_isCalm : GoodIn wsX6_morning (wsV RX6 154 RX5 yX5_isCalm wsX5_isCalm) := goodIn_app (goodIn_of _ (by decide +kernel)) ggX6_morning_X5_isCalm
set_option maxRecDepth 20000 in
theorem ggX6_morning_X5_setting : GoodIn wsX6_morning wsX5_setting := goodIn_r _ [72, 73, 136, 137, 138, 139, 140, 141] (by decide +kernel) (by decide +kernel)
set_option maxRecDepth 20000 in
theorem gX6_morning_X5_setting : GoodIn wsX6_morning (wsV RX6 157 RX5 yX5_setting wsX5_setting) := goodIn_app (goodIn_of _ (by decide +kernel)) ggX6_morning_X5_setting
theorem dX6_morning_0 : decode cX6_morning 0 = .ok (.aload_n 0, 1) := by decide +kernel
theorem dX6_morning_1 : decode cX6_morning 1 = .ok (.iload_n 1, 1) := by decide +kernel
theorem dX6_morning_2 : decode cX6_morning 2 = .ok (.iload_n 2, 1) := by decide +kernel
theorem dX6_morning_3 : decode cX6_morning 3 = .ok (.iload_n 3, 1) := by decide +kernel
theorem dX6_morning_4 : decode cX6_morning 4 = .ok (.invokevirtual 128, 3) := by decide +kernel
theorem dX6_morning_7 : decode cX6_morning 7 = .ok (.ifCond .ne 5, 3) := by decide +kernel
theorem dX6_morning_10 : decode cX6_morning 10 = .ok (.iconst (-1), 1) := by decide +kernel
theorem dX6_morning_11 : decode cX6_morning 11 = .ok (.ireturn, 1) := by decide +kernel
theorem dX6_morning_12 : decode cX6_morning 12 = .ok (.aload_n 0, 1) := by decide +kernel
theorem dX6_morning_13 : decode cX6_morning 13 = .ok (.getfield 19, 3) := by decide +kernel
theorem dX6_morning_16 : decode cX6_morning 16 = .ok (.iload_n 3, 1) := by decide +kernel
theorem dX6_morning_17 : decode cX6_morning 17 = .ok (.invokevirtual 103, 3) := by decide +kernel
theorem dX6_morning_20 : decode cX6_morning 20 = .ok (.ifCond .ne 16, 3) := by decide +kernel
theorem dX6_morning_23 : decode cX6_morning 23 = .ok (.aload_n 0, 1) := by decide +kernel
theorem dX6_morning_24 : decode cX6_morning 24 = .ok (.getfield 19, 3) := by decide +kernel
theorem dX6_morning_27 : decode cX6_morning 27 = .ok (.getfield 109, 3) := by decide +kernel
theorem dX6_morning_30 : decode cX6_morning 30 = .ok (.sipush 999, 3) := by decide +kernel
theorem dX6_morning_33 : decode cX6_morning 33 = .ok (.if_icmp .lt 6, 3) := by decide +kernel
theorem dX6_morning_36 : decode cX6_morning 36 = .ok (.bipush (-2), 2) := by decide +kernel
theorem dX6_morning_38 : decode cX6_morning 38 = .ok (.ireturn, 1) := by decide +kernel
theorem dX6_morning_39 : decode cX6_morning 39 = .ok (.aload_n 0, 1) := by decide +kernel
theorem dX6_morning_40 : decode cX6_morning 40 = .ok (.getfield 26, 3) := by decide +kernel
theorem dX6_morning_43 : decode cX6_morning 43 = .ok (.aload_n 0, 1) := by decide +kernel
theorem dX6_morning_44 : decode cX6_morning 44 = .ok (.getfield 19, 3) := by decide +kernel
theorem dX6_morning_47 : decode cX6_morning 47 = .ok (.invokevirtual 132, 3) := by decide +kernel
theorem dX6_morning_50 : decode cX6_morning 50 = .ok (.invokevirtual 136, 3) := by decide +kernel
theorem dX6_morning_53 : decode cX6_morning 53 = .ok (.aload_n 0, 1) := by decide +kernel
theorem dX6_morning_54 : decode cX6_morning 54 = .ok (.iload_n 1, 1) := by decide +kernel
theorem dX6_morning_55 : decode cX6_morning 55 = .ok (.iload_n 2, 1) := by decide +kernel
theorem dX6_morning_56 : decode cX6_morning 56 = .ok (.iload_n 3, 1) := by decide +kernel
theorem dX6_morning_57 : decode cX6_morning 57 = .ok (.invokevirtual 139, 3) := by decide +kernel
theorem dX6_morning_60 : decode cX6_morning 60 = .ok (.istore 4, 2) := by decide +kernel
theorem dX6_morning_62 : decode cX6_morning 62 = .ok (.aload_n 0, 1) := by decide +kernel
theorem dX6_morning_63 : decode cX6_morning 63 = .ok (.getfield 19, 3) := by decide +kernel
theorem dX6_morning_66 : decode cX6_morning 66 = .ok (.aload_n 0, 1) := by decide +kernel
theorem dX6_morning_67 : decode cX6_morning 67 = .ok (.getfield 53, 3) := by decide +kernel
theorem dX6_morning_70 : decode cX6_morning 70 = .ok (.iload_n 1, 1) := by decide +kernel
theorem dX6_morning_71 : decode cX6_morning 71 = .ok (.aload_n 0, 1) := by decide +kernel
theorem dX6_morning_72 : decode cX6_morning 72 = .ok (.getfield 19, 3) := by decide +kernel
theorem dX6_morning_75 : decode cX6_morning 75 = .ok (.getfield 113, 3) := by decide +kernel
theorem dX6_morning_78 : decode cX6_morning 78 = .ok (.iload 4, 2) := by decide +kernel
theorem dX6_morning_80 : decode cX6_morning 80 = .ok (.invokevirtual 143, 3) := by decide +kernel
theorem dX6_morning_83 : decode cX6_morning 83 = .ok (.putfield 113, 3) := by decide +kernel
theorem dX6_morning_86 : decode cX6_morning 86 = .ok (.aload_n 0, 1) := by decide +kernel
theorem dX6_morning_87 : decode cX6_morning 87 = .ok (.getfield 19, 3) := by decide +kernel
theorem dX6_morning_90 : decode cX6_morning 90 = .ok (.iload_n 3, 1) := by decide +kernel
theorem dX6_morning_91 : decode cX6_morning 91 = .ok (.aload_n 0, 1) := by decide +kernel
theorem dX6_morning_92 : decode cX6_morning 92 = .ok (.getfield 53, 3) := by decide +kernel
theorem dX6_morning_95 : decode cX6_morning 95 = .ok (.aload_n 0, 1) := by decide +kernel
theorem dX6_morning_96 : decode cX6_morning 96 = .ok (.getfield 19, 3) := by decide +kernel
theorem dX6_morning_99 : decode cX6_morning 99 = .ok (.iload_n 3, 1) := by decide +kernel
theorem dX6_morning_100 : decode cX6_morning 100 = .ok (.invokevirtual 100, 3) := by decide +kernel
theorem dX6_morning_103 : decode cX6_morning 103 = .ok (.iload 4, 2) := by decide +kernel
theorem dX6_morning_105 : decode cX6_morning 105 = .ok (.invokevirtual 146, 3) := by decide +kernel
theorem dX6_morning_108 : decode cX6_morning 108 = .ok (.invokevirtual 150, 3) := by decide +kernel
theorem dX6_morning_111 : decode cX6_morning 111 = .ok (.aload_n 0, 1) := by decide +kernel
theorem dX6_morning_112 : decode cX6_morning 112 = .ok (.getfield 53, 3) := by decide +kernel
theorem dX6_morning_115 : decode cX6_morning 115 = .ok (.iload 4, 2) := by decide +kernel
theorem dX6_morning_117 : decode cX6_morning 117 = .ok (.invokevirtual 154, 3) := by decide +kernel
theorem dX6_morning_120 : decode cX6_morning 120 = .ok (.ifCond .eq 23, 3) := by decide +kernel
theorem dX6_morning_123 : decode cX6_morning 123 = .ok (.iload_n 2, 1) := by decide +kernel
theorem dX6_morning_124 : decode cX6_morning 124 = .ok (.aload_n 0, 1) := by decide +kernel
theorem dX6_morning_125 : decode cX6_morning 125 = .ok (.getfield 53, 3) := by decide +kernel
theorem dX6_morning_128 : decode cX6_morning 128 = .ok (.iconst 3, 1) := by decide +kernel
theorem dX6_morning_129 : decode cX6_morning 129 = .ok (.invokevirtual 157, 3) := by decide +kernel
theorem dX6_morning_132 : decode cX6_morning 132 = .ok (.if_icmp .lt 11, 3) := by decide +kernel
theorem dX6_morning_135 : decode cX6_morning 135 = .ok (.aload_n 0, 1) := by decide +kernel
theorem dX6_morning_136 : decode cX6_morning 136 = .ok (.getfield 19, 3) := by decide +kernel
theorem dX6_morning_139 : decode cX6_morning 139 = .ok (.iconst 1, 1) := by decide +kernel
theorem dX6_morning_140 : decode cX6_morning 140 = .ok (.putfield 116, 3) := by decide +kernel
theorem dX6_morning_143 : decode cX6_morning 143 = .ok (.aload_n 0, 1) := by decide +kernel
theorem dX6_morning_144 : decode cX6_morning 144 = .ok (.getfield 19, 3) := by decide +kernel
theorem dX6_morning_147 : decode cX6_morning 147 = .ok (.dup, 1) := by decide +kernel
theorem dX6_morning_148 : decode cX6_morning 148 = .ok (.getfield 109, 3) := by decide +kernel
theorem dX6_morning_151 : decode cX6_morning 151 = .ok (.iconst 1, 1) := by decide +kernel
theorem dX6_morning_152 : decode cX6_morning 152 = .ok (.iadd, 1) := by decide +kernel
theorem dX6_morning_153 : decode cX6_morning 153 = .ok (.putfield 109, 3) := by decide +kernel
theorem dX6_morning_156 : decode cX6_morning 156 = .ok (.iload 4, 2) := by decide +kernel
theorem dX6_morning_158 : decode cX6_morning 158 = .ok (.ireturn, 1) := by decide +kernel
set_option maxRecDepth 20000 in
theorem ggX6_home_X0_folded : GoodIn wsX6_home wsX0_folded := goodIn_r _ [13, 14, 15, 16, 17, 18, 39, 40, 41, 42, 43] (by decide +kernel) (by decide +kernel)
set_option maxRecDepth 20000 in
theorem gX6_home_X0_folded : GoodIn wsX6_home (wsV RX6 132 RX0 yX0_folded wsX0_folded) := goodIn_app (goodIn_of _ (by decide +kernel)) ggX6_home_X0_folded
set_option maxRecDepth 20000 in
theorem ggX6_home_X2_add : GoodIn wsX6_home wsX2_add := goodIn_r _ [23, 24, 25, 26, 27, 28, 22, 29, 44, 45] (by decide +kernel) (by decide +kernel)
set_option maxRecDepth 20000 in
theorem gX6_home_X2_add : GoodIn wsX6_home (wsV RX6 136 RX2 yX2_add wsX2_add) := goodIn_app (goodIn_of _ (by decide +kernel)) ggX6_home_X2_add
theorem dX6_home_0 : decode cX6_home 0 = .ok (.iload_n 1, 1) := by decide +kernel
theorem dX6_home_1 : decode cX6_home 1 = .ok (.iconst 1, 1) := by decide +kernel
theorem dX6_home_2 : decode cX6_home 2 = .ok (.if_icmp .lt 9, 3) := by decide +kernel
theorem dX6_home_5 : decode cX6_home 5 = .ok (.iload_n 1, 1) := by decide +kernel
theorem dX6_home_6 : decode cX6_home 6 = .ok (.bipush 9, 2) := by decide +kernel
theorem dX6_home_8 : decode cX6_home 8 = .ok (.if_icmp .le 5, 3) := by decide +kernel
theorem dX6_home_11 : decode cX6_home 11 = .ok (.iconst (-1), 1) := by decide +kernel
theorem dX6_home_12 : decode cX6_home 12 = .ok (.ireturn, 1) := by decide +kernel
theorem dX6_home_13 : decode cX6_home 13 = .ok (.aload_n 0, 1) := by decide +kernel
theorem dX6_home_14 : decode cX6_home 14 = .ok (.getfield 19, 3) := by decide +kernel
theorem dX6_home_17 : decode cX6_home 17 = .ok (.getfield 109, 3) := by decide +kernel
theorem dX6_home_20 : decode cX6_home 20 = .ok (.iload_n 1, 1) := by decide +kernel
theorem dX6_home_21 : decode cX6_home 21 = .ok (.iadd, 1) := by decide +kernel
theorem dX6_home_22 : decode cX6_home 22 = .ok (.sipush 999, 3) := by decide +kernel
theorem dX6_home_25 : decode cX6_home 25 = .ok (.if_icmp .le 6, 3) := by decide +kernel
theorem dX6_home_28 : decode cX6_home 28 = .ok (.bipush (-2), 2) := by decide +kernel
theorem dX6_home_30 : decode cX6_home 30 = .ok (.ireturn, 1) := by decide +kernel
theorem dX6_home_31 : decode cX6_home 31 = .ok (.aload_n 0, 1) := by decide +kernel
theorem dX6_home_32 : decode cX6_home 32 = .ok (.getfield 26, 3) := by decide +kernel
theorem dX6_home_35 : decode cX6_home 35 = .ok (.aload_n 0, 1) := by decide +kernel
theorem dX6_home_36 : decode cX6_home 36 = .ok (.getfield 19, 3) := by decide +kernel
theorem dX6_home_39 : decode cX6_home 39 = .ok (.invokevirtual 132, 3) := by decide +kernel
theorem dX6_home_42 : decode cX6_home 42 = .ok (.invokevirtual 136, 3) := by decide +kernel
theorem dX6_home_45 : decode cX6_home 45 = .ok (.aload_n 0, 1) := by decide +kernel
theorem dX6_home_46 : decode cX6_home 46 = .ok (.getfield 19, 3) := by decide +kernel
theorem dX6_home_49 : decode cX6_home 49 = .ok (.dup, 1) := by decide +kernel
theorem dX6_home_50 : decode cX6_home 50 = .ok (.getfield 109, 3) := by decide +kernel
theorem dX6_home_53 : decode cX6_home 53 = .ok (.iload_n 1, 1) := by decide +kernel
theorem dX6_home_54 : decode cX6_home 54 = .ok (.iadd, 1) := by decide +kernel
theorem dX6_home_55 : decode cX6_home 55 = .ok (.putfield 109, 3) := by decide +kernel
theorem dX6_home_58 : decode cX6_home 58 = .ok (.aload_n 0, 1) := by decide +kernel
theorem dX6_home_59 : decode cX6_home 59 = .ok (.getfield 19, 3) := by decide +kernel
theorem dX6_home_62 : decode cX6_home 62 = .ok (.iconst 0, 1) := by decide +kernel
theorem dX6_home_63 : decode cX6_home 63 = .ok (.aload_n 0, 1) := by decide +kernel
theorem dX6_home_64 : decode cX6_home 64 = .ok (.getfield 19, 3) := by decide +kernel
theorem dX6_home_67 : decode cX6_home 67 = .ok (.getfield 113, 3) := by decide +kernel
theorem dX6_home_70 : decode cX6_home 70 = .ok (.iload_n 1, 1) := by decide +kernel
theorem dX6_home_71 : decode cX6_home 71 = .ok (.isub, 1) := by decide +kernel
theorem dX6_home_72 : decode cX6_home 72 = .ok (.invokestatic 160, 3) := by decide +kernel
theorem dX6_home_75 : decode cX6_home 75 = .ok (.putfield 113, 3) := by decide +kernel
theorem dX6_home_78 : decode cX6_home 78 = .ok (.aload_n 0, 1) := by decide +kernel
theorem dX6_home_79 : decode cX6_home 79 = .ok (.getfield 19, 3) := by decide +kernel
theorem dX6_home_82 : decode cX6_home 82 = .ok (.getfield 113, 3) := by decide +kernel
theorem dX6_home_85 : decode cX6_home 85 = .ok (.ireturn, 1) := by decide +kernel
set_option maxRecDepth 20000 in
theorem ggX6_falls_X5_hasWoman : GoodIn wsX6_falls wsX5_hasWoman := goodIn_r _ [9, 10, 57, 58, 59, 60, 61, 62] (by decide +kernel) (by decide +kernel)
set_option maxRecDepth 20000 in
theorem gX6_falls_X5_hasWoman : GoodIn wsX6_falls (wsV RX6 97 RX5 yX5_hasWoman wsX5_hasWoman) := goodIn_app (goodIn_of _ (by decide +kernel)) ggX6_falls_X5_hasWoman
set_option maxRecDepth 20000 in
theorem ggX6_falls_X0_isIll : GoodIn wsX6_falls wsX0_isIll := goodIn_r _ [15, 16, 52, 53, 54, 55, 56] (by decide +kernel) (by decide +kernel)
set_option maxRecDepth 20000 in
theorem gX6_falls_X0_isIll : GoodIn wsX6_falls (wsV RX6 103 RX0 yX0_isIll wsX0_isIll) := goodIn_app (goodIn_of _ (by decide +kernel)) ggX6_falls_X0_isIll
set_option maxRecDepth 20000 in
theorem ggX6_falls_X0_folded : GoodIn wsX6_falls wsX0_folded := goodIn_r _ [20, 21, 22, 23, 16, 24, 52, 53, 54, 55, 56] (by decide +kernel) (by decide +kernel)
set_option maxRecDepth 20000 in
theorem gX6_falls_X0_folded : GoodIn wsX6_falls (wsV RX6 132 RX0 yX0_folded wsX0_folded) := goodIn_app (goodIn_of _ (by decide +kernel)) ggX6_falls_X0_folded
set_option maxRecDepth 20000 in
theorem ggX6_falls_X2_add : GoodIn wsX6_falls wsX2_add := goodIn_r _ [29, 30, 31, 32, 33, 34, 28, 35, 63, 64] (by decide +kernel) (by decide +kernel)
set_option maxRecDepth 20000 in
theorem gX6_falls_X2_add : GoodIn wsX6_falls (wsV RX6 136 RX2 yX2_add wsX2_add) := goodIn_app (goodIn_of _ (by decide +kernel)) ggX6_falls_X2_add
set_option maxRecDepth 20000 in
theorem ggX6_falls_J6_bitCount_0f7a4 : GoodIn wsX6_falls wsJ6_bitCount_0f7a4 := goodIn_r _ [39, 40, 41, 42] (by decide +kernel) (by decide +kernel)
set_option maxRecDepth 20000 in
theorem gX6_falls_J6_bitCount_0f7a4 : GoodIn wsX6_falls (va_wsS RX6 165 yJ6_bitCount_0f7a4 wsJ6_bitCount_0f7a4) := goodIn_app (goodIn_of _ (by decide +kernel)) ggX6_falls_J6_bitCount_0f7a4
theorem dX6_falls_0 : decode cX6_falls 0 = .ok (.aload_n 0, 1) := by decide +kernel
theorem dX6_falls_1 : decode cX6_falls 1 = .ok (.getfield 53, 3) := by decide +kernel
theorem dX6_falls_4 : decode cX6_falls 4 = .ok (.iload_n 1, 1) := by decide +kernel
theorem dX6_falls_5 : decode cX6_falls 5 = .ok (.invokevirtual 97, 3) := by decide +kernel
theorem dX6_falls_8 : decode cX6_falls 8 = .ok (.ifCond .eq 12, 3) := by decide +kernel
theorem dX6_falls_11 : decode cX6_falls 11 = .ok (.iload_n 2, 1) := by decide +kernel
theorem dX6_falls_12 : decode cX6_falls 12 = .ok (.ifCond .lt 8, 3) := by decide +kernel
theorem dX6_falls_15 : decode cX6_falls 15 = .ok (.iload_n 2, 1) := by decide +kernel
theorem dX6_falls_16 : decode cX6_falls 16 = .ok (.iconst 1, 1) := by decide +kernel
theorem dX6_falls_17 : decode cX6_falls 17 = .ok (.if_icmp .le 5, 3) := by decide +kernel
theorem dX6_falls_20 : decode cX6_falls 20 = .ok (.iconst (-1), 1) := by decide +kernel
theorem dX6_falls_21 : decode cX6_falls 21 = .ok (.ireturn, 1) := by decide +kernel
theorem dX6_falls_22 : decode cX6_falls 22 = .ok (.aload_n 0, 1) := by decide +kernel
theorem dX6_falls_23 : decode cX6_falls 23 = .ok (.getfield 19, 3) := by decide +kernel
theorem dX6_falls_26 : decode cX6_falls 26 = .ok (.iload_n 1, 1) := by decide +kernel
theorem dX6_falls_27 : decode cX6_falls 27 = .ok (.invokevirtual 103, 3) := by decide +kernel
theorem dX6_falls_30 : decode cX6_falls 30 = .ok (.iload_n 2, 1) := by decide +kernel
theorem dX6_falls_31 : decode cX6_falls 31 = .ok (.iconst 1, 1) := by decide +kernel
theorem dX6_falls_32 : decode cX6_falls 32 = .ok (.if_icmp .ne 7, 3) := by decide +kernel
theorem dX6_falls_35 : decode cX6_falls 35 = .ok (.iconst 1, 1) := by decide +kernel
theorem dX6_falls_36 : decode cX6_falls 36 = .ok (.goto 4, 3) := by decide +kernel
theorem dX6_falls_39 : decode cX6_falls 39 = .ok (.iconst 0, 1) := by decide +kernel
theorem dX6_falls_40 : decode cX6_falls 40 = .ok (.if_icmp .ne 6, 3) := by decide +kernel
theorem dX6_falls_43 : decode cX6_falls 43 = .ok (.bipush (-2), 2) := by decide +kernel
theorem dX6_falls_45 : decode cX6_falls 45 = .ok (.ireturn, 1) := by decide +kernel
theorem dX6_falls_46 : decode cX6_falls 46 = .ok (.aload_n 0, 1) := by decide +kernel
theorem dX6_falls_47 : decode cX6_falls 47 = .ok (.getfield 26, 3) := by decide +kernel
theorem dX6_falls_50 : decode cX6_falls 50 = .ok (.aload_n 0, 1) := by decide +kernel
theorem dX6_falls_51 : decode cX6_falls 51 = .ok (.getfield 19, 3) := by decide +kernel
theorem dX6_falls_54 : decode cX6_falls 54 = .ok (.invokevirtual 132, 3) := by decide +kernel
theorem dX6_falls_57 : decode cX6_falls 57 = .ok (.invokevirtual 136, 3) := by decide +kernel
theorem dX6_falls_60 : decode cX6_falls 60 = .ok (.aload_n 0, 1) := by decide +kernel
theorem dX6_falls_61 : decode cX6_falls 61 = .ok (.getfield 19, 3) := by decide +kernel
theorem dX6_falls_64 : decode cX6_falls 64 = .ok (.dup, 1) := by decide +kernel
theorem dX6_falls_65 : decode cX6_falls 65 = .ok (.getfield 122, 3) := by decide +kernel
theorem dX6_falls_68 : decode cX6_falls 68 = .ok (.iconst 1, 1) := by decide +kernel
theorem dX6_falls_69 : decode cX6_falls 69 = .ok (.iload_n 1, 1) := by decide +kernel
theorem dX6_falls_70 : decode cX6_falls 70 = .ok (.ishl, 1) := by decide +kernel
theorem dX6_falls_71 : decode cX6_falls 71 = .ok (.ixor, 1) := by decide +kernel
theorem dX6_falls_72 : decode cX6_falls 72 = .ok (.putfield 122, 3) := by decide +kernel
theorem dX6_falls_75 : decode cX6_falls 75 = .ok (.aload_n 0, 1) := by decide +kernel
theorem dX6_falls_76 : decode cX6_falls 76 = .ok (.getfield 19, 3) := by decide +kernel
theorem dX6_falls_79 : decode cX6_falls 79 = .ok (.getfield 122, 3) := by decide +kernel
theorem dX6_falls_82 : decode cX6_falls 82 = .ok (.invokestatic 165, 3) := by decide +kernel
theorem dX6_falls_85 : decode cX6_falls 85 = .ok (.ireturn, 1) := by decide +kernel
set_option maxRecDepth 20000 in
theorem ggX6_undo_X2_takeLatest : GoodIn wsX6_undo wsX2_takeLatest := goodIn_r _ [8, 9, 10, 32, 33] (by decide +kernel) (by decide +kernel)
set_option maxRecDepth 20000 in
theorem gX6_undo_X2_takeLatest : GoodIn wsX6_undo (wsV RX6 170 RX2 yX2_takeLatest wsX2_takeLatest) := goodIn_app (goodIn_of _ (by decide +kernel)) ggX6_undo_X2_takeLatest
set_option maxRecDepth 20000 in
theorem ggX6_undo_X0_unfold : GoodIn wsX6_undo wsX0_unfold := goodIn_r _ [15, 16, 17, 18, 19, 20, 21, 22, 34, 35, 36, 37, 38] (by decide +kernel) (by decide +kernel)
set_option maxRecDepth 20000 in
theorem gX6_undo_X0_unfold : GoodIn wsX6_undo (wsV RX6 173 RX0 yX0_unfold wsX0_unfold) := goodIn_app (goodIn_of _ (by decide +kernel)) ggX6_undo_X0_unfold
theorem dX6_undo_0 : decode cX6_undo 0 = .ok (.aload_n 0, 1) := by decide +kernel
theorem dX6_undo_1 : decode cX6_undo 1 = .ok (.getfield 26, 3) := by decide +kernel
theorem dX6_undo_4 : decode cX6_undo 4 = .ok (.getfield 125, 3) := by decide +kernel
theorem dX6_undo_7 : decode cX6_undo 7 = .ok (.iconst 1, 1) := by decide +kernel
theorem dX6_undo_8 : decode cX6_undo 8 = .ok (.if_icmp .ge 6, 3) := by decide +kernel
theorem dX6_undo_11 : decode cX6_undo 11 = .ok (.bipush (-2), 2) := by decide +kernel
theorem dX6_undo_13 : decode cX6_undo 13 = .ok (.ireturn, 1) := by decide +kernel
theorem dX6_undo_14 : decode cX6_undo 14 = .ok (.aload_n 0, 1) := by decide +kernel
theorem dX6_undo_15 : decode cX6_undo 15 = .ok (.getfield 19, 3) := by decide +kernel
theorem dX6_undo_18 : decode cX6_undo 18 = .ok (.aload_n 0, 1) := by decide +kernel
theorem dX6_undo_19 : decode cX6_undo 19 = .ok (.getfield 26, 3) := by decide +kernel
theorem dX6_undo_22 : decode cX6_undo 22 = .ok (.invokevirtual 170, 3) := by decide +kernel
theorem dX6_undo_25 : decode cX6_undo 25 = .ok (.invokevirtual 173, 3) := by decide +kernel
theorem dX6_undo_28 : decode cX6_undo 28 = .ok (.aload_n 0, 1) := by decide +kernel
theorem dX6_undo_29 : decode cX6_undo 29 = .ok (.getfield 26, 3) := by decide +kernel
theorem dX6_undo_32 : decode cX6_undo 32 = .ok (.getfield 125, 3) := by decide +kernel
theorem dX6_undo_35 : decode cX6_undo 35 = .ok (.ireturn, 1) := by decide +kernel
set_option maxRecDepth 20000 in
theorem ggX6_would_X6_isMorning : GoodIn wsX6_would wsX6_isMorning := goodIn_r _ [5, 6, 7, 8, 9, 10, 11, 12, 13, 14, 4, 15, 16, 17, 18, 19, 20, 59, 60, 61, 62, 63, 64, 65, 66, 67, 68, 69, 70, 71, 72, 73] (by decide +kernel) (by decide +kernel)
set_option maxRecDepth 20000 in
theorem gX6_would_X6_isMorning : GoodIn wsX6_would (wsV RX6 128 RX6 yX6_isMorning wsX6_isMorning) := goodIn_app (goodIn_of _ (by decide +kernel)) ggX6_would_X6_isMorning
set_option maxRecDepth 20000 in
theorem ggX6_would_X6_minutesNow : GoodIn wsX6_would wsX6_minutesNow := goodIn_r _ [24, 6, 25, 26, 27, 28, 29, 30, 31, 32, 33, 34, 35, 10, 36, 37, 38, 39, 40, 41, 42, 8, 9, 11, 12, 43, 44, 45, 46, 47, 48, 4, 49, 50, 51, 52, 53, 54, 55, 56, 57, 58, 59, 60, 61, 62, 63, 64, 65, 66, 67, 74, 75, 76, 77, 78, 68, 69, 70, 71, 72, 73] (by decide +kernel) (by decide +kernel)
set_option maxRecDepth 20000 in
theorem gX6_would_X6_minutesNow : GoodIn wsX6_would (wsV RX6 139 RX6 yX6_minutesNow wsX6_minutesNow) := goodIn_app (goodIn_of _ (by decide +kernel)) ggX6_would_X6_minutesNow
theorem dX6_would_0 : decode cX6_would 0 = .ok (.aload_n 0, 1) := by decide +kernel
theorem dX6_would_1 : decode cX6_would 1 = .ok (.iload_n 1, 1) := by decide +kernel
theorem dX6_would_2 : decode cX6_would 2 = .ok (.iload_n 2, 1) := by decide +kernel
theorem dX6_would_3 : decode cX6_would 3 = .ok (.iload_n 3, 1) := by decide +kernel
theorem dX6_would_4 : decode cX6_would 4 = .ok (.invokevirtual 128, 3) := by decide +kernel
theorem dX6_would_7 : decode cX6_would 7 = .ok (.ifCond .ne 5, 3) := by decide +kernel
theorem dX6_would_10 : decode cX6_would 10 = .ok (.iconst (-1), 1) := by decide +kernel
theorem dX6_would_11 : decode cX6_would 11 = .ok (.ireturn, 1) := by decide +kernel
theorem dX6_would_12 : decode cX6_would 12 = .ok (.aload_n 0, 1) := by decide +kernel
theorem dX6_would_13 : decode cX6_would 13 = .ok (.iload_n 1, 1) := by decide +kernel
theorem dX6_would_14 : decode cX6_would 14 = .ok (.iload_n 2, 1) := by decide +kernel
theorem dX6_would_15 : decode cX6_would 15 = .ok (.iload_n 3, 1) := by decide +kernel
theorem dX6_would_16 : decode cX6_would 16 = .ok (.invokevirtual 139, 3) := by decide +kernel
theorem dX6_would_19 : decode cX6_would 19 = .ok (.ireturn, 1) := by decide +kernel
set_option maxRecDepth 20000 in
theorem ggX6_farthest_X5_hasGoodbye : GoodIn wsX6_farthest wsX5_hasGoodbye := goodIn_r _ [6, 7, 56, 57, 58, 59, 60, 61] (by decide +kernel) (by decide +kernel)
set_option maxRecDepth 20000 in
theorem gX6_farthest_X5_hasGoodbye : GoodIn wsX6_farthest (wsV RX6 87 RX5 yX5_hasGoodbye wsX5_hasGoodbye) := goodIn_app (goodIn_of _ (by decide +kernel)) ggX6_farthest_X5_hasGoodbye
set_option maxRecDepth 20000 in
theorem ggX6_farthest_X5_hasWoman : GoodIn wsX6_farthest wsX5_hasWoman := goodIn_r _ [11, 12, 56, 57, 58, 59, 60, 61] (by decide +kernel) (by decide +kernel)
set_option maxRecDepth 20000 in
theorem gX6_farthest_X5_hasWoman : GoodIn wsX6_farthest (wsV RX6 97 RX5 yX5_hasWoman wsX5_hasWoman) := goodIn_app (goodIn_of _ (by decide +kernel)) ggX6_farthest_X5_hasWoman
set_option maxRecDepth 20000 in
theorem ggX6_farthest_X6_reachNow : GoodIn wsX6_farthest wsX6_reachNow := goodIn_r _ [17, 1, 18, 19, 20, 21, 22, 23, 24, 25, 26, 27, 28, 5, 29, 30, 31, 32, 33, 34, 35, 36, 37, 38, 39, 40, 41, 42, 43, 44, 3, 4, 6, 7, 45, 16, 46, 47, 48, 49, 50, 51, 52, 53, 54, 55, 62, 63, 64, 65, 66, 56, 57, 58, 59, 60, 61] (by decide +kernel) (by decide +kernel)
set_option maxRecDepth 20000 in
theorem gX6_farthest_X6_reachNow : GoodIn wsX6_farthest (wsV RX6 176 RX6 yX6_reachNow wsX6_reachNow) := goodIn_app (goodIn_of _ (by decide +kernel)) ggX6_farthest_X6_reachNow
theorem dX6_farthest_0 : decode cX6_farthest 0 = .ok (.aload_n 0, 1) := by decide +kernel
theorem dX6_farthest_1 : decode cX6_farthest 1 = .ok (.getfield 53, 3) := by decide +kernel
theorem dX6_farthest_4 : decode cX6_farthest 4 = .ok (.iload_n 1, 1) := by decide +kernel
theorem dX6_farthest_5 : decode cX6_farthest 5 = .ok (.invokevirtual 87, 3) := by decide +kernel
theorem dX6_farthest_8 : decode cX6_farthest 8 = .ok (.ifCond .eq 14, 3) := by decide +kernel
theorem dX6_farthest_11 : decode cX6_farthest 11 = .ok (.aload_n 0, 1) := by decide +kernel
theorem dX6_farthest_12 : decode cX6_farthest 12 = .ok (.getfield 53, 3) := by decide +kernel
theorem dX6_farthest_15 : decode cX6_farthest 15 = .ok (.iload_n 2, 1) := by decide +kernel
theorem dX6_farthest_16 : decode cX6_farthest 16 = .ok (.invokevirtual 97, 3) := by decide +kernel
theorem dX6_farthest_19 : decode cX6_farthest 19 = .ok (.ifCond .ne 5, 3) := by decide +kernel
theorem dX6_farthest_22 : decode cX6_farthest 22 = .ok (.iconst (-1), 1) := by decide +kernel
theorem dX6_farthest_23 : decode cX6_farthest 23 = .ok (.ireturn, 1) := by decide +kernel
theorem dX6_farthest_24 : decode cX6_farthest 24 = .ok (.aload_n 0, 1) := by decide +kernel
theorem dX6_farthest_25 : decode cX6_farthest 25 = .ok (.iload_n 1, 1) := by decide +kernel
theorem dX6_farthest_26 : decode cX6_farthest 26 = .ok (.iload_n 2, 1) := by decide +kernel
theorem dX6_farthest_27 : decode cX6_farthest 27 = .ok (.invokevirtual 176, 3) := by decide +kernel
theorem dX6_farthest_30 : decode cX6_farthest 30 = .ok (.istore_n 3, 1) := by decide +kernel
theorem dX6_farthest_31 : decode cX6_farthest 31 = .ok (.iload_n 3, 1) := by decide +kernel
theorem dX6_farthest_32 : decode cX6_farthest 32 = .ok (.iconst 1, 1) := by decide +kernel
theorem dX6_farthest_33 : decode cX6_farthest 33 = .ok (.if_icmp .ge 8, 3) := by decide +kernel
theorem dX6_farthest_36 : decode cX6_farthest 36 = .ok (.bipush (-9), 2) := by decide +kernel
theorem dX6_farthest_38 : decode cX6_farthest 38 = .ok (.goto 4, 3) := by decide +kernel
theorem dX6_farthest_41 : decode cX6_farthest 41 = .ok (.iload_n 3, 1) := by decide +kernel
theorem dX6_farthest_42 : decode cX6_farthest 42 = .ok (.ireturn, 1) := by decide +kernel
set_option maxRecDepth 20000 in
theorem ggX6_plan_X5_hasWoman : GoodIn wsX6_plan wsX5_hasWoman := goodIn_r _ [9, 10, 117, 118, 119, 120, 121, 122] (by decide +kernel) (by decide +kernel)
set_option maxRecDepth 20000 in
theorem gX6_plan_X5_hasWoman : GoodIn wsX6_plan (wsV RX6 97 RX5 yX5_hasWoman wsX5_hasWoman) := goodIn_app (goodIn_of _ (by decide +kernel)) ggX6_plan_X5_hasWoman
set_option maxRecDepth 20000 in
theorem ggX6_plan_X6_lookAhead : GoodIn wsX6_plan wsX6_lookAhead := goodIn_r _ [15, 2, 16, 1, 17, 18, 19, 20, 21, 22, 23, 24, 25, 26, 27, 28, 29, 30, 31, 32, 33, 34, 35, 36, 37, 38, 8, 39, 40, 41, 42, 43, 44, 45, 46, 47, 48, 49, 50, 51, 52, 53, 54, 55, 56, 57, 58, 59, 60, 14, 61, 62, 63, 64, 65, 66, 67, 68, 69, 70, 71, 72, 73, 74, 75, 76, 77, 78, 79, 80, 81, 82, 83, 84, 85, 86, 87, 88, 103, 104, 105, 106, 107, 108, 109, 110, 111, 123, 124, 125, 126, 117, 118, 119, 120, 121, 122] (by decide +kernel) (by decide +kernel)
set_option maxRecDepth 20000 in
theorem gX6_plan_X6_lookAhead : GoodIn wsX6_plan (wsV RX6 179 RX6 yX6_lookAhead wsX6_lookAhead) := goodIn_app (goodIn_of _ (by decide +kernel)) ggX6_plan_X6_lookAhead
set_option maxRecDepth 20000 in
theorem ggX6_plan_X0_likingOf : GoodIn wsX6_plan wsX0_likingOf := goodIn_r _ [93, 94, 112, 113, 114, 115, 116] (by decide +kernel) (by decide +kernel)
set_option maxRecDepth 20000 in
theorem gX6_plan_X0_likingOf : GoodIn wsX6_plan (wsV RX6 100 RX0 yX0_likingOf wsX0_likingOf) := goodIn_app (goodIn_of _ (by decide +kernel)) ggX6_plan_X0_likingOf
set_option maxRecDepth 20000 in
theorem ggX6_plan_X1_fewestFrom : GoodIn wsX6_plan wsX1_fewestFrom := goodIn_r _ [98, 30, 31, 20, 32, 81, 82, 83, 84, 27, 33, 34, 35, 123, 124, 125, 126] (by decide +kernel) (by decide +kernel)
set_option maxRecDepth 20000 in
theorem gX6_plan_X1_fewestFrom : GoodIn wsX6_plan (wsV RX6 182 RX1 yX1_fewestFrom wsX1_fewestFrom) := goodIn_app (goodIn_of _ (by decide +kernel)) ggX6_plan_X1_fewestFrom
set_option maxRecDepth 20000 in
theorem ggX6_plan_X1_morningAt : GoodIn wsX6_plan wsX1_morningAt := goodIn_r _ [102, 67, 27, 30, 31, 20, 32, 33, 34, 35, 68, 69, 70, 8, 71, 45, 46, 47, 48, 72, 73, 74, 75, 76, 55, 56, 57, 58, 59, 77, 78, 79, 80, 36, 37, 38, 39, 40, 123, 124, 125, 126, 117, 118, 119, 120, 121, 122] (by decide +kernel) (by decide +kernel)
set_option maxRecDepth 20000 in
theorem gX6_plan_X1_morningAt : GoodIn wsX6_plan (wsV RX6 185 RX1 yX1_morningAt wsX1_morningAt) := goodIn_app (goodIn_of _ (by decide +kernel)) ggX6_plan_X1_morningAt
theorem dX6_plan_0 : decode cX6_plan 0 = .ok (.aload_n 0, 1) := by decide +kernel
theorem dX6_plan_1 : decode cX6_plan 1 = .ok (.getfield 53, 3) := by decide +kernel
theorem dX6_plan_4 : decode cX6_plan 4 = .ok (.iload_n 1, 1) := by decide +kernel
theorem dX6_plan_5 : decode cX6_plan 5 = .ok (.invokevirtual 97, 3) := by decide +kernel
theorem dX6_plan_8 : decode cX6_plan 8 = .ok (.ifCond .eq 8, 3) := by decide +kernel
theorem dX6_plan_11 : decode cX6_plan 11 = .ok (.iload_n 2, 1) := by decide +kernel
theorem dX6_plan_12 : decode cX6_plan 12 = .ok (.iconst (-1), 1) := by decide +kernel
theorem dX6_plan_13 : decode cX6_plan 13 = .ok (.if_icmp .ge 5, 3) := by decide +kernel
theorem dX6_plan_16 : decode cX6_plan 16 = .ok (.iconst (-1), 1) := by decide +kernel
theorem dX6_plan_17 : decode cX6_plan 17 = .ok (.ireturn, 1) := by decide +kernel
theorem dX6_plan_18 : decode cX6_plan 18 = .ok (.aload_n 0, 1) := by decide +kernel
theorem dX6_plan_19 : decode cX6_plan 19 = .ok (.invokevirtual 179, 3) := by decide +kernel
theorem dX6_plan_22 : decode cX6_plan 22 = .ok (.aload_n 0, 1) := by decide +kernel
theorem dX6_plan_23 : decode cX6_plan 23 = .ok (.getfield 40, 3) := by decide +kernel
theorem dX6_plan_26 : decode cX6_plan 26 = .ok (.aload_n 0, 1) := by decide +kernel
theorem dX6_plan_27 : decode cX6_plan 27 = .ok (.getfield 19, 3) := by decide +kernel
theorem dX6_plan_30 : decode cX6_plan 30 = .ok (.getfield 113, 3) := by decide +kernel
theorem dX6_plan_33 : decode cX6_plan 33 = .ok (.aload_n 0, 1) := by decide +kernel
theorem dX6_plan_34 : decode cX6_plan 34 = .ok (.getfield 19, 3) := by decide +kernel
theorem dX6_plan_37 : decode cX6_plan 37 = .ok (.iload_n 1, 1) := by decide +kernel
theorem dX6_plan_38 : decode cX6_plan 38 = .ok (.invokevirtual 100, 3) := by decide +kernel
theorem dX6_plan_41 : decode cX6_plan 41 = .ok (.invokevirtual 182, 3) := by decide +kernel
theorem dX6_plan_44 : decode cX6_plan 44 = .ok (.istore_n 3, 1) := by decide +kernel
theorem dX6_plan_45 : decode cX6_plan 45 = .ok (.iload_n 3, 1) := by decide +kernel
theorem dX6_plan_46 : decode cX6_plan 46 = .ok (.iconst 1, 1) := by decide +kernel
theorem dX6_plan_47 : decode cX6_plan 47 = .ok (.if_icmp .ge 6, 3) := by decide +kernel
theorem dX6_plan_50 : decode cX6_plan 50 = .ok (.bipush (-9), 2) := by decide +kernel
theorem dX6_plan_52 : decode cX6_plan 52 = .ok (.ireturn, 1) := by decide +kernel
theorem dX6_plan_53 : decode cX6_plan 53 = .ok (.iload_n 2, 1) := by decide +kernel
theorem dX6_plan_54 : decode cX6_plan 54 = .ok (.iconst (-1), 1) := by decide +kernel
theorem dX6_plan_55 : decode cX6_plan 55 = .ok (.if_icmp .ne 5, 3) := by decide +kernel
theorem dX6_plan_58 : decode cX6_plan 58 = .ok (.iload_n 3, 1) := by decide +kernel
theorem dX6_plan_59 : decode cX6_plan 59 = .ok (.ireturn, 1) := by decide +kernel
theorem dX6_plan_60 : decode cX6_plan 60 = .ok (.iload_n 2, 1) := by decide +kernel
theorem dX6_plan_61 : decode cX6_plan 61 = .ok (.iload_n 3, 1) := by decide +kernel
theorem dX6_plan_62 : decode cX6_plan 62 = .ok (.if_icmp .lt 6, 3) := by decide +kernel
theorem dX6_plan_65 : decode cX6_plan 65 = .ok (.bipush (-5), 2) := by decide +kernel
theorem dX6_plan_67 : decode cX6_plan 67 = .ok (.ireturn, 1) := by decide +kernel
theorem dX6_plan_68 : decode cX6_plan 68 = .ok (.aload_n 0, 1) := by decide +kernel
theorem dX6_plan_69 : decode cX6_plan 69 = .ok (.getfield 40, 3) := by decide +kernel
theorem dX6_plan_72 : decode cX6_plan 72 = .ok (.aload_n 0, 1) := by decide +kernel
theorem dX6_plan_73 : decode cX6_plan 73 = .ok (.getfield 53, 3) := by decide +kernel
theorem dX6_plan_76 : decode cX6_plan 76 = .ok (.aload_n 0, 1) := by decide +kernel
theorem dX6_plan_77 : decode cX6_plan 77 = .ok (.getfield 19, 3) := by decide +kernel
theorem dX6_plan_80 : decode cX6_plan 80 = .ok (.getfield 113, 3) := by decide +kernel
theorem dX6_plan_83 : decode cX6_plan 83 = .ok (.aload_n 0, 1) := by decide +kernel
theorem dX6_plan_84 : decode cX6_plan 84 = .ok (.getfield 19, 3) := by decide +kernel
theorem dX6_plan_87 : decode cX6_plan 87 = .ok (.iload_n 1, 1) := by decide +kernel
theorem dX6_plan_88 : decode cX6_plan 88 = .ok (.invokevirtual 100, 3) := by decide +kernel
theorem dX6_plan_91 : decode cX6_plan 91 = .ok (.iload_n 2, 1) := by decide +kernel
theorem dX6_plan_92 : decode cX6_plan 92 = .ok (.invokevirtual 185, 3) := by decide +kernel
theorem dX6_plan_95 : decode cX6_plan 95 = .ok (.ireturn, 1) := by decide +kernel
set_option maxRecDepth 20000 in
theorem ggX6_ways_X5_hasWoman : GoodIn wsX6_ways wsX5_hasWoman := goodIn_r _ [9, 10, 113, 114, 115, 116, 117, 118] (by decide +kernel) (by decide +kernel)
set_option maxRecDepth 20000 in
theorem gX6_ways_X5_hasWoman : GoodIn wsX6_ways (wsV RX6 97 RX5 yX5_hasWoman wsX5_hasWoman) := goodIn_app (goodIn_of _ (by decide +kernel)) ggX6_ways_X5_hasWoman
set_option maxRecDepth 20000 in
theorem ggX6_ways_X6_lookAhead : GoodIn wsX6_ways wsX6_lookAhead := goodIn_r _ [15, 2, 16, 1, 17, 18, 19, 20, 21, 22, 23, 24, 25, 26, 27, 28, 29, 30, 31, 32, 33, 34, 35, 36, 37, 38, 8, 39, 40, 41, 42, 43, 44, 45, 46, 47, 48, 49, 50, 51, 52, 53, 54, 55, 56, 57, 58, 59, 60, 14, 61, 62, 63, 64, 65, 66, 67, 68, 69, 70, 71, 72, 73, 74, 75, 76, 77, 78, 79, 80, 81, 82, 83, 84, 85, 86, 87, 88, 99, 100, 101, 102, 103, 104, 105, 106, 107, 119, 120, 121, 122, 113, 114, 115, 116, 117, 118] (by decide +kernel) (by decide +kernel)
set_option maxRecDepth 20000 in
theorem gX6_ways_X6_lookAhead : GoodIn wsX6_ways (wsV RX6 179 RX6 yX6_lookAhead wsX6_lookAhead) := goodIn_app (goodIn_of _ (by decide +kernel)) ggX6_ways_X6_lookAhead
set_option maxRecDepth 20000 in
theorem ggX6_ways_X0_likingOf : GoodIn wsX6_ways wsX0_likingOf := goodIn_r _ [93, 94, 108, 109, 110, 111, 112] (by decide +kernel) (by decide +kernel)
set_option maxRecDepth 20000 in
theorem gX6_ways_X0_likingOf : GoodIn wsX6_ways (wsV RX6 100 RX0 yX0_likingOf wsX0_likingOf) := goodIn_app (goodIn_of _ (by decide +kernel)) ggX6_ways_X0_likingOf
set_option maxRecDepth 20000 in
theorem ggX6_ways_X1_rowsFrom : GoodIn wsX6_ways wsX1_rowsFrom := goodIn_r _ [98, 30, 31, 20, 32, 85, 86, 87, 88, 28, 33, 34, 35, 119, 120, 121, 122] (by decide +kernel) (by decide +kernel)
set_option maxRecDepth 20000 in
theorem gX6_ways_X1_rowsFrom : GoodIn wsX6_ways (wsV RX6 189 RX1 yX1_rowsFrom wsX1_rowsFrom) := goodIn_app (goodIn_of _ (by decide +kernel)) ggX6_ways_X1_rowsFrom
theorem dX6_ways_0 : decode cX6_ways 0 = .ok (.aload_n 0, 1) := by decide +kernel
theorem dX6_ways_1 : decode cX6_ways 1 = .ok (.getfield 53, 3) := by decide +kernel
theorem dX6_ways_4 : decode cX6_ways 4 = .ok (.iload_n 1, 1) := by decide +kernel
theorem dX6_ways_5 : decode cX6_ways 5 = .ok (.invokevirtual 97, 3) := by decide +kernel
theorem dX6_ways_8 : decode cX6_ways 8 = .ok (.ifCond .ne 5, 3) := by decide +kernel
theorem dX6_ways_11 : decode cX6_ways 11 = .ok (.iconst (-1), 1) := by decide +kernel
theorem dX6_ways_12 : decode cX6_ways 12 = .ok (.ireturn, 1) := by decide +kernel
theorem dX6_ways_13 : decode cX6_ways 13 = .ok (.aload_n 0, 1) := by decide +kernel
theorem dX6_ways_14 : decode cX6_ways 14 = .ok (.invokevirtual 179, 3) := by decide +kernel
theorem dX6_ways_17 : decode cX6_ways 17 = .ok (.aload_n 0, 1) := by decide +kernel
theorem dX6_ways_18 : decode cX6_ways 18 = .ok (.getfield 40, 3) := by decide +kernel
theorem dX6_ways_21 : decode cX6_ways 21 = .ok (.aload_n 0, 1) := by decide +kernel
theorem dX6_ways_22 : decode cX6_ways 22 = .ok (.getfield 19, 3) := by decide +kernel
theorem dX6_ways_25 : decode cX6_ways 25 = .ok (.getfield 113, 3) := by decide +kernel
theorem dX6_ways_28 : decode cX6_ways 28 = .ok (.aload_n 0, 1) := by decide +kernel
theorem dX6_ways_29 : decode cX6_ways 29 = .ok (.getfield 19, 3) := by decide +kernel
theorem dX6_ways_32 : decode cX6_ways 32 = .ok (.iload_n 1, 1) := by decide +kernel
theorem dX6_ways_33 : decode cX6_ways 33 = .ok (.invokevirtual 100, 3) := by decide +kernel
theorem dX6_ways_36 : decode cX6_ways 36 = .ok (.invokevirtual 189, 3) := by decide +kernel
theorem dX6_ways_39 : decode cX6_ways 39 = .ok (.ireturn, 1) := by decide +kernel
set_option maxRecDepth 20000 in
theorem ggX6_setback_X6_isMorning : GoodIn wsX6_setback wsX6_isMorning := goodIn_r _ [10, 5, 11, 12, 13, 14, 15, 16, 17, 18, 9, 19, 20, 21, 22, 23, 24, 143, 144, 145, 146, 147, 148, 149, 150, 151, 157, 158, 159, 160, 161, 162] (by decide +kernel) (by decide +kernel)
set_option maxRecDepth 20000 in
theorem gX6_setback_X6_isMorning : GoodIn wsX6_setback (wsV RX6 128 RX6 yX6_isMorning wsX6_isMorning) := goodIn_app (goodIn_of _ (by decide +kernel)) ggX6_setback_X6_isMorning
set_option maxRecDepth 20000 in
theorem ggX6_setback_X6_lookAhead : GoodIn wsX6_setback wsX6_lookAhead := goodIn_r _ [28, 3, 29, 5, 30, 31, 32, 33, 34, 35, 36, 37, 38, 39, 40, 41, 42, 43, 44, 45, 46, 47, 48, 49, 50, 51, 14, 52, 53, 54, 55, 56, 57, 58, 59, 60, 61, 62, 63, 64, 65, 66, 67, 68, 12, 13, 15, 16, 69, 9, 70, 71, 72, 73, 74, 75, 76, 77, 78, 79, 80, 81, 82, 83, 84, 85, 86, 87, 88, 89, 90, 91, 92, 93, 94, 95, 96, 97, 143, 144, 145, 146, 147, 148, 149, 150, 151, 163, 164, 165, 166, 157, 158, 159, 160, 161, 162] (by decide +kernel) (by decide +kernel)
set_option maxRecDepth 20000 in
theorem gX6_setback_X6_lookAhead : GoodIn wsX6_setback (wsV RX6 179 RX6 yX6_lookAhead wsX6_lookAhead) := goodIn_app (goodIn_of _ (by decide +kernel)) ggX6_setback_X6_lookAhead
set_option maxRecDepth 20000 in
theorem ggX6_setback_X0_likingOf : GoodIn wsX6_setback wsX0_likingOf := goodIn_r _ [102, 103, 152, 153, 154, 155, 156] (by decide +kernel) (by decide +kernel)
set_option maxRecDepth 20000 in
theorem gX6_setback_X0_likingOf : GoodIn wsX6_setback (wsV RX6 100 RX0 yX0_likingOf wsX0_likingOf) := goodIn_app (goodIn_of _ (by decide +kernel)) ggX6_setback_X0_likingOf
set_option maxRecDepth 20000 in
theorem ggX6_setback_X6_minutesNow : GoodIn wsX6_setback wsX6_minutesNow := goodIn_r _ [107, 5, 2, 4, 98, 99, 100, 101, 102, 103, 108, 109, 110, 14, 111, 63, 64, 65, 66, 67, 68, 12, 13, 15, 16, 62, 50, 51, 52, 53, 112, 9, 113, 114, 115, 60, 116, 117, 118, 119, 59, 61, 143, 144, 145, 146, 147, 148, 149, 150, 151, 152, 153, 154, 155, 156, 157, 158, 159, 160, 161, 162] (by decide +kernel) (by decide +kernel)
set_option maxRecDepth 20000 in
theorem gX6_setback_X6_minutesNow : GoodIn wsX6_setback (wsV RX6 139 RX6 yX6_minutesNow wsX6_minutesNow) := goodIn_app (goodIn_of _ (by decide +kernel)) ggX6_setback_X6_minutesNow
set_option maxRecDepth 20000 in
theorem ggX6_setback_X1_fewestFrom : GoodIn wsX6_setback wsX1_fewestFrom := goodIn_r _ [123, 43, 44, 33, 45, 90, 91, 92, 93, 40, 46, 47, 48, 163, 164, 165, 166] (by decide +kernel) (by decide +kernel)
set_option maxRecDepth 20000 in
theorem gX6_setback_X1_fewestFrom : GoodIn wsX6_setback (wsV RX6 182 RX1 yX1_fewestFrom wsX1_fewestFrom) := goodIn_app (goodIn_of _ (by decide +kernel)) ggX6_setback_X1_fewestFrom
set_option maxRecDepth 20000 in
theorem ggX6_setback_X5_trustAfter : GoodIn wsX6_setback wsX5_trustAfter := goodIn_r _ [127, 128, 115, 60, 116, 129, 130, 131, 14, 132, 62, 50, 51, 52, 53, 133, 78, 79, 80, 58, 59, 61, 81, 82, 83, 84, 85, 68, 12, 13, 15, 16, 134, 135, 136, 137, 157, 158, 159, 160, 161, 162] (by decide +kernel) (by decide +kernel)
set_option maxRecDepth 20000 in
theorem gX6_setback_X5_trustAfter : GoodIn wsX6_setback (wsV RX6 143 RX5 yX5_trustAfter wsX5_trustAfter) := goodIn_app (goodIn_of _ (by decide +kernel)) ggX6_setback_X5_trustAfter
set_option maxRecDepth 20000 in
theorem ggX6_setback_X5_likingAfter : GoodIn wsX6_setback wsX5_likingAfter := goodIn_r _ [141, 128, 115, 60, 116, 129, 130, 131, 14, 132, 62, 50, 51, 52, 53, 142, 87, 88, 89, 58, 59, 61, 134, 135, 136, 137, 157, 158, 159, 160, 161, 162] (by decide +kernel) (by decide +kernel)
set_option maxRecDepth 20000 in
theorem gX6_setback_X5_likingAfter : GoodIn wsX6_setback (wsV RX6 146 RX5 yX5_likingAfter wsX5_likingAfter) := goodIn_app (goodIn_of _ (by decide +kernel)) ggX6_setback_X5_likingAfter
theorem dX6_setback_0 : decode cX6_setback 0 = .ok (.aload_n 0, 1) := by decide +kernel
theorem dX6_setback_1 : decode cX6_setback 1 = .ok (.iload_n 1, 1) := by decide +kernel
theorem dX6_setback_2 : decode cX6_setback 2 = .ok (.iload_n 2, 1) := by decide +kernel
theorem dX6_setback_3 : decode cX6_setback 3 = .ok (.iload_n 3, 1) := by decide +kernel
theorem dX6_setback_4 : decode cX6_setback 4 = .ok (.invokevirtual 128, 3) := by decide +kernel
theorem dX6_setback_7 : decode cX6_setback 7 = .ok (.ifCond .ne 6, 3) := by decide +kernel
theorem dX6_setback_10 : decode cX6_setback 10 = .ok (.ldc 192, 2) := by decide +kernel
theorem dX6_setback_12 : decode cX6_setback 12 = .ok (.ireturn, 1) := by decide +kernel
theorem dX6_setback_13 : decode cX6_setback 13 = .ok (.aload_n 0, 1) := by decide +kernel
theorem dX6_setback_14 : decode cX6_setback 14 = .ok (.invokevirtual 179, 3) := by decide +kernel
theorem dX6_setback_17 : decode cX6_setback 17 = .ok (.aload_n 0, 1) := by decide +kernel
theorem dX6_setback_18 : decode cX6_setback 18 = .ok (.getfield 19, 3) := by decide +kernel
theorem dX6_setback_21 : decode cX6_setback 21 = .ok (.iload_n 3, 1) := by decide +kernel
theorem dX6_setback_22 : decode cX6_setback 22 = .ok (.invokevirtual 100, 3) := by decide +kernel
theorem dX6_setback_25 : decode cX6_setback 25 = .ok (.istore 4, 2) := by decide +kernel
theorem dX6_setback_27 : decode cX6_setback 27 = .ok (.aload_n 0, 1) := by decide +kernel
theorem dX6_setback_28 : decode cX6_setback 28 = .ok (.iload_n 1, 1) := by decide +kernel
theorem dX6_setback_29 : decode cX6_setback 29 = .ok (.iload_n 2, 1) := by decide +kernel
theorem dX6_setback_30 : decode cX6_setback 30 = .ok (.iload_n 3, 1) := by decide +kernel
theorem dX6_setback_31 : decode cX6_setback 31 = .ok (.invokevirtual 139, 3) := by decide +kernel
theorem dX6_setback_34 : decode cX6_setback 34 = .ok (.istore 5, 2) := by decide +kernel
theorem dX6_setback_36 : decode cX6_setback 36 = .ok (.aload_n 0, 1) := by decide +kernel
theorem dX6_setback_37 : decode cX6_setback 37 = .ok (.getfield 40, 3) := by decide +kernel
theorem dX6_setback_40 : decode cX6_setback 40 = .ok (.aload_n 0, 1) := by decide +kernel
theorem dX6_setback_41 : decode cX6_setback 41 = .ok (.getfield 19, 3) := by decide +kernel
theorem dX6_setback_44 : decode cX6_setback 44 = .ok (.getfield 113, 3) := by decide +kernel
theorem dX6_setback_47 : decode cX6_setback 47 = .ok (.iload 4, 2) := by decide +kernel
theorem dX6_setback_49 : decode cX6_setback 49 = .ok (.invokevirtual 182, 3) := by decide +kernel
theorem dX6_setback_52 : decode cX6_setback 52 = .ok (.istore 6, 2) := by decide +kernel
theorem dX6_setback_54 : decode cX6_setback 54 = .ok (.aload_n 0, 1) := by decide +kernel
theorem dX6_setback_55 : decode cX6_setback 55 = .ok (.getfield 40, 3) := by decide +kernel
theorem dX6_setback_58 : decode cX6_setback 58 = .ok (.aload_n 0, 1) := by decide +kernel
theorem dX6_setback_59 : decode cX6_setback 59 = .ok (.getfield 53, 3) := by decide +kernel
theorem dX6_setback_62 : decode cX6_setback 62 = .ok (.iload_n 1, 1) := by decide +kernel
theorem dX6_setback_63 : decode cX6_setback 63 = .ok (.aload_n 0, 1) := by decide +kernel
theorem dX6_setback_64 : decode cX6_setback 64 = .ok (.getfield 19, 3) := by decide +kernel
theorem dX6_setback_67 : decode cX6_setback 67 = .ok (.getfield 113, 3) := by decide +kernel
theorem dX6_setback_70 : decode cX6_setback 70 = .ok (.iload 5, 2) := by decide +kernel
theorem dX6_setback_72 : decode cX6_setback 72 = .ok (.invokevirtual 143, 3) := by decide +kernel
theorem dX6_setback_75 : decode cX6_setback 75 = .ok (.aload_n 0, 1) := by decide +kernel
theorem dX6_setback_76 : decode cX6_setback 76 = .ok (.getfield 53, 3) := by decide +kernel
theorem dX6_setback_79 : decode cX6_setback 79 = .ok (.iload 4, 2) := by decide +kernel
theorem dX6_setback_81 : decode cX6_setback 81 = .ok (.iload 5, 2) := by decide +kernel
theorem dX6_setback_83 : decode cX6_setback 83 = .ok (.invokevirtual 146, 3) := by decide +kernel
theorem dX6_setback_86 : decode cX6_setback 86 = .ok (.invokevirtual 182, 3) := by decide +kernel
theorem dX6_setback_89 : decode cX6_setback 89 = .ok (.istore 7, 2) := by decide +kernel
theorem dX6_setback_91 : decode cX6_setback 91 = .ok (.iload 6, 2) := by decide +kernel
theorem dX6_setback_93 : decode cX6_setback 93 = .ok (.iconst 1, 1) := by decide +kernel
theorem dX6_setback_94 : decode cX6_setback 94 = .ok (.if_icmp .lt 9, 3) := by decide +kernel
theorem dX6_setback_97 : decode cX6_setback 97 = .ok (.iload 7, 2) := by decide +kernel
theorem dX6_setback_99 : decode cX6_setback 99 = .ok (.iconst 1, 1) := by decide +kernel
theorem dX6_setback_100 : decode cX6_setback 100 = .ok (.if_icmp .ge 6, 3) := by decide +kernel
theorem dX6_setback_103 : decode cX6_setback 103 = .ok (.ldc 192, 2) := by decide +kernel
theorem dX6_setback_105 : decode cX6_setback 105 = .ok (.ireturn, 1) := by decide +kernel
theorem dX6_setback_106 : decode cX6_setback 106 = .ok (.iload 7, 2) := by decide +kernel
theorem dX6_setback_108 : decode cX6_setback 108 = .ok (.iload 6, 2) := by decide +kernel
theorem dX6_setback_110 : decode cX6_setback 110 = .ok (.isub, 1) := by decide +kernel
theorem dX6_setback_111 : decode cX6_setback 111 = .ok (.ireturn, 1) := by decide +kernel
set_option maxRecDepth 20000 in
theorem ggX6_odds_X6_isMorning : GoodIn wsX6_odds wsX6_isMorning := goodIn_r _ [8, 3, 9, 10, 11, 12, 13, 14, 15, 16, 7, 17, 18, 19, 20, 21, 22, 83, 84, 85, 86, 87, 88, 89, 90, 91, 97, 98, 99, 100, 101, 102] (by decide +kernel) (by decide +kernel)
set_option maxRecDepth 20000 in
theorem gX6_odds_X6_isMorning : GoodIn wsX6_odds (wsV RX6 128 RX6 yX6_isMorning wsX6_isMorning) := goodIn_app (goodIn_of _ (by decide +kernel)) ggX6_odds_X6_isMorning
set_option maxRecDepth 20000 in
theorem ggX6_odds_X0_likingOf : GoodIn wsX6_odds wsX0_likingOf := goodIn_r _ [27, 28, 92, 93, 94, 95, 96] (by decide +kernel) (by decide +kernel)
set_option maxRecDepth 20000 in
theorem gX6_odds_X0_likingOf : GoodIn wsX6_odds (wsV RX6 100 RX0 yX0_likingOf wsX0_likingOf) := goodIn_app (goodIn_of _ (by decide +kernel)) ggX6_odds_X0_likingOf
set_option maxRecDepth 20000 in
theorem ggX6_odds_X5_minutes : GoodIn wsX6_odds wsX5_minutes := goodIn_r _ [32, 33, 34, 35, 12, 36, 37, 38, 10, 11, 13, 14, 39, 40, 41, 42, 43, 44, 7, 45, 46, 47, 48, 49, 50, 51, 52, 53, 54, 97, 98, 99, 100, 101, 102] (by decide +kernel) (by decide +kernel)
set_option maxRecDepth 20000 in
theorem gX6_odds_X5_minutes : GoodIn wsX6_odds (wsV RX6 193 RX5 yX5_minutes wsX5_minutes) := goodIn_app (goodIn_of _ (by decide +kernel)) ggX6_odds_X5_minutes
set_option maxRecDepth 20000 in
theorem ggX6_odds_X5_calmTenths : GoodIn wsX6_odds wsX5_calmTenths := goodIn_r _ [58, 59, 53, 48, 54, 60, 61, 62, 12, 63, 39, 40, 41, 42, 43, 97, 98, 99, 100, 101, 102] (by decide +kernel) (by decide +kernel)
set_option maxRecDepth 20000 in
theorem gX6_odds_X5_calmTenths : GoodIn wsX6_odds (wsV RX6 197 RX5 yX5_calmTenths wsX5_calmTenths) := goodIn_app (goodIn_of _ (by decide +kernel)) ggX6_odds_X5_calmTenths
set_option maxRecDepth 20000 in
theorem ggX6_odds_X5_calmerTrust : GoodIn wsX6_odds wsX5_calmerTrust := goodIn_r _ [67, 59, 53, 48, 54, 68, 69, 70, 12, 71, 72, 38, 10, 11, 13, 14, 97, 98, 99, 100, 101, 102] (by decide +kernel) (by decide +kernel)
set_option maxRecDepth 20000 in
theorem gX6_odds_X5_calmerTrust : GoodIn wsX6_odds (wsV RX6 200 RX5 yX5_calmerTrust wsX5_calmerTrust) := goodIn_app (goodIn_of _ (by decide +kernel)) ggX6_odds_X5_calmerTrust
set_option maxRecDepth 20000 in
theorem ggX6_odds_X5_calmerLiking : GoodIn wsX6_odds wsX5_calmerLiking := goodIn_r _ [76, 59, 53, 48, 54] (by decide +kernel) (by decide +kernel)
set_option maxRecDepth 20000 in
theorem gX6_odds_X5_calmerLiking : GoodIn wsX6_odds (wsV RX6 203 RX5 yX5_calmerLiking wsX5_calmerLiking) := goodIn_app (goodIn_of _ (by decide +kernel)) ggX6_odds_X5_calmerLiking
set_option maxRecDepth 20000 in
theorem ggX6_odds_X6_greatestDivisor : GoodIn wsX6_odds wsX6_greatestDivisor := goodIn_r _ [79] (by decide +kernel) (by decide +kernel)
set_option maxRecDepth 20000 in
theorem gX6_odds_X6_greatestDivisor : GoodIn wsX6_odds (va_wsS RX6 206 yX6_greatestDivisor wsX6_greatestDivisor) := goodIn_app (goodIn_of _ (by decide +kernel)) ggX6_odds_X6_greatestDivisor
set_option maxRecDepth 20000 in
theorem ggX6_odds_X6_quotient : GoodIn wsX6_odds wsX6_quotient := goodIn_r _ [82] (by decide +kernel) (by decide +kernel)
set_option maxRecDepth 20000 in
theorem gX6_odds_X6_quotient : GoodIn wsX6_odds (va_wsS RX6 209 yX6_quotient wsX6_quotient) := goodIn_app (goodIn_of _ (by decide +kernel)) ggX6_odds_X6_quotient
theorem dX6_odds_0 : decode cX6_odds 0 = .ok (.aload_n 0, 1) := by decide +kernel
theorem dX6_odds_1 : decode cX6_odds 1 = .ok (.iload_n 1, 1) := by decide +kernel
theorem dX6_odds_2 : decode cX6_odds 2 = .ok (.iload_n 2, 1) := by decide +kernel
theorem dX6_odds_3 : decode cX6_odds 3 = .ok (.iload_n 3, 1) := by decide +kernel
theorem dX6_odds_4 : decode cX6_odds 4 = .ok (.invokevirtual 128, 3) := by decide +kernel
theorem dX6_odds_7 : decode cX6_odds 7 = .ok (.ifCond .eq 14, 3) := by decide +kernel
theorem dX6_odds_10 : decode cX6_odds 10 = .ok (.iload 4, 2) := by decide +kernel
theorem dX6_odds_12 : decode cX6_odds 12 = .ok (.ifCond .lt 9, 3) := by decide +kernel
theorem dX6_odds_15 : decode cX6_odds 15 = .ok (.iload 4, 2) := by decide +kernel
theorem dX6_odds_17 : decode cX6_odds 17 = .ok (.iconst 5, 1) := by decide +kernel
theorem dX6_odds_18 : decode cX6_odds 18 = .ok (.if_icmp .le 5, 3) := by decide +kernel
theorem dX6_odds_21 : decode cX6_odds 21 = .ok (.iconst (-1), 1) := by decide +kernel
theorem dX6_odds_22 : decode cX6_odds 22 = .ok (.ireturn, 1) := by decide +kernel
theorem dX6_odds_23 : decode cX6_odds 23 = .ok (.iload 5, 2) := by decide +kernel
theorem dX6_odds_25 : decode cX6_odds 25 = .ok (.ifCond .lt 34, 3) := by decide +kernel
theorem dX6_odds_28 : decode cX6_odds 28 = .ok (.iload 5, 2) := by decide +kernel
theorem dX6_odds_30 : decode cX6_odds 30 = .ok (.bipush 10, 2) := by decide +kernel
theorem dX6_odds_32 : decode cX6_odds 32 = .ok (.if_icmp .gt 27, 3) := by decide +kernel
theorem dX6_odds_35 : decode cX6_odds 35 = .ok (.iload 6, 2) := by decide +kernel
theorem dX6_odds_37 : decode cX6_odds 37 = .ok (.iconst 1, 1) := by decide +kernel
theorem dX6_odds_38 : decode cX6_odds 38 = .ok (.if_icmp .lt 21, 3) := by decide +kernel
theorem dX6_odds_41 : decode cX6_odds 41 = .ok (.iload 6, 2) := by decide +kernel
theorem dX6_odds_43 : decode cX6_odds 43 = .ok (.bipush 20, 2) := by decide +kernel
theorem dX6_odds_45 : decode cX6_odds 45 = .ok (.if_icmp .gt 14, 3) := by decide +kernel
theorem dX6_odds_48 : decode cX6_odds 48 = .ok (.iload 7, 2) := by decide +kernel
theorem dX6_odds_50 : decode cX6_odds 50 = .ok (.ifCond .lt 9, 3) := by decide +kernel
theorem dX6_odds_53 : decode cX6_odds 53 = .ok (.iload 7, 2) := by decide +kernel
theorem dX6_odds_55 : decode cX6_odds 55 = .ok (.iconst 1, 1) := by decide +kernel
theorem dX6_odds_56 : decode cX6_odds 56 = .ok (.if_icmp .le 5, 3) := by decide +kernel
theorem dX6_odds_59 : decode cX6_odds 59 = .ok (.iconst (-1), 1) := by decide +kernel
theorem dX6_odds_60 : decode cX6_odds 60 = .ok (.ireturn, 1) := by decide +kernel
theorem dX6_odds_61 : decode cX6_odds 61 = .ok (.aload_n 0, 1) := by decide +kernel
theorem dX6_odds_62 : decode cX6_odds 62 = .ok (.getfield 19, 3) := by decide +kernel
theorem dX6_odds_65 : decode cX6_odds 65 = .ok (.getfield 113, 3) := by decide +kernel
theorem dX6_odds_68 : decode cX6_odds 68 = .ok (.istore 8, 2) := by decide +kernel
theorem dX6_odds_70 : decode cX6_odds 70 = .ok (.aload_n 0, 1) := by decide +kernel
theorem dX6_odds_71 : decode cX6_odds 71 = .ok (.getfield 19, 3) := by decide +kernel
theorem dX6_odds_74 : decode cX6_odds 74 = .ok (.iload_n 3, 1) := by decide +kernel
theorem dX6_odds_75 : decode cX6_odds 75 = .ok (.invokevirtual 100, 3) := by decide +kernel
theorem dX6_odds_78 : decode cX6_odds 78 = .ok (.istore 9, 2) := by decide +kernel
theorem dX6_odds_80 : decode cX6_odds 80 = .ok (.iconst 1, 1) := by decide +kernel
theorem dX6_odds_81 : decode cX6_odds 81 = .ok (.istore 10, 2) := by decide +kernel
theorem dX6_odds_83 : decode cX6_odds 83 = .ok (.iconst 1, 1) := by decide +kernel
theorem dX6_odds_84 : decode cX6_odds 84 = .ok (.istore 11, 2) := by decide +kernel
theorem dX6_odds_86 : decode cX6_odds 86 = .ok (.iconst 0, 1) := by decide +kernel
theorem dX6_odds_87 : decode cX6_odds 87 = .ok (.istore 12, 2) := by decide +kernel
theorem dX6_odds_89 : decode cX6_odds 89 = .ok (.iload 12, 2) := by decide +kernel
theorem dX6_odds_91 : decode cX6_odds 91 = .ok (.iload 4, 2) := by decide +kernel
theorem dX6_odds_93 : decode cX6_odds 93 = .ok (.if_icmp .ge 68, 3) := by decide +kernel
theorem dX6_odds_96 : decode cX6_odds 96 = .ok (.iload 10, 2) := by decide +kernel
theorem dX6_odds_98 : decode cX6_odds 98 = .ok (.aload_n 0, 1) := by decide +kernel
theorem dX6_odds_99 : decode cX6_odds 99 = .ok (.getfield 53, 3) := by decide +kernel
theorem dX6_odds_102 : decode cX6_odds 102 = .ok (.aload_n 0, 1) := by decide +kernel
theorem dX6_odds_103 : decode cX6_odds 103 = .ok (.getfield 53, 3) := by decide +kernel
theorem dX6_odds_106 : decode cX6_odds 106 = .ok (.iload_n 1, 1) := by decide +kernel
theorem dX6_odds_107 : decode cX6_odds 107 = .ok (.iload 8, 2) := by decide +kernel
theorem dX6_odds_109 : decode cX6_odds 109 = .ok (.iload_n 2, 1) := by decide +kernel
theorem dX6_odds_110 : decode cX6_odds 110 = .ok (.iload 9, 2) := by decide +kernel
theorem dX6_odds_112 : decode cX6_odds 112 = .ok (.invokevirtual 193, 3) := by decide +kernel
theorem dX6_odds_115 : decode cX6_odds 115 = .ok (.iload 5, 2) := by decide +kernel
theorem dX6_odds_117 : decode cX6_odds 117 = .ok (.iload 6, 2) := by decide +kernel
theorem dX6_odds_119 : decode cX6_odds 119 = .ok (.invokevirtual 197, 3) := by decide +kernel
theorem dX6_odds_122 : decode cX6_odds 122 = .ok (.imul, 1) := by decide +kernel
theorem dX6_odds_123 : decode cX6_odds 123 = .ok (.istore 10, 2) := by decide +kernel
theorem dX6_odds_125 : decode cX6_odds 125 = .ok (.iload 11, 2) := by decide +kernel
theorem dX6_odds_127 : decode cX6_odds 127 = .ok (.bipush 10, 2) := by decide +kernel
theorem dX6_odds_129 : decode cX6_odds 129 = .ok (.imul, 1) := by decide +kernel
theorem dX6_odds_130 : decode cX6_odds 130 = .ok (.istore 11, 2) := by decide +kernel
theorem dX6_odds_132 : decode cX6_odds 132 = .ok (.aload_n 0, 1) := by decide +kernel
theorem dX6_odds_133 : decode cX6_odds 133 = .ok (.getfield 53, 3) := by decide +kernel
theorem dX6_odds_136 : decode cX6_odds 136 = .ok (.iload_n 1, 1) := by decide +kernel
theorem dX6_odds_137 : decode cX6_odds 137 = .ok (.iload 8, 2) := by decide +kernel
theorem dX6_odds_139 : decode cX6_odds 139 = .ok (.invokevirtual 200, 3) := by decide +kernel
theorem dX6_odds_142 : decode cX6_odds 142 = .ok (.istore 8, 2) := by decide +kernel
theorem dX6_odds_144 : decode cX6_odds 144 = .ok (.aload_n 0, 1) := by decide +kernel
theorem dX6_odds_145 : decode cX6_odds 145 = .ok (.getfield 53, 3) := by decide +kernel
theorem dX6_odds_148 : decode cX6_odds 148 = .ok (.iload 9, 2) := by decide +kernel
theorem dX6_odds_150 : decode cX6_odds 150 = .ok (.invokevirtual 203, 3) := by decide +kernel
theorem dX6_odds_153 : decode cX6_odds 153 = .ok (.istore 9, 2) := by decide +kernel
theorem dX6_odds_155 : decode cX6_odds 155 = .ok (.iinc 12 1, 3) := by decide +kernel
theorem dX6_odds_158 : decode cX6_odds 158 = .ok (.goto (-69), 3) := by decide +kernel
theorem dX6_odds_161 : decode cX6_odds 161 = .ok (.iload 7, 2) := by decide +kernel
theorem dX6_odds_163 : decode cX6_odds 163 = .ok (.ifCond .ne 8, 3) := by decide +kernel
theorem dX6_odds_166 : decode cX6_odds 166 = .ok (.iload 10, 2) := by decide +kernel
theorem dX6_odds_168 : decode cX6_odds 168 = .ok (.goto 5, 3) := by decide +kernel
theorem dX6_odds_171 : decode cX6_odds 171 = .ok (.iload 11, 2) := by decide +kernel
theorem dX6_odds_173 : decode cX6_odds 173 = .ok (.iload 10, 2) := by decide +kernel
theorem dX6_odds_175 : decode cX6_odds 175 = .ok (.iload 11, 2) := by decide +kernel
theorem dX6_odds_177 : decode cX6_odds 177 = .ok (.invokestatic 206, 3) := by decide +kernel
theorem dX6_odds_180 : decode cX6_odds 180 = .ok (.invokestatic 209, 3) := by decide +kernel
theorem dX6_odds_183 : decode cX6_odds 183 = .ok (.ireturn, 1) := by decide +kernel
set_option maxRecDepth 20000 in
theorem ggX6_shows_X5_hasGoodbye : GoodIn wsX6_shows wsX5_hasGoodbye := goodIn_r _ [7, 8, 44, 45, 46, 47, 48, 49] (by decide +kernel) (by decide +kernel)
set_option maxRecDepth 20000 in
theorem gX6_shows_X5_hasGoodbye : GoodIn wsX6_shows (wsV RX6 87 RX5 yX5_hasGoodbye wsX5_hasGoodbye) := goodIn_app (goodIn_of _ (by decide +kernel)) ggX6_shows_X5_hasGoodbye
set_option maxRecDepth 20000 in
theorem ggX6_shows_X6_isLength : GoodIn wsX6_shows wsX6_isLength := goodIn_r _ [12] (by decide +kernel) (by decide +kernel)
set_option maxRecDepth 20000 in
theorem gX6_shows_X6_isLength : GoodIn wsX6_shows (va_wsS RX6 212 yX6_isLength wsX6_isLength) := goodIn_app (goodIn_of _ (by decide +kernel)) ggX6_shows_X6_isLength
set_option maxRecDepth 20000 in
theorem ggX6_shows_X5_tearsOf : GoodIn wsX6_shows wsX5_tearsOf := goodIn_r _ [16, 17, 18, 4, 5, 6, 7, 8, 44, 45, 46, 47, 48, 49] (by decide +kernel) (by decide +kernel)
set_option maxRecDepth 20000 in
theorem gX6_shows_X5_tearsOf : GoodIn wsX6_shows (wsV RX6 91 RX5 yX5_tearsOf wsX5_tearsOf) := goodIn_app (goodIn_of _ (by decide +kernel)) ggX6_shows_X5_tearsOf
set_option maxRecDepth 20000 in
theorem ggX6_shows_X6_beyondTrust : GoodIn wsX6_shows wsX6_beyondTrust := goodIn_r _ [21, 22, 23, 24, 25] (by decide +kernel) (by decide +kernel)
set_option maxRecDepth 20000 in
theorem gX6_shows_X6_beyondTrust : GoodIn wsX6_shows (va_wsS RX6 215 yX6_beyondTrust wsX6_beyondTrust) := goodIn_app (goodIn_of _ (by decide +kernel)) ggX6_shows_X6_beyondTrust
set_option maxRecDepth 20000 in
theorem ggX6_shows_X3_add : GoodIn wsX6_shows wsX3_add := goodIn_r _ [30, 31, 32, 33, 34, 50, 51, 52, 53] (by decide +kernel) (by decide +kernel)
set_option maxRecDepth 20000 in
theorem gX6_shows_X3_add : GoodIn wsX6_shows (wsV RX6 218 RX3 yX3_add wsX3_add) := goodIn_app (goodIn_of _ (by decide +kernel)) ggX6_shows_X3_add
theorem dX6_shows_0 : decode cX6_shows 0 = .ok (.aload_n 0, 1) := by decide +kernel
theorem dX6_shows_1 : decode cX6_shows 1 = .ok (.getfield 53, 3) := by decide +kernel
theorem dX6_shows_4 : decode cX6_shows 4 = .ok (.iload_n 1, 1) := by decide +kernel
theorem dX6_shows_5 : decode cX6_shows 5 = .ok (.invokevirtual 87, 3) := by decide +kernel
theorem dX6_shows_8 : decode cX6_shows 8 = .ok (.ifCond .eq 20, 3) := by decide +kernel
theorem dX6_shows_11 : decode cX6_shows 11 = .ok (.iload_n 2, 1) := by decide +kernel
theorem dX6_shows_12 : decode cX6_shows 12 = .ok (.ifCond .lt 16, 3) := by decide +kernel
theorem dX6_shows_15 : decode cX6_shows 15 = .ok (.iload_n 2, 1) := by decide +kernel
theorem dX6_shows_16 : decode cX6_shows 16 = .ok (.bipush 24, 2) := by decide +kernel
theorem dX6_shows_18 : decode cX6_shows 18 = .ok (.if_icmp .gt 10, 3) := by decide +kernel
theorem dX6_shows_21 : decode cX6_shows 21 = .ok (.iload_n 3, 1) := by decide +kernel
theorem dX6_shows_22 : decode cX6_shows 22 = .ok (.invokestatic 212, 3) := by decide +kernel
theorem dX6_shows_25 : decode cX6_shows 25 = .ok (.ifCond .ne 5, 3) := by decide +kernel
theorem dX6_shows_28 : decode cX6_shows 28 = .ok (.iconst (-1), 1) := by decide +kernel
theorem dX6_shows_29 : decode cX6_shows 29 = .ok (.ireturn, 1) := by decide +kernel
theorem dX6_shows_30 : decode cX6_shows 30 = .ok (.iload 4, 2) := by decide +kernel
theorem dX6_shows_32 : decode cX6_shows 32 = .ok (.ifCond .lt 22, 3) := by decide +kernel
theorem dX6_shows_35 : decode cX6_shows 35 = .ok (.iload 4, 2) := by decide +kernel
theorem dX6_shows_37 : decode cX6_shows 37 = .ok (.bipush 9, 2) := by decide +kernel
theorem dX6_shows_39 : decode cX6_shows 39 = .ok (.if_icmp .gt 15, 3) := by decide +kernel
theorem dX6_shows_42 : decode cX6_shows 42 = .ok (.iload 5, 2) := by decide +kernel
theorem dX6_shows_44 : decode cX6_shows 44 = .ok (.ifCond .lt 10, 3) := by decide +kernel
theorem dX6_shows_47 : decode cX6_shows 47 = .ok (.iload 5, 2) := by decide +kernel
theorem dX6_shows_49 : decode cX6_shows 49 = .ok (.bipush 60, 2) := by decide +kernel
theorem dX6_shows_51 : decode cX6_shows 51 = .ok (.if_icmp .le 5, 3) := by decide +kernel
theorem dX6_shows_54 : decode cX6_shows 54 = .ok (.iconst (-1), 1) := by decide +kernel
theorem dX6_shows_55 : decode cX6_shows 55 = .ok (.ireturn, 1) := by decide +kernel
theorem dX6_shows_56 : decode cX6_shows 56 = .ok (.aload_n 0, 1) := by decide +kernel
theorem dX6_shows_57 : decode cX6_shows 57 = .ok (.getfield 33, 3) := by decide +kernel
theorem dX6_shows_60 : decode cX6_shows 60 = .ok (.aload_n 0, 1) := by decide +kernel
theorem dX6_shows_61 : decode cX6_shows 61 = .ok (.getfield 53, 3) := by decide +kernel
theorem dX6_shows_64 : decode cX6_shows 64 = .ok (.iload_n 1, 1) := by decide +kernel
theorem dX6_shows_65 : decode cX6_shows 65 = .ok (.invokevirtual 91, 3) := by decide +kernel
theorem dX6_shows_68 : decode cX6_shows 68 = .ok (.iload 4, 2) := by decide +kernel
theorem dX6_shows_70 : decode cX6_shows 70 = .ok (.isub, 1) := by decide +kernel
theorem dX6_shows_71 : decode cX6_shows 71 = .ok (.iload_n 3, 1) := by decide +kernel
theorem dX6_shows_72 : decode cX6_shows 72 = .ok (.iload_n 2, 1) := by decide +kernel
theorem dX6_shows_73 : decode cX6_shows 73 = .ok (.invokestatic 215, 3) := by decide +kernel
theorem dX6_shows_76 : decode cX6_shows 76 = .ok (.iload 5, 2) := by decide +kernel
theorem dX6_shows_78 : decode cX6_shows 78 = .ok (.invokevirtual 218, 3) := by decide +kernel
theorem dX6_shows_81 : decode cX6_shows 81 = .ok (.ireturn, 1) := by decide +kernel
set_option maxRecDepth 20000 in
theorem ggX6_forget_X3_empty : GoodIn wsX6_forget wsX3_empty := goodIn_r _ [6, 7, 17, 18, 19, 20] (by decide +kernel) (by decide +kernel)
set_option maxRecDepth 20000 in
theorem gX6_forget_X3_empty : GoodIn wsX6_forget (wsV RX6 82 RX3 yX3_empty wsX3_empty) := goodIn_app (goodIn_of _ (by decide +kernel)) ggX6_forget_X3_empty
theorem dX6_forget_0 : decode cX6_forget 0 = .ok (.aload_n 0, 1) := by decide +kernel
theorem dX6_forget_1 : decode cX6_forget 1 = .ok (.getfield 33, 3) := by decide +kernel
theorem dX6_forget_4 : decode cX6_forget 4 = .ok (.invokevirtual 82, 3) := by decide +kernel
theorem dX6_forget_7 : decode cX6_forget 7 = .ok (.ireturn, 1) := by decide +kernel
set_option maxRecDepth 20000 in
theorem ggX6_fits_X3_isSoBy : GoodIn wsX6_fits wsX3_isSoBy := goodIn_r _ [6, 7, 8, 9, 10, 11, 12, 13, 14, 15, 16, 17, 18, 19, 20, 30, 31, 32, 33] (by decide +kernel) (by decide +kernel)
set_option maxRecDepth 20000 in
theorem gX6_fits_X3_isSoBy : GoodIn wsX6_fits (wsV RX6 220 RX3 yX3_isSoBy wsX3_isSoBy) := goodIn_app (goodIn_of _ (by decide +kernel)) ggX6_fits_X3_isSoBy
theorem dX6_fits_0 : decode cX6_fits 0 = .ok (.iconst 0, 1) := by decide +kernel
theorem dX6_fits_1 : decode cX6_fits 1 = .ok (.istore_n 1, 1) := by decide +kernel
theorem dX6_fits_2 : decode cX6_fits 2 = .ok (.iconst 1, 1) := by decide +kernel
theorem dX6_fits_3 : decode cX6_fits 3 = .ok (.istore_n 2, 1) := by decide +kernel
theorem dX6_fits_4 : decode cX6_fits 4 = .ok (.iload_n 2, 1) := by decide +kernel
theorem dX6_fits_5 : decode cX6_fits 5 = .ok (.bipush 9, 2) := by decide +kernel
theorem dX6_fits_7 : decode cX6_fits 7 = .ok (.if_icmp .gt 26, 3) := by decide +kernel
theorem dX6_fits_10 : decode cX6_fits 10 = .ok (.aload_n 0, 1) := by decide +kernel
theorem dX6_fits_11 : decode cX6_fits 11 = .ok (.getfield 33, 3) := by decide +kernel
theorem dX6_fits_14 : decode cX6_fits 14 = .ok (.iload_n 2, 1) := by decide +kernel
theorem dX6_fits_15 : decode cX6_fits 15 = .ok (.invokevirtual 220, 3) := by decide +kernel
theorem dX6_fits_18 : decode cX6_fits 18 = .ok (.ifCond .eq 9, 3) := by decide +kernel
theorem dX6_fits_21 : decode cX6_fits 21 = .ok (.iload_n 1, 1) := by decide +kernel
theorem dX6_fits_22 : decode cX6_fits 22 = .ok (.iconst 1, 1) := by decide +kernel
theorem dX6_fits_23 : decode cX6_fits 23 = .ok (.iload_n 2, 1) := by decide +kernel
theorem dX6_fits_24 : decode cX6_fits 24 = .ok (.ishl, 1) := by decide +kernel
theorem dX6_fits_25 : decode cX6_fits 25 = .ok (.ior, 1) := by decide +kernel
theorem dX6_fits_26 : decode cX6_fits 26 = .ok (.istore_n 1, 1) := by decide +kernel
theorem dX6_fits_27 : decode cX6_fits 27 = .ok (.iinc 2 1, 3) := by decide +kernel
theorem dX6_fits_30 : decode cX6_fits 30 = .ok (.goto (-26), 3) := by decide +kernel
theorem dX6_fits_33 : decode cX6_fits 33 = .ok (.iload_n 1, 1) := by decide +kernel
theorem dX6_fits_34 : decode cX6_fits 34 = .ok (.ireturn, 1) := by decide +kernel
set_option maxRecDepth 20000 in
theorem ggX6_rate_X5_hasGoodbye : GoodIn wsX6_rate wsX5_hasGoodbye := goodIn_r _ [7, 8, 63, 64, 65, 66, 67, 68] (by decide +kernel) (by decide +kernel)
set_option maxRecDepth 20000 in
theorem gX6_rate_X5_hasGoodbye : GoodIn wsX6_rate (wsV RX6 87 RX5 yX5_hasGoodbye wsX5_hasGoodbye) := goodIn_app (goodIn_of _ (by decide +kernel)) ggX6_rate_X5_hasGoodbye
set_option maxRecDepth 20000 in
theorem ggX6_rate_X6_rateOfGoodbye : GoodIn wsX6_rate wsX6_rateOfGoodbye := goodIn_r _ [13, 14, 1, 15, 16, 17, 6, 18, 19, 20, 4, 5, 7, 8, 54, 55, 56, 57, 58, 59, 60, 61, 62, 63, 64, 65, 66, 67, 68] (by decide +kernel) (by decide +kernel)
set_option maxRecDepth 20000 in
theorem gX6_rate_X6_rateOfGoodbye : GoodIn wsX6_rate (wsV RX6 223 RX6 yX6_rateOfGoodbye wsX6_rateOfGoodbye) := goodIn_app (goodIn_of _ (by decide +kernel)) ggX6_rate_X6_rateOfGoodbye
set_option maxRecDepth 20000 in
theorem ggX6_rate_X6_rateOfSlow : GoodIn wsX6_rate wsX6_rateOfSlow := goodIn_r _ [24, 14, 25, 1, 9, 10, 11, 12, 13, 15, 16, 17, 6, 18, 19, 20, 4, 5, 7, 8, 26, 27, 28, 29, 30, 54, 55, 56, 57, 58, 59, 60, 61, 62, 63, 64, 65, 66, 67, 68] (by decide +kernel) (by decide +kernel)
set_option maxRecDepth 20000 in
theorem gX6_rate_X6_rateOfSlow : GoodIn wsX6_rate (wsV RX6 226 RX6 yX6_rateOfSlow wsX6_rateOfSlow) := goodIn_app (goodIn_of _ (by decide +kernel)) ggX6_rate_X6_rateOfSlow
set_option maxRecDepth 20000 in
theorem ggX6_rate_X6_rateOfQuick : GoodIn wsX6_rate wsX6_rateOfQuick := goodIn_r _ [34, 14, 35, 36, 37, 9, 10, 11, 12, 13, 1, 15, 16, 17, 6, 18, 19, 20, 4, 5, 7, 8, 54, 55, 56, 57, 58, 59, 60, 61, 62, 69, 70, 71, 72, 73, 63, 64, 65, 66, 67, 68] (by decide +kernel) (by decide +kernel)
set_option maxRecDepth 20000 in
theorem gX6_rate_X6_rateOfQuick : GoodIn wsX6_rate (wsV RX6 229 RX6 yX6_rateOfQuick wsX6_rateOfQuick) := goodIn_app (goodIn_of _ (by decide +kernel)) ggX6_rate_X6_rateOfQuick
set_option maxRecDepth 20000 in
theorem ggX6_rate_X6_rateOfWave : GoodIn wsX6_rate wsX6_rateOfWave := goodIn_r _ [41, 14, 42, 21, 22, 23, 12, 24, 25, 1, 9, 10, 11, 13, 15, 16, 17, 6, 18, 19, 20, 4, 5, 7, 8, 26, 27, 28, 29, 30, 54, 55, 56, 57, 58, 59, 60, 61, 62, 63, 64, 65, 66, 67, 68] (by decide +kernel) (by decide +kernel)
set_option maxRecDepth 20000 in
theorem gX6_rate_X6_rateOfWave : GoodIn wsX6_rate (wsV RX6 232 RX6 yX6_rateOfWave wsX6_rateOfWave) := goodIn_app (goodIn_of _ (by decide +kernel)) ggX6_rate_X6_rateOfWave
set_option maxRecDepth 20000 in
theorem ggX6_rate_X6_rateOfUnseen : GoodIn wsX6_rate wsX6_rateOfUnseen := goodIn_r _ [46, 14, 47, 31, 32, 33, 12, 34, 35, 36, 37, 9, 10, 11, 13, 1, 15, 16, 17, 6, 18, 19, 20, 4, 5, 7, 8, 54, 55, 56, 57, 58, 59, 60, 61, 62, 69, 70, 71, 72, 73, 63, 64, 65, 66, 67, 68] (by decide +kernel) (by decide +kernel)
set_option maxRecDepth 20000 in
theorem gX6_rate_X6_rateOfUnseen : GoodIn wsX6_rate (wsV RX6 235 RX6 yX6_rateOfUnseen wsX6_rateOfUnseen) := goodIn_app (goodIn_of _ (by decide +kernel)) ggX6_rate_X6_rateOfUnseen
set_option maxRecDepth 20000 in
theorem ggX6_rate_X6_rateOfKiss : GoodIn wsX6_rate wsX6_rateOfKiss := goodIn_r _ [51, 14, 52, 36, 53, 9, 10, 11, 12, 13, 1, 15, 16, 17, 6, 18, 19, 20, 4, 5, 7, 8, 54, 55, 56, 57, 58, 59, 60, 61, 62, 69, 70, 71, 72, 73, 63, 64, 65, 66, 67, 68] (by decide +kernel) (by decide +kernel)
set_option maxRecDepth 20000 in
theorem gX6_rate_X6_rateOfKiss : GoodIn wsX6_rate (wsV RX6 238 RX6 yX6_rateOfKiss wsX6_rateOfKiss) := goodIn_app (goodIn_of _ (by decide +kernel)) ggX6_rate_X6_rateOfKiss
theorem dX6_rate_0 : decode cX6_rate 0 = .ok (.aload_n 0, 1) := by decide +kernel
theorem dX6_rate_1 : decode cX6_rate 1 = .ok (.getfield 53, 3) := by decide +kernel
theorem dX6_rate_4 : decode cX6_rate 4 = .ok (.iload_n 2, 1) := by decide +kernel
theorem dX6_rate_5 : decode cX6_rate 5 = .ok (.invokevirtual 87, 3) := by decide +kernel
theorem dX6_rate_8 : decode cX6_rate 8 = .ok (.ifCond .ne 6, 3) := by decide +kernel
theorem dX6_rate_11 : decode cX6_rate 11 = .ok (.ldc 192, 2) := by decide +kernel
theorem dX6_rate_13 : decode cX6_rate 13 = .ok (.ireturn, 1) := by decide +kernel
theorem dX6_rate_14 : decode cX6_rate 14 = .ok (.iload_n 1, 1) := by decide +kernel
theorem dX6_rate_15 : decode cX6_rate 15 = .ok (.tableswitch 73 0 5 #[37, 43, 49, 55, 61, 67], 37) := by decide +kernel
theorem dX6_rate_52 : decode cX6_rate 52 = .ok (.aload_n 0, 1) := by decide +kernel
theorem dX6_rate_53 : decode cX6_rate 53 = .ok (.iload_n 2, 1) := by decide +kernel
theorem dX6_rate_54 : decode cX6_rate 54 = .ok (.invokevirtual 223, 3) := by decide +kernel
theorem dX6_rate_57 : decode cX6_rate 57 = .ok (.ireturn, 1) := by decide +kernel
theorem dX6_rate_58 : decode cX6_rate 58 = .ok (.aload_n 0, 1) := by decide +kernel
theorem dX6_rate_59 : decode cX6_rate 59 = .ok (.iload_n 2, 1) := by decide +kernel
theorem dX6_rate_60 : decode cX6_rate 60 = .ok (.invokevirtual 226, 3) := by decide +kernel
theorem dX6_rate_63 : decode cX6_rate 63 = .ok (.ireturn, 1) := by decide +kernel
theorem dX6_rate_64 : decode cX6_rate 64 = .ok (.aload_n 0, 1) := by decide +kernel
theorem dX6_rate_65 : decode cX6_rate 65 = .ok (.iload_n 2, 1) := by decide +kernel
theorem dX6_rate_66 : decode cX6_rate 66 = .ok (.invokevirtual 229, 3) := by decide +kernel
theorem dX6_rate_69 : decode cX6_rate 69 = .ok (.ireturn, 1) := by decide +kernel
theorem dX6_rate_70 : decode cX6_rate 70 = .ok (.aload_n 0, 1) := by decide +kernel
theorem dX6_rate_71 : decode cX6_rate 71 = .ok (.iload_n 2, 1) := by decide +kernel
theorem dX6_rate_72 : decode cX6_rate 72 = .ok (.invokevirtual 232, 3) := by decide +kernel
theorem dX6_rate_75 : decode cX6_rate 75 = .ok (.ireturn, 1) := by decide +kernel
theorem dX6_rate_76 : decode cX6_rate 76 = .ok (.aload_n 0, 1) := by decide +kernel
theorem dX6_rate_77 : decode cX6_rate 77 = .ok (.iload_n 2, 1) := by decide +kernel
theorem dX6_rate_78 : decode cX6_rate 78 = .ok (.invokevirtual 235, 3) := by decide +kernel
theorem dX6_rate_81 : decode cX6_rate 81 = .ok (.ireturn, 1) := by decide +kernel
theorem dX6_rate_82 : decode cX6_rate 82 = .ok (.aload_n 0, 1) := by decide +kernel
theorem dX6_rate_83 : decode cX6_rate 83 = .ok (.iload_n 2, 1) := by decide +kernel
theorem dX6_rate_84 : decode cX6_rate 84 = .ok (.invokevirtual 238, 3) := by decide +kernel
theorem dX6_rate_87 : decode cX6_rate 87 = .ok (.ireturn, 1) := by decide +kernel
theorem dX6_rate_88 : decode cX6_rate 88 = .ok (.ldc 192, 2) := by decide +kernel
theorem dX6_rate_90 : decode cX6_rate 90 = .ok (.ireturn, 1) := by decide +kernel
set_option maxRecDepth 20000 in
theorem ggX6_keep_X0_folded : GoodIn wsX6_keep wsX0_folded := goodIn_r _ [8, 9, 10, 11, 12, 13, 23, 24, 25, 26, 27] (by decide +kernel) (by decide +kernel)
set_option maxRecDepth 20000 in
theorem gX6_keep_X0_folded : GoodIn wsX6_keep (wsV RX6 132 RX0 yX0_folded wsX0_folded) := goodIn_app (goodIn_of _ (by decide +kernel)) ggX6_keep_X0_folded
theorem dX6_keep_0 : decode cX6_keep 0 = .ok (.iload_n 1, 1) := by decide +kernel
theorem dX6_keep_1 : decode cX6_keep 1 = .ok (.ifCond .lt 8, 3) := by decide +kernel
theorem dX6_keep_4 : decode cX6_keep 4 = .ok (.iload_n 1, 1) := by decide +kernel
theorem dX6_keep_5 : decode cX6_keep 5 = .ok (.iconst 2, 1) := by decide +kernel
theorem dX6_keep_6 : decode cX6_keep 6 = .ok (.if_icmp .lt 5, 3) := by decide +kernel
theorem dX6_keep_9 : decode cX6_keep 9 = .ok (.iconst (-1), 1) := by decide +kernel
theorem dX6_keep_10 : decode cX6_keep 10 = .ok (.ireturn, 1) := by decide +kernel
theorem dX6_keep_11 : decode cX6_keep 11 = .ok (.aload_n 0, 1) := by decide +kernel
theorem dX6_keep_12 : decode cX6_keep 12 = .ok (.getfield 46, 3) := by decide +kernel
theorem dX6_keep_15 : decode cX6_keep 15 = .ok (.iload_n 1, 1) := by decide +kernel
theorem dX6_keep_16 : decode cX6_keep 16 = .ok (.aload_n 0, 1) := by decide +kernel
theorem dX6_keep_17 : decode cX6_keep 17 = .ok (.getfield 19, 3) := by decide +kernel
theorem dX6_keep_20 : decode cX6_keep 20 = .ok (.invokevirtual 132, 3) := by decide +kernel
theorem dX6_keep_23 : decode cX6_keep 23 = .ok (.lastore, 1) := by decide +kernel
theorem dX6_keep_24 : decode cX6_keep 24 = .ok (.aload_n 0, 1) := by decide +kernel
theorem dX6_keep_25 : decode cX6_keep 25 = .ok (.getfield 19, 3) := by decide +kernel
theorem dX6_keep_28 : decode cX6_keep 28 = .ok (.getfield 109, 3) := by decide +kernel
theorem dX6_keep_31 : decode cX6_keep 31 = .ok (.ireturn, 1) := by decide +kernel
set_option maxRecDepth 20000 in
theorem ggX6_back_X0_unfold : GoodIn wsX6_back wsX0_unfold := goodIn_r _ [10, 11, 12, 13, 14, 15, 16, 17, 33, 34, 35, 36, 37] (by decide +kernel) (by decide +kernel)
set_option maxRecDepth 20000 in
theorem gX6_back_X0_unfold : GoodIn wsX6_back (wsV RX6 173 RX0 yX0_unfold wsX0_unfold) := goodIn_app (goodIn_of _ (by decide +kernel)) ggX6_back_X0_unfold
set_option maxRecDepth 20000 in
theorem ggX6_back_X2_empty : GoodIn wsX6_back wsX2_empty := goodIn_r _ [22, 23, 38, 39] (by decide +kernel) (by decide +kernel)
set_option maxRecDepth 20000 in
theorem gX6_back_X2_empty : GoodIn wsX6_back (wsV RX6 80 RX2 yX2_empty wsX2_empty) := goodIn_app (goodIn_of _ (by decide +kernel)) ggX6_back_X2_empty
theorem dX6_back_0 : decode cX6_back 0 = .ok (.iload_n 1, 1) := by decide +kernel
theorem dX6_back_1 : decode cX6_back 1 = .ok (.ifCond .lt 8, 3) := by decide +kernel
theorem dX6_back_4 : decode cX6_back 4 = .ok (.iload_n 1, 1) := by decide +kernel
theorem dX6_back_5 : decode cX6_back 5 = .ok (.iconst 2, 1) := by decide +kernel
theorem dX6_back_6 : decode cX6_back 6 = .ok (.if_icmp .lt 5, 3) := by decide +kernel
theorem dX6_back_9 : decode cX6_back 9 = .ok (.iconst (-1), 1) := by decide +kernel
theorem dX6_back_10 : decode cX6_back 10 = .ok (.ireturn, 1) := by decide +kernel
theorem dX6_back_11 : decode cX6_back 11 = .ok (.aload_n 0, 1) := by decide +kernel
theorem dX6_back_12 : decode cX6_back 12 = .ok (.getfield 46, 3) := by decide +kernel
theorem dX6_back_15 : decode cX6_back 15 = .ok (.iload_n 1, 1) := by decide +kernel
theorem dX6_back_16 : decode cX6_back 16 = .ok (.laload, 1) := by decide +kernel
theorem dX6_back_17 : decode cX6_back 17 = .ok (.ldc2_w 44, 3) := by decide +kernel
theorem dX6_back_20 : decode cX6_back 20 = .ok (.lcmp, 1) := by decide +kernel
theorem dX6_back_21 : decode cX6_back 21 = .ok (.ifCond .ne 6, 3) := by decide +kernel
theorem dX6_back_24 : decode cX6_back 24 = .ok (.bipush (-2), 2) := by decide +kernel
theorem dX6_back_26 : decode cX6_back 26 = .ok (.ireturn, 1) := by decide +kernel
theorem dX6_back_27 : decode cX6_back 27 = .ok (.aload_n 0, 1) := by decide +kernel
theorem dX6_back_28 : decode cX6_back 28 = .ok (.getfield 19, 3) := by decide +kernel
theorem dX6_back_31 : decode cX6_back 31 = .ok (.aload_n 0, 1) := by decide +kernel
theorem dX6_back_32 : decode cX6_back 32 = .ok (.getfield 46, 3) := by decide +kernel
theorem dX6_back_35 : decode cX6_back 35 = .ok (.iload_n 1, 1) := by decide +kernel
theorem dX6_back_36 : decode cX6_back 36 = .ok (.laload, 1) := by decide +kernel
theorem dX6_back_37 : decode cX6_back 37 = .ok (.invokevirtual 173, 3) := by decide +kernel
theorem dX6_back_40 : decode cX6_back 40 = .ok (.aload_n 0, 1) := by decide +kernel
theorem dX6_back_41 : decode cX6_back 41 = .ok (.getfield 26, 3) := by decide +kernel
theorem dX6_back_44 : decode cX6_back 44 = .ok (.invokevirtual 80, 3) := by decide +kernel
theorem dX6_back_47 : decode cX6_back 47 = .ok (.aload_n 0, 1) := by decide +kernel
theorem dX6_back_48 : decode cX6_back 48 = .ok (.getfield 19, 3) := by decide +kernel
theorem dX6_back_51 : decode cX6_back 51 = .ok (.getfield 109, 3) := by decide +kernel
theorem dX6_back_54 : decode cX6_back 54 = .ok (.ireturn, 1) := by decide +kernel
set_option maxRecDepth 20000 in
theorem ggX6_count_X5_setting : GoodIn wsX6_count wsX5_setting := goodIn_r _ [12, 13, 23, 24, 25, 26, 27, 28] (by decide +kernel) (by decide +kernel)
set_option maxRecDepth 20000 in
theorem gX6_count_X5_setting : GoodIn wsX6_count (wsV RX6 157 RX5 yX5_setting wsX5_setting) := goodIn_app (goodIn_of _ (by decide +kernel)) ggX6_count_X5_setting
theorem dX6_count_0 : decode cX6_count 0 = .ok (.iload_n 1, 1) := by decide +kernel
theorem dX6_count_1 : decode cX6_count 1 = .ok (.tableswitch 115 0 7 #[47, 55, 63, 72, 81, 90, 99, 107], 47) := by decide +kernel
theorem dX6_count_48 : decode cX6_count 48 = .ok (.aload_n 0, 1) := by decide +kernel
theorem dX6_count_49 : decode cX6_count 49 = .ok (.getfield 53, 3) := by decide +kernel
theorem dX6_count_52 : decode cX6_count 52 = .ok (.getfield 241, 3) := by decide +kernel
theorem dX6_count_55 : decode cX6_count 55 = .ok (.ireturn, 1) := by decide +kernel
theorem dX6_count_56 : decode cX6_count 56 = .ok (.aload_n 0, 1) := by decide +kernel
theorem dX6_count_57 : decode cX6_count 57 = .ok (.getfield 53, 3) := by decide +kernel
theorem dX6_count_60 : decode cX6_count 60 = .ok (.getfield 244, 3) := by decide +kernel
theorem dX6_count_63 : decode cX6_count 63 = .ok (.ireturn, 1) := by decide +kernel
theorem dX6_count_64 : decode cX6_count 64 = .ok (.aload_n 0, 1) := by decide +kernel
theorem dX6_count_65 : decode cX6_count 65 = .ok (.getfield 53, 3) := by decide +kernel
theorem dX6_count_68 : decode cX6_count 68 = .ok (.iconst 0, 1) := by decide +kernel
theorem dX6_count_69 : decode cX6_count 69 = .ok (.invokevirtual 157, 3) := by decide +kernel
theorem dX6_count_72 : decode cX6_count 72 = .ok (.ireturn, 1) := by decide +kernel
theorem dX6_count_73 : decode cX6_count 73 = .ok (.aload_n 0, 1) := by decide +kernel
theorem dX6_count_74 : decode cX6_count 74 = .ok (.getfield 53, 3) := by decide +kernel
theorem dX6_count_77 : decode cX6_count 77 = .ok (.iconst 1, 1) := by decide +kernel
theorem dX6_count_78 : decode cX6_count 78 = .ok (.invokevirtual 157, 3) := by decide +kernel
theorem dX6_count_81 : decode cX6_count 81 = .ok (.ireturn, 1) := by decide +kernel
theorem dX6_count_82 : decode cX6_count 82 = .ok (.aload_n 0, 1) := by decide +kernel
theorem dX6_count_83 : decode cX6_count 83 = .ok (.getfield 53, 3) := by decide +kernel
theorem dX6_count_86 : decode cX6_count 86 = .ok (.iconst 2, 1) := by decide +kernel
theorem dX6_count_87 : decode cX6_count 87 = .ok (.invokevirtual 157, 3) := by decide +kernel
theorem dX6_count_90 : decode cX6_count 90 = .ok (.ireturn, 1) := by decide +kernel
theorem dX6_count_91 : decode cX6_count 91 = .ok (.aload_n 0, 1) := by decide +kernel
theorem dX6_count_92 : decode cX6_count 92 = .ok (.getfield 53, 3) := by decide +kernel
theorem dX6_count_95 : decode cX6_count 95 = .ok (.iconst 3, 1) := by decide +kernel
theorem dX6_count_96 : decode cX6_count 96 = .ok (.invokevirtual 157, 3) := by decide +kernel
theorem dX6_count_99 : decode cX6_count 99 = .ok (.ireturn, 1) := by decide +kernel
theorem dX6_count_100 : decode cX6_count 100 = .ok (.aload_n 0, 1) := by decide +kernel
theorem dX6_count_101 : decode cX6_count 101 = .ok (.getfield 33, 3) := by decide +kernel
theorem dX6_count_104 : decode cX6_count 104 = .ok (.getfield 247, 3) := by decide +kernel
theorem dX6_count_107 : decode cX6_count 107 = .ok (.ireturn, 1) := by decide +kernel
theorem dX6_count_108 : decode cX6_count 108 = .ok (.aload_n 0, 1) := by decide +kernel
theorem dX6_count_109 : decode cX6_count 109 = .ok (.getfield 10, 3) := by decide +kernel
theorem dX6_count_112 : decode cX6_count 112 = .ok (.getfield 250, 3) := by decide +kernel
theorem dX6_count_115 : decode cX6_count 115 = .ok (.ireturn, 1) := by decide +kernel
theorem dX6_count_116 : decode cX6_count 116 = .ok (.iconst (-1), 1) := by decide +kernel
theorem dX6_count_117 : decode cX6_count 117 = .ok (.ireturn, 1) := by decide +kernel
theorem dX6_trace_0 : decode cX6_trace 0 = .ok (.aload_n 0, 1) := by decide +kernel
theorem dX6_trace_1 : decode cX6_trace 1 = .ok (.getfield 60, 3) := by decide +kernel
theorem dX6_trace_4 : decode cX6_trace 4 = .ok (.lreturn, 1) := by decide +kernel
theorem dX6_isLength_0 : decode cX6_isLength 0 = .ok (.iload_n 0, 1) := by decide +kernel
theorem dX6_isLength_1 : decode cX6_isLength 1 = .ok (.iconst 1, 1) := by decide +kernel
theorem dX6_isLength_2 : decode cX6_isLength 2 = .ok (.if_icmp .lt 13, 3) := by decide +kernel
theorem dX6_isLength_5 : decode cX6_isLength 5 = .ok (.iload_n 0, 1) := by decide +kernel
theorem dX6_isLength_6 : decode cX6_isLength 6 = .ok (.bipush 96, 2) := by decide +kernel
theorem dX6_isLength_8 : decode cX6_isLength 8 = .ok (.if_icmp .gt 7, 3) := by decide +kernel
theorem dX6_isLength_11 : decode cX6_isLength 11 = .ok (.iconst 1, 1) := by decide +kernel
theorem dX6_isLength_12 : decode cX6_isLength 12 = .ok (.goto 4, 3) := by decide +kernel
theorem dX6_isLength_15 : decode cX6_isLength 15 = .ok (.iconst 0, 1) := by decide +kernel
theorem dX6_isLength_16 : decode cX6_isLength 16 = .ok (.ireturn, 1) := by decide +kernel
set_option maxRecDepth 20000 in
theorem ggX6_isMorning_X5_hasGoodbye : GoodIn wsX6_isMorning wsX5_hasGoodbye := goodIn_r _ [6, 7, 26, 27, 28, 29, 30, 31] (by decide +kernel) (by decide +kernel)
set_option maxRecDepth 20000 in
theorem gX6_isMorning_X5_hasGoodbye : GoodIn wsX6_isMorning (wsV RX6 87 RX5 yX5_hasGoodbye wsX5_hasGoodbye) := goodIn_app (goodIn_of _ (by decide +kernel)) ggX6_isMorning_X5_hasGoodbye
set_option maxRecDepth 20000 in
theorem ggX6_isMorning_X6_isLength : GoodIn wsX6_isMorning wsX6_isLength := goodIn_r _ [11] (by decide +kernel) (by decide +kernel)
set_option maxRecDepth 20000 in
theorem gX6_isMorning_X6_isLength : GoodIn wsX6_isMorning (va_wsS RX6 212 yX6_isLength wsX6_isLength) := goodIn_app (goodIn_of _ (by decide +kernel)) ggX6_isMorning_X6_isLength
set_option maxRecDepth 20000 in
theorem ggX6_isMorning_X5_hasWoman : GoodIn wsX6_isMorning wsX5_hasWoman := goodIn_r _ [15, 16, 26, 27, 28, 29, 30, 31] (by decide +kernel) (by decide +kernel)
set_option maxRecDepth 20000 in
theorem gX6_isMorning_X5_hasWoman : GoodIn wsX6_isMorning (wsV RX6 97 RX5 yX5_hasWoman wsX5_hasWoman) := goodIn_app (goodIn_of _ (by decide +kernel)) ggX6_isMorning_X5_hasWoman
theorem dX6_isMorning_0 : decode cX6_isMorning 0 = .ok (.aload_n 0, 1) := by decide +kernel
theorem dX6_isMorning_1 : decode cX6_isMorning 1 = .ok (.getfield 53, 3) := by decide +kernel
theorem dX6_isMorning_4 : decode cX6_isMorning 4 = .ok (.iload_n 1, 1) := by decide +kernel
theorem dX6_isMorning_5 : decode cX6_isMorning 5 = .ok (.invokevirtual 87, 3) := by decide +kernel
theorem dX6_isMorning_8 : decode cX6_isMorning 8 = .ok (.ifCond .eq 25, 3) := by decide +kernel
theorem dX6_isMorning_11 : decode cX6_isMorning 11 = .ok (.iload_n 2, 1) := by decide +kernel
theorem dX6_isMorning_12 : decode cX6_isMorning 12 = .ok (.invokestatic 212, 3) := by decide +kernel
theorem dX6_isMorning_15 : decode cX6_isMorning 15 = .ok (.ifCond .eq 18, 3) := by decide +kernel
theorem dX6_isMorning_18 : decode cX6_isMorning 18 = .ok (.aload_n 0, 1) := by decide +kernel
theorem dX6_isMorning_19 : decode cX6_isMorning 19 = .ok (.getfield 53, 3) := by decide +kernel
theorem dX6_isMorning_22 : decode cX6_isMorning 22 = .ok (.iload_n 3, 1) := by decide +kernel
theorem dX6_isMorning_23 : decode cX6_isMorning 23 = .ok (.invokevirtual 97, 3) := by decide +kernel
theorem dX6_isMorning_26 : decode cX6_isMorning 26 = .ok (.ifCond .eq 7, 3) := by decide +kernel
theorem dX6_isMorning_29 : decode cX6_isMorning 29 = .ok (.iconst 1, 1) := by decide +kernel
theorem dX6_isMorning_30 : decode cX6_isMorning 30 = .ok (.goto 4, 3) := by decide +kernel
theorem dX6_isMorning_33 : decode cX6_isMorning 33 = .ok (.iconst 0, 1) := by decide +kernel
theorem dX6_isMorning_34 : decode cX6_isMorning 34 = .ok (.ireturn, 1) := by decide +kernel
set_option maxRecDepth 20000 in
theorem ggX6_minutesNow_X0_likingOf : GoodIn wsX6_minutesNow wsX0_likingOf := goodIn_r _ [8, 9, 51, 52, 53, 54, 55] (by decide +kernel) (by decide +kernel)
set_option maxRecDepth 20000 in
theorem gX6_minutesNow_X0_likingOf : GoodIn wsX6_minutesNow (wsV RX6 100 RX0 yX0_likingOf wsX0_likingOf) := goodIn_app (goodIn_of _ (by decide +kernel)) ggX6_minutesNow_X0_likingOf
set_option maxRecDepth 20000 in
theorem ggX6_minutesNow_X5_minutes : GoodIn wsX6_minutesNow wsX5_minutes := goodIn_r _ [14, 15, 16, 17, 13, 18, 19, 20, 21, 22, 23, 24, 25, 26, 27, 28, 29, 30, 31, 32, 33, 34, 35, 36, 37, 38, 39, 40, 41, 56, 57, 58, 59, 60, 61] (by decide +kernel) (by decide +kernel)
set_option maxRecDepth 20000 in
theorem gX6_minutesNow_X5_minutes : GoodIn wsX6_minutesNow (wsV RX6 193 RX5 yX5_minutes wsX5_minutes) := goodIn_app (goodIn_of _ (by decide +kernel)) ggX6_minutesNow_X5_minutes
theorem dX6_minutesNow_0 : decode cX6_minutesNow 0 = .ok (.aload_n 0, 1) := by decide +kernel
theorem dX6_minutesNow_1 : decode cX6_minutesNow 1 = .ok (.getfield 53, 3) := by decide +kernel
theorem dX6_minutesNow_4 : decode cX6_minutesNow 4 = .ok (.iload_n 1, 1) := by decide +kernel
theorem dX6_minutesNow_5 : decode cX6_minutesNow 5 = .ok (.aload_n 0, 1) := by decide +kernel
theorem dX6_minutesNow_6 : decode cX6_minutesNow 6 = .ok (.getfield 19, 3) := by decide +kernel
theorem dX6_minutesNow_9 : decode cX6_minutesNow 9 = .ok (.getfield 113, 3) := by decide +kernel
theorem dX6_minutesNow_12 : decode cX6_minutesNow 12 = .ok (.iload_n 2, 1) := by decide +kernel
theorem dX6_minutesNow_13 : decode cX6_minutesNow 13 = .ok (.aload_n 0, 1) := by decide +kernel
theorem dX6_minutesNow_14 : decode cX6_minutesNow 14 = .ok (.getfield 19, 3) := by decide +kernel
theorem dX6_minutesNow_17 : decode cX6_minutesNow 17 = .ok (.iload_n 3, 1) := by decide +kernel
theorem dX6_minutesNow_18 : decode cX6_minutesNow 18 = .ok (.invokevirtual 100, 3) := by decide +kernel
theorem dX6_minutesNow_21 : decode cX6_minutesNow 21 = .ok (.invokevirtual 193, 3) := by decide +kernel
theorem dX6_minutesNow_24 : decode cX6_minutesNow 24 = .ok (.ireturn, 1) := by decide +kernel
set_option maxRecDepth 20000 in
theorem ggX6_reachNow_X0_likingOf : GoodIn wsX6_reachNow wsX0_likingOf := goodIn_r _ [8, 9, 46, 47, 48, 49, 50] (by decide +kernel) (by decide +kernel)
set_option maxRecDepth 20000 in
theorem gX6_reachNow_X0_likingOf : GoodIn wsX6_reachNow (wsV RX6 100 RX0 yX0_likingOf wsX0_likingOf) := goodIn_app (goodIn_of _ (by decide +kernel)) ggX6_reachNow_X0_likingOf
set_option maxRecDepth 20000 in
theorem ggX6_reachNow_X5_reach : GoodIn wsX6_reachNow wsX5_reach := goodIn_r _ [14, 15, 16, 17, 18, 19, 20, 21, 13, 22, 23, 24, 25, 26, 27, 28, 29, 30, 31, 32, 33, 34, 35, 36, 51, 52, 53, 54, 55, 56] (by decide +kernel) (by decide +kernel)
set_option maxRecDepth 20000 in
theorem gX6_reachNow_X5_reach : GoodIn wsX6_reachNow (wsV RX6 251 RX5 yX5_reach wsX5_reach) := goodIn_app (goodIn_of _ (by decide +kernel)) ggX6_reachNow_X5_reach
theorem dX6_reachNow_0 : decode cX6_reachNow 0 = .ok (.aload_n 0, 1) := by decide +kernel
theorem dX6_reachNow_1 : decode cX6_reachNow 1 = .ok (.getfield 53, 3) := by decide +kernel
theorem dX6_reachNow_4 : decode cX6_reachNow 4 = .ok (.iload_n 1, 1) := by decide +kernel
theorem dX6_reachNow_5 : decode cX6_reachNow 5 = .ok (.aload_n 0, 1) := by decide +kernel
theorem dX6_reachNow_6 : decode cX6_reachNow 6 = .ok (.getfield 19, 3) := by decide +kernel
theorem dX6_reachNow_9 : decode cX6_reachNow 9 = .ok (.getfield 113, 3) := by decide +kernel
theorem dX6_reachNow_12 : decode cX6_reachNow 12 = .ok (.aload_n 0, 1) := by decide +kernel
theorem dX6_reachNow_13 : decode cX6_reachNow 13 = .ok (.getfield 19, 3) := by decide +kernel
theorem dX6_reachNow_16 : decode cX6_reachNow 16 = .ok (.iload_n 2, 1) := by decide +kernel
theorem dX6_reachNow_17 : decode cX6_reachNow 17 = .ok (.invokevirtual 100, 3) := by decide +kernel
theorem dX6_reachNow_20 : decode cX6_reachNow 20 = .ok (.invokevirtual 251, 3) := by decide +kernel
theorem dX6_reachNow_23 : decode cX6_reachNow 23 = .ok (.ireturn, 1) := by decide +kernel
set_option maxRecDepth 20000 in
theorem ggX6_bestGoodbye_X6_reachNow : GoodIn wsX6_bestGoodbye wsX6_reachNow := goodIn_r _ [7, 1, 8, 9, 10, 11, 12, 13, 14, 15, 16, 17, 18, 19, 20, 21, 22, 23, 24, 25, 26, 27, 28, 29, 30, 31, 32, 33, 34, 35, 36, 37, 38, 39, 40, 6, 41, 47, 48, 49, 50, 51, 52, 53, 54, 55, 62, 63, 64, 65, 66, 56, 57, 58, 59, 60, 61] (by decide +kernel) (by decide +kernel)
set_option maxRecDepth 20000 in
theorem gX6_bestGoodbye_X6_reachNow : GoodIn wsX6_bestGoodbye (wsV RX6 176 RX6 yX6_reachNow wsX6_reachNow) := goodIn_app (goodIn_of _ (by decide +kernel)) ggX6_bestGoodbye_X6_reachNow
set_option maxRecDepth 20000 in
theorem ggX6_bestGoodbye_X5_gainOf : GoodIn wsX6_bestGoodbye wsX5_gainOf := goodIn_r _ [45, 46, 35, 36, 37, 19, 38, 39, 56, 57, 58, 59, 60, 61] (by decide +kernel) (by decide +kernel)
set_option maxRecDepth 20000 in
theorem gX6_bestGoodbye_X5_gainOf : GoodIn wsX6_bestGoodbye (wsV RX6 94 RX5 yX5_gainOf wsX5_gainOf) := goodIn_app (goodIn_of _ (by decide +kernel)) ggX6_bestGoodbye_X5_gainOf
theorem dX6_bestGoodbye_0 : decode cX6_bestGoodbye 0 = .ok (.bipush (-9), 2) := by decide +kernel
theorem dX6_bestGoodbye_2 : decode cX6_bestGoodbye 2 = .ok (.istore_n 2, 1) := by decide +kernel
theorem dX6_bestGoodbye_3 : decode cX6_bestGoodbye 3 = .ok (.iconst 0, 1) := by decide +kernel
theorem dX6_bestGoodbye_4 : decode cX6_bestGoodbye 4 = .ok (.istore_n 3, 1) := by decide +kernel
theorem dX6_bestGoodbye_5 : decode cX6_bestGoodbye 5 = .ok (.iconst 0, 1) := by decide +kernel
theorem dX6_bestGoodbye_6 : decode cX6_bestGoodbye 6 = .ok (.istore 4, 2) := by decide +kernel
theorem dX6_bestGoodbye_8 : decode cX6_bestGoodbye 8 = .ok (.iload 4, 2) := by decide +kernel
theorem dX6_bestGoodbye_10 : decode cX6_bestGoodbye 10 = .ok (.aload_n 0, 1) := by decide +kernel
theorem dX6_bestGoodbye_11 : decode cX6_bestGoodbye 11 = .ok (.getfield 53, 3) := by decide +kernel
theorem dX6_bestGoodbye_14 : decode cX6_bestGoodbye 14 = .ok (.getfield 241, 3) := by decide +kernel
theorem dX6_bestGoodbye_17 : decode cX6_bestGoodbye 17 = .ok (.if_icmp .ge 74, 3) := by decide +kernel
theorem dX6_bestGoodbye_20 : decode cX6_bestGoodbye 20 = .ok (.aload_n 0, 1) := by decide +kernel
theorem dX6_bestGoodbye_21 : decode cX6_bestGoodbye 21 = .ok (.iload 4, 2) := by decide +kernel
theorem dX6_bestGoodbye_23 : decode cX6_bestGoodbye 23 = .ok (.iload_n 1, 1) := by decide +kernel
theorem dX6_bestGoodbye_24 : decode cX6_bestGoodbye 24 = .ok (.invokevirtual 176, 3) := by decide +kernel
theorem dX6_bestGoodbye_27 : decode cX6_bestGoodbye 27 = .ok (.istore 5, 2) := by decide +kernel
theorem dX6_bestGoodbye_29 : decode cX6_bestGoodbye 29 = .ok (.iload 5, 2) := by decide +kernel
theorem dX6_bestGoodbye_31 : decode cX6_bestGoodbye 31 = .ok (.iload_n 3, 1) := by decide +kernel
theorem dX6_bestGoodbye_32 : decode cX6_bestGoodbye 32 = .ok (.if_icmp .ne 33, 3) := by decide +kernel
theorem dX6_bestGoodbye_35 : decode cX6_bestGoodbye 35 = .ok (.iload_n 2, 1) := by decide +kernel
theorem dX6_bestGoodbye_36 : decode cX6_bestGoodbye 36 = .ok (.bipush (-9), 2) := by decide +kernel
theorem dX6_bestGoodbye_38 : decode cX6_bestGoodbye 38 = .ok (.if_icmp .eq 27, 3) := by decide +kernel
theorem dX6_bestGoodbye_41 : decode cX6_bestGoodbye 41 = .ok (.aload_n 0, 1) := by decide +kernel
theorem dX6_bestGoodbye_42 : decode cX6_bestGoodbye 42 = .ok (.getfield 53, 3) := by decide +kernel
theorem dX6_bestGoodbye_45 : decode cX6_bestGoodbye 45 = .ok (.iload 4, 2) := by decide +kernel
theorem dX6_bestGoodbye_47 : decode cX6_bestGoodbye 47 = .ok (.invokevirtual 94, 3) := by decide +kernel
theorem dX6_bestGoodbye_50 : decode cX6_bestGoodbye 50 = .ok (.aload_n 0, 1) := by decide +kernel
theorem dX6_bestGoodbye_51 : decode cX6_bestGoodbye 51 = .ok (.getfield 53, 3) := by decide +kernel
theorem dX6_bestGoodbye_54 : decode cX6_bestGoodbye 54 = .ok (.iload_n 2, 1) := by decide +kernel
theorem dX6_bestGoodbye_55 : decode cX6_bestGoodbye 55 = .ok (.invokevirtual 94, 3) := by decide +kernel
theorem dX6_bestGoodbye_58 : decode cX6_bestGoodbye 58 = .ok (.if_icmp .le 7, 3) := by decide +kernel
theorem dX6_bestGoodbye_61 : decode cX6_bestGoodbye 61 = .ok (.iconst 1, 1) := by decide +kernel
theorem dX6_bestGoodbye_62 : decode cX6_bestGoodbye 62 = .ok (.goto 4, 3) := by decide +kernel
theorem dX6_bestGoodbye_65 : decode cX6_bestGoodbye 65 = .ok (.iconst 0, 1) := by decide +kernel
theorem dX6_bestGoodbye_66 : decode cX6_bestGoodbye 66 = .ok (.istore 6, 2) := by decide +kernel
theorem dX6_bestGoodbye_68 : decode cX6_bestGoodbye 68 = .ok (.iload 5, 2) := by decide +kernel
theorem dX6_bestGoodbye_70 : decode cX6_bestGoodbye 70 = .ok (.iload_n 3, 1) := by decide +kernel
theorem dX6_bestGoodbye_71 : decode cX6_bestGoodbye 71 = .ok (.if_icmp .gt 8, 3) := by decide +kernel
theorem dX6_bestGoodbye_74 : decode cX6_bestGoodbye 74 = .ok (.iload 6, 2) := by decide +kernel
theorem dX6_bestGoodbye_76 : decode cX6_bestGoodbye 76 = .ok (.ifCond .eq 9, 3) := by decide +kernel
theorem dX6_bestGoodbye_79 : decode cX6_bestGoodbye 79 = .ok (.iload 4, 2) := by decide +kernel
theorem dX6_bestGoodbye_81 : decode cX6_bestGoodbye 81 = .ok (.istore_n 2, 1) := by decide +kernel
theorem dX6_bestGoodbye_82 : decode cX6_bestGoodbye 82 = .ok (.iload 5, 2) := by decide +kernel
theorem dX6_bestGoodbye_84 : decode cX6_bestGoodbye 84 = .ok (.istore_n 3, 1) := by decide +kernel
theorem dX6_bestGoodbye_85 : decode cX6_bestGoodbye 85 = .ok (.iinc 4 1, 3) := by decide +kernel
theorem dX6_bestGoodbye_88 : decode cX6_bestGoodbye 88 = .ok (.goto (-80), 3) := by decide +kernel
theorem dX6_bestGoodbye_91 : decode cX6_bestGoodbye 91 = .ok (.iload_n 2, 1) := by decide +kernel
theorem dX6_bestGoodbye_92 : decode cX6_bestGoodbye 92 = .ok (.ireturn, 1) := by decide +kernel
set_option maxRecDepth 20000 in
theorem ggX6_bestWoman_X0_isIll : GoodIn wsX6_bestWoman wsX0_isIll := goodIn_r _ [8, 9, 70, 71, 72, 73, 74] (by decide +kernel) (by decide +kernel)
set_option maxRecDepth 20000 in
theorem gX6_bestWoman_X0_isIll : GoodIn wsX6_bestWoman (wsV RX6 103 RX0 yX0_isIll wsX0_isIll) := goodIn_app (goodIn_of _ (by decide +kernel)) ggX6_bestWoman_X0_isIll
set_option maxRecDepth 20000 in
theorem ggX6_bestWoman_X6_farthestWith : GoodIn wsX6_bestWoman wsX6_farthestWith := goodIn_r _ [14, 1, 15, 16, 17, 18, 19, 20, 21, 22, 13, 23, 3, 24, 25, 26, 27, 7, 28, 29, 30, 31, 32, 33, 34, 35, 36, 37, 38, 39, 40, 41, 42, 43, 44, 45, 46, 47, 48, 49, 50, 51, 52, 53, 54, 55, 56, 57, 58, 59, 60, 61, 62, 63, 64, 65, 66, 67, 68, 69, 70, 71, 72, 73, 74] (by decide +kernel) (by decide +kernel)
set_option maxRecDepth 20000 in
theorem gX6_bestWoman_X6_farthestWith : GoodIn wsX6_bestWoman (wsV RX6 254 RX6 yX6_farthestWith wsX6_farthestWith) := goodIn_app (goodIn_of _ (by decide +kernel)) ggX6_bestWoman_X6_farthestWith
theorem dX6_bestWoman_0 : decode cX6_bestWoman 0 = .ok (.bipush (-9), 2) := by decide +kernel
theorem dX6_bestWoman_2 : decode cX6_bestWoman 2 = .ok (.istore_n 1, 1) := by decide +kernel
theorem dX6_bestWoman_3 : decode cX6_bestWoman 3 = .ok (.iconst 0, 1) := by decide +kernel
theorem dX6_bestWoman_4 : decode cX6_bestWoman 4 = .ok (.istore_n 2, 1) := by decide +kernel
theorem dX6_bestWoman_5 : decode cX6_bestWoman 5 = .ok (.iconst 0, 1) := by decide +kernel
theorem dX6_bestWoman_6 : decode cX6_bestWoman 6 = .ok (.istore_n 3, 1) := by decide +kernel
theorem dX6_bestWoman_7 : decode cX6_bestWoman 7 = .ok (.iload_n 3, 1) := by decide +kernel
theorem dX6_bestWoman_8 : decode cX6_bestWoman 8 = .ok (.aload_n 0, 1) := by decide +kernel
theorem dX6_bestWoman_9 : decode cX6_bestWoman 9 = .ok (.getfield 53, 3) := by decide +kernel
theorem dX6_bestWoman_12 : decode cX6_bestWoman 12 = .ok (.getfield 244, 3) := by decide +kernel
theorem dX6_bestWoman_15 : decode cX6_bestWoman 15 = .ok (.if_icmp .ge 42, 3) := by decide +kernel
theorem dX6_bestWoman_18 : decode cX6_bestWoman 18 = .ok (.aload_n 0, 1) := by decide +kernel
theorem dX6_bestWoman_19 : decode cX6_bestWoman 19 = .ok (.getfield 19, 3) := by decide +kernel
theorem dX6_bestWoman_22 : decode cX6_bestWoman 22 = .ok (.iload_n 3, 1) := by decide +kernel
theorem dX6_bestWoman_23 : decode cX6_bestWoman 23 = .ok (.invokevirtual 103, 3) := by decide +kernel
theorem dX6_bestWoman_26 : decode cX6_bestWoman 26 = .ok (.ifCond .eq 7, 3) := by decide +kernel
theorem dX6_bestWoman_29 : decode cX6_bestWoman 29 = .ok (.iconst 0, 1) := by decide +kernel
theorem dX6_bestWoman_30 : decode cX6_bestWoman 30 = .ok (.goto 8, 3) := by decide +kernel
theorem dX6_bestWoman_33 : decode cX6_bestWoman 33 = .ok (.aload_n 0, 1) := by decide +kernel
theorem dX6_bestWoman_34 : decode cX6_bestWoman 34 = .ok (.iload_n 3, 1) := by decide +kernel
theorem dX6_bestWoman_35 : decode cX6_bestWoman 35 = .ok (.invokevirtual 254, 3) := by decide +kernel
theorem dX6_bestWoman_38 : decode cX6_bestWoman 38 = .ok (.istore 4, 2) := by decide +kernel
theorem dX6_bestWoman_40 : decode cX6_bestWoman 40 = .ok (.iload 4, 2) := by decide +kernel
theorem dX6_bestWoman_42 : decode cX6_bestWoman 42 = .ok (.iload_n 2, 1) := by decide +kernel
theorem dX6_bestWoman_43 : decode cX6_bestWoman 43 = .ok (.if_icmp .le 8, 3) := by decide +kernel
theorem dX6_bestWoman_46 : decode cX6_bestWoman 46 = .ok (.iload_n 3, 1) := by decide +kernel
theorem dX6_bestWoman_47 : decode cX6_bestWoman 47 = .ok (.istore_n 1, 1) := by decide +kernel
theorem dX6_bestWoman_48 : decode cX6_bestWoman 48 = .ok (.iload 4, 2) := by decide +kernel
theorem dX6_bestWoman_50 : decode cX6_bestWoman 50 = .ok (.istore_n 2, 1) := by decide +kernel
