theorem dX0_init_0 : decode cX0_init 0 = .ok (.aload_n 0, 1) := by decide +kernel
theorem dX0_init_1 : decode cX0_init 1 = .ok (.invokespecial 3, 3) := by decide +kernel
theorem dX0_init_4 : decode cX0_init 4 = .ok (.aload_n 0, 1) := by decide +kernel
theorem dX0_init_5 : decode cX0_init 5 = .ok (.iconst 4, 1) := by decide +kernel
theorem dX0_init_6 : decode cX0_init 6 = .ok (.newarray .int, 2) := by decide +kernel
theorem dX0_init_8 : decode cX0_init 8 = .ok (.putfield 9, 3) := by decide +kernel
theorem dX0_init_11 : decode cX0_init 11 = .ok (.aload_n 0, 1) := by decide +kernel
theorem dX0_init_12 : decode cX0_init 12 = .ok (.iconst 0, 1) := by decide +kernel
theorem dX0_init_13 : decode cX0_init 13 = .ok (.putfield 15, 3) := by decide +kernel
theorem dX0_init_16 : decode cX0_init 16 = .ok (.aload_n 0, 1) := by decide +kernel
theorem dX0_init_17 : decode cX0_init 17 = .ok (.iconst 0, 1) := by decide +kernel
theorem dX0_init_18 : decode cX0_init 18 = .ok (.putfield 19, 3) := by decide +kernel
theorem dX0_init_21 : decode cX0_init 21 = .ok (.aload_n 0, 1) := by decide +kernel
theorem dX0_init_22 : decode cX0_init 22 = .ok (.iconst 0, 1) := by decide +kernel
theorem dX0_init_23 : decode cX0_init 23 = .ok (.putfield 22, 3) := by decide +kernel
theorem dX0_init_26 : decode cX0_init 26 = .ok (.aload_n 0, 1) := by decide +kernel
theorem dX0_init_27 : decode cX0_init 27 = .ok (.iconst 0, 1) := by decide +kernel
theorem dX0_init_28 : decode cX0_init 28 = .ok (.putfield 25, 3) := by decide +kernel
theorem dX0_init_31 : decode cX0_init 31 = .ok (.return_, 1) := by decide +kernel
set_option maxRecDepth 20000 in
theorem ggX0_startAnew_X5_likingAtFirst : GoodIn wsX0_startAnew wsX5_likingAtFirst := goodIn_r _ [10, 11, 12, 13, 14, 9, 15, 16, 22, 23, 24, 25, 26, 27] (by decide +kernel) (by decide +kernel)
set_option maxRecDepth 20000 in
theorem gX0_startAnew_X5_likingAtFirst : GoodIn wsX0_startAnew (wsV RX0 29 RX5 yX5_likingAtFirst wsX5_likingAtFirst) := goodIn_app (goodIn_of _ (by decide +kernel)) ggX0_startAnew_X5_likingAtFirst
theorem dX0_startAnew_0 : decode cX0_startAnew 0 = .ok (.iconst 0, 1) := by decide +kernel
theorem dX0_startAnew_1 : decode cX0_startAnew 1 = .ok (.istore_n 2, 1) := by decide +kernel
theorem dX0_startAnew_2 : decode cX0_startAnew 2 = .ok (.iload_n 2, 1) := by decide +kernel
theorem dX0_startAnew_3 : decode cX0_startAnew 3 = .ok (.iconst 4, 1) := by decide +kernel
theorem dX0_startAnew_4 : decode cX0_startAnew 4 = .ok (.if_icmp .ge 20, 3) := by decide +kernel
theorem dX0_startAnew_7 : decode cX0_startAnew 7 = .ok (.aload_n 0, 1) := by decide +kernel
theorem dX0_startAnew_8 : decode cX0_startAnew 8 = .ok (.getfield 9, 3) := by decide +kernel
theorem dX0_startAnew_11 : decode cX0_startAnew 11 = .ok (.iload_n 2, 1) := by decide +kernel
theorem dX0_startAnew_12 : decode cX0_startAnew 12 = .ok (.aload_n 1, 1) := by decide +kernel
theorem dX0_startAnew_13 : decode cX0_startAnew 13 = .ok (.iload_n 2, 1) := by decide +kernel
theorem dX0_startAnew_14 : decode cX0_startAnew 14 = .ok (.invokevirtual 29, 3) := by decide +kernel
theorem dX0_startAnew_17 : decode cX0_startAnew 17 = .ok (.iastore, 1) := by decide +kernel
theorem dX0_startAnew_18 : decode cX0_startAnew 18 = .ok (.iinc 2 1, 3) := by decide +kernel
theorem dX0_startAnew_21 : decode cX0_startAnew 21 = .ok (.goto (-19), 3) := by decide +kernel
theorem dX0_startAnew_24 : decode cX0_startAnew 24 = .ok (.aload_n 0, 1) := by decide +kernel
theorem dX0_startAnew_25 : decode cX0_startAnew 25 = .ok (.iconst 0, 1) := by decide +kernel
theorem dX0_startAnew_26 : decode cX0_startAnew 26 = .ok (.putfield 15, 3) := by decide +kernel
theorem dX0_startAnew_29 : decode cX0_startAnew 29 = .ok (.aload_n 0, 1) := by decide +kernel
theorem dX0_startAnew_30 : decode cX0_startAnew 30 = .ok (.iconst 0, 1) := by decide +kernel
theorem dX0_startAnew_31 : decode cX0_startAnew 31 = .ok (.putfield 19, 3) := by decide +kernel
theorem dX0_startAnew_34 : decode cX0_startAnew 34 = .ok (.aload_n 0, 1) := by decide +kernel
theorem dX0_startAnew_35 : decode cX0_startAnew 35 = .ok (.iconst 0, 1) := by decide +kernel
theorem dX0_startAnew_36 : decode cX0_startAnew 36 = .ok (.putfield 22, 3) := by decide +kernel
theorem dX0_startAnew_39 : decode cX0_startAnew 39 = .ok (.aload_n 0, 1) := by decide +kernel
theorem dX0_startAnew_40 : decode cX0_startAnew 40 = .ok (.iconst 0, 1) := by decide +kernel
theorem dX0_startAnew_41 : decode cX0_startAnew 41 = .ok (.putfield 25, 3) := by decide +kernel
theorem dX0_startAnew_44 : decode cX0_startAnew 44 = .ok (.return_, 1) := by decide +kernel
theorem dX0_likingOf_0 : decode cX0_likingOf 0 = .ok (.iload_n 1, 1) := by decide +kernel
theorem dX0_likingOf_1 : decode cX0_likingOf 1 = .ok (.ifCond .lt 17, 3) := by decide +kernel
theorem dX0_likingOf_4 : decode cX0_likingOf 4 = .ok (.iload_n 1, 1) := by decide +kernel
theorem dX0_likingOf_5 : decode cX0_likingOf 5 = .ok (.iconst 4, 1) := by decide +kernel
theorem dX0_likingOf_6 : decode cX0_likingOf 6 = .ok (.if_icmp .ge 12, 3) := by decide +kernel
theorem dX0_likingOf_9 : decode cX0_likingOf 9 = .ok (.aload_n 0, 1) := by decide +kernel
theorem dX0_likingOf_10 : decode cX0_likingOf 10 = .ok (.getfield 9, 3) := by decide +kernel
theorem dX0_likingOf_13 : decode cX0_likingOf 13 = .ok (.iload_n 1, 1) := by decide +kernel
theorem dX0_likingOf_14 : decode cX0_likingOf 14 = .ok (.iaload, 1) := by decide +kernel
theorem dX0_likingOf_15 : decode cX0_likingOf 15 = .ok (.goto 4, 3) := by decide +kernel
theorem dX0_likingOf_18 : decode cX0_likingOf 18 = .ok (.iconst 0, 1) := by decide +kernel
theorem dX0_likingOf_19 : decode cX0_likingOf 19 = .ok (.ireturn, 1) := by decide +kernel
theorem dX0_setLiking_0 : decode cX0_setLiking 0 = .ok (.iload_n 1, 1) := by decide +kernel
theorem dX0_setLiking_1 : decode cX0_setLiking 1 = .ok (.ifCond .lt 15, 3) := by decide +kernel
theorem dX0_setLiking_4 : decode cX0_setLiking 4 = .ok (.iload_n 1, 1) := by decide +kernel
theorem dX0_setLiking_5 : decode cX0_setLiking 5 = .ok (.iconst 4, 1) := by decide +kernel
theorem dX0_setLiking_6 : decode cX0_setLiking 6 = .ok (.if_icmp .ge 10, 3) := by decide +kernel
theorem dX0_setLiking_9 : decode cX0_setLiking 9 = .ok (.aload_n 0, 1) := by decide +kernel
theorem dX0_setLiking_10 : decode cX0_setLiking 10 = .ok (.getfield 9, 3) := by decide +kernel
theorem dX0_setLiking_13 : decode cX0_setLiking 13 = .ok (.iload_n 1, 1) := by decide +kernel
theorem dX0_setLiking_14 : decode cX0_setLiking 14 = .ok (.iload_n 2, 1) := by decide +kernel
theorem dX0_setLiking_15 : decode cX0_setLiking 15 = .ok (.iastore, 1) := by decide +kernel
theorem dX0_setLiking_16 : decode cX0_setLiking 16 = .ok (.return_, 1) := by decide +kernel
theorem dX0_isIll_0 : decode cX0_isIll 0 = .ok (.aload_n 0, 1) := by decide +kernel
theorem dX0_isIll_1 : decode cX0_isIll 1 = .ok (.getfield 22, 3) := by decide +kernel
theorem dX0_isIll_4 : decode cX0_isIll 4 = .ok (.iload_n 1, 1) := by decide +kernel
theorem dX0_isIll_5 : decode cX0_isIll 5 = .ok (.ishr, 1) := by decide +kernel
theorem dX0_isIll_6 : decode cX0_isIll 6 = .ok (.iconst 1, 1) := by decide +kernel
theorem dX0_isIll_7 : decode cX0_isIll 7 = .ok (.iand, 1) := by decide +kernel
theorem dX0_isIll_8 : decode cX0_isIll 8 = .ok (.iconst 1, 1) := by decide +kernel
theorem dX0_isIll_9 : decode cX0_isIll 9 = .ok (.if_icmp .ne 7, 3) := by decide +kernel
theorem dX0_isIll_12 : decode cX0_isIll 12 = .ok (.iconst 1, 1) := by decide +kernel
theorem dX0_isIll_13 : decode cX0_isIll 13 = .ok (.goto 4, 3) := by decide +kernel
theorem dX0_isIll_16 : decode cX0_isIll 16 = .ok (.iconst 0, 1) := by decide +kernel
theorem dX0_isIll_17 : decode cX0_isIll 17 = .ok (.ireturn, 1) := by decide +kernel
theorem dX0_folded_0 : decode cX0_folded 0 = .ok (.aload_n 0, 1) := by decide +kernel
theorem dX0_folded_1 : decode cX0_folded 1 = .ok (.getfield 15, 3) := by decide +kernel
theorem dX0_folded_4 : decode cX0_folded 4 = .ok (.i2l, 1) := by decide +kernel
theorem dX0_folded_5 : decode cX0_folded 5 = .ok (.lstore_n 1, 1) := by decide +kernel
theorem dX0_folded_6 : decode cX0_folded 6 = .ok (.lload_n 1, 1) := by decide +kernel
theorem dX0_folded_7 : decode cX0_folded 7 = .ok (.iconst 5, 1) := by decide +kernel
theorem dX0_folded_8 : decode cX0_folded 8 = .ok (.lshl, 1) := by decide +kernel
theorem dX0_folded_9 : decode cX0_folded 9 = .ok (.aload_n 0, 1) := by decide +kernel
theorem dX0_folded_10 : decode cX0_folded 10 = .ok (.getfield 19, 3) := by decide +kernel
theorem dX0_folded_13 : decode cX0_folded 13 = .ok (.i2l, 1) := by decide +kernel
theorem dX0_folded_14 : decode cX0_folded 14 = .ok (.lor, 1) := by decide +kernel
theorem dX0_folded_15 : decode cX0_folded 15 = .ok (.lstore_n 1, 1) := by decide +kernel
theorem dX0_folded_16 : decode cX0_folded 16 = .ok (.iconst 0, 1) := by decide +kernel
theorem dX0_folded_17 : decode cX0_folded 17 = .ok (.istore_n 3, 1) := by decide +kernel
theorem dX0_folded_18 : decode cX0_folded 18 = .ok (.iload_n 3, 1) := by decide +kernel
theorem dX0_folded_19 : decode cX0_folded 19 = .ok (.iconst 4, 1) := by decide +kernel
theorem dX0_folded_20 : decode cX0_folded 20 = .ok (.if_icmp .ge 21, 3) := by decide +kernel
theorem dX0_folded_23 : decode cX0_folded 23 = .ok (.lload_n 1, 1) := by decide +kernel
theorem dX0_folded_24 : decode cX0_folded 24 = .ok (.iconst 4, 1) := by decide +kernel
theorem dX0_folded_25 : decode cX0_folded 25 = .ok (.lshl, 1) := by decide +kernel
theorem dX0_folded_26 : decode cX0_folded 26 = .ok (.aload_n 0, 1) := by decide +kernel
theorem dX0_folded_27 : decode cX0_folded 27 = .ok (.getfield 9, 3) := by decide +kernel
theorem dX0_folded_30 : decode cX0_folded 30 = .ok (.iload_n 3, 1) := by decide +kernel
theorem dX0_folded_31 : decode cX0_folded 31 = .ok (.iaload, 1) := by decide +kernel
theorem dX0_folded_32 : decode cX0_folded 32 = .ok (.i2l, 1) := by decide +kernel
theorem dX0_folded_33 : decode cX0_folded 33 = .ok (.lor, 1) := by decide +kernel
theorem dX0_folded_34 : decode cX0_folded 34 = .ok (.lstore_n 1, 1) := by decide +kernel
theorem dX0_folded_35 : decode cX0_folded 35 = .ok (.iinc 3 1, 3) := by decide +kernel
theorem dX0_folded_38 : decode cX0_folded 38 = .ok (.goto (-20), 3) := by decide +kernel
theorem dX0_folded_41 : decode cX0_folded 41 = .ok (.lload_n 1, 1) := by decide +kernel
theorem dX0_folded_42 : decode cX0_folded 42 = .ok (.iconst 4, 1) := by decide +kernel
theorem dX0_folded_43 : decode cX0_folded 43 = .ok (.lshl, 1) := by decide +kernel
theorem dX0_folded_44 : decode cX0_folded 44 = .ok (.aload_n 0, 1) := by decide +kernel
theorem dX0_folded_45 : decode cX0_folded 45 = .ok (.getfield 22, 3) := by decide +kernel
theorem dX0_folded_48 : decode cX0_folded 48 = .ok (.i2l, 1) := by decide +kernel
theorem dX0_folded_49 : decode cX0_folded 49 = .ok (.lor, 1) := by decide +kernel
theorem dX0_folded_50 : decode cX0_folded 50 = .ok (.lstore_n 1, 1) := by decide +kernel
theorem dX0_folded_51 : decode cX0_folded 51 = .ok (.lload_n 1, 1) := by decide +kernel
theorem dX0_folded_52 : decode cX0_folded 52 = .ok (.iconst 1, 1) := by decide +kernel
theorem dX0_folded_53 : decode cX0_folded 53 = .ok (.lshl, 1) := by decide +kernel
theorem dX0_folded_54 : decode cX0_folded 54 = .ok (.aload_n 0, 1) := by decide +kernel
theorem dX0_folded_55 : decode cX0_folded 55 = .ok (.getfield 25, 3) := by decide +kernel
theorem dX0_folded_58 : decode cX0_folded 58 = .ok (.ifCond .eq 7, 3) := by decide +kernel
theorem dX0_folded_61 : decode cX0_folded 61 = .ok (.iconst 1, 1) := by decide +kernel
theorem dX0_folded_62 : decode cX0_folded 62 = .ok (.goto 4, 3) := by decide +kernel
theorem dX0_folded_65 : decode cX0_folded 65 = .ok (.iconst 0, 1) := by decide +kernel
theorem dX0_folded_66 : decode cX0_folded 66 = .ok (.i2l, 1) := by decide +kernel
theorem dX0_folded_67 : decode cX0_folded 67 = .ok (.lor, 1) := by decide +kernel
theorem dX0_folded_68 : decode cX0_folded 68 = .ok (.lreturn, 1) := by decide +kernel
theorem dX0_unfold_0 : decode cX0_unfold 0 = .ok (.aload_n 0, 1) := by decide +kernel
theorem dX0_unfold_1 : decode cX0_unfold 1 = .ok (.lload_n 1, 1) := by decide +kernel
theorem dX0_unfold_2 : decode cX0_unfold 2 = .ok (.lconst 1, 1) := by decide +kernel
theorem dX0_unfold_3 : decode cX0_unfold 3 = .ok (.land, 1) := by decide +kernel
theorem dX0_unfold_4 : decode cX0_unfold 4 = .ok (.lconst 1, 1) := by decide +kernel
theorem dX0_unfold_5 : decode cX0_unfold 5 = .ok (.lcmp, 1) := by decide +kernel
theorem dX0_unfold_6 : decode cX0_unfold 6 = .ok (.ifCond .ne 7, 3) := by decide +kernel
theorem dX0_unfold_9 : decode cX0_unfold 9 = .ok (.iconst 1, 1) := by decide +kernel
theorem dX0_unfold_10 : decode cX0_unfold 10 = .ok (.goto 4, 3) := by decide +kernel
theorem dX0_unfold_13 : decode cX0_unfold 13 = .ok (.iconst 0, 1) := by decide +kernel
theorem dX0_unfold_14 : decode cX0_unfold 14 = .ok (.putfield 25, 3) := by decide +kernel
theorem dX0_unfold_17 : decode cX0_unfold 17 = .ok (.aload_n 0, 1) := by decide +kernel
theorem dX0_unfold_18 : decode cX0_unfold 18 = .ok (.lload_n 1, 1) := by decide +kernel
theorem dX0_unfold_19 : decode cX0_unfold 19 = .ok (.iconst 1, 1) := by decide +kernel
theorem dX0_unfold_20 : decode cX0_unfold 20 = .ok (.lshr, 1) := by decide +kernel
theorem dX0_unfold_21 : decode cX0_unfold 21 = .ok (.ldc2_w 35, 3) := by decide +kernel
theorem dX0_unfold_24 : decode cX0_unfold 24 = .ok (.land, 1) := by decide +kernel
theorem dX0_unfold_25 : decode cX0_unfold 25 = .ok (.l2i, 1) := by decide +kernel
theorem dX0_unfold_26 : decode cX0_unfold 26 = .ok (.putfield 22, 3) := by decide +kernel
theorem dX0_unfold_29 : decode cX0_unfold 29 = .ok (.lload_n 1, 1) := by decide +kernel
theorem dX0_unfold_30 : decode cX0_unfold 30 = .ok (.iconst 5, 1) := by decide +kernel
theorem dX0_unfold_31 : decode cX0_unfold 31 = .ok (.lshr, 1) := by decide +kernel
theorem dX0_unfold_32 : decode cX0_unfold 32 = .ok (.lstore_n 3, 1) := by decide +kernel
theorem dX0_unfold_33 : decode cX0_unfold 33 = .ok (.iconst 3, 1) := by decide +kernel
theorem dX0_unfold_34 : decode cX0_unfold 34 = .ok (.istore 5, 2) := by decide +kernel
theorem dX0_unfold_36 : decode cX0_unfold 36 = .ok (.iload 5, 2) := by decide +kernel
theorem dX0_unfold_38 : decode cX0_unfold 38 = .ok (.ifCond .lt 26, 3) := by decide +kernel
theorem dX0_unfold_41 : decode cX0_unfold 41 = .ok (.aload_n 0, 1) := by decide +kernel
theorem dX0_unfold_42 : decode cX0_unfold 42 = .ok (.getfield 9, 3) := by decide +kernel
theorem dX0_unfold_45 : decode cX0_unfold 45 = .ok (.iload 5, 2) := by decide +kernel
theorem dX0_unfold_47 : decode cX0_unfold 47 = .ok (.lload_n 3, 1) := by decide +kernel
theorem dX0_unfold_48 : decode cX0_unfold 48 = .ok (.ldc2_w 35, 3) := by decide +kernel
theorem dX0_unfold_51 : decode cX0_unfold 51 = .ok (.land, 1) := by decide +kernel
theorem dX0_unfold_52 : decode cX0_unfold 52 = .ok (.l2i, 1) := by decide +kernel
theorem dX0_unfold_53 : decode cX0_unfold 53 = .ok (.iastore, 1) := by decide +kernel
theorem dX0_unfold_54 : decode cX0_unfold 54 = .ok (.lload_n 3, 1) := by decide +kernel
theorem dX0_unfold_55 : decode cX0_unfold 55 = .ok (.iconst 4, 1) := by decide +kernel
theorem dX0_unfold_56 : decode cX0_unfold 56 = .ok (.lshr, 1) := by decide +kernel
theorem dX0_unfold_57 : decode cX0_unfold 57 = .ok (.lstore_n 3, 1) := by decide +kernel
theorem dX0_unfold_58 : decode cX0_unfold 58 = .ok (.iinc 5 (-1), 3) := by decide +kernel
theorem dX0_unfold_61 : decode cX0_unfold 61 = .ok (.goto (-25), 3) := by decide +kernel
theorem dX0_unfold_64 : decode cX0_unfold 64 = .ok (.aload_n 0, 1) := by decide +kernel
theorem dX0_unfold_65 : decode cX0_unfold 65 = .ok (.lload_n 3, 1) := by decide +kernel
theorem dX0_unfold_66 : decode cX0_unfold 66 = .ok (.ldc2_w 37, 3) := by decide +kernel
theorem dX0_unfold_69 : decode cX0_unfold 69 = .ok (.land, 1) := by decide +kernel
theorem dX0_unfold_70 : decode cX0_unfold 70 = .ok (.l2i, 1) := by decide +kernel
theorem dX0_unfold_71 : decode cX0_unfold 71 = .ok (.putfield 19, 3) := by decide +kernel
theorem dX0_unfold_74 : decode cX0_unfold 74 = .ok (.aload_n 0, 1) := by decide +kernel
theorem dX0_unfold_75 : decode cX0_unfold 75 = .ok (.lload_n 3, 1) := by decide +kernel
theorem dX0_unfold_76 : decode cX0_unfold 76 = .ok (.iconst 5, 1) := by decide +kernel
theorem dX0_unfold_77 : decode cX0_unfold 77 = .ok (.lshr, 1) := by decide +kernel
theorem dX0_unfold_78 : decode cX0_unfold 78 = .ok (.l2i, 1) := by decide +kernel
theorem dX0_unfold_79 : decode cX0_unfold 79 = .ok (.putfield 15, 3) := by decide +kernel
theorem dX0_unfold_82 : decode cX0_unfold 82 = .ok (.return_, 1) := by decide +kernel
theorem dX1_init_0 : decode cX1_init 0 = .ok (.aload_n 0, 1) := by decide +kernel
theorem dX1_init_1 : decode cX1_init 1 = .ok (.invokespecial 5, 3) := by decide +kernel
theorem dX1_init_4 : decode cX1_init 4 = .ok (.aload_n 0, 1) := by decide +kernel
theorem dX1_init_5 : decode cX1_init 5 = .ok (.sipush 250, 3) := by decide +kernel
theorem dX1_init_8 : decode cX1_init 8 = .ok (.newarray .int, 2) := by decide +kernel
theorem dX1_init_10 : decode cX1_init 10 = .ok (.putfield 11, 3) := by decide +kernel
theorem dX1_init_13 : decode cX1_init 13 = .ok (.aload_n 0, 1) := by decide +kernel
theorem dX1_init_14 : decode cX1_init 14 = .ok (.sipush 250, 3) := by decide +kernel
theorem dX1_init_17 : decode cX1_init 17 = .ok (.newarray .int, 2) := by decide +kernel
theorem dX1_init_19 : decode cX1_init 19 = .ok (.putfield 15, 3) := by decide +kernel
theorem dX1_init_22 : decode cX1_init 22 = .ok (.aload_n 0, 1) := by decide +kernel
theorem dX1_init_23 : decode cX1_init 23 = .ok (.sipush 250, 3) := by decide +kernel
theorem dX1_init_26 : decode cX1_init 26 = .ok (.newarray .int, 2) := by decide +kernel
theorem dX1_init_28 : decode cX1_init 28 = .ok (.putfield 18, 3) := by decide +kernel
theorem dX1_init_31 : decode cX1_init 31 = .ok (.aload_n 0, 1) := by decide +kernel
theorem dX1_init_32 : decode cX1_init 32 = .ok (.iconst 0, 1) := by decide +kernel
theorem dX1_init_33 : decode cX1_init 33 = .ok (.putfield 21, 3) := by decide +kernel
theorem dX1_init_36 : decode cX1_init 36 = .ok (.return_, 1) := by decide +kernel
theorem dX1_placeOf_0 : decode cX1_placeOf 0 = .ok (.iload_n 0, 1) := by decide +kernel
theorem dX1_placeOf_1 : decode cX1_placeOf 1 = .ok (.bipush 10, 2) := by decide +kernel
theorem dX1_placeOf_3 : decode cX1_placeOf 3 = .ok (.imul, 1) := by decide +kernel
theorem dX1_placeOf_4 : decode cX1_placeOf 4 = .ok (.iload_n 1, 1) := by decide +kernel
theorem dX1_placeOf_5 : decode cX1_placeOf 5 = .ok (.iadd, 1) := by decide +kernel
theorem dX1_placeOf_6 : decode cX1_placeOf 6 = .ok (.ireturn, 1) := by decide +kernel
theorem dX1_isPlace_0 : decode cX1_isPlace 0 = .ok (.iload_n 0, 1) := by decide +kernel
theorem dX1_isPlace_1 : decode cX1_isPlace 1 = .ok (.ifCond .lt 14, 3) := by decide +kernel
theorem dX1_isPlace_4 : decode cX1_isPlace 4 = .ok (.iload_n 0, 1) := by decide +kernel
theorem dX1_isPlace_5 : decode cX1_isPlace 5 = .ok (.sipush 250, 3) := by decide +kernel
theorem dX1_isPlace_8 : decode cX1_isPlace 8 = .ok (.if_icmp .ge 7, 3) := by decide +kernel
theorem dX1_isPlace_11 : decode cX1_isPlace 11 = .ok (.iconst 1, 1) := by decide +kernel
theorem dX1_isPlace_12 : decode cX1_isPlace 12 = .ok (.goto 4, 3) := by decide +kernel
theorem dX1_isPlace_15 : decode cX1_isPlace 15 = .ok (.iconst 0, 1) := by decide +kernel
theorem dX1_isPlace_16 : decode cX1_isPlace 16 = .ok (.ireturn, 1) := by decide +kernel
set_option maxRecDepth 20000 in
theorem ggX1_fewestAt_X1_isPlace : GoodIn wsX1_fewestAt wsX1_isPlace := goodIn_r _ [5] (by decide +kernel) (by decide +kernel)
set_option maxRecDepth 20000 in
theorem gX1_fewestAt_X1_isPlace : GoodIn wsX1_fewestAt (va_wsS RX1 25 yX1_isPlace wsX1_isPlace) := goodIn_app (goodIn_of _ (by decide +kernel)) ggX1_fewestAt_X1_isPlace
theorem dX1_fewestAt_0 : decode cX1_fewestAt 0 = .ok (.iload_n 1, 1) := by decide +kernel
theorem dX1_fewestAt_1 : decode cX1_fewestAt 1 = .ok (.invokestatic 25, 3) := by decide +kernel
theorem dX1_fewestAt_4 : decode cX1_fewestAt 4 = .ok (.ifCond .eq 12, 3) := by decide +kernel
theorem dX1_fewestAt_7 : decode cX1_fewestAt 7 = .ok (.aload_n 0, 1) := by decide +kernel
theorem dX1_fewestAt_8 : decode cX1_fewestAt 8 = .ok (.getfield 11, 3) := by decide +kernel
theorem dX1_fewestAt_11 : decode cX1_fewestAt 11 = .ok (.iload_n 1, 1) := by decide +kernel
theorem dX1_fewestAt_12 : decode cX1_fewestAt 12 = .ok (.iaload, 1) := by decide +kernel
theorem dX1_fewestAt_13 : decode cX1_fewestAt 13 = .ok (.goto 4, 3) := by decide +kernel
theorem dX1_fewestAt_16 : decode cX1_fewestAt 16 = .ok (.iconst 0, 1) := by decide +kernel
theorem dX1_fewestAt_17 : decode cX1_fewestAt 17 = .ok (.ireturn, 1) := by decide +kernel
set_option maxRecDepth 20000 in
theorem ggX1_rowsAt_X1_isPlace : GoodIn wsX1_rowsAt wsX1_isPlace := goodIn_r _ [5] (by decide +kernel) (by decide +kernel)
set_option maxRecDepth 20000 in
theorem gX1_rowsAt_X1_isPlace : GoodIn wsX1_rowsAt (va_wsS RX1 25 yX1_isPlace wsX1_isPlace) := goodIn_app (goodIn_of _ (by decide +kernel)) ggX1_rowsAt_X1_isPlace
theorem dX1_rowsAt_0 : decode cX1_rowsAt 0 = .ok (.iload_n 1, 1) := by decide +kernel
theorem dX1_rowsAt_1 : decode cX1_rowsAt 1 = .ok (.invokestatic 25, 3) := by decide +kernel
theorem dX1_rowsAt_4 : decode cX1_rowsAt 4 = .ok (.ifCond .eq 12, 3) := by decide +kernel
theorem dX1_rowsAt_7 : decode cX1_rowsAt 7 = .ok (.aload_n 0, 1) := by decide +kernel
theorem dX1_rowsAt_8 : decode cX1_rowsAt 8 = .ok (.getfield 15, 3) := by decide +kernel
theorem dX1_rowsAt_11 : decode cX1_rowsAt 11 = .ok (.iload_n 1, 1) := by decide +kernel
theorem dX1_rowsAt_12 : decode cX1_rowsAt 12 = .ok (.iaload, 1) := by decide +kernel
theorem dX1_rowsAt_13 : decode cX1_rowsAt 13 = .ok (.goto 4, 3) := by decide +kernel
theorem dX1_rowsAt_16 : decode cX1_rowsAt 16 = .ok (.iconst 0, 1) := by decide +kernel
theorem dX1_rowsAt_17 : decode cX1_rowsAt 17 = .ok (.ireturn, 1) := by decide +kernel
set_option maxRecDepth 20000 in
theorem ggX1_fewestFrom_X1_placeOf : GoodIn wsX1_fewestFrom wsX1_placeOf := goodIn_r _ [4] (by decide +kernel) (by decide +kernel)
set_option maxRecDepth 20000 in
theorem gX1_fewestFrom_X1_placeOf : GoodIn wsX1_fewestFrom (va_wsS RX1 29 yX1_placeOf wsX1_placeOf) := goodIn_app (goodIn_of _ (by decide +kernel)) ggX1_fewestFrom_X1_placeOf
set_option maxRecDepth 20000 in
theorem ggX1_fewestFrom_X1_fewestAt : GoodIn wsX1_fewestFrom wsX1_fewestAt := goodIn_r _ [8, 9, 10, 11, 3, 12, 13, 14, 15, 16] (by decide +kernel) (by decide +kernel)
set_option maxRecDepth 20000 in
theorem gX1_fewestFrom_X1_fewestAt : GoodIn wsX1_fewestFrom (wsV RX1 33 RX1 yX1_fewestAt wsX1_fewestAt) := goodIn_app (goodIn_of _ (by decide +kernel)) ggX1_fewestFrom_X1_fewestAt
theorem dX1_fewestFrom_0 : decode cX1_fewestFrom 0 = .ok (.aload_n 0, 1) := by decide +kernel
theorem dX1_fewestFrom_1 : decode cX1_fewestFrom 1 = .ok (.iload_n 1, 1) := by decide +kernel
theorem dX1_fewestFrom_2 : decode cX1_fewestFrom 2 = .ok (.iload_n 2, 1) := by decide +kernel
theorem dX1_fewestFrom_3 : decode cX1_fewestFrom 3 = .ok (.invokestatic 29, 3) := by decide +kernel
theorem dX1_fewestFrom_6 : decode cX1_fewestFrom 6 = .ok (.invokevirtual 33, 3) := by decide +kernel
theorem dX1_fewestFrom_9 : decode cX1_fewestFrom 9 = .ok (.ireturn, 1) := by decide +kernel
set_option maxRecDepth 20000 in
theorem ggX1_rowsFrom_X1_placeOf : GoodIn wsX1_rowsFrom wsX1_placeOf := goodIn_r _ [4] (by decide +kernel) (by decide +kernel)
set_option maxRecDepth 20000 in
theorem gX1_rowsFrom_X1_placeOf : GoodIn wsX1_rowsFrom (va_wsS RX1 29 yX1_placeOf wsX1_placeOf) := goodIn_app (goodIn_of _ (by decide +kernel)) ggX1_rowsFrom_X1_placeOf
set_option maxRecDepth 20000 in
theorem ggX1_rowsFrom_X1_rowsAt : GoodIn wsX1_rowsFrom wsX1_rowsAt := goodIn_r _ [8, 9, 10, 11, 3, 12, 13, 14, 15, 16] (by decide +kernel) (by decide +kernel)
set_option maxRecDepth 20000 in
theorem gX1_rowsFrom_X1_rowsAt : GoodIn wsX1_rowsFrom (wsV RX1 37 RX1 yX1_rowsAt wsX1_rowsAt) := goodIn_app (goodIn_of _ (by decide +kernel)) ggX1_rowsFrom_X1_rowsAt
theorem dX1_rowsFrom_0 : decode cX1_rowsFrom 0 = .ok (.aload_n 0, 1) := by decide +kernel
theorem dX1_rowsFrom_1 : decode cX1_rowsFrom 1 = .ok (.iload_n 1, 1) := by decide +kernel
theorem dX1_rowsFrom_2 : decode cX1_rowsFrom 2 = .ok (.iload_n 2, 1) := by decide +kernel
theorem dX1_rowsFrom_3 : decode cX1_rowsFrom 3 = .ok (.invokestatic 29, 3) := by decide +kernel
theorem dX1_rowsFrom_6 : decode cX1_rowsFrom 6 = .ok (.invokevirtual 37, 3) := by decide +kernel
theorem dX1_rowsFrom_9 : decode cX1_rowsFrom 9 = .ok (.ireturn, 1) := by decide +kernel
set_option maxRecDepth 20000 in
theorem ggX1_workOut_X1_workOutFrom : GoodIn wsX1_workOut wsX1_workOutFrom := goodIn_r _ [6, 7, 8, 9, 10, 11, 5, 12, 13, 14, 15, 16, 17, 18, 19, 20, 21, 22, 23, 24, 25, 26, 27, 28, 29, 30, 31, 32, 33, 34, 35, 36, 37, 38, 39, 40, 41, 42, 43, 44, 45, 46, 47, 48, 49, 50, 51, 52, 53, 54, 55, 56, 57, 58, 59, 60, 61, 62, 63, 64, 65, 66, 67, 68, 69, 70, 71, 72, 73, 74, 75, 76, 77, 78, 79, 80] (by decide +kernel) (by decide +kernel)
set_option maxRecDepth 20000 in
theorem gX1_workOut_X1_workOutFrom : GoodIn wsX1_workOut (wsV RX1 40 RX1 yX1_workOutFrom wsX1_workOutFrom) := goodIn_app (goodIn_of _ (by decide +kernel)) ggX1_workOut_X1_workOutFrom
theorem dX1_workOut_0 : decode cX1_workOut 0 = .ok (.bipush 24, 2) := by decide +kernel
theorem dX1_workOut_2 : decode cX1_workOut 2 = .ok (.istore_n 2, 1) := by decide +kernel
theorem dX1_workOut_3 : decode cX1_workOut 3 = .ok (.iload_n 2, 1) := by decide +kernel
theorem dX1_workOut_4 : decode cX1_workOut 4 = .ok (.ifCond .lt 29, 3) := by decide +kernel
theorem dX1_workOut_7 : decode cX1_workOut 7 = .ok (.bipush 9, 2) := by decide +kernel
theorem dX1_workOut_9 : decode cX1_workOut 9 = .ok (.istore_n 3, 1) := by decide +kernel
theorem dX1_workOut_10 : decode cX1_workOut 10 = .ok (.iload_n 3, 1) := by decide +kernel
theorem dX1_workOut_11 : decode cX1_workOut 11 = .ok (.ifCond .lt 16, 3) := by decide +kernel
theorem dX1_workOut_14 : decode cX1_workOut 14 = .ok (.aload_n 0, 1) := by decide +kernel
theorem dX1_workOut_15 : decode cX1_workOut 15 = .ok (.aload_n 1, 1) := by decide +kernel
theorem dX1_workOut_16 : decode cX1_workOut 16 = .ok (.iload_n 2, 1) := by decide +kernel
theorem dX1_workOut_17 : decode cX1_workOut 17 = .ok (.iload_n 3, 1) := by decide +kernel
theorem dX1_workOut_18 : decode cX1_workOut 18 = .ok (.invokevirtual 40, 3) := by decide +kernel
theorem dX1_workOut_21 : decode cX1_workOut 21 = .ok (.iinc 3 (-1), 3) := by decide +kernel
theorem dX1_workOut_24 : decode cX1_workOut 24 = .ok (.goto (-14), 3) := by decide +kernel
theorem dX1_workOut_27 : decode cX1_workOut 27 = .ok (.iinc 2 (-1), 3) := by decide +kernel
theorem dX1_workOut_30 : decode cX1_workOut 30 = .ok (.goto (-27), 3) := by decide +kernel
theorem dX1_workOut_33 : decode cX1_workOut 33 = .ok (.aload_n 0, 1) := by decide +kernel
theorem dX1_workOut_34 : decode cX1_workOut 34 = .ok (.iconst 1, 1) := by decide +kernel
theorem dX1_workOut_35 : decode cX1_workOut 35 = .ok (.putfield 21, 3) := by decide +kernel
theorem dX1_workOut_38 : decode cX1_workOut 38 = .ok (.return_, 1) := by decide +kernel
set_option maxRecDepth 20000 in
theorem ggX1_workOutFrom_X1_placeOf : GoodIn wsX1_workOutFrom wsX1_placeOf := goodIn_r _ [7] (by decide +kernel) (by decide +kernel)
set_option maxRecDepth 20000 in
theorem gX1_workOutFrom_X1_placeOf : GoodIn wsX1_workOutFrom (va_wsS RX1 29 yX1_placeOf wsX1_placeOf) := goodIn_app (goodIn_of _ (by decide +kernel)) ggX1_workOutFrom_X1_placeOf
set_option maxRecDepth 20000 in
theorem ggX1_workOutFrom_X1_isPlace : GoodIn wsX1_workOutFrom wsX1_isPlace := goodIn_r _ [10] (by decide +kernel) (by decide +kernel)
set_option maxRecDepth 20000 in
theorem gX1_workOutFrom_X1_isPlace : GoodIn wsX1_workOutFrom (va_wsS RX1 25 yX1_isPlace wsX1_isPlace) := goodIn_app (goodIn_of _ (by decide +kernel)) ggX1_workOutFrom_X1_isPlace
set_option maxRecDepth 20000 in
theorem ggX1_workOutFrom_X5_setting : GoodIn wsX1_workOutFrom wsX5_setting := goodIn_r _ [15, 16, 70, 71, 72, 73, 74, 75] (by decide +kernel) (by decide +kernel)
set_option maxRecDepth 20000 in
theorem gX1_workOutFrom_X5_setting : GoodIn wsX1_workOutFrom (wsV RX1 44 RX5 yX5_setting wsX5_setting) := goodIn_app (goodIn_of _ (by decide +kernel)) ggX1_workOutFrom_X5_setting
set_option maxRecDepth 20000 in
theorem ggX1_workOutFrom_X5_reach : GoodIn wsX1_workOutFrom wsX5_reach := goodIn_r _ [20, 21, 22, 23, 24, 25, 12, 13, 14, 15, 16, 26, 27, 28, 29, 30, 31, 32, 33, 34, 35, 36, 37, 38, 70, 71, 72, 73, 74, 75] (by decide +kernel) (by decide +kernel)
set_option maxRecDepth 20000 in
theorem gX1_workOutFrom_X5_reach : GoodIn wsX1_workOutFrom (wsV RX1 53 RX5 yX5_reach wsX5_reach) := goodIn_app (goodIn_of _ (by decide +kernel)) ggX1_workOutFrom_X5_reach
set_option maxRecDepth 20000 in
theorem ggX1_workOutFrom_X1_offer : GoodIn wsX1_workOutFrom wsX1_offer := goodIn_r _ [42, 1, 2, 43, 44, 8, 9, 6, 10, 66, 67, 68, 69] (by decide +kernel) (by decide +kernel)
set_option maxRecDepth 20000 in
theorem gX1_workOutFrom_X1_offer : GoodIn wsX1_workOutFrom (wsV RX1 57 RX1 yX1_offer wsX1_offer) := goodIn_app (goodIn_of _ (by decide +kernel)) ggX1_workOutFrom_X1_offer
set_option maxRecDepth 20000 in
theorem ggX1_workOutFrom_X5_calmerTrust : GoodIn wsX1_workOutFrom wsX5_calmerTrust := goodIn_r _ [48, 21, 22, 23, 24, 49, 50, 51, 14, 52, 53, 31, 32, 33, 34, 35, 70, 71, 72, 73, 74, 75] (by decide +kernel) (by decide +kernel)
set_option maxRecDepth 20000 in
theorem gX1_workOutFrom_X5_calmerTrust : GoodIn wsX1_workOutFrom (wsV RX1 61 RX5 yX5_calmerTrust wsX5_calmerTrust) := goodIn_app (goodIn_of _ (by decide +kernel)) ggX1_workOutFrom_X5_calmerTrust
set_option maxRecDepth 20000 in
theorem ggX1_workOutFrom_X5_calmerLiking : GoodIn wsX1_workOutFrom wsX5_calmerLiking := goodIn_r _ [57, 21, 22, 23, 24] (by decide +kernel) (by decide +kernel)
set_option maxRecDepth 20000 in
theorem gX1_workOutFrom_X5_calmerLiking : GoodIn wsX1_workOutFrom (wsV RX1 64 RX5 yX5_calmerLiking wsX5_calmerLiking) := goodIn_app (goodIn_of _ (by decide +kernel)) ggX1_workOutFrom_X5_calmerLiking
set_option maxRecDepth 20000 in
theorem ggX1_workOutFrom_X1_fewestAt : GoodIn wsX1_workOutFrom wsX1_fewestAt := goodIn_r _ [61, 1, 8, 9, 6, 10, 66, 67, 68, 69] (by decide +kernel) (by decide +kernel)
set_option maxRecDepth 20000 in
theorem gX1_workOutFrom_X1_fewestAt : GoodIn wsX1_workOutFrom (wsV RX1 33 RX1 yX1_fewestAt wsX1_fewestAt) := goodIn_app (goodIn_of _ (by decide +kernel)) ggX1_workOutFrom_X1_fewestAt
set_option maxRecDepth 20000 in
theorem ggX1_workOutFrom_X1_rowsAt : GoodIn wsX1_workOutFrom wsX1_rowsAt := goodIn_r _ [65, 2, 8, 9, 6, 10, 66, 67, 68, 69] (by decide +kernel) (by decide +kernel)
set_option maxRecDepth 20000 in
theorem gX1_workOutFrom_X1_rowsAt : GoodIn wsX1_workOutFrom (wsV RX1 37 RX1 yX1_rowsAt wsX1_rowsAt) := goodIn_app (goodIn_of _ (by decide +kernel)) ggX1_workOutFrom_X1_rowsAt
theorem dX1_workOutFrom_0 : decode cX1_workOutFrom 0 = .ok (.iload_n 2, 1) := by decide +kernel
theorem dX1_workOutFrom_1 : decode cX1_workOutFrom 1 = .ok (.iload_n 3, 1) := by decide +kernel
theorem dX1_workOutFrom_2 : decode cX1_workOutFrom 2 = .ok (.invokestatic 29, 3) := by decide +kernel
theorem dX1_workOutFrom_5 : decode cX1_workOutFrom 5 = .ok (.istore 4, 2) := by decide +kernel
theorem dX1_workOutFrom_7 : decode cX1_workOutFrom 7 = .ok (.iload 4, 2) := by decide +kernel
theorem dX1_workOutFrom_9 : decode cX1_workOutFrom 9 = .ok (.invokestatic 25, 3) := by decide +kernel
theorem dX1_workOutFrom_12 : decode cX1_workOutFrom 12 = .ok (.ifCond .ne 4, 3) := by decide +kernel
theorem dX1_workOutFrom_15 : decode cX1_workOutFrom 15 = .ok (.return_, 1) := by decide +kernel
theorem dX1_workOutFrom_16 : decode cX1_workOutFrom 16 = .ok (.aload_n 0, 1) := by decide +kernel
theorem dX1_workOutFrom_17 : decode cX1_workOutFrom 17 = .ok (.getfield 11, 3) := by decide +kernel
theorem dX1_workOutFrom_20 : decode cX1_workOutFrom 20 = .ok (.iload 4, 2) := by decide +kernel
theorem dX1_workOutFrom_22 : decode cX1_workOutFrom 22 = .ok (.iconst 0, 1) := by decide +kernel
theorem dX1_workOutFrom_23 : decode cX1_workOutFrom 23 = .ok (.iastore, 1) := by decide +kernel
theorem dX1_workOutFrom_24 : decode cX1_workOutFrom 24 = .ok (.aload_n 0, 1) := by decide +kernel
theorem dX1_workOutFrom_25 : decode cX1_workOutFrom 25 = .ok (.getfield 15, 3) := by decide +kernel
theorem dX1_workOutFrom_28 : decode cX1_workOutFrom 28 = .ok (.iload 4, 2) := by decide +kernel
theorem dX1_workOutFrom_30 : decode cX1_workOutFrom 30 = .ok (.iconst 0, 1) := by decide +kernel
theorem dX1_workOutFrom_31 : decode cX1_workOutFrom 31 = .ok (.iastore, 1) := by decide +kernel
theorem dX1_workOutFrom_32 : decode cX1_workOutFrom 32 = .ok (.aload_n 1, 1) := by decide +kernel
theorem dX1_workOutFrom_33 : decode cX1_workOutFrom 33 = .ok (.iconst 3, 1) := by decide +kernel
theorem dX1_workOutFrom_34 : decode cX1_workOutFrom 34 = .ok (.invokevirtual 44, 3) := by decide +kernel
theorem dX1_workOutFrom_37 : decode cX1_workOutFrom 37 = .ok (.istore 5, 2) := by decide +kernel
theorem dX1_workOutFrom_39 : decode cX1_workOutFrom 39 = .ok (.iconst 0, 1) := by decide +kernel
theorem dX1_workOutFrom_40 : decode cX1_workOutFrom 40 = .ok (.istore 6, 2) := by decide +kernel
theorem dX1_workOutFrom_42 : decode cX1_workOutFrom 42 = .ok (.iload 6, 2) := by decide +kernel
theorem dX1_workOutFrom_44 : decode cX1_workOutFrom 44 = .ok (.aload_n 1, 1) := by decide +kernel
theorem dX1_workOutFrom_45 : decode cX1_workOutFrom 45 = .ok (.getfield 49, 3) := by decide +kernel
theorem dX1_workOutFrom_48 : decode cX1_workOutFrom 48 = .ok (.if_icmp .ge 109, 3) := by decide +kernel
theorem dX1_workOutFrom_51 : decode cX1_workOutFrom 51 = .ok (.aload_n 1, 1) := by decide +kernel
theorem dX1_workOutFrom_52 : decode cX1_workOutFrom 52 = .ok (.iload 6, 2) := by decide +kernel
theorem dX1_workOutFrom_54 : decode cX1_workOutFrom 54 = .ok (.iload_n 2, 1) := by decide +kernel
theorem dX1_workOutFrom_55 : decode cX1_workOutFrom 55 = .ok (.iload_n 3, 1) := by decide +kernel
theorem dX1_workOutFrom_56 : decode cX1_workOutFrom 56 = .ok (.invokevirtual 53, 3) := by decide +kernel
theorem dX1_workOutFrom_59 : decode cX1_workOutFrom 59 = .ok (.istore 7, 2) := by decide +kernel
theorem dX1_workOutFrom_61 : decode cX1_workOutFrom 61 = .ok (.iload 7, 2) := by decide +kernel
theorem dX1_workOutFrom_63 : decode cX1_workOutFrom 63 = .ok (.iload 5, 2) := by decide +kernel
theorem dX1_workOutFrom_65 : decode cX1_workOutFrom 65 = .ok (.if_icmp .lt 22, 3) := by decide +kernel
theorem dX1_workOutFrom_68 : decode cX1_workOutFrom 68 = .ok (.aload_n 0, 1) := by decide +kernel
theorem dX1_workOutFrom_69 : decode cX1_workOutFrom 69 = .ok (.iload 4, 2) := by decide +kernel
theorem dX1_workOutFrom_71 : decode cX1_workOutFrom 71 = .ok (.iload 6, 2) := by decide +kernel
theorem dX1_workOutFrom_73 : decode cX1_workOutFrom 73 = .ok (.iconst 1, 1) := by decide +kernel
theorem dX1_workOutFrom_74 : decode cX1_workOutFrom 74 = .ok (.iload 7, 2) := by decide +kernel
theorem dX1_workOutFrom_76 : decode cX1_workOutFrom 76 = .ok (.iload 5, 2) := by decide +kernel
theorem dX1_workOutFrom_78 : decode cX1_workOutFrom 78 = .ok (.isub, 1) := by decide +kernel
theorem dX1_workOutFrom_79 : decode cX1_workOutFrom 79 = .ok (.iconst 1, 1) := by decide +kernel
theorem dX1_workOutFrom_80 : decode cX1_workOutFrom 80 = .ok (.iadd, 1) := by decide +kernel
theorem dX1_workOutFrom_81 : decode cX1_workOutFrom 81 = .ok (.invokevirtual 57, 3) := by decide +kernel
theorem dX1_workOutFrom_84 : decode cX1_workOutFrom 84 = .ok (.goto 67, 3) := by decide +kernel
theorem dX1_workOutFrom_87 : decode cX1_workOutFrom 87 = .ok (.iload 7, 2) := by decide +kernel
theorem dX1_workOutFrom_89 : decode cX1_workOutFrom 89 = .ok (.iconst 1, 1) := by decide +kernel
theorem dX1_workOutFrom_90 : decode cX1_workOutFrom 90 = .ok (.if_icmp .lt 61, 3) := by decide +kernel
theorem dX1_workOutFrom_93 : decode cX1_workOutFrom 93 = .ok (.aload_n 1, 1) := by decide +kernel
theorem dX1_workOutFrom_94 : decode cX1_workOutFrom 94 = .ok (.iload 6, 2) := by decide +kernel
theorem dX1_workOutFrom_96 : decode cX1_workOutFrom 96 = .ok (.iload_n 2, 1) := by decide +kernel
theorem dX1_workOutFrom_97 : decode cX1_workOutFrom 97 = .ok (.invokevirtual 61, 3) := by decide +kernel
theorem dX1_workOutFrom_100 : decode cX1_workOutFrom 100 = .ok (.aload_n 1, 1) := by decide +kernel
theorem dX1_workOutFrom_101 : decode cX1_workOutFrom 101 = .ok (.iload_n 3, 1) := by decide +kernel
theorem dX1_workOutFrom_102 : decode cX1_workOutFrom 102 = .ok (.invokevirtual 64, 3) := by decide +kernel
theorem dX1_workOutFrom_105 : decode cX1_workOutFrom 105 = .ok (.invokestatic 29, 3) := by decide +kernel
theorem dX1_workOutFrom_108 : decode cX1_workOutFrom 108 = .ok (.istore 8, 2) := by decide +kernel
theorem dX1_workOutFrom_110 : decode cX1_workOutFrom 110 = .ok (.iload 8, 2) := by decide +kernel
theorem dX1_workOutFrom_112 : decode cX1_workOutFrom 112 = .ok (.iload 4, 2) := by decide +kernel
theorem dX1_workOutFrom_114 : decode cX1_workOutFrom 114 = .ok (.if_icmp .eq 37, 3) := by decide +kernel
theorem dX1_workOutFrom_117 : decode cX1_workOutFrom 117 = .ok (.aload_n 0, 1) := by decide +kernel
theorem dX1_workOutFrom_118 : decode cX1_workOutFrom 118 = .ok (.iload 8, 2) := by decide +kernel
theorem dX1_workOutFrom_120 : decode cX1_workOutFrom 120 = .ok (.invokevirtual 33, 3) := by decide +kernel
theorem dX1_workOutFrom_123 : decode cX1_workOutFrom 123 = .ok (.ifCond .le 28, 3) := by decide +kernel
theorem dX1_workOutFrom_126 : decode cX1_workOutFrom 126 = .ok (.aload_n 0, 1) := by decide +kernel
theorem dX1_workOutFrom_127 : decode cX1_workOutFrom 127 = .ok (.iload 4, 2) := by decide +kernel
theorem dX1_workOutFrom_129 : decode cX1_workOutFrom 129 = .ok (.iload 6, 2) := by decide +kernel
theorem dX1_workOutFrom_131 : decode cX1_workOutFrom 131 = .ok (.aload_n 0, 1) := by decide +kernel
theorem dX1_workOutFrom_132 : decode cX1_workOutFrom 132 = .ok (.iload 8, 2) := by decide +kernel
theorem dX1_workOutFrom_134 : decode cX1_workOutFrom 134 = .ok (.invokevirtual 33, 3) := by decide +kernel
theorem dX1_workOutFrom_137 : decode cX1_workOutFrom 137 = .ok (.iconst 1, 1) := by decide +kernel
theorem dX1_workOutFrom_138 : decode cX1_workOutFrom 138 = .ok (.iadd, 1) := by decide +kernel
theorem dX1_workOutFrom_139 : decode cX1_workOutFrom 139 = .ok (.iload 7, 2) := by decide +kernel
theorem dX1_workOutFrom_141 : decode cX1_workOutFrom 141 = .ok (.aload_n 0, 1) := by decide +kernel
theorem dX1_workOutFrom_142 : decode cX1_workOutFrom 142 = .ok (.iload 8, 2) := by decide +kernel
theorem dX1_workOutFrom_144 : decode cX1_workOutFrom 144 = .ok (.invokevirtual 37, 3) := by decide +kernel
theorem dX1_workOutFrom_147 : decode cX1_workOutFrom 147 = .ok (.imul, 1) := by decide +kernel
theorem dX1_workOutFrom_148 : decode cX1_workOutFrom 148 = .ok (.invokevirtual 57, 3) := by decide +kernel
theorem dX1_workOutFrom_151 : decode cX1_workOutFrom 151 = .ok (.iinc 6 1, 3) := by decide +kernel
theorem dX1_workOutFrom_154 : decode cX1_workOutFrom 154 = .ok (.goto (-112), 3) := by decide +kernel
theorem dX1_workOutFrom_157 : decode cX1_workOutFrom 157 = .ok (.return_, 1) := by decide +kernel
set_option maxRecDepth 20000 in
theorem ggX1_offer_X1_isPlace : GoodIn wsX1_offer wsX1_isPlace := goodIn_r _ [8] (by decide +kernel) (by decide +kernel)
set_option maxRecDepth 20000 in
theorem gX1_offer_X1_isPlace : GoodIn wsX1_offer (va_wsS RX1 25 yX1_isPlace wsX1_isPlace) := goodIn_app (goodIn_of _ (by decide +kernel)) ggX1_offer_X1_isPlace
theorem dX1_offer_0 : decode cX1_offer 0 = .ok (.iload_n 1, 1) := by decide +kernel
theorem dX1_offer_1 : decode cX1_offer 1 = .ok (.invokestatic 25, 3) := by decide +kernel
theorem dX1_offer_4 : decode cX1_offer 4 = .ok (.ifCond .ne 4, 3) := by decide +kernel
theorem dX1_offer_7 : decode cX1_offer 7 = .ok (.return_, 1) := by decide +kernel
theorem dX1_offer_8 : decode cX1_offer 8 = .ok (.aload_n 0, 1) := by decide +kernel
theorem dX1_offer_9 : decode cX1_offer 9 = .ok (.getfield 11, 3) := by decide +kernel
theorem dX1_offer_12 : decode cX1_offer 12 = .ok (.iload_n 1, 1) := by decide +kernel
theorem dX1_offer_13 : decode cX1_offer 13 = .ok (.iaload, 1) := by decide +kernel
theorem dX1_offer_14 : decode cX1_offer 14 = .ok (.ifCond .eq 13, 3) := by decide +kernel
theorem dX1_offer_17 : decode cX1_offer 17 = .ok (.iload_n 3, 1) := by decide +kernel
theorem dX1_offer_18 : decode cX1_offer 18 = .ok (.aload_n 0, 1) := by decide +kernel
theorem dX1_offer_19 : decode cX1_offer 19 = .ok (.getfield 11, 3) := by decide +kernel
theorem dX1_offer_22 : decode cX1_offer 22 = .ok (.iload_n 1, 1) := by decide +kernel
theorem dX1_offer_23 : decode cX1_offer 23 = .ok (.iaload, 1) := by decide +kernel
theorem dX1_offer_24 : decode cX1_offer 24 = .ok (.if_icmp .ge 31, 3) := by decide +kernel
theorem dX1_offer_27 : decode cX1_offer 27 = .ok (.aload_n 0, 1) := by decide +kernel
theorem dX1_offer_28 : decode cX1_offer 28 = .ok (.getfield 11, 3) := by decide +kernel
theorem dX1_offer_31 : decode cX1_offer 31 = .ok (.iload_n 1, 1) := by decide +kernel
theorem dX1_offer_32 : decode cX1_offer 32 = .ok (.iload_n 3, 1) := by decide +kernel
theorem dX1_offer_33 : decode cX1_offer 33 = .ok (.iastore, 1) := by decide +kernel
theorem dX1_offer_34 : decode cX1_offer 34 = .ok (.aload_n 0, 1) := by decide +kernel
theorem dX1_offer_35 : decode cX1_offer 35 = .ok (.getfield 15, 3) := by decide +kernel
theorem dX1_offer_38 : decode cX1_offer 38 = .ok (.iload_n 1, 1) := by decide +kernel
theorem dX1_offer_39 : decode cX1_offer 39 = .ok (.iload 4, 2) := by decide +kernel
theorem dX1_offer_41 : decode cX1_offer 41 = .ok (.ldc 67, 2) := by decide +kernel
theorem dX1_offer_43 : decode cX1_offer 43 = .ok (.irem, 1) := by decide +kernel
theorem dX1_offer_44 : decode cX1_offer 44 = .ok (.iastore, 1) := by decide +kernel
theorem dX1_offer_45 : decode cX1_offer 45 = .ok (.aload_n 0, 1) := by decide +kernel
theorem dX1_offer_46 : decode cX1_offer 46 = .ok (.getfield 18, 3) := by decide +kernel
theorem dX1_offer_49 : decode cX1_offer 49 = .ok (.iload_n 1, 1) := by decide +kernel
theorem dX1_offer_50 : decode cX1_offer 50 = .ok (.iload_n 2, 1) := by decide +kernel
theorem dX1_offer_51 : decode cX1_offer 51 = .ok (.iastore, 1) := by decide +kernel
theorem dX1_offer_52 : decode cX1_offer 52 = .ok (.goto 31, 3) := by decide +kernel
theorem dX1_offer_55 : decode cX1_offer 55 = .ok (.iload_n 3, 1) := by decide +kernel
theorem dX1_offer_56 : decode cX1_offer 56 = .ok (.aload_n 0, 1) := by decide +kernel
theorem dX1_offer_57 : decode cX1_offer 57 = .ok (.getfield 11, 3) := by decide +kernel
theorem dX1_offer_60 : decode cX1_offer 60 = .ok (.iload_n 1, 1) := by decide +kernel
theorem dX1_offer_61 : decode cX1_offer 61 = .ok (.iaload, 1) := by decide +kernel
theorem dX1_offer_62 : decode cX1_offer 62 = .ok (.if_icmp .ne 21, 3) := by decide +kernel
theorem dX1_offer_65 : decode cX1_offer 65 = .ok (.aload_n 0, 1) := by decide +kernel
theorem dX1_offer_66 : decode cX1_offer 66 = .ok (.getfield 15, 3) := by decide +kernel
theorem dX1_offer_69 : decode cX1_offer 69 = .ok (.iload_n 1, 1) := by decide +kernel
theorem dX1_offer_70 : decode cX1_offer 70 = .ok (.aload_n 0, 1) := by decide +kernel
theorem dX1_offer_71 : decode cX1_offer 71 = .ok (.getfield 15, 3) := by decide +kernel
theorem dX1_offer_74 : decode cX1_offer 74 = .ok (.iload_n 1, 1) := by decide +kernel
theorem dX1_offer_75 : decode cX1_offer 75 = .ok (.iaload, 1) := by decide +kernel
theorem dX1_offer_76 : decode cX1_offer 76 = .ok (.iload 4, 2) := by decide +kernel
theorem dX1_offer_78 : decode cX1_offer 78 = .ok (.iadd, 1) := by decide +kernel
theorem dX1_offer_79 : decode cX1_offer 79 = .ok (.ldc 67, 2) := by decide +kernel
theorem dX1_offer_81 : decode cX1_offer 81 = .ok (.irem, 1) := by decide +kernel
theorem dX1_offer_82 : decode cX1_offer 82 = .ok (.iastore, 1) := by decide +kernel
theorem dX1_offer_83 : decode cX1_offer 83 = .ok (.return_, 1) := by decide +kernel
set_option maxRecDepth 20000 in
theorem ggX1_morningAt_X1_placeOf : GoodIn wsX1_morningAt wsX1_placeOf := goodIn_r _ [6] (by decide +kernel) (by decide +kernel)
set_option maxRecDepth 20000 in
theorem gX1_morningAt_X1_placeOf : GoodIn wsX1_morningAt (va_wsS RX1 29 yX1_placeOf wsX1_placeOf) := goodIn_app (goodIn_of _ (by decide +kernel)) ggX1_morningAt_X1_placeOf
set_option maxRecDepth 20000 in
theorem ggX1_morningAt_X1_isPlace : GoodIn wsX1_morningAt wsX1_isPlace := goodIn_r _ [9] (by decide +kernel) (by decide +kernel)
set_option maxRecDepth 20000 in
theorem gX1_morningAt_X1_isPlace : GoodIn wsX1_morningAt (va_wsS RX1 25 yX1_isPlace wsX1_isPlace) := goodIn_app (goodIn_of _ (by decide +kernel)) ggX1_morningAt_X1_isPlace
set_option maxRecDepth 20000 in
theorem ggX1_morningAt_X5_calmerTrust : GoodIn wsX1_morningAt wsX5_calmerTrust := goodIn_r _ [14, 15, 16, 17, 18, 19, 20, 21, 13, 22, 23, 24, 25, 26, 27, 28, 42, 43, 44, 45, 46, 47] (by decide +kernel) (by decide +kernel)
set_option maxRecDepth 20000 in
theorem gX1_morningAt_X5_calmerTrust : GoodIn wsX1_morningAt (wsV RX1 61 RX5 yX5_calmerTrust wsX5_calmerTrust) := goodIn_app (goodIn_of _ (by decide +kernel)) ggX1_morningAt_X5_calmerTrust
set_option maxRecDepth 20000 in
theorem ggX1_morningAt_X5_calmerLiking : GoodIn wsX1_morningAt wsX5_calmerLiking := goodIn_r _ [32, 15, 16, 17, 18] (by decide +kernel) (by decide +kernel)
set_option maxRecDepth 20000 in
theorem gX1_morningAt_X5_calmerLiking : GoodIn wsX1_morningAt (wsV RX1 64 RX5 yX5_calmerLiking wsX5_calmerLiking) := goodIn_app (goodIn_of _ (by decide +kernel)) ggX1_morningAt_X5_calmerLiking
set_option maxRecDepth 20000 in
theorem ggX1_morningAt_X5_setting : GoodIn wsX1_morningAt wsX5_setting := goodIn_r _ [36, 37, 42, 43, 44, 45, 46, 47] (by decide +kernel) (by decide +kernel)
set_option maxRecDepth 20000 in
theorem gX1_morningAt_X5_setting : GoodIn wsX1_morningAt (wsV RX1 44 RX5 yX5_setting wsX5_setting) := goodIn_app (goodIn_of _ (by decide +kernel)) ggX1_morningAt_X5_setting
theorem dX1_morningAt_0 : decode cX1_morningAt 0 = .ok (.iload_n 2, 1) := by decide +kernel
theorem dX1_morningAt_1 : decode cX1_morningAt 1 = .ok (.iload_n 3, 1) := by decide +kernel
theorem dX1_morningAt_2 : decode cX1_morningAt 2 = .ok (.invokestatic 29, 3) := by decide +kernel
theorem dX1_morningAt_5 : decode cX1_morningAt 5 = .ok (.istore 5, 2) := by decide +kernel
theorem dX1_morningAt_7 : decode cX1_morningAt 7 = .ok (.iload_n 2, 1) := by decide +kernel
theorem dX1_morningAt_8 : decode cX1_morningAt 8 = .ok (.istore 6, 2) := by decide +kernel
theorem dX1_morningAt_10 : decode cX1_morningAt 10 = .ok (.iload_n 3, 1) := by decide +kernel
theorem dX1_morningAt_11 : decode cX1_morningAt 11 = .ok (.istore 7, 2) := by decide +kernel
theorem dX1_morningAt_13 : decode cX1_morningAt 13 = .ok (.iconst 0, 1) := by decide +kernel
theorem dX1_morningAt_14 : decode cX1_morningAt 14 = .ok (.istore 8, 2) := by decide +kernel
theorem dX1_morningAt_16 : decode cX1_morningAt 16 = .ok (.iload 8, 2) := by decide +kernel
theorem dX1_morningAt_18 : decode cX1_morningAt 18 = .ok (.iload 4, 2) := by decide +kernel
theorem dX1_morningAt_20 : decode cX1_morningAt 20 = .ok (.if_icmp .ge 49, 3) := by decide +kernel
theorem dX1_morningAt_23 : decode cX1_morningAt 23 = .ok (.iload 5, 2) := by decide +kernel
theorem dX1_morningAt_25 : decode cX1_morningAt 25 = .ok (.invokestatic 25, 3) := by decide +kernel
theorem dX1_morningAt_28 : decode cX1_morningAt 28 = .ok (.ifCond .eq 41, 3) := by decide +kernel
theorem dX1_morningAt_31 : decode cX1_morningAt 31 = .ok (.aload_n 1, 1) := by decide +kernel
theorem dX1_morningAt_32 : decode cX1_morningAt 32 = .ok (.aload_n 0, 1) := by decide +kernel
theorem dX1_morningAt_33 : decode cX1_morningAt 33 = .ok (.getfield 18, 3) := by decide +kernel
theorem dX1_morningAt_36 : decode cX1_morningAt 36 = .ok (.iload 5, 2) := by decide +kernel
theorem dX1_morningAt_38 : decode cX1_morningAt 38 = .ok (.iaload, 1) := by decide +kernel
theorem dX1_morningAt_39 : decode cX1_morningAt 39 = .ok (.iload 6, 2) := by decide +kernel
theorem dX1_morningAt_41 : decode cX1_morningAt 41 = .ok (.invokevirtual 61, 3) := by decide +kernel
theorem dX1_morningAt_44 : decode cX1_morningAt 44 = .ok (.istore 6, 2) := by decide +kernel
theorem dX1_morningAt_46 : decode cX1_morningAt 46 = .ok (.aload_n 1, 1) := by decide +kernel
theorem dX1_morningAt_47 : decode cX1_morningAt 47 = .ok (.iload 7, 2) := by decide +kernel
theorem dX1_morningAt_49 : decode cX1_morningAt 49 = .ok (.invokevirtual 64, 3) := by decide +kernel
theorem dX1_morningAt_52 : decode cX1_morningAt 52 = .ok (.istore 7, 2) := by decide +kernel
theorem dX1_morningAt_54 : decode cX1_morningAt 54 = .ok (.iload 6, 2) := by decide +kernel
theorem dX1_morningAt_56 : decode cX1_morningAt 56 = .ok (.iload 7, 2) := by decide +kernel
theorem dX1_morningAt_58 : decode cX1_morningAt 58 = .ok (.invokestatic 29, 3) := by decide +kernel
theorem dX1_morningAt_61 : decode cX1_morningAt 61 = .ok (.istore 5, 2) := by decide +kernel
theorem dX1_morningAt_63 : decode cX1_morningAt 63 = .ok (.iinc 8 1, 3) := by decide +kernel
theorem dX1_morningAt_66 : decode cX1_morningAt 66 = .ok (.goto (-50), 3) := by decide +kernel
theorem dX1_morningAt_69 : decode cX1_morningAt 69 = .ok (.iload 5, 2) := by decide +kernel
theorem dX1_morningAt_71 : decode cX1_morningAt 71 = .ok (.invokestatic 25, 3) := by decide +kernel
theorem dX1_morningAt_74 : decode cX1_morningAt 74 = .ok (.ifCond .ne 6, 3) := by decide +kernel
theorem dX1_morningAt_77 : decode cX1_morningAt 77 = .ok (.bipush (-5), 2) := by decide +kernel
theorem dX1_morningAt_79 : decode cX1_morningAt 79 = .ok (.ireturn, 1) := by decide +kernel
theorem dX1_morningAt_80 : decode cX1_morningAt 80 = .ok (.bipush 100, 2) := by decide +kernel
theorem dX1_morningAt_82 : decode cX1_morningAt 82 = .ok (.aload_n 0, 1) := by decide +kernel
theorem dX1_morningAt_83 : decode cX1_morningAt 83 = .ok (.getfield 18, 3) := by decide +kernel
theorem dX1_morningAt_86 : decode cX1_morningAt 86 = .ok (.iload 5, 2) := by decide +kernel
theorem dX1_morningAt_88 : decode cX1_morningAt 88 = .ok (.iaload, 1) := by decide +kernel
theorem dX1_morningAt_89 : decode cX1_morningAt 89 = .ok (.imul, 1) := by decide +kernel
theorem dX1_morningAt_90 : decode cX1_morningAt 90 = .ok (.aload_n 0, 1) := by decide +kernel
theorem dX1_morningAt_91 : decode cX1_morningAt 91 = .ok (.getfield 11, 3) := by decide +kernel
theorem dX1_morningAt_94 : decode cX1_morningAt 94 = .ok (.iload 5, 2) := by decide +kernel
theorem dX1_morningAt_96 : decode cX1_morningAt 96 = .ok (.iaload, 1) := by decide +kernel
theorem dX1_morningAt_97 : decode cX1_morningAt 97 = .ok (.iconst 1, 1) := by decide +kernel
theorem dX1_morningAt_98 : decode cX1_morningAt 98 = .ok (.if_icmp .ne 11, 3) := by decide +kernel
theorem dX1_morningAt_101 : decode cX1_morningAt 101 = .ok (.aload_n 1, 1) := by decide +kernel
theorem dX1_morningAt_102 : decode cX1_morningAt 102 = .ok (.iconst 3, 1) := by decide +kernel
theorem dX1_morningAt_103 : decode cX1_morningAt 103 = .ok (.invokevirtual 44, 3) := by decide +kernel
theorem dX1_morningAt_106 : decode cX1_morningAt 106 = .ok (.goto 4, 3) := by decide +kernel
theorem dX1_morningAt_109 : decode cX1_morningAt 109 = .ok (.iconst 1, 1) := by decide +kernel
theorem dX1_morningAt_110 : decode cX1_morningAt 110 = .ok (.iadd, 1) := by decide +kernel
theorem dX1_morningAt_111 : decode cX1_morningAt 111 = .ok (.ireturn, 1) := by decide +kernel
theorem dX2_init_0 : decode cX2_init 0 = .ok (.aload_n 0, 1) := by decide +kernel
theorem dX2_init_1 : decode cX2_init 1 = .ok (.invokespecial 3, 3) := by decide +kernel
theorem dX2_init_4 : decode cX2_init 4 = .ok (.aload_n 0, 1) := by decide +kernel
theorem dX2_init_5 : decode cX2_init 5 = .ok (.bipush 10, 2) := by decide +kernel
theorem dX2_init_7 : decode cX2_init 7 = .ok (.newarray .long, 2) := by decide +kernel
theorem dX2_init_9 : decode cX2_init 9 = .ok (.putfield 9, 3) := by decide +kernel
theorem dX2_init_12 : decode cX2_init 12 = .ok (.aload_n 0, 1) := by decide +kernel
theorem dX2_init_13 : decode cX2_init 13 = .ok (.iconst 0, 1) := by decide +kernel
theorem dX2_init_14 : decode cX2_init 14 = .ok (.putfield 15, 3) := by decide +kernel
theorem dX2_init_17 : decode cX2_init 17 = .ok (.return_, 1) := by decide +kernel
set_option maxRecDepth 20000 in
theorem ggX2_add_X2_loseOldest : GoodIn wsX2_add wsX2_loseOldest := goodIn_r _ [7, 2, 1, 8, 9] (by decide +kernel) (by decide +kernel)
set_option maxRecDepth 20000 in
theorem gX2_add_X2_loseOldest : GoodIn wsX2_add (wsV RX2 19 RX2 yX2_loseOldest wsX2_loseOldest) := goodIn_app (goodIn_of _ (by decide +kernel)) ggX2_add_X2_loseOldest
theorem dX2_add_0 : decode cX2_add 0 = .ok (.aload_n 0, 1) := by decide +kernel
theorem dX2_add_1 : decode cX2_add 1 = .ok (.getfield 15, 3) := by decide +kernel
theorem dX2_add_4 : decode cX2_add 4 = .ok (.bipush 10, 2) := by decide +kernel
theorem dX2_add_6 : decode cX2_add 6 = .ok (.if_icmp .lt 7, 3) := by decide +kernel
theorem dX2_add_9 : decode cX2_add 9 = .ok (.aload_n 0, 1) := by decide +kernel
theorem dX2_add_10 : decode cX2_add 10 = .ok (.invokevirtual 19, 3) := by decide +kernel
theorem dX2_add_13 : decode cX2_add 13 = .ok (.aload_n 0, 1) := by decide +kernel
theorem dX2_add_14 : decode cX2_add 14 = .ok (.getfield 15, 3) := by decide +kernel
theorem dX2_add_17 : decode cX2_add 17 = .ok (.ifCond .lt 12, 3) := by decide +kernel
theorem dX2_add_20 : decode cX2_add 20 = .ok (.aload_n 0, 1) := by decide +kernel
theorem dX2_add_21 : decode cX2_add 21 = .ok (.getfield 15, 3) := by decide +kernel
theorem dX2_add_24 : decode cX2_add 24 = .ok (.bipush 10, 2) := by decide +kernel
theorem dX2_add_26 : decode cX2_add 26 = .ok (.if_icmp .lt 4, 3) := by decide +kernel
theorem dX2_add_29 : decode cX2_add 29 = .ok (.return_, 1) := by decide +kernel
theorem dX2_add_30 : decode cX2_add 30 = .ok (.aload_n 0, 1) := by decide +kernel
theorem dX2_add_31 : decode cX2_add 31 = .ok (.getfield 9, 3) := by decide +kernel
theorem dX2_add_34 : decode cX2_add 34 = .ok (.aload_n 0, 1) := by decide +kernel
theorem dX2_add_35 : decode cX2_add 35 = .ok (.getfield 15, 3) := by decide +kernel
theorem dX2_add_38 : decode cX2_add 38 = .ok (.lload_n 1, 1) := by decide +kernel
theorem dX2_add_39 : decode cX2_add 39 = .ok (.lastore, 1) := by decide +kernel
theorem dX2_add_40 : decode cX2_add 40 = .ok (.aload_n 0, 1) := by decide +kernel
theorem dX2_add_41 : decode cX2_add 41 = .ok (.dup, 1) := by decide +kernel
theorem dX2_add_42 : decode cX2_add 42 = .ok (.getfield 15, 3) := by decide +kernel
theorem dX2_add_45 : decode cX2_add 45 = .ok (.iconst 1, 1) := by decide +kernel
theorem dX2_add_46 : decode cX2_add 46 = .ok (.iadd, 1) := by decide +kernel
theorem dX2_add_47 : decode cX2_add 47 = .ok (.putfield 15, 3) := by decide +kernel
theorem dX2_add_50 : decode cX2_add 50 = .ok (.return_, 1) := by decide +kernel
theorem dX2_loseOldest_0 : decode cX2_loseOldest 0 = .ok (.iconst 1, 1) := by decide +kernel
theorem dX2_loseOldest_1 : decode cX2_loseOldest 1 = .ok (.istore_n 1, 1) := by decide +kernel
theorem dX2_loseOldest_2 : decode cX2_loseOldest 2 = .ok (.iload_n 1, 1) := by decide +kernel
theorem dX2_loseOldest_3 : decode cX2_loseOldest 3 = .ok (.bipush 10, 2) := by decide +kernel
theorem dX2_loseOldest_5 : decode cX2_loseOldest 5 = .ok (.if_icmp .ge 23, 3) := by decide +kernel
theorem dX2_loseOldest_8 : decode cX2_loseOldest 8 = .ok (.aload_n 0, 1) := by decide +kernel
theorem dX2_loseOldest_9 : decode cX2_loseOldest 9 = .ok (.getfield 9, 3) := by decide +kernel
theorem dX2_loseOldest_12 : decode cX2_loseOldest 12 = .ok (.iload_n 1, 1) := by decide +kernel
theorem dX2_loseOldest_13 : decode cX2_loseOldest 13 = .ok (.iconst 1, 1) := by decide +kernel
theorem dX2_loseOldest_14 : decode cX2_loseOldest 14 = .ok (.isub, 1) := by decide +kernel
theorem dX2_loseOldest_15 : decode cX2_loseOldest 15 = .ok (.aload_n 0, 1) := by decide +kernel
theorem dX2_loseOldest_16 : decode cX2_loseOldest 16 = .ok (.getfield 9, 3) := by decide +kernel
theorem dX2_loseOldest_19 : decode cX2_loseOldest 19 = .ok (.iload_n 1, 1) := by decide +kernel
theorem dX2_loseOldest_20 : decode cX2_loseOldest 20 = .ok (.laload, 1) := by decide +kernel
theorem dX2_loseOldest_21 : decode cX2_loseOldest 21 = .ok (.lastore, 1) := by decide +kernel
theorem dX2_loseOldest_22 : decode cX2_loseOldest 22 = .ok (.iinc 1 1, 3) := by decide +kernel
theorem dX2_loseOldest_25 : decode cX2_loseOldest 25 = .ok (.goto (-23), 3) := by decide +kernel
theorem dX2_loseOldest_28 : decode cX2_loseOldest 28 = .ok (.aload_n 0, 1) := by decide +kernel
theorem dX2_loseOldest_29 : decode cX2_loseOldest 29 = .ok (.bipush 9, 2) := by decide +kernel
theorem dX2_loseOldest_31 : decode cX2_loseOldest 31 = .ok (.putfield 15, 3) := by decide +kernel
theorem dX2_loseOldest_34 : decode cX2_loseOldest 34 = .ok (.return_, 1) := by decide +kernel
theorem dX2_takeLatest_0 : decode cX2_takeLatest 0 = .ok (.aload_n 0, 1) := by decide +kernel
theorem dX2_takeLatest_1 : decode cX2_takeLatest 1 = .ok (.getfield 15, 3) := by decide +kernel
theorem dX2_takeLatest_4 : decode cX2_takeLatest 4 = .ok (.iconst 1, 1) := by decide +kernel
theorem dX2_takeLatest_5 : decode cX2_takeLatest 5 = .ok (.if_icmp .lt 12, 3) := by decide +kernel
theorem dX2_takeLatest_8 : decode cX2_takeLatest 8 = .ok (.aload_n 0, 1) := by decide +kernel
theorem dX2_takeLatest_9 : decode cX2_takeLatest 9 = .ok (.getfield 15, 3) := by decide +kernel
theorem dX2_takeLatest_12 : decode cX2_takeLatest 12 = .ok (.bipush 10, 2) := by decide +kernel
theorem dX2_takeLatest_14 : decode cX2_takeLatest 14 = .ok (.if_icmp .le 5, 3) := by decide +kernel
theorem dX2_takeLatest_17 : decode cX2_takeLatest 17 = .ok (.lconst 0, 1) := by decide +kernel
theorem dX2_takeLatest_18 : decode cX2_takeLatest 18 = .ok (.lreturn, 1) := by decide +kernel
theorem dX2_takeLatest_19 : decode cX2_takeLatest 19 = .ok (.aload_n 0, 1) := by decide +kernel
theorem dX2_takeLatest_20 : decode cX2_takeLatest 20 = .ok (.dup, 1) := by decide +kernel
theorem dX2_takeLatest_21 : decode cX2_takeLatest 21 = .ok (.getfield 15, 3) := by decide +kernel
theorem dX2_takeLatest_24 : decode cX2_takeLatest 24 = .ok (.iconst 1, 1) := by decide +kernel
theorem dX2_takeLatest_25 : decode cX2_takeLatest 25 = .ok (.isub, 1) := by decide +kernel
theorem dX2_takeLatest_26 : decode cX2_takeLatest 26 = .ok (.putfield 15, 3) := by decide +kernel
theorem dX2_takeLatest_29 : decode cX2_takeLatest 29 = .ok (.aload_n 0, 1) := by decide +kernel
theorem dX2_takeLatest_30 : decode cX2_takeLatest 30 = .ok (.getfield 9, 3) := by decide +kernel
theorem dX2_takeLatest_33 : decode cX2_takeLatest 33 = .ok (.aload_n 0, 1) := by decide +kernel
theorem dX2_takeLatest_34 : decode cX2_takeLatest 34 = .ok (.getfield 15, 3) := by decide +kernel
theorem dX2_takeLatest_37 : decode cX2_takeLatest 37 = .ok (.laload, 1) := by decide +kernel
theorem dX2_takeLatest_38 : decode cX2_takeLatest 38 = .ok (.lreturn, 1) := by decide +kernel
theorem dX2_empty_0 : decode cX2_empty 0 = .ok (.aload_n 0, 1) := by decide +kernel
theorem dX2_empty_1 : decode cX2_empty 1 = .ok (.iconst 0, 1) := by decide +kernel
theorem dX2_empty_2 : decode cX2_empty 2 = .ok (.putfield 15, 3) := by decide +kernel
theorem dX2_empty_5 : decode cX2_empty 5 = .ok (.return_, 1) := by decide +kernel
theorem dX3_init_0 : decode cX3_init 0 = .ok (.aload_n 0, 1) := by decide +kernel
theorem dX3_init_1 : decode cX3_init 1 = .ok (.invokespecial 3, 3) := by decide +kernel
theorem dX3_init_4 : decode cX3_init 4 = .ok (.aload_n 0, 1) := by decide +kernel
theorem dX3_init_5 : decode cX3_init 5 = .ok (.bipush 6, 2) := by decide +kernel
theorem dX3_init_7 : decode cX3_init 7 = .ok (.newarray .int, 2) := by decide +kernel
theorem dX3_init_9 : decode cX3_init 9 = .ok (.putfield 9, 3) := by decide +kernel
theorem dX3_init_12 : decode cX3_init 12 = .ok (.aload_n 0, 1) := by decide +kernel
theorem dX3_init_13 : decode cX3_init 13 = .ok (.bipush 6, 2) := by decide +kernel
theorem dX3_init_15 : decode cX3_init 15 = .ok (.newarray .int, 2) := by decide +kernel
theorem dX3_init_17 : decode cX3_init 17 = .ok (.putfield 15, 3) := by decide +kernel
theorem dX3_init_20 : decode cX3_init 20 = .ok (.aload_n 0, 1) := by decide +kernel
theorem dX3_init_21 : decode cX3_init 21 = .ok (.bipush 6, 2) := by decide +kernel
theorem dX3_init_23 : decode cX3_init 23 = .ok (.newarray .int, 2) := by decide +kernel
theorem dX3_init_25 : decode cX3_init 25 = .ok (.putfield 18, 3) := by decide +kernel
theorem dX3_init_28 : decode cX3_init 28 = .ok (.aload_n 0, 1) := by decide +kernel
theorem dX3_init_29 : decode cX3_init 29 = .ok (.iconst 0, 1) := by decide +kernel
theorem dX3_init_30 : decode cX3_init 30 = .ok (.putfield 21, 3) := by decide +kernel
theorem dX3_init_33 : decode cX3_init 33 = .ok (.return_, 1) := by decide +kernel
theorem dX3_add_0 : decode cX3_add 0 = .ok (.aload_n 0, 1) := by decide +kernel
theorem dX3_add_1 : decode cX3_add 1 = .ok (.getfield 21, 3) := by decide +kernel
theorem dX3_add_4 : decode cX3_add 4 = .ok (.ifCond .lt 12, 3) := by decide +kernel
theorem dX3_add_7 : decode cX3_add 7 = .ok (.aload_n 0, 1) := by decide +kernel
theorem dX3_add_8 : decode cX3_add 8 = .ok (.getfield 21, 3) := by decide +kernel
theorem dX3_add_11 : decode cX3_add 11 = .ok (.bipush 6, 2) := by decide +kernel
theorem dX3_add_13 : decode cX3_add 13 = .ok (.if_icmp .lt 6, 3) := by decide +kernel
theorem dX3_add_16 : decode cX3_add 16 = .ok (.bipush (-3), 2) := by decide +kernel
theorem dX3_add_18 : decode cX3_add 18 = .ok (.ireturn, 1) := by decide +kernel
theorem dX3_add_19 : decode cX3_add 19 = .ok (.aload_n 0, 1) := by decide +kernel
theorem dX3_add_20 : decode cX3_add 20 = .ok (.getfield 9, 3) := by decide +kernel
theorem dX3_add_23 : decode cX3_add 23 = .ok (.aload_n 0, 1) := by decide +kernel
theorem dX3_add_24 : decode cX3_add 24 = .ok (.getfield 21, 3) := by decide +kernel
theorem dX3_add_27 : decode cX3_add 27 = .ok (.iload_n 1, 1) := by decide +kernel
theorem dX3_add_28 : decode cX3_add 28 = .ok (.iastore, 1) := by decide +kernel
theorem dX3_add_29 : decode cX3_add 29 = .ok (.aload_n 0, 1) := by decide +kernel
theorem dX3_add_30 : decode cX3_add 30 = .ok (.getfield 15, 3) := by decide +kernel
theorem dX3_add_33 : decode cX3_add 33 = .ok (.aload_n 0, 1) := by decide +kernel
theorem dX3_add_34 : decode cX3_add 34 = .ok (.getfield 21, 3) := by decide +kernel
theorem dX3_add_37 : decode cX3_add 37 = .ok (.iload_n 2, 1) := by decide +kernel
theorem dX3_add_38 : decode cX3_add 38 = .ok (.iastore, 1) := by decide +kernel
theorem dX3_add_39 : decode cX3_add 39 = .ok (.aload_n 0, 1) := by decide +kernel
theorem dX3_add_40 : decode cX3_add 40 = .ok (.getfield 18, 3) := by decide +kernel
theorem dX3_add_43 : decode cX3_add 43 = .ok (.aload_n 0, 1) := by decide +kernel
theorem dX3_add_44 : decode cX3_add 44 = .ok (.getfield 21, 3) := by decide +kernel
theorem dX3_add_47 : decode cX3_add 47 = .ok (.iload_n 3, 1) := by decide +kernel
theorem dX3_add_48 : decode cX3_add 48 = .ok (.iastore, 1) := by decide +kernel
theorem dX3_add_49 : decode cX3_add 49 = .ok (.aload_n 0, 1) := by decide +kernel
theorem dX3_add_50 : decode cX3_add 50 = .ok (.dup, 1) := by decide +kernel
theorem dX3_add_51 : decode cX3_add 51 = .ok (.getfield 21, 3) := by decide +kernel
theorem dX3_add_54 : decode cX3_add 54 = .ok (.iconst 1, 1) := by decide +kernel
theorem dX3_add_55 : decode cX3_add 55 = .ok (.iadd, 1) := by decide +kernel
theorem dX3_add_56 : decode cX3_add 56 = .ok (.putfield 21, 3) := by decide +kernel
theorem dX3_add_59 : decode cX3_add 59 = .ok (.aload_n 0, 1) := by decide +kernel
theorem dX3_add_60 : decode cX3_add 60 = .ok (.getfield 21, 3) := by decide +kernel
theorem dX3_add_63 : decode cX3_add 63 = .ok (.ireturn, 1) := by decide +kernel
theorem dX3_empty_0 : decode cX3_empty 0 = .ok (.aload_n 0, 1) := by decide +kernel
theorem dX3_empty_1 : decode cX3_empty 1 = .ok (.getfield 21, 3) := by decide +kernel
theorem dX3_empty_4 : decode cX3_empty 4 = .ok (.istore_n 1, 1) := by decide +kernel
theorem dX3_empty_5 : decode cX3_empty 5 = .ok (.aload_n 0, 1) := by decide +kernel
theorem dX3_empty_6 : decode cX3_empty 6 = .ok (.iconst 0, 1) := by decide +kernel
theorem dX3_empty_7 : decode cX3_empty 7 = .ok (.putfield 21, 3) := by decide +kernel
theorem dX3_empty_10 : decode cX3_empty 10 = .ok (.iload_n 1, 1) := by decide +kernel
theorem dX3_empty_11 : decode cX3_empty 11 = .ok (.ireturn, 1) := by decide +kernel
set_option maxRecDepth 20000 in
theorem ggX3_isSoBy_X6_withinMinutes : GoodIn wsX3_isSoBy wsX6_withinMinutes := goodIn_r _ [7, 8, 9, 10, 11, 12, 13, 14] (by decide +kernel) (by decide +kernel)
set_option maxRecDepth 20000 in
theorem gX3_isSoBy_X6_withinMinutes_n25 : GoodIn wsX3_isSoBy (wsX6_withinMinutes) := ggX3_isSoBy_X6_withinMinutes
theorem dX3_isSoBy_0 : decode cX3_isSoBy 0 = .ok (.iconst 0, 1) := by decide +kernel
theorem dX3_isSoBy_1 : decode cX3_isSoBy 1 = .ok (.istore_n 2, 1) := by decide +kernel
theorem dX3_isSoBy_2 : decode cX3_isSoBy 2 = .ok (.iload_n 2, 1) := by decide +kernel
theorem dX3_isSoBy_3 : decode cX3_isSoBy 3 = .ok (.aload_n 0, 1) := by decide +kernel
theorem dX3_isSoBy_4 : decode cX3_isSoBy 4 = .ok (.getfield 21, 3) := by decide +kernel
theorem dX3_isSoBy_7 : decode cX3_isSoBy 7 = .ok (.if_icmp .ge 44, 3) := by decide +kernel
theorem dX3_isSoBy_10 : decode cX3_isSoBy 10 = .ok (.iload_n 2, 1) := by decide +kernel
theorem dX3_isSoBy_11 : decode cX3_isSoBy 11 = .ok (.bipush 6, 2) := by decide +kernel
theorem dX3_isSoBy_13 : decode cX3_isSoBy 13 = .ok (.if_icmp .ge 38, 3) := by decide +kernel
theorem dX3_isSoBy_16 : decode cX3_isSoBy 16 = .ok (.aload_n 0, 1) := by decide +kernel
theorem dX3_isSoBy_17 : decode cX3_isSoBy 17 = .ok (.getfield 9, 3) := by decide +kernel
theorem dX3_isSoBy_20 : decode cX3_isSoBy 20 = .ok (.iload_n 2, 1) := by decide +kernel
theorem dX3_isSoBy_21 : decode cX3_isSoBy 21 = .ok (.iaload, 1) := by decide +kernel
theorem dX3_isSoBy_22 : decode cX3_isSoBy 22 = .ok (.iload_n 1, 1) := by decide +kernel
theorem dX3_isSoBy_23 : decode cX3_isSoBy 23 = .ok (.aload_n 0, 1) := by decide +kernel
theorem dX3_isSoBy_24 : decode cX3_isSoBy 24 = .ok (.getfield 15, 3) := by decide +kernel
theorem dX3_isSoBy_27 : decode cX3_isSoBy 27 = .ok (.iload_n 2, 1) := by decide +kernel
theorem dX3_isSoBy_28 : decode cX3_isSoBy 28 = .ok (.iaload, 1) := by decide +kernel
theorem dX3_isSoBy_29 : decode cX3_isSoBy 29 = .ok (.imul, 1) := by decide +kernel
theorem dX3_isSoBy_30 : decode cX3_isSoBy 30 = .ok (.iadd, 1) := by decide +kernel
theorem dX3_isSoBy_31 : decode cX3_isSoBy 31 = .ok (.invokestatic 25, 3) := by decide +kernel
theorem dX3_isSoBy_34 : decode cX3_isSoBy 34 = .ok (.aload_n 0, 1) := by decide +kernel
theorem dX3_isSoBy_35 : decode cX3_isSoBy 35 = .ok (.getfield 18, 3) := by decide +kernel
theorem dX3_isSoBy_38 : decode cX3_isSoBy 38 = .ok (.iload_n 2, 1) := by decide +kernel
theorem dX3_isSoBy_39 : decode cX3_isSoBy 39 = .ok (.iaload, 1) := by decide +kernel
theorem dX3_isSoBy_40 : decode cX3_isSoBy 40 = .ok (.if_icmp .eq 5, 3) := by decide +kernel
theorem dX3_isSoBy_43 : decode cX3_isSoBy 43 = .ok (.iconst 0, 1) := by decide +kernel
theorem dX3_isSoBy_44 : decode cX3_isSoBy 44 = .ok (.ireturn, 1) := by decide +kernel
theorem dX3_isSoBy_45 : decode cX3_isSoBy 45 = .ok (.iinc 2 1, 3) := by decide +kernel
theorem dX3_isSoBy_48 : decode cX3_isSoBy 48 = .ok (.goto (-46), 3) := by decide +kernel
theorem dX3_isSoBy_51 : decode cX3_isSoBy 51 = .ok (.iconst 1, 1) := by decide +kernel
theorem dX3_isSoBy_52 : decode cX3_isSoBy 52 = .ok (.ireturn, 1) := by decide +kernel
theorem dX4_init_0 : decode cX4_init 0 = .ok (.aload_n 0, 1) := by decide +kernel
theorem dX4_init_1 : decode cX4_init 1 = .ok (.invokespecial 3, 3) := by decide +kernel
theorem dX4_init_4 : decode cX4_init 4 = .ok (.aload_n 0, 1) := by decide +kernel
theorem dX4_init_5 : decode cX4_init 5 = .ok (.bipush 120, 2) := by decide +kernel
theorem dX4_init_7 : decode cX4_init 7 = .ok (.newarray .int, 2) := by decide +kernel
theorem dX4_init_9 : decode cX4_init 9 = .ok (.putfield 9, 3) := by decide +kernel
theorem dX4_init_12 : decode cX4_init 12 = .ok (.aload_n 0, 1) := by decide +kernel
theorem dX4_init_13 : decode cX4_init 13 = .ok (.iconst 0, 1) := by decide +kernel
theorem dX4_init_14 : decode cX4_init 14 = .ok (.putfield 15, 3) := by decide +kernel
theorem dX4_init_17 : decode cX4_init 17 = .ok (.aload_n 0, 1) := by decide +kernel
theorem dX4_init_18 : decode cX4_init 18 = .ok (.iconst 0, 1) := by decide +kernel
theorem dX4_init_19 : decode cX4_init 19 = .ok (.putfield 19, 3) := by decide +kernel
theorem dX4_init_22 : decode cX4_init 22 = .ok (.aload_n 0, 1) := by decide +kernel
theorem dX4_init_23 : decode cX4_init 23 = .ok (.iconst 0, 1) := by decide +kernel
theorem dX4_init_24 : decode cX4_init 24 = .ok (.putfield 22, 3) := by decide +kernel
theorem dX4_init_27 : decode cX4_init 27 = .ok (.aload_n 0, 1) := by decide +kernel
theorem dX4_init_28 : decode cX4_init 28 = .ok (.iconst 0, 1) := by decide +kernel
theorem dX4_init_29 : decode cX4_init 29 = .ok (.putfield 25, 3) := by decide +kernel
theorem dX4_init_32 : decode cX4_init 32 = .ok (.return_, 1) := by decide +kernel
theorem dX4_add_0 : decode cX4_add 0 = .ok (.aload_n 0, 1) := by decide +kernel
theorem dX4_add_1 : decode cX4_add 1 = .ok (.getfield 15, 3) := by decide +kernel
theorem dX4_add_4 : decode cX4_add 4 = .ok (.ifCond .lt 12, 3) := by decide +kernel
theorem dX4_add_7 : decode cX4_add 7 = .ok (.aload_n 0, 1) := by decide +kernel
theorem dX4_add_8 : decode cX4_add 8 = .ok (.getfield 15, 3) := by decide +kernel
theorem dX4_add_11 : decode cX4_add 11 = .ok (.bipush 120, 2) := by decide +kernel
theorem dX4_add_13 : decode cX4_add 13 = .ok (.if_icmp .lt 6, 3) := by decide +kernel
theorem dX4_add_16 : decode cX4_add 16 = .ok (.bipush (-3), 2) := by decide +kernel
theorem dX4_add_18 : decode cX4_add 18 = .ok (.ireturn, 1) := by decide +kernel
theorem dX4_add_19 : decode cX4_add 19 = .ok (.aload_n 0, 1) := by decide +kernel
theorem dX4_add_20 : decode cX4_add 20 = .ok (.getfield 9, 3) := by decide +kernel
theorem dX4_add_23 : decode cX4_add 23 = .ok (.aload_n 0, 1) := by decide +kernel
theorem dX4_add_24 : decode cX4_add 24 = .ok (.getfield 15, 3) := by decide +kernel
theorem dX4_add_27 : decode cX4_add 27 = .ok (.iload_n 1, 1) := by decide +kernel
theorem dX4_add_28 : decode cX4_add 28 = .ok (.iastore, 1) := by decide +kernel
theorem dX4_add_29 : decode cX4_add 29 = .ok (.aload_n 0, 1) := by decide +kernel
theorem dX4_add_30 : decode cX4_add 30 = .ok (.dup, 1) := by decide +kernel
theorem dX4_add_31 : decode cX4_add 31 = .ok (.getfield 15, 3) := by decide +kernel
theorem dX4_add_34 : decode cX4_add 34 = .ok (.iconst 1, 1) := by decide +kernel
theorem dX4_add_35 : decode cX4_add 35 = .ok (.iadd, 1) := by decide +kernel
theorem dX4_add_36 : decode cX4_add 36 = .ok (.putfield 15, 3) := by decide +kernel
theorem dX4_add_39 : decode cX4_add 39 = .ok (.aload_n 0, 1) := by decide +kernel
theorem dX4_add_40 : decode cX4_add 40 = .ok (.getfield 15, 3) := by decide +kernel
theorem dX4_add_43 : decode cX4_add 43 = .ok (.ireturn, 1) := by decide +kernel
theorem dX4_empty_0 : decode cX4_empty 0 = .ok (.aload_n 0, 1) := by decide +kernel
theorem dX4_empty_1 : decode cX4_empty 1 = .ok (.getfield 15, 3) := by decide +kernel
theorem dX4_empty_4 : decode cX4_empty 4 = .ok (.istore_n 1, 1) := by decide +kernel
theorem dX4_empty_5 : decode cX4_empty 5 = .ok (.aload_n 0, 1) := by decide +kernel
theorem dX4_empty_6 : decode cX4_empty 6 = .ok (.iconst 0, 1) := by decide +kernel
theorem dX4_empty_7 : decode cX4_empty 7 = .ok (.putfield 15, 3) := by decide +kernel
theorem dX4_empty_10 : decode cX4_empty 10 = .ok (.iload_n 1, 1) := by decide +kernel
theorem dX4_empty_11 : decode cX4_empty 11 = .ok (.ireturn, 1) := by decide +kernel
set_option maxRecDepth 20000 in
theorem ggX4_tell_X5_startAnew : GoodIn wsX4_tell wsX5_startAnew := goodIn_r _ [9, 10, 11, 12, 77, 78, 79, 80, 81, 82] (by decide +kernel) (by decide +kernel)
set_option maxRecDepth 20000 in
theorem gX4_tell_X5_startAnew : GoodIn wsX4_tell (wsV RX4 28 RX5 yX5_startAnew wsX5_startAnew) := goodIn_app (goodIn_of _ (by decide +kernel)) ggX4_tell_X5_startAnew
set_option maxRecDepth 20000 in
theorem ggX4_tell_X4_skipBlanks : GoodIn wsX4_tell wsX4_skipBlanks := goodIn_r _ [17, 1, 3, 18, 19, 20, 16, 21, 22, 72, 73, 74, 75, 76] (by decide +kernel) (by decide +kernel)
set_option maxRecDepth 20000 in
theorem gX4_tell_X4_skipBlanks : GoodIn wsX4_tell (wsV RX4 33 RX4 yX4_skipBlanks wsX4_skipBlanks) := goodIn_app (goodIn_of _ (by decide +kernel)) ggX4_tell_X4_skipBlanks
set_option maxRecDepth 20000 in
theorem ggX4_tell_X4_readItem : GoodIn wsX4_tell wsX4_readItem := goodIn_r _ [26, 1, 18, 19, 20, 16, 21, 3, 22, 27, 28, 29, 30, 31, 32, 33, 34, 35, 4, 36, 37, 38, 39, 40, 41, 42, 43, 13, 14, 15, 17, 44, 45, 46, 8, 47, 10, 48, 49, 50, 51, 52, 53, 54, 55, 56, 57, 58, 59, 60, 61, 62, 11, 63, 64, 65, 66, 67, 2, 68, 69, 70, 71, 12, 72, 73, 74, 75, 76, 77, 78, 79, 80, 81, 82] (by decide +kernel) (by decide +kernel)
set_option maxRecDepth 20000 in
theorem gX4_tell_X4_readItem : GoodIn wsX4_tell (wsV RX4 36 RX4 yX4_readItem wsX4_readItem) := goodIn_app (goodIn_of _ (by decide +kernel)) ggX4_tell_X4_readItem
theorem dX4_tell_0 : decode cX4_tell 0 = .ok (.aload_n 1, 1) := by decide +kernel
theorem dX4_tell_1 : decode cX4_tell 1 = .ok (.invokevirtual 28, 3) := by decide +kernel
theorem dX4_tell_4 : decode cX4_tell 4 = .ok (.aload_n 0, 1) := by decide +kernel
theorem dX4_tell_5 : decode cX4_tell 5 = .ok (.iconst 0, 1) := by decide +kernel
theorem dX4_tell_6 : decode cX4_tell 6 = .ok (.putfield 19, 3) := by decide +kernel
theorem dX4_tell_9 : decode cX4_tell 9 = .ok (.aload_n 0, 1) := by decide +kernel
theorem dX4_tell_10 : decode cX4_tell 10 = .ok (.iconst 0, 1) := by decide +kernel
theorem dX4_tell_11 : decode cX4_tell 11 = .ok (.putfield 25, 3) := by decide +kernel
theorem dX4_tell_14 : decode cX4_tell 14 = .ok (.iconst 0, 1) := by decide +kernel
theorem dX4_tell_15 : decode cX4_tell 15 = .ok (.istore_n 2, 1) := by decide +kernel
theorem dX4_tell_16 : decode cX4_tell 16 = .ok (.iconst 0, 1) := by decide +kernel
theorem dX4_tell_17 : decode cX4_tell 17 = .ok (.istore_n 3, 1) := by decide +kernel
theorem dX4_tell_18 : decode cX4_tell 18 = .ok (.iload_n 3, 1) := by decide +kernel
theorem dX4_tell_19 : decode cX4_tell 19 = .ok (.bipush 120, 2) := by decide +kernel
theorem dX4_tell_21 : decode cX4_tell 21 = .ok (.if_icmp .gt 46, 3) := by decide +kernel
theorem dX4_tell_24 : decode cX4_tell 24 = .ok (.aload_n 0, 1) := by decide +kernel
theorem dX4_tell_25 : decode cX4_tell 25 = .ok (.invokevirtual 33, 3) := by decide +kernel
theorem dX4_tell_28 : decode cX4_tell 28 = .ok (.aload_n 0, 1) := by decide +kernel
theorem dX4_tell_29 : decode cX4_tell 29 = .ok (.getfield 19, 3) := by decide +kernel
theorem dX4_tell_32 : decode cX4_tell 32 = .ok (.aload_n 0, 1) := by decide +kernel
theorem dX4_tell_33 : decode cX4_tell 33 = .ok (.getfield 15, 3) := by decide +kernel
theorem dX4_tell_36 : decode cX4_tell 36 = .ok (.if_icmp .lt 6, 3) := by decide +kernel
theorem dX4_tell_39 : decode cX4_tell 39 = .ok (.goto 28, 3) := by decide +kernel
theorem dX4_tell_42 : decode cX4_tell 42 = .ok (.aload_n 0, 1) := by decide +kernel
theorem dX4_tell_43 : decode cX4_tell 43 = .ok (.aload_n 1, 1) := by decide +kernel
theorem dX4_tell_44 : decode cX4_tell 44 = .ok (.invokevirtual 36, 3) := by decide +kernel
theorem dX4_tell_47 : decode cX4_tell 47 = .ok (.ifCond .ne 11, 3) := by decide +kernel
theorem dX4_tell_50 : decode cX4_tell 50 = .ok (.bipush (-10), 2) := by decide +kernel
theorem dX4_tell_52 : decode cX4_tell 52 = .ok (.aload_n 0, 1) := by decide +kernel
theorem dX4_tell_53 : decode cX4_tell 53 = .ok (.getfield 22, 3) := by decide +kernel
theorem dX4_tell_56 : decode cX4_tell 56 = .ok (.isub, 1) := by decide +kernel
theorem dX4_tell_57 : decode cX4_tell 57 = .ok (.ireturn, 1) := by decide +kernel
theorem dX4_tell_58 : decode cX4_tell 58 = .ok (.iinc 2 1, 3) := by decide +kernel
theorem dX4_tell_61 : decode cX4_tell 61 = .ok (.iinc 3 1, 3) := by decide +kernel
theorem dX4_tell_64 : decode cX4_tell 64 = .ok (.goto (-46), 3) := by decide +kernel
theorem dX4_tell_67 : decode cX4_tell 67 = .ok (.iload_n 2, 1) := by decide +kernel
theorem dX4_tell_68 : decode cX4_tell 68 = .ok (.ireturn, 1) := by decide +kernel
theorem dX4_letterAt_0 : decode cX4_letterAt 0 = .ok (.iload_n 1, 1) := by decide +kernel
theorem dX4_letterAt_1 : decode cX4_letterAt 1 = .ok (.ifCond .lt 26, 3) := by decide +kernel
theorem dX4_letterAt_4 : decode cX4_letterAt 4 = .ok (.iload_n 1, 1) := by decide +kernel
theorem dX4_letterAt_5 : decode cX4_letterAt 5 = .ok (.aload_n 0, 1) := by decide +kernel
theorem dX4_letterAt_6 : decode cX4_letterAt 6 = .ok (.getfield 15, 3) := by decide +kernel
theorem dX4_letterAt_9 : decode cX4_letterAt 9 = .ok (.if_icmp .ge 18, 3) := by decide +kernel
theorem dX4_letterAt_12 : decode cX4_letterAt 12 = .ok (.iload_n 1, 1) := by decide +kernel
theorem dX4_letterAt_13 : decode cX4_letterAt 13 = .ok (.bipush 120, 2) := by decide +kernel
theorem dX4_letterAt_15 : decode cX4_letterAt 15 = .ok (.if_icmp .ge 12, 3) := by decide +kernel
theorem dX4_letterAt_18 : decode cX4_letterAt 18 = .ok (.aload_n 0, 1) := by decide +kernel
theorem dX4_letterAt_19 : decode cX4_letterAt 19 = .ok (.getfield 9, 3) := by decide +kernel
theorem dX4_letterAt_22 : decode cX4_letterAt 22 = .ok (.iload_n 1, 1) := by decide +kernel
theorem dX4_letterAt_23 : decode cX4_letterAt 23 = .ok (.iaload, 1) := by decide +kernel
theorem dX4_letterAt_24 : decode cX4_letterAt 24 = .ok (.goto 4, 3) := by decide +kernel
theorem dX4_letterAt_27 : decode cX4_letterAt 27 = .ok (.iconst (-1), 1) := by decide +kernel
theorem dX4_letterAt_28 : decode cX4_letterAt 28 = .ok (.ireturn, 1) := by decide +kernel
set_option maxRecDepth 20000 in
theorem ggX4_skipBlanks_X4_letterAt : GoodIn wsX4_skipBlanks wsX4_letterAt := goodIn_r _ [7, 2, 8, 9, 10, 11, 12, 13] (by decide +kernel) (by decide +kernel)
set_option maxRecDepth 20000 in
theorem gX4_skipBlanks_X4_letterAt : GoodIn wsX4_skipBlanks (wsV RX4 40 RX4 yX4_letterAt wsX4_letterAt) := goodIn_app (goodIn_of _ (by decide +kernel)) ggX4_skipBlanks_X4_letterAt
theorem dX4_skipBlanks_0 : decode cX4_skipBlanks 0 = .ok (.aload_n 0, 1) := by decide +kernel
theorem dX4_skipBlanks_1 : decode cX4_skipBlanks 1 = .ok (.getfield 19, 3) := by decide +kernel
theorem dX4_skipBlanks_4 : decode cX4_skipBlanks 4 = .ok (.aload_n 0, 1) := by decide +kernel
theorem dX4_skipBlanks_5 : decode cX4_skipBlanks 5 = .ok (.getfield 15, 3) := by decide +kernel
theorem dX4_skipBlanks_8 : decode cX4_skipBlanks 8 = .ok (.if_icmp .ge 29, 3) := by decide +kernel
theorem dX4_skipBlanks_11 : decode cX4_skipBlanks 11 = .ok (.aload_n 0, 1) := by decide +kernel
theorem dX4_skipBlanks_12 : decode cX4_skipBlanks 12 = .ok (.aload_n 0, 1) := by decide +kernel
theorem dX4_skipBlanks_13 : decode cX4_skipBlanks 13 = .ok (.getfield 19, 3) := by decide +kernel
theorem dX4_skipBlanks_16 : decode cX4_skipBlanks 16 = .ok (.invokevirtual 40, 3) := by decide +kernel
theorem dX4_skipBlanks_19 : decode cX4_skipBlanks 19 = .ok (.bipush 32, 2) := by decide +kernel
theorem dX4_skipBlanks_21 : decode cX4_skipBlanks 21 = .ok (.if_icmp .ne 16, 3) := by decide +kernel
theorem dX4_skipBlanks_24 : decode cX4_skipBlanks 24 = .ok (.aload_n 0, 1) := by decide +kernel
theorem dX4_skipBlanks_25 : decode cX4_skipBlanks 25 = .ok (.dup, 1) := by decide +kernel
theorem dX4_skipBlanks_26 : decode cX4_skipBlanks 26 = .ok (.getfield 19, 3) := by decide +kernel
theorem dX4_skipBlanks_29 : decode cX4_skipBlanks 29 = .ok (.iconst 1, 1) := by decide +kernel
theorem dX4_skipBlanks_30 : decode cX4_skipBlanks 30 = .ok (.iadd, 1) := by decide +kernel
theorem dX4_skipBlanks_31 : decode cX4_skipBlanks 31 = .ok (.putfield 19, 3) := by decide +kernel
theorem dX4_skipBlanks_34 : decode cX4_skipBlanks 34 = .ok (.goto (-34), 3) := by decide +kernel
theorem dX4_skipBlanks_37 : decode cX4_skipBlanks 37 = .ok (.return_, 1) := by decide +kernel
set_option maxRecDepth 20000 in
theorem ggX4_readItem_X4_letterAt : GoodIn wsX4_readItem wsX4_letterAt := goodIn_r _ [6, 7, 8, 64, 65, 66, 67, 68] (by decide +kernel) (by decide +kernel)
set_option maxRecDepth 20000 in
theorem gX4_readItem_X4_letterAt : GoodIn wsX4_readItem (wsV RX4 40 RX4 yX4_letterAt wsX4_letterAt) := goodIn_app (goodIn_of _ (by decide +kernel)) ggX4_readItem_X4_letterAt
set_option maxRecDepth 20000 in
theorem ggX4_readItem_X4_readGoodbye : GoodIn wsX4_readItem wsX4_readGoodbye := goodIn_r _ [12, 13, 1, 14, 15, 16, 5, 17, 18, 19, 20, 21, 22, 7, 23, 24, 25, 26, 27, 28, 29, 30, 2, 3, 4, 6, 8, 31, 32, 33, 34, 35, 36, 37, 38, 39, 40, 41, 42, 69, 70, 71, 72, 73, 74, 64, 65, 66, 67, 68] (by decide +kernel) (by decide +kernel)
set_option maxRecDepth 20000 in
theorem gX4_readItem_X4_readGoodbye : GoodIn wsX4_readItem (wsV RX4 44 RX4 yX4_readGoodbye wsX4_readGoodbye) := goodIn_app (goodIn_of _ (by decide +kernel)) ggX4_readItem_X4_readGoodbye
set_option maxRecDepth 20000 in
theorem ggX4_readItem_X4_readWoman : GoodIn wsX4_readItem wsX4_readWoman := goodIn_r _ [46, 47, 1, 14, 15, 16, 5, 17, 18, 19, 20, 21, 22, 7, 23, 24, 25, 26, 27, 28, 29, 30, 2, 3, 4, 6, 8, 48, 49, 50, 34, 51, 52, 53, 39, 40, 41, 42, 69, 70, 71, 72, 73, 74, 64, 65, 66, 67, 68] (by decide +kernel) (by decide +kernel)
set_option maxRecDepth 20000 in
theorem gX4_readItem_X4_readWoman : GoodIn wsX4_readItem (wsV RX4 47 RX4 yX4_readWoman wsX4_readWoman) := goodIn_app (goodIn_of _ (by decide +kernel)) ggX4_readItem_X4_readWoman
set_option maxRecDepth 20000 in
theorem ggX4_readItem_X4_readSetting : GoodIn wsX4_readItem wsX4_readSetting := goodIn_r _ [57, 58, 1, 14, 15, 16, 5, 17, 18, 19, 20, 21, 22, 7, 23, 24, 25, 26, 27, 28, 29, 30, 2, 3, 4, 6, 8, 59, 60, 61, 34, 62, 63, 39, 40, 41, 42, 64, 65, 66, 67, 68, 69, 70, 71, 72, 73, 74] (by decide +kernel) (by decide +kernel)
set_option maxRecDepth 20000 in
theorem gX4_readItem_X4_readSetting : GoodIn wsX4_readItem (wsV RX4 50 RX4 yX4_readSetting wsX4_readSetting) := goodIn_app (goodIn_of _ (by decide +kernel)) ggX4_readItem_X4_readSetting
set_option maxRecDepth 20000 in
theorem ggX4_readItem_X4_failsAt : GoodIn wsX4_readItem wsX4_failsAt := goodIn_r _ [17, 18, 64, 65, 66, 67, 68] (by decide +kernel) (by decide +kernel)
set_option maxRecDepth 20000 in
theorem gX4_readItem_X4_failsAt : GoodIn wsX4_readItem (wsV RX4 54 RX4 yX4_failsAt wsX4_failsAt) := goodIn_app (goodIn_of _ (by decide +kernel)) ggX4_readItem_X4_failsAt
theorem dX4_readItem_0 : decode cX4_readItem 0 = .ok (.aload_n 0, 1) := by decide +kernel
theorem dX4_readItem_1 : decode cX4_readItem 1 = .ok (.aload_n 0, 1) := by decide +kernel
theorem dX4_readItem_2 : decode cX4_readItem 2 = .ok (.getfield 19, 3) := by decide +kernel
theorem dX4_readItem_5 : decode cX4_readItem 5 = .ok (.invokevirtual 40, 3) := by decide +kernel
theorem dX4_readItem_8 : decode cX4_readItem 8 = .ok (.lookupswitch 100 #[(99, 79), (103, 60), (115, 72), (119, 66), (120, 86), (122, 93)], 60) := by decide +kernel
theorem dX4_readItem_68 : decode cX4_readItem 68 = .ok (.aload_n 0, 1) := by decide +kernel
theorem dX4_readItem_69 : decode cX4_readItem 69 = .ok (.aload_n 1, 1) := by decide +kernel
theorem dX4_readItem_70 : decode cX4_readItem 70 = .ok (.invokevirtual 44, 3) := by decide +kernel
theorem dX4_readItem_73 : decode cX4_readItem 73 = .ok (.ireturn, 1) := by decide +kernel
theorem dX4_readItem_74 : decode cX4_readItem 74 = .ok (.aload_n 0, 1) := by decide +kernel
theorem dX4_readItem_75 : decode cX4_readItem 75 = .ok (.aload_n 1, 1) := by decide +kernel
theorem dX4_readItem_76 : decode cX4_readItem 76 = .ok (.invokevirtual 47, 3) := by decide +kernel
theorem dX4_readItem_79 : decode cX4_readItem 79 = .ok (.ireturn, 1) := by decide +kernel
theorem dX4_readItem_80 : decode cX4_readItem 80 = .ok (.aload_n 0, 1) := by decide +kernel
theorem dX4_readItem_81 : decode cX4_readItem 81 = .ok (.aload_n 1, 1) := by decide +kernel
theorem dX4_readItem_82 : decode cX4_readItem 82 = .ok (.iconst 0, 1) := by decide +kernel
theorem dX4_readItem_83 : decode cX4_readItem 83 = .ok (.invokevirtual 50, 3) := by decide +kernel
theorem dX4_readItem_86 : decode cX4_readItem 86 = .ok (.ireturn, 1) := by decide +kernel
theorem dX4_readItem_87 : decode cX4_readItem 87 = .ok (.aload_n 0, 1) := by decide +kernel
theorem dX4_readItem_88 : decode cX4_readItem 88 = .ok (.aload_n 1, 1) := by decide +kernel
theorem dX4_readItem_89 : decode cX4_readItem 89 = .ok (.iconst 1, 1) := by decide +kernel
theorem dX4_readItem_90 : decode cX4_readItem 90 = .ok (.invokevirtual 50, 3) := by decide +kernel
theorem dX4_readItem_93 : decode cX4_readItem 93 = .ok (.ireturn, 1) := by decide +kernel
theorem dX4_readItem_94 : decode cX4_readItem 94 = .ok (.aload_n 0, 1) := by decide +kernel
theorem dX4_readItem_95 : decode cX4_readItem 95 = .ok (.aload_n 1, 1) := by decide +kernel
theorem dX4_readItem_96 : decode cX4_readItem 96 = .ok (.iconst 2, 1) := by decide +kernel
theorem dX4_readItem_97 : decode cX4_readItem 97 = .ok (.invokevirtual 50, 3) := by decide +kernel
theorem dX4_readItem_100 : decode cX4_readItem 100 = .ok (.ireturn, 1) := by decide +kernel
theorem dX4_readItem_101 : decode cX4_readItem 101 = .ok (.aload_n 0, 1) := by decide +kernel
theorem dX4_readItem_102 : decode cX4_readItem 102 = .ok (.aload_n 1, 1) := by decide +kernel
theorem dX4_readItem_103 : decode cX4_readItem 103 = .ok (.iconst 3, 1) := by decide +kernel
theorem dX4_readItem_104 : decode cX4_readItem 104 = .ok (.invokevirtual 50, 3) := by decide +kernel
theorem dX4_readItem_107 : decode cX4_readItem 107 = .ok (.ireturn, 1) := by decide +kernel
theorem dX4_readItem_108 : decode cX4_readItem 108 = .ok (.aload_n 0, 1) := by decide +kernel
theorem dX4_readItem_109 : decode cX4_readItem 109 = .ok (.aload_n 0, 1) := by decide +kernel
theorem dX4_readItem_110 : decode cX4_readItem 110 = .ok (.getfield 19, 3) := by decide +kernel
theorem dX4_readItem_113 : decode cX4_readItem 113 = .ok (.invokevirtual 54, 3) := by decide +kernel
theorem dX4_readItem_116 : decode cX4_readItem 116 = .ok (.ireturn, 1) := by decide +kernel
set_option maxRecDepth 20000 in
theorem ggX4_readGoodbye_X4_failsAt : GoodIn wsX4_readGoodbye wsX4_failsAt := goodIn_r _ [7, 8, 45, 46, 47, 48, 49] (by decide +kernel) (by decide +kernel)
set_option maxRecDepth 20000 in
theorem gX4_readGoodbye_X4_failsAt : GoodIn wsX4_readGoodbye (wsV RX4 54 RX4 yX4_failsAt wsX4_failsAt) := goodIn_app (goodIn_of _ (by decide +kernel)) ggX4_readGoodbye_X4_failsAt
set_option maxRecDepth 20000 in
theorem ggX4_readGoodbye_X4_readNumber : GoodIn wsX4_readGoodbye wsX4_readNumber := goodIn_r _ [12, 2, 13, 14, 15, 16, 17, 18, 19, 20, 6, 21, 22, 23, 24, 25, 26, 3, 4, 5, 7, 8, 45, 46, 47, 48, 49] (by decide +kernel) (by decide +kernel)
set_option maxRecDepth 20000 in
theorem gX4_readGoodbye_X4_readNumber : GoodIn wsX4_readGoodbye (wsV RX4 61 RX4 yX4_readNumber wsX4_readNumber) := goodIn_app (goodIn_of _ (by decide +kernel)) ggX4_readGoodbye_X4_readNumber
set_option maxRecDepth 20000 in
theorem ggX4_readGoodbye_X5_addGoodbye : GoodIn wsX4_readGoodbye wsX5_addGoodbye := goodIn_r _ [31, 32, 33, 34, 39, 40, 41, 42, 43, 44] (by decide +kernel) (by decide +kernel)
set_option maxRecDepth 20000 in
theorem gX4_readGoodbye_X5_addGoodbye : GoodIn wsX4_readGoodbye (wsV RX4 65 RX5 yX5_addGoodbye wsX5_addGoodbye) := goodIn_app (goodIn_of _ (by decide +kernel)) ggX4_readGoodbye_X5_addGoodbye
set_option maxRecDepth 20000 in
theorem ggX4_readGoodbye_X4_readEnd : GoodIn wsX4_readGoodbye wsX4_readEnd := goodIn_r _ [38, 2, 18, 19, 20, 6, 21, 13, 22, 23, 24, 25, 26, 3, 4, 5, 7, 8, 45, 46, 47, 48, 49] (by decide +kernel) (by decide +kernel)
set_option maxRecDepth 20000 in
theorem gX4_readGoodbye_X4_readEnd : GoodIn wsX4_readGoodbye (wsV RX4 69 RX4 yX4_readEnd wsX4_readEnd) := goodIn_app (goodIn_of _ (by decide +kernel)) ggX4_readGoodbye_X4_readEnd
theorem dX4_readGoodbye_0 : decode cX4_readGoodbye 0 = .ok (.aload_n 1, 1) := by decide +kernel
theorem dX4_readGoodbye_1 : decode cX4_readGoodbye 1 = .ok (.getfield 58, 3) := by decide +kernel
theorem dX4_readGoodbye_4 : decode cX4_readGoodbye 4 = .ok (.iconst 5, 1) := by decide +kernel
theorem dX4_readGoodbye_5 : decode cX4_readGoodbye 5 = .ok (.if_icmp .lt 12, 3) := by decide +kernel
theorem dX4_readGoodbye_8 : decode cX4_readGoodbye 8 = .ok (.aload_n 0, 1) := by decide +kernel
theorem dX4_readGoodbye_9 : decode cX4_readGoodbye 9 = .ok (.aload_n 0, 1) := by decide +kernel
theorem dX4_readGoodbye_10 : decode cX4_readGoodbye 10 = .ok (.getfield 19, 3) := by decide +kernel
theorem dX4_readGoodbye_13 : decode cX4_readGoodbye 13 = .ok (.invokevirtual 54, 3) := by decide +kernel
theorem dX4_readGoodbye_16 : decode cX4_readGoodbye 16 = .ok (.ireturn, 1) := by decide +kernel
theorem dX4_readGoodbye_17 : decode cX4_readGoodbye 17 = .ok (.aload_n 0, 1) := by decide +kernel
theorem dX4_readGoodbye_18 : decode cX4_readGoodbye 18 = .ok (.dup, 1) := by decide +kernel
theorem dX4_readGoodbye_19 : decode cX4_readGoodbye 19 = .ok (.getfield 19, 3) := by decide +kernel
theorem dX4_readGoodbye_22 : decode cX4_readGoodbye 22 = .ok (.iconst 1, 1) := by decide +kernel
theorem dX4_readGoodbye_23 : decode cX4_readGoodbye 23 = .ok (.iadd, 1) := by decide +kernel
theorem dX4_readGoodbye_24 : decode cX4_readGoodbye 24 = .ok (.putfield 19, 3) := by decide +kernel
theorem dX4_readGoodbye_27 : decode cX4_readGoodbye 27 = .ok (.aload_n 0, 1) := by decide +kernel
theorem dX4_readGoodbye_28 : decode cX4_readGoodbye 28 = .ok (.iconst 0, 1) := by decide +kernel
theorem dX4_readGoodbye_29 : decode cX4_readGoodbye 29 = .ok (.bipush 40, 2) := by decide +kernel
theorem dX4_readGoodbye_31 : decode cX4_readGoodbye 31 = .ok (.invokevirtual 61, 3) := by decide +kernel
theorem dX4_readGoodbye_34 : decode cX4_readGoodbye 34 = .ok (.istore_n 2, 1) := by decide +kernel
theorem dX4_readGoodbye_35 : decode cX4_readGoodbye 35 = .ok (.iload_n 2, 1) := by decide +kernel
theorem dX4_readGoodbye_36 : decode cX4_readGoodbye 36 = .ok (.ifCond .ge 5, 3) := by decide +kernel
theorem dX4_readGoodbye_39 : decode cX4_readGoodbye 39 = .ok (.iconst 0, 1) := by decide +kernel
theorem dX4_readGoodbye_40 : decode cX4_readGoodbye 40 = .ok (.ireturn, 1) := by decide +kernel
theorem dX4_readGoodbye_41 : decode cX4_readGoodbye 41 = .ok (.aload_n 0, 1) := by decide +kernel
theorem dX4_readGoodbye_42 : decode cX4_readGoodbye 42 = .ok (.iconst 0, 1) := by decide +kernel
theorem dX4_readGoodbye_43 : decode cX4_readGoodbye 43 = .ok (.iconst 3, 1) := by decide +kernel
theorem dX4_readGoodbye_44 : decode cX4_readGoodbye 44 = .ok (.invokevirtual 61, 3) := by decide +kernel
theorem dX4_readGoodbye_47 : decode cX4_readGoodbye 47 = .ok (.istore_n 3, 1) := by decide +kernel
theorem dX4_readGoodbye_48 : decode cX4_readGoodbye 48 = .ok (.iload_n 3, 1) := by decide +kernel
theorem dX4_readGoodbye_49 : decode cX4_readGoodbye 49 = .ok (.ifCond .ge 5, 3) := by decide +kernel
theorem dX4_readGoodbye_52 : decode cX4_readGoodbye 52 = .ok (.iconst 0, 1) := by decide +kernel
theorem dX4_readGoodbye_53 : decode cX4_readGoodbye 53 = .ok (.ireturn, 1) := by decide +kernel
theorem dX4_readGoodbye_54 : decode cX4_readGoodbye 54 = .ok (.aload_n 1, 1) := by decide +kernel
theorem dX4_readGoodbye_55 : decode cX4_readGoodbye 55 = .ok (.iload_n 2, 1) := by decide +kernel
theorem dX4_readGoodbye_56 : decode cX4_readGoodbye 56 = .ok (.iload_n 3, 1) := by decide +kernel
theorem dX4_readGoodbye_57 : decode cX4_readGoodbye 57 = .ok (.invokevirtual 65, 3) := by decide +kernel
theorem dX4_readGoodbye_60 : decode cX4_readGoodbye 60 = .ok (.aload_n 0, 1) := by decide +kernel
theorem dX4_readGoodbye_61 : decode cX4_readGoodbye 61 = .ok (.invokevirtual 69, 3) := by decide +kernel
theorem dX4_readGoodbye_64 : decode cX4_readGoodbye 64 = .ok (.ireturn, 1) := by decide +kernel
set_option maxRecDepth 20000 in
theorem ggX4_readWoman_X4_failsAt : GoodIn wsX4_readWoman wsX4_failsAt := goodIn_r _ [7, 8, 44, 45, 46, 47, 48] (by decide +kernel) (by decide +kernel)
set_option maxRecDepth 20000 in
theorem gX4_readWoman_X4_failsAt : GoodIn wsX4_readWoman (wsV RX4 54 RX4 yX4_failsAt wsX4_failsAt) := goodIn_app (goodIn_of _ (by decide +kernel)) ggX4_readWoman_X4_failsAt
set_option maxRecDepth 20000 in
theorem ggX4_readWoman_X4_readNumber : GoodIn wsX4_readWoman wsX4_readNumber := goodIn_r _ [12, 2, 13, 14, 15, 16, 17, 18, 19, 20, 6, 21, 22, 23, 24, 25, 26, 3, 4, 5, 7, 8, 44, 45, 46, 47, 48] (by decide +kernel) (by decide +kernel)
set_option maxRecDepth 20000 in
theorem gX4_readWoman_X4_readNumber : GoodIn wsX4_readWoman (wsV RX4 61 RX4 yX4_readNumber wsX4_readNumber) := goodIn_app (goodIn_of _ (by decide +kernel)) ggX4_readWoman_X4_readNumber
set_option maxRecDepth 20000 in
theorem ggX4_readWoman_X5_addWoman : GoodIn wsX4_readWoman wsX5_addWoman := goodIn_r _ [31, 32, 33, 38, 39, 40, 41, 42, 43] (by decide +kernel) (by decide +kernel)
set_option maxRecDepth 20000 in
theorem gX4_readWoman_X5_addWoman : GoodIn wsX4_readWoman (wsV RX4 76 RX5 yX5_addWoman wsX5_addWoman) := goodIn_app (goodIn_of _ (by decide +kernel)) ggX4_readWoman_X5_addWoman
set_option maxRecDepth 20000 in
theorem ggX4_readWoman_X4_readEnd : GoodIn wsX4_readWoman wsX4_readEnd := goodIn_r _ [37, 2, 18, 19, 20, 6, 21, 13, 22, 23, 24, 25, 26, 3, 4, 5, 7, 8, 44, 45, 46, 47, 48] (by decide +kernel) (by decide +kernel)
set_option maxRecDepth 20000 in
theorem gX4_readWoman_X4_readEnd : GoodIn wsX4_readWoman (wsV RX4 69 RX4 yX4_readEnd wsX4_readEnd) := goodIn_app (goodIn_of _ (by decide +kernel)) ggX4_readWoman_X4_readEnd
theorem dX4_readWoman_0 : decode cX4_readWoman 0 = .ok (.aload_n 1, 1) := by decide +kernel
theorem dX4_readWoman_1 : decode cX4_readWoman 1 = .ok (.getfield 73, 3) := by decide +kernel
theorem dX4_readWoman_4 : decode cX4_readWoman 4 = .ok (.iconst 4, 1) := by decide +kernel
theorem dX4_readWoman_5 : decode cX4_readWoman 5 = .ok (.if_icmp .lt 12, 3) := by decide +kernel
theorem dX4_readWoman_8 : decode cX4_readWoman 8 = .ok (.aload_n 0, 1) := by decide +kernel
theorem dX4_readWoman_9 : decode cX4_readWoman 9 = .ok (.aload_n 0, 1) := by decide +kernel
theorem dX4_readWoman_10 : decode cX4_readWoman 10 = .ok (.getfield 19, 3) := by decide +kernel
theorem dX4_readWoman_13 : decode cX4_readWoman 13 = .ok (.invokevirtual 54, 3) := by decide +kernel
theorem dX4_readWoman_16 : decode cX4_readWoman 16 = .ok (.ireturn, 1) := by decide +kernel
theorem dX4_readWoman_17 : decode cX4_readWoman 17 = .ok (.aload_n 0, 1) := by decide +kernel
theorem dX4_readWoman_18 : decode cX4_readWoman 18 = .ok (.dup, 1) := by decide +kernel
theorem dX4_readWoman_19 : decode cX4_readWoman 19 = .ok (.getfield 19, 3) := by decide +kernel
theorem dX4_readWoman_22 : decode cX4_readWoman 22 = .ok (.iconst 1, 1) := by decide +kernel
theorem dX4_readWoman_23 : decode cX4_readWoman 23 = .ok (.iadd, 1) := by decide +kernel
theorem dX4_readWoman_24 : decode cX4_readWoman 24 = .ok (.putfield 19, 3) := by decide +kernel
theorem dX4_readWoman_27 : decode cX4_readWoman 27 = .ok (.aload_n 0, 1) := by decide +kernel
theorem dX4_readWoman_28 : decode cX4_readWoman 28 = .ok (.iconst 0, 1) := by decide +kernel
theorem dX4_readWoman_29 : decode cX4_readWoman 29 = .ok (.bipush 9, 2) := by decide +kernel
theorem dX4_readWoman_31 : decode cX4_readWoman 31 = .ok (.invokevirtual 61, 3) := by decide +kernel
theorem dX4_readWoman_34 : decode cX4_readWoman 34 = .ok (.istore_n 2, 1) := by decide +kernel
theorem dX4_readWoman_35 : decode cX4_readWoman 35 = .ok (.iload_n 2, 1) := by decide +kernel
theorem dX4_readWoman_36 : decode cX4_readWoman 36 = .ok (.ifCond .ge 5, 3) := by decide +kernel
theorem dX4_readWoman_39 : decode cX4_readWoman 39 = .ok (.iconst 0, 1) := by decide +kernel
theorem dX4_readWoman_40 : decode cX4_readWoman 40 = .ok (.ireturn, 1) := by decide +kernel
theorem dX4_readWoman_41 : decode cX4_readWoman 41 = .ok (.aload_n 1, 1) := by decide +kernel
theorem dX4_readWoman_42 : decode cX4_readWoman 42 = .ok (.iload_n 2, 1) := by decide +kernel
theorem dX4_readWoman_43 : decode cX4_readWoman 43 = .ok (.invokevirtual 76, 3) := by decide +kernel
theorem dX4_readWoman_46 : decode cX4_readWoman 46 = .ok (.aload_n 0, 1) := by decide +kernel
theorem dX4_readWoman_47 : decode cX4_readWoman 47 = .ok (.invokevirtual 69, 3) := by decide +kernel
theorem dX4_readWoman_50 : decode cX4_readWoman 50 = .ok (.ireturn, 1) := by decide +kernel
set_option maxRecDepth 20000 in
theorem ggX4_readSetting_X4_failsAt : GoodIn wsX4_readSetting wsX4_failsAt := goodIn_r _ [7, 8, 37, 38, 39, 40, 41] (by decide +kernel) (by decide +kernel)
set_option maxRecDepth 20000 in
theorem gX4_readSetting_X4_failsAt : GoodIn wsX4_readSetting (wsV RX4 54 RX4 yX4_failsAt wsX4_failsAt) := goodIn_app (goodIn_of _ (by decide +kernel)) ggX4_readSetting_X4_failsAt
set_option maxRecDepth 20000 in
theorem ggX4_readSetting_X4_readNumber : GoodIn wsX4_readSetting wsX4_readNumber := goodIn_r _ [12, 2, 13, 14, 15, 16, 17, 18, 19, 20, 6, 21, 22, 23, 24, 25, 26, 3, 4, 5, 7, 8, 37, 38, 39, 40, 41] (by decide +kernel) (by decide +kernel)
set_option maxRecDepth 20000 in
theorem gX4_readSetting_X4_readNumber : GoodIn wsX4_readSetting (wsV RX4 61 RX4 yX4_readNumber wsX4_readNumber) := goodIn_app (goodIn_of _ (by decide +kernel)) ggX4_readSetting_X4_readNumber
set_option maxRecDepth 20000 in
theorem ggX4_readSetting_X5_setSetting : GoodIn wsX4_readSetting wsX5_setSetting := goodIn_r _ [31, 32, 42, 43, 44, 45, 46, 47] (by decide +kernel) (by decide +kernel)
set_option maxRecDepth 20000 in
theorem gX4_readSetting_X5_setSetting : GoodIn wsX4_readSetting (wsV RX4 86 RX5 yX5_setSetting wsX5_setSetting) := goodIn_app (goodIn_of _ (by decide +kernel)) ggX4_readSetting_X5_setSetting
set_option maxRecDepth 20000 in
theorem ggX4_readSetting_X4_readEnd : GoodIn wsX4_readSetting wsX4_readEnd := goodIn_r _ [36, 2, 18, 19, 20, 6, 21, 13, 22, 23, 24, 25, 26, 3, 4, 5, 7, 8, 37, 38, 39, 40, 41] (by decide +kernel) (by decide +kernel)
set_option maxRecDepth 20000 in
theorem gX4_readSetting_X4_readEnd : GoodIn wsX4_readSetting (wsV RX4 69 RX4 yX4_readEnd wsX4_readEnd) := goodIn_app (goodIn_of _ (by decide +kernel)) ggX4_readSetting_X4_readEnd
theorem dX4_readSetting_0 : decode cX4_readSetting 0 = .ok (.iload_n 2, 1) := by decide +kernel
theorem dX4_readSetting_1 : decode cX4_readSetting 1 = .ok (.ifCond .lt 20, 3) := by decide +kernel
theorem dX4_readSetting_4 : decode cX4_readSetting 4 = .ok (.iload_n 2, 1) := by decide +kernel
theorem dX4_readSetting_5 : decode cX4_readSetting 5 = .ok (.iconst 4, 1) := by decide +kernel
theorem dX4_readSetting_6 : decode cX4_readSetting 6 = .ok (.if_icmp .ge 15, 3) := by decide +kernel
theorem dX4_readSetting_9 : decode cX4_readSetting 9 = .ok (.aload_n 0, 1) := by decide +kernel
theorem dX4_readSetting_10 : decode cX4_readSetting 10 = .ok (.getfield 25, 3) := by decide +kernel
theorem dX4_readSetting_13 : decode cX4_readSetting 13 = .ok (.iload_n 2, 1) := by decide +kernel
theorem dX4_readSetting_14 : decode cX4_readSetting 14 = .ok (.ishr, 1) := by decide +kernel
theorem dX4_readSetting_15 : decode cX4_readSetting 15 = .ok (.iconst 1, 1) := by decide +kernel
theorem dX4_readSetting_16 : decode cX4_readSetting 16 = .ok (.iand, 1) := by decide +kernel
theorem dX4_readSetting_17 : decode cX4_readSetting 17 = .ok (.iconst 1, 1) := by decide +kernel
theorem dX4_readSetting_18 : decode cX4_readSetting 18 = .ok (.if_icmp .ne 12, 3) := by decide +kernel
theorem dX4_readSetting_21 : decode cX4_readSetting 21 = .ok (.aload_n 0, 1) := by decide +kernel
theorem dX4_readSetting_22 : decode cX4_readSetting 22 = .ok (.aload_n 0, 1) := by decide +kernel
theorem dX4_readSetting_23 : decode cX4_readSetting 23 = .ok (.getfield 19, 3) := by decide +kernel
theorem dX4_readSetting_26 : decode cX4_readSetting 26 = .ok (.invokevirtual 54, 3) := by decide +kernel
theorem dX4_readSetting_29 : decode cX4_readSetting 29 = .ok (.ireturn, 1) := by decide +kernel
theorem dX4_readSetting_30 : decode cX4_readSetting 30 = .ok (.aload_n 0, 1) := by decide +kernel
theorem dX4_readSetting_31 : decode cX4_readSetting 31 = .ok (.dup, 1) := by decide +kernel
theorem dX4_readSetting_32 : decode cX4_readSetting 32 = .ok (.getfield 19, 3) := by decide +kernel
theorem dX4_readSetting_35 : decode cX4_readSetting 35 = .ok (.iconst 1, 1) := by decide +kernel
theorem dX4_readSetting_36 : decode cX4_readSetting 36 = .ok (.iadd, 1) := by decide +kernel
theorem dX4_readSetting_37 : decode cX4_readSetting 37 = .ok (.putfield 19, 3) := by decide +kernel
theorem dX4_readSetting_40 : decode cX4_readSetting 40 = .ok (.aload_n 0, 1) := by decide +kernel
theorem dX4_readSetting_41 : decode cX4_readSetting 41 = .ok (.getstatic 80, 3) := by decide +kernel
theorem dX4_readSetting_44 : decode cX4_readSetting 44 = .ok (.iload_n 2, 1) := by decide +kernel
theorem dX4_readSetting_45 : decode cX4_readSetting 45 = .ok (.iaload, 1) := by decide +kernel
theorem dX4_readSetting_46 : decode cX4_readSetting 46 = .ok (.getstatic 83, 3) := by decide +kernel
theorem dX4_readSetting_49 : decode cX4_readSetting 49 = .ok (.iload_n 2, 1) := by decide +kernel
theorem dX4_readSetting_50 : decode cX4_readSetting 50 = .ok (.iaload, 1) := by decide +kernel
theorem dX4_readSetting_51 : decode cX4_readSetting 51 = .ok (.invokevirtual 61, 3) := by decide +kernel
theorem dX4_readSetting_54 : decode cX4_readSetting 54 = .ok (.istore_n 3, 1) := by decide +kernel
theorem dX4_readSetting_55 : decode cX4_readSetting 55 = .ok (.iload_n 3, 1) := by decide +kernel
theorem dX4_readSetting_56 : decode cX4_readSetting 56 = .ok (.ifCond .ge 5, 3) := by decide +kernel
theorem dX4_readSetting_59 : decode cX4_readSetting 59 = .ok (.iconst 0, 1) := by decide +kernel
theorem dX4_readSetting_60 : decode cX4_readSetting 60 = .ok (.ireturn, 1) := by decide +kernel
theorem dX4_readSetting_61 : decode cX4_readSetting 61 = .ok (.aload_n 0, 1) := by decide +kernel
theorem dX4_readSetting_62 : decode cX4_readSetting 62 = .ok (.dup, 1) := by decide +kernel
theorem dX4_readSetting_63 : decode cX4_readSetting 63 = .ok (.getfield 25, 3) := by decide +kernel
theorem dX4_readSetting_66 : decode cX4_readSetting 66 = .ok (.iconst 1, 1) := by decide +kernel
theorem dX4_readSetting_67 : decode cX4_readSetting 67 = .ok (.iload_n 2, 1) := by decide +kernel
theorem dX4_readSetting_68 : decode cX4_readSetting 68 = .ok (.ishl, 1) := by decide +kernel
theorem dX4_readSetting_69 : decode cX4_readSetting 69 = .ok (.ior, 1) := by decide +kernel
theorem dX4_readSetting_70 : decode cX4_readSetting 70 = .ok (.putfield 25, 3) := by decide +kernel
theorem dX4_readSetting_73 : decode cX4_readSetting 73 = .ok (.aload_n 1, 1) := by decide +kernel
theorem dX4_readSetting_74 : decode cX4_readSetting 74 = .ok (.iload_n 2, 1) := by decide +kernel
theorem dX4_readSetting_75 : decode cX4_readSetting 75 = .ok (.iload_n 3, 1) := by decide +kernel
theorem dX4_readSetting_76 : decode cX4_readSetting 76 = .ok (.invokevirtual 86, 3) := by decide +kernel
theorem dX4_readSetting_79 : decode cX4_readSetting 79 = .ok (.aload_n 0, 1) := by decide +kernel
theorem dX4_readSetting_80 : decode cX4_readSetting 80 = .ok (.invokevirtual 69, 3) := by decide +kernel
theorem dX4_readSetting_83 : decode cX4_readSetting 83 = .ok (.ireturn, 1) := by decide +kernel
set_option maxRecDepth 20000 in
theorem ggX4_readNumber_X4_skipBlanks : GoodIn wsX4_readNumber wsX4_skipBlanks := goodIn_r _ [11, 1, 2, 12, 13, 14, 10, 15, 16, 22, 23, 24, 25, 26] (by decide +kernel) (by decide +kernel)
set_option maxRecDepth 20000 in
theorem gX4_readNumber_X4_skipBlanks : GoodIn wsX4_readNumber (wsV RX4 33 RX4 yX4_skipBlanks wsX4_skipBlanks) := goodIn_app (goodIn_of _ (by decide +kernel)) ggX4_readNumber_X4_skipBlanks
set_option maxRecDepth 20000 in
theorem ggX4_readNumber_X4_letterAt : GoodIn wsX4_readNumber wsX4_letterAt := goodIn_r _ [15, 2, 16, 22, 23, 24, 25, 26] (by decide +kernel) (by decide +kernel)
set_option maxRecDepth 20000 in
theorem gX4_readNumber_X4_letterAt : GoodIn wsX4_readNumber (wsV RX4 40 RX4 yX4_letterAt wsX4_letterAt) := goodIn_app (goodIn_of _ (by decide +kernel)) ggX4_readNumber_X4_letterAt
set_option maxRecDepth 20000 in
theorem ggX4_readNumber_X4_failsAt : GoodIn wsX4_readNumber wsX4_failsAt := goodIn_r _ [20, 21, 22, 23, 24, 25, 26] (by decide +kernel) (by decide +kernel)
set_option maxRecDepth 20000 in
theorem gX4_readNumber_X4_failsAt : GoodIn wsX4_readNumber (wsV RX4 54 RX4 yX4_failsAt wsX4_failsAt) := goodIn_app (goodIn_of _ (by decide +kernel)) ggX4_readNumber_X4_failsAt
theorem dX4_readNumber_0 : decode cX4_readNumber 0 = .ok (.aload_n 0, 1) := by decide +kernel
theorem dX4_readNumber_1 : decode cX4_readNumber 1 = .ok (.invokevirtual 33, 3) := by decide +kernel
theorem dX4_readNumber_4 : decode cX4_readNumber 4 = .ok (.aload_n 0, 1) := by decide +kernel
theorem dX4_readNumber_5 : decode cX4_readNumber 5 = .ok (.getfield 19, 3) := by decide +kernel
theorem dX4_readNumber_8 : decode cX4_readNumber 8 = .ok (.istore_n 3, 1) := by decide +kernel
theorem dX4_readNumber_9 : decode cX4_readNumber 9 = .ok (.iconst 0, 1) := by decide +kernel
theorem dX4_readNumber_10 : decode cX4_readNumber 10 = .ok (.istore 4, 2) := by decide +kernel
theorem dX4_readNumber_12 : decode cX4_readNumber 12 = .ok (.aload_n 0, 1) := by decide +kernel
theorem dX4_readNumber_13 : decode cX4_readNumber 13 = .ok (.getfield 19, 3) := by decide +kernel
theorem dX4_readNumber_16 : decode cX4_readNumber 16 = .ok (.aload_n 0, 1) := by decide +kernel
theorem dX4_readNumber_17 : decode cX4_readNumber 17 = .ok (.getfield 15, 3) := by decide +kernel
theorem dX4_readNumber_20 : decode cX4_readNumber 20 = .ok (.if_icmp .ge 66, 3) := by decide +kernel
theorem dX4_readNumber_23 : decode cX4_readNumber 23 = .ok (.aload_n 0, 1) := by decide +kernel
theorem dX4_readNumber_24 : decode cX4_readNumber 24 = .ok (.aload_n 0, 1) := by decide +kernel
theorem dX4_readNumber_25 : decode cX4_readNumber 25 = .ok (.getfield 19, 3) := by decide +kernel
theorem dX4_readNumber_28 : decode cX4_readNumber 28 = .ok (.invokevirtual 40, 3) := by decide +kernel
theorem dX4_readNumber_31 : decode cX4_readNumber 31 = .ok (.bipush 48, 2) := by decide +kernel
theorem dX4_readNumber_33 : decode cX4_readNumber 33 = .ok (.if_icmp .lt 53, 3) := by decide +kernel
theorem dX4_readNumber_36 : decode cX4_readNumber 36 = .ok (.aload_n 0, 1) := by decide +kernel
theorem dX4_readNumber_37 : decode cX4_readNumber 37 = .ok (.aload_n 0, 1) := by decide +kernel
theorem dX4_readNumber_38 : decode cX4_readNumber 38 = .ok (.getfield 19, 3) := by decide +kernel
theorem dX4_readNumber_41 : decode cX4_readNumber 41 = .ok (.invokevirtual 40, 3) := by decide +kernel
theorem dX4_readNumber_44 : decode cX4_readNumber 44 = .ok (.bipush 57, 2) := by decide +kernel
theorem dX4_readNumber_46 : decode cX4_readNumber 46 = .ok (.if_icmp .gt 40, 3) := by decide +kernel
theorem dX4_readNumber_49 : decode cX4_readNumber 49 = .ok (.bipush 100, 2) := by decide +kernel
theorem dX4_readNumber_51 : decode cX4_readNumber 51 = .ok (.iload 4, 2) := by decide +kernel
theorem dX4_readNumber_53 : decode cX4_readNumber 53 = .ok (.bipush 10, 2) := by decide +kernel
theorem dX4_readNumber_55 : decode cX4_readNumber 55 = .ok (.imul, 1) := by decide +kernel
theorem dX4_readNumber_56 : decode cX4_readNumber 56 = .ok (.aload_n 0, 1) := by decide +kernel
theorem dX4_readNumber_57 : decode cX4_readNumber 57 = .ok (.aload_n 0, 1) := by decide +kernel
theorem dX4_readNumber_58 : decode cX4_readNumber 58 = .ok (.getfield 19, 3) := by decide +kernel
theorem dX4_readNumber_61 : decode cX4_readNumber 61 = .ok (.invokevirtual 40, 3) := by decide +kernel
theorem dX4_readNumber_64 : decode cX4_readNumber 64 = .ok (.iadd, 1) := by decide +kernel
theorem dX4_readNumber_65 : decode cX4_readNumber 65 = .ok (.bipush 48, 2) := by decide +kernel
theorem dX4_readNumber_67 : decode cX4_readNumber 67 = .ok (.isub, 1) := by decide +kernel
theorem dX4_readNumber_68 : decode cX4_readNumber 68 = .ok (.invokestatic 89, 3) := by decide +kernel
theorem dX4_readNumber_71 : decode cX4_readNumber 71 = .ok (.istore 4, 2) := by decide +kernel
theorem dX4_readNumber_73 : decode cX4_readNumber 73 = .ok (.aload_n 0, 1) := by decide +kernel
theorem dX4_readNumber_74 : decode cX4_readNumber 74 = .ok (.dup, 1) := by decide +kernel
theorem dX4_readNumber_75 : decode cX4_readNumber 75 = .ok (.getfield 19, 3) := by decide +kernel
theorem dX4_readNumber_78 : decode cX4_readNumber 78 = .ok (.iconst 1, 1) := by decide +kernel
theorem dX4_readNumber_79 : decode cX4_readNumber 79 = .ok (.iadd, 1) := by decide +kernel
theorem dX4_readNumber_80 : decode cX4_readNumber 80 = .ok (.putfield 19, 3) := by decide +kernel
theorem dX4_readNumber_83 : decode cX4_readNumber 83 = .ok (.goto (-71), 3) := by decide +kernel
theorem dX4_readNumber_86 : decode cX4_readNumber 86 = .ok (.aload_n 0, 1) := by decide +kernel
theorem dX4_readNumber_87 : decode cX4_readNumber 87 = .ok (.getfield 19, 3) := by decide +kernel
theorem dX4_readNumber_90 : decode cX4_readNumber 90 = .ok (.iload_n 3, 1) := by decide +kernel
theorem dX4_readNumber_91 : decode cX4_readNumber 91 = .ok (.isub, 1) := by decide +kernel
theorem dX4_readNumber_92 : decode cX4_readNumber 92 = .ok (.istore 5, 2) := by decide +kernel
theorem dX4_readNumber_94 : decode cX4_readNumber 94 = .ok (.iload 5, 2) := by decide +kernel
theorem dX4_readNumber_96 : decode cX4_readNumber 96 = .ok (.iconst 1, 1) := by decide +kernel
theorem dX4_readNumber_97 : decode cX4_readNumber 97 = .ok (.if_icmp .le 17, 3) := by decide +kernel
theorem dX4_readNumber_100 : decode cX4_readNumber 100 = .ok (.aload_n 0, 1) := by decide +kernel
theorem dX4_readNumber_101 : decode cX4_readNumber 101 = .ok (.iload_n 3, 1) := by decide +kernel
theorem dX4_readNumber_102 : decode cX4_readNumber 102 = .ok (.invokevirtual 40, 3) := by decide +kernel
theorem dX4_readNumber_105 : decode cX4_readNumber 105 = .ok (.bipush 48, 2) := by decide +kernel
theorem dX4_readNumber_107 : decode cX4_readNumber 107 = .ok (.if_icmp .ne 7, 3) := by decide +kernel
theorem dX4_readNumber_110 : decode cX4_readNumber 110 = .ok (.iconst 1, 1) := by decide +kernel
theorem dX4_readNumber_111 : decode cX4_readNumber 111 = .ok (.goto 4, 3) := by decide +kernel
theorem dX4_readNumber_114 : decode cX4_readNumber 114 = .ok (.iconst 0, 1) := by decide +kernel
theorem dX4_readNumber_115 : decode cX4_readNumber 115 = .ok (.istore 6, 2) := by decide +kernel
theorem dX4_readNumber_117 : decode cX4_readNumber 117 = .ok (.iload 5, 2) := by decide +kernel
theorem dX4_readNumber_119 : decode cX4_readNumber 119 = .ok (.iconst 1, 1) := by decide +kernel
theorem dX4_readNumber_120 : decode cX4_readNumber 120 = .ok (.if_icmp .lt 20, 3) := by decide +kernel
theorem dX4_readNumber_123 : decode cX4_readNumber 123 = .ok (.iload 6, 2) := by decide +kernel
theorem dX4_readNumber_125 : decode cX4_readNumber 125 = .ok (.ifCond .ne 15, 3) := by decide +kernel
theorem dX4_readNumber_128 : decode cX4_readNumber 128 = .ok (.iload 4, 2) := by decide +kernel
theorem dX4_readNumber_130 : decode cX4_readNumber 130 = .ok (.iload_n 1, 1) := by decide +kernel
theorem dX4_readNumber_131 : decode cX4_readNumber 131 = .ok (.if_icmp .lt 9, 3) := by decide +kernel
theorem dX4_readNumber_134 : decode cX4_readNumber 134 = .ok (.iload 4, 2) := by decide +kernel
theorem dX4_readNumber_136 : decode cX4_readNumber 136 = .ok (.iload_n 2, 1) := by decide +kernel
theorem dX4_readNumber_137 : decode cX4_readNumber 137 = .ok (.if_icmp .le 11, 3) := by decide +kernel
theorem dX4_readNumber_140 : decode cX4_readNumber 140 = .ok (.aload_n 0, 1) := by decide +kernel
theorem dX4_readNumber_141 : decode cX4_readNumber 141 = .ok (.iload_n 3, 1) := by decide +kernel
theorem dX4_readNumber_142 : decode cX4_readNumber 142 = .ok (.invokevirtual 54, 3) := by decide +kernel
theorem dX4_readNumber_145 : decode cX4_readNumber 145 = .ok (.pop, 1) := by decide +kernel
theorem dX4_readNumber_146 : decode cX4_readNumber 146 = .ok (.iconst (-1), 1) := by decide +kernel
theorem dX4_readNumber_147 : decode cX4_readNumber 147 = .ok (.ireturn, 1) := by decide +kernel
theorem dX4_readNumber_148 : decode cX4_readNumber 148 = .ok (.iload 4, 2) := by decide +kernel
theorem dX4_readNumber_150 : decode cX4_readNumber 150 = .ok (.ireturn, 1) := by decide +kernel
set_option maxRecDepth 20000 in
theorem ggX4_readEnd_X4_skipBlanks : GoodIn wsX4_readEnd wsX4_skipBlanks := goodIn_r _ [6, 1, 7, 8, 9, 10, 5, 11, 12, 18, 19, 20, 21, 22] (by decide +kernel) (by decide +kernel)
set_option maxRecDepth 20000 in
theorem gX4_readEnd_X4_skipBlanks : GoodIn wsX4_readEnd (wsV RX4 33 RX4 yX4_skipBlanks wsX4_skipBlanks) := goodIn_app (goodIn_of _ (by decide +kernel)) ggX4_readEnd_X4_skipBlanks
set_option maxRecDepth 20000 in
theorem ggX4_readEnd_X4_letterAt : GoodIn wsX4_readEnd wsX4_letterAt := goodIn_r _ [11, 7, 12, 18, 19, 20, 21, 22] (by decide +kernel) (by decide +kernel)
set_option maxRecDepth 20000 in
theorem gX4_readEnd_X4_letterAt : GoodIn wsX4_readEnd (wsV RX4 40 RX4 yX4_letterAt wsX4_letterAt) := goodIn_app (goodIn_of _ (by decide +kernel)) ggX4_readEnd_X4_letterAt
set_option maxRecDepth 20000 in
theorem ggX4_readEnd_X4_failsAt : GoodIn wsX4_readEnd wsX4_failsAt := goodIn_r _ [16, 17, 18, 19, 20, 21, 22] (by decide +kernel) (by decide +kernel)
set_option maxRecDepth 20000 in
theorem gX4_readEnd_X4_failsAt : GoodIn wsX4_readEnd (wsV RX4 54 RX4 yX4_failsAt wsX4_failsAt) := goodIn_app (goodIn_of _ (by decide +kernel)) ggX4_readEnd_X4_failsAt
theorem dX4_readEnd_0 : decode cX4_readEnd 0 = .ok (.aload_n 0, 1) := by decide +kernel
theorem dX4_readEnd_1 : decode cX4_readEnd 1 = .ok (.invokevirtual 33, 3) := by decide +kernel
theorem dX4_readEnd_4 : decode cX4_readEnd 4 = .ok (.aload_n 0, 1) := by decide +kernel
theorem dX4_readEnd_5 : decode cX4_readEnd 5 = .ok (.aload_n 0, 1) := by decide +kernel
theorem dX4_readEnd_6 : decode cX4_readEnd 6 = .ok (.getfield 19, 3) := by decide +kernel
theorem dX4_readEnd_9 : decode cX4_readEnd 9 = .ok (.invokevirtual 40, 3) := by decide +kernel
theorem dX4_readEnd_12 : decode cX4_readEnd 12 = .ok (.bipush 59, 2) := by decide +kernel
theorem dX4_readEnd_14 : decode cX4_readEnd 14 = .ok (.if_icmp .eq 12, 3) := by decide +kernel
theorem dX4_readEnd_17 : decode cX4_readEnd 17 = .ok (.aload_n 0, 1) := by decide +kernel
theorem dX4_readEnd_18 : decode cX4_readEnd 18 = .ok (.aload_n 0, 1) := by decide +kernel
theorem dX4_readEnd_19 : decode cX4_readEnd 19 = .ok (.getfield 19, 3) := by decide +kernel
theorem dX4_readEnd_22 : decode cX4_readEnd 22 = .ok (.invokevirtual 54, 3) := by decide +kernel
theorem dX4_readEnd_25 : decode cX4_readEnd 25 = .ok (.ireturn, 1) := by decide +kernel
theorem dX4_readEnd_26 : decode cX4_readEnd 26 = .ok (.aload_n 0, 1) := by decide +kernel
theorem dX4_readEnd_27 : decode cX4_readEnd 27 = .ok (.dup, 1) := by decide +kernel
theorem dX4_readEnd_28 : decode cX4_readEnd 28 = .ok (.getfield 19, 3) := by decide +kernel
theorem dX4_readEnd_31 : decode cX4_readEnd 31 = .ok (.iconst 1, 1) := by decide +kernel
theorem dX4_readEnd_32 : decode cX4_readEnd 32 = .ok (.iadd, 1) := by decide +kernel
theorem dX4_readEnd_33 : decode cX4_readEnd 33 = .ok (.putfield 19, 3) := by decide +kernel
theorem dX4_readEnd_36 : decode cX4_readEnd 36 = .ok (.iconst 1, 1) := by decide +kernel
theorem dX4_readEnd_37 : decode cX4_readEnd 37 = .ok (.ireturn, 1) := by decide +kernel
theorem dX4_failsAt_0 : decode cX4_failsAt 0 = .ok (.aload_n 0, 1) := by decide +kernel
theorem dX4_failsAt_1 : decode cX4_failsAt 1 = .ok (.iload_n 1, 1) := by decide +kernel
theorem dX4_failsAt_2 : decode cX4_failsAt 2 = .ok (.putfield 22, 3) := by decide +kernel
theorem dX4_failsAt_5 : decode cX4_failsAt 5 = .ok (.iconst 0, 1) := by decide +kernel
theorem dX4_failsAt_6 : decode cX4_failsAt 6 = .ok (.ireturn, 1) := by decide +kernel
theorem dX5_init_0 : decode cX5_init 0 = .ok (.aload_n 0, 1) := by decide +kernel
theorem dX5_init_1 : decode cX5_init 1 = .ok (.invokespecial 3, 3) := by decide +kernel
theorem dX5_init_4 : decode cX5_init 4 = .ok (.aload_n 0, 1) := by decide +kernel
theorem dX5_init_5 : decode cX5_init 5 = .ok (.iconst 5, 1) := by decide +kernel
theorem dX5_init_6 : decode cX5_init 6 = .ok (.newarray .int, 2) := by decide +kernel
theorem dX5_init_8 : decode cX5_init 8 = .ok (.putfield 9, 3) := by decide +kernel
theorem dX5_init_11 : decode cX5_init 11 = .ok (.aload_n 0, 1) := by decide +kernel
theorem dX5_init_12 : decode cX5_init 12 = .ok (.iconst 5, 1) := by decide +kernel
theorem dX5_init_13 : decode cX5_init 13 = .ok (.newarray .int, 2) := by decide +kernel
theorem dX5_init_15 : decode cX5_init 15 = .ok (.putfield 15, 3) := by decide +kernel
theorem dX5_init_18 : decode cX5_init 18 = .ok (.aload_n 0, 1) := by decide +kernel
theorem dX5_init_19 : decode cX5_init 19 = .ok (.iconst 4, 1) := by decide +kernel
theorem dX5_init_20 : decode cX5_init 20 = .ok (.newarray .int, 2) := by decide +kernel
theorem dX5_init_22 : decode cX5_init 22 = .ok (.putfield 18, 3) := by decide +kernel
theorem dX5_init_25 : decode cX5_init 25 = .ok (.aload_n 0, 1) := by decide +kernel
theorem dX5_init_26 : decode cX5_init 26 = .ok (.getstatic 21, 3) := by decide +kernel
theorem dX5_init_29 : decode cX5_init 29 = .ok (.invokevirtual 24, 3) := by decide +kernel
theorem dX5_init_32 : decode cX5_init 32 = .ok (.checkcast 25, 3) := by decide +kernel
theorem dX5_init_35 : decode cX5_init 35 = .ok (.putfield 29, 3) := by decide +kernel
theorem dX5_init_38 : decode cX5_init 38 = .ok (.aload_n 0, 1) := by decide +kernel
theorem dX5_init_39 : decode cX5_init 39 = .ok (.iconst 0, 1) := by decide +kernel
theorem dX5_init_40 : decode cX5_init 40 = .ok (.putfield 32, 3) := by decide +kernel
theorem dX5_init_43 : decode cX5_init 43 = .ok (.aload_n 0, 1) := by decide +kernel
theorem dX5_init_44 : decode cX5_init 44 = .ok (.iconst 0, 1) := by decide +kernel
theorem dX5_init_45 : decode cX5_init 45 = .ok (.putfield 36, 3) := by decide +kernel
theorem dX5_init_48 : decode cX5_init 48 = .ok (.return_, 1) := by decide +kernel
theorem dX5_startAnew_0 : decode cX5_startAnew 0 = .ok (.aload_n 0, 1) := by decide +kernel
theorem dX5_startAnew_1 : decode cX5_startAnew 1 = .ok (.iconst 0, 1) := by decide +kernel
theorem dX5_startAnew_2 : decode cX5_startAnew 2 = .ok (.putfield 32, 3) := by decide +kernel
theorem dX5_startAnew_5 : decode cX5_startAnew 5 = .ok (.aload_n 0, 1) := by decide +kernel
theorem dX5_startAnew_6 : decode cX5_startAnew 6 = .ok (.iconst 0, 1) := by decide +kernel
theorem dX5_startAnew_7 : decode cX5_startAnew 7 = .ok (.putfield 36, 3) := by decide +kernel
theorem dX5_startAnew_10 : decode cX5_startAnew 10 = .ok (.iconst 0, 1) := by decide +kernel
theorem dX5_startAnew_11 : decode cX5_startAnew 11 = .ok (.istore_n 1, 1) := by decide +kernel
theorem dX5_startAnew_12 : decode cX5_startAnew 12 = .ok (.iload_n 1, 1) := by decide +kernel
theorem dX5_startAnew_13 : decode cX5_startAnew 13 = .ok (.iconst 4, 1) := by decide +kernel
theorem dX5_startAnew_14 : decode cX5_startAnew 14 = .ok (.if_icmp .ge 20, 3) := by decide +kernel
theorem dX5_startAnew_17 : decode cX5_startAnew 17 = .ok (.aload_n 0, 1) := by decide +kernel
theorem dX5_startAnew_18 : decode cX5_startAnew 18 = .ok (.getfield 29, 3) := by decide +kernel
theorem dX5_startAnew_21 : decode cX5_startAnew 21 = .ok (.iload_n 1, 1) := by decide +kernel
theorem dX5_startAnew_22 : decode cX5_startAnew 22 = .ok (.getstatic 21, 3) := by decide +kernel
theorem dX5_startAnew_25 : decode cX5_startAnew 25 = .ok (.iload_n 1, 1) := by decide +kernel
theorem dX5_startAnew_26 : decode cX5_startAnew 26 = .ok (.iaload, 1) := by decide +kernel
theorem dX5_startAnew_27 : decode cX5_startAnew 27 = .ok (.iastore, 1) := by decide +kernel
theorem dX5_startAnew_28 : decode cX5_startAnew 28 = .ok (.iinc 1 1, 3) := by decide +kernel
theorem dX5_startAnew_31 : decode cX5_startAnew 31 = .ok (.goto (-19), 3) := by decide +kernel
theorem dX5_startAnew_34 : decode cX5_startAnew 34 = .ok (.return_, 1) := by decide +kernel
theorem dX5_addGoodbye_0 : decode cX5_addGoodbye 0 = .ok (.aload_n 0, 1) := by decide +kernel
theorem dX5_addGoodbye_1 : decode cX5_addGoodbye 1 = .ok (.getfield 32, 3) := by decide +kernel
theorem dX5_addGoodbye_4 : decode cX5_addGoodbye 4 = .ok (.ifCond .lt 11, 3) := by decide +kernel
theorem dX5_addGoodbye_7 : decode cX5_addGoodbye 7 = .ok (.aload_n 0, 1) := by decide +kernel
theorem dX5_addGoodbye_8 : decode cX5_addGoodbye 8 = .ok (.getfield 32, 3) := by decide +kernel
theorem dX5_addGoodbye_11 : decode cX5_addGoodbye 11 = .ok (.iconst 5, 1) := by decide +kernel
theorem dX5_addGoodbye_12 : decode cX5_addGoodbye 12 = .ok (.if_icmp .lt 4, 3) := by decide +kernel
theorem dX5_addGoodbye_15 : decode cX5_addGoodbye 15 = .ok (.return_, 1) := by decide +kernel
theorem dX5_addGoodbye_16 : decode cX5_addGoodbye 16 = .ok (.aload_n 0, 1) := by decide +kernel
theorem dX5_addGoodbye_17 : decode cX5_addGoodbye 17 = .ok (.getfield 9, 3) := by decide +kernel
theorem dX5_addGoodbye_20 : decode cX5_addGoodbye 20 = .ok (.aload_n 0, 1) := by decide +kernel
theorem dX5_addGoodbye_21 : decode cX5_addGoodbye 21 = .ok (.getfield 32, 3) := by decide +kernel
theorem dX5_addGoodbye_24 : decode cX5_addGoodbye 24 = .ok (.iload_n 1, 1) := by decide +kernel
theorem dX5_addGoodbye_25 : decode cX5_addGoodbye 25 = .ok (.iastore, 1) := by decide +kernel
theorem dX5_addGoodbye_26 : decode cX5_addGoodbye 26 = .ok (.aload_n 0, 1) := by decide +kernel
theorem dX5_addGoodbye_27 : decode cX5_addGoodbye 27 = .ok (.getfield 15, 3) := by decide +kernel
theorem dX5_addGoodbye_30 : decode cX5_addGoodbye 30 = .ok (.aload_n 0, 1) := by decide +kernel
theorem dX5_addGoodbye_31 : decode cX5_addGoodbye 31 = .ok (.getfield 32, 3) := by decide +kernel
theorem dX5_addGoodbye_34 : decode cX5_addGoodbye 34 = .ok (.iload_n 2, 1) := by decide +kernel
theorem dX5_addGoodbye_35 : decode cX5_addGoodbye 35 = .ok (.iastore, 1) := by decide +kernel
theorem dX5_addGoodbye_36 : decode cX5_addGoodbye 36 = .ok (.aload_n 0, 1) := by decide +kernel
theorem dX5_addGoodbye_37 : decode cX5_addGoodbye 37 = .ok (.dup, 1) := by decide +kernel
theorem dX5_addGoodbye_38 : decode cX5_addGoodbye 38 = .ok (.getfield 32, 3) := by decide +kernel
theorem dX5_addGoodbye_41 : decode cX5_addGoodbye 41 = .ok (.iconst 1, 1) := by decide +kernel
theorem dX5_addGoodbye_42 : decode cX5_addGoodbye 42 = .ok (.iadd, 1) := by decide +kernel
theorem dX5_addGoodbye_43 : decode cX5_addGoodbye 43 = .ok (.putfield 32, 3) := by decide +kernel
theorem dX5_addGoodbye_46 : decode cX5_addGoodbye 46 = .ok (.return_, 1) := by decide +kernel
theorem dX5_addWoman_0 : decode cX5_addWoman 0 = .ok (.aload_n 0, 1) := by decide +kernel
theorem dX5_addWoman_1 : decode cX5_addWoman 1 = .ok (.getfield 36, 3) := by decide +kernel
theorem dX5_addWoman_4 : decode cX5_addWoman 4 = .ok (.ifCond .lt 11, 3) := by decide +kernel
theorem dX5_addWoman_7 : decode cX5_addWoman 7 = .ok (.aload_n 0, 1) := by decide +kernel
theorem dX5_addWoman_8 : decode cX5_addWoman 8 = .ok (.getfield 36, 3) := by decide +kernel
theorem dX5_addWoman_11 : decode cX5_addWoman 11 = .ok (.iconst 4, 1) := by decide +kernel
theorem dX5_addWoman_12 : decode cX5_addWoman 12 = .ok (.if_icmp .lt 4, 3) := by decide +kernel
theorem dX5_addWoman_15 : decode cX5_addWoman 15 = .ok (.return_, 1) := by decide +kernel
theorem dX5_addWoman_16 : decode cX5_addWoman 16 = .ok (.aload_n 0, 1) := by decide +kernel
theorem dX5_addWoman_17 : decode cX5_addWoman 17 = .ok (.getfield 18, 3) := by decide +kernel
theorem dX5_addWoman_20 : decode cX5_addWoman 20 = .ok (.aload_n 0, 1) := by decide +kernel
theorem dX5_addWoman_21 : decode cX5_addWoman 21 = .ok (.getfield 36, 3) := by decide +kernel
theorem dX5_addWoman_24 : decode cX5_addWoman 24 = .ok (.iload_n 1, 1) := by decide +kernel
theorem dX5_addWoman_25 : decode cX5_addWoman 25 = .ok (.iastore, 1) := by decide +kernel
theorem dX5_addWoman_26 : decode cX5_addWoman 26 = .ok (.aload_n 0, 1) := by decide +kernel
theorem dX5_addWoman_27 : decode cX5_addWoman 27 = .ok (.dup, 1) := by decide +kernel
theorem dX5_addWoman_28 : decode cX5_addWoman 28 = .ok (.getfield 36, 3) := by decide +kernel
theorem dX5_addWoman_31 : decode cX5_addWoman 31 = .ok (.iconst 1, 1) := by decide +kernel
theorem dX5_addWoman_32 : decode cX5_addWoman 32 = .ok (.iadd, 1) := by decide +kernel
theorem dX5_addWoman_33 : decode cX5_addWoman 33 = .ok (.putfield 36, 3) := by decide +kernel
theorem dX5_addWoman_36 : decode cX5_addWoman 36 = .ok (.return_, 1) := by decide +kernel
theorem dX5_setSetting_0 : decode cX5_setSetting 0 = .ok (.iload_n 1, 1) := by decide +kernel
theorem dX5_setSetting_1 : decode cX5_setSetting 1 = .ok (.ifCond .lt 15, 3) := by decide +kernel
theorem dX5_setSetting_4 : decode cX5_setSetting 4 = .ok (.iload_n 1, 1) := by decide +kernel
theorem dX5_setSetting_5 : decode cX5_setSetting 5 = .ok (.iconst 4, 1) := by decide +kernel
theorem dX5_setSetting_6 : decode cX5_setSetting 6 = .ok (.if_icmp .ge 10, 3) := by decide +kernel
theorem dX5_setSetting_9 : decode cX5_setSetting 9 = .ok (.aload_n 0, 1) := by decide +kernel
theorem dX5_setSetting_10 : decode cX5_setSetting 10 = .ok (.getfield 29, 3) := by decide +kernel
theorem dX5_setSetting_13 : decode cX5_setSetting 13 = .ok (.iload_n 1, 1) := by decide +kernel
theorem dX5_setSetting_14 : decode cX5_setSetting 14 = .ok (.iload_n 2, 1) := by decide +kernel
theorem dX5_setSetting_15 : decode cX5_setSetting 15 = .ok (.iastore, 1) := by decide +kernel
theorem dX5_setSetting_16 : decode cX5_setSetting 16 = .ok (.return_, 1) := by decide +kernel
theorem dX5_hasGoodbye_0 : decode cX5_hasGoodbye 0 = .ok (.iload_n 1, 1) := by decide +kernel
theorem dX5_hasGoodbye_1 : decode cX5_hasGoodbye 1 = .ok (.ifCond .lt 20, 3) := by decide +kernel
theorem dX5_hasGoodbye_4 : decode cX5_hasGoodbye 4 = .ok (.iload_n 1, 1) := by decide +kernel
theorem dX5_hasGoodbye_5 : decode cX5_hasGoodbye 5 = .ok (.aload_n 0, 1) := by decide +kernel
theorem dX5_hasGoodbye_6 : decode cX5_hasGoodbye 6 = .ok (.getfield 32, 3) := by decide +kernel
theorem dX5_hasGoodbye_9 : decode cX5_hasGoodbye 9 = .ok (.if_icmp .ge 12, 3) := by decide +kernel
theorem dX5_hasGoodbye_12 : decode cX5_hasGoodbye 12 = .ok (.iload_n 1, 1) := by decide +kernel
theorem dX5_hasGoodbye_13 : decode cX5_hasGoodbye 13 = .ok (.iconst 5, 1) := by decide +kernel
theorem dX5_hasGoodbye_14 : decode cX5_hasGoodbye 14 = .ok (.if_icmp .ge 7, 3) := by decide +kernel
theorem dX5_hasGoodbye_17 : decode cX5_hasGoodbye 17 = .ok (.iconst 1, 1) := by decide +kernel
theorem dX5_hasGoodbye_18 : decode cX5_hasGoodbye 18 = .ok (.goto 4, 3) := by decide +kernel
theorem dX5_hasGoodbye_21 : decode cX5_hasGoodbye 21 = .ok (.iconst 0, 1) := by decide +kernel
theorem dX5_hasGoodbye_22 : decode cX5_hasGoodbye 22 = .ok (.ireturn, 1) := by decide +kernel
theorem dX5_hasWoman_0 : decode cX5_hasWoman 0 = .ok (.iload_n 1, 1) := by decide +kernel
theorem dX5_hasWoman_1 : decode cX5_hasWoman 1 = .ok (.ifCond .lt 20, 3) := by decide +kernel
theorem dX5_hasWoman_4 : decode cX5_hasWoman 4 = .ok (.iload_n 1, 1) := by decide +kernel
theorem dX5_hasWoman_5 : decode cX5_hasWoman 5 = .ok (.aload_n 0, 1) := by decide +kernel
theorem dX5_hasWoman_6 : decode cX5_hasWoman 6 = .ok (.getfield 36, 3) := by decide +kernel
theorem dX5_hasWoman_9 : decode cX5_hasWoman 9 = .ok (.if_icmp .ge 12, 3) := by decide +kernel
theorem dX5_hasWoman_12 : decode cX5_hasWoman 12 = .ok (.iload_n 1, 1) := by decide +kernel
theorem dX5_hasWoman_13 : decode cX5_hasWoman 13 = .ok (.iconst 4, 1) := by decide +kernel
theorem dX5_hasWoman_14 : decode cX5_hasWoman 14 = .ok (.if_icmp .ge 7, 3) := by decide +kernel
theorem dX5_hasWoman_17 : decode cX5_hasWoman 17 = .ok (.iconst 1, 1) := by decide +kernel
theorem dX5_hasWoman_18 : decode cX5_hasWoman 18 = .ok (.goto 4, 3) := by decide +kernel
theorem dX5_hasWoman_21 : decode cX5_hasWoman 21 = .ok (.iconst 0, 1) := by decide +kernel
theorem dX5_hasWoman_22 : decode cX5_hasWoman 22 = .ok (.ireturn, 1) := by decide +kernel
set_option maxRecDepth 20000 in
theorem ggX5_tearsOf_X5_hasGoodbye : GoodIn wsX5_tearsOf wsX5_hasGoodbye := goodIn_r _ [6, 7, 8, 9, 10, 11, 12, 13] (by decide +kernel) (by decide +kernel)
set_option maxRecDepth 20000 in
theorem gX5_tearsOf_X5_hasGoodbye : GoodIn wsX5_tearsOf (wsV RX5 39 RX5 yX5_hasGoodbye wsX5_hasGoodbye) := goodIn_app (goodIn_of _ (by decide +kernel)) ggX5_tearsOf_X5_hasGoodbye
theorem dX5_tearsOf_0 : decode cX5_tearsOf 0 = .ok (.aload_n 0, 1) := by decide +kernel
theorem dX5_tearsOf_1 : decode cX5_tearsOf 1 = .ok (.iload_n 1, 1) := by decide +kernel
theorem dX5_tearsOf_2 : decode cX5_tearsOf 2 = .ok (.invokevirtual 39, 3) := by decide +kernel
theorem dX5_tearsOf_5 : decode cX5_tearsOf 5 = .ok (.ifCond .eq 12, 3) := by decide +kernel
theorem dX5_tearsOf_8 : decode cX5_tearsOf 8 = .ok (.aload_n 0, 1) := by decide +kernel
theorem dX5_tearsOf_9 : decode cX5_tearsOf 9 = .ok (.getfield 9, 3) := by decide +kernel
theorem dX5_tearsOf_12 : decode cX5_tearsOf 12 = .ok (.iload_n 1, 1) := by decide +kernel
theorem dX5_tearsOf_13 : decode cX5_tearsOf 13 = .ok (.iaload, 1) := by decide +kernel
theorem dX5_tearsOf_14 : decode cX5_tearsOf 14 = .ok (.goto 4, 3) := by decide +kernel
theorem dX5_tearsOf_17 : decode cX5_tearsOf 17 = .ok (.iconst 0, 1) := by decide +kernel
theorem dX5_tearsOf_18 : decode cX5_tearsOf 18 = .ok (.ireturn, 1) := by decide +kernel
set_option maxRecDepth 20000 in
theorem ggX5_gainOf_X5_hasGoodbye : GoodIn wsX5_gainOf wsX5_hasGoodbye := goodIn_r _ [6, 7, 8, 9, 10, 11, 12, 13] (by decide +kernel) (by decide +kernel)
set_option maxRecDepth 20000 in
theorem gX5_gainOf_X5_hasGoodbye : GoodIn wsX5_gainOf (wsV RX5 39 RX5 yX5_hasGoodbye wsX5_hasGoodbye) := goodIn_app (goodIn_of _ (by decide +kernel)) ggX5_gainOf_X5_hasGoodbye
theorem dX5_gainOf_0 : decode cX5_gainOf 0 = .ok (.aload_n 0, 1) := by decide +kernel
theorem dX5_gainOf_1 : decode cX5_gainOf 1 = .ok (.iload_n 1, 1) := by decide +kernel
theorem dX5_gainOf_2 : decode cX5_gainOf 2 = .ok (.invokevirtual 39, 3) := by decide +kernel
theorem dX5_gainOf_5 : decode cX5_gainOf 5 = .ok (.ifCond .eq 12, 3) := by decide +kernel
theorem dX5_gainOf_8 : decode cX5_gainOf 8 = .ok (.aload_n 0, 1) := by decide +kernel
theorem dX5_gainOf_9 : decode cX5_gainOf 9 = .ok (.getfield 15, 3) := by decide +kernel
theorem dX5_gainOf_12 : decode cX5_gainOf 12 = .ok (.iload_n 1, 1) := by decide +kernel
theorem dX5_gainOf_13 : decode cX5_gainOf 13 = .ok (.iaload, 1) := by decide +kernel
theorem dX5_gainOf_14 : decode cX5_gainOf 14 = .ok (.goto 4, 3) := by decide +kernel
theorem dX5_gainOf_17 : decode cX5_gainOf 17 = .ok (.iconst 0, 1) := by decide +kernel
theorem dX5_gainOf_18 : decode cX5_gainOf 18 = .ok (.ireturn, 1) := by decide +kernel
set_option maxRecDepth 20000 in
theorem ggX5_likingAtFirst_X5_hasWoman : GoodIn wsX5_likingAtFirst wsX5_hasWoman := goodIn_r _ [6, 7, 8, 9, 10, 11, 12, 13] (by decide +kernel) (by decide +kernel)
set_option maxRecDepth 20000 in
theorem gX5_likingAtFirst_X5_hasWoman : GoodIn wsX5_likingAtFirst (wsV RX5 43 RX5 yX5_hasWoman wsX5_hasWoman) := goodIn_app (goodIn_of _ (by decide +kernel)) ggX5_likingAtFirst_X5_hasWoman
theorem dX5_likingAtFirst_0 : decode cX5_likingAtFirst 0 = .ok (.aload_n 0, 1) := by decide +kernel
theorem dX5_likingAtFirst_1 : decode cX5_likingAtFirst 1 = .ok (.iload_n 1, 1) := by decide +kernel
theorem dX5_likingAtFirst_2 : decode cX5_likingAtFirst 2 = .ok (.invokevirtual 43, 3) := by decide +kernel
theorem dX5_likingAtFirst_5 : decode cX5_likingAtFirst 5 = .ok (.ifCond .eq 12, 3) := by decide +kernel
theorem dX5_likingAtFirst_8 : decode cX5_likingAtFirst 8 = .ok (.aload_n 0, 1) := by decide +kernel
theorem dX5_likingAtFirst_9 : decode cX5_likingAtFirst 9 = .ok (.getfield 18, 3) := by decide +kernel
theorem dX5_likingAtFirst_12 : decode cX5_likingAtFirst 12 = .ok (.iload_n 1, 1) := by decide +kernel
theorem dX5_likingAtFirst_13 : decode cX5_likingAtFirst 13 = .ok (.iaload, 1) := by decide +kernel
theorem dX5_likingAtFirst_14 : decode cX5_likingAtFirst 14 = .ok (.goto 4, 3) := by decide +kernel
theorem dX5_likingAtFirst_17 : decode cX5_likingAtFirst 17 = .ok (.iconst 0, 1) := by decide +kernel
theorem dX5_likingAtFirst_18 : decode cX5_likingAtFirst 18 = .ok (.ireturn, 1) := by decide +kernel
theorem dX5_setting_0 : decode cX5_setting 0 = .ok (.iload_n 1, 1) := by decide +kernel
theorem dX5_setting_1 : decode cX5_setting 1 = .ok (.ifCond .lt 17, 3) := by decide +kernel
theorem dX5_setting_4 : decode cX5_setting 4 = .ok (.iload_n 1, 1) := by decide +kernel
theorem dX5_setting_5 : decode cX5_setting 5 = .ok (.iconst 4, 1) := by decide +kernel
theorem dX5_setting_6 : decode cX5_setting 6 = .ok (.if_icmp .ge 12, 3) := by decide +kernel
theorem dX5_setting_9 : decode cX5_setting 9 = .ok (.aload_n 0, 1) := by decide +kernel
theorem dX5_setting_10 : decode cX5_setting 10 = .ok (.getfield 29, 3) := by decide +kernel
theorem dX5_setting_13 : decode cX5_setting 13 = .ok (.iload_n 1, 1) := by decide +kernel
theorem dX5_setting_14 : decode cX5_setting 14 = .ok (.iaload, 1) := by decide +kernel
theorem dX5_setting_15 : decode cX5_setting 15 = .ok (.goto 4, 3) := by decide +kernel
theorem dX5_setting_18 : decode cX5_setting 18 = .ok (.iconst 0, 1) := by decide +kernel
theorem dX5_setting_19 : decode cX5_setting 19 = .ok (.ireturn, 1) := by decide +kernel
set_option maxRecDepth 20000 in
theorem ggX5_minutes_X5_tearsOf : GoodIn wsX5_minutes wsX5_tearsOf := goodIn_r _ [5, 6, 7, 8, 9, 4, 10, 11, 29, 30, 31, 32, 33, 34] (by decide +kernel) (by decide +kernel)
set_option maxRecDepth 20000 in
theorem gX5_minutes_X5_tearsOf : GoodIn wsX5_minutes (wsV RX5 46 RX5 yX5_tearsOf wsX5_tearsOf) := goodIn_app (goodIn_of _ (by decide +kernel)) ggX5_minutes_X5_tearsOf
set_option maxRecDepth 20000 in
theorem ggX5_minutes_X5_setting : GoodIn wsX5_minutes wsX5_setting := goodIn_r _ [15, 16, 29, 30, 31, 32, 33, 34] (by decide +kernel) (by decide +kernel)
set_option maxRecDepth 20000 in
theorem gX5_minutes_X5_setting : GoodIn wsX5_minutes (wsV RX5 50 RX5 yX5_setting wsX5_setting) := goodIn_app (goodIn_of _ (by decide +kernel)) ggX5_minutes_X5_setting
set_option maxRecDepth 20000 in
theorem ggX5_minutes_X6_beyondTrust : GoodIn wsX5_minutes wsX6_beyondTrust := goodIn_r _ [19, 20, 21, 22, 23] (by decide +kernel) (by decide +kernel)
set_option maxRecDepth 20000 in
theorem gX5_minutes_X6_beyondTrust_n53 : GoodIn wsX5_minutes (wsX6_beyondTrust) := ggX5_minutes_X6_beyondTrust
set_option maxRecDepth 20000 in
theorem ggX5_minutes_X6_withinMinutes : GoodIn wsX5_minutes wsX6_withinMinutes := goodIn_r _ [25, 26, 27, 22, 28, 20, 21, 23] (by decide +kernel) (by decide +kernel)
set_option maxRecDepth 20000 in
theorem gX5_minutes_X6_withinMinutes_n57 : GoodIn wsX5_minutes (wsX6_withinMinutes) := ggX5_minutes_X6_withinMinutes
theorem dX5_minutes_0 : decode cX5_minutes 0 = .ok (.aload_n 0, 1) := by decide +kernel
theorem dX5_minutes_1 : decode cX5_minutes 1 = .ok (.iload_n 1, 1) := by decide +kernel
theorem dX5_minutes_2 : decode cX5_minutes 2 = .ok (.invokevirtual 46, 3) := by decide +kernel
theorem dX5_minutes_5 : decode cX5_minutes 5 = .ok (.aload_n 0, 1) := by decide +kernel
theorem dX5_minutes_6 : decode cX5_minutes 6 = .ok (.iconst 0, 1) := by decide +kernel
theorem dX5_minutes_7 : decode cX5_minutes 7 = .ok (.invokevirtual 50, 3) := by decide +kernel
theorem dX5_minutes_10 : decode cX5_minutes 10 = .ok (.iload_n 3, 1) := by decide +kernel
theorem dX5_minutes_11 : decode cX5_minutes 11 = .ok (.iload_n 2, 1) := by decide +kernel
theorem dX5_minutes_12 : decode cX5_minutes 12 = .ok (.invokestatic 53, 3) := by decide +kernel
theorem dX5_minutes_15 : decode cX5_minutes 15 = .ok (.imul, 1) := by decide +kernel
theorem dX5_minutes_16 : decode cX5_minutes 16 = .ok (.iadd, 1) := by decide +kernel
theorem dX5_minutes_17 : decode cX5_minutes 17 = .ok (.iload 4, 2) := by decide +kernel
theorem dX5_minutes_19 : decode cX5_minutes 19 = .ok (.isub, 1) := by decide +kernel
theorem dX5_minutes_20 : decode cX5_minutes 20 = .ok (.invokestatic 57, 3) := by decide +kernel
theorem dX5_minutes_23 : decode cX5_minutes 23 = .ok (.ireturn, 1) := by decide +kernel
set_option maxRecDepth 20000 in
theorem ggX5_isCalm_X5_setting : GoodIn wsX5_isCalm wsX5_setting := goodIn_r _ [5, 6, 7, 8, 9, 10, 11, 12] (by decide +kernel) (by decide +kernel)
set_option maxRecDepth 20000 in
theorem gX5_isCalm_X5_setting : GoodIn wsX5_isCalm (wsV RX5 50 RX5 yX5_setting wsX5_setting) := goodIn_app (goodIn_of _ (by decide +kernel)) ggX5_isCalm_X5_setting
theorem dX5_isCalm_0 : decode cX5_isCalm 0 = .ok (.iload_n 1, 1) := by decide +kernel
theorem dX5_isCalm_1 : decode cX5_isCalm 1 = .ok (.aload_n 0, 1) := by decide +kernel
theorem dX5_isCalm_2 : decode cX5_isCalm 2 = .ok (.iconst 1, 1) := by decide +kernel
theorem dX5_isCalm_3 : decode cX5_isCalm 3 = .ok (.invokevirtual 50, 3) := by decide +kernel
theorem dX5_isCalm_6 : decode cX5_isCalm 6 = .ok (.if_icmp .gt 7, 3) := by decide +kernel
theorem dX5_isCalm_9 : decode cX5_isCalm 9 = .ok (.iconst 1, 1) := by decide +kernel
theorem dX5_isCalm_10 : decode cX5_isCalm 10 = .ok (.goto 4, 3) := by decide +kernel
theorem dX5_isCalm_13 : decode cX5_isCalm 13 = .ok (.iconst 0, 1) := by decide +kernel
theorem dX5_isCalm_14 : decode cX5_isCalm 14 = .ok (.ireturn, 1) := by decide +kernel
set_option maxRecDepth 20000 in
theorem ggX5_isWild_X5_setting : GoodIn wsX5_isWild wsX5_setting := goodIn_r _ [5, 6, 7, 8, 9, 10, 11, 12] (by decide +kernel) (by decide +kernel)
set_option maxRecDepth 20000 in
theorem gX5_isWild_X5_setting : GoodIn wsX5_isWild (wsV RX5 50 RX5 yX5_setting wsX5_setting) := goodIn_app (goodIn_of _ (by decide +kernel)) ggX5_isWild_X5_setting
theorem dX5_isWild_0 : decode cX5_isWild 0 = .ok (.iload_n 1, 1) := by decide +kernel
theorem dX5_isWild_1 : decode cX5_isWild 1 = .ok (.aload_n 0, 1) := by decide +kernel
theorem dX5_isWild_2 : decode cX5_isWild 2 = .ok (.iconst 2, 1) := by decide +kernel
theorem dX5_isWild_3 : decode cX5_isWild 3 = .ok (.invokevirtual 50, 3) := by decide +kernel
theorem dX5_isWild_6 : decode cX5_isWild 6 = .ok (.if_icmp .lt 7, 3) := by decide +kernel
theorem dX5_isWild_9 : decode cX5_isWild 9 = .ok (.iconst 1, 1) := by decide +kernel
theorem dX5_isWild_10 : decode cX5_isWild 10 = .ok (.goto 4, 3) := by decide +kernel
theorem dX5_isWild_13 : decode cX5_isWild 13 = .ok (.iconst 0, 1) := by decide +kernel
theorem dX5_isWild_14 : decode cX5_isWild 14 = .ok (.ireturn, 1) := by decide +kernel
set_option maxRecDepth 20000 in
theorem ggX5_trustAfter_X5_isCalm : GoodIn wsX5_trustAfter wsX5_isCalm := goodIn_r _ [9, 10, 11, 12, 8, 13, 14, 36, 37, 38, 39, 40, 41] (by decide +kernel) (by decide +kernel)
set_option maxRecDepth 20000 in
theorem gX5_trustAfter_X5_isCalm : GoodIn wsX5_trustAfter (wsV RX5 60 RX5 yX5_isCalm wsX5_isCalm) := goodIn_app (goodIn_of _ (by decide +kernel)) ggX5_trustAfter_X5_isCalm
set_option maxRecDepth 20000 in
theorem ggX5_trustAfter_X5_calmerTrust : GoodIn wsX5_trustAfter wsX5_calmerTrust := goodIn_r _ [18, 19, 20, 3, 21, 22, 23, 24, 8, 25, 26, 27, 28, 29, 30, 31, 36, 37, 38, 39, 40, 41] (by decide +kernel) (by decide +kernel)
set_option maxRecDepth 20000 in
theorem gX5_trustAfter_X5_calmerTrust : GoodIn wsX5_trustAfter (wsV RX5 63 RX5 yX5_calmerTrust wsX5_calmerTrust) := goodIn_app (goodIn_of _ (by decide +kernel)) ggX5_trustAfter_X5_calmerTrust
set_option maxRecDepth 20000 in
theorem ggX5_trustAfter_X5_isWild : GoodIn wsX5_trustAfter wsX5_isWild := goodIn_r _ [35, 10, 11, 12, 8, 13, 14, 36, 37, 38, 39, 40, 41] (by decide +kernel) (by decide +kernel)
set_option maxRecDepth 20000 in
theorem gX5_trustAfter_X5_isWild : GoodIn wsX5_trustAfter (wsV RX5 66 RX5 yX5_isWild wsX5_isWild) := goodIn_app (goodIn_of _ (by decide +kernel)) ggX5_trustAfter_X5_isWild
theorem dX5_trustAfter_0 : decode cX5_trustAfter 0 = .ok (.aload_n 0, 1) := by decide +kernel
theorem dX5_trustAfter_1 : decode cX5_trustAfter 1 = .ok (.iload_n 3, 1) := by decide +kernel
theorem dX5_trustAfter_2 : decode cX5_trustAfter 2 = .ok (.invokevirtual 60, 3) := by decide +kernel
theorem dX5_trustAfter_5 : decode cX5_trustAfter 5 = .ok (.ifCond .eq 10, 3) := by decide +kernel
