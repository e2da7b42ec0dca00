theorem dX5_init_0 : decode cX5_init 0 = .ok (.aload_n 0, 1) := by decide +kernel
theorem dX5_init_1 : decode cX5_init 1 = .ok (.invokespecial 1, 3) := by decide +kernel
theorem dX5_init_4 : decode cX5_init 4 = .ok (.aload_n 0, 1) := by decide +kernel
theorem dX5_init_5 : decode cX5_init 5 = .ok (.new 7, 3) := by decide +kernel
theorem dX5_init_8 : decode cX5_init 8 = .ok (.dup, 1) := by decide +kernel
theorem dX5_init_9 : decode cX5_init 9 = .ok (.invokespecial 9, 3) := by decide +kernel
theorem dX5_init_12 : decode cX5_init 12 = .ok (.putfield 10, 3) := by decide +kernel
theorem dX5_init_15 : decode cX5_init 15 = .ok (.aload_n 0, 1) := by decide +kernel
theorem dX5_init_16 : decode cX5_init 16 = .ok (.new 16, 3) := by decide +kernel
theorem dX5_init_19 : decode cX5_init 19 = .ok (.dup, 1) := by decide +kernel
theorem dX5_init_20 : decode cX5_init 20 = .ok (.aload_n 0, 1) := by decide +kernel
theorem dX5_init_21 : decode cX5_init 21 = .ok (.getfield 10, 3) := by decide +kernel
theorem dX5_init_24 : decode cX5_init 24 = .ok (.invokespecial 18, 3) := by decide +kernel
theorem dX5_init_27 : decode cX5_init 27 = .ok (.putfield 21, 3) := by decide +kernel
theorem dX5_init_30 : decode cX5_init 30 = .ok (.aload_n 0, 1) := by decide +kernel
theorem dX5_init_31 : decode cX5_init 31 = .ok (.new 25, 3) := by decide +kernel
theorem dX5_init_34 : decode cX5_init 34 = .ok (.dup, 1) := by decide +kernel
theorem dX5_init_35 : decode cX5_init 35 = .ok (.aload_n 0, 1) := by decide +kernel
theorem dX5_init_36 : decode cX5_init 36 = .ok (.getfield 10, 3) := by decide +kernel
theorem dX5_init_39 : decode cX5_init 39 = .ok (.invokespecial 27, 3) := by decide +kernel
theorem dX5_init_42 : decode cX5_init 42 = .ok (.putfield 28, 3) := by decide +kernel
theorem dX5_init_45 : decode cX5_init 45 = .ok (.aload_n 0, 1) := by decide +kernel
theorem dX5_init_46 : decode cX5_init 46 = .ok (.new 25, 3) := by decide +kernel
theorem dX5_init_49 : decode cX5_init 49 = .ok (.dup, 1) := by decide +kernel
theorem dX5_init_50 : decode cX5_init 50 = .ok (.aload_n 0, 1) := by decide +kernel
theorem dX5_init_51 : decode cX5_init 51 = .ok (.getfield 10, 3) := by decide +kernel
theorem dX5_init_54 : decode cX5_init 54 = .ok (.invokespecial 27, 3) := by decide +kernel
theorem dX5_init_57 : decode cX5_init 57 = .ok (.putfield 32, 3) := by decide +kernel
theorem dX5_init_60 : decode cX5_init 60 = .ok (.aload_n 0, 1) := by decide +kernel
theorem dX5_init_61 : decode cX5_init 61 = .ok (.new 25, 3) := by decide +kernel
theorem dX5_init_64 : decode cX5_init 64 = .ok (.dup, 1) := by decide +kernel
theorem dX5_init_65 : decode cX5_init 65 = .ok (.aload_n 0, 1) := by decide +kernel
theorem dX5_init_66 : decode cX5_init 66 = .ok (.getfield 10, 3) := by decide +kernel
theorem dX5_init_69 : decode cX5_init 69 = .ok (.invokespecial 27, 3) := by decide +kernel
theorem dX5_init_72 : decode cX5_init 72 = .ok (.putfield 35, 3) := by decide +kernel
theorem dX5_init_75 : decode cX5_init 75 = .ok (.aload_n 0, 1) := by decide +kernel
theorem dX5_init_76 : decode cX5_init 76 = .ok (.new 38, 3) := by decide +kernel
theorem dX5_init_79 : decode cX5_init 79 = .ok (.dup, 1) := by decide +kernel
theorem dX5_init_80 : decode cX5_init 80 = .ok (.invokespecial 40, 3) := by decide +kernel
theorem dX5_init_83 : decode cX5_init 83 = .ok (.putfield 41, 3) := by decide +kernel
theorem dX5_init_86 : decode cX5_init 86 = .ok (.aload_n 0, 1) := by decide +kernel
theorem dX5_init_87 : decode cX5_init 87 = .ok (.new 45, 3) := by decide +kernel
theorem dX5_init_90 : decode cX5_init 90 = .ok (.dup, 1) := by decide +kernel
theorem dX5_init_91 : decode cX5_init 91 = .ok (.invokespecial 47, 3) := by decide +kernel
theorem dX5_init_94 : decode cX5_init 94 = .ok (.putfield 48, 3) := by decide +kernel
theorem dX5_init_97 : decode cX5_init 97 = .ok (.iconst 0, 1) := by decide +kernel
theorem dX5_init_98 : decode cX5_init 98 = .ok (.istore_n 1, 1) := by decide +kernel
theorem dX5_init_99 : decode cX5_init 99 = .ok (.iload_n 1, 1) := by decide +kernel
theorem dX5_init_100 : decode cX5_init 100 = .ok (.ldc 52, 2) := by decide +kernel
theorem dX5_init_102 : decode cX5_init 102 = .ok (.invokevirtual 54, 3) := by decide +kernel
theorem dX5_init_105 : decode cX5_init 105 = .ok (.if_icmp .ge 22, 3) := by decide +kernel
theorem dX5_init_108 : decode cX5_init 108 = .ok (.aload_n 0, 1) := by decide +kernel
theorem dX5_init_109 : decode cX5_init 109 = .ok (.getfield 21, 3) := by decide +kernel
theorem dX5_init_112 : decode cX5_init 112 = .ok (.ldc 52, 2) := by decide +kernel
theorem dX5_init_114 : decode cX5_init 114 = .ok (.iload_n 1, 1) := by decide +kernel
theorem dX5_init_115 : decode cX5_init 115 = .ok (.invokevirtual 60, 3) := by decide +kernel
theorem dX5_init_118 : decode cX5_init 118 = .ok (.invokevirtual 64, 3) := by decide +kernel
theorem dX5_init_121 : decode cX5_init 121 = .ok (.iinc 1 1, 3) := by decide +kernel
theorem dX5_init_124 : decode cX5_init 124 = .ok (.goto (-25), 3) := by decide +kernel
theorem dX5_init_127 : decode cX5_init 127 = .ok (.aload_n 0, 1) := by decide +kernel
theorem dX5_init_128 : decode cX5_init 128 = .ok (.getfield 21, 3) := by decide +kernel
theorem dX5_init_131 : decode cX5_init 131 = .ok (.invokevirtual 68, 3) := by decide +kernel
theorem dX5_init_134 : decode cX5_init 134 = .ok (.pop, 1) := by decide +kernel
theorem dX5_init_135 : decode cX5_init 135 = .ok (.return_, 1) := by decide +kernel
theorem dX5_count_0 : decode cX5_count 0 = .ok (.iload_n 1, 1) := by decide +kernel
theorem dX5_count_1 : decode cX5_count 1 = .ok (.tableswitch 75 0 4 #[35, 43, 51, 59, 67], 35) := by decide +kernel
theorem dX5_count_36 : decode cX5_count 36 = .ok (.aload_n 0, 1) := by decide +kernel
theorem dX5_count_37 : decode cX5_count 37 = .ok (.getfield 28, 3) := by decide +kernel
theorem dX5_count_40 : decode cX5_count 40 = .ok (.getfield 71, 3) := by decide +kernel
theorem dX5_count_43 : decode cX5_count 43 = .ok (.ireturn, 1) := by decide +kernel
theorem dX5_count_44 : decode cX5_count 44 = .ok (.aload_n 0, 1) := by decide +kernel
theorem dX5_count_45 : decode cX5_count 45 = .ok (.getfield 28, 3) := by decide +kernel
theorem dX5_count_48 : decode cX5_count 48 = .ok (.getfield 75, 3) := by decide +kernel
theorem dX5_count_51 : decode cX5_count 51 = .ok (.ireturn, 1) := by decide +kernel
theorem dX5_count_52 : decode cX5_count 52 = .ok (.aload_n 0, 1) := by decide +kernel
theorem dX5_count_53 : decode cX5_count 53 = .ok (.getfield 10, 3) := by decide +kernel
theorem dX5_count_56 : decode cX5_count 56 = .ok (.getfield 78, 3) := by decide +kernel
theorem dX5_count_59 : decode cX5_count 59 = .ok (.ireturn, 1) := by decide +kernel
theorem dX5_count_60 : decode cX5_count 60 = .ok (.aload_n 0, 1) := by decide +kernel
theorem dX5_count_61 : decode cX5_count 61 = .ok (.getfield 28, 3) := by decide +kernel
theorem dX5_count_64 : decode cX5_count 64 = .ok (.getfield 81, 3) := by decide +kernel
theorem dX5_count_67 : decode cX5_count 67 = .ok (.ireturn, 1) := by decide +kernel
theorem dX5_count_68 : decode cX5_count 68 = .ok (.aload_n 0, 1) := by decide +kernel
theorem dX5_count_69 : decode cX5_count 69 = .ok (.getfield 21, 3) := by decide +kernel
theorem dX5_count_72 : decode cX5_count 72 = .ok (.getfield 84, 3) := by decide +kernel
theorem dX5_count_75 : decode cX5_count 75 = .ok (.ireturn, 1) := by decide +kernel
theorem dX5_count_76 : decode cX5_count 76 = .ok (.bipush (-2), 2) := by decide +kernel
theorem dX5_count_78 : decode cX5_count 78 = .ok (.ireturn, 1) := by decide +kernel
set_option maxRecDepth 20000 in
theorem ggX5_judge_X5_within : GoodIn wsX5_judge wsX5_within := goodIn_r _ [5] (by decide +kernel) (by decide +kernel)
set_option maxRecDepth 20000 in
theorem gX5_judge_X5_within : GoodIn wsX5_judge (va_wsS RX5 86 yX5_within wsX5_within) := goodIn_app (goodIn_of _ (by decide +kernel)) ggX5_judge_X5_within
set_option maxRecDepth 20000 in
theorem ggX5_judge_X0_addJudge : GoodIn wsX5_judge wsX0_addJudge := goodIn_r _ [10, 11, 12, 13, 14, 23, 24, 25, 26, 27, 28, 29, 30, 31, 32, 33, 34] (by decide +kernel) (by decide +kernel)
set_option maxRecDepth 20000 in
theorem gX5_judge_X0_addJudge : GoodIn wsX5_judge (wsV RX5 90 RX0 yX0_addJudge wsX0_addJudge) := goodIn_app (goodIn_of _ (by decide +kernel)) ggX5_judge_X0_addJudge
theorem dX5_judge_0 : decode cX5_judge 0 = .ok (.iload_n 1, 1) := by decide +kernel
theorem dX5_judge_1 : decode cX5_judge 1 = .ok (.bipush 20, 2) := by decide +kernel
theorem dX5_judge_3 : decode cX5_judge 3 = .ok (.invokestatic 86, 3) := by decide +kernel
theorem dX5_judge_6 : decode cX5_judge 6 = .ok (.ifCond .ne 6, 3) := by decide +kernel
theorem dX5_judge_9 : decode cX5_judge 9 = .ok (.bipush (-2), 2) := by decide +kernel
theorem dX5_judge_11 : decode cX5_judge 11 = .ok (.ireturn, 1) := by decide +kernel
theorem dX5_judge_12 : decode cX5_judge 12 = .ok (.aload_n 0, 1) := by decide +kernel
theorem dX5_judge_13 : decode cX5_judge 13 = .ok (.getfield 28, 3) := by decide +kernel
theorem dX5_judge_16 : decode cX5_judge 16 = .ok (.iload_n 1, 1) := by decide +kernel
theorem dX5_judge_17 : decode cX5_judge 17 = .ok (.invokevirtual 90, 3) := by decide +kernel
theorem dX5_judge_20 : decode cX5_judge 20 = .ok (.ireturn, 1) := by decide +kernel
set_option maxRecDepth 20000 in
theorem ggX5_shoe_X0_hasJudge : GoodIn wsX5_shoe wsX0_hasJudge := goodIn_r _ [8, 9, 22, 23, 24, 25, 26, 27, 28, 29, 30, 31, 32, 33] (by decide +kernel) (by decide +kernel)
set_option maxRecDepth 20000 in
theorem gX5_shoe_X0_hasJudge : GoodIn wsX5_shoe (wsV RX5 94 RX0 yX0_hasJudge wsX0_hasJudge) := goodIn_app (goodIn_of _ (by decide +kernel)) ggX5_shoe_X0_hasJudge
set_option maxRecDepth 20000 in
theorem ggX5_shoe_X5_within : GoodIn wsX5_shoe wsX5_within := goodIn_r _ [13] (by decide +kernel) (by decide +kernel)
set_option maxRecDepth 20000 in
theorem gX5_shoe_X5_within : GoodIn wsX5_shoe (va_wsS RX5 86 yX5_within wsX5_within) := goodIn_app (goodIn_of _ (by decide +kernel)) ggX5_shoe_X5_within
theorem dX5_shoe_0 : decode cX5_shoe 0 = .ok (.aload_n 0, 1) := by decide +kernel
theorem dX5_shoe_1 : decode cX5_shoe 1 = .ok (.getfield 28, 3) := by decide +kernel
theorem dX5_shoe_4 : decode cX5_shoe 4 = .ok (.iload_n 1, 1) := by decide +kernel
theorem dX5_shoe_5 : decode cX5_shoe 5 = .ok (.invokevirtual 94, 3) := by decide +kernel
theorem dX5_shoe_8 : decode cX5_shoe 8 = .ok (.ifCond .ne 6, 3) := by decide +kernel
theorem dX5_shoe_11 : decode cX5_shoe 11 = .ok (.bipush (-5), 2) := by decide +kernel
theorem dX5_shoe_13 : decode cX5_shoe 13 = .ok (.ireturn, 1) := by decide +kernel
theorem dX5_shoe_14 : decode cX5_shoe 14 = .ok (.iload_n 2, 1) := by decide +kernel
theorem dX5_shoe_15 : decode cX5_shoe 15 = .ok (.iconst 1, 1) := by decide +kernel
theorem dX5_shoe_16 : decode cX5_shoe 16 = .ok (.invokestatic 86, 3) := by decide +kernel
theorem dX5_shoe_19 : decode cX5_shoe 19 = .ok (.ifCond .eq 22, 3) := by decide +kernel
theorem dX5_shoe_22 : decode cX5_shoe 22 = .ok (.iload_n 3, 1) := by decide +kernel
theorem dX5_shoe_23 : decode cX5_shoe 23 = .ok (.iload_n 2, 1) := by decide +kernel
theorem dX5_shoe_24 : decode cX5_shoe 24 = .ok (.ifCond .ne 8, 3) := by decide +kernel
theorem dX5_shoe_27 : decode cX5_shoe 27 = .ok (.bipush 20, 2) := by decide +kernel
theorem dX5_shoe_29 : decode cX5_shoe 29 = .ok (.goto 6, 3) := by decide +kernel
theorem dX5_shoe_32 : decode cX5_shoe 32 = .ok (.sipush 999, 3) := by decide +kernel
theorem dX5_shoe_35 : decode cX5_shoe 35 = .ok (.invokestatic 86, 3) := by decide +kernel
theorem dX5_shoe_38 : decode cX5_shoe 38 = .ok (.ifCond .ne 6, 3) := by decide +kernel
theorem dX5_shoe_41 : decode cX5_shoe 41 = .ok (.bipush (-7), 2) := by decide +kernel
theorem dX5_shoe_43 : decode cX5_shoe 43 = .ok (.ireturn, 1) := by decide +kernel
theorem dX5_shoe_44 : decode cX5_shoe 44 = .ok (.iload_n 2, 1) := by decide +kernel
theorem dX5_shoe_45 : decode cX5_shoe 45 = .ok (.ifCond .ne 13, 3) := by decide +kernel
theorem dX5_shoe_48 : decode cX5_shoe 48 = .ok (.aload_n 0, 1) := by decide +kernel
theorem dX5_shoe_49 : decode cX5_shoe 49 = .ok (.getfield 28, 3) := by decide +kernel
theorem dX5_shoe_52 : decode cX5_shoe 52 = .ok (.getfield 98, 3) := by decide +kernel
theorem dX5_shoe_55 : decode cX5_shoe 55 = .ok (.goto 10, 3) := by decide +kernel
theorem dX5_shoe_58 : decode cX5_shoe 58 = .ok (.aload_n 0, 1) := by decide +kernel
theorem dX5_shoe_59 : decode cX5_shoe 59 = .ok (.getfield 28, 3) := by decide +kernel
theorem dX5_shoe_62 : decode cX5_shoe 62 = .ok (.getfield 102, 3) := by decide +kernel
theorem dX5_shoe_65 : decode cX5_shoe 65 = .ok (.astore 4, 2) := by decide +kernel
theorem dX5_shoe_67 : decode cX5_shoe 67 = .ok (.aload 4, 2) := by decide +kernel
theorem dX5_shoe_69 : decode cX5_shoe 69 = .ok (.iload_n 1, 1) := by decide +kernel
theorem dX5_shoe_70 : decode cX5_shoe 70 = .ok (.iaload, 1) := by decide +kernel
theorem dX5_shoe_71 : decode cX5_shoe 71 = .ok (.istore 5, 2) := by decide +kernel
theorem dX5_shoe_73 : decode cX5_shoe 73 = .ok (.aload 4, 2) := by decide +kernel
theorem dX5_shoe_75 : decode cX5_shoe 75 = .ok (.iload_n 1, 1) := by decide +kernel
theorem dX5_shoe_76 : decode cX5_shoe 76 = .ok (.iload_n 3, 1) := by decide +kernel
theorem dX5_shoe_77 : decode cX5_shoe 77 = .ok (.iastore, 1) := by decide +kernel
theorem dX5_shoe_78 : decode cX5_shoe 78 = .ok (.iload 5, 2) := by decide +kernel
theorem dX5_shoe_80 : decode cX5_shoe 80 = .ok (.ireturn, 1) := by decide +kernel
set_option maxRecDepth 20000 in
theorem ggX5_bench_X0_hasJudge : GoodIn wsX5_bench wsX0_hasJudge := goodIn_r _ [9, 10, 19, 20, 21, 22, 23, 24, 25, 26, 27, 28, 29, 30] (by decide +kernel) (by decide +kernel)
set_option maxRecDepth 20000 in
theorem gX5_bench_X0_hasJudge : GoodIn wsX5_bench (wsV RX5 94 RX0 yX0_hasJudge wsX0_hasJudge) := goodIn_app (goodIn_of _ (by decide +kernel)) ggX5_bench_X0_hasJudge
theorem dX5_bench_0 : decode cX5_bench 0 = .ok (.aload_n 0, 1) := by decide +kernel
theorem dX5_bench_1 : decode cX5_bench 1 = .ok (.getfield 28, 3) := by decide +kernel
theorem dX5_bench_4 : decode cX5_bench 4 = .ok (.iload_n 1, 1) := by decide +kernel
theorem dX5_bench_5 : decode cX5_bench 5 = .ok (.invokevirtual 94, 3) := by decide +kernel
theorem dX5_bench_8 : decode cX5_bench 8 = .ok (.ifCond .ne 6, 3) := by decide +kernel
theorem dX5_bench_11 : decode cX5_bench 11 = .ok (.bipush (-5), 2) := by decide +kernel
theorem dX5_bench_13 : decode cX5_bench 13 = .ok (.ireturn, 1) := by decide +kernel
theorem dX5_bench_14 : decode cX5_bench 14 = .ok (.iload_n 2, 1) := by decide +kernel
theorem dX5_bench_15 : decode cX5_bench 15 = .ok (.tableswitch 55 0 2 #[25, 35, 45], 25) := by decide +kernel
theorem dX5_bench_40 : decode cX5_bench 40 = .ok (.aload_n 0, 1) := by decide +kernel
theorem dX5_bench_41 : decode cX5_bench 41 = .ok (.getfield 28, 3) := by decide +kernel
theorem dX5_bench_44 : decode cX5_bench 44 = .ok (.getfield 98, 3) := by decide +kernel
theorem dX5_bench_47 : decode cX5_bench 47 = .ok (.iload_n 1, 1) := by decide +kernel
theorem dX5_bench_48 : decode cX5_bench 48 = .ok (.iaload, 1) := by decide +kernel
theorem dX5_bench_49 : decode cX5_bench 49 = .ok (.ireturn, 1) := by decide +kernel
theorem dX5_bench_50 : decode cX5_bench 50 = .ok (.aload_n 0, 1) := by decide +kernel
theorem dX5_bench_51 : decode cX5_bench 51 = .ok (.getfield 28, 3) := by decide +kernel
theorem dX5_bench_54 : decode cX5_bench 54 = .ok (.getfield 102, 3) := by decide +kernel
theorem dX5_bench_57 : decode cX5_bench 57 = .ok (.iload_n 1, 1) := by decide +kernel
theorem dX5_bench_58 : decode cX5_bench 58 = .ok (.iaload, 1) := by decide +kernel
theorem dX5_bench_59 : decode cX5_bench 59 = .ok (.ireturn, 1) := by decide +kernel
theorem dX5_bench_60 : decode cX5_bench 60 = .ok (.aload_n 0, 1) := by decide +kernel
theorem dX5_bench_61 : decode cX5_bench 61 = .ok (.getfield 28, 3) := by decide +kernel
theorem dX5_bench_64 : decode cX5_bench 64 = .ok (.getfield 105, 3) := by decide +kernel
theorem dX5_bench_67 : decode cX5_bench 67 = .ok (.iload_n 1, 1) := by decide +kernel
theorem dX5_bench_68 : decode cX5_bench 68 = .ok (.iaload, 1) := by decide +kernel
theorem dX5_bench_69 : decode cX5_bench 69 = .ok (.ireturn, 1) := by decide +kernel
theorem dX5_bench_70 : decode cX5_bench 70 = .ok (.bipush (-7), 2) := by decide +kernel
theorem dX5_bench_72 : decode cX5_bench 72 = .ok (.ireturn, 1) := by decide +kernel
set_option maxRecDepth 20000 in
theorem ggX5_feed_X5_isByte : GoodIn wsX5_feed wsX5_isByte := goodIn_r _ [6, 7, 8, 5, 9] (by decide +kernel) (by decide +kernel)
set_option maxRecDepth 20000 in
theorem gX5_feed_X5_isByte : GoodIn wsX5_feed (va_wsS RX5 108 yX5_isByte wsX5_isByte) := goodIn_app (goodIn_of _ (by decide +kernel)) ggX5_feed_X5_isByte
set_option maxRecDepth 20000 in
theorem ggX5_feed_X1_add : GoodIn wsX5_feed wsX1_add := goodIn_r _ [14, 15, 16, 25, 26, 27, 28, 29, 30, 31] (by decide +kernel) (by decide +kernel)
set_option maxRecDepth 20000 in
theorem gX5_feed_X1_add : GoodIn wsX5_feed (wsV RX5 64 RX1 yX1_add wsX1_add) := goodIn_app (goodIn_of _ (by decide +kernel)) ggX5_feed_X1_add
theorem dX5_feed_0 : decode cX5_feed 0 = .ok (.iload_n 1, 1) := by decide +kernel
theorem dX5_feed_1 : decode cX5_feed 1 = .ok (.iconst 1, 1) := by decide +kernel
theorem dX5_feed_2 : decode cX5_feed 2 = .ok (.if_icmp .lt 46, 3) := by decide +kernel
theorem dX5_feed_5 : decode cX5_feed 5 = .ok (.iload_n 1, 1) := by decide +kernel
theorem dX5_feed_6 : decode cX5_feed 6 = .ok (.iconst 5, 1) := by decide +kernel
theorem dX5_feed_7 : decode cX5_feed 7 = .ok (.if_icmp .gt 41, 3) := by decide +kernel
theorem dX5_feed_10 : decode cX5_feed 10 = .ok (.iload_n 2, 1) := by decide +kernel
theorem dX5_feed_11 : decode cX5_feed 11 = .ok (.invokestatic 108, 3) := by decide +kernel
theorem dX5_feed_14 : decode cX5_feed 14 = .ok (.ifCond .eq 34, 3) := by decide +kernel
theorem dX5_feed_17 : decode cX5_feed 17 = .ok (.iload_n 3, 1) := by decide +kernel
theorem dX5_feed_18 : decode cX5_feed 18 = .ok (.invokestatic 108, 3) := by decide +kernel
theorem dX5_feed_21 : decode cX5_feed 21 = .ok (.ifCond .eq 27, 3) := by decide +kernel
theorem dX5_feed_24 : decode cX5_feed 24 = .ok (.iload 4, 2) := by decide +kernel
theorem dX5_feed_26 : decode cX5_feed 26 = .ok (.invokestatic 108, 3) := by decide +kernel
theorem dX5_feed_29 : decode cX5_feed 29 = .ok (.ifCond .eq 19, 3) := by decide +kernel
theorem dX5_feed_32 : decode cX5_feed 32 = .ok (.iload 5, 2) := by decide +kernel
theorem dX5_feed_34 : decode cX5_feed 34 = .ok (.invokestatic 108, 3) := by decide +kernel
theorem dX5_feed_37 : decode cX5_feed 37 = .ok (.ifCond .eq 11, 3) := by decide +kernel
theorem dX5_feed_40 : decode cX5_feed 40 = .ok (.iload 6, 2) := by decide +kernel
theorem dX5_feed_42 : decode cX5_feed 42 = .ok (.invokestatic 108, 3) := by decide +kernel
theorem dX5_feed_45 : decode cX5_feed 45 = .ok (.ifCond .ne 6, 3) := by decide +kernel
theorem dX5_feed_48 : decode cX5_feed 48 = .ok (.bipush (-2), 2) := by decide +kernel
theorem dX5_feed_50 : decode cX5_feed 50 = .ok (.ireturn, 1) := by decide +kernel
theorem dX5_feed_51 : decode cX5_feed 51 = .ok (.aload_n 0, 1) := by decide +kernel
theorem dX5_feed_52 : decode cX5_feed 52 = .ok (.getfield 21, 3) := by decide +kernel
theorem dX5_feed_55 : decode cX5_feed 55 = .ok (.getfield 84, 3) := by decide +kernel
theorem dX5_feed_58 : decode cX5_feed 58 = .ok (.iload_n 1, 1) := by decide +kernel
theorem dX5_feed_59 : decode cX5_feed 59 = .ok (.iadd, 1) := by decide +kernel
theorem dX5_feed_60 : decode cX5_feed 60 = .ok (.sipush 160, 3) := by decide +kernel
theorem dX5_feed_63 : decode cX5_feed 63 = .ok (.if_icmp .le 6, 3) := by decide +kernel
theorem dX5_feed_66 : decode cX5_feed 66 = .ok (.bipush (-4), 2) := by decide +kernel
theorem dX5_feed_68 : decode cX5_feed 68 = .ok (.ireturn, 1) := by decide +kernel
theorem dX5_feed_69 : decode cX5_feed 69 = .ok (.iconst 0, 1) := by decide +kernel
theorem dX5_feed_70 : decode cX5_feed 70 = .ok (.istore 7, 2) := by decide +kernel
theorem dX5_feed_72 : decode cX5_feed 72 = .ok (.iload 7, 2) := by decide +kernel
theorem dX5_feed_74 : decode cX5_feed 74 = .ok (.iload_n 1, 1) := by decide +kernel
theorem dX5_feed_75 : decode cX5_feed 75 = .ok (.if_icmp .ge 59, 3) := by decide +kernel
theorem dX5_feed_78 : decode cX5_feed 78 = .ok (.aload_n 0, 1) := by decide +kernel
theorem dX5_feed_79 : decode cX5_feed 79 = .ok (.getfield 21, 3) := by decide +kernel
theorem dX5_feed_82 : decode cX5_feed 82 = .ok (.iload 7, 2) := by decide +kernel
theorem dX5_feed_84 : decode cX5_feed 84 = .ok (.ifCond .ne 7, 3) := by decide +kernel
theorem dX5_feed_87 : decode cX5_feed 87 = .ok (.iload_n 2, 1) := by decide +kernel
theorem dX5_feed_88 : decode cX5_feed 88 = .ok (.goto 37, 3) := by decide +kernel
theorem dX5_feed_91 : decode cX5_feed 91 = .ok (.iload 7, 2) := by decide +kernel
theorem dX5_feed_93 : decode cX5_feed 93 = .ok (.iconst 1, 1) := by decide +kernel
theorem dX5_feed_94 : decode cX5_feed 94 = .ok (.if_icmp .ne 7, 3) := by decide +kernel
theorem dX5_feed_97 : decode cX5_feed 97 = .ok (.iload_n 3, 1) := by decide +kernel
theorem dX5_feed_98 : decode cX5_feed 98 = .ok (.goto 27, 3) := by decide +kernel
theorem dX5_feed_101 : decode cX5_feed 101 = .ok (.iload 7, 2) := by decide +kernel
theorem dX5_feed_103 : decode cX5_feed 103 = .ok (.iconst 2, 1) := by decide +kernel
theorem dX5_feed_104 : decode cX5_feed 104 = .ok (.if_icmp .ne 8, 3) := by decide +kernel
theorem dX5_feed_107 : decode cX5_feed 107 = .ok (.iload 4, 2) := by decide +kernel
theorem dX5_feed_109 : decode cX5_feed 109 = .ok (.goto 16, 3) := by decide +kernel
theorem dX5_feed_112 : decode cX5_feed 112 = .ok (.iload 7, 2) := by decide +kernel
theorem dX5_feed_114 : decode cX5_feed 114 = .ok (.iconst 3, 1) := by decide +kernel
theorem dX5_feed_115 : decode cX5_feed 115 = .ok (.if_icmp .ne 8, 3) := by decide +kernel
theorem dX5_feed_118 : decode cX5_feed 118 = .ok (.iload 5, 2) := by decide +kernel
theorem dX5_feed_120 : decode cX5_feed 120 = .ok (.goto 5, 3) := by decide +kernel
theorem dX5_feed_123 : decode cX5_feed 123 = .ok (.iload 6, 2) := by decide +kernel
theorem dX5_feed_125 : decode cX5_feed 125 = .ok (.invokevirtual 64, 3) := by decide +kernel
theorem dX5_feed_128 : decode cX5_feed 128 = .ok (.iinc 7 1, 3) := by decide +kernel
theorem dX5_feed_131 : decode cX5_feed 131 = .ok (.goto (-59), 3) := by decide +kernel
theorem dX5_feed_134 : decode cX5_feed 134 = .ok (.aload_n 0, 1) := by decide +kernel
theorem dX5_feed_135 : decode cX5_feed 135 = .ok (.getfield 21, 3) := by decide +kernel
theorem dX5_feed_138 : decode cX5_feed 138 = .ok (.getfield 84, 3) := by decide +kernel
theorem dX5_feed_141 : decode cX5_feed 141 = .ok (.ireturn, 1) := by decide +kernel
set_option maxRecDepth 20000 in
theorem ggX5_text_X1_read : GoodIn wsX5_text wsX1_read := goodIn_r _ [8, 9, 10, 11, 12, 13, 14, 15, 16, 17, 18, 19, 20, 21, 7, 22, 23, 24, 25, 26, 27, 28, 29, 30, 31, 32, 33, 34, 35, 36, 37, 38, 39, 40, 41, 42, 43, 44, 45, 46, 47, 48, 49, 50, 51, 52, 53, 54, 55, 56, 57, 58, 59, 60, 61, 62, 63, 64, 65, 66, 67, 68, 69, 70, 71, 72, 73, 74, 75, 76, 77, 78, 79, 80, 81, 82, 83, 84, 85, 86, 87, 88, 89, 90, 91, 92, 93, 94, 95, 96, 97, 98, 99, 100, 101, 102, 103, 104, 105, 106, 107, 108, 109, 110, 111, 112, 113, 114, 115, 116, 117, 118, 119, 120, 121, 122, 123, 124, 125, 126, 127, 128, 129, 130, 131, 132, 133, 134, 135, 136, 137, 138, 139, 140, 141, 142, 143, 144, 145, 146, 147, 148, 149, 150, 151, 152, 153, 154, 155, 156, 157, 158, 159, 160, 161, 162, 163, 164, 165, 166, 167, 168, 169, 170, 171, 172, 173, 174, 175, 176, 177, 178, 179, 180, 181, 182, 183, 184, 185, 186, 187, 188, 189, 190, 191, 192, 193, 194, 195, 196, 197, 198, 199, 200, 201, 215, 216, 217, 218, 219, 220, 221, 210, 211, 212, 213, 214] (by decide +kernel) (by decide +kernel)
set_option maxRecDepth 20000 in
theorem gX5_text_X1_read : GoodIn wsX5_text (wsV RX5 68 RX1 yX1_read wsX1_read) := goodIn_app (goodIn_of _ (by decide +kernel)) ggX5_text_X1_read
theorem dX5_text_0 : decode cX5_text 0 = .ok (.aload_n 0, 1) := by decide +kernel
theorem dX5_text_1 : decode cX5_text 1 = .ok (.getfield 10, 3) := by decide +kernel
theorem dX5_text_4 : decode cX5_text 4 = .ok (.getfield 78, 3) := by decide +kernel
theorem dX5_text_7 : decode cX5_text 7 = .ok (.bipush 6, 2) := by decide +kernel
theorem dX5_text_9 : decode cX5_text 9 = .ok (.if_icmp .lt 6, 3) := by decide +kernel
theorem dX5_text_12 : decode cX5_text 12 = .ok (.bipush (-4), 2) := by decide +kernel
theorem dX5_text_14 : decode cX5_text 14 = .ok (.ireturn, 1) := by decide +kernel
theorem dX5_text_15 : decode cX5_text 15 = .ok (.aload_n 0, 1) := by decide +kernel
theorem dX5_text_16 : decode cX5_text 16 = .ok (.getfield 21, 3) := by decide +kernel
theorem dX5_text_19 : decode cX5_text 19 = .ok (.invokevirtual 68, 3) := by decide +kernel
theorem dX5_text_22 : decode cX5_text 22 = .ok (.ireturn, 1) := by decide +kernel
theorem dX5_force_0 : decode cX5_force 0 = .ok (.iload_n 1, 1) := by decide +kernel
theorem dX5_force_1 : decode cX5_force 1 = .ok (.ifCond .lt 14, 3) := by decide +kernel
theorem dX5_force_4 : decode cX5_force 4 = .ok (.iload_n 1, 1) := by decide +kernel
theorem dX5_force_5 : decode cX5_force 5 = .ok (.aload_n 0, 1) := by decide +kernel
theorem dX5_force_6 : decode cX5_force 6 = .ok (.getfield 10, 3) := by decide +kernel
theorem dX5_force_9 : decode cX5_force 9 = .ok (.getfield 78, 3) := by decide +kernel
theorem dX5_force_12 : decode cX5_force 12 = .ok (.if_icmp .lt 6, 3) := by decide +kernel
theorem dX5_force_15 : decode cX5_force 15 = .ok (.bipush (-2), 2) := by decide +kernel
theorem dX5_force_17 : decode cX5_force 17 = .ok (.ireturn, 1) := by decide +kernel
theorem dX5_force_18 : decode cX5_force 18 = .ok (.aload_n 0, 1) := by decide +kernel
theorem dX5_force_19 : decode cX5_force 19 = .ok (.getfield 28, 3) := by decide +kernel
theorem dX5_force_22 : decode cX5_force 22 = .ok (.getfield 81, 3) := by decide +kernel
theorem dX5_force_25 : decode cX5_force 25 = .ok (.istore_n 2, 1) := by decide +kernel
theorem dX5_force_26 : decode cX5_force 26 = .ok (.aload_n 0, 1) := by decide +kernel
theorem dX5_force_27 : decode cX5_force 27 = .ok (.getfield 28, 3) := by decide +kernel
theorem dX5_force_30 : decode cX5_force 30 = .ok (.iload_n 1, 1) := by decide +kernel
theorem dX5_force_31 : decode cX5_force 31 = .ok (.putfield 81, 3) := by decide +kernel
theorem dX5_force_34 : decode cX5_force 34 = .ok (.iload_n 2, 1) := by decide +kernel
theorem dX5_force_35 : decode cX5_force 35 = .ok (.ireturn, 1) := by decide +kernel
set_option maxRecDepth 20000 in
theorem ggX5_asks_X5_within : GoodIn wsX5_asks wsX5_within := goodIn_r _ [5] (by decide +kernel) (by decide +kernel)
set_option maxRecDepth 20000 in
theorem gX5_asks_X5_within : GoodIn wsX5_asks (va_wsS RX5 86 yX5_within wsX5_within) := goodIn_app (goodIn_of _ (by decide +kernel)) ggX5_asks_X5_within
set_option maxRecDepth 20000 in
theorem ggX5_asks_X0_hasJudge : GoodIn wsX5_asks wsX0_hasJudge := goodIn_r _ [10, 11, 59, 60, 61, 62, 63, 64, 65, 66, 67, 68, 69, 70] (by decide +kernel) (by decide +kernel)
set_option maxRecDepth 20000 in
theorem gX5_asks_X0_hasJudge : GoodIn wsX5_asks (wsV RX5 94 RX0 yX0_hasJudge wsX0_hasJudge) := goodIn_app (goodIn_of _ (by decide +kernel)) ggX5_asks_X0_hasJudge
set_option maxRecDepth 20000 in
theorem ggX5_asks_X0_hasPebble : GoodIn wsX5_asks wsX0_hasPebble := goodIn_r _ [15, 16, 59, 60, 61, 62, 63, 64, 65, 66, 67, 68, 69, 70] (by decide +kernel) (by decide +kernel)
set_option maxRecDepth 20000 in
theorem gX5_asks_X0_hasPebble : GoodIn wsX5_asks (wsV RX5 111 RX0 yX0_hasPebble wsX0_hasPebble) := goodIn_app (goodIn_of _ (by decide +kernel)) ggX5_asks_X0_hasPebble
set_option maxRecDepth 20000 in
theorem ggX5_asks_X0_says : GoodIn wsX5_asks wsX0_says := goodIn_r _ [20, 21, 22, 23, 24, 25, 26, 27, 28, 29, 30, 31, 32, 33, 34, 35, 36, 37, 38, 39, 40, 41, 42, 43, 44, 45, 46, 47, 48, 49, 50, 59, 60, 61, 62, 63, 64, 65, 66, 67, 68, 69, 70, 71, 72, 73, 74, 75] (by decide +kernel) (by decide +kernel)
set_option maxRecDepth 20000 in
theorem gX5_asks_X0_says : GoodIn wsX5_asks (wsV RX5 114 RX0 yX0_says wsX0_says) := goodIn_app (goodIn_of _ (by decide +kernel)) ggX5_asks_X0_says
theorem dX5_asks_0 : decode cX5_asks 0 = .ok (.iload_n 1, 1) := by decide +kernel
theorem dX5_asks_1 : decode cX5_asks 1 = .ok (.iconst 2, 1) := by decide +kernel
theorem dX5_asks_2 : decode cX5_asks 2 = .ok (.invokestatic 86, 3) := by decide +kernel
theorem dX5_asks_5 : decode cX5_asks 5 = .ok (.ifCond .eq 25, 3) := by decide +kernel
theorem dX5_asks_8 : decode cX5_asks 8 = .ok (.aload_n 0, 1) := by decide +kernel
theorem dX5_asks_9 : decode cX5_asks 9 = .ok (.getfield 28, 3) := by decide +kernel
theorem dX5_asks_12 : decode cX5_asks 12 = .ok (.iload_n 2, 1) := by decide +kernel
theorem dX5_asks_13 : decode cX5_asks 13 = .ok (.invokevirtual 94, 3) := by decide +kernel
theorem dX5_asks_16 : decode cX5_asks 16 = .ok (.ifCond .eq 14, 3) := by decide +kernel
theorem dX5_asks_19 : decode cX5_asks 19 = .ok (.aload_n 0, 1) := by decide +kernel
theorem dX5_asks_20 : decode cX5_asks 20 = .ok (.getfield 28, 3) := by decide +kernel
theorem dX5_asks_23 : decode cX5_asks 23 = .ok (.iload_n 3, 1) := by decide +kernel
theorem dX5_asks_24 : decode cX5_asks 24 = .ok (.invokevirtual 111, 3) := by decide +kernel
theorem dX5_asks_27 : decode cX5_asks 27 = .ok (.ifCond .ne 6, 3) := by decide +kernel
theorem dX5_asks_30 : decode cX5_asks 30 = .ok (.bipush (-2), 2) := by decide +kernel
theorem dX5_asks_32 : decode cX5_asks 32 = .ok (.ireturn, 1) := by decide +kernel
theorem dX5_asks_33 : decode cX5_asks 33 = .ok (.aload_n 0, 1) := by decide +kernel
theorem dX5_asks_34 : decode cX5_asks 34 = .ok (.getfield 28, 3) := by decide +kernel
theorem dX5_asks_37 : decode cX5_asks 37 = .ok (.iload_n 1, 1) := by decide +kernel
theorem dX5_asks_38 : decode cX5_asks 38 = .ok (.iload_n 2, 1) := by decide +kernel
theorem dX5_asks_39 : decode cX5_asks 39 = .ok (.iload_n 3, 1) := by decide +kernel
theorem dX5_asks_40 : decode cX5_asks 40 = .ok (.invokevirtual 114, 3) := by decide +kernel
theorem dX5_asks_43 : decode cX5_asks 43 = .ok (.ireturn, 1) := by decide +kernel
set_option maxRecDepth 20000 in
theorem ggX5_pebble_X5_within : GoodIn wsX5_pebble wsX5_within := goodIn_r _ [5] (by decide +kernel) (by decide +kernel)
set_option maxRecDepth 20000 in
theorem gX5_pebble_X5_within : GoodIn wsX5_pebble (va_wsS RX5 86 yX5_within wsX5_within) := goodIn_app (goodIn_of _ (by decide +kernel)) ggX5_pebble_X5_within
set_option maxRecDepth 20000 in
theorem ggX5_pebble_X0_addPebble : GoodIn wsX5_pebble wsX0_addPebble := goodIn_r _ [10, 11, 12, 13, 14, 15, 24, 25, 26, 27, 28, 29, 30, 31, 32, 33, 34, 35] (by decide +kernel) (by decide +kernel)
set_option maxRecDepth 20000 in
theorem gX5_pebble_X0_addPebble : GoodIn wsX5_pebble (wsV RX5 118 RX0 yX0_addPebble wsX0_addPebble) := goodIn_app (goodIn_of _ (by decide +kernel)) ggX5_pebble_X0_addPebble
theorem dX5_pebble_0 : decode cX5_pebble 0 = .ok (.iload_n 1, 1) := by decide +kernel
theorem dX5_pebble_1 : decode cX5_pebble 1 = .ok (.bipush 59, 2) := by decide +kernel
theorem dX5_pebble_3 : decode cX5_pebble 3 = .ok (.invokestatic 86, 3) := by decide +kernel
theorem dX5_pebble_6 : decode cX5_pebble 6 = .ok (.ifCond .eq 13, 3) := by decide +kernel
theorem dX5_pebble_9 : decode cX5_pebble 9 = .ok (.iload_n 2, 1) := by decide +kernel
theorem dX5_pebble_10 : decode cX5_pebble 10 = .ok (.sipush 9999, 3) := by decide +kernel
theorem dX5_pebble_13 : decode cX5_pebble 13 = .ok (.invokestatic 86, 3) := by decide +kernel
theorem dX5_pebble_16 : decode cX5_pebble 16 = .ok (.ifCond .ne 6, 3) := by decide +kernel
theorem dX5_pebble_19 : decode cX5_pebble 19 = .ok (.bipush (-2), 2) := by decide +kernel
theorem dX5_pebble_21 : decode cX5_pebble 21 = .ok (.ireturn, 1) := by decide +kernel
theorem dX5_pebble_22 : decode cX5_pebble 22 = .ok (.aload_n 0, 1) := by decide +kernel
theorem dX5_pebble_23 : decode cX5_pebble 23 = .ok (.getfield 28, 3) := by decide +kernel
theorem dX5_pebble_26 : decode cX5_pebble 26 = .ok (.iload_n 1, 1) := by decide +kernel
theorem dX5_pebble_27 : decode cX5_pebble 27 = .ok (.iload_n 2, 1) := by decide +kernel
theorem dX5_pebble_28 : decode cX5_pebble 28 = .ok (.invokevirtual 118, 3) := by decide +kernel
theorem dX5_pebble_31 : decode cX5_pebble 31 = .ok (.ireturn, 1) := by decide +kernel
set_option maxRecDepth 20000 in
theorem ggX5_put_X0_hasPebble : GoodIn wsX5_put wsX0_hasPebble := goodIn_r _ [8, 9, 22, 23, 24, 25, 26, 27, 28, 29, 30, 31, 32, 33] (by decide +kernel) (by decide +kernel)
set_option maxRecDepth 20000 in
theorem gX5_put_X0_hasPebble : GoodIn wsX5_put (wsV RX5 111 RX0 yX0_hasPebble wsX0_hasPebble) := goodIn_app (goodIn_of _ (by decide +kernel)) ggX5_put_X0_hasPebble
set_option maxRecDepth 20000 in
theorem ggX5_put_X5_within : GoodIn wsX5_put wsX5_within := goodIn_r _ [13] (by decide +kernel) (by decide +kernel)
set_option maxRecDepth 20000 in
theorem gX5_put_X5_within : GoodIn wsX5_put (va_wsS RX5 86 yX5_within wsX5_within) := goodIn_app (goodIn_of _ (by decide +kernel)) ggX5_put_X5_within
theorem dX5_put_0 : decode cX5_put 0 = .ok (.aload_n 0, 1) := by decide +kernel
theorem dX5_put_1 : decode cX5_put 1 = .ok (.getfield 28, 3) := by decide +kernel
theorem dX5_put_4 : decode cX5_put 4 = .ok (.iload_n 1, 1) := by decide +kernel
theorem dX5_put_5 : decode cX5_put 5 = .ok (.invokevirtual 111, 3) := by decide +kernel
theorem dX5_put_8 : decode cX5_put 8 = .ok (.ifCond .ne 6, 3) := by decide +kernel
theorem dX5_put_11 : decode cX5_put 11 = .ok (.bipush (-5), 2) := by decide +kernel
theorem dX5_put_13 : decode cX5_put 13 = .ok (.ireturn, 1) := by decide +kernel
theorem dX5_put_14 : decode cX5_put 14 = .ok (.iload_n 2, 1) := by decide +kernel
theorem dX5_put_15 : decode cX5_put 15 = .ok (.iconst 1, 1) := by decide +kernel
theorem dX5_put_16 : decode cX5_put 16 = .ok (.invokestatic 86, 3) := by decide +kernel
theorem dX5_put_19 : decode cX5_put 19 = .ok (.ifCond .eq 12, 3) := by decide +kernel
theorem dX5_put_22 : decode cX5_put 22 = .ok (.iload_n 3, 1) := by decide +kernel
theorem dX5_put_23 : decode cX5_put 23 = .ok (.bipush 99, 2) := by decide +kernel
theorem dX5_put_25 : decode cX5_put 25 = .ok (.invokestatic 86, 3) := by decide +kernel
theorem dX5_put_28 : decode cX5_put 28 = .ok (.ifCond .ne 6, 3) := by decide +kernel
theorem dX5_put_31 : decode cX5_put 31 = .ok (.bipush (-7), 2) := by decide +kernel
theorem dX5_put_33 : decode cX5_put 33 = .ok (.ireturn, 1) := by decide +kernel
theorem dX5_put_34 : decode cX5_put 34 = .ok (.iload_n 2, 1) := by decide +kernel
theorem dX5_put_35 : decode cX5_put 35 = .ok (.ifCond .ne 13, 3) := by decide +kernel
theorem dX5_put_38 : decode cX5_put 38 = .ok (.aload_n 0, 1) := by decide +kernel
theorem dX5_put_39 : decode cX5_put 39 = .ok (.getfield 28, 3) := by decide +kernel
theorem dX5_put_42 : decode cX5_put 42 = .ok (.getfield 122, 3) := by decide +kernel
theorem dX5_put_45 : decode cX5_put 45 = .ok (.goto 10, 3) := by decide +kernel
theorem dX5_put_48 : decode cX5_put 48 = .ok (.aload_n 0, 1) := by decide +kernel
theorem dX5_put_49 : decode cX5_put 49 = .ok (.getfield 28, 3) := by decide +kernel
theorem dX5_put_52 : decode cX5_put 52 = .ok (.getfield 125, 3) := by decide +kernel
theorem dX5_put_55 : decode cX5_put 55 = .ok (.astore 4, 2) := by decide +kernel
theorem dX5_put_57 : decode cX5_put 57 = .ok (.aload 4, 2) := by decide +kernel
theorem dX5_put_59 : decode cX5_put 59 = .ok (.iload_n 1, 1) := by decide +kernel
theorem dX5_put_60 : decode cX5_put 60 = .ok (.iaload, 1) := by decide +kernel
theorem dX5_put_61 : decode cX5_put 61 = .ok (.istore 5, 2) := by decide +kernel
theorem dX5_put_63 : decode cX5_put 63 = .ok (.aload 4, 2) := by decide +kernel
theorem dX5_put_65 : decode cX5_put 65 = .ok (.iload_n 1, 1) := by decide +kernel
theorem dX5_put_66 : decode cX5_put 66 = .ok (.iload_n 3, 1) := by decide +kernel
theorem dX5_put_67 : decode cX5_put 67 = .ok (.iastore, 1) := by decide +kernel
theorem dX5_put_68 : decode cX5_put 68 = .ok (.iload 5, 2) := by decide +kernel
theorem dX5_put_70 : decode cX5_put 70 = .ok (.ireturn, 1) := by decide +kernel
set_option maxRecDepth 20000 in
theorem ggX5_told_X0_hasPebble : GoodIn wsX5_told wsX0_hasPebble := goodIn_r _ [10, 11, 27, 28, 29, 30, 31, 32, 33, 34, 35, 36, 37, 38] (by decide +kernel) (by decide +kernel)
set_option maxRecDepth 20000 in
theorem gX5_told_X0_hasPebble : GoodIn wsX5_told (wsV RX5 111 RX0 yX0_hasPebble wsX0_hasPebble) := goodIn_app (goodIn_of _ (by decide +kernel)) ggX5_told_X0_hasPebble
set_option maxRecDepth 20000 in
theorem ggX5_told_X0_isSand : GoodIn wsX5_told wsX0_isSand := goodIn_r _ [15, 16, 17, 18, 27, 28, 29, 30, 31, 32, 33, 34, 35, 36, 37, 38] (by decide +kernel) (by decide +kernel)
set_option maxRecDepth 20000 in
theorem gX5_told_X0_isSand : GoodIn wsX5_told (wsV RX5 134 RX0 yX0_isSand wsX0_isSand) := goodIn_app (goodIn_of _ (by decide +kernel)) ggX5_told_X0_isSand
theorem dX5_told_0 : decode cX5_told 0 = .ok (.aload_n 0, 1) := by decide +kernel
theorem dX5_told_1 : decode cX5_told 1 = .ok (.getfield 28, 3) := by decide +kernel
theorem dX5_told_4 : decode cX5_told 4 = .ok (.iload_n 1, 1) := by decide +kernel
theorem dX5_told_5 : decode cX5_told 5 = .ok (.invokevirtual 111, 3) := by decide +kernel
theorem dX5_told_8 : decode cX5_told 8 = .ok (.ifCond .ne 6, 3) := by decide +kernel
theorem dX5_told_11 : decode cX5_told 11 = .ok (.bipush (-5), 2) := by decide +kernel
theorem dX5_told_13 : decode cX5_told 13 = .ok (.ireturn, 1) := by decide +kernel
theorem dX5_told_14 : decode cX5_told 14 = .ok (.iload_n 2, 1) := by decide +kernel
theorem dX5_told_15 : decode cX5_told 15 = .ok (.tableswitch 90 0 4 #[33, 43, 53, 63, 73], 33) := by decide +kernel
theorem dX5_told_48 : decode cX5_told 48 = .ok (.aload_n 0, 1) := by decide +kernel
theorem dX5_told_49 : decode cX5_told 49 = .ok (.getfield 28, 3) := by decide +kernel
theorem dX5_told_52 : decode cX5_told 52 = .ok (.getfield 128, 3) := by decide +kernel
theorem dX5_told_55 : decode cX5_told 55 = .ok (.iload_n 1, 1) := by decide +kernel
theorem dX5_told_56 : decode cX5_told 56 = .ok (.iaload, 1) := by decide +kernel
theorem dX5_told_57 : decode cX5_told 57 = .ok (.ireturn, 1) := by decide +kernel
theorem dX5_told_58 : decode cX5_told 58 = .ok (.aload_n 0, 1) := by decide +kernel
theorem dX5_told_59 : decode cX5_told 59 = .ok (.getfield 28, 3) := by decide +kernel
theorem dX5_told_62 : decode cX5_told 62 = .ok (.getfield 131, 3) := by decide +kernel
theorem dX5_told_65 : decode cX5_told 65 = .ok (.iload_n 1, 1) := by decide +kernel
theorem dX5_told_66 : decode cX5_told 66 = .ok (.iaload, 1) := by decide +kernel
theorem dX5_told_67 : decode cX5_told 67 = .ok (.ireturn, 1) := by decide +kernel
theorem dX5_told_68 : decode cX5_told 68 = .ok (.aload_n 0, 1) := by decide +kernel
theorem dX5_told_69 : decode cX5_told 69 = .ok (.getfield 28, 3) := by decide +kernel
theorem dX5_told_72 : decode cX5_told 72 = .ok (.getfield 122, 3) := by decide +kernel
theorem dX5_told_75 : decode cX5_told 75 = .ok (.iload_n 1, 1) := by decide +kernel
theorem dX5_told_76 : decode cX5_told 76 = .ok (.iaload, 1) := by decide +kernel
theorem dX5_told_77 : decode cX5_told 77 = .ok (.ireturn, 1) := by decide +kernel
theorem dX5_told_78 : decode cX5_told 78 = .ok (.aload_n 0, 1) := by decide +kernel
theorem dX5_told_79 : decode cX5_told 79 = .ok (.getfield 28, 3) := by decide +kernel
theorem dX5_told_82 : decode cX5_told 82 = .ok (.getfield 125, 3) := by decide +kernel
theorem dX5_told_85 : decode cX5_told 85 = .ok (.iload_n 1, 1) := by decide +kernel
theorem dX5_told_86 : decode cX5_told 86 = .ok (.iaload, 1) := by decide +kernel
theorem dX5_told_87 : decode cX5_told 87 = .ok (.ireturn, 1) := by decide +kernel
theorem dX5_told_88 : decode cX5_told 88 = .ok (.aload_n 0, 1) := by decide +kernel
theorem dX5_told_89 : decode cX5_told 89 = .ok (.getfield 28, 3) := by decide +kernel
theorem dX5_told_92 : decode cX5_told 92 = .ok (.iload_n 1, 1) := by decide +kernel
theorem dX5_told_93 : decode cX5_told 93 = .ok (.invokevirtual 134, 3) := by decide +kernel
theorem dX5_told_96 : decode cX5_told 96 = .ok (.ifCond .eq 7, 3) := by decide +kernel
theorem dX5_told_99 : decode cX5_told 99 = .ok (.iconst 1, 1) := by decide +kernel
theorem dX5_told_100 : decode cX5_told 100 = .ok (.goto 4, 3) := by decide +kernel
theorem dX5_told_103 : decode cX5_told 103 = .ok (.iconst 0, 1) := by decide +kernel
theorem dX5_told_104 : decode cX5_told 104 = .ok (.ireturn, 1) := by decide +kernel
theorem dX5_told_105 : decode cX5_told 105 = .ok (.bipush (-7), 2) := by decide +kernel
theorem dX5_told_107 : decode cX5_told 107 = .ok (.ireturn, 1) := by decide +kernel
set_option maxRecDepth 20000 in
theorem ggX5_walk_X0_hasBoth : GoodIn wsX5_walk wsX0_hasBoth := goodIn_r _ [7, 8, 9, 10, 6, 11, 12, 13, 14, 15, 16, 17, 91, 92, 93, 94, 95, 96, 97, 98, 99, 100, 101, 102] (by decide +kernel) (by decide +kernel)
set_option maxRecDepth 20000 in
theorem gX5_walk_X0_hasBoth : GoodIn wsX5_walk (wsV RX5 137 RX0 yX0_hasBoth wsX0_hasBoth) := goodIn_app (goodIn_of _ (by decide +kernel)) ggX5_walk_X0_hasBoth
set_option maxRecDepth 20000 in
theorem ggX5_walk_X5_within : GoodIn wsX5_walk wsX5_within := goodIn_r _ [21] (by decide +kernel) (by decide +kernel)
set_option maxRecDepth 20000 in
theorem gX5_walk_X5_within : GoodIn wsX5_walk (va_wsS RX5 86 yX5_within wsX5_within) := goodIn_app (goodIn_of _ (by decide +kernel)) ggX5_walk_X5_within
set_option maxRecDepth 20000 in
theorem ggX5_walk_X0_go : GoodIn wsX5_walk wsX0_go := goodIn_r _ [25, 26, 27, 28, 6, 29, 30, 31, 32, 33, 34, 35, 36, 37, 38, 39, 40, 41, 42, 43, 44, 45, 46, 47, 48, 49, 50, 51, 52, 53, 54, 55, 56, 57, 58, 59, 60, 61, 62, 63, 64, 65, 66, 67, 68, 69, 70, 71, 72, 73, 74, 75, 76, 77, 78, 79, 80, 81, 82, 91, 92, 93, 94, 95, 96, 97, 98, 99, 100, 101, 102, 103, 104, 105, 106, 107] (by decide +kernel) (by decide +kernel)
set_option maxRecDepth 20000 in
theorem gX5_walk_X0_go : GoodIn wsX5_walk (wsV RX5 140 RX0 yX0_go wsX0_go) := goodIn_app (goodIn_of _ (by decide +kernel)) ggX5_walk_X0_go
theorem dX5_walk_0 : decode cX5_walk 0 = .ok (.aload_n 0, 1) := by decide +kernel
theorem dX5_walk_1 : decode cX5_walk 1 = .ok (.getfield 28, 3) := by decide +kernel
theorem dX5_walk_4 : decode cX5_walk 4 = .ok (.iload_n 1, 1) := by decide +kernel
theorem dX5_walk_5 : decode cX5_walk 5 = .ok (.iload_n 2, 1) := by decide +kernel
theorem dX5_walk_6 : decode cX5_walk 6 = .ok (.invokevirtual 137, 3) := by decide +kernel
theorem dX5_walk_9 : decode cX5_walk 9 = .ok (.ifCond .ne 6, 3) := by decide +kernel
theorem dX5_walk_12 : decode cX5_walk 12 = .ok (.bipush (-5), 2) := by decide +kernel
theorem dX5_walk_14 : decode cX5_walk 14 = .ok (.ireturn, 1) := by decide +kernel
theorem dX5_walk_15 : decode cX5_walk 15 = .ok (.iload_n 3, 1) := by decide +kernel
theorem dX5_walk_16 : decode cX5_walk 16 = .ok (.bipush 60, 2) := by decide +kernel
theorem dX5_walk_18 : decode cX5_walk 18 = .ok (.invokestatic 86, 3) := by decide +kernel
theorem dX5_walk_21 : decode cX5_walk 21 = .ok (.ifCond .ne 6, 3) := by decide +kernel
theorem dX5_walk_24 : decode cX5_walk 24 = .ok (.bipush (-7), 2) := by decide +kernel
theorem dX5_walk_26 : decode cX5_walk 26 = .ok (.ireturn, 1) := by decide +kernel
theorem dX5_walk_27 : decode cX5_walk 27 = .ok (.aload_n 0, 1) := by decide +kernel
theorem dX5_walk_28 : decode cX5_walk 28 = .ok (.getfield 28, 3) := by decide +kernel
theorem dX5_walk_31 : decode cX5_walk 31 = .ok (.getfield 102, 3) := by decide +kernel
theorem dX5_walk_34 : decode cX5_walk 34 = .ok (.iload_n 1, 1) := by decide +kernel
theorem dX5_walk_35 : decode cX5_walk 35 = .ok (.iaload, 1) := by decide +kernel
theorem dX5_walk_36 : decode cX5_walk 36 = .ok (.iload_n 3, 1) := by decide +kernel
theorem dX5_walk_37 : decode cX5_walk 37 = .ok (.iadd, 1) := by decide +kernel
theorem dX5_walk_38 : decode cX5_walk 38 = .ok (.sipush 999, 3) := by decide +kernel
theorem dX5_walk_41 : decode cX5_walk 41 = .ok (.if_icmp .le 6, 3) := by decide +kernel
theorem dX5_walk_44 : decode cX5_walk 44 = .ok (.bipush (-4), 2) := by decide +kernel
theorem dX5_walk_46 : decode cX5_walk 46 = .ok (.ireturn, 1) := by decide +kernel
theorem dX5_walk_47 : decode cX5_walk 47 = .ok (.aload_n 0, 1) := by decide +kernel
theorem dX5_walk_48 : decode cX5_walk 48 = .ok (.getfield 28, 3) := by decide +kernel
theorem dX5_walk_51 : decode cX5_walk 51 = .ok (.iload_n 1, 1) := by decide +kernel
theorem dX5_walk_52 : decode cX5_walk 52 = .ok (.iload_n 2, 1) := by decide +kernel
theorem dX5_walk_53 : decode cX5_walk 53 = .ok (.iload_n 3, 1) := by decide +kernel
theorem dX5_walk_54 : decode cX5_walk 54 = .ok (.invokevirtual 140, 3) := by decide +kernel
theorem dX5_walk_57 : decode cX5_walk 57 = .ok (.ireturn, 1) := by decide +kernel
set_option maxRecDepth 20000 in
theorem ggX5_hear_X0_hasBoth : GoodIn wsX5_hear wsX0_hasBoth := goodIn_r _ [8, 9, 10, 11, 7, 12, 13, 14, 15, 16, 17, 18, 113, 114, 115, 116, 117, 118, 119, 120, 121, 122, 123, 124] (by decide +kernel) (by decide +kernel)
set_option maxRecDepth 20000 in
theorem gX5_hear_X0_hasBoth : GoodIn wsX5_hear (wsV RX5 137 RX0 yX0_hasBoth wsX0_hasBoth) := goodIn_app (goodIn_of _ (by decide +kernel)) ggX5_hear_X0_hasBoth
set_option maxRecDepth 20000 in
theorem ggX5_hear_X5_within : GoodIn wsX5_hear wsX5_within := goodIn_r _ [22] (by decide +kernel) (by decide +kernel)
set_option maxRecDepth 20000 in
theorem gX5_hear_X5_within : GoodIn wsX5_hear (va_wsS RX5 86 yX5_within wsX5_within) := goodIn_app (goodIn_of _ (by decide +kernel)) ggX5_hear_X5_within
set_option maxRecDepth 20000 in
theorem ggX5_hear_X5_think : GoodIn wsX5_hear wsX5_think := goodIn_r _ [26, 2, 1, 27, 28, 29, 7, 30, 31, 32, 33, 34, 35, 36, 37, 38, 39, 40, 41, 13, 18, 42, 105, 106, 107, 108, 109, 110, 111, 112, 113, 114, 115, 116, 117, 118, 119, 120, 121, 122, 123, 124] (by decide +kernel) (by decide +kernel)
set_option maxRecDepth 20000 in
theorem gX5_hear_X5_think : GoodIn wsX5_hear (wsV RX5 143 RX5 yX5_think wsX5_think) := goodIn_app (goodIn_of _ (by decide +kernel)) ggX5_hear_X5_think
set_option maxRecDepth 20000 in
theorem ggX5_hear_X0_go : GoodIn wsX5_hear wsX0_go := goodIn_r _ [46, 47, 48, 49, 7, 50, 37, 51, 52, 53, 54, 55, 40, 56, 57, 58, 59, 60, 61, 62, 38, 39, 63, 64, 65, 66, 67, 41, 31, 36, 68, 42, 69, 70, 71, 72, 73, 74, 75, 76, 77, 78, 79, 80, 81, 82, 83, 84, 85, 86, 87, 88, 89, 90, 91, 92, 93, 94, 95, 113, 114, 115, 116, 117, 118, 119, 120, 121, 122, 123, 124, 125, 126, 127, 128, 129] (by decide +kernel) (by decide +kernel)
set_option maxRecDepth 20000 in
theorem gX5_hear_X0_go : GoodIn wsX5_hear (wsV RX5 140 RX0 yX0_go wsX0_go) := goodIn_app (goodIn_of _ (by decide +kernel)) ggX5_hear_X0_go
set_option maxRecDepth 20000 in
theorem ggX5_hear_X5_outcome : GoodIn wsX5_hear wsX5_outcome := goodIn_r _ [99, 2, 100, 101, 102, 103, 7, 104, 63, 64, 65, 66, 67, 40, 41, 31, 36, 39, 68, 42, 52, 53, 54, 55, 56, 57, 58, 69, 70, 71, 72, 73, 74, 75, 76, 77, 78, 79, 80, 81, 82, 83, 105, 106, 107, 108, 109, 110, 111, 112, 113, 114, 115, 116, 117, 118, 119, 120, 121, 122, 123, 124, 125, 126, 127, 128, 129] (by decide +kernel) (by decide +kernel)
set_option maxRecDepth 20000 in
theorem gX5_hear_X5_outcome : GoodIn wsX5_hear (wsV RX5 146 RX5 yX5_outcome wsX5_outcome) := goodIn_app (goodIn_of _ (by decide +kernel)) ggX5_hear_X5_outcome
theorem dX5_hear_0 : decode cX5_hear 0 = .ok (.aload_n 0, 1) := by decide +kernel
theorem dX5_hear_1 : decode cX5_hear 1 = .ok (.getfield 28, 3) := by decide +kernel
theorem dX5_hear_4 : decode cX5_hear 4 = .ok (.iload_n 1, 1) := by decide +kernel
theorem dX5_hear_5 : decode cX5_hear 5 = .ok (.iload_n 2, 1) := by decide +kernel
theorem dX5_hear_6 : decode cX5_hear 6 = .ok (.invokevirtual 137, 3) := by decide +kernel
theorem dX5_hear_9 : decode cX5_hear 9 = .ok (.ifCond .ne 6, 3) := by decide +kernel
theorem dX5_hear_12 : decode cX5_hear 12 = .ok (.bipush (-5), 2) := by decide +kernel
theorem dX5_hear_14 : decode cX5_hear 14 = .ok (.ireturn, 1) := by decide +kernel
theorem dX5_hear_15 : decode cX5_hear 15 = .ok (.iload_n 3, 1) := by decide +kernel
theorem dX5_hear_16 : decode cX5_hear 16 = .ok (.bipush 60, 2) := by decide +kernel
theorem dX5_hear_18 : decode cX5_hear 18 = .ok (.invokestatic 86, 3) := by decide +kernel
theorem dX5_hear_21 : decode cX5_hear 21 = .ok (.ifCond .eq 12, 3) := by decide +kernel
theorem dX5_hear_24 : decode cX5_hear 24 = .ok (.iload 4, 2) := by decide +kernel
theorem dX5_hear_26 : decode cX5_hear 26 = .ok (.iconst 3, 1) := by decide +kernel
theorem dX5_hear_27 : decode cX5_hear 27 = .ok (.invokestatic 86, 3) := by decide +kernel
theorem dX5_hear_30 : decode cX5_hear 30 = .ok (.ifCond .ne 6, 3) := by decide +kernel
theorem dX5_hear_33 : decode cX5_hear 33 = .ok (.bipush (-7), 2) := by decide +kernel
theorem dX5_hear_35 : decode cX5_hear 35 = .ok (.ireturn, 1) := by decide +kernel
theorem dX5_hear_36 : decode cX5_hear 36 = .ok (.aload_n 0, 1) := by decide +kernel
theorem dX5_hear_37 : decode cX5_hear 37 = .ok (.invokevirtual 143, 3) := by decide +kernel
theorem dX5_hear_40 : decode cX5_hear 40 = .ok (.aload_n 0, 1) := by decide +kernel
theorem dX5_hear_41 : decode cX5_hear 41 = .ok (.getfield 32, 3) := by decide +kernel
theorem dX5_hear_44 : decode cX5_hear 44 = .ok (.iload_n 1, 1) := by decide +kernel
theorem dX5_hear_45 : decode cX5_hear 45 = .ok (.iload_n 2, 1) := by decide +kernel
theorem dX5_hear_46 : decode cX5_hear 46 = .ok (.iload_n 3, 1) := by decide +kernel
theorem dX5_hear_47 : decode cX5_hear 47 = .ok (.invokevirtual 140, 3) := by decide +kernel
theorem dX5_hear_50 : decode cX5_hear 50 = .ok (.istore 5, 2) := by decide +kernel
theorem dX5_hear_52 : decode cX5_hear 52 = .ok (.iload 4, 2) := by decide +kernel
theorem dX5_hear_54 : decode cX5_hear 54 = .ok (.iconst 3, 1) := by decide +kernel
theorem dX5_hear_55 : decode cX5_hear 55 = .ok (.if_icmp .ne 15, 3) := by decide +kernel
theorem dX5_hear_58 : decode cX5_hear 58 = .ok (.aload_n 0, 1) := by decide +kernel
theorem dX5_hear_59 : decode cX5_hear 59 = .ok (.getfield 32, 3) := by decide +kernel
theorem dX5_hear_62 : decode cX5_hear 62 = .ok (.getfield 98, 3) := by decide +kernel
theorem dX5_hear_65 : decode cX5_hear 65 = .ok (.iload_n 1, 1) := by decide +kernel
theorem dX5_hear_66 : decode cX5_hear 66 = .ok (.iaload, 1) := by decide +kernel
theorem dX5_hear_67 : decode cX5_hear 67 = .ok (.goto 13, 3) := by decide +kernel
theorem dX5_hear_70 : decode cX5_hear 70 = .ok (.aload_n 0, 1) := by decide +kernel
theorem dX5_hear_71 : decode cX5_hear 71 = .ok (.iload_n 1, 1) := by decide +kernel
theorem dX5_hear_72 : decode cX5_hear 72 = .ok (.iload_n 2, 1) := by decide +kernel
theorem dX5_hear_73 : decode cX5_hear 73 = .ok (.iload 5, 2) := by decide +kernel
theorem dX5_hear_75 : decode cX5_hear 75 = .ok (.iload 4, 2) := by decide +kernel
theorem dX5_hear_77 : decode cX5_hear 77 = .ok (.invokevirtual 146, 3) := by decide +kernel
theorem dX5_hear_80 : decode cX5_hear 80 = .ok (.ireturn, 1) := by decide +kernel
set_option maxRecDepth 20000 in
theorem ggX5_fewest_X0_hasBoth : GoodIn wsX5_fewest wsX0_hasBoth := goodIn_r _ [6, 7, 8, 9, 5, 10, 11, 12, 13, 14, 15, 16, 107, 108, 109, 110, 111, 112, 113, 114, 115, 116, 117, 118] (by decide +kernel) (by decide +kernel)
set_option maxRecDepth 20000 in
theorem gX5_fewest_X0_hasBoth : GoodIn wsX5_fewest (wsV RX5 137 RX0 yX0_hasBoth wsX0_hasBoth) := goodIn_app (goodIn_of _ (by decide +kernel)) ggX5_fewest_X0_hasBoth
set_option maxRecDepth 20000 in
theorem ggX5_fewest_X5_guiltyBits : GoodIn wsX5_fewest wsX5_guiltyBits := goodIn_r _ [21, 22, 23, 24, 25, 20, 26, 1, 27, 28, 29, 5, 30, 31, 32, 33, 34, 35, 36, 37, 38, 39, 40, 41, 11, 16, 42, 43, 44, 45, 46, 47, 48, 49, 50, 51, 52, 53, 54, 55, 56, 57, 58, 59, 60, 61, 62, 63, 64, 65, 66, 67, 68, 69, 70, 71, 72, 73, 74, 75, 76, 77, 78, 79, 80, 81, 82, 83, 84, 85, 86, 87, 88, 89, 90, 91, 92, 93, 94, 95, 99, 100, 101, 102, 103, 104, 105, 106, 107, 108, 109, 110, 111, 112, 113, 114, 115, 116, 117, 118, 119, 120, 121, 122, 123] (by decide +kernel) (by decide +kernel)
set_option maxRecDepth 20000 in
theorem gX5_fewest_X5_guiltyBits : GoodIn wsX5_fewest (wsV RX5 150 RX5 yX5_guiltyBits wsX5_guiltyBits) := goodIn_app (goodIn_of _ (by decide +kernel)) ggX5_fewest_X5_guiltyBits
set_option maxRecDepth 20000 in
theorem ggX5_fewest_X5_leastBit : GoodIn wsX5_fewest wsX5_leastBit := goodIn_r _ [98] (by decide +kernel) (by decide +kernel)
set_option maxRecDepth 20000 in
theorem gX5_fewest_X5_leastBit : GoodIn wsX5_fewest (va_wsS RX5 154 yX5_leastBit wsX5_leastBit) := goodIn_app (goodIn_of _ (by decide +kernel)) ggX5_fewest_X5_leastBit
theorem dX5_fewest_0 : decode cX5_fewest 0 = .ok (.aload_n 0, 1) := by decide +kernel
theorem dX5_fewest_1 : decode cX5_fewest 1 = .ok (.getfield 28, 3) := by decide +kernel
theorem dX5_fewest_4 : decode cX5_fewest 4 = .ok (.iload_n 1, 1) := by decide +kernel
theorem dX5_fewest_5 : decode cX5_fewest 5 = .ok (.iload_n 2, 1) := by decide +kernel
theorem dX5_fewest_6 : decode cX5_fewest 6 = .ok (.invokevirtual 137, 3) := by decide +kernel
theorem dX5_fewest_9 : decode cX5_fewest 9 = .ok (.ifCond .ne 6, 3) := by decide +kernel
theorem dX5_fewest_12 : decode cX5_fewest 12 = .ok (.bipush (-5), 2) := by decide +kernel
theorem dX5_fewest_14 : decode cX5_fewest 14 = .ok (.ireturn, 1) := by decide +kernel
theorem dX5_fewest_15 : decode cX5_fewest 15 = .ok (.aload_n 0, 1) := by decide +kernel
theorem dX5_fewest_16 : decode cX5_fewest 16 = .ok (.iload_n 1, 1) := by decide +kernel
theorem dX5_fewest_17 : decode cX5_fewest 17 = .ok (.iload_n 2, 1) := by decide +kernel
theorem dX5_fewest_18 : decode cX5_fewest 18 = .ok (.invokevirtual 150, 3) := by decide +kernel
theorem dX5_fewest_21 : decode cX5_fewest 21 = .ok (.invokestatic 154, 3) := by decide +kernel
theorem dX5_fewest_24 : decode cX5_fewest 24 = .ok (.ireturn, 1) := by decide +kernel
set_option maxRecDepth 20000 in
theorem ggX5_sand_X0_hasBoth : GoodIn wsX5_sand wsX0_hasBoth := goodIn_r _ [7, 8, 9, 10, 6, 11, 12, 13, 14, 15, 16, 17, 97, 98, 99, 100, 101, 102, 103, 104, 105, 106, 107, 108] (by decide +kernel) (by decide +kernel)
set_option maxRecDepth 20000 in
theorem gX5_sand_X0_hasBoth : GoodIn wsX5_sand (wsV RX5 137 RX0 yX0_hasBoth wsX0_hasBoth) := goodIn_app (goodIn_of _ (by decide +kernel)) ggX5_sand_X0_hasBoth
set_option maxRecDepth 20000 in
theorem ggX5_sand_X5_think : GoodIn wsX5_sand wsX5_think := goodIn_r _ [22, 2, 1, 23, 24, 25, 6, 26, 27, 28, 29, 30, 31, 32, 33, 34, 35, 36, 37, 12, 17, 38, 89, 90, 91, 92, 93, 94, 95, 96, 97, 98, 99, 100, 101, 102, 103, 104, 105, 106, 107, 108] (by decide +kernel) (by decide +kernel)
set_option maxRecDepth 20000 in
theorem gX5_sand_X5_think : GoodIn wsX5_sand (wsV RX5 143 RX5 yX5_think wsX5_think) := goodIn_app (goodIn_of _ (by decide +kernel)) ggX5_sand_X5_think
set_option maxRecDepth 20000 in
theorem ggX5_sand_X0_isSand : GoodIn wsX5_sand wsX0_isSand := goodIn_r _ [42, 34, 36, 35, 97, 98, 99, 100, 101, 102, 103, 104, 105, 106, 107, 108] (by decide +kernel) (by decide +kernel)
set_option maxRecDepth 20000 in
theorem gX5_sand_X0_isSand : GoodIn wsX5_sand (wsV RX5 134 RX0 yX0_isSand wsX0_isSand) := goodIn_app (goodIn_of _ (by decide +kernel)) ggX5_sand_X0_isSand
set_option maxRecDepth 20000 in
theorem ggX5_sand_X0_mile : GoodIn wsX5_sand wsX0_mile := goodIn_r _ [46, 33, 47, 48, 49, 50, 51, 36, 52, 53, 54, 55, 40, 41, 6, 42, 34, 35, 56, 57, 58, 59, 60, 37, 27, 32, 61, 38, 62, 63, 64, 65, 66, 67, 68, 69, 70, 71, 72, 73, 74, 75, 76, 77, 78, 79, 80, 81, 82, 83, 84, 85, 86, 87, 88, 97, 98, 99, 100, 101, 102, 103, 104, 105, 106, 107, 108, 109, 110, 111, 112, 113] (by decide +kernel) (by decide +kernel)
set_option maxRecDepth 20000 in
theorem gX5_sand_X0_mile : GoodIn wsX5_sand (wsV RX5 158 RX0 yX0_mile wsX0_mile) := goodIn_app (goodIn_of _ (by decide +kernel)) ggX5_sand_X0_mile
theorem dX5_sand_0 : decode cX5_sand 0 = .ok (.aload_n 0, 1) := by decide +kernel
theorem dX5_sand_1 : decode cX5_sand 1 = .ok (.getfield 28, 3) := by decide +kernel
theorem dX5_sand_4 : decode cX5_sand 4 = .ok (.iload_n 1, 1) := by decide +kernel
theorem dX5_sand_5 : decode cX5_sand 5 = .ok (.iload_n 2, 1) := by decide +kernel
theorem dX5_sand_6 : decode cX5_sand 6 = .ok (.invokevirtual 137, 3) := by decide +kernel
theorem dX5_sand_9 : decode cX5_sand 9 = .ok (.ifCond .ne 6, 3) := by decide +kernel
theorem dX5_sand_12 : decode cX5_sand 12 = .ok (.bipush (-5), 2) := by decide +kernel
theorem dX5_sand_14 : decode cX5_sand 14 = .ok (.ireturn, 1) := by decide +kernel
theorem dX5_sand_15 : decode cX5_sand 15 = .ok (.aload_n 0, 1) := by decide +kernel
theorem dX5_sand_16 : decode cX5_sand 16 = .ok (.invokevirtual 143, 3) := by decide +kernel
theorem dX5_sand_19 : decode cX5_sand 19 = .ok (.iconst 0, 1) := by decide +kernel
theorem dX5_sand_20 : decode cX5_sand 20 = .ok (.istore_n 3, 1) := by decide +kernel
theorem dX5_sand_21 : decode cX5_sand 21 = .ok (.iload_n 3, 1) := by decide +kernel
theorem dX5_sand_22 : decode cX5_sand 22 = .ok (.bipush 60, 2) := by decide +kernel
theorem dX5_sand_24 : decode cX5_sand 24 = .ok (.if_icmp .gt 33, 3) := by decide +kernel
theorem dX5_sand_27 : decode cX5_sand 27 = .ok (.aload_n 0, 1) := by decide +kernel
theorem dX5_sand_28 : decode cX5_sand 28 = .ok (.getfield 32, 3) := by decide +kernel
theorem dX5_sand_31 : decode cX5_sand 31 = .ok (.iload_n 2, 1) := by decide +kernel
theorem dX5_sand_32 : decode cX5_sand 32 = .ok (.invokevirtual 134, 3) := by decide +kernel
theorem dX5_sand_35 : decode cX5_sand 35 = .ok (.ifCond .eq 5, 3) := by decide +kernel
theorem dX5_sand_38 : decode cX5_sand 38 = .ok (.iload_n 3, 1) := by decide +kernel
theorem dX5_sand_39 : decode cX5_sand 39 = .ok (.ireturn, 1) := by decide +kernel
theorem dX5_sand_40 : decode cX5_sand 40 = .ok (.aload_n 0, 1) := by decide +kernel
theorem dX5_sand_41 : decode cX5_sand 41 = .ok (.getfield 32, 3) := by decide +kernel
theorem dX5_sand_44 : decode cX5_sand 44 = .ok (.iload_n 1, 1) := by decide +kernel
theorem dX5_sand_45 : decode cX5_sand 45 = .ok (.iload_n 2, 1) := by decide +kernel
theorem dX5_sand_46 : decode cX5_sand 46 = .ok (.iconst 0, 1) := by decide +kernel
theorem dX5_sand_47 : decode cX5_sand 47 = .ok (.invokevirtual 158, 3) := by decide +kernel
theorem dX5_sand_50 : decode cX5_sand 50 = .ok (.pop, 1) := by decide +kernel
theorem dX5_sand_51 : decode cX5_sand 51 = .ok (.iinc 3 1, 3) := by decide +kernel
theorem dX5_sand_54 : decode cX5_sand 54 = .ok (.goto (-33), 3) := by decide +kernel
theorem dX5_sand_57 : decode cX5_sand 57 = .ok (.iconst (-1), 1) := by decide +kernel
theorem dX5_sand_58 : decode cX5_sand 58 = .ok (.ireturn, 1) := by decide +kernel
set_option maxRecDepth 20000 in
theorem ggX5_unlike_X0_hasBoth : GoodIn wsX5_unlike wsX0_hasBoth := goodIn_r _ [6, 7, 8, 9, 5, 10, 11, 12, 13, 14, 15, 16, 108, 109, 110, 111, 112, 113, 114, 115, 116, 117, 118, 119] (by decide +kernel) (by decide +kernel)
set_option maxRecDepth 20000 in
theorem gX5_unlike_X0_hasBoth : GoodIn wsX5_unlike (wsV RX5 137 RX0 yX0_hasBoth wsX0_hasBoth) := goodIn_app (goodIn_of _ (by decide +kernel)) ggX5_unlike_X0_hasBoth
set_option maxRecDepth 20000 in
theorem ggX5_unlike_X0_hasJudge : GoodIn wsX5_unlike wsX0_hasJudge := goodIn_r _ [10, 11, 108, 109, 110, 111, 112, 113, 114, 115, 116, 117, 118, 119] (by decide +kernel) (by decide +kernel)
set_option maxRecDepth 20000 in
theorem gX5_unlike_X0_hasJudge : GoodIn wsX5_unlike (wsV RX5 94 RX0 yX0_hasJudge wsX0_hasJudge) := goodIn_app (goodIn_of _ (by decide +kernel)) ggX5_unlike_X0_hasJudge
set_option maxRecDepth 20000 in
theorem ggX5_unlike_X5_guiltyBits : GoodIn wsX5_unlike wsX5_guiltyBits := goodIn_r _ [22, 23, 24, 25, 26, 21, 27, 1, 28, 29, 30, 5, 31, 32, 33, 34, 35, 36, 37, 38, 39, 40, 41, 42, 11, 16, 43, 44, 45, 46, 47, 48, 49, 50, 51, 52, 53, 54, 55, 56, 57, 58, 59, 60, 61, 62, 63, 64, 65, 66, 67, 68, 69, 70, 71, 72, 73, 74, 75, 76, 77, 78, 79, 80, 81, 82, 83, 84, 85, 86, 87, 88, 89, 90, 91, 92, 93, 94, 95, 96, 100, 101, 102, 103, 104, 105, 106, 107, 108, 109, 110, 111, 112, 113, 114, 115, 116, 117, 118, 119, 120, 121, 122, 123, 124] (by decide +kernel) (by decide +kernel)
set_option maxRecDepth 20000 in
theorem gX5_unlike_X5_guiltyBits : GoodIn wsX5_unlike (wsV RX5 150 RX5 yX5_guiltyBits wsX5_guiltyBits) := goodIn_app (goodIn_of _ (by decide +kernel)) ggX5_unlike_X5_guiltyBits
set_option maxRecDepth 20000 in
theorem ggX5_unlike_X5_leastBit : GoodIn wsX5_unlike wsX5_leastBit := goodIn_r _ [99] (by decide +kernel) (by decide +kernel)
set_option maxRecDepth 20000 in
theorem gX5_unlike_X5_leastBit : GoodIn wsX5_unlike (va_wsS RX5 154 yX5_leastBit wsX5_leastBit) := goodIn_app (goodIn_of _ (by decide +kernel)) ggX5_unlike_X5_leastBit
theorem dX5_unlike_0 : decode cX5_unlike 0 = .ok (.aload_n 0, 1) := by decide +kernel
theorem dX5_unlike_1 : decode cX5_unlike 1 = .ok (.getfield 28, 3) := by decide +kernel
theorem dX5_unlike_4 : decode cX5_unlike 4 = .ok (.iload_n 1, 1) := by decide +kernel
theorem dX5_unlike_5 : decode cX5_unlike 5 = .ok (.iload_n 3, 1) := by decide +kernel
theorem dX5_unlike_6 : decode cX5_unlike 6 = .ok (.invokevirtual 137, 3) := by decide +kernel
theorem dX5_unlike_9 : decode cX5_unlike 9 = .ok (.ifCond .eq 19, 3) := by decide +kernel
theorem dX5_unlike_12 : decode cX5_unlike 12 = .ok (.aload_n 0, 1) := by decide +kernel
theorem dX5_unlike_13 : decode cX5_unlike 13 = .ok (.getfield 28, 3) := by decide +kernel
theorem dX5_unlike_16 : decode cX5_unlike 16 = .ok (.iload_n 2, 1) := by decide +kernel
theorem dX5_unlike_17 : decode cX5_unlike 17 = .ok (.invokevirtual 94, 3) := by decide +kernel
theorem dX5_unlike_20 : decode cX5_unlike 20 = .ok (.ifCond .eq 8, 3) := by decide +kernel
theorem dX5_unlike_23 : decode cX5_unlike 23 = .ok (.iload_n 1, 1) := by decide +kernel
theorem dX5_unlike_24 : decode cX5_unlike 24 = .ok (.iload_n 2, 1) := by decide +kernel
theorem dX5_unlike_25 : decode cX5_unlike 25 = .ok (.if_icmp .ne 6, 3) := by decide +kernel
theorem dX5_unlike_28 : decode cX5_unlike 28 = .ok (.bipush (-5), 2) := by decide +kernel
theorem dX5_unlike_30 : decode cX5_unlike 30 = .ok (.ireturn, 1) := by decide +kernel
theorem dX5_unlike_31 : decode cX5_unlike 31 = .ok (.aload_n 0, 1) := by decide +kernel
theorem dX5_unlike_32 : decode cX5_unlike 32 = .ok (.iload_n 1, 1) := by decide +kernel
theorem dX5_unlike_33 : decode cX5_unlike 33 = .ok (.iload_n 3, 1) := by decide +kernel
theorem dX5_unlike_34 : decode cX5_unlike 34 = .ok (.invokevirtual 150, 3) := by decide +kernel
theorem dX5_unlike_37 : decode cX5_unlike 37 = .ok (.aload_n 0, 1) := by decide +kernel
theorem dX5_unlike_38 : decode cX5_unlike 38 = .ok (.iload_n 2, 1) := by decide +kernel
theorem dX5_unlike_39 : decode cX5_unlike 39 = .ok (.iload_n 3, 1) := by decide +kernel
theorem dX5_unlike_40 : decode cX5_unlike 40 = .ok (.invokevirtual 150, 3) := by decide +kernel
theorem dX5_unlike_43 : decode cX5_unlike 43 = .ok (.lxor, 1) := by decide +kernel
theorem dX5_unlike_44 : decode cX5_unlike 44 = .ok (.invokestatic 154, 3) := by decide +kernel
theorem dX5_unlike_47 : decode cX5_unlike 47 = .ok (.ireturn, 1) := by decide +kernel
set_option maxRecDepth 20000 in
theorem ggX5_hardest_X5_within : GoodIn wsX5_hardest wsX5_within := goodIn_r _ [6] (by decide +kernel) (by decide +kernel)
set_option maxRecDepth 20000 in
theorem gX5_hardest_X5_within : GoodIn wsX5_hardest (va_wsS RX5 86 yX5_within wsX5_within) := goodIn_app (goodIn_of _ (by decide +kernel)) ggX5_hardest_X5_within
set_option maxRecDepth 20000 in
theorem ggX5_hardest_X5_guiltyOfAll : GoodIn wsX5_hardest wsX5_guiltyOfAll := goodIn_r _ [10, 1, 11, 12, 13, 14, 15, 5, 16, 17, 18, 19, 20, 21, 22, 23, 24, 25, 26, 27, 28, 29, 30, 31, 32, 33, 34, 35, 36, 37, 38, 39, 40, 41, 42, 43, 44, 45, 46, 47, 48, 49, 50, 51, 52, 53, 54, 55, 56, 57, 58, 59, 60, 61, 62, 63, 64, 65, 66, 67, 68, 69, 70, 71, 72, 73, 74, 75, 76, 77, 78, 79, 80, 81, 82, 83, 84, 85, 86, 87, 88, 89, 90, 91, 92, 93, 94, 95, 96, 97, 98, 99, 100, 101, 102, 103, 104, 105, 106, 107, 108, 109, 110, 111, 112, 113, 114, 115, 116, 117] (by decide +kernel) (by decide +kernel)
set_option maxRecDepth 20000 in
theorem gX5_hardest_X5_guiltyOfAll : GoodIn wsX5_hardest (wsV RX5 161 RX5 yX5_guiltyOfAll wsX5_guiltyOfAll) := goodIn_app (goodIn_of _ (by decide +kernel)) ggX5_hardest_X5_guiltyOfAll
theorem dX5_hardest_0 : decode cX5_hardest 0 = .ok (.iload_n 1, 1) := by decide +kernel
theorem dX5_hardest_1 : decode cX5_hardest 1 = .ok (.bipush 60, 2) := by decide +kernel
theorem dX5_hardest_3 : decode cX5_hardest 3 = .ok (.invokestatic 86, 3) := by decide +kernel
theorem dX5_hardest_6 : decode cX5_hardest 6 = .ok (.ifCond .eq 11, 3) := by decide +kernel
theorem dX5_hardest_9 : decode cX5_hardest 9 = .ok (.iload_n 2, 1) := by decide +kernel
theorem dX5_hardest_10 : decode cX5_hardest 10 = .ok (.iconst 1, 1) := by decide +kernel
theorem dX5_hardest_11 : decode cX5_hardest 11 = .ok (.invokestatic 86, 3) := by decide +kernel
theorem dX5_hardest_14 : decode cX5_hardest 14 = .ok (.ifCond .ne 6, 3) := by decide +kernel
theorem dX5_hardest_17 : decode cX5_hardest 17 = .ok (.bipush (-2), 2) := by decide +kernel
theorem dX5_hardest_19 : decode cX5_hardest 19 = .ok (.ireturn, 1) := by decide +kernel
theorem dX5_hardest_20 : decode cX5_hardest 20 = .ok (.iconst (-1), 1) := by decide +kernel
theorem dX5_hardest_21 : decode cX5_hardest 21 = .ok (.istore_n 3, 1) := by decide +kernel
theorem dX5_hardest_22 : decode cX5_hardest 22 = .ok (.iconst (-1), 1) := by decide +kernel
theorem dX5_hardest_23 : decode cX5_hardest 23 = .ok (.istore 4, 2) := by decide +kernel
theorem dX5_hardest_25 : decode cX5_hardest 25 = .ok (.iconst 0, 1) := by decide +kernel
theorem dX5_hardest_26 : decode cX5_hardest 26 = .ok (.istore 5, 2) := by decide +kernel
theorem dX5_hardest_28 : decode cX5_hardest 28 = .ok (.iload 5, 2) := by decide +kernel
theorem dX5_hardest_30 : decode cX5_hardest 30 = .ok (.aload_n 0, 1) := by decide +kernel
theorem dX5_hardest_31 : decode cX5_hardest 31 = .ok (.getfield 28, 3) := by decide +kernel
theorem dX5_hardest_34 : decode cX5_hardest 34 = .ok (.getfield 75, 3) := by decide +kernel
theorem dX5_hardest_37 : decode cX5_hardest 37 = .ok (.if_icmp .ge 32, 3) := by decide +kernel
theorem dX5_hardest_40 : decode cX5_hardest 40 = .ok (.aload_n 0, 1) := by decide +kernel
theorem dX5_hardest_41 : decode cX5_hardest 41 = .ok (.iload 5, 2) := by decide +kernel
theorem dX5_hardest_43 : decode cX5_hardest 43 = .ok (.iload_n 1, 1) := by decide +kernel
theorem dX5_hardest_44 : decode cX5_hardest 44 = .ok (.invokevirtual 161, 3) := by decide +kernel
theorem dX5_hardest_47 : decode cX5_hardest 47 = .ok (.istore 6, 2) := by decide +kernel
theorem dX5_hardest_49 : decode cX5_hardest 49 = .ok (.iload 6, 2) := by decide +kernel
theorem dX5_hardest_51 : decode cX5_hardest 51 = .ok (.iload 4, 2) := by decide +kernel
theorem dX5_hardest_53 : decode cX5_hardest 53 = .ok (.if_icmp .le 10, 3) := by decide +kernel
theorem dX5_hardest_56 : decode cX5_hardest 56 = .ok (.iload 6, 2) := by decide +kernel
theorem dX5_hardest_58 : decode cX5_hardest 58 = .ok (.istore 4, 2) := by decide +kernel
theorem dX5_hardest_60 : decode cX5_hardest 60 = .ok (.iload 5, 2) := by decide +kernel
theorem dX5_hardest_62 : decode cX5_hardest 62 = .ok (.istore_n 3, 1) := by decide +kernel
theorem dX5_hardest_63 : decode cX5_hardest 63 = .ok (.iinc 5 1, 3) := by decide +kernel
theorem dX5_hardest_66 : decode cX5_hardest 66 = .ok (.goto (-38), 3) := by decide +kernel
theorem dX5_hardest_69 : decode cX5_hardest 69 = .ok (.iload_n 2, 1) := by decide +kernel
theorem dX5_hardest_70 : decode cX5_hardest 70 = .ok (.ifCond .ne 7, 3) := by decide +kernel
theorem dX5_hardest_73 : decode cX5_hardest 73 = .ok (.iload_n 3, 1) := by decide +kernel
theorem dX5_hardest_74 : decode cX5_hardest 74 = .ok (.goto 5, 3) := by decide +kernel
theorem dX5_hardest_77 : decode cX5_hardest 77 = .ok (.iload 4, 2) := by decide +kernel
theorem dX5_hardest_79 : decode cX5_hardest 79 = .ok (.ireturn, 1) := by decide +kernel
set_option maxRecDepth 20000 in
theorem ggX5_thick_X0_hasBoth : GoodIn wsX5_thick wsX0_hasBoth := goodIn_r _ [8, 9, 10, 11, 7, 12, 13, 14, 15, 16, 17, 18, 108, 109, 110, 111, 112, 113, 114, 115, 116, 117, 118, 119] (by decide +kernel) (by decide +kernel)
set_option maxRecDepth 20000 in
theorem gX5_thick_X0_hasBoth : GoodIn wsX5_thick (wsV RX5 137 RX0 yX0_hasBoth wsX0_hasBoth) := goodIn_app (goodIn_of _ (by decide +kernel)) ggX5_thick_X0_hasBoth
set_option maxRecDepth 20000 in
theorem ggX5_thick_X5_within : GoodIn wsX5_thick wsX5_within := goodIn_r _ [22] (by decide +kernel) (by decide +kernel)
set_option maxRecDepth 20000 in
theorem gX5_thick_X5_within : GoodIn wsX5_thick (va_wsS RX5 86 yX5_within wsX5_within) := goodIn_app (goodIn_of _ (by decide +kernel)) ggX5_thick_X5_within
set_option maxRecDepth 20000 in
theorem ggX5_thick_X5_think : GoodIn wsX5_thick wsX5_think := goodIn_r _ [26, 2, 1, 27, 28, 29, 7, 30, 31, 32, 33, 34, 35, 36, 37, 38, 39, 40, 41, 13, 18, 42, 100, 101, 102, 103, 104, 105, 106, 107, 108, 109, 110, 111, 112, 113, 114, 115, 116, 117, 118, 119] (by decide +kernel) (by decide +kernel)
set_option maxRecDepth 20000 in
theorem gX5_thick_X5_think : GoodIn wsX5_thick (wsV RX5 143 RX5 yX5_think wsX5_think) := goodIn_app (goodIn_of _ (by decide +kernel)) ggX5_thick_X5_think
set_option maxRecDepth 20000 in
theorem ggX5_thick_X0_go : GoodIn wsX5_thick wsX0_go := goodIn_r _ [46, 47, 48, 49, 7, 50, 37, 51, 52, 53, 54, 55, 40, 56, 57, 58, 59, 60, 61, 62, 38, 39, 63, 64, 65, 66, 67, 41, 31, 36, 68, 42, 69, 70, 71, 72, 73, 74, 75, 76, 77, 78, 79, 80, 81, 82, 83, 84, 85, 86, 87, 88, 89, 90, 91, 92, 93, 94, 95, 108, 109, 110, 111, 112, 113, 114, 115, 116, 117, 118, 119, 120, 121, 122, 123, 124] (by decide +kernel) (by decide +kernel)
set_option maxRecDepth 20000 in
theorem gX5_thick_X0_go : GoodIn wsX5_thick (wsV RX5 140 RX0 yX0_go wsX0_go) := goodIn_app (goodIn_of _ (by decide +kernel)) ggX5_thick_X0_go
set_option maxRecDepth 20000 in
theorem ggX5_thick_X0_verdict : GoodIn wsX5_thick wsX0_verdict := goodIn_r _ [99, 63, 64, 65, 7, 66, 67, 40, 41, 31, 36, 39, 68, 42, 52, 53, 54, 55, 56, 57, 58, 69, 70, 71, 72, 73, 74, 75, 76, 77, 78, 79, 80, 81, 82, 83, 108, 109, 110, 111, 112, 113, 114, 115, 116, 117, 118, 119, 120, 121, 122, 123, 124] (by decide +kernel) (by decide +kernel)
set_option maxRecDepth 20000 in
theorem gX5_thick_X0_verdict : GoodIn wsX5_thick (wsV RX5 164 RX0 yX0_verdict wsX0_verdict) := goodIn_app (goodIn_of _ (by decide +kernel)) ggX5_thick_X0_verdict
theorem dX5_thick_0 : decode cX5_thick 0 = .ok (.aload_n 0, 1) := by decide +kernel
theorem dX5_thick_1 : decode cX5_thick 1 = .ok (.getfield 28, 3) := by decide +kernel
theorem dX5_thick_4 : decode cX5_thick 4 = .ok (.iload_n 1, 1) := by decide +kernel
theorem dX5_thick_5 : decode cX5_thick 5 = .ok (.iload_n 2, 1) := by decide +kernel
theorem dX5_thick_6 : decode cX5_thick 6 = .ok (.invokevirtual 137, 3) := by decide +kernel
theorem dX5_thick_9 : decode cX5_thick 9 = .ok (.ifCond .ne 6, 3) := by decide +kernel
theorem dX5_thick_12 : decode cX5_thick 12 = .ok (.bipush (-5), 2) := by decide +kernel
theorem dX5_thick_14 : decode cX5_thick 14 = .ok (.ireturn, 1) := by decide +kernel
theorem dX5_thick_15 : decode cX5_thick 15 = .ok (.iload_n 3, 1) := by decide +kernel
theorem dX5_thick_16 : decode cX5_thick 16 = .ok (.bipush 60, 2) := by decide +kernel
theorem dX5_thick_18 : decode cX5_thick 18 = .ok (.invokestatic 86, 3) := by decide +kernel
theorem dX5_thick_21 : decode cX5_thick 21 = .ok (.ifCond .ne 6, 3) := by decide +kernel
theorem dX5_thick_24 : decode cX5_thick 24 = .ok (.bipush (-7), 2) := by decide +kernel
theorem dX5_thick_26 : decode cX5_thick 26 = .ok (.ireturn, 1) := by decide +kernel
theorem dX5_thick_27 : decode cX5_thick 27 = .ok (.iconst 0, 1) := by decide +kernel
theorem dX5_thick_28 : decode cX5_thick 28 = .ok (.istore 4, 2) := by decide +kernel
theorem dX5_thick_30 : decode cX5_thick 30 = .ok (.iload 4, 2) := by decide +kernel
theorem dX5_thick_32 : decode cX5_thick 32 = .ok (.bipush 20, 2) := by decide +kernel
theorem dX5_thick_34 : decode cX5_thick 34 = .ok (.if_icmp .gt 49, 3) := by decide +kernel
theorem dX5_thick_37 : decode cX5_thick 37 = .ok (.aload_n 0, 1) := by decide +kernel
theorem dX5_thick_38 : decode cX5_thick 38 = .ok (.invokevirtual 143, 3) := by decide +kernel
theorem dX5_thick_41 : decode cX5_thick 41 = .ok (.aload_n 0, 1) := by decide +kernel
theorem dX5_thick_42 : decode cX5_thick 42 = .ok (.getfield 32, 3) := by decide +kernel
theorem dX5_thick_45 : decode cX5_thick 45 = .ok (.getfield 98, 3) := by decide +kernel
theorem dX5_thick_48 : decode cX5_thick 48 = .ok (.iload_n 1, 1) := by decide +kernel
theorem dX5_thick_49 : decode cX5_thick 49 = .ok (.iload 4, 2) := by decide +kernel
theorem dX5_thick_51 : decode cX5_thick 51 = .ok (.iastore, 1) := by decide +kernel
theorem dX5_thick_52 : decode cX5_thick 52 = .ok (.aload_n 0, 1) := by decide +kernel
theorem dX5_thick_53 : decode cX5_thick 53 = .ok (.getfield 32, 3) := by decide +kernel
theorem dX5_thick_56 : decode cX5_thick 56 = .ok (.iload_n 1, 1) := by decide +kernel
theorem dX5_thick_57 : decode cX5_thick 57 = .ok (.iload_n 2, 1) := by decide +kernel
theorem dX5_thick_58 : decode cX5_thick 58 = .ok (.aload_n 0, 1) := by decide +kernel
theorem dX5_thick_59 : decode cX5_thick 59 = .ok (.getfield 32, 3) := by decide +kernel
theorem dX5_thick_62 : decode cX5_thick 62 = .ok (.iload_n 1, 1) := by decide +kernel
theorem dX5_thick_63 : decode cX5_thick 63 = .ok (.iload_n 2, 1) := by decide +kernel
theorem dX5_thick_64 : decode cX5_thick 64 = .ok (.iload_n 3, 1) := by decide +kernel
theorem dX5_thick_65 : decode cX5_thick 65 = .ok (.invokevirtual 140, 3) := by decide +kernel
theorem dX5_thick_68 : decode cX5_thick 68 = .ok (.invokevirtual 164, 3) := by decide +kernel
theorem dX5_thick_71 : decode cX5_thick 71 = .ok (.ifCond .ne 6, 3) := by decide +kernel
theorem dX5_thick_74 : decode cX5_thick 74 = .ok (.iload 4, 2) := by decide +kernel
theorem dX5_thick_76 : decode cX5_thick 76 = .ok (.ireturn, 1) := by decide +kernel
theorem dX5_thick_77 : decode cX5_thick 77 = .ok (.iinc 4 1, 3) := by decide +kernel
theorem dX5_thick_80 : decode cX5_thick 80 = .ok (.goto (-50), 3) := by decide +kernel
theorem dX5_thick_83 : decode cX5_thick 83 = .ok (.iconst (-1), 1) := by decide +kernel
theorem dX5_thick_84 : decode cX5_thick 84 = .ok (.ireturn, 1) := by decide +kernel
set_option maxRecDepth 20000 in
theorem ggX5_order_X0_hasJudge : GoodIn wsX5_order wsX0_hasJudge := goodIn_r _ [8, 9, 136, 137, 138, 139, 140, 141, 142, 143, 144, 145, 146, 147] (by decide +kernel) (by decide +kernel)
set_option maxRecDepth 20000 in
theorem gX5_order_X0_hasJudge : GoodIn wsX5_order (wsV RX5 94 RX0 yX0_hasJudge wsX0_hasJudge) := goodIn_app (goodIn_of _ (by decide +kernel)) ggX5_order_X0_hasJudge
set_option maxRecDepth 20000 in
theorem ggX5_order_X5_within : GoodIn wsX5_order wsX5_within := goodIn_r _ [13] (by decide +kernel) (by decide +kernel)
set_option maxRecDepth 20000 in
theorem gX5_order_X5_within : GoodIn wsX5_order (va_wsS RX5 86 yX5_within wsX5_within) := goodIn_app (goodIn_of _ (by decide +kernel)) ggX5_order_X5_within
set_option maxRecDepth 20000 in
theorem ggX5_order_X5_isPairOfBits : GoodIn wsX5_order wsX5_isPairOfBits := goodIn_r _ [16, 10, 11, 12, 13] (by decide +kernel) (by decide +kernel)
set_option maxRecDepth 20000 in
theorem gX5_order_X5_isPairOfBits : GoodIn wsX5_order (va_wsS RX5 167 yX5_isPairOfBits wsX5_isPairOfBits) := goodIn_app (goodIn_of _ (by decide +kernel)) ggX5_order_X5_isPairOfBits
set_option maxRecDepth 20000 in
theorem ggX5_order_X5_weighCases : GoodIn wsX5_order wsX5_weighCases := goodIn_r _ [20, 1, 3, 21, 2, 22, 23, 24, 25, 12, 26, 27, 28, 29, 7, 30, 31, 32, 33, 34, 35, 36, 37, 38, 39, 40, 41, 9, 42, 43, 44, 45, 46, 47, 48, 49, 50, 51, 52, 53, 54, 55, 56, 57, 58, 59, 60, 61, 62, 63, 64, 65, 66, 67, 68, 69, 70, 71, 72, 73, 74, 75, 76, 77, 78, 79, 80, 81, 82, 83, 84, 85, 86, 87, 88, 89, 90, 91, 92, 93, 94, 95, 96, 97, 98, 99, 100, 101, 128, 129, 130, 131, 132, 133, 134, 135, 136, 137, 138, 139, 140, 141, 142, 143, 144, 145, 146, 147, 148, 149, 150, 151, 152, 153, 154] (by decide +kernel) (by decide +kernel)
set_option maxRecDepth 20000 in
theorem gX5_order_X5_weighCases : GoodIn wsX5_order (wsV RX5 170 RX5 yX5_weighCases wsX5_weighCases) := goodIn_app (goodIn_of _ (by decide +kernel)) ggX5_order_X5_weighCases
set_option maxRecDepth 20000 in
theorem ggX5_order_X4_solve : GoodIn wsX5_order wsX4_solve := goodIn_r _ [106, 107, 108, 109, 110, 111, 112, 113, 114, 115, 148, 149] (by decide +kernel) (by decide +kernel)
set_option maxRecDepth 20000 in
theorem gX5_order_X4_solve : GoodIn wsX5_order (wsV RX5 174 RX4 yX4_solve wsX4_solve) := goodIn_app (goodIn_of _ (by decide +kernel)) ggX5_order_X4_solve
set_option maxRecDepth 20000 in
theorem ggX5_order_X4_digits : GoodIn wsX5_order wsX4_digits := goodIn_r _ [119, 120, 121, 122, 105, 123, 108, 107, 109, 110, 111, 112, 113, 114, 115, 148, 149] (by decide +kernel) (by decide +kernel)
set_option maxRecDepth 20000 in
theorem gX5_order_X4_digits : GoodIn wsX5_order (wsV RX5 178 RX4 yX4_digits wsX4_digits) := goodIn_app (goodIn_of _ (by decide +kernel)) ggX5_order_X4_digits
set_option maxRecDepth 20000 in
theorem ggX5_order_X4_total : GoodIn wsX5_order wsX4_total := goodIn_r _ [127, 107, 148, 149] (by decide +kernel) (by decide +kernel)
set_option maxRecDepth 20000 in
theorem gX5_order_X4_total : GoodIn wsX5_order (wsV RX5 181 RX4 yX4_total wsX4_total) := goodIn_app (goodIn_of _ (by decide +kernel)) ggX5_order_X4_total
theorem dX5_order_0 : decode cX5_order 0 = .ok (.aload_n 0, 1) := by decide +kernel
theorem dX5_order_1 : decode cX5_order 1 = .ok (.getfield 28, 3) := by decide +kernel
theorem dX5_order_4 : decode cX5_order 4 = .ok (.iload_n 1, 1) := by decide +kernel
theorem dX5_order_5 : decode cX5_order 5 = .ok (.invokevirtual 94, 3) := by decide +kernel
theorem dX5_order_8 : decode cX5_order 8 = .ok (.ifCond .ne 6, 3) := by decide +kernel
theorem dX5_order_11 : decode cX5_order 11 = .ok (.bipush (-5), 2) := by decide +kernel
theorem dX5_order_13 : decode cX5_order 13 = .ok (.ireturn, 1) := by decide +kernel
theorem dX5_order_14 : decode cX5_order 14 = .ok (.iload_n 2, 1) := by decide +kernel
theorem dX5_order_15 : decode cX5_order 15 = .ok (.bipush 60, 2) := by decide +kernel
theorem dX5_order_17 : decode cX5_order 17 = .ok (.invokestatic 86, 3) := by decide +kernel
theorem dX5_order_20 : decode cX5_order 20 = .ok (.ifCond .eq 10, 3) := by decide +kernel
theorem dX5_order_23 : decode cX5_order 23 = .ok (.iload_n 3, 1) := by decide +kernel
theorem dX5_order_24 : decode cX5_order 24 = .ok (.invokestatic 167, 3) := by decide +kernel
theorem dX5_order_27 : decode cX5_order 27 = .ok (.ifCond .ne 6, 3) := by decide +kernel
theorem dX5_order_30 : decode cX5_order 30 = .ok (.bipush (-7), 2) := by decide +kernel
theorem dX5_order_32 : decode cX5_order 32 = .ok (.ireturn, 1) := by decide +kernel
theorem dX5_order_33 : decode cX5_order 33 = .ok (.aload_n 0, 1) := by decide +kernel
theorem dX5_order_34 : decode cX5_order 34 = .ok (.iload_n 1, 1) := by decide +kernel
theorem dX5_order_35 : decode cX5_order 35 = .ok (.iload_n 2, 1) := by decide +kernel
theorem dX5_order_36 : decode cX5_order 36 = .ok (.iload_n 3, 1) := by decide +kernel
theorem dX5_order_37 : decode cX5_order 37 = .ok (.bipush 10, 2) := by decide +kernel
theorem dX5_order_39 : decode cX5_order 39 = .ok (.idiv, 1) := by decide +kernel
theorem dX5_order_40 : decode cX5_order 40 = .ok (.iconst 1, 1) := by decide +kernel
theorem dX5_order_41 : decode cX5_order 41 = .ok (.if_icmp .ne 7, 3) := by decide +kernel
theorem dX5_order_44 : decode cX5_order 44 = .ok (.iconst 1, 1) := by decide +kernel
theorem dX5_order_45 : decode cX5_order 45 = .ok (.goto 4, 3) := by decide +kernel
theorem dX5_order_48 : decode cX5_order 48 = .ok (.iconst 0, 1) := by decide +kernel
theorem dX5_order_49 : decode cX5_order 49 = .ok (.invokevirtual 170, 3) := by decide +kernel
theorem dX5_order_52 : decode cX5_order 52 = .ok (.aload_n 0, 1) := by decide +kernel
theorem dX5_order_53 : decode cX5_order 53 = .ok (.getfield 48, 3) := by decide +kernel
theorem dX5_order_56 : decode cX5_order 56 = .ok (.aload_n 0, 1) := by decide +kernel
theorem dX5_order_57 : decode cX5_order 57 = .ok (.getfield 28, 3) := by decide +kernel
theorem dX5_order_60 : decode cX5_order 60 = .ok (.getfield 71, 3) := by decide +kernel
theorem dX5_order_63 : decode cX5_order 63 = .ok (.iconst 0, 1) := by decide +kernel
theorem dX5_order_64 : decode cX5_order 64 = .ok (.invokevirtual 174, 3) := by decide +kernel
theorem dX5_order_67 : decode cX5_order 67 = .ok (.iload_n 3, 1) := by decide +kernel
theorem dX5_order_68 : decode cX5_order 68 = .ok (.bipush 10, 2) := by decide +kernel
theorem dX5_order_70 : decode cX5_order 70 = .ok (.irem, 1) := by decide +kernel
theorem dX5_order_71 : decode cX5_order 71 = .ok (.ifCond .ne 20, 3) := by decide +kernel
theorem dX5_order_74 : decode cX5_order 74 = .ok (.aload_n 0, 1) := by decide +kernel
theorem dX5_order_75 : decode cX5_order 75 = .ok (.getfield 48, 3) := by decide +kernel
theorem dX5_order_78 : decode cX5_order 78 = .ok (.aload_n 0, 1) := by decide +kernel
theorem dX5_order_79 : decode cX5_order 79 = .ok (.getfield 28, 3) := by decide +kernel
theorem dX5_order_82 : decode cX5_order 82 = .ok (.getfield 71, 3) := by decide +kernel
theorem dX5_order_85 : decode cX5_order 85 = .ok (.invokevirtual 178, 3) := by decide +kernel
theorem dX5_order_88 : decode cX5_order 88 = .ok (.goto 10, 3) := by decide +kernel
theorem dX5_order_91 : decode cX5_order 91 = .ok (.aload_n 0, 1) := by decide +kernel
theorem dX5_order_92 : decode cX5_order 92 = .ok (.getfield 48, 3) := by decide +kernel
theorem dX5_order_95 : decode cX5_order 95 = .ok (.invokevirtual 181, 3) := by decide +kernel
theorem dX5_order_98 : decode cX5_order 98 = .ok (.ireturn, 1) := by decide +kernel
set_option maxRecDepth 20000 in
theorem ggX5_counsel_X0_hasJudge : GoodIn wsX5_counsel wsX0_hasJudge := goodIn_r _ [8, 9, 129, 130, 131, 132, 133, 134, 135, 136, 137, 138, 139, 140] (by decide +kernel) (by decide +kernel)
set_option maxRecDepth 20000 in
theorem gX5_counsel_X0_hasJudge : GoodIn wsX5_counsel (wsV RX5 94 RX0 yX0_hasJudge wsX0_hasJudge) := goodIn_app (goodIn_of _ (by decide +kernel)) ggX5_counsel_X0_hasJudge
set_option maxRecDepth 20000 in
theorem ggX5_counsel_X5_within : GoodIn wsX5_counsel wsX5_within := goodIn_r _ [13] (by decide +kernel) (by decide +kernel)
set_option maxRecDepth 20000 in
theorem gX5_counsel_X5_within : GoodIn wsX5_counsel (va_wsS RX5 86 yX5_within wsX5_within) := goodIn_app (goodIn_of _ (by decide +kernel)) ggX5_counsel_X5_within
set_option maxRecDepth 20000 in
theorem ggX5_counsel_X5_weighCases : GoodIn wsX5_counsel wsX5_weighCases := goodIn_r _ [17, 1, 3, 18, 2, 19, 20, 21, 22, 12, 23, 24, 25, 26, 7, 27, 28, 29, 30, 31, 32, 33, 34, 35, 36, 37, 38, 9, 39, 40, 41, 42, 43, 44, 45, 46, 47, 48, 49, 50, 51, 52, 53, 54, 55, 56, 57, 58, 59, 60, 61, 62, 63, 64, 65, 66, 67, 68, 69, 70, 71, 72, 73, 74, 75, 76, 77, 78, 79, 80, 81, 82, 83, 84, 85, 86, 87, 88, 89, 90, 91, 92, 93, 94, 95, 96, 97, 98, 121, 122, 123, 124, 125, 126, 127, 128, 129, 130, 131, 132, 133, 134, 135, 136, 137, 138, 139, 140, 141, 142, 143, 144, 145, 146, 147] (by decide +kernel) (by decide +kernel)
set_option maxRecDepth 20000 in
theorem gX5_counsel_X5_weighCases : GoodIn wsX5_counsel (wsV RX5 170 RX5 yX5_weighCases wsX5_weighCases) := goodIn_app (goodIn_of _ (by decide +kernel)) ggX5_counsel_X5_weighCases
set_option maxRecDepth 20000 in
theorem ggX5_counsel_X4_solve : GoodIn wsX5_counsel wsX4_solve := goodIn_r _ [103, 104, 105, 106, 107, 108, 109, 110, 111, 112, 141, 142] (by decide +kernel) (by decide +kernel)
set_option maxRecDepth 20000 in
theorem gX5_counsel_X4_solve : GoodIn wsX5_counsel (wsV RX5 174 RX4 yX4_solve wsX4_solve) := goodIn_app (goodIn_of _ (by decide +kernel)) ggX5_counsel_X4_solve
set_option maxRecDepth 20000 in
theorem ggX5_counsel_X4_total : GoodIn wsX5_counsel wsX4_total := goodIn_r _ [116, 104, 141, 142] (by decide +kernel) (by decide +kernel)
set_option maxRecDepth 20000 in
theorem gX5_counsel_X4_total : GoodIn wsX5_counsel (wsV RX5 181 RX4 yX4_total wsX4_total) := goodIn_app (goodIn_of _ (by decide +kernel)) ggX5_counsel_X4_total
set_option maxRecDepth 20000 in
theorem ggX5_counsel_X4_chosen : GoodIn wsX5_counsel wsX4_chosen := goodIn_r _ [120, 105, 104, 106, 107, 108, 109, 110, 111, 112, 141, 142] (by decide +kernel) (by decide +kernel)
set_option maxRecDepth 20000 in
theorem gX5_counsel_X4_chosen : GoodIn wsX5_counsel (wsV RX5 184 RX4 yX4_chosen wsX4_chosen) := goodIn_app (goodIn_of _ (by decide +kernel)) ggX5_counsel_X4_chosen
theorem dX5_counsel_0 : decode cX5_counsel 0 = .ok (.aload_n 0, 1) := by decide +kernel
theorem dX5_counsel_1 : decode cX5_counsel 1 = .ok (.getfield 28, 3) := by decide +kernel
theorem dX5_counsel_4 : decode cX5_counsel 4 = .ok (.iload_n 1, 1) := by decide +kernel
theorem dX5_counsel_5 : decode cX5_counsel 5 = .ok (.invokevirtual 94, 3) := by decide +kernel
theorem dX5_counsel_8 : decode cX5_counsel 8 = .ok (.ifCond .ne 6, 3) := by decide +kernel
theorem dX5_counsel_11 : decode cX5_counsel 11 = .ok (.bipush (-5), 2) := by decide +kernel
theorem dX5_counsel_13 : decode cX5_counsel 13 = .ok (.ireturn, 1) := by decide +kernel
theorem dX5_counsel_14 : decode cX5_counsel 14 = .ok (.iload_n 2, 1) := by decide +kernel
theorem dX5_counsel_15 : decode cX5_counsel 15 = .ok (.bipush 60, 2) := by decide +kernel
theorem dX5_counsel_17 : decode cX5_counsel 17 = .ok (.invokestatic 86, 3) := by decide +kernel
theorem dX5_counsel_20 : decode cX5_counsel 20 = .ok (.ifCond .eq 11, 3) := by decide +kernel
theorem dX5_counsel_23 : decode cX5_counsel 23 = .ok (.iload_n 3, 1) := by decide +kernel
theorem dX5_counsel_24 : decode cX5_counsel 24 = .ok (.iconst 1, 1) := by decide +kernel
theorem dX5_counsel_25 : decode cX5_counsel 25 = .ok (.invokestatic 86, 3) := by decide +kernel
theorem dX5_counsel_28 : decode cX5_counsel 28 = .ok (.ifCond .ne 6, 3) := by decide +kernel
theorem dX5_counsel_31 : decode cX5_counsel 31 = .ok (.bipush (-7), 2) := by decide +kernel
theorem dX5_counsel_33 : decode cX5_counsel 33 = .ok (.ireturn, 1) := by decide +kernel
theorem dX5_counsel_34 : decode cX5_counsel 34 = .ok (.aload_n 0, 1) := by decide +kernel
theorem dX5_counsel_35 : decode cX5_counsel 35 = .ok (.iload_n 1, 1) := by decide +kernel
theorem dX5_counsel_36 : decode cX5_counsel 36 = .ok (.iload_n 2, 1) := by decide +kernel
theorem dX5_counsel_37 : decode cX5_counsel 37 = .ok (.iconst 1, 1) := by decide +kernel
theorem dX5_counsel_38 : decode cX5_counsel 38 = .ok (.invokevirtual 170, 3) := by decide +kernel
theorem dX5_counsel_41 : decode cX5_counsel 41 = .ok (.aload_n 0, 1) := by decide +kernel
theorem dX5_counsel_42 : decode cX5_counsel 42 = .ok (.getfield 48, 3) := by decide +kernel
theorem dX5_counsel_45 : decode cX5_counsel 45 = .ok (.aload_n 0, 1) := by decide +kernel
theorem dX5_counsel_46 : decode cX5_counsel 46 = .ok (.getfield 28, 3) := by decide +kernel
theorem dX5_counsel_49 : decode cX5_counsel 49 = .ok (.getfield 71, 3) := by decide +kernel
theorem dX5_counsel_52 : decode cX5_counsel 52 = .ok (.iconst 1, 1) := by decide +kernel
theorem dX5_counsel_53 : decode cX5_counsel 53 = .ok (.invokevirtual 174, 3) := by decide +kernel
theorem dX5_counsel_56 : decode cX5_counsel 56 = .ok (.iload_n 3, 1) := by decide +kernel
theorem dX5_counsel_57 : decode cX5_counsel 57 = .ok (.ifCond .ne 13, 3) := by decide +kernel
theorem dX5_counsel_60 : decode cX5_counsel 60 = .ok (.aload_n 0, 1) := by decide +kernel
theorem dX5_counsel_61 : decode cX5_counsel 61 = .ok (.getfield 48, 3) := by decide +kernel
theorem dX5_counsel_64 : decode cX5_counsel 64 = .ok (.invokevirtual 181, 3) := by decide +kernel
theorem dX5_counsel_67 : decode cX5_counsel 67 = .ok (.goto 18, 3) := by decide +kernel
theorem dX5_counsel_70 : decode cX5_counsel 70 = .ok (.aload_n 0, 1) := by decide +kernel
theorem dX5_counsel_71 : decode cX5_counsel 71 = .ok (.getfield 48, 3) := by decide +kernel
theorem dX5_counsel_74 : decode cX5_counsel 74 = .ok (.iconst 0, 1) := by decide +kernel
theorem dX5_counsel_75 : decode cX5_counsel 75 = .ok (.aload_n 0, 1) := by decide +kernel
theorem dX5_counsel_76 : decode cX5_counsel 76 = .ok (.getfield 28, 3) := by decide +kernel
theorem dX5_counsel_79 : decode cX5_counsel 79 = .ok (.getfield 71, 3) := by decide +kernel
theorem dX5_counsel_82 : decode cX5_counsel 82 = .ok (.invokevirtual 184, 3) := by decide +kernel
theorem dX5_counsel_85 : decode cX5_counsel 85 = .ok (.ireturn, 1) := by decide +kernel
set_option maxRecDepth 20000 in
theorem ggX5_reversed_X5_refusalOf : GoodIn wsX5_reversed wsX5_refusalOf := goodIn_r _ [5, 6, 7, 8, 9, 4, 10, 11, 12, 13, 14, 15, 16, 17, 18, 19, 20, 21, 22, 23, 24, 25, 26, 27, 28, 29, 30, 31, 32, 33, 116, 117, 118, 119, 120, 121, 122, 123, 124, 125, 126, 127, 128, 129, 130, 131, 132, 133, 134, 135, 136, 137, 138] (by decide +kernel) (by decide +kernel)
set_option maxRecDepth 20000 in
theorem gX5_reversed_X5_refusalOf : GoodIn wsX5_reversed (wsV RX5 187 RX5 yX5_refusalOf wsX5_refusalOf) := goodIn_app (goodIn_of _ (by decide +kernel)) ggX5_reversed_X5_refusalOf
set_option maxRecDepth 20000 in
theorem ggX5_reversed_X5_think : GoodIn wsX5_reversed wsX5_think := goodIn_r _ [37, 38, 6, 39, 40, 41, 25, 42, 43, 44, 45, 46, 47, 48, 49, 50, 51, 52, 53, 33, 27, 54, 116, 117, 118, 119, 120, 121, 122, 123, 127, 128, 129, 130, 131, 132, 133, 134, 135, 136, 137, 138] (by decide +kernel) (by decide +kernel)
set_option maxRecDepth 20000 in
theorem gX5_reversed_X5_think : GoodIn wsX5_reversed (wsV RX5 143 RX5 yX5_think wsX5_think) := goodIn_app (goodIn_of _ (by decide +kernel)) ggX5_reversed_X5_think
set_option maxRecDepth 20000 in
theorem ggX5_reversed_X5_firstOtherwise : GoodIn wsX5_reversed wsX5_firstOtherwise := goodIn_r _ [58, 11, 14, 13, 38, 59, 60, 61, 25, 62, 63, 64, 65, 66, 49, 67, 68, 69, 70, 71, 52, 72, 73, 74, 75, 76, 77, 78, 50, 51, 79, 80, 81, 82, 83, 53, 43, 48, 84, 54, 85, 86, 87, 88, 89, 90, 91, 92, 93, 94, 95, 96, 97, 98, 99, 100, 101, 102, 103, 104, 105, 106, 107, 108, 109, 110, 111, 112, 113, 114, 115, 116, 117, 118, 119, 120, 121, 122, 123, 124, 125, 126, 127, 128, 129, 130, 131, 132, 133, 134, 135, 136, 137, 138, 139, 140, 141, 142, 143] (by decide +kernel) (by decide +kernel)
set_option maxRecDepth 20000 in
theorem gX5_reversed_X5_firstOtherwise : GoodIn wsX5_reversed (wsV RX5 190 RX5 yX5_firstOtherwise wsX5_firstOtherwise) := goodIn_app (goodIn_of _ (by decide +kernel)) ggX5_reversed_X5_firstOtherwise
theorem dX5_reversed_0 : decode cX5_reversed 0 = .ok (.aload_n 0, 1) := by decide +kernel
theorem dX5_reversed_1 : decode cX5_reversed 1 = .ok (.iload_n 1, 1) := by decide +kernel
theorem dX5_reversed_2 : decode cX5_reversed 2 = .ok (.iload_n 2, 1) := by decide +kernel
theorem dX5_reversed_3 : decode cX5_reversed 3 = .ok (.invokevirtual 187, 3) := by decide +kernel
theorem dX5_reversed_6 : decode cX5_reversed 6 = .ok (.istore_n 3, 1) := by decide +kernel
theorem dX5_reversed_7 : decode cX5_reversed 7 = .ok (.iload_n 3, 1) := by decide +kernel
theorem dX5_reversed_8 : decode cX5_reversed 8 = .ok (.ifCond .eq 5, 3) := by decide +kernel
theorem dX5_reversed_11 : decode cX5_reversed 11 = .ok (.iload_n 3, 1) := by decide +kernel
theorem dX5_reversed_12 : decode cX5_reversed 12 = .ok (.ireturn, 1) := by decide +kernel
theorem dX5_reversed_13 : decode cX5_reversed 13 = .ok (.aload_n 0, 1) := by decide +kernel
theorem dX5_reversed_14 : decode cX5_reversed 14 = .ok (.invokevirtual 143, 3) := by decide +kernel
theorem dX5_reversed_17 : decode cX5_reversed 17 = .ok (.aload_n 0, 1) := by decide +kernel
theorem dX5_reversed_18 : decode cX5_reversed 18 = .ok (.iload_n 1, 1) := by decide +kernel
theorem dX5_reversed_19 : decode cX5_reversed 19 = .ok (.iload_n 2, 1) := by decide +kernel
theorem dX5_reversed_20 : decode cX5_reversed 20 = .ok (.invokevirtual 190, 3) := by decide +kernel
theorem dX5_reversed_23 : decode cX5_reversed 23 = .ok (.ireturn, 1) := by decide +kernel
set_option maxRecDepth 20000 in
theorem ggX5_kinds_X5_refusalOf : GoodIn wsX5_kinds wsX5_refusalOf := goodIn_r _ [9, 1, 10, 11, 12, 8, 13, 14, 15, 16, 17, 18, 19, 20, 21, 22, 23, 24, 25, 26, 27, 28, 29, 30, 31, 32, 33, 34, 35, 36, 118, 119, 120, 121, 122, 123, 124, 125, 138, 139, 140, 126, 127, 128, 129, 130, 131, 132, 133, 134, 135, 136, 137] (by decide +kernel) (by decide +kernel)
set_option maxRecDepth 20000 in
theorem gX5_kinds_X5_refusalOf : GoodIn wsX5_kinds (wsV RX5 187 RX5 yX5_refusalOf wsX5_refusalOf) := goodIn_app (goodIn_of _ (by decide +kernel)) ggX5_kinds_X5_refusalOf
set_option maxRecDepth 20000 in
theorem ggX5_kinds_X0_hasPebble : GoodIn wsX5_kinds wsX0_hasPebble := goodIn_r _ [29, 30, 126, 127, 128, 129, 130, 131, 132, 133, 134, 135, 136, 137] (by decide +kernel) (by decide +kernel)
set_option maxRecDepth 20000 in
theorem gX5_kinds_X0_hasPebble : GoodIn wsX5_kinds (wsV RX5 111 RX0 yX0_hasPebble wsX0_hasPebble) := goodIn_app (goodIn_of _ (by decide +kernel)) ggX5_kinds_X0_hasPebble
set_option maxRecDepth 20000 in
theorem ggX5_kinds_X5_within : GoodIn wsX5_kinds wsX5_within := goodIn_r _ [24] (by decide +kernel) (by decide +kernel)
set_option maxRecDepth 20000 in
theorem gX5_kinds_X5_within : GoodIn wsX5_kinds (va_wsS RX5 86 yX5_within wsX5_within) := goodIn_app (goodIn_of _ (by decide +kernel)) ggX5_kinds_X5_within
set_option maxRecDepth 20000 in
theorem ggX5_kinds_X5_think : GoodIn wsX5_kinds wsX5_think := goodIn_r _ [40, 2, 1, 41, 42, 43, 28, 44, 45, 46, 47, 48, 49, 50, 51, 52, 53, 54, 55, 36, 30, 56, 118, 119, 120, 121, 122, 123, 124, 125, 126, 127, 128, 129, 130, 131, 132, 133, 134, 135, 136, 137] (by decide +kernel) (by decide +kernel)
set_option maxRecDepth 20000 in
theorem gX5_kinds_X5_think : GoodIn wsX5_kinds (wsV RX5 143 RX5 yX5_think wsX5_think) := goodIn_app (goodIn_of _ (by decide +kernel)) ggX5_kinds_X5_think
set_option maxRecDepth 20000 in
theorem ggX5_kinds_X5_firstOtherwise : GoodIn wsX5_kinds wsX5_firstOtherwise := goodIn_r _ [60, 14, 17, 16, 2, 61, 62, 63, 28, 64, 65, 66, 67, 68, 51, 69, 70, 71, 72, 73, 54, 74, 75, 76, 77, 78, 79, 80, 52, 53, 81, 82, 83, 84, 85, 55, 45, 50, 86, 56, 87, 88, 89, 90, 91, 92, 93, 94, 95, 96, 97, 98, 99, 100, 101, 102, 103, 104, 105, 106, 107, 108, 109, 110, 111, 112, 113, 114, 115, 116, 117, 118, 119, 120, 121, 122, 123, 124, 125, 138, 139, 140, 126, 127, 128, 129, 130, 131, 132, 133, 134, 135, 136, 137, 141, 142, 143, 144, 145] (by decide +kernel) (by decide +kernel)
set_option maxRecDepth 20000 in
theorem gX5_kinds_X5_firstOtherwise : GoodIn wsX5_kinds (wsV RX5 190 RX5 yX5_firstOtherwise wsX5_firstOtherwise) := goodIn_app (goodIn_of _ (by decide +kernel)) ggX5_kinds_X5_firstOtherwise
theorem dX5_kinds_0 : decode cX5_kinds 0 = .ok (.aload_n 0, 1) := by decide +kernel
theorem dX5_kinds_1 : decode cX5_kinds 1 = .ok (.iload_n 1, 1) := by decide +kernel
theorem dX5_kinds_2 : decode cX5_kinds 2 = .ok (.iload_n 2, 1) := by decide +kernel
theorem dX5_kinds_3 : decode cX5_kinds 3 = .ok (.invokevirtual 187, 3) := by decide +kernel
theorem dX5_kinds_6 : decode cX5_kinds 6 = .ok (.istore 5, 2) := by decide +kernel
theorem dX5_kinds_8 : decode cX5_kinds 8 = .ok (.iload 5, 2) := by decide +kernel
theorem dX5_kinds_10 : decode cX5_kinds 10 = .ok (.ifCond .eq 6, 3) := by decide +kernel
theorem dX5_kinds_13 : decode cX5_kinds 13 = .ok (.iload 5, 2) := by decide +kernel
theorem dX5_kinds_15 : decode cX5_kinds 15 = .ok (.ireturn, 1) := by decide +kernel
theorem dX5_kinds_16 : decode cX5_kinds 16 = .ok (.aload_n 0, 1) := by decide +kernel
theorem dX5_kinds_17 : decode cX5_kinds 17 = .ok (.getfield 28, 3) := by decide +kernel
theorem dX5_kinds_20 : decode cX5_kinds 20 = .ok (.iload_n 3, 1) := by decide +kernel
theorem dX5_kinds_21 : decode cX5_kinds 21 = .ok (.invokevirtual 111, 3) := by decide +kernel
theorem dX5_kinds_24 : decode cX5_kinds 24 = .ok (.ifCond .ne 6, 3) := by decide +kernel
theorem dX5_kinds_27 : decode cX5_kinds 27 = .ok (.bipush (-6), 2) := by decide +kernel
theorem dX5_kinds_29 : decode cX5_kinds 29 = .ok (.ireturn, 1) := by decide +kernel
theorem dX5_kinds_30 : decode cX5_kinds 30 = .ok (.iload 4, 2) := by decide +kernel
theorem dX5_kinds_32 : decode cX5_kinds 32 = .ok (.iconst 1, 1) := by decide +kernel
theorem dX5_kinds_33 : decode cX5_kinds 33 = .ok (.invokestatic 86, 3) := by decide +kernel
theorem dX5_kinds_36 : decode cX5_kinds 36 = .ok (.ifCond .ne 6, 3) := by decide +kernel
theorem dX5_kinds_39 : decode cX5_kinds 39 = .ok (.bipush (-7), 2) := by decide +kernel
theorem dX5_kinds_41 : decode cX5_kinds 41 = .ok (.ireturn, 1) := by decide +kernel
theorem dX5_kinds_42 : decode cX5_kinds 42 = .ok (.iload 4, 2) := by decide +kernel
theorem dX5_kinds_44 : decode cX5_kinds 44 = .ok (.ifCond .ne 13, 3) := by decide +kernel
theorem dX5_kinds_47 : decode cX5_kinds 47 = .ok (.aload_n 0, 1) := by decide +kernel
theorem dX5_kinds_48 : decode cX5_kinds 48 = .ok (.getfield 32, 3) := by decide +kernel
theorem dX5_kinds_51 : decode cX5_kinds 51 = .ok (.getfield 128, 3) := by decide +kernel
theorem dX5_kinds_54 : decode cX5_kinds 54 = .ok (.goto 10, 3) := by decide +kernel
theorem dX5_kinds_57 : decode cX5_kinds 57 = .ok (.aload_n 0, 1) := by decide +kernel
theorem dX5_kinds_58 : decode cX5_kinds 58 = .ok (.getfield 32, 3) := by decide +kernel
theorem dX5_kinds_61 : decode cX5_kinds 61 = .ok (.getfield 131, 3) := by decide +kernel
theorem dX5_kinds_64 : decode cX5_kinds 64 = .ok (.astore 6, 2) := by decide +kernel
theorem dX5_kinds_66 : decode cX5_kinds 66 = .ok (.iload 4, 2) := by decide +kernel
theorem dX5_kinds_68 : decode cX5_kinds 68 = .ok (.ifCond .ne 7, 3) := by decide +kernel
theorem dX5_kinds_71 : decode cX5_kinds 71 = .ok (.iconst 5, 1) := by decide +kernel
theorem dX5_kinds_72 : decode cX5_kinds 72 = .ok (.goto 5, 3) := by decide +kernel
theorem dX5_kinds_75 : decode cX5_kinds 75 = .ok (.bipush 9, 2) := by decide +kernel
theorem dX5_kinds_77 : decode cX5_kinds 77 = .ok (.istore 7, 2) := by decide +kernel
theorem dX5_kinds_79 : decode cX5_kinds 79 = .ok (.iconst 0, 1) := by decide +kernel
theorem dX5_kinds_80 : decode cX5_kinds 80 = .ok (.istore 8, 2) := by decide +kernel
theorem dX5_kinds_82 : decode cX5_kinds 82 = .ok (.iconst 0, 1) := by decide +kernel
theorem dX5_kinds_83 : decode cX5_kinds 83 = .ok (.istore 9, 2) := by decide +kernel
theorem dX5_kinds_85 : decode cX5_kinds 85 = .ok (.iload 9, 2) := by decide +kernel
theorem dX5_kinds_87 : decode cX5_kinds 87 = .ok (.iload 7, 2) := by decide +kernel
theorem dX5_kinds_89 : decode cX5_kinds 89 = .ok (.if_icmp .gt 38, 3) := by decide +kernel
theorem dX5_kinds_92 : decode cX5_kinds 92 = .ok (.aload_n 0, 1) := by decide +kernel
theorem dX5_kinds_93 : decode cX5_kinds 93 = .ok (.invokevirtual 143, 3) := by decide +kernel
theorem dX5_kinds_96 : decode cX5_kinds 96 = .ok (.aload 6, 2) := by decide +kernel
theorem dX5_kinds_98 : decode cX5_kinds 98 = .ok (.iload_n 3, 1) := by decide +kernel
theorem dX5_kinds_99 : decode cX5_kinds 99 = .ok (.iload 9, 2) := by decide +kernel
theorem dX5_kinds_101 : decode cX5_kinds 101 = .ok (.iastore, 1) := by decide +kernel
theorem dX5_kinds_102 : decode cX5_kinds 102 = .ok (.aload_n 0, 1) := by decide +kernel
theorem dX5_kinds_103 : decode cX5_kinds 103 = .ok (.iload_n 1, 1) := by decide +kernel
theorem dX5_kinds_104 : decode cX5_kinds 104 = .ok (.iload_n 2, 1) := by decide +kernel
theorem dX5_kinds_105 : decode cX5_kinds 105 = .ok (.invokevirtual 190, 3) := by decide +kernel
theorem dX5_kinds_108 : decode cX5_kinds 108 = .ok (.iconst (-1), 1) := by decide +kernel
theorem dX5_kinds_109 : decode cX5_kinds 109 = .ok (.if_icmp .ne 12, 3) := by decide +kernel
theorem dX5_kinds_112 : decode cX5_kinds 112 = .ok (.iload 8, 2) := by decide +kernel
theorem dX5_kinds_114 : decode cX5_kinds 114 = .ok (.iconst 1, 1) := by decide +kernel
theorem dX5_kinds_115 : decode cX5_kinds 115 = .ok (.iload 9, 2) := by decide +kernel
theorem dX5_kinds_117 : decode cX5_kinds 117 = .ok (.ishl, 1) := by decide +kernel
theorem dX5_kinds_118 : decode cX5_kinds 118 = .ok (.ior, 1) := by decide +kernel
theorem dX5_kinds_119 : decode cX5_kinds 119 = .ok (.istore 8, 2) := by decide +kernel
theorem dX5_kinds_121 : decode cX5_kinds 121 = .ok (.iinc 9 1, 3) := by decide +kernel
theorem dX5_kinds_124 : decode cX5_kinds 124 = .ok (.goto (-39), 3) := by decide +kernel
theorem dX5_kinds_127 : decode cX5_kinds 127 = .ok (.iload 8, 2) := by decide +kernel
theorem dX5_kinds_129 : decode cX5_kinds 129 = .ok (.ireturn, 1) := by decide +kernel
set_option maxRecDepth 20000 in
theorem ggX5_soled_X5_refusalOf : GoodIn wsX5_soled wsX5_refusalOf := goodIn_r _ [7, 8, 9, 10, 11, 6, 12, 13, 14, 15, 16, 17, 18, 19, 20, 21, 22, 23, 24, 25, 26, 27, 28, 29, 30, 31, 32, 33, 34, 35, 117, 118, 119, 120, 121, 122, 123, 124, 137, 138, 139, 125, 126, 127, 128, 129, 130, 131, 132, 133, 134, 135, 136] (by decide +kernel) (by decide +kernel)
set_option maxRecDepth 20000 in
theorem gX5_soled_X5_refusalOf : GoodIn wsX5_soled (wsV RX5 187 RX5 yX5_refusalOf wsX5_refusalOf) := goodIn_app (goodIn_of _ (by decide +kernel)) ggX5_soled_X5_refusalOf
set_option maxRecDepth 20000 in
theorem ggX5_soled_X5_think : GoodIn wsX5_soled wsX5_think := goodIn_r _ [39, 1, 8, 40, 41, 42, 27, 43, 44, 45, 46, 47, 48, 49, 50, 51, 52, 53, 54, 35, 29, 55, 117, 118, 119, 120, 121, 122, 123, 124, 125, 126, 127, 128, 129, 130, 131, 132, 133, 134, 135, 136] (by decide +kernel) (by decide +kernel)
set_option maxRecDepth 20000 in
theorem gX5_soled_X5_think : GoodIn wsX5_soled (wsV RX5 143 RX5 yX5_think wsX5_think) := goodIn_app (goodIn_of _ (by decide +kernel)) ggX5_soled_X5_think
set_option maxRecDepth 20000 in
theorem ggX5_soled_X5_firstOtherwise : GoodIn wsX5_soled wsX5_firstOtherwise := goodIn_r _ [59, 13, 16, 15, 1, 60, 61, 62, 27, 63, 64, 65, 66, 67, 50, 68, 69, 70, 71, 72, 53, 73, 74, 75, 76, 77, 78, 79, 51, 52, 80, 81, 82, 83, 84, 54, 44, 49, 85, 55, 86, 87, 88, 89, 90, 91, 92, 93, 94, 95, 96, 97, 98, 99, 100, 101, 102, 103, 104, 105, 106, 107, 108, 109, 110, 111, 112, 113, 114, 115, 116, 117, 118, 119, 120, 121, 122, 123, 124, 137, 138, 139, 125, 126, 127, 128, 129, 130, 131, 132, 133, 134, 135, 136, 140, 141, 142, 143, 144] (by decide +kernel) (by decide +kernel)
set_option maxRecDepth 20000 in
theorem gX5_soled_X5_firstOtherwise : GoodIn wsX5_soled (wsV RX5 190 RX5 yX5_firstOtherwise wsX5_firstOtherwise) := goodIn_app (goodIn_of _ (by decide +kernel)) ggX5_soled_X5_firstOtherwise
theorem dX5_soled_0 : decode cX5_soled 0 = .ok (.aload_n 0, 1) := by decide +kernel
theorem dX5_soled_1 : decode cX5_soled 1 = .ok (.iload_n 1, 1) := by decide +kernel
theorem dX5_soled_2 : decode cX5_soled 2 = .ok (.iload_n 2, 1) := by decide +kernel
theorem dX5_soled_3 : decode cX5_soled 3 = .ok (.invokevirtual 187, 3) := by decide +kernel
theorem dX5_soled_6 : decode cX5_soled 6 = .ok (.istore_n 3, 1) := by decide +kernel
theorem dX5_soled_7 : decode cX5_soled 7 = .ok (.iload_n 3, 1) := by decide +kernel
theorem dX5_soled_8 : decode cX5_soled 8 = .ok (.ifCond .eq 5, 3) := by decide +kernel
theorem dX5_soled_11 : decode cX5_soled 11 = .ok (.iload_n 3, 1) := by decide +kernel
theorem dX5_soled_12 : decode cX5_soled 12 = .ok (.ireturn, 1) := by decide +kernel
theorem dX5_soled_13 : decode cX5_soled 13 = .ok (.iconst 0, 1) := by decide +kernel
theorem dX5_soled_14 : decode cX5_soled 14 = .ok (.istore 4, 2) := by decide +kernel
theorem dX5_soled_16 : decode cX5_soled 16 = .ok (.iconst 0, 1) := by decide +kernel
theorem dX5_soled_17 : decode cX5_soled 17 = .ok (.istore 5, 2) := by decide +kernel
theorem dX5_soled_19 : decode cX5_soled 19 = .ok (.iload 5, 2) := by decide +kernel
theorem dX5_soled_21 : decode cX5_soled 21 = .ok (.bipush 20, 2) := by decide +kernel
theorem dX5_soled_23 : decode cX5_soled 23 = .ok (.if_icmp .gt 43, 3) := by decide +kernel
theorem dX5_soled_26 : decode cX5_soled 26 = .ok (.aload_n 0, 1) := by decide +kernel
theorem dX5_soled_27 : decode cX5_soled 27 = .ok (.invokevirtual 143, 3) := by decide +kernel
theorem dX5_soled_30 : decode cX5_soled 30 = .ok (.aload_n 0, 1) := by decide +kernel
theorem dX5_soled_31 : decode cX5_soled 31 = .ok (.getfield 32, 3) := by decide +kernel
theorem dX5_soled_34 : decode cX5_soled 34 = .ok (.getfield 98, 3) := by decide +kernel
theorem dX5_soled_37 : decode cX5_soled 37 = .ok (.iload_n 2, 1) := by decide +kernel
theorem dX5_soled_38 : decode cX5_soled 38 = .ok (.iload 5, 2) := by decide +kernel
theorem dX5_soled_40 : decode cX5_soled 40 = .ok (.iastore, 1) := by decide +kernel
theorem dX5_soled_41 : decode cX5_soled 41 = .ok (.aload_n 0, 1) := by decide +kernel
theorem dX5_soled_42 : decode cX5_soled 42 = .ok (.iload_n 1, 1) := by decide +kernel
theorem dX5_soled_43 : decode cX5_soled 43 = .ok (.iload_n 2, 1) := by decide +kernel
theorem dX5_soled_44 : decode cX5_soled 44 = .ok (.invokevirtual 190, 3) := by decide +kernel
theorem dX5_soled_47 : decode cX5_soled 47 = .ok (.iconst (-1), 1) := by decide +kernel
theorem dX5_soled_48 : decode cX5_soled 48 = .ok (.if_icmp .ne 12, 3) := by decide +kernel
theorem dX5_soled_51 : decode cX5_soled 51 = .ok (.iload 4, 2) := by decide +kernel
theorem dX5_soled_53 : decode cX5_soled 53 = .ok (.iconst 1, 1) := by decide +kernel
theorem dX5_soled_54 : decode cX5_soled 54 = .ok (.iload 5, 2) := by decide +kernel
theorem dX5_soled_56 : decode cX5_soled 56 = .ok (.ishl, 1) := by decide +kernel
theorem dX5_soled_57 : decode cX5_soled 57 = .ok (.ior, 1) := by decide +kernel
theorem dX5_soled_58 : decode cX5_soled 58 = .ok (.istore 4, 2) := by decide +kernel
theorem dX5_soled_60 : decode cX5_soled 60 = .ok (.iinc 5 1, 3) := by decide +kernel
theorem dX5_soled_63 : decode cX5_soled 63 = .ok (.goto (-44), 3) := by decide +kernel
theorem dX5_soled_66 : decode cX5_soled 66 = .ok (.iload 4, 2) := by decide +kernel
theorem dX5_soled_68 : decode cX5_soled 68 = .ok (.ireturn, 1) := by decide +kernel
set_option maxRecDepth 20000 in
theorem ggX5_sizes_X5_refusalOf : GoodIn wsX5_sizes wsX5_refusalOf := goodIn_r _ [9, 1, 10, 11, 12, 8, 13, 14, 15, 16, 17, 18, 19, 20, 21, 22, 23, 24, 25, 26, 27, 28, 29, 30, 31, 32, 33, 34, 35, 36, 121, 122, 123, 124, 125, 126, 127, 128, 141, 142, 143, 129, 130, 131, 132, 133, 134, 135, 136, 137, 138, 139, 140] (by decide +kernel) (by decide +kernel)
set_option maxRecDepth 20000 in
theorem gX5_sizes_X5_refusalOf : GoodIn wsX5_sizes (wsV RX5 187 RX5 yX5_refusalOf wsX5_refusalOf) := goodIn_app (goodIn_of _ (by decide +kernel)) ggX5_sizes_X5_refusalOf
set_option maxRecDepth 20000 in
theorem ggX5_sizes_X0_hasPebble : GoodIn wsX5_sizes wsX0_hasPebble := goodIn_r _ [29, 30, 129, 130, 131, 132, 133, 134, 135, 136, 137, 138, 139, 140] (by decide +kernel) (by decide +kernel)
set_option maxRecDepth 20000 in
theorem gX5_sizes_X0_hasPebble : GoodIn wsX5_sizes (wsV RX5 111 RX0 yX0_hasPebble wsX0_hasPebble) := goodIn_app (goodIn_of _ (by decide +kernel)) ggX5_sizes_X0_hasPebble
set_option maxRecDepth 20000 in
theorem ggX5_sizes_X5_isPairOfBits : GoodIn wsX5_sizes wsX5_isPairOfBits := goodIn_r _ [39, 31, 23, 8, 24] (by decide +kernel) (by decide +kernel)
set_option maxRecDepth 20000 in
theorem gX5_sizes_X5_isPairOfBits : GoodIn wsX5_sizes (va_wsS RX5 167 yX5_isPairOfBits wsX5_isPairOfBits) := goodIn_app (goodIn_of _ (by decide +kernel)) ggX5_sizes_X5_isPairOfBits
set_option maxRecDepth 20000 in
theorem ggX5_sizes_X5_think : GoodIn wsX5_sizes wsX5_think := goodIn_r _ [43, 2, 1, 44, 45, 46, 28, 47, 48, 49, 50, 51, 52, 53, 54, 55, 56, 57, 58, 36, 30, 59, 121, 122, 123, 124, 125, 126, 127, 128, 129, 130, 131, 132, 133, 134, 135, 136, 137, 138, 139, 140] (by decide +kernel) (by decide +kernel)
set_option maxRecDepth 20000 in
theorem gX5_sizes_X5_think : GoodIn wsX5_sizes (wsV RX5 143 RX5 yX5_think wsX5_think) := goodIn_app (goodIn_of _ (by decide +kernel)) ggX5_sizes_X5_think
set_option maxRecDepth 20000 in
theorem ggX5_sizes_X5_firstOtherwise : GoodIn wsX5_sizes wsX5_firstOtherwise := goodIn_r _ [63, 14, 17, 16, 2, 64, 65, 66, 28, 67, 68, 69, 70, 71, 54, 72, 73, 74, 75, 76, 57, 77, 78, 79, 80, 81, 82, 83, 55, 56, 84, 85, 86, 87, 88, 58, 48, 53, 89, 59, 90, 91, 92, 93, 94, 95, 96, 97, 98, 99, 100, 101, 102, 103, 104, 105, 106, 107, 108, 109, 110, 111, 112, 113, 114, 115, 116, 117, 118, 119, 120, 121, 122, 123, 124, 125, 126, 127, 128, 141, 142, 143, 129, 130, 131, 132, 133, 134, 135, 136, 137, 138, 139, 140, 144, 145, 146, 147, 148] (by decide +kernel) (by decide +kernel)
set_option maxRecDepth 20000 in
theorem gX5_sizes_X5_firstOtherwise : GoodIn wsX5_sizes (wsV RX5 190 RX5 yX5_firstOtherwise wsX5_firstOtherwise) := goodIn_app (goodIn_of _ (by decide +kernel)) ggX5_sizes_X5_firstOtherwise
theorem dX5_sizes_0 : decode cX5_sizes 0 = .ok (.aload_n 0, 1) := by decide +kernel
theorem dX5_sizes_1 : decode cX5_sizes 1 = .ok (.iload_n 1, 1) := by decide +kernel
theorem dX5_sizes_2 : decode cX5_sizes 2 = .ok (.iload_n 2, 1) := by decide +kernel
theorem dX5_sizes_3 : decode cX5_sizes 3 = .ok (.invokevirtual 187, 3) := by decide +kernel
theorem dX5_sizes_6 : decode cX5_sizes 6 = .ok (.istore 5, 2) := by decide +kernel
theorem dX5_sizes_8 : decode cX5_sizes 8 = .ok (.iload 5, 2) := by decide +kernel
theorem dX5_sizes_10 : decode cX5_sizes 10 = .ok (.ifCond .eq 6, 3) := by decide +kernel
theorem dX5_sizes_13 : decode cX5_sizes 13 = .ok (.iload 5, 2) := by decide +kernel
theorem dX5_sizes_15 : decode cX5_sizes 15 = .ok (.ireturn, 1) := by decide +kernel
theorem dX5_sizes_16 : decode cX5_sizes 16 = .ok (.aload_n 0, 1) := by decide +kernel
theorem dX5_sizes_17 : decode cX5_sizes 17 = .ok (.getfield 28, 3) := by decide +kernel
theorem dX5_sizes_20 : decode cX5_sizes 20 = .ok (.iload_n 3, 1) := by decide +kernel
theorem dX5_sizes_21 : decode cX5_sizes 21 = .ok (.invokevirtual 111, 3) := by decide +kernel
theorem dX5_sizes_24 : decode cX5_sizes 24 = .ok (.ifCond .ne 6, 3) := by decide +kernel
theorem dX5_sizes_27 : decode cX5_sizes 27 = .ok (.bipush (-6), 2) := by decide +kernel
theorem dX5_sizes_29 : decode cX5_sizes 29 = .ok (.ireturn, 1) := by decide +kernel
theorem dX5_sizes_30 : decode cX5_sizes 30 = .ok (.iload 4, 2) := by decide +kernel
theorem dX5_sizes_32 : decode cX5_sizes 32 = .ok (.invokestatic 167, 3) := by decide +kernel
theorem dX5_sizes_35 : decode cX5_sizes 35 = .ok (.ifCond .ne 6, 3) := by decide +kernel
theorem dX5_sizes_38 : decode cX5_sizes 38 = .ok (.bipush (-7), 2) := by decide +kernel
theorem dX5_sizes_40 : decode cX5_sizes 40 = .ok (.ireturn, 1) := by decide +kernel
theorem dX5_sizes_41 : decode cX5_sizes 41 = .ok (.iload 4, 2) := by decide +kernel
theorem dX5_sizes_43 : decode cX5_sizes 43 = .ok (.bipush 10, 2) := by decide +kernel
theorem dX5_sizes_45 : decode cX5_sizes 45 = .ok (.idiv, 1) := by decide +kernel
theorem dX5_sizes_46 : decode cX5_sizes 46 = .ok (.ifCond .ne 13, 3) := by decide +kernel
theorem dX5_sizes_49 : decode cX5_sizes 49 = .ok (.aload_n 0, 1) := by decide +kernel
theorem dX5_sizes_50 : decode cX5_sizes 50 = .ok (.getfield 32, 3) := by decide +kernel
theorem dX5_sizes_53 : decode cX5_sizes 53 = .ok (.getfield 122, 3) := by decide +kernel
theorem dX5_sizes_56 : decode cX5_sizes 56 = .ok (.goto 10, 3) := by decide +kernel
theorem dX5_sizes_59 : decode cX5_sizes 59 = .ok (.aload_n 0, 1) := by decide +kernel
theorem dX5_sizes_60 : decode cX5_sizes 60 = .ok (.getfield 32, 3) := by decide +kernel
theorem dX5_sizes_63 : decode cX5_sizes 63 = .ok (.getfield 125, 3) := by decide +kernel
theorem dX5_sizes_66 : decode cX5_sizes 66 = .ok (.astore 6, 2) := by decide +kernel
theorem dX5_sizes_68 : decode cX5_sizes 68 = .ok (.iconst 0, 1) := by decide +kernel
theorem dX5_sizes_69 : decode cX5_sizes 69 = .ok (.istore 7, 2) := by decide +kernel
theorem dX5_sizes_71 : decode cX5_sizes 71 = .ok (.iconst (-1), 1) := by decide +kernel
theorem dX5_sizes_72 : decode cX5_sizes 72 = .ok (.istore 8, 2) := by decide +kernel
theorem dX5_sizes_74 : decode cX5_sizes 74 = .ok (.bipush 99, 2) := by decide +kernel
theorem dX5_sizes_76 : decode cX5_sizes 76 = .ok (.istore 9, 2) := by decide +kernel
theorem dX5_sizes_78 : decode cX5_sizes 78 = .ok (.iload 9, 2) := by decide +kernel
theorem dX5_sizes_80 : decode cX5_sizes 80 = .ok (.ifCond .lt 36, 3) := by decide +kernel
theorem dX5_sizes_83 : decode cX5_sizes 83 = .ok (.aload_n 0, 1) := by decide +kernel
theorem dX5_sizes_84 : decode cX5_sizes 84 = .ok (.invokevirtual 143, 3) := by decide +kernel
theorem dX5_sizes_87 : decode cX5_sizes 87 = .ok (.aload 6, 2) := by decide +kernel
theorem dX5_sizes_89 : decode cX5_sizes 89 = .ok (.iload_n 3, 1) := by decide +kernel
theorem dX5_sizes_90 : decode cX5_sizes 90 = .ok (.iload 9, 2) := by decide +kernel
theorem dX5_sizes_92 : decode cX5_sizes 92 = .ok (.iastore, 1) := by decide +kernel
theorem dX5_sizes_93 : decode cX5_sizes 93 = .ok (.aload_n 0, 1) := by decide +kernel
theorem dX5_sizes_94 : decode cX5_sizes 94 = .ok (.iload_n 1, 1) := by decide +kernel
theorem dX5_sizes_95 : decode cX5_sizes 95 = .ok (.iload_n 2, 1) := by decide +kernel
theorem dX5_sizes_96 : decode cX5_sizes 96 = .ok (.invokevirtual 190, 3) := by decide +kernel
theorem dX5_sizes_99 : decode cX5_sizes 99 = .ok (.iconst (-1), 1) := by decide +kernel
theorem dX5_sizes_100 : decode cX5_sizes 100 = .ok (.if_icmp .ne 10, 3) := by decide +kernel
theorem dX5_sizes_103 : decode cX5_sizes 103 = .ok (.iinc 7 1, 3) := by decide +kernel
theorem dX5_sizes_106 : decode cX5_sizes 106 = .ok (.iload 9, 2) := by decide +kernel
theorem dX5_sizes_108 : decode cX5_sizes 108 = .ok (.istore 8, 2) := by decide +kernel
theorem dX5_sizes_110 : decode cX5_sizes 110 = .ok (.iinc 9 (-1), 3) := by decide +kernel
theorem dX5_sizes_113 : decode cX5_sizes 113 = .ok (.goto (-35), 3) := by decide +kernel
theorem dX5_sizes_116 : decode cX5_sizes 116 = .ok (.iload 4, 2) := by decide +kernel
theorem dX5_sizes_118 : decode cX5_sizes 118 = .ok (.bipush 10, 2) := by decide +kernel
theorem dX5_sizes_120 : decode cX5_sizes 120 = .ok (.irem, 1) := by decide +kernel
theorem dX5_sizes_121 : decode cX5_sizes 121 = .ok (.ifCond .ne 8, 3) := by decide +kernel
theorem dX5_sizes_124 : decode cX5_sizes 124 = .ok (.iload 7, 2) := by decide +kernel
theorem dX5_sizes_126 : decode cX5_sizes 126 = .ok (.goto 5, 3) := by decide +kernel
theorem dX5_sizes_129 : decode cX5_sizes 129 = .ok (.iload 8, 2) := by decide +kernel
theorem dX5_sizes_131 : decode cX5_sizes 131 = .ok (.ireturn, 1) := by decide +kernel
set_option maxRecDepth 20000 in
theorem ggX5_whose_X5_refusalOfSheet : GoodIn wsX5_whose wsX5_refusalOfSheet := goodIn_r _ [7, 8, 9, 10, 11, 1, 12, 13, 14, 15, 16, 17, 6, 18, 19, 20, 21, 22, 23, 24, 25, 109, 110, 111, 112, 113, 114, 115, 116, 129, 130, 131, 117, 118, 119, 120, 121, 122, 123, 124, 125, 126, 127, 128] (by decide +kernel) (by decide +kernel)
set_option maxRecDepth 20000 in
theorem gX5_whose_X5_refusalOfSheet : GoodIn wsX5_whose (wsV RX5 193 RX5 yX5_refusalOfSheet wsX5_refusalOfSheet) := goodIn_app (goodIn_of _ (by decide +kernel)) ggX5_whose_X5_refusalOfSheet
set_option maxRecDepth 20000 in
theorem ggX5_whose_X5_think : GoodIn wsX5_whose wsX5_think := goodIn_r _ [29, 30, 1, 31, 32, 33, 22, 34, 35, 36, 37, 38, 39, 40, 41, 42, 43, 44, 45, 46, 24, 47, 109, 110, 111, 112, 113, 114, 115, 116, 117, 118, 119, 120, 121, 122, 123, 124, 125, 126, 127, 128] (by decide +kernel) (by decide +kernel)
set_option maxRecDepth 20000 in
theorem gX5_whose_X5_think : GoodIn wsX5_whose (wsV RX5 143 RX5 yX5_think wsX5_think) := goodIn_app (goodIn_of _ (by decide +kernel)) ggX5_whose_X5_think
set_option maxRecDepth 20000 in
theorem ggX5_whose_X5_firstOtherwise : GoodIn wsX5_whose wsX5_firstOtherwise := goodIn_r _ [51, 8, 11, 10, 30, 52, 53, 54, 22, 55, 56, 57, 58, 59, 41, 60, 61, 62, 63, 64, 44, 65, 66, 67, 68, 69, 70, 71, 42, 43, 72, 73, 74, 75, 76, 45, 35, 40, 77, 47, 78, 79, 80, 81, 82, 83, 84, 85, 86, 87, 88, 89, 90, 91, 92, 93, 94, 95, 96, 97, 98, 99, 100, 101, 102, 103, 104, 105, 106, 107, 108, 109, 110, 111, 112, 113, 114, 115, 116, 129, 130, 131, 117, 118, 119, 120, 121, 122, 123, 124, 125, 126, 127, 128, 132, 133, 134, 135, 136] (by decide +kernel) (by decide +kernel)
set_option maxRecDepth 20000 in
theorem gX5_whose_X5_firstOtherwise : GoodIn wsX5_whose (wsV RX5 190 RX5 yX5_firstOtherwise wsX5_firstOtherwise) := goodIn_app (goodIn_of _ (by decide +kernel)) ggX5_whose_X5_firstOtherwise
theorem dX5_whose_0 : decode cX5_whose 0 = .ok (.aload_n 0, 1) := by decide +kernel
theorem dX5_whose_1 : decode cX5_whose 1 = .ok (.iload_n 1, 1) := by decide +kernel
theorem dX5_whose_2 : decode cX5_whose 2 = .ok (.invokevirtual 193, 3) := by decide +kernel
theorem dX5_whose_5 : decode cX5_whose 5 = .ok (.istore_n 2, 1) := by decide +kernel
theorem dX5_whose_6 : decode cX5_whose 6 = .ok (.iload_n 2, 1) := by decide +kernel
theorem dX5_whose_7 : decode cX5_whose 7 = .ok (.ifCond .eq 5, 3) := by decide +kernel
theorem dX5_whose_10 : decode cX5_whose 10 = .ok (.iload_n 2, 1) := by decide +kernel
theorem dX5_whose_11 : decode cX5_whose 11 = .ok (.ireturn, 1) := by decide +kernel
theorem dX5_whose_12 : decode cX5_whose 12 = .ok (.iconst 0, 1) := by decide +kernel
theorem dX5_whose_13 : decode cX5_whose 13 = .ok (.istore_n 3, 1) := by decide +kernel
theorem dX5_whose_14 : decode cX5_whose 14 = .ok (.iconst 0, 1) := by decide +kernel
theorem dX5_whose_15 : decode cX5_whose 15 = .ok (.istore 4, 2) := by decide +kernel
theorem dX5_whose_17 : decode cX5_whose 17 = .ok (.iload 4, 2) := by decide +kernel
theorem dX5_whose_19 : decode cX5_whose 19 = .ok (.aload_n 0, 1) := by decide +kernel
theorem dX5_whose_20 : decode cX5_whose 20 = .ok (.getfield 28, 3) := by decide +kernel
theorem dX5_whose_23 : decode cX5_whose 23 = .ok (.getfield 75, 3) := by decide +kernel
theorem dX5_whose_26 : decode cX5_whose 26 = .ok (.if_icmp .ge 31, 3) := by decide +kernel
theorem dX5_whose_29 : decode cX5_whose 29 = .ok (.aload_n 0, 1) := by decide +kernel
theorem dX5_whose_30 : decode cX5_whose 30 = .ok (.invokevirtual 143, 3) := by decide +kernel
theorem dX5_whose_33 : decode cX5_whose 33 = .ok (.aload_n 0, 1) := by decide +kernel
theorem dX5_whose_34 : decode cX5_whose 34 = .ok (.iload_n 1, 1) := by decide +kernel
theorem dX5_whose_35 : decode cX5_whose 35 = .ok (.iload 4, 2) := by decide +kernel
theorem dX5_whose_37 : decode cX5_whose 37 = .ok (.invokevirtual 190, 3) := by decide +kernel
theorem dX5_whose_40 : decode cX5_whose 40 = .ok (.iconst (-1), 1) := by decide +kernel
theorem dX5_whose_41 : decode cX5_whose 41 = .ok (.if_icmp .ne 10, 3) := by decide +kernel
theorem dX5_whose_44 : decode cX5_whose 44 = .ok (.iload_n 3, 1) := by decide +kernel
theorem dX5_whose_45 : decode cX5_whose 45 = .ok (.iconst 1, 1) := by decide +kernel
theorem dX5_whose_46 : decode cX5_whose 46 = .ok (.iload 4, 2) := by decide +kernel
theorem dX5_whose_48 : decode cX5_whose 48 = .ok (.ishl, 1) := by decide +kernel
theorem dX5_whose_49 : decode cX5_whose 49 = .ok (.ior, 1) := by decide +kernel
theorem dX5_whose_50 : decode cX5_whose 50 = .ok (.istore_n 3, 1) := by decide +kernel
theorem dX5_whose_51 : decode cX5_whose 51 = .ok (.iinc 4 1, 3) := by decide +kernel
theorem dX5_whose_54 : decode cX5_whose 54 = .ok (.goto (-37), 3) := by decide +kernel
theorem dX5_whose_57 : decode cX5_whose 57 = .ok (.iload_n 3, 1) := by decide +kernel
theorem dX5_whose_58 : decode cX5_whose 58 = .ok (.ireturn, 1) := by decide +kernel
set_option maxRecDepth 20000 in
theorem ggX5_laws_X5_refusalOf : GoodIn wsX5_laws wsX5_refusalOf := goodIn_r _ [9, 10, 11, 12, 13, 8, 14, 15, 16, 17, 18, 19, 20, 21, 22, 23, 24, 25, 26, 27, 28, 29, 30, 31, 32, 33, 34, 35, 36, 37, 119, 120, 121, 122, 123, 124, 125, 126, 144, 145, 146, 132, 133, 134, 135, 136, 137, 138, 139, 140, 141, 142, 143] (by decide +kernel) (by decide +kernel)
set_option maxRecDepth 20000 in
theorem gX5_laws_X5_refusalOf : GoodIn wsX5_laws (wsV RX5 187 RX5 yX5_refusalOf wsX5_refusalOf) := goodIn_app (goodIn_of _ (by decide +kernel)) ggX5_laws_X5_refusalOf
set_option maxRecDepth 20000 in
theorem ggX5_laws_X5_think : GoodIn wsX5_laws wsX5_think := goodIn_r _ [41, 3, 10, 42, 43, 44, 29, 45, 46, 47, 48, 49, 50, 51, 52, 53, 54, 55, 56, 37, 31, 57, 119, 120, 121, 122, 123, 124, 125, 126, 132, 133, 134, 135, 136, 137, 138, 139, 140, 141, 142, 143] (by decide +kernel) (by decide +kernel)
set_option maxRecDepth 20000 in
theorem gX5_laws_X5_think : GoodIn wsX5_laws (wsV RX5 143 RX5 yX5_think wsX5_think) := goodIn_app (goodIn_of _ (by decide +kernel)) ggX5_laws_X5_think
set_option maxRecDepth 20000 in
theorem ggX5_laws_X5_firstOtherwise : GoodIn wsX5_laws wsX5_firstOtherwise := goodIn_r _ [61, 15, 18, 17, 3, 62, 63, 64, 29, 65, 66, 67, 68, 69, 52, 70, 71, 72, 73, 74, 55, 75, 76, 77, 78, 79, 80, 81, 53, 54, 82, 83, 84, 85, 86, 56, 46, 51, 87, 57, 88, 89, 90, 91, 92, 93, 94, 95, 96, 97, 98, 99, 100, 101, 102, 103, 104, 105, 106, 107, 108, 109, 110, 111, 112, 113, 114, 115, 116, 117, 118, 119, 120, 121, 122, 123, 124, 125, 126, 144, 145, 146, 132, 133, 134, 135, 136, 137, 138, 139, 140, 141, 142, 143, 127, 128, 129, 130, 131] (by decide +kernel) (by decide +kernel)
set_option maxRecDepth 20000 in
theorem gX5_laws_X5_firstOtherwise : GoodIn wsX5_laws (wsV RX5 190 RX5 yX5_firstOtherwise wsX5_firstOtherwise) := goodIn_app (goodIn_of _ (by decide +kernel)) ggX5_laws_X5_firstOtherwise
theorem dX5_laws_0 : decode cX5_laws 0 = .ok (.aload_n 0, 1) := by decide +kernel
theorem dX5_laws_1 : decode cX5_laws 1 = .ok (.iload_n 1, 1) := by decide +kernel
theorem dX5_laws_2 : decode cX5_laws 2 = .ok (.iload_n 2, 1) := by decide +kernel
theorem dX5_laws_3 : decode cX5_laws 3 = .ok (.invokevirtual 187, 3) := by decide +kernel
theorem dX5_laws_6 : decode cX5_laws 6 = .ok (.istore_n 3, 1) := by decide +kernel
theorem dX5_laws_7 : decode cX5_laws 7 = .ok (.iload_n 3, 1) := by decide +kernel
theorem dX5_laws_8 : decode cX5_laws 8 = .ok (.ifCond .eq 5, 3) := by decide +kernel
theorem dX5_laws_11 : decode cX5_laws 11 = .ok (.iload_n 3, 1) := by decide +kernel
theorem dX5_laws_12 : decode cX5_laws 12 = .ok (.ireturn, 1) := by decide +kernel
theorem dX5_laws_13 : decode cX5_laws 13 = .ok (.iconst 0, 1) := by decide +kernel
theorem dX5_laws_14 : decode cX5_laws 14 = .ok (.istore 4, 2) := by decide +kernel
theorem dX5_laws_16 : decode cX5_laws 16 = .ok (.iconst 0, 1) := by decide +kernel
theorem dX5_laws_17 : decode cX5_laws 17 = .ok (.istore 5, 2) := by decide +kernel
theorem dX5_laws_19 : decode cX5_laws 19 = .ok (.iload 5, 2) := by decide +kernel
theorem dX5_laws_21 : decode cX5_laws 21 = .ok (.aload_n 0, 1) := by decide +kernel
theorem dX5_laws_22 : decode cX5_laws 22 = .ok (.getfield 10, 3) := by decide +kernel
theorem dX5_laws_25 : decode cX5_laws 25 = .ok (.getfield 78, 3) := by decide +kernel
theorem dX5_laws_28 : decode cX5_laws 28 = .ok (.if_icmp .ge 41, 3) := by decide +kernel
theorem dX5_laws_31 : decode cX5_laws 31 = .ok (.aload_n 0, 1) := by decide +kernel
theorem dX5_laws_32 : decode cX5_laws 32 = .ok (.invokevirtual 143, 3) := by decide +kernel
theorem dX5_laws_35 : decode cX5_laws 35 = .ok (.aload_n 0, 1) := by decide +kernel
theorem dX5_laws_36 : decode cX5_laws 36 = .ok (.getfield 32, 3) := by decide +kernel
theorem dX5_laws_39 : decode cX5_laws 39 = .ok (.iload 5, 2) := by decide +kernel
theorem dX5_laws_41 : decode cX5_laws 41 = .ok (.putfield 81, 3) := by decide +kernel
theorem dX5_laws_44 : decode cX5_laws 44 = .ok (.aload_n 0, 1) := by decide +kernel
theorem dX5_laws_45 : decode cX5_laws 45 = .ok (.iload_n 1, 1) := by decide +kernel
theorem dX5_laws_46 : decode cX5_laws 46 = .ok (.iload_n 2, 1) := by decide +kernel
theorem dX5_laws_47 : decode cX5_laws 47 = .ok (.invokevirtual 190, 3) := by decide +kernel
theorem dX5_laws_50 : decode cX5_laws 50 = .ok (.iconst (-1), 1) := by decide +kernel
theorem dX5_laws_51 : decode cX5_laws 51 = .ok (.if_icmp .ne 12, 3) := by decide +kernel
theorem dX5_laws_54 : decode cX5_laws 54 = .ok (.iload 4, 2) := by decide +kernel
theorem dX5_laws_56 : decode cX5_laws 56 = .ok (.iconst 1, 1) := by decide +kernel
theorem dX5_laws_57 : decode cX5_laws 57 = .ok (.iload 5, 2) := by decide +kernel
theorem dX5_laws_59 : decode cX5_laws 59 = .ok (.ishl, 1) := by decide +kernel
theorem dX5_laws_60 : decode cX5_laws 60 = .ok (.ior, 1) := by decide +kernel
theorem dX5_laws_61 : decode cX5_laws 61 = .ok (.istore 4, 2) := by decide +kernel
theorem dX5_laws_63 : decode cX5_laws 63 = .ok (.iinc 5 1, 3) := by decide +kernel
theorem dX5_laws_66 : decode cX5_laws 66 = .ok (.goto (-47), 3) := by decide +kernel
theorem dX5_laws_69 : decode cX5_laws 69 = .ok (.iload 4, 2) := by decide +kernel
theorem dX5_laws_71 : decode cX5_laws 71 = .ok (.ireturn, 1) := by decide +kernel
set_option maxRecDepth 20000 in
theorem ggX5_film_X2_isSheet : GoodIn wsX5_film wsX2_isSheet := goodIn_r _ [9, 10, 11, 12] (by decide +kernel) (by decide +kernel)
set_option maxRecDepth 20000 in
theorem gX5_film_X2_isSheet : GoodIn wsX5_film (wsV RX5 196 RX2 yX2_isSheet wsX2_isSheet) := goodIn_app (goodIn_of _ (by decide +kernel)) ggX5_film_X2_isSheet
set_option maxRecDepth 20000 in
theorem ggX5_film_X0_hasJudge : GoodIn wsX5_film wsX0_hasJudge := goodIn_r _ [17, 18, 121, 122, 123, 124, 125, 126, 127, 128, 129, 130, 131, 132] (by decide +kernel) (by decide +kernel)
set_option maxRecDepth 20000 in
theorem gX5_film_X0_hasJudge : GoodIn wsX5_film (wsV RX5 94 RX0 yX0_hasJudge wsX0_hasJudge) := goodIn_app (goodIn_of _ (by decide +kernel)) ggX5_film_X0_hasJudge
set_option maxRecDepth 20000 in
theorem ggX5_film_X5_within : GoodIn wsX5_film wsX5_within := goodIn_r _ [12] (by decide +kernel) (by decide +kernel)
set_option maxRecDepth 20000 in
theorem gX5_film_X5_within : GoodIn wsX5_film (va_wsS RX5 86 yX5_within wsX5_within) := goodIn_app (goodIn_of _ (by decide +kernel)) ggX5_film_X5_within
set_option maxRecDepth 20000 in
theorem ggX5_film_X5_think : GoodIn wsX5_film wsX5_think := goodIn_r _ [23, 4, 2, 24, 25, 26, 16, 27, 28, 29, 30, 31, 32, 33, 34, 35, 36, 37, 38, 18, 39, 40, 113, 114, 115, 116, 117, 118, 119, 120, 121, 122, 123, 124, 125, 126, 127, 128, 129, 130, 131, 132] (by decide +kernel) (by decide +kernel)
set_option maxRecDepth 20000 in
theorem gX5_film_X5_think : GoodIn wsX5_film (wsV RX5 143 RX5 yX5_think wsX5_think) := goodIn_app (goodIn_of _ (by decide +kernel)) ggX5_film_X5_think
set_option maxRecDepth 20000 in
theorem ggX5_film_X2_become : GoodIn wsX5_film wsX2_become := goodIn_r _ [44, 45, 46, 47, 48, 49, 50, 51, 133, 134, 135] (by decide +kernel) (by decide +kernel)
set_option maxRecDepth 20000 in
theorem gX5_film_X2_become : GoodIn wsX5_film (wsV RX5 199 RX2 yX2_become wsX2_become) := goodIn_app (goodIn_of _ (by decide +kernel)) ggX5_film_X2_become
set_option maxRecDepth 20000 in
theorem ggX5_film_X0_go : GoodIn wsX5_film wsX0_go := goodIn_r _ [55, 56, 57, 58, 16, 59, 34, 60, 61, 62, 63, 64, 37, 65, 66, 67, 68, 69, 70, 71, 35, 36, 72, 73, 74, 75, 76, 38, 28, 33, 77, 40, 78, 79, 80, 81, 82, 83, 84, 85, 86, 87, 88, 89, 90, 91, 92, 93, 94, 95, 96, 97, 98, 99, 100, 101, 102, 103, 104, 121, 122, 123, 124, 125, 126, 127, 128, 129, 130, 131, 132, 136, 137, 138, 139, 140] (by decide +kernel) (by decide +kernel)
set_option maxRecDepth 20000 in
theorem gX5_film_X0_go : GoodIn wsX5_film (wsV RX5 140 RX0 yX0_go wsX0_go) := goodIn_app (goodIn_of _ (by decide +kernel)) ggX5_film_X0_go
set_option maxRecDepth 20000 in
theorem ggX5_film_X0_verdict : GoodIn wsX5_film wsX0_verdict := goodIn_r _ [108, 72, 73, 74, 16, 75, 76, 37, 38, 28, 33, 36, 77, 40, 61, 62, 63, 64, 65, 66, 67, 78, 79, 80, 81, 82, 83, 84, 85, 86, 87, 88, 89, 90, 91, 92, 121, 122, 123, 124, 125, 126, 127, 128, 129, 130, 131, 132, 136, 137, 138, 139, 140] (by decide +kernel) (by decide +kernel)
set_option maxRecDepth 20000 in
theorem gX5_film_X0_verdict : GoodIn wsX5_film (wsV RX5 164 RX0 yX0_verdict wsX0_verdict) := goodIn_app (goodIn_of _ (by decide +kernel)) ggX5_film_X0_verdict
set_option maxRecDepth 20000 in
theorem ggX5_film_X2_store : GoodIn wsX5_film wsX2_store := goodIn_r _ [112, 47, 45, 133, 134, 135] (by decide +kernel) (by decide +kernel)
set_option maxRecDepth 20000 in
theorem gX5_film_X2_store : GoodIn wsX5_film (wsV RX5 203 RX2 yX2_store wsX2_store) := goodIn_app (goodIn_of _ (by decide +kernel)) ggX5_film_X2_store
theorem dX5_film_0 : decode cX5_film 0 = .ok (.aload_n 0, 1) := by decide +kernel
theorem dX5_film_1 : decode cX5_film 1 = .ok (.getfield 41, 3) := by decide +kernel
theorem dX5_film_4 : decode cX5_film 4 = .ok (.iload_n 1, 1) := by decide +kernel
theorem dX5_film_5 : decode cX5_film 5 = .ok (.invokevirtual 196, 3) := by decide +kernel
theorem dX5_film_8 : decode cX5_film 8 = .ok (.ifCond .ne 6, 3) := by decide +kernel
theorem dX5_film_11 : decode cX5_film 11 = .ok (.bipush (-2), 2) := by decide +kernel
theorem dX5_film_13 : decode cX5_film 13 = .ok (.ireturn, 1) := by decide +kernel
theorem dX5_film_14 : decode cX5_film 14 = .ok (.aload_n 0, 1) := by decide +kernel
theorem dX5_film_15 : decode cX5_film 15 = .ok (.getfield 28, 3) := by decide +kernel
theorem dX5_film_18 : decode cX5_film 18 = .ok (.iload_n 2, 1) := by decide +kernel
theorem dX5_film_19 : decode cX5_film 19 = .ok (.invokevirtual 94, 3) := by decide +kernel
theorem dX5_film_22 : decode cX5_film 22 = .ok (.ifCond .ne 6, 3) := by decide +kernel
theorem dX5_film_25 : decode cX5_film 25 = .ok (.bipush (-5), 2) := by decide +kernel
theorem dX5_film_27 : decode cX5_film 27 = .ok (.ireturn, 1) := by decide +kernel
theorem dX5_film_28 : decode cX5_film 28 = .ok (.iload_n 3, 1) := by decide +kernel
theorem dX5_film_29 : decode cX5_film 29 = .ok (.bipush 60, 2) := by decide +kernel
theorem dX5_film_31 : decode cX5_film 31 = .ok (.invokestatic 86, 3) := by decide +kernel
theorem dX5_film_34 : decode cX5_film 34 = .ok (.ifCond .ne 6, 3) := by decide +kernel
theorem dX5_film_37 : decode cX5_film 37 = .ok (.bipush (-7), 2) := by decide +kernel
theorem dX5_film_39 : decode cX5_film 39 = .ok (.ireturn, 1) := by decide +kernel
theorem dX5_film_40 : decode cX5_film 40 = .ok (.aload_n 0, 1) := by decide +kernel
theorem dX5_film_41 : decode cX5_film 41 = .ok (.invokevirtual 143, 3) := by decide +kernel
theorem dX5_film_44 : decode cX5_film 44 = .ok (.aload_n 0, 1) := by decide +kernel
theorem dX5_film_45 : decode cX5_film 45 = .ok (.getfield 41, 3) := by decide +kernel
theorem dX5_film_48 : decode cX5_film 48 = .ok (.iload_n 1, 1) := by decide +kernel
theorem dX5_film_49 : decode cX5_film 49 = .ok (.iconst 0, 1) := by decide +kernel
theorem dX5_film_50 : decode cX5_film 50 = .ok (.iconst 3, 1) := by decide +kernel
theorem dX5_film_51 : decode cX5_film 51 = .ok (.aload_n 0, 1) := by decide +kernel
theorem dX5_film_52 : decode cX5_film 52 = .ok (.getfield 28, 3) := by decide +kernel
theorem dX5_film_55 : decode cX5_film 55 = .ok (.getfield 71, 3) := by decide +kernel
theorem dX5_film_58 : decode cX5_film 58 = .ok (.imul, 1) := by decide +kernel
theorem dX5_film_59 : decode cX5_film 59 = .ok (.invokevirtual 199, 3) := by decide +kernel
theorem dX5_film_62 : decode cX5_film 62 = .ok (.iconst 0, 1) := by decide +kernel
theorem dX5_film_63 : decode cX5_film 63 = .ok (.istore 4, 2) := by decide +kernel
theorem dX5_film_65 : decode cX5_film 65 = .ok (.iconst 0, 1) := by decide +kernel
theorem dX5_film_66 : decode cX5_film 66 = .ok (.istore 5, 2) := by decide +kernel
theorem dX5_film_68 : decode cX5_film 68 = .ok (.iload 5, 2) := by decide +kernel
theorem dX5_film_70 : decode cX5_film 70 = .ok (.aload_n 0, 1) := by decide +kernel
theorem dX5_film_71 : decode cX5_film 71 = .ok (.getfield 28, 3) := by decide +kernel
theorem dX5_film_74 : decode cX5_film 74 = .ok (.getfield 71, 3) := by decide +kernel
theorem dX5_film_77 : decode cX5_film 77 = .ok (.if_icmp .ge 84, 3) := by decide +kernel
theorem dX5_film_80 : decode cX5_film 80 = .ok (.aload_n 0, 1) := by decide +kernel
theorem dX5_film_81 : decode cX5_film 81 = .ok (.getfield 32, 3) := by decide +kernel
theorem dX5_film_84 : decode cX5_film 84 = .ok (.iload_n 2, 1) := by decide +kernel
theorem dX5_film_85 : decode cX5_film 85 = .ok (.iload 5, 2) := by decide +kernel
theorem dX5_film_87 : decode cX5_film 87 = .ok (.aload_n 0, 1) := by decide +kernel
theorem dX5_film_88 : decode cX5_film 88 = .ok (.getfield 32, 3) := by decide +kernel
theorem dX5_film_91 : decode cX5_film 91 = .ok (.iload_n 2, 1) := by decide +kernel
theorem dX5_film_92 : decode cX5_film 92 = .ok (.iload 5, 2) := by decide +kernel
theorem dX5_film_94 : decode cX5_film 94 = .ok (.iload_n 3, 1) := by decide +kernel
theorem dX5_film_95 : decode cX5_film 95 = .ok (.invokevirtual 140, 3) := by decide +kernel
theorem dX5_film_98 : decode cX5_film 98 = .ok (.invokevirtual 164, 3) := by decide +kernel
theorem dX5_film_101 : decode cX5_film 101 = .ok (.istore 6, 2) := by decide +kernel
theorem dX5_film_103 : decode cX5_film 103 = .ok (.aload_n 0, 1) := by decide +kernel
theorem dX5_film_104 : decode cX5_film 104 = .ok (.getfield 41, 3) := by decide +kernel
theorem dX5_film_107 : decode cX5_film 107 = .ok (.iload_n 1, 1) := by decide +kernel
theorem dX5_film_108 : decode cX5_film 108 = .ok (.iconst 3, 1) := by decide +kernel
theorem dX5_film_109 : decode cX5_film 109 = .ok (.iload 5, 2) := by decide +kernel
theorem dX5_film_111 : decode cX5_film 111 = .ok (.imul, 1) := by decide +kernel
theorem dX5_film_112 : decode cX5_film 112 = .ok (.iload 5, 2) := by decide +kernel
theorem dX5_film_114 : decode cX5_film 114 = .ok (.invokevirtual 203, 3) := by decide +kernel
theorem dX5_film_117 : decode cX5_film 117 = .ok (.aload_n 0, 1) := by decide +kernel
theorem dX5_film_118 : decode cX5_film 118 = .ok (.getfield 41, 3) := by decide +kernel
theorem dX5_film_121 : decode cX5_film 121 = .ok (.iload_n 1, 1) := by decide +kernel
theorem dX5_film_122 : decode cX5_film 122 = .ok (.iconst 3, 1) := by decide +kernel
theorem dX5_film_123 : decode cX5_film 123 = .ok (.iload 5, 2) := by decide +kernel
theorem dX5_film_125 : decode cX5_film 125 = .ok (.imul, 1) := by decide +kernel
theorem dX5_film_126 : decode cX5_film 126 = .ok (.iconst 1, 1) := by decide +kernel
theorem dX5_film_127 : decode cX5_film 127 = .ok (.iadd, 1) := by decide +kernel
theorem dX5_film_128 : decode cX5_film 128 = .ok (.iload_n 3, 1) := by decide +kernel
theorem dX5_film_129 : decode cX5_film 129 = .ok (.invokevirtual 203, 3) := by decide +kernel
theorem dX5_film_132 : decode cX5_film 132 = .ok (.aload_n 0, 1) := by decide +kernel
theorem dX5_film_133 : decode cX5_film 133 = .ok (.getfield 41, 3) := by decide +kernel
theorem dX5_film_136 : decode cX5_film 136 = .ok (.iload_n 1, 1) := by decide +kernel
theorem dX5_film_137 : decode cX5_film 137 = .ok (.iconst 3, 1) := by decide +kernel
theorem dX5_film_138 : decode cX5_film 138 = .ok (.iload 5, 2) := by decide +kernel
theorem dX5_film_140 : decode cX5_film 140 = .ok (.imul, 1) := by decide +kernel
theorem dX5_film_141 : decode cX5_film 141 = .ok (.iconst 2, 1) := by decide +kernel
theorem dX5_film_142 : decode cX5_film 142 = .ok (.iadd, 1) := by decide +kernel
theorem dX5_film_143 : decode cX5_film 143 = .ok (.iload 6, 2) := by decide +kernel
theorem dX5_film_145 : decode cX5_film 145 = .ok (.invokevirtual 203, 3) := by decide +kernel
theorem dX5_film_148 : decode cX5_film 148 = .ok (.iload 4, 2) := by decide +kernel
theorem dX5_film_150 : decode cX5_film 150 = .ok (.iload 6, 2) := by decide +kernel
theorem dX5_film_152 : decode cX5_film 152 = .ok (.iadd, 1) := by decide +kernel
theorem dX5_film_153 : decode cX5_film 153 = .ok (.istore 4, 2) := by decide +kernel
theorem dX5_film_155 : decode cX5_film 155 = .ok (.iinc 5 1, 3) := by decide +kernel
theorem dX5_film_158 : decode cX5_film 158 = .ok (.goto (-90), 3) := by decide +kernel
theorem dX5_film_161 : decode cX5_film 161 = .ok (.iload 4, 2) := by decide +kernel
theorem dX5_film_163 : decode cX5_film 163 = .ok (.ireturn, 1) := by decide +kernel
set_option maxRecDepth 20000 in
theorem ggX5_drawn_X0_hasBoth : GoodIn wsX5_drawn wsX0_hasBoth := goodIn_r _ [8, 9, 10, 11, 7, 12, 13, 14, 15, 16, 17, 18, 118, 119, 120, 121, 122, 123, 124, 125, 126, 127, 128, 129] (by decide +kernel) (by decide +kernel)
set_option maxRecDepth 20000 in
theorem gX5_drawn_X0_hasBoth : GoodIn wsX5_drawn (wsV RX5 137 RX0 yX0_hasBoth wsX0_hasBoth) := goodIn_app (goodIn_of _ (by decide +kernel)) ggX5_drawn_X0_hasBoth
set_option maxRecDepth 20000 in
theorem ggX5_drawn_X5_within : GoodIn wsX5_drawn wsX5_within := goodIn_r _ [22] (by decide +kernel) (by decide +kernel)
set_option maxRecDepth 20000 in
theorem gX5_drawn_X5_within : GoodIn wsX5_drawn (va_wsS RX5 86 yX5_within wsX5_within) := goodIn_app (goodIn_of _ (by decide +kernel)) ggX5_drawn_X5_within
set_option maxRecDepth 20000 in
theorem ggX5_drawn_X5_isMoreMiles : GoodIn wsX5_drawn wsX5_isMoreMiles := goodIn_r _ [25, 19, 20, 21, 22] (by decide +kernel) (by decide +kernel)
set_option maxRecDepth 20000 in
theorem gX5_drawn_X5_isMoreMiles : GoodIn wsX5_drawn (va_wsS RX5 207 yX5_isMoreMiles wsX5_isMoreMiles) := goodIn_app (goodIn_of _ (by decide +kernel)) ggX5_drawn_X5_isMoreMiles
set_option maxRecDepth 20000 in
theorem ggX5_drawn_X5_think : GoodIn wsX5_drawn wsX5_think := goodIn_r _ [29, 3, 1, 30, 31, 32, 7, 33, 34, 35, 36, 37, 38, 39, 40, 41, 42, 43, 44, 13, 18, 45, 110, 111, 112, 113, 114, 115, 116, 117, 118, 119, 120, 121, 122, 123, 124, 125, 126, 127, 128, 129] (by decide +kernel) (by decide +kernel)
set_option maxRecDepth 20000 in
theorem gX5_drawn_X5_think : GoodIn wsX5_drawn (wsV RX5 143 RX5 yX5_think wsX5_think) := goodIn_app (goodIn_of _ (by decide +kernel)) ggX5_drawn_X5_think
set_option maxRecDepth 20000 in
theorem ggX5_drawn_X0_goByLots : GoodIn wsX5_drawn wsX0_goByLots := goodIn_r _ [49, 50, 51, 52, 53, 54, 7, 55, 40, 56, 57, 58, 59, 60, 43, 61, 62, 63, 64, 65, 66, 67, 41, 42, 68, 69, 70, 71, 72, 44, 34, 39, 73, 45, 74, 75, 76, 77, 78, 79, 80, 81, 82, 83, 84, 85, 86, 87, 88, 89, 90, 91, 92, 93, 94, 95, 96, 97, 98, 99, 100, 118, 119, 120, 121, 122, 123, 124, 125, 126, 127, 128, 129, 130, 131, 132, 133, 134] (by decide +kernel) (by decide +kernel)
set_option maxRecDepth 20000 in
theorem gX5_drawn_X0_goByLots : GoodIn wsX5_drawn (wsV RX5 210 RX0 yX0_goByLots wsX0_goByLots) := goodIn_app (goodIn_of _ (by decide +kernel)) ggX5_drawn_X0_goByLots
set_option maxRecDepth 20000 in
theorem ggX5_drawn_X5_outcome : GoodIn wsX5_drawn wsX5_outcome := goodIn_r _ [104, 3, 105, 106, 107, 108, 7, 109, 68, 69, 70, 71, 72, 43, 44, 34, 39, 42, 73, 45, 57, 58, 59, 60, 61, 62, 63, 74, 75, 76, 77, 78, 79, 80, 81, 82, 83, 84, 85, 86, 87, 88, 110, 111, 112, 113, 114, 115, 116, 117, 118, 119, 120, 121, 122, 123, 124, 125, 126, 127, 128, 129, 130, 131, 132, 133, 134] (by decide +kernel) (by decide +kernel)
set_option maxRecDepth 20000 in
theorem gX5_drawn_X5_outcome : GoodIn wsX5_drawn (wsV RX5 146 RX5 yX5_outcome wsX5_outcome) := goodIn_app (goodIn_of _ (by decide +kernel)) ggX5_drawn_X5_outcome
theorem dX5_drawn_0 : decode cX5_drawn 0 = .ok (.aload_n 0, 1) := by decide +kernel
theorem dX5_drawn_1 : decode cX5_drawn 1 = .ok (.getfield 28, 3) := by decide +kernel
theorem dX5_drawn_4 : decode cX5_drawn 4 = .ok (.iload_n 2, 1) := by decide +kernel
theorem dX5_drawn_5 : decode cX5_drawn 5 = .ok (.iload_n 3, 1) := by decide +kernel
theorem dX5_drawn_6 : decode cX5_drawn 6 = .ok (.invokevirtual 137, 3) := by decide +kernel
theorem dX5_drawn_9 : decode cX5_drawn 9 = .ok (.ifCond .ne 6, 3) := by decide +kernel
theorem dX5_drawn_12 : decode cX5_drawn 12 = .ok (.bipush (-5), 2) := by decide +kernel
theorem dX5_drawn_14 : decode cX5_drawn 14 = .ok (.ireturn, 1) := by decide +kernel
theorem dX5_drawn_15 : decode cX5_drawn 15 = .ok (.iload_n 1, 1) := by decide +kernel
theorem dX5_drawn_16 : decode cX5_drawn 16 = .ok (.ldc 206, 2) := by decide +kernel
theorem dX5_drawn_18 : decode cX5_drawn 18 = .ok (.invokestatic 86, 3) := by decide +kernel
theorem dX5_drawn_21 : decode cX5_drawn 21 = .ok (.ifCond .eq 20, 3) := by decide +kernel
theorem dX5_drawn_24 : decode cX5_drawn 24 = .ok (.iload 4, 2) := by decide +kernel
theorem dX5_drawn_26 : decode cX5_drawn 26 = .ok (.invokestatic 207, 3) := by decide +kernel
theorem dX5_drawn_29 : decode cX5_drawn 29 = .ok (.ifCond .eq 12, 3) := by decide +kernel
theorem dX5_drawn_32 : decode cX5_drawn 32 = .ok (.iload 5, 2) := by decide +kernel
theorem dX5_drawn_34 : decode cX5_drawn 34 = .ok (.iconst 2, 1) := by decide +kernel
theorem dX5_drawn_35 : decode cX5_drawn 35 = .ok (.invokestatic 86, 3) := by decide +kernel
theorem dX5_drawn_38 : decode cX5_drawn 38 = .ok (.ifCond .ne 6, 3) := by decide +kernel
theorem dX5_drawn_41 : decode cX5_drawn 41 = .ok (.bipush (-7), 2) := by decide +kernel
theorem dX5_drawn_43 : decode cX5_drawn 43 = .ok (.ireturn, 1) := by decide +kernel
theorem dX5_drawn_44 : decode cX5_drawn 44 = .ok (.aload_n 0, 1) := by decide +kernel
theorem dX5_drawn_45 : decode cX5_drawn 45 = .ok (.invokevirtual 143, 3) := by decide +kernel
theorem dX5_drawn_48 : decode cX5_drawn 48 = .ok (.aload_n 0, 1) := by decide +kernel
theorem dX5_drawn_49 : decode cX5_drawn 49 = .ok (.getfield 32, 3) := by decide +kernel
theorem dX5_drawn_52 : decode cX5_drawn 52 = .ok (.iload_n 1, 1) := by decide +kernel
theorem dX5_drawn_53 : decode cX5_drawn 53 = .ok (.iload_n 2, 1) := by decide +kernel
theorem dX5_drawn_54 : decode cX5_drawn 54 = .ok (.iload_n 3, 1) := by decide +kernel
theorem dX5_drawn_55 : decode cX5_drawn 55 = .ok (.iload 4, 2) := by decide +kernel
theorem dX5_drawn_57 : decode cX5_drawn 57 = .ok (.invokevirtual 210, 3) := by decide +kernel
theorem dX5_drawn_60 : decode cX5_drawn 60 = .ok (.istore 6, 2) := by decide +kernel
theorem dX5_drawn_62 : decode cX5_drawn 62 = .ok (.aload_n 0, 1) := by decide +kernel
theorem dX5_drawn_63 : decode cX5_drawn 63 = .ok (.iload_n 2, 1) := by decide +kernel
theorem dX5_drawn_64 : decode cX5_drawn 64 = .ok (.iload_n 3, 1) := by decide +kernel
theorem dX5_drawn_65 : decode cX5_drawn 65 = .ok (.iload 6, 2) := by decide +kernel
theorem dX5_drawn_67 : decode cX5_drawn 67 = .ok (.iload 5, 2) := by decide +kernel
theorem dX5_drawn_69 : decode cX5_drawn 69 = .ok (.invokevirtual 146, 3) := by decide +kernel
theorem dX5_drawn_72 : decode cX5_drawn 72 = .ok (.ireturn, 1) := by decide +kernel
set_option maxRecDepth 20000 in
theorem ggX5_odds_X5_within : GoodIn wsX5_odds wsX5_within := goodIn_r _ [8] (by decide +kernel) (by decide +kernel)
set_option maxRecDepth 20000 in
theorem gX5_odds_X5_within : GoodIn wsX5_odds (va_wsS RX5 86 yX5_within wsX5_within) := goodIn_app (goodIn_of _ (by decide +kernel)) ggX5_odds_X5_within
set_option maxRecDepth 20000 in
theorem ggX5_odds_X0_hasBoth : GoodIn wsX5_odds wsX0_hasBoth := goodIn_r _ [13, 14, 15, 16, 12, 17, 18, 19, 20, 21, 22, 23, 118, 119, 120, 121, 122, 123, 124, 125, 126, 127, 128, 129] (by decide +kernel) (by decide +kernel)
set_option maxRecDepth 20000 in
theorem gX5_odds_X0_hasBoth : GoodIn wsX5_odds (wsV RX5 137 RX0 yX0_hasBoth wsX0_hasBoth) := goodIn_app (goodIn_of _ (by decide +kernel)) ggX5_odds_X0_hasBoth
set_option maxRecDepth 20000 in
theorem ggX5_odds_X5_isMoreMiles : GoodIn wsX5_odds wsX5_isMoreMiles := goodIn_r _ [26, 5, 6, 7, 8] (by decide +kernel) (by decide +kernel)
set_option maxRecDepth 20000 in
theorem gX5_odds_X5_isMoreMiles : GoodIn wsX5_odds (va_wsS RX5 207 yX5_isMoreMiles wsX5_isMoreMiles) := goodIn_app (goodIn_of _ (by decide +kernel)) ggX5_odds_X5_isMoreMiles
set_option maxRecDepth 20000 in
theorem ggX5_odds_X5_think : GoodIn wsX5_odds wsX5_think := goodIn_r _ [30, 4, 3, 31, 32, 33, 12, 34, 35, 36, 37, 38, 39, 40, 41, 42, 43, 44, 45, 18, 23, 46, 110, 111, 112, 113, 114, 115, 116, 117, 118, 119, 120, 121, 122, 123, 124, 125, 126, 127, 128, 129] (by decide +kernel) (by decide +kernel)
set_option maxRecDepth 20000 in
theorem gX5_odds_X5_think : GoodIn wsX5_odds (wsV RX5 143 RX5 yX5_think wsX5_think) := goodIn_app (goodIn_of _ (by decide +kernel)) ggX5_odds_X5_think
set_option maxRecDepth 20000 in
theorem ggX5_odds_X0_goByLots : GoodIn wsX5_odds wsX0_goByLots := goodIn_r _ [50, 51, 52, 53, 54, 55, 12, 56, 41, 57, 58, 59, 60, 61, 44, 62, 63, 64, 65, 66, 67, 68, 42, 43, 69, 70, 71, 72, 73, 45, 35, 40, 74, 46, 75, 76, 77, 78, 79, 80, 81, 82, 83, 84, 85, 86, 87, 88, 89, 90, 91, 92, 93, 94, 95, 96, 97, 98, 99, 100, 101, 118, 119, 120, 121, 122, 123, 124, 125, 126, 127, 128, 129, 130, 131, 132, 133, 134] (by decide +kernel) (by decide +kernel)
set_option maxRecDepth 20000 in
theorem gX5_odds_X0_goByLots : GoodIn wsX5_odds (wsV RX5 210 RX0 yX0_goByLots wsX0_goByLots) := goodIn_app (goodIn_of _ (by decide +kernel)) ggX5_odds_X0_goByLots
set_option maxRecDepth 20000 in
theorem ggX5_odds_X0_verdict : GoodIn wsX5_odds wsX0_verdict := goodIn_r _ [105, 69, 70, 71, 12, 72, 73, 44, 45, 35, 40, 43, 74, 46, 58, 59, 60, 61, 62, 63, 64, 75, 76, 77, 78, 79, 80, 81, 82, 83, 84, 85, 86, 87, 88, 89, 118, 119, 120, 121, 122, 123, 124, 125, 126, 127, 128, 129, 130, 131, 132, 133, 134] (by decide +kernel) (by decide +kernel)
set_option maxRecDepth 20000 in
theorem gX5_odds_X0_verdict : GoodIn wsX5_odds (wsV RX5 164 RX0 yX0_verdict wsX0_verdict) := goodIn_app (goodIn_of _ (by decide +kernel)) ggX5_odds_X0_verdict
set_option maxRecDepth 20000 in
theorem ggX5_odds_X5_commonDivisor : GoodIn wsX5_odds wsX5_commonDivisor := goodIn_r _ [108, 109, 63, 60, 64] (by decide +kernel) (by decide +kernel)
set_option maxRecDepth 20000 in
theorem gX5_odds_X5_commonDivisor : GoodIn wsX5_odds (va_wsS RX5 215 yX5_commonDivisor wsX5_commonDivisor) := goodIn_app (goodIn_of _ (by decide +kernel)) ggX5_odds_X5_commonDivisor
theorem dX5_odds_0 : decode cX5_odds 0 = .ok (.iload_n 1, 1) := by decide +kernel
theorem dX5_odds_1 : decode cX5_odds 1 = .ok (.ldc 206, 2) := by decide +kernel
theorem dX5_odds_3 : decode cX5_odds 3 = .ok (.invokestatic 86, 3) := by decide +kernel
theorem dX5_odds_6 : decode cX5_odds 6 = .ok (.ifCond .eq 23, 3) := by decide +kernel
theorem dX5_odds_9 : decode cX5_odds 9 = .ok (.iload_n 2, 1) := by decide +kernel
theorem dX5_odds_10 : decode cX5_odds 10 = .ok (.iconst 1, 1) := by decide +kernel
theorem dX5_odds_11 : decode cX5_odds 11 = .ok (.if_icmp .lt 18, 3) := by decide +kernel
theorem dX5_odds_14 : decode cX5_odds 14 = .ok (.iload_n 2, 1) := by decide +kernel
theorem dX5_odds_15 : decode cX5_odds 15 = .ok (.bipush 40, 2) := by decide +kernel
theorem dX5_odds_17 : decode cX5_odds 17 = .ok (.if_icmp .gt 12, 3) := by decide +kernel
theorem dX5_odds_20 : decode cX5_odds 20 = .ok (.iload 6, 2) := by decide +kernel
theorem dX5_odds_22 : decode cX5_odds 22 = .ok (.iconst 1, 1) := by decide +kernel
theorem dX5_odds_23 : decode cX5_odds 23 = .ok (.invokestatic 86, 3) := by decide +kernel
theorem dX5_odds_26 : decode cX5_odds 26 = .ok (.ifCond .ne 7, 3) := by decide +kernel
theorem dX5_odds_29 : decode cX5_odds 29 = .ok (.ldc2_w 213, 3) := by decide +kernel
theorem dX5_odds_32 : decode cX5_odds 32 = .ok (.lreturn, 1) := by decide +kernel
theorem dX5_odds_33 : decode cX5_odds 33 = .ok (.aload_n 0, 1) := by decide +kernel
theorem dX5_odds_34 : decode cX5_odds 34 = .ok (.getfield 28, 3) := by decide +kernel
theorem dX5_odds_37 : decode cX5_odds 37 = .ok (.iload_n 3, 1) := by decide +kernel
theorem dX5_odds_38 : decode cX5_odds 38 = .ok (.iload 4, 2) := by decide +kernel
theorem dX5_odds_40 : decode cX5_odds 40 = .ok (.invokevirtual 137, 3) := by decide +kernel
theorem dX5_odds_43 : decode cX5_odds 43 = .ok (.ifCond .eq 11, 3) := by decide +kernel
theorem dX5_odds_46 : decode cX5_odds 46 = .ok (.iload 5, 2) := by decide +kernel
theorem dX5_odds_48 : decode cX5_odds 48 = .ok (.invokestatic 207, 3) := by decide +kernel
theorem dX5_odds_51 : decode cX5_odds 51 = .ok (.ifCond .ne 7, 3) := by decide +kernel
theorem dX5_odds_54 : decode cX5_odds 54 = .ok (.ldc2_w 213, 3) := by decide +kernel
theorem dX5_odds_57 : decode cX5_odds 57 = .ok (.lreturn, 1) := by decide +kernel
theorem dX5_odds_58 : decode cX5_odds 58 = .ok (.iconst 0, 1) := by decide +kernel
theorem dX5_odds_59 : decode cX5_odds 59 = .ok (.istore 7, 2) := by decide +kernel
theorem dX5_odds_61 : decode cX5_odds 61 = .ok (.iconst 0, 1) := by decide +kernel
theorem dX5_odds_62 : decode cX5_odds 62 = .ok (.istore 8, 2) := by decide +kernel
theorem dX5_odds_64 : decode cX5_odds 64 = .ok (.iload 8, 2) := by decide +kernel
theorem dX5_odds_66 : decode cX5_odds 66 = .ok (.iload_n 2, 1) := by decide +kernel
theorem dX5_odds_67 : decode cX5_odds 67 = .ok (.if_icmp .ge 44, 3) := by decide +kernel
theorem dX5_odds_70 : decode cX5_odds 70 = .ok (.aload_n 0, 1) := by decide +kernel
theorem dX5_odds_71 : decode cX5_odds 71 = .ok (.invokevirtual 143, 3) := by decide +kernel
theorem dX5_odds_74 : decode cX5_odds 74 = .ok (.iload 7, 2) := by decide +kernel
theorem dX5_odds_76 : decode cX5_odds 76 = .ok (.aload_n 0, 1) := by decide +kernel
theorem dX5_odds_77 : decode cX5_odds 77 = .ok (.getfield 32, 3) := by decide +kernel
theorem dX5_odds_80 : decode cX5_odds 80 = .ok (.iload_n 3, 1) := by decide +kernel
theorem dX5_odds_81 : decode cX5_odds 81 = .ok (.iload 4, 2) := by decide +kernel
theorem dX5_odds_83 : decode cX5_odds 83 = .ok (.aload_n 0, 1) := by decide +kernel
theorem dX5_odds_84 : decode cX5_odds 84 = .ok (.getfield 32, 3) := by decide +kernel
theorem dX5_odds_87 : decode cX5_odds 87 = .ok (.iload_n 1, 1) := by decide +kernel
theorem dX5_odds_88 : decode cX5_odds 88 = .ok (.iload 8, 2) := by decide +kernel
theorem dX5_odds_90 : decode cX5_odds 90 = .ok (.iadd, 1) := by decide +kernel
theorem dX5_odds_91 : decode cX5_odds 91 = .ok (.iload_n 3, 1) := by decide +kernel
theorem dX5_odds_92 : decode cX5_odds 92 = .ok (.iload 4, 2) := by decide +kernel
theorem dX5_odds_94 : decode cX5_odds 94 = .ok (.iload 5, 2) := by decide +kernel
theorem dX5_odds_96 : decode cX5_odds 96 = .ok (.invokevirtual 210, 3) := by decide +kernel
theorem dX5_odds_99 : decode cX5_odds 99 = .ok (.invokevirtual 164, 3) := by decide +kernel
theorem dX5_odds_102 : decode cX5_odds 102 = .ok (.iadd, 1) := by decide +kernel
theorem dX5_odds_103 : decode cX5_odds 103 = .ok (.istore 7, 2) := by decide +kernel
theorem dX5_odds_105 : decode cX5_odds 105 = .ok (.iinc 8 1, 3) := by decide +kernel
theorem dX5_odds_108 : decode cX5_odds 108 = .ok (.goto (-44), 3) := by decide +kernel
theorem dX5_odds_111 : decode cX5_odds 111 = .ok (.iload 6, 2) := by decide +kernel
theorem dX5_odds_113 : decode cX5_odds 113 = .ok (.ifCond .ne 8, 3) := by decide +kernel
theorem dX5_odds_116 : decode cX5_odds 116 = .ok (.iload 7, 2) := by decide +kernel
theorem dX5_odds_118 : decode cX5_odds 118 = .ok (.goto 4, 3) := by decide +kernel
theorem dX5_odds_121 : decode cX5_odds 121 = .ok (.iload_n 2, 1) := by decide +kernel
theorem dX5_odds_122 : decode cX5_odds 122 = .ok (.iload 7, 2) := by decide +kernel
theorem dX5_odds_124 : decode cX5_odds 124 = .ok (.iload_n 2, 1) := by decide +kernel
theorem dX5_odds_125 : decode cX5_odds 125 = .ok (.invokestatic 215, 3) := by decide +kernel
theorem dX5_odds_128 : decode cX5_odds 128 = .ok (.idiv, 1) := by decide +kernel
theorem dX5_odds_129 : decode cX5_odds 129 = .ok (.i2l, 1) := by decide +kernel
theorem dX5_odds_130 : decode cX5_odds 130 = .ok (.lreturn, 1) := by decide +kernel
set_option maxRecDepth 20000 in
theorem ggX5_image_X0_become : GoodIn wsX5_image wsX0_become := goodIn_r _ [9, 10, 11, 12, 13, 14, 15, 16, 17, 18, 19, 20, 21, 22, 23, 32, 33, 34, 35, 36, 37, 38, 39, 40, 41, 42, 43] (by decide +kernel) (by decide +kernel)
set_option maxRecDepth 20000 in
theorem gX5_image_X0_become : GoodIn wsX5_image (wsV RX5 218 RX0 yX0_become wsX0_become) := goodIn_app (goodIn_of _ (by decide +kernel)) ggX5_image_X0_become
theorem dX5_image_0 : decode cX5_image 0 = .ok (.aload_n 0, 1) := by decide +kernel
theorem dX5_image_1 : decode cX5_image 1 = .ok (.getfield 35, 3) := by decide +kernel
theorem dX5_image_4 : decode cX5_image 4 = .ok (.aload_n 0, 1) := by decide +kernel
theorem dX5_image_5 : decode cX5_image 5 = .ok (.getfield 28, 3) := by decide +kernel
theorem dX5_image_8 : decode cX5_image 8 = .ok (.invokevirtual 218, 3) := by decide +kernel
theorem dX5_image_11 : decode cX5_image 11 = .ok (.aload_n 0, 1) := by decide +kernel
theorem dX5_image_12 : decode cX5_image 12 = .ok (.iconst 1, 1) := by decide +kernel
theorem dX5_image_13 : decode cX5_image 13 = .ok (.putfield 221, 3) := by decide +kernel
theorem dX5_image_16 : decode cX5_image 16 = .ok (.aload_n 0, 1) := by decide +kernel
theorem dX5_image_17 : decode cX5_image 17 = .ok (.getfield 28, 3) := by decide +kernel
theorem dX5_image_20 : decode cX5_image 20 = .ok (.getfield 71, 3) := by decide +kernel
theorem dX5_image_23 : decode cX5_image 23 = .ok (.ireturn, 1) := by decide +kernel
set_option maxRecDepth 20000 in
theorem ggX5_back_X0_become : GoodIn wsX5_back wsX0_become := goodIn_r _ [9, 10, 11, 12, 13, 14, 15, 16, 17, 18, 19, 20, 21, 22, 23, 32, 33, 34, 35, 36, 37, 38, 39, 40, 41, 42, 43] (by decide +kernel) (by decide +kernel)
set_option maxRecDepth 20000 in
theorem gX5_back_X0_become : GoodIn wsX5_back (wsV RX5 218 RX0 yX0_become wsX0_become) := goodIn_app (goodIn_of _ (by decide +kernel)) ggX5_back_X0_become
theorem dX5_back_0 : decode cX5_back 0 = .ok (.aload_n 0, 1) := by decide +kernel
theorem dX5_back_1 : decode cX5_back 1 = .ok (.getfield 221, 3) := by decide +kernel
theorem dX5_back_4 : decode cX5_back 4 = .ok (.ifCond .ne 6, 3) := by decide +kernel
theorem dX5_back_7 : decode cX5_back 7 = .ok (.bipush (-3), 2) := by decide +kernel
theorem dX5_back_9 : decode cX5_back 9 = .ok (.ireturn, 1) := by decide +kernel
theorem dX5_back_10 : decode cX5_back 10 = .ok (.aload_n 0, 1) := by decide +kernel
theorem dX5_back_11 : decode cX5_back 11 = .ok (.getfield 28, 3) := by decide +kernel
theorem dX5_back_14 : decode cX5_back 14 = .ok (.aload_n 0, 1) := by decide +kernel
theorem dX5_back_15 : decode cX5_back 15 = .ok (.getfield 35, 3) := by decide +kernel
theorem dX5_back_18 : decode cX5_back 18 = .ok (.invokevirtual 218, 3) := by decide +kernel
theorem dX5_back_21 : decode cX5_back 21 = .ok (.aload_n 0, 1) := by decide +kernel
theorem dX5_back_22 : decode cX5_back 22 = .ok (.getfield 28, 3) := by decide +kernel
theorem dX5_back_25 : decode cX5_back 25 = .ok (.getfield 71, 3) := by decide +kernel
theorem dX5_back_28 : decode cX5_back 28 = .ok (.ireturn, 1) := by decide +kernel
set_option maxRecDepth 20000 in
theorem ggX5_sheet_X2_isSheet : GoodIn wsX5_sheet wsX2_isSheet := goodIn_r _ [6, 7, 8, 9] (by decide +kernel) (by decide +kernel)
set_option maxRecDepth 20000 in
theorem gX5_sheet_X2_isSheet : GoodIn wsX5_sheet (wsV RX5 196 RX2 yX2_isSheet wsX2_isSheet) := goodIn_app (goodIn_of _ (by decide +kernel)) ggX5_sheet_X2_isSheet
set_option maxRecDepth 20000 in
theorem ggX5_sheet_X2_become : GoodIn wsX5_sheet wsX2_become := goodIn_r _ [13, 14, 15, 16, 17, 18, 19, 20, 29, 30, 31] (by decide +kernel) (by decide +kernel)
set_option maxRecDepth 20000 in
theorem gX5_sheet_X2_become : GoodIn wsX5_sheet (wsV RX5 199 RX2 yX2_become wsX2_become) := goodIn_app (goodIn_of _ (by decide +kernel)) ggX5_sheet_X2_become
theorem dX5_sheet_0 : decode cX5_sheet 0 = .ok (.aload_n 0, 1) := by decide +kernel
theorem dX5_sheet_1 : decode cX5_sheet 1 = .ok (.getfield 41, 3) := by decide +kernel
theorem dX5_sheet_4 : decode cX5_sheet 4 = .ok (.iload_n 1, 1) := by decide +kernel
theorem dX5_sheet_5 : decode cX5_sheet 5 = .ok (.invokevirtual 196, 3) := by decide +kernel
theorem dX5_sheet_8 : decode cX5_sheet 8 = .ok (.ifCond .eq 13, 3) := by decide +kernel
theorem dX5_sheet_11 : decode cX5_sheet 11 = .ok (.iload_n 2, 1) := by decide +kernel
theorem dX5_sheet_12 : decode cX5_sheet 12 = .ok (.iconst (-1), 1) := by decide +kernel
theorem dX5_sheet_13 : decode cX5_sheet 13 = .ok (.if_icmp .lt 8, 3) := by decide +kernel
theorem dX5_sheet_16 : decode cX5_sheet 16 = .ok (.iload_n 2, 1) := by decide +kernel
theorem dX5_sheet_17 : decode cX5_sheet 17 = .ok (.iconst 2, 1) := by decide +kernel
theorem dX5_sheet_18 : decode cX5_sheet 18 = .ok (.if_icmp .le 6, 3) := by decide +kernel
theorem dX5_sheet_21 : decode cX5_sheet 21 = .ok (.bipush (-2), 2) := by decide +kernel
theorem dX5_sheet_23 : decode cX5_sheet 23 = .ok (.ireturn, 1) := by decide +kernel
theorem dX5_sheet_24 : decode cX5_sheet 24 = .ok (.iload_n 2, 1) := by decide +kernel
theorem dX5_sheet_25 : decode cX5_sheet 25 = .ok (.iconst (-1), 1) := by decide +kernel
theorem dX5_sheet_26 : decode cX5_sheet 26 = .ok (.if_icmp .ne 15, 3) := by decide +kernel
theorem dX5_sheet_29 : decode cX5_sheet 29 = .ok (.aload_n 0, 1) := by decide +kernel
theorem dX5_sheet_30 : decode cX5_sheet 30 = .ok (.getfield 41, 3) := by decide +kernel
theorem dX5_sheet_33 : decode cX5_sheet 33 = .ok (.iload_n 1, 1) := by decide +kernel
theorem dX5_sheet_34 : decode cX5_sheet 34 = .ok (.iconst (-1), 1) := by decide +kernel
theorem dX5_sheet_35 : decode cX5_sheet 35 = .ok (.iconst 0, 1) := by decide +kernel
theorem dX5_sheet_36 : decode cX5_sheet 36 = .ok (.invokevirtual 199, 3) := by decide +kernel
theorem dX5_sheet_39 : decode cX5_sheet 39 = .ok (.iconst 1, 1) := by decide +kernel
theorem dX5_sheet_40 : decode cX5_sheet 40 = .ok (.ireturn, 1) := by decide +kernel
theorem dX5_sheet_41 : decode cX5_sheet 41 = .ok (.iload_n 3, 1) := by decide +kernel
theorem dX5_sheet_42 : decode cX5_sheet 42 = .ok (.bipush 40, 2) := by decide +kernel
theorem dX5_sheet_44 : decode cX5_sheet 44 = .ok (.if_icmp .le 6, 3) := by decide +kernel
theorem dX5_sheet_47 : decode cX5_sheet 47 = .ok (.bipush (-2), 2) := by decide +kernel
theorem dX5_sheet_49 : decode cX5_sheet 49 = .ok (.ireturn, 1) := by decide +kernel
theorem dX5_sheet_50 : decode cX5_sheet 50 = .ok (.iload_n 3, 1) := by decide +kernel
theorem dX5_sheet_51 : decode cX5_sheet 51 = .ok (.ifCond .ge 6, 3) := by decide +kernel
theorem dX5_sheet_54 : decode cX5_sheet 54 = .ok (.bipush (-14), 2) := by decide +kernel
theorem dX5_sheet_56 : decode cX5_sheet 56 = .ok (.ireturn, 1) := by decide +kernel
theorem dX5_sheet_57 : decode cX5_sheet 57 = .ok (.aload_n 0, 1) := by decide +kernel
theorem dX5_sheet_58 : decode cX5_sheet 58 = .ok (.getfield 41, 3) := by decide +kernel
theorem dX5_sheet_61 : decode cX5_sheet 61 = .ok (.iload_n 1, 1) := by decide +kernel
theorem dX5_sheet_62 : decode cX5_sheet 62 = .ok (.iload_n 2, 1) := by decide +kernel
theorem dX5_sheet_63 : decode cX5_sheet 63 = .ok (.iload_n 3, 1) := by decide +kernel
theorem dX5_sheet_64 : decode cX5_sheet 64 = .ok (.invokevirtual 199, 3) := by decide +kernel
theorem dX5_sheet_67 : decode cX5_sheet 67 = .ok (.iconst 1, 1) := by decide +kernel
theorem dX5_sheet_68 : decode cX5_sheet 68 = .ok (.ireturn, 1) := by decide +kernel
set_option maxRecDepth 20000 in
theorem ggX5_cell_X2_isSheet : GoodIn wsX5_cell wsX2_isSheet := goodIn_r _ [8, 9, 10, 11] (by decide +kernel) (by decide +kernel)
set_option maxRecDepth 20000 in
theorem gX5_cell_X2_isSheet : GoodIn wsX5_cell (wsV RX5 196 RX2 yX2_isSheet wsX2_isSheet) := goodIn_app (goodIn_of _ (by decide +kernel)) ggX5_cell_X2_isSheet
set_option maxRecDepth 20000 in
theorem ggX5_cell_X2_store : GoodIn wsX5_cell wsX2_store := goodIn_r _ [15, 16, 17, 26, 27, 28] (by decide +kernel) (by decide +kernel)
set_option maxRecDepth 20000 in
theorem gX5_cell_X2_store : GoodIn wsX5_cell (wsV RX5 203 RX2 yX2_store wsX2_store) := goodIn_app (goodIn_of _ (by decide +kernel)) ggX5_cell_X2_store
theorem dX5_cell_0 : decode cX5_cell 0 = .ok (.aload_n 0, 1) := by decide +kernel
theorem dX5_cell_1 : decode cX5_cell 1 = .ok (.getfield 41, 3) := by decide +kernel
theorem dX5_cell_4 : decode cX5_cell 4 = .ok (.iload_n 1, 1) := by decide +kernel
theorem dX5_cell_5 : decode cX5_cell 5 = .ok (.invokevirtual 196, 3) := by decide +kernel
theorem dX5_cell_8 : decode cX5_cell 8 = .ok (.ifCond .ne 6, 3) := by decide +kernel
theorem dX5_cell_11 : decode cX5_cell 11 = .ok (.bipush (-2), 2) := by decide +kernel
theorem dX5_cell_13 : decode cX5_cell 13 = .ok (.ireturn, 1) := by decide +kernel
theorem dX5_cell_14 : decode cX5_cell 14 = .ok (.aload_n 0, 1) := by decide +kernel
theorem dX5_cell_15 : decode cX5_cell 15 = .ok (.getfield 41, 3) := by decide +kernel
theorem dX5_cell_18 : decode cX5_cell 18 = .ok (.getfield 225, 3) := by decide +kernel
theorem dX5_cell_21 : decode cX5_cell 21 = .ok (.iload_n 1, 1) := by decide +kernel
theorem dX5_cell_22 : decode cX5_cell 22 = .ok (.iaload, 1) := by decide +kernel
theorem dX5_cell_23 : decode cX5_cell 23 = .ok (.iconst (-1), 1) := by decide +kernel
theorem dX5_cell_24 : decode cX5_cell 24 = .ok (.if_icmp .ne 6, 3) := by decide +kernel
theorem dX5_cell_27 : decode cX5_cell 27 = .ok (.bipush (-11), 2) := by decide +kernel
theorem dX5_cell_29 : decode cX5_cell 29 = .ok (.ireturn, 1) := by decide +kernel
theorem dX5_cell_30 : decode cX5_cell 30 = .ok (.iload_n 2, 1) := by decide +kernel
theorem dX5_cell_31 : decode cX5_cell 31 = .ok (.ifCond .lt 16, 3) := by decide +kernel
theorem dX5_cell_34 : decode cX5_cell 34 = .ok (.iload_n 2, 1) := by decide +kernel
theorem dX5_cell_35 : decode cX5_cell 35 = .ok (.aload_n 0, 1) := by decide +kernel
theorem dX5_cell_36 : decode cX5_cell 36 = .ok (.getfield 41, 3) := by decide +kernel
theorem dX5_cell_39 : decode cX5_cell 39 = .ok (.getfield 228, 3) := by decide +kernel
theorem dX5_cell_42 : decode cX5_cell 42 = .ok (.iload_n 1, 1) := by decide +kernel
theorem dX5_cell_43 : decode cX5_cell 43 = .ok (.iaload, 1) := by decide +kernel
theorem dX5_cell_44 : decode cX5_cell 44 = .ok (.if_icmp .lt 6, 3) := by decide +kernel
theorem dX5_cell_47 : decode cX5_cell 47 = .ok (.bipush (-12), 2) := by decide +kernel
theorem dX5_cell_49 : decode cX5_cell 49 = .ok (.ireturn, 1) := by decide +kernel
theorem dX5_cell_50 : decode cX5_cell 50 = .ok (.aload_n 0, 1) := by decide +kernel
theorem dX5_cell_51 : decode cX5_cell 51 = .ok (.getfield 41, 3) := by decide +kernel
theorem dX5_cell_54 : decode cX5_cell 54 = .ok (.iload_n 1, 1) := by decide +kernel
theorem dX5_cell_55 : decode cX5_cell 55 = .ok (.iload_n 2, 1) := by decide +kernel
theorem dX5_cell_56 : decode cX5_cell 56 = .ok (.iload_n 3, 1) := by decide +kernel
theorem dX5_cell_57 : decode cX5_cell 57 = .ok (.invokevirtual 203, 3) := by decide +kernel
theorem dX5_cell_60 : decode cX5_cell 60 = .ok (.iconst 1, 1) := by decide +kernel
theorem dX5_cell_61 : decode cX5_cell 61 = .ok (.ireturn, 1) := by decide +kernel
set_option maxRecDepth 20000 in
theorem ggX5_copy_X2_isSheet : GoodIn wsX5_copy wsX2_isSheet := goodIn_r _ [12, 13, 14, 15] (by decide +kernel) (by decide +kernel)
set_option maxRecDepth 20000 in
theorem gX5_copy_X2_isSheet : GoodIn wsX5_copy (wsV RX5 196 RX2 yX2_isSheet wsX2_isSheet) := goodIn_app (goodIn_of _ (by decide +kernel)) ggX5_copy_X2_isSheet
set_option maxRecDepth 20000 in
theorem ggX5_copy_X2_holds : GoodIn wsX5_copy wsX2_holds := goodIn_r _ [19, 20, 29, 30, 31] (by decide +kernel) (by decide +kernel)
set_option maxRecDepth 20000 in
theorem gX5_copy_X2_holds : GoodIn wsX5_copy (wsV RX5 231 RX2 yX2_holds wsX2_holds) := goodIn_app (goodIn_of _ (by decide +kernel)) ggX5_copy_X2_holds
theorem dX5_copy_0 : decode cX5_copy 0 = .ok (.aload_n 0, 1) := by decide +kernel
theorem dX5_copy_1 : decode cX5_copy 1 = .ok (.getfield 41, 3) := by decide +kernel
theorem dX5_copy_4 : decode cX5_copy 4 = .ok (.iload_n 1, 1) := by decide +kernel
theorem dX5_copy_5 : decode cX5_copy 5 = .ok (.invokevirtual 196, 3) := by decide +kernel
theorem dX5_copy_8 : decode cX5_copy 8 = .ok (.ifCond .eq 14, 3) := by decide +kernel
theorem dX5_copy_11 : decode cX5_copy 11 = .ok (.aload_n 0, 1) := by decide +kernel
theorem dX5_copy_12 : decode cX5_copy 12 = .ok (.getfield 41, 3) := by decide +kernel
theorem dX5_copy_15 : decode cX5_copy 15 = .ok (.iload_n 3, 1) := by decide +kernel
theorem dX5_copy_16 : decode cX5_copy 16 = .ok (.invokevirtual 196, 3) := by decide +kernel
theorem dX5_copy_19 : decode cX5_copy 19 = .ok (.ifCond .ne 6, 3) := by decide +kernel
theorem dX5_copy_22 : decode cX5_copy 22 = .ok (.bipush (-2), 2) := by decide +kernel
theorem dX5_copy_24 : decode cX5_copy 24 = .ok (.ireturn, 1) := by decide +kernel
theorem dX5_copy_25 : decode cX5_copy 25 = .ok (.aload_n 0, 1) := by decide +kernel
theorem dX5_copy_26 : decode cX5_copy 26 = .ok (.getfield 41, 3) := by decide +kernel
theorem dX5_copy_29 : decode cX5_copy 29 = .ok (.getfield 225, 3) := by decide +kernel
theorem dX5_copy_32 : decode cX5_copy 32 = .ok (.iload_n 1, 1) := by decide +kernel
theorem dX5_copy_33 : decode cX5_copy 33 = .ok (.iaload, 1) := by decide +kernel
theorem dX5_copy_34 : decode cX5_copy 34 = .ok (.iconst (-1), 1) := by decide +kernel
theorem dX5_copy_35 : decode cX5_copy 35 = .ok (.if_icmp .eq 16, 3) := by decide +kernel
theorem dX5_copy_38 : decode cX5_copy 38 = .ok (.aload_n 0, 1) := by decide +kernel
theorem dX5_copy_39 : decode cX5_copy 39 = .ok (.getfield 41, 3) := by decide +kernel
theorem dX5_copy_42 : decode cX5_copy 42 = .ok (.getfield 225, 3) := by decide +kernel
theorem dX5_copy_45 : decode cX5_copy 45 = .ok (.iload_n 3, 1) := by decide +kernel
theorem dX5_copy_46 : decode cX5_copy 46 = .ok (.iaload, 1) := by decide +kernel
theorem dX5_copy_47 : decode cX5_copy 47 = .ok (.iconst (-1), 1) := by decide +kernel
theorem dX5_copy_48 : decode cX5_copy 48 = .ok (.if_icmp .ne 6, 3) := by decide +kernel
theorem dX5_copy_51 : decode cX5_copy 51 = .ok (.bipush (-11), 2) := by decide +kernel
theorem dX5_copy_53 : decode cX5_copy 53 = .ok (.ireturn, 1) := by decide +kernel
theorem dX5_copy_54 : decode cX5_copy 54 = .ok (.aload_n 0, 1) := by decide +kernel
theorem dX5_copy_55 : decode cX5_copy 55 = .ok (.getfield 41, 3) := by decide +kernel
theorem dX5_copy_58 : decode cX5_copy 58 = .ok (.getfield 225, 3) := by decide +kernel
theorem dX5_copy_61 : decode cX5_copy 61 = .ok (.iload_n 1, 1) := by decide +kernel
theorem dX5_copy_62 : decode cX5_copy 62 = .ok (.iaload, 1) := by decide +kernel
theorem dX5_copy_63 : decode cX5_copy 63 = .ok (.aload_n 0, 1) := by decide +kernel
theorem dX5_copy_64 : decode cX5_copy 64 = .ok (.getfield 41, 3) := by decide +kernel
theorem dX5_copy_67 : decode cX5_copy 67 = .ok (.getfield 225, 3) := by decide +kernel
theorem dX5_copy_70 : decode cX5_copy 70 = .ok (.iload_n 3, 1) := by decide +kernel
theorem dX5_copy_71 : decode cX5_copy 71 = .ok (.iaload, 1) := by decide +kernel
theorem dX5_copy_72 : decode cX5_copy 72 = .ok (.if_icmp .eq 6, 3) := by decide +kernel
theorem dX5_copy_75 : decode cX5_copy 75 = .ok (.bipush (-13), 2) := by decide +kernel
theorem dX5_copy_77 : decode cX5_copy 77 = .ok (.ireturn, 1) := by decide +kernel
theorem dX5_copy_78 : decode cX5_copy 78 = .ok (.aload_n 0, 1) := by decide +kernel
theorem dX5_copy_79 : decode cX5_copy 79 = .ok (.getfield 41, 3) := by decide +kernel
theorem dX5_copy_82 : decode cX5_copy 82 = .ok (.iload_n 1, 1) := by decide +kernel
theorem dX5_copy_83 : decode cX5_copy 83 = .ok (.iload_n 2, 1) := by decide +kernel
theorem dX5_copy_84 : decode cX5_copy 84 = .ok (.iload 5, 2) := by decide +kernel
theorem dX5_copy_86 : decode cX5_copy 86 = .ok (.invokevirtual 231, 3) := by decide +kernel
theorem dX5_copy_89 : decode cX5_copy 89 = .ok (.ifCond .eq 18, 3) := by decide +kernel
theorem dX5_copy_92 : decode cX5_copy 92 = .ok (.aload_n 0, 1) := by decide +kernel
theorem dX5_copy_93 : decode cX5_copy 93 = .ok (.getfield 41, 3) := by decide +kernel
theorem dX5_copy_96 : decode cX5_copy 96 = .ok (.iload_n 3, 1) := by decide +kernel
theorem dX5_copy_97 : decode cX5_copy 97 = .ok (.iload 4, 2) := by decide +kernel
theorem dX5_copy_99 : decode cX5_copy 99 = .ok (.iload 5, 2) := by decide +kernel
theorem dX5_copy_101 : decode cX5_copy 101 = .ok (.invokevirtual 231, 3) := by decide +kernel
theorem dX5_copy_104 : decode cX5_copy 104 = .ok (.ifCond .ne 6, 3) := by decide +kernel
theorem dX5_copy_107 : decode cX5_copy 107 = .ok (.bipush (-12), 2) := by decide +kernel
theorem dX5_copy_109 : decode cX5_copy 109 = .ok (.ireturn, 1) := by decide +kernel
theorem dX5_copy_110 : decode cX5_copy 110 = .ok (.aload_n 0, 1) := by decide +kernel
theorem dX5_copy_111 : decode cX5_copy 111 = .ok (.getfield 41, 3) := by decide +kernel
theorem dX5_copy_114 : decode cX5_copy 114 = .ok (.getfield 235, 3) := by decide +kernel
theorem dX5_copy_117 : decode cX5_copy 117 = .ok (.iload_n 1, 1) := by decide +kernel
theorem dX5_copy_118 : decode cX5_copy 118 = .ok (.aaload, 1) := by decide +kernel
theorem dX5_copy_119 : decode cX5_copy 119 = .ok (.iload_n 2, 1) := by decide +kernel
theorem dX5_copy_120 : decode cX5_copy 120 = .ok (.aload_n 0, 1) := by decide +kernel
theorem dX5_copy_121 : decode cX5_copy 121 = .ok (.getfield 41, 3) := by decide +kernel
theorem dX5_copy_124 : decode cX5_copy 124 = .ok (.getfield 235, 3) := by decide +kernel
theorem dX5_copy_127 : decode cX5_copy 127 = .ok (.iload_n 3, 1) := by decide +kernel
theorem dX5_copy_128 : decode cX5_copy 128 = .ok (.aaload, 1) := by decide +kernel
theorem dX5_copy_129 : decode cX5_copy 129 = .ok (.iload 4, 2) := by decide +kernel
theorem dX5_copy_131 : decode cX5_copy 131 = .ok (.iload 5, 2) := by decide +kernel
theorem dX5_copy_133 : decode cX5_copy 133 = .ok (.invokestatic 239, 3) := by decide +kernel
theorem dX5_copy_136 : decode cX5_copy 136 = .ok (.iload 5, 2) := by decide +kernel
theorem dX5_copy_138 : decode cX5_copy 138 = .ok (.ireturn, 1) := by decide +kernel
set_option maxRecDepth 20000 in
theorem ggX5_pebblesBy_X2_isSheet : GoodIn wsX5_pebblesBy wsX2_isSheet := goodIn_r _ [8, 9, 10, 11] (by decide +kernel) (by decide +kernel)
set_option maxRecDepth 20000 in
theorem gX5_pebblesBy_X2_isSheet : GoodIn wsX5_pebblesBy (wsV RX5 196 RX2 yX2_isSheet wsX2_isSheet) := goodIn_app (goodIn_of _ (by decide +kernel)) ggX5_pebblesBy_X2_isSheet
set_option maxRecDepth 20000 in
theorem ggX5_pebblesBy_X5_within : GoodIn wsX5_pebblesBy wsX5_within := goodIn_r _ [11] (by decide +kernel) (by decide +kernel)
set_option maxRecDepth 20000 in
theorem gX5_pebblesBy_X5_within : GoodIn wsX5_pebblesBy (va_wsS RX5 86 yX5_within wsX5_within) := goodIn_app (goodIn_of _ (by decide +kernel)) ggX5_pebblesBy_X5_within
set_option maxRecDepth 20000 in
theorem ggX5_pebblesBy_X2_holds : GoodIn wsX5_pebblesBy wsX2_holds := goodIn_r _ [16, 17, 41, 42, 43] (by decide +kernel) (by decide +kernel)
set_option maxRecDepth 20000 in
theorem gX5_pebblesBy_X2_holds : GoodIn wsX5_pebblesBy (wsV RX5 231 RX2 yX2_holds wsX2_holds) := goodIn_app (goodIn_of _ (by decide +kernel)) ggX5_pebblesBy_X2_holds
set_option maxRecDepth 20000 in
theorem ggX5_pebblesBy_X5_pebble : GoodIn wsX5_pebblesBy wsX5_pebble := goodIn_r _ [21, 22, 12, 9, 10, 11, 23, 24, 25, 26, 27, 28, 29, 30, 31, 32, 33, 34, 35, 36, 37, 38, 39, 40, 44, 45, 46, 47, 48, 49, 50, 51, 52, 53, 54, 55] (by decide +kernel) (by decide +kernel)
set_option maxRecDepth 20000 in
theorem gX5_pebblesBy_X5_pebble : GoodIn wsX5_pebblesBy (wsV RX5 245 RX5 yX5_pebble wsX5_pebble) := goodIn_app (goodIn_of _ (by decide +kernel)) ggX5_pebblesBy_X5_pebble
theorem dX5_pebblesBy_0 : decode cX5_pebblesBy 0 = .ok (.aload_n 0, 1) := by decide +kernel
theorem dX5_pebblesBy_1 : decode cX5_pebblesBy 1 = .ok (.getfield 41, 3) := by decide +kernel
theorem dX5_pebblesBy_4 : decode cX5_pebblesBy 4 = .ok (.iload_n 1, 1) := by decide +kernel
theorem dX5_pebblesBy_5 : decode cX5_pebblesBy 5 = .ok (.invokevirtual 196, 3) := by decide +kernel
theorem dX5_pebblesBy_8 : decode cX5_pebblesBy 8 = .ok (.ifCond .eq 21, 3) := by decide +kernel
theorem dX5_pebblesBy_11 : decode cX5_pebblesBy 11 = .ok (.iload_n 2, 1) := by decide +kernel
theorem dX5_pebblesBy_12 : decode cX5_pebblesBy 12 = .ok (.iconst 2, 1) := by decide +kernel
theorem dX5_pebblesBy_13 : decode cX5_pebblesBy 13 = .ok (.invokestatic 86, 3) := by decide +kernel
theorem dX5_pebblesBy_16 : decode cX5_pebblesBy 16 = .ok (.ifCond .eq 13, 3) := by decide +kernel
theorem dX5_pebblesBy_19 : decode cX5_pebblesBy 19 = .ok (.iload 4, 2) := by decide +kernel
theorem dX5_pebblesBy_21 : decode cX5_pebblesBy 21 = .ok (.bipush 6, 2) := by decide +kernel
theorem dX5_pebblesBy_23 : decode cX5_pebblesBy 23 = .ok (.invokestatic 86, 3) := by decide +kernel
theorem dX5_pebblesBy_26 : decode cX5_pebblesBy 26 = .ok (.ifCond .ne 6, 3) := by decide +kernel
theorem dX5_pebblesBy_29 : decode cX5_pebblesBy 29 = .ok (.bipush (-2), 2) := by decide +kernel
theorem dX5_pebblesBy_31 : decode cX5_pebblesBy 31 = .ok (.ireturn, 1) := by decide +kernel
theorem dX5_pebblesBy_32 : decode cX5_pebblesBy 32 = .ok (.aload_n 0, 1) := by decide +kernel
theorem dX5_pebblesBy_33 : decode cX5_pebblesBy 33 = .ok (.getfield 41, 3) := by decide +kernel
theorem dX5_pebblesBy_36 : decode cX5_pebblesBy 36 = .ok (.getfield 225, 3) := by decide +kernel
theorem dX5_pebblesBy_39 : decode cX5_pebblesBy 39 = .ok (.iload_n 1, 1) := by decide +kernel
theorem dX5_pebblesBy_40 : decode cX5_pebblesBy 40 = .ok (.iaload, 1) := by decide +kernel
theorem dX5_pebblesBy_41 : decode cX5_pebblesBy 41 = .ok (.iconst (-1), 1) := by decide +kernel
theorem dX5_pebblesBy_42 : decode cX5_pebblesBy 42 = .ok (.if_icmp .ne 6, 3) := by decide +kernel
theorem dX5_pebblesBy_45 : decode cX5_pebblesBy 45 = .ok (.bipush (-11), 2) := by decide +kernel
theorem dX5_pebblesBy_47 : decode cX5_pebblesBy 47 = .ok (.ireturn, 1) := by decide +kernel
theorem dX5_pebblesBy_48 : decode cX5_pebblesBy 48 = .ok (.aload_n 0, 1) := by decide +kernel
theorem dX5_pebblesBy_49 : decode cX5_pebblesBy 49 = .ok (.getfield 41, 3) := by decide +kernel
theorem dX5_pebblesBy_52 : decode cX5_pebblesBy 52 = .ok (.getfield 225, 3) := by decide +kernel
theorem dX5_pebblesBy_55 : decode cX5_pebblesBy 55 = .ok (.iload_n 1, 1) := by decide +kernel
theorem dX5_pebblesBy_56 : decode cX5_pebblesBy 56 = .ok (.iaload, 1) := by decide +kernel
theorem dX5_pebblesBy_57 : decode cX5_pebblesBy 57 = .ok (.iload_n 2, 1) := by decide +kernel
theorem dX5_pebblesBy_58 : decode cX5_pebblesBy 58 = .ok (.if_icmp .eq 6, 3) := by decide +kernel
theorem dX5_pebblesBy_61 : decode cX5_pebblesBy 61 = .ok (.bipush (-13), 2) := by decide +kernel
theorem dX5_pebblesBy_63 : decode cX5_pebblesBy 63 = .ok (.ireturn, 1) := by decide +kernel
theorem dX5_pebblesBy_64 : decode cX5_pebblesBy 64 = .ok (.iconst 0, 1) := by decide +kernel
theorem dX5_pebblesBy_65 : decode cX5_pebblesBy 65 = .ok (.istore 5, 2) := by decide +kernel
theorem dX5_pebblesBy_67 : decode cX5_pebblesBy 67 = .ok (.iconst 0, 1) := by decide +kernel
theorem dX5_pebblesBy_68 : decode cX5_pebblesBy 68 = .ok (.istore 6, 2) := by decide +kernel
theorem dX5_pebblesBy_70 : decode cX5_pebblesBy 70 = .ok (.iload 6, 2) := by decide +kernel
theorem dX5_pebblesBy_72 : decode cX5_pebblesBy 72 = .ok (.iload 4, 2) := by decide +kernel
theorem dX5_pebblesBy_74 : decode cX5_pebblesBy 74 = .ok (.if_icmp .ge 70, 3) := by decide +kernel
theorem dX5_pebblesBy_77 : decode cX5_pebblesBy 77 = .ok (.iload_n 3, 1) := by decide +kernel
theorem dX5_pebblesBy_78 : decode cX5_pebblesBy 78 = .ok (.iconst 2, 1) := by decide +kernel
theorem dX5_pebblesBy_79 : decode cX5_pebblesBy 79 = .ok (.iload 6, 2) := by decide +kernel
theorem dX5_pebblesBy_81 : decode cX5_pebblesBy 81 = .ok (.imul, 1) := by decide +kernel
theorem dX5_pebblesBy_82 : decode cX5_pebblesBy 82 = .ok (.iadd, 1) := by decide +kernel
theorem dX5_pebblesBy_83 : decode cX5_pebblesBy 83 = .ok (.istore 7, 2) := by decide +kernel
theorem dX5_pebblesBy_85 : decode cX5_pebblesBy 85 = .ok (.aload_n 0, 1) := by decide +kernel
theorem dX5_pebblesBy_86 : decode cX5_pebblesBy 86 = .ok (.getfield 41, 3) := by decide +kernel
theorem dX5_pebblesBy_89 : decode cX5_pebblesBy 89 = .ok (.iload_n 1, 1) := by decide +kernel
theorem dX5_pebblesBy_90 : decode cX5_pebblesBy 90 = .ok (.iload 7, 2) := by decide +kernel
theorem dX5_pebblesBy_92 : decode cX5_pebblesBy 92 = .ok (.iconst 2, 1) := by decide +kernel
theorem dX5_pebblesBy_93 : decode cX5_pebblesBy 93 = .ok (.invokevirtual 231, 3) := by decide +kernel
theorem dX5_pebblesBy_96 : decode cX5_pebblesBy 96 = .ok (.ifCond .ne 6, 3) := by decide +kernel
theorem dX5_pebblesBy_99 : decode cX5_pebblesBy 99 = .ok (.bipush (-12), 2) := by decide +kernel
theorem dX5_pebblesBy_101 : decode cX5_pebblesBy 101 = .ok (.ireturn, 1) := by decide +kernel
theorem dX5_pebblesBy_102 : decode cX5_pebblesBy 102 = .ok (.aload_n 0, 1) := by decide +kernel
theorem dX5_pebblesBy_103 : decode cX5_pebblesBy 103 = .ok (.aload_n 0, 1) := by decide +kernel
theorem dX5_pebblesBy_104 : decode cX5_pebblesBy 104 = .ok (.getfield 41, 3) := by decide +kernel
theorem dX5_pebblesBy_107 : decode cX5_pebblesBy 107 = .ok (.getfield 235, 3) := by decide +kernel
theorem dX5_pebblesBy_110 : decode cX5_pebblesBy 110 = .ok (.iload_n 1, 1) := by decide +kernel
theorem dX5_pebblesBy_111 : decode cX5_pebblesBy 111 = .ok (.aaload, 1) := by decide +kernel
theorem dX5_pebblesBy_112 : decode cX5_pebblesBy 112 = .ok (.iload 7, 2) := by decide +kernel
theorem dX5_pebblesBy_114 : decode cX5_pebblesBy 114 = .ok (.iaload, 1) := by decide +kernel
theorem dX5_pebblesBy_115 : decode cX5_pebblesBy 115 = .ok (.aload_n 0, 1) := by decide +kernel
theorem dX5_pebblesBy_116 : decode cX5_pebblesBy 116 = .ok (.getfield 41, 3) := by decide +kernel
theorem dX5_pebblesBy_119 : decode cX5_pebblesBy 119 = .ok (.getfield 235, 3) := by decide +kernel
theorem dX5_pebblesBy_122 : decode cX5_pebblesBy 122 = .ok (.iload_n 1, 1) := by decide +kernel
theorem dX5_pebblesBy_123 : decode cX5_pebblesBy 123 = .ok (.aaload, 1) := by decide +kernel
theorem dX5_pebblesBy_124 : decode cX5_pebblesBy 124 = .ok (.iload 7, 2) := by decide +kernel
theorem dX5_pebblesBy_126 : decode cX5_pebblesBy 126 = .ok (.iconst 1, 1) := by decide +kernel
theorem dX5_pebblesBy_127 : decode cX5_pebblesBy 127 = .ok (.iadd, 1) := by decide +kernel
theorem dX5_pebblesBy_128 : decode cX5_pebblesBy 128 = .ok (.iaload, 1) := by decide +kernel
theorem dX5_pebblesBy_129 : decode cX5_pebblesBy 129 = .ok (.invokevirtual 245, 3) := by decide +kernel
theorem dX5_pebblesBy_132 : decode cX5_pebblesBy 132 = .ok (.ifCond .lt 6, 3) := by decide +kernel
theorem dX5_pebblesBy_135 : decode cX5_pebblesBy 135 = .ok (.iinc 5 1, 3) := by decide +kernel
theorem dX5_pebblesBy_138 : decode cX5_pebblesBy 138 = .ok (.iinc 6 1, 3) := by decide +kernel
theorem dX5_pebblesBy_141 : decode cX5_pebblesBy 141 = .ok (.goto (-71), 3) := by decide +kernel
theorem dX5_pebblesBy_144 : decode cX5_pebblesBy 144 = .ok (.iload 5, 2) := by decide +kernel
theorem dX5_pebblesBy_146 : decode cX5_pebblesBy 146 = .ok (.ireturn, 1) := by decide +kernel
set_option maxRecDepth 20000 in
theorem ggX5_taken_X5_within : GoodIn wsX5_taken wsX5_within := goodIn_r _ [11] (by decide +kernel) (by decide +kernel)
set_option maxRecDepth 20000 in
theorem gX5_taken_X5_within : GoodIn wsX5_taken (va_wsS RX5 86 yX5_within wsX5_within) := goodIn_app (goodIn_of _ (by decide +kernel)) ggX5_taken_X5_within
set_option maxRecDepth 20000 in
theorem ggX5_taken_X0_hasJudge : GoodIn wsX5_taken wsX0_hasJudge := goodIn_r _ [16, 17, 34, 35, 36, 37, 38, 39, 40, 41, 42, 43, 44, 45] (by decide +kernel) (by decide +kernel)
set_option maxRecDepth 20000 in
theorem gX5_taken_X0_hasJudge : GoodIn wsX5_taken (wsV RX5 94 RX0 yX0_hasJudge wsX0_hasJudge) := goodIn_app (goodIn_of _ (by decide +kernel)) ggX5_taken_X0_hasJudge
set_option maxRecDepth 20000 in
theorem ggX5_taken_X0_hasPebble : GoodIn wsX5_taken wsX0_hasPebble := goodIn_r _ [21, 22, 34, 35, 36, 37, 38, 39, 40, 41, 42, 43, 44, 45] (by decide +kernel) (by decide +kernel)
set_option maxRecDepth 20000 in
theorem gX5_taken_X0_hasPebble : GoodIn wsX5_taken (wsV RX5 111 RX0 yX0_hasPebble wsX0_hasPebble) := goodIn_app (goodIn_of _ (by decide +kernel)) ggX5_taken_X0_hasPebble
set_option maxRecDepth 20000 in
theorem ggX5_taken_X5_isOfKind : GoodIn wsX5_taken wsX5_isOfKind := goodIn_r _ [25] (by decide +kernel) (by decide +kernel)
set_option maxRecDepth 20000 in
theorem gX5_taken_X5_isOfKind : GoodIn wsX5_taken (va_wsS RX5 256 yX5_isOfKind wsX5_isOfKind) := goodIn_app (goodIn_of _ (by decide +kernel)) ggX5_taken_X5_isOfKind
theorem dX5_taken_0 : decode cX5_taken 0 = .ok (.iload_n 2, 1) := by decide +kernel
theorem dX5_taken_1 : decode cX5_taken 1 = .ok (.bipush 6, 2) := by decide +kernel
theorem dX5_taken_3 : decode cX5_taken 3 = .ok (.invokestatic 86, 3) := by decide +kernel
theorem dX5_taken_6 : decode cX5_taken 6 = .ok (.ifCond .ne 7, 3) := by decide +kernel
theorem dX5_taken_9 : decode cX5_taken 9 = .ok (.ldc2_w 248, 3) := by decide +kernel
theorem dX5_taken_12 : decode cX5_taken 12 = .ok (.lreturn, 1) := by decide +kernel
theorem dX5_taken_13 : decode cX5_taken 13 = .ok (.iload_n 1, 1) := by decide +kernel
theorem dX5_taken_14 : decode cX5_taken 14 = .ok (.bipush 9, 2) := by decide +kernel
theorem dX5_taken_16 : decode cX5_taken 16 = .ok (.invokestatic 86, 3) := by decide +kernel
theorem dX5_taken_19 : decode cX5_taken 19 = .ok (.ifCond .ne 7, 3) := by decide +kernel
theorem dX5_taken_22 : decode cX5_taken 22 = .ok (.ldc2_w 250, 3) := by decide +kernel
theorem dX5_taken_25 : decode cX5_taken 25 = .ok (.lreturn, 1) := by decide +kernel
theorem dX5_taken_26 : decode cX5_taken 26 = .ok (.iload_n 1, 1) := by decide +kernel
theorem dX5_taken_27 : decode cX5_taken 27 = .ok (.bipush 6, 2) := by decide +kernel
theorem dX5_taken_29 : decode cX5_taken 29 = .ok (.if_icmp .lt 46, 3) := by decide +kernel
theorem dX5_taken_32 : decode cX5_taken 32 = .ok (.iload_n 1, 1) := by decide +kernel
theorem dX5_taken_33 : decode cX5_taken 33 = .ok (.bipush 6, 2) := by decide +kernel
theorem dX5_taken_35 : decode cX5_taken 35 = .ok (.isub, 1) := by decide +kernel
theorem dX5_taken_36 : decode cX5_taken 36 = .ok (.istore_n 3, 1) := by decide +kernel
theorem dX5_taken_37 : decode cX5_taken 37 = .ok (.aload_n 0, 1) := by decide +kernel
theorem dX5_taken_38 : decode cX5_taken 38 = .ok (.getfield 28, 3) := by decide +kernel
theorem dX5_taken_41 : decode cX5_taken 41 = .ok (.iload_n 3, 1) := by decide +kernel
theorem dX5_taken_42 : decode cX5_taken 42 = .ok (.invokevirtual 94, 3) := by decide +kernel
theorem dX5_taken_45 : decode cX5_taken 45 = .ok (.ifCond .ne 7, 3) := by decide +kernel
theorem dX5_taken_48 : decode cX5_taken 48 = .ok (.ldc2_w 252, 3) := by decide +kernel
theorem dX5_taken_51 : decode cX5_taken 51 = .ok (.lreturn, 1) := by decide +kernel
theorem dX5_taken_52 : decode cX5_taken 52 = .ok (.iload_n 2, 1) := by decide +kernel
theorem dX5_taken_53 : decode cX5_taken 53 = .ok (.bipush 6, 2) := by decide +kernel
theorem dX5_taken_55 : decode cX5_taken 55 = .ok (.if_icmp .ne 16, 3) := by decide +kernel
theorem dX5_taken_58 : decode cX5_taken 58 = .ok (.aload_n 0, 1) := by decide +kernel
theorem dX5_taken_59 : decode cX5_taken 59 = .ok (.getfield 28, 3) := by decide +kernel
theorem dX5_taken_62 : decode cX5_taken 62 = .ok (.getfield 105, 3) := by decide +kernel
theorem dX5_taken_65 : decode cX5_taken 65 = .ok (.iload_n 3, 1) := by decide +kernel
theorem dX5_taken_66 : decode cX5_taken 66 = .ok (.iaload, 1) := by decide +kernel
theorem dX5_taken_67 : decode cX5_taken 67 = .ok (.i2l, 1) := by decide +kernel
theorem dX5_taken_68 : decode cX5_taken 68 = .ok (.goto 6, 3) := by decide +kernel
theorem dX5_taken_71 : decode cX5_taken 71 = .ok (.ldc2_w 254, 3) := by decide +kernel
theorem dX5_taken_74 : decode cX5_taken 74 = .ok (.lreturn, 1) := by decide +kernel
theorem dX5_taken_75 : decode cX5_taken 75 = .ok (.aload_n 0, 1) := by decide +kernel
theorem dX5_taken_76 : decode cX5_taken 76 = .ok (.getfield 28, 3) := by decide +kernel
theorem dX5_taken_79 : decode cX5_taken 79 = .ok (.iload_n 1, 1) := by decide +kernel
theorem dX5_taken_80 : decode cX5_taken 80 = .ok (.invokevirtual 111, 3) := by decide +kernel
theorem dX5_taken_83 : decode cX5_taken 83 = .ok (.ifCond .ne 7, 3) := by decide +kernel
theorem dX5_taken_86 : decode cX5_taken 86 = .ok (.ldc2_w 252, 3) := by decide +kernel
theorem dX5_taken_89 : decode cX5_taken 89 = .ok (.lreturn, 1) := by decide +kernel
theorem dX5_taken_90 : decode cX5_taken 90 = .ok (.aload_n 0, 1) := by decide +kernel
theorem dX5_taken_91 : decode cX5_taken 91 = .ok (.getfield 28, 3) := by decide +kernel
theorem dX5_taken_94 : decode cX5_taken 94 = .ok (.getfield 128, 3) := by decide +kernel
theorem dX5_taken_97 : decode cX5_taken 97 = .ok (.iload_n 1, 1) := by decide +kernel
theorem dX5_taken_98 : decode cX5_taken 98 = .ok (.iaload, 1) := by decide +kernel
theorem dX5_taken_99 : decode cX5_taken 99 = .ok (.iload_n 2, 1) := by decide +kernel
theorem dX5_taken_100 : decode cX5_taken 100 = .ok (.invokestatic 256, 3) := by decide +kernel
theorem dX5_taken_103 : decode cX5_taken 103 = .ok (.ifCond .eq 8, 3) := by decide +kernel
theorem dX5_taken_106 : decode cX5_taken 106 = .ok (.iload_n 1, 1) := by decide +kernel
theorem dX5_taken_107 : decode cX5_taken 107 = .ok (.i2l, 1) := by decide +kernel
theorem dX5_taken_108 : decode cX5_taken 108 = .ok (.goto 6, 3) := by decide +kernel
theorem dX5_taken_111 : decode cX5_taken 111 = .ok (.ldc2_w 254, 3) := by decide +kernel
theorem dX5_taken_114 : decode cX5_taken 114 = .ok (.lreturn, 1) := by decide +kernel
theorem dX5_within_0 : decode cX5_within 0 = .ok (.iload_n 0, 1) := by decide +kernel
theorem dX5_within_1 : decode cX5_within 1 = .ok (.ifCond .lt 12, 3) := by decide +kernel
theorem dX5_within_4 : decode cX5_within 4 = .ok (.iload_n 0, 1) := by decide +kernel
theorem dX5_within_5 : decode cX5_within 5 = .ok (.iload_n 1, 1) := by decide +kernel
theorem dX5_within_6 : decode cX5_within 6 = .ok (.if_icmp .gt 7, 3) := by decide +kernel
theorem dX5_within_9 : decode cX5_within 9 = .ok (.iconst 1, 1) := by decide +kernel
theorem dX5_within_10 : decode cX5_within 10 = .ok (.goto 4, 3) := by decide +kernel
theorem dX5_within_13 : decode cX5_within 13 = .ok (.iconst 0, 1) := by decide +kernel
theorem dX5_within_14 : decode cX5_within 14 = .ok (.ireturn, 1) := by decide +kernel
set_option maxRecDepth 20000 in
theorem ggX5_isByte_X5_within : GoodIn wsX5_isByte wsX5_within := goodIn_r _ [4] (by decide +kernel) (by decide +kernel)
set_option maxRecDepth 20000 in
theorem gX5_isByte_X5_within : GoodIn wsX5_isByte (va_wsS RX5 86 yX5_within wsX5_within) := goodIn_app (goodIn_of _ (by decide +kernel)) ggX5_isByte_X5_within
theorem dX5_isByte_0 : decode cX5_isByte 0 = .ok (.iload_n 0, 1) := by decide +kernel
theorem dX5_isByte_1 : decode cX5_isByte 1 = .ok (.sipush 255, 3) := by decide +kernel
theorem dX5_isByte_4 : decode cX5_isByte 4 = .ok (.invokestatic 86, 3) := by decide +kernel
theorem dX5_isByte_7 : decode cX5_isByte 7 = .ok (.ireturn, 1) := by decide +kernel
set_option maxRecDepth 20000 in
theorem ggX5_isPairOfBits_X5_within : GoodIn wsX5_isPairOfBits wsX5_within := goodIn_r _ [4] (by decide +kernel) (by decide +kernel)
set_option maxRecDepth 20000 in
theorem gX5_isPairOfBits_X5_within : GoodIn wsX5_isPairOfBits (va_wsS RX5 86 yX5_within wsX5_within) := goodIn_app (goodIn_of _ (by decide +kernel)) ggX5_isPairOfBits_X5_within
theorem dX5_isPairOfBits_0 : decode cX5_isPairOfBits 0 = .ok (.iload_n 0, 1) := by decide +kernel
theorem dX5_isPairOfBits_1 : decode cX5_isPairOfBits 1 = .ok (.bipush 11, 2) := by decide +kernel
theorem dX5_isPairOfBits_3 : decode cX5_isPairOfBits 3 = .ok (.invokestatic 86, 3) := by decide +kernel
theorem dX5_isPairOfBits_6 : decode cX5_isPairOfBits 6 = .ok (.ifCond .eq 15, 3) := by decide +kernel
theorem dX5_isPairOfBits_9 : decode cX5_isPairOfBits 9 = .ok (.iload_n 0, 1) := by decide +kernel
theorem dX5_isPairOfBits_10 : decode cX5_isPairOfBits 10 = .ok (.bipush 10, 2) := by decide +kernel
theorem dX5_isPairOfBits_12 : decode cX5_isPairOfBits 12 = .ok (.irem, 1) := by decide +kernel
theorem dX5_isPairOfBits_13 : decode cX5_isPairOfBits 13 = .ok (.iconst 1, 1) := by decide +kernel
theorem dX5_isPairOfBits_14 : decode cX5_isPairOfBits 14 = .ok (.if_icmp .gt 7, 3) := by decide +kernel
theorem dX5_isPairOfBits_17 : decode cX5_isPairOfBits 17 = .ok (.iconst 1, 1) := by decide +kernel
theorem dX5_isPairOfBits_18 : decode cX5_isPairOfBits 18 = .ok (.goto 4, 3) := by decide +kernel
theorem dX5_isPairOfBits_21 : decode cX5_isPairOfBits 21 = .ok (.iconst 0, 1) := by decide +kernel
theorem dX5_isPairOfBits_22 : decode cX5_isPairOfBits 22 = .ok (.ireturn, 1) := by decide +kernel
set_option maxRecDepth 20000 in
theorem ggX5_isMoreMiles_X5_within : GoodIn wsX5_isMoreMiles wsX5_within := goodIn_r _ [4] (by decide +kernel) (by decide +kernel)
set_option maxRecDepth 20000 in
theorem gX5_isMoreMiles_X5_within : GoodIn wsX5_isMoreMiles (va_wsS RX5 86 yX5_within wsX5_within) := goodIn_app (goodIn_of _ (by decide +kernel)) ggX5_isMoreMiles_X5_within
theorem dX5_isMoreMiles_0 : decode cX5_isMoreMiles 0 = .ok (.iload_n 0, 1) := by decide +kernel
theorem dX5_isMoreMiles_1 : decode cX5_isMoreMiles 1 = .ok (.sipush 960, 3) := by decide +kernel
theorem dX5_isMoreMiles_4 : decode cX5_isMoreMiles 4 = .ok (.invokestatic 86, 3) := by decide +kernel
theorem dX5_isMoreMiles_7 : decode cX5_isMoreMiles 7 = .ok (.ifCond .eq 16, 3) := by decide +kernel
theorem dX5_isMoreMiles_10 : decode cX5_isMoreMiles 10 = .ok (.iload_n 0, 1) := by decide +kernel
theorem dX5_isMoreMiles_11 : decode cX5_isMoreMiles 11 = .ok (.bipush 100, 2) := by decide +kernel
theorem dX5_isMoreMiles_13 : decode cX5_isMoreMiles 13 = .ok (.irem, 1) := by decide +kernel
theorem dX5_isMoreMiles_14 : decode cX5_isMoreMiles 14 = .ok (.bipush 60, 2) := by decide +kernel
theorem dX5_isMoreMiles_16 : decode cX5_isMoreMiles 16 = .ok (.if_icmp .gt 7, 3) := by decide +kernel
theorem dX5_isMoreMiles_19 : decode cX5_isMoreMiles 19 = .ok (.iconst 1, 1) := by decide +kernel
theorem dX5_isMoreMiles_20 : decode cX5_isMoreMiles 20 = .ok (.goto 4, 3) := by decide +kernel
theorem dX5_isMoreMiles_23 : decode cX5_isMoreMiles 23 = .ok (.iconst 0, 1) := by decide +kernel
theorem dX5_isMoreMiles_24 : decode cX5_isMoreMiles 24 = .ok (.ireturn, 1) := by decide +kernel
theorem dX5_isOfKind_0 : decode cX5_isOfKind 0 = .ok (.iload_n 0, 1) := by decide +kernel
theorem dX5_isOfKind_1 : decode cX5_isOfKind 1 = .ok (.iload_n 1, 1) := by decide +kernel
theorem dX5_isOfKind_2 : decode cX5_isOfKind 2 = .ok (.if_icmp .eq 27, 3) := by decide +kernel
theorem dX5_isOfKind_5 : decode cX5_isOfKind 5 = .ok (.iload_n 1, 1) := by decide +kernel
theorem dX5_isOfKind_6 : decode cX5_isOfKind 6 = .ok (.ifCond .eq 23, 3) := by decide +kernel
theorem dX5_isOfKind_9 : decode cX5_isOfKind 9 = .ok (.iload_n 0, 1) := by decide +kernel
theorem dX5_isOfKind_10 : decode cX5_isOfKind 10 = .ok (.iconst 3, 1) := by decide +kernel
theorem dX5_isOfKind_11 : decode cX5_isOfKind 11 = .ok (.if_icmp .ne 8, 3) := by decide +kernel
theorem dX5_isOfKind_14 : decode cX5_isOfKind 14 = .ok (.iload_n 1, 1) := by decide +kernel
theorem dX5_isOfKind_15 : decode cX5_isOfKind 15 = .ok (.iconst 1, 1) := by decide +kernel
theorem dX5_isOfKind_16 : decode cX5_isOfKind 16 = .ok (.if_icmp .eq 13, 3) := by decide +kernel
theorem dX5_isOfKind_19 : decode cX5_isOfKind 19 = .ok (.iload_n 0, 1) := by decide +kernel
theorem dX5_isOfKind_20 : decode cX5_isOfKind 20 = .ok (.iconst 4, 1) := by decide +kernel
theorem dX5_isOfKind_21 : decode cX5_isOfKind 21 = .ok (.if_icmp .ne 12, 3) := by decide +kernel
theorem dX5_isOfKind_24 : decode cX5_isOfKind 24 = .ok (.iload_n 1, 1) := by decide +kernel
theorem dX5_isOfKind_25 : decode cX5_isOfKind 25 = .ok (.iconst 2, 1) := by decide +kernel
theorem dX5_isOfKind_26 : decode cX5_isOfKind 26 = .ok (.if_icmp .ne 7, 3) := by decide +kernel
theorem dX5_isOfKind_29 : decode cX5_isOfKind 29 = .ok (.iconst 1, 1) := by decide +kernel
theorem dX5_isOfKind_30 : decode cX5_isOfKind 30 = .ok (.goto 4, 3) := by decide +kernel
theorem dX5_isOfKind_33 : decode cX5_isOfKind 33 = .ok (.iconst 0, 1) := by decide +kernel
theorem dX5_isOfKind_34 : decode cX5_isOfKind 34 = .ok (.ireturn, 1) := by decide +kernel
theorem dX5_commonDivisor_0 : decode cX5_commonDivisor 0 = .ok (.iload_n 0, 1) := by decide +kernel
theorem dX5_commonDivisor_1 : decode cX5_commonDivisor 1 = .ok (.istore_n 2, 1) := by decide +kernel
theorem dX5_commonDivisor_2 : decode cX5_commonDivisor 2 = .ok (.iload_n 1, 1) := by decide +kernel
theorem dX5_commonDivisor_3 : decode cX5_commonDivisor 3 = .ok (.istore_n 3, 1) := by decide +kernel
theorem dX5_commonDivisor_4 : decode cX5_commonDivisor 4 = .ok (.iconst 0, 1) := by decide +kernel
theorem dX5_commonDivisor_5 : decode cX5_commonDivisor 5 = .ok (.istore 4, 2) := by decide +kernel
theorem dX5_commonDivisor_7 : decode cX5_commonDivisor 7 = .ok (.iload 4, 2) := by decide +kernel
theorem dX5_commonDivisor_9 : decode cX5_commonDivisor 9 = .ok (.bipush 64, 2) := by decide +kernel
theorem dX5_commonDivisor_11 : decode cX5_commonDivisor 11 = .ok (.if_icmp .ge 23, 3) := by decide +kernel
theorem dX5_commonDivisor_14 : decode cX5_commonDivisor 14 = .ok (.iload_n 3, 1) := by decide +kernel
theorem dX5_commonDivisor_15 : decode cX5_commonDivisor 15 = .ok (.ifCond .eq 19, 3) := by decide +kernel
theorem dX5_commonDivisor_18 : decode cX5_commonDivisor 18 = .ok (.iload_n 2, 1) := by decide +kernel
theorem dX5_commonDivisor_19 : decode cX5_commonDivisor 19 = .ok (.iload_n 3, 1) := by decide +kernel
theorem dX5_commonDivisor_20 : decode cX5_commonDivisor 20 = .ok (.irem, 1) := by decide +kernel
theorem dX5_commonDivisor_21 : decode cX5_commonDivisor 21 = .ok (.istore 5, 2) := by decide +kernel
theorem dX5_commonDivisor_23 : decode cX5_commonDivisor 23 = .ok (.iload_n 3, 1) := by decide +kernel
theorem dX5_commonDivisor_24 : decode cX5_commonDivisor 24 = .ok (.istore_n 2, 1) := by decide +kernel
theorem dX5_commonDivisor_25 : decode cX5_commonDivisor 25 = .ok (.iload 5, 2) := by decide +kernel
theorem dX5_commonDivisor_27 : decode cX5_commonDivisor 27 = .ok (.istore_n 3, 1) := by decide +kernel
theorem dX5_commonDivisor_28 : decode cX5_commonDivisor 28 = .ok (.iinc 4 1, 3) := by decide +kernel
theorem dX5_commonDivisor_31 : decode cX5_commonDivisor 31 = .ok (.goto (-24), 3) := by decide +kernel
theorem dX5_commonDivisor_34 : decode cX5_commonDivisor 34 = .ok (.iconst 1, 1) := by decide +kernel
theorem dX5_commonDivisor_35 : decode cX5_commonDivisor 35 = .ok (.iload_n 2, 1) := by decide +kernel
theorem dX5_commonDivisor_36 : decode cX5_commonDivisor 36 = .ok (.invokestatic 259, 3) := by decide +kernel
theorem dX5_commonDivisor_39 : decode cX5_commonDivisor 39 = .ok (.ireturn, 1) := by decide +kernel
theorem dX5_leastBit_0 : decode cX5_leastBit 0 = .ok (.iconst 0, 1) := by decide +kernel
theorem dX5_leastBit_1 : decode cX5_leastBit 1 = .ok (.istore_n 2, 1) := by decide +kernel
theorem dX5_leastBit_2 : decode cX5_leastBit 2 = .ok (.iload_n 2, 1) := by decide +kernel
theorem dX5_leastBit_3 : decode cX5_leastBit 3 = .ok (.bipush 60, 2) := by decide +kernel
theorem dX5_leastBit_5 : decode cX5_leastBit 5 = .ok (.if_icmp .gt 21, 3) := by decide +kernel
theorem dX5_leastBit_8 : decode cX5_leastBit 8 = .ok (.lload_n 0, 1) := by decide +kernel
theorem dX5_leastBit_9 : decode cX5_leastBit 9 = .ok (.iload_n 2, 1) := by decide +kernel
theorem dX5_leastBit_10 : decode cX5_leastBit 10 = .ok (.lshr, 1) := by decide +kernel
theorem dX5_leastBit_11 : decode cX5_leastBit 11 = .ok (.lconst 1, 1) := by decide +kernel
theorem dX5_leastBit_12 : decode cX5_leastBit 12 = .ok (.land, 1) := by decide +kernel
theorem dX5_leastBit_13 : decode cX5_leastBit 13 = .ok (.lconst 1, 1) := by decide +kernel
theorem dX5_leastBit_14 : decode cX5_leastBit 14 = .ok (.lcmp, 1) := by decide +kernel
theorem dX5_leastBit_15 : decode cX5_leastBit 15 = .ok (.ifCond .ne 5, 3) := by decide +kernel
theorem dX5_leastBit_18 : decode cX5_leastBit 18 = .ok (.iload_n 2, 1) := by decide +kernel
theorem dX5_leastBit_19 : decode cX5_leastBit 19 = .ok (.ireturn, 1) := by decide +kernel
theorem dX5_leastBit_20 : decode cX5_leastBit 20 = .ok (.iinc 2 1, 3) := by decide +kernel
theorem dX5_leastBit_23 : decode cX5_leastBit 23 = .ok (.goto (-21), 3) := by decide +kernel
theorem dX5_leastBit_26 : decode cX5_leastBit 26 = .ok (.iconst (-1), 1) := by decide +kernel
theorem dX5_leastBit_27 : decode cX5_leastBit 27 = .ok (.ireturn, 1) := by decide +kernel
set_option maxRecDepth 20000 in
theorem ggX5_think_X0_become : GoodIn wsX5_think wsX0_become := goodIn_r _ [7, 8, 9, 10, 11, 12, 13, 14, 15, 16, 17, 18, 19, 20, 21, 30, 31, 32, 33, 34, 35, 36, 37, 38, 39, 40, 41] (by decide +kernel) (by decide +kernel)
set_option maxRecDepth 20000 in
theorem gX5_think_X0_become : GoodIn wsX5_think (wsV RX5 218 RX0 yX0_become wsX0_become) := goodIn_app (goodIn_of _ (by decide +kernel)) ggX5_think_X0_become
theorem dX5_think_0 : decode cX5_think 0 = .ok (.aload_n 0, 1) := by decide +kernel
theorem dX5_think_1 : decode cX5_think 1 = .ok (.getfield 32, 3) := by decide +kernel
theorem dX5_think_4 : decode cX5_think 4 = .ok (.aload_n 0, 1) := by decide +kernel
theorem dX5_think_5 : decode cX5_think 5 = .ok (.getfield 28, 3) := by decide +kernel
theorem dX5_think_8 : decode cX5_think 8 = .ok (.invokevirtual 218, 3) := by decide +kernel
theorem dX5_think_11 : decode cX5_think 11 = .ok (.return_, 1) := by decide +kernel
set_option maxRecDepth 20000 in
theorem ggX5_outcome_X0_verdict : GoodIn wsX5_outcome wsX0_verdict := goodIn_r _ [7, 8, 9, 10, 6, 11, 12, 13, 14, 15, 16, 17, 18, 19, 20, 21, 22, 23, 24, 25, 26, 27, 28, 29, 30, 31, 32, 33, 34, 35, 36, 37, 38, 39, 40, 41, 50, 51, 52, 53, 54, 55, 56, 57, 58, 59, 60, 61, 62, 63, 64, 65, 66] (by decide +kernel) (by decide +kernel)
set_option maxRecDepth 20000 in
theorem gX5_outcome_X0_verdict : GoodIn wsX5_outcome (wsV RX5 164 RX0 yX0_verdict wsX0_verdict) := goodIn_app (goodIn_of _ (by decide +kernel)) ggX5_outcome_X0_verdict
theorem dX5_outcome_0 : decode cX5_outcome 0 = .ok (.iload 4, 2) := by decide +kernel
theorem dX5_outcome_2 : decode cX5_outcome 2 = .ok (.lookupswitch 38 #[(0, 26), (1, 28)], 26) := by decide +kernel
theorem dX5_outcome_28 : decode cX5_outcome 28 = .ok (.iload_n 3, 1) := by decide +kernel
theorem dX5_outcome_29 : decode cX5_outcome 29 = .ok (.ireturn, 1) := by decide +kernel
theorem dX5_outcome_30 : decode cX5_outcome 30 = .ok (.aload_n 0, 1) := by decide +kernel
theorem dX5_outcome_31 : decode cX5_outcome 31 = .ok (.getfield 32, 3) := by decide +kernel
theorem dX5_outcome_34 : decode cX5_outcome 34 = .ok (.getfield 122, 3) := by decide +kernel
theorem dX5_outcome_37 : decode cX5_outcome 37 = .ok (.iload_n 2, 1) := by decide +kernel
theorem dX5_outcome_38 : decode cX5_outcome 38 = .ok (.iaload, 1) := by decide +kernel
theorem dX5_outcome_39 : decode cX5_outcome 39 = .ok (.ireturn, 1) := by decide +kernel
theorem dX5_outcome_40 : decode cX5_outcome 40 = .ok (.aload_n 0, 1) := by decide +kernel
theorem dX5_outcome_41 : decode cX5_outcome 41 = .ok (.getfield 32, 3) := by decide +kernel
theorem dX5_outcome_44 : decode cX5_outcome 44 = .ok (.iload_n 1, 1) := by decide +kernel
theorem dX5_outcome_45 : decode cX5_outcome 45 = .ok (.iload_n 2, 1) := by decide +kernel
theorem dX5_outcome_46 : decode cX5_outcome 46 = .ok (.iload_n 3, 1) := by decide +kernel
theorem dX5_outcome_47 : decode cX5_outcome 47 = .ok (.invokevirtual 164, 3) := by decide +kernel
theorem dX5_outcome_50 : decode cX5_outcome 50 = .ok (.ireturn, 1) := by decide +kernel
set_option maxRecDepth 20000 in
theorem ggX5_guiltyBits_X5_think : GoodIn wsX5_guiltyBits wsX5_think := goodIn_r _ [6, 1, 7, 8, 9, 10, 11, 12, 13, 14, 15, 16, 17, 18, 19, 20, 21, 22, 23, 24, 25, 26, 80, 81, 82, 83, 84, 85, 86, 87, 88, 89, 90, 91, 92, 93, 94, 95, 96, 97, 98, 99] (by decide +kernel) (by decide +kernel)
set_option maxRecDepth 20000 in
theorem gX5_guiltyBits_X5_think : GoodIn wsX5_guiltyBits (wsV RX5 143 RX5 yX5_think wsX5_think) := goodIn_app (goodIn_of _ (by decide +kernel)) ggX5_guiltyBits_X5_think
set_option maxRecDepth 20000 in
theorem ggX5_guiltyBits_X0_verdict : GoodIn wsX5_guiltyBits wsX0_verdict := goodIn_r _ [30, 31, 32, 33, 11, 34, 35, 22, 23, 13, 18, 21, 36, 26, 37, 38, 39, 40, 41, 42, 43, 44, 45, 46, 47, 48, 49, 50, 51, 52, 53, 54, 55, 56, 57, 58, 88, 89, 90, 91, 92, 93, 94, 95, 96, 97, 98, 99, 100, 101, 102, 103, 104] (by decide +kernel) (by decide +kernel)
set_option maxRecDepth 20000 in
theorem gX5_guiltyBits_X0_verdict : GoodIn wsX5_guiltyBits (wsV RX5 164 RX0 yX0_verdict wsX0_verdict) := goodIn_app (goodIn_of _ (by decide +kernel)) ggX5_guiltyBits_X0_verdict
set_option maxRecDepth 20000 in
theorem ggX5_guiltyBits_X0_mile : GoodIn wsX5_guiltyBits wsX0_mile := goodIn_r _ [62, 19, 63, 37, 38, 39, 40, 22, 41, 42, 43, 64, 65, 66, 11, 67, 20, 21, 31, 32, 33, 34, 35, 23, 13, 18, 36, 26, 44, 45, 46, 47, 48, 49, 50, 51, 52, 53, 54, 55, 56, 57, 58, 68, 69, 70, 71, 72, 73, 74, 75, 76, 77, 78, 79, 88, 89, 90, 91, 92, 93, 94, 95, 96, 97, 98, 99, 100, 101, 102, 103, 104] (by decide +kernel) (by decide +kernel)
set_option maxRecDepth 20000 in
theorem gX5_guiltyBits_X0_mile : GoodIn wsX5_guiltyBits (wsV RX5 158 RX0 yX0_mile wsX0_mile) := goodIn_app (goodIn_of _ (by decide +kernel)) ggX5_guiltyBits_X0_mile
theorem dX5_guiltyBits_0 : decode cX5_guiltyBits 0 = .ok (.aload_n 0, 1) := by decide +kernel
theorem dX5_guiltyBits_1 : decode cX5_guiltyBits 1 = .ok (.invokevirtual 143, 3) := by decide +kernel
theorem dX5_guiltyBits_4 : decode cX5_guiltyBits 4 = .ok (.lconst 0, 1) := by decide +kernel
theorem dX5_guiltyBits_5 : decode cX5_guiltyBits 5 = .ok (.lstore_n 3, 1) := by decide +kernel
theorem dX5_guiltyBits_6 : decode cX5_guiltyBits 6 = .ok (.iconst 0, 1) := by decide +kernel
theorem dX5_guiltyBits_7 : decode cX5_guiltyBits 7 = .ok (.istore 5, 2) := by decide +kernel
theorem dX5_guiltyBits_9 : decode cX5_guiltyBits 9 = .ok (.iconst 0, 1) := by decide +kernel
theorem dX5_guiltyBits_10 : decode cX5_guiltyBits 10 = .ok (.istore 6, 2) := by decide +kernel
theorem dX5_guiltyBits_12 : decode cX5_guiltyBits 12 = .ok (.iload 6, 2) := by decide +kernel
theorem dX5_guiltyBits_14 : decode cX5_guiltyBits 14 = .ok (.bipush 60, 2) := by decide +kernel
theorem dX5_guiltyBits_16 : decode cX5_guiltyBits 16 = .ok (.if_icmp .gt 42, 3) := by decide +kernel
theorem dX5_guiltyBits_19 : decode cX5_guiltyBits 19 = .ok (.lload_n 3, 1) := by decide +kernel
theorem dX5_guiltyBits_20 : decode cX5_guiltyBits 20 = .ok (.aload_n 0, 1) := by decide +kernel
theorem dX5_guiltyBits_21 : decode cX5_guiltyBits 21 = .ok (.getfield 32, 3) := by decide +kernel
theorem dX5_guiltyBits_24 : decode cX5_guiltyBits 24 = .ok (.iload_n 1, 1) := by decide +kernel
theorem dX5_guiltyBits_25 : decode cX5_guiltyBits 25 = .ok (.iload_n 2, 1) := by decide +kernel
theorem dX5_guiltyBits_26 : decode cX5_guiltyBits 26 = .ok (.iload 5, 2) := by decide +kernel
theorem dX5_guiltyBits_28 : decode cX5_guiltyBits 28 = .ok (.invokevirtual 164, 3) := by decide +kernel
theorem dX5_guiltyBits_31 : decode cX5_guiltyBits 31 = .ok (.i2l, 1) := by decide +kernel
theorem dX5_guiltyBits_32 : decode cX5_guiltyBits 32 = .ok (.iload 6, 2) := by decide +kernel
theorem dX5_guiltyBits_34 : decode cX5_guiltyBits 34 = .ok (.lshl, 1) := by decide +kernel
theorem dX5_guiltyBits_35 : decode cX5_guiltyBits 35 = .ok (.lor, 1) := by decide +kernel
theorem dX5_guiltyBits_36 : decode cX5_guiltyBits 36 = .ok (.lstore_n 3, 1) := by decide +kernel
theorem dX5_guiltyBits_37 : decode cX5_guiltyBits 37 = .ok (.iload 5, 2) := by decide +kernel
theorem dX5_guiltyBits_39 : decode cX5_guiltyBits 39 = .ok (.aload_n 0, 1) := by decide +kernel
theorem dX5_guiltyBits_40 : decode cX5_guiltyBits 40 = .ok (.getfield 32, 3) := by decide +kernel
theorem dX5_guiltyBits_43 : decode cX5_guiltyBits 43 = .ok (.iload_n 1, 1) := by decide +kernel
theorem dX5_guiltyBits_44 : decode cX5_guiltyBits 44 = .ok (.iload_n 2, 1) := by decide +kernel
theorem dX5_guiltyBits_45 : decode cX5_guiltyBits 45 = .ok (.iconst 0, 1) := by decide +kernel
theorem dX5_guiltyBits_46 : decode cX5_guiltyBits 46 = .ok (.invokevirtual 158, 3) := by decide +kernel
theorem dX5_guiltyBits_49 : decode cX5_guiltyBits 49 = .ok (.iadd, 1) := by decide +kernel
theorem dX5_guiltyBits_50 : decode cX5_guiltyBits 50 = .ok (.istore 5, 2) := by decide +kernel
theorem dX5_guiltyBits_52 : decode cX5_guiltyBits 52 = .ok (.iinc 6 1, 3) := by decide +kernel
theorem dX5_guiltyBits_55 : decode cX5_guiltyBits 55 = .ok (.goto (-43), 3) := by decide +kernel
theorem dX5_guiltyBits_58 : decode cX5_guiltyBits 58 = .ok (.lload_n 3, 1) := by decide +kernel
theorem dX5_guiltyBits_59 : decode cX5_guiltyBits 59 = .ok (.lreturn, 1) := by decide +kernel
set_option maxRecDepth 20000 in
theorem ggX5_guiltyOfAll_X5_think : GoodIn wsX5_guiltyOfAll wsX5_think := goodIn_r _ [8, 3, 1, 9, 10, 11, 12, 13, 14, 15, 16, 17, 18, 19, 20, 21, 22, 23, 24, 25, 26, 27, 85, 86, 87, 88, 89, 90, 91, 92, 93, 94, 95, 96, 97, 98, 99, 100, 101, 102, 103, 104] (by decide +kernel) (by decide +kernel)
set_option maxRecDepth 20000 in
theorem gX5_guiltyOfAll_X5_think : GoodIn wsX5_guiltyOfAll (wsV RX5 143 RX5 yX5_think wsX5_think) := goodIn_app (goodIn_of _ (by decide +kernel)) ggX5_guiltyOfAll_X5_think
set_option maxRecDepth 20000 in
theorem ggX5_guiltyOfAll_X0_go : GoodIn wsX5_guiltyOfAll wsX0_go := goodIn_r _ [31, 32, 33, 34, 12, 35, 20, 36, 37, 38, 39, 40, 23, 41, 42, 43, 44, 45, 46, 47, 21, 22, 48, 49, 50, 51, 52, 24, 14, 19, 53, 27, 54, 55, 56, 57, 58, 59, 60, 61, 62, 63, 64, 65, 66, 67, 68, 69, 70, 71, 72, 73, 74, 75, 76, 77, 78, 79, 80, 93, 94, 95, 96, 97, 98, 99, 100, 101, 102, 103, 104, 105, 106, 107, 108, 109] (by decide +kernel) (by decide +kernel)
set_option maxRecDepth 20000 in
theorem gX5_guiltyOfAll_X0_go : GoodIn wsX5_guiltyOfAll (wsV RX5 140 RX0 yX0_go wsX0_go) := goodIn_app (goodIn_of _ (by decide +kernel)) ggX5_guiltyOfAll_X0_go
set_option maxRecDepth 20000 in
theorem ggX5_guiltyOfAll_X0_verdict : GoodIn wsX5_guiltyOfAll wsX0_verdict := goodIn_r _ [84, 48, 49, 50, 12, 51, 52, 23, 24, 14, 19, 22, 53, 27, 37, 38, 39, 40, 41, 42, 43, 54, 55, 56, 57, 58, 59, 60, 61, 62, 63, 64, 65, 66, 67, 68, 93, 94, 95, 96, 97, 98, 99, 100, 101, 102, 103, 104, 105, 106, 107, 108, 109] (by decide +kernel) (by decide +kernel)
set_option maxRecDepth 20000 in
theorem gX5_guiltyOfAll_X0_verdict : GoodIn wsX5_guiltyOfAll (wsV RX5 164 RX0 yX0_verdict wsX0_verdict) := goodIn_app (goodIn_of _ (by decide +kernel)) ggX5_guiltyOfAll_X0_verdict
theorem dX5_guiltyOfAll_0 : decode cX5_guiltyOfAll 0 = .ok (.iconst 0, 1) := by decide +kernel
theorem dX5_guiltyOfAll_1 : decode cX5_guiltyOfAll 1 = .ok (.istore_n 3, 1) := by decide +kernel
theorem dX5_guiltyOfAll_2 : decode cX5_guiltyOfAll 2 = .ok (.iconst 0, 1) := by decide +kernel
theorem dX5_guiltyOfAll_3 : decode cX5_guiltyOfAll 3 = .ok (.istore 4, 2) := by decide +kernel
theorem dX5_guiltyOfAll_5 : decode cX5_guiltyOfAll 5 = .ok (.iload 4, 2) := by decide +kernel
theorem dX5_guiltyOfAll_7 : decode cX5_guiltyOfAll 7 = .ok (.aload_n 0, 1) := by decide +kernel
theorem dX5_guiltyOfAll_8 : decode cX5_guiltyOfAll 8 = .ok (.getfield 28, 3) := by decide +kernel
theorem dX5_guiltyOfAll_11 : decode cX5_guiltyOfAll 11 = .ok (.getfield 71, 3) := by decide +kernel
theorem dX5_guiltyOfAll_14 : decode cX5_guiltyOfAll 14 = .ok (.if_icmp .ge 37, 3) := by decide +kernel
theorem dX5_guiltyOfAll_17 : decode cX5_guiltyOfAll 17 = .ok (.aload_n 0, 1) := by decide +kernel
theorem dX5_guiltyOfAll_18 : decode cX5_guiltyOfAll 18 = .ok (.invokevirtual 143, 3) := by decide +kernel
theorem dX5_guiltyOfAll_21 : decode cX5_guiltyOfAll 21 = .ok (.iload_n 3, 1) := by decide +kernel
theorem dX5_guiltyOfAll_22 : decode cX5_guiltyOfAll 22 = .ok (.aload_n 0, 1) := by decide +kernel
theorem dX5_guiltyOfAll_23 : decode cX5_guiltyOfAll 23 = .ok (.getfield 32, 3) := by decide +kernel
theorem dX5_guiltyOfAll_26 : decode cX5_guiltyOfAll 26 = .ok (.iload_n 1, 1) := by decide +kernel
theorem dX5_guiltyOfAll_27 : decode cX5_guiltyOfAll 27 = .ok (.iload 4, 2) := by decide +kernel
theorem dX5_guiltyOfAll_29 : decode cX5_guiltyOfAll 29 = .ok (.aload_n 0, 1) := by decide +kernel
theorem dX5_guiltyOfAll_30 : decode cX5_guiltyOfAll 30 = .ok (.getfield 32, 3) := by decide +kernel
theorem dX5_guiltyOfAll_33 : decode cX5_guiltyOfAll 33 = .ok (.iload_n 1, 1) := by decide +kernel
theorem dX5_guiltyOfAll_34 : decode cX5_guiltyOfAll 34 = .ok (.iload 4, 2) := by decide +kernel
theorem dX5_guiltyOfAll_36 : decode cX5_guiltyOfAll 36 = .ok (.iload_n 2, 1) := by decide +kernel
theorem dX5_guiltyOfAll_37 : decode cX5_guiltyOfAll 37 = .ok (.invokevirtual 140, 3) := by decide +kernel
theorem dX5_guiltyOfAll_40 : decode cX5_guiltyOfAll 40 = .ok (.invokevirtual 164, 3) := by decide +kernel
theorem dX5_guiltyOfAll_43 : decode cX5_guiltyOfAll 43 = .ok (.iadd, 1) := by decide +kernel
theorem dX5_guiltyOfAll_44 : decode cX5_guiltyOfAll 44 = .ok (.istore_n 3, 1) := by decide +kernel
theorem dX5_guiltyOfAll_45 : decode cX5_guiltyOfAll 45 = .ok (.iinc 4 1, 3) := by decide +kernel
theorem dX5_guiltyOfAll_48 : decode cX5_guiltyOfAll 48 = .ok (.goto (-43), 3) := by decide +kernel
theorem dX5_guiltyOfAll_51 : decode cX5_guiltyOfAll 51 = .ok (.iload_n 3, 1) := by decide +kernel
theorem dX5_guiltyOfAll_52 : decode cX5_guiltyOfAll 52 = .ok (.ireturn, 1) := by decide +kernel
set_option maxRecDepth 20000 in
theorem ggX5_weighCases_X5_think : GoodIn wsX5_weighCases wsX5_think := goodIn_r _ [10, 3, 1, 11, 12, 13, 14, 15, 16, 17, 18, 19, 20, 21, 22, 23, 24, 25, 26, 27, 28, 29, 88, 89, 90, 91, 92, 93, 94, 95, 96, 97, 98, 99, 100, 101, 102, 103, 104, 105, 106, 107] (by decide +kernel) (by decide +kernel)
set_option maxRecDepth 20000 in
theorem gX5_weighCases_X5_think : GoodIn wsX5_weighCases (wsV RX5 143 RX5 yX5_think wsX5_think) := goodIn_app (goodIn_of _ (by decide +kernel)) ggX5_weighCases_X5_think
set_option maxRecDepth 20000 in
theorem ggX5_weighCases_X0_tread : GoodIn wsX5_weighCases wsX0_tread := goodIn_r _ [33, 21, 16, 34, 35, 36, 37, 96, 97, 98, 99, 100, 101, 102, 103, 104, 105, 106, 107] (by decide +kernel) (by decide +kernel)
set_option maxRecDepth 20000 in
theorem gX5_weighCases_X0_tread : GoodIn wsX5_weighCases (wsV RX5 264 RX0 yX0_tread wsX0_tread) := goodIn_app (goodIn_of _ (by decide +kernel)) ggX5_weighCases_X0_tread
set_option maxRecDepth 20000 in
theorem ggX5_weighCases_X0_go : GoodIn wsX5_weighCases wsX0_go := goodIn_r _ [41, 42, 43, 44, 14, 45, 22, 46, 34, 35, 36, 37, 25, 47, 48, 49, 50, 51, 52, 53, 23, 24, 54, 55, 56, 57, 58, 26, 16, 21, 59, 29, 60, 61, 62, 63, 64, 65, 66, 67, 68, 69, 70, 71, 72, 73, 74, 75, 76, 77, 78, 79, 80, 81, 82, 83, 31, 32, 33, 96, 97, 98, 99, 100, 101, 102, 103, 104, 105, 106, 107, 110, 111, 112, 113, 114] (by decide +kernel) (by decide +kernel)
set_option maxRecDepth 20000 in
theorem gX5_weighCases_X0_go : GoodIn wsX5_weighCases (wsV RX5 140 RX0 yX0_go wsX0_go) := goodIn_app (goodIn_of _ (by decide +kernel)) ggX5_weighCases_X0_go
set_option maxRecDepth 20000 in
theorem ggX5_weighCases_X0_verdict : GoodIn wsX5_weighCases wsX0_verdict := goodIn_r _ [87, 54, 55, 56, 14, 57, 58, 25, 26, 16, 21, 24, 59, 29, 34, 35, 36, 37, 47, 48, 49, 60, 61, 62, 63, 64, 65, 66, 67, 68, 69, 70, 71, 72, 73, 74, 96, 97, 98, 99, 100, 101, 102, 103, 104, 105, 106, 107, 110, 111, 112, 113, 114] (by decide +kernel) (by decide +kernel)
set_option maxRecDepth 20000 in
theorem gX5_weighCases_X0_verdict : GoodIn wsX5_weighCases (wsV RX5 164 RX0 yX0_verdict wsX0_verdict) := goodIn_app (goodIn_of _ (by decide +kernel)) ggX5_weighCases_X0_verdict
theorem dX5_weighCases_0 : decode cX5_weighCases 0 = .ok (.iconst 0, 1) := by decide +kernel
theorem dX5_weighCases_1 : decode cX5_weighCases 1 = .ok (.istore 4, 2) := by decide +kernel
theorem dX5_weighCases_3 : decode cX5_weighCases 3 = .ok (.iload 4, 2) := by decide +kernel
theorem dX5_weighCases_5 : decode cX5_weighCases 5 = .ok (.aload_n 0, 1) := by decide +kernel
theorem dX5_weighCases_6 : decode cX5_weighCases 6 = .ok (.getfield 28, 3) := by decide +kernel
theorem dX5_weighCases_9 : decode cX5_weighCases 9 = .ok (.getfield 71, 3) := by decide +kernel
theorem dX5_weighCases_12 : decode cX5_weighCases 12 = .ok (.if_icmp .ge 107, 3) := by decide +kernel
theorem dX5_weighCases_15 : decode cX5_weighCases 15 = .ok (.iconst 0, 1) := by decide +kernel
theorem dX5_weighCases_16 : decode cX5_weighCases 16 = .ok (.istore 5, 2) := by decide +kernel
theorem dX5_weighCases_18 : decode cX5_weighCases 18 = .ok (.iload 5, 2) := by decide +kernel
theorem dX5_weighCases_20 : decode cX5_weighCases 20 = .ok (.aload_n 0, 1) := by decide +kernel
theorem dX5_weighCases_21 : decode cX5_weighCases 21 = .ok (.getfield 28, 3) := by decide +kernel
theorem dX5_weighCases_24 : decode cX5_weighCases 24 = .ok (.getfield 71, 3) := by decide +kernel
theorem dX5_weighCases_27 : decode cX5_weighCases 27 = .ok (.if_icmp .ge 86, 3) := by decide +kernel
theorem dX5_weighCases_30 : decode cX5_weighCases 30 = .ok (.aload_n 0, 1) := by decide +kernel
theorem dX5_weighCases_31 : decode cX5_weighCases 31 = .ok (.invokevirtual 143, 3) := by decide +kernel
theorem dX5_weighCases_34 : decode cX5_weighCases 34 = .ok (.iconst 0, 1) := by decide +kernel
theorem dX5_weighCases_35 : decode cX5_weighCases 35 = .ok (.istore 6, 2) := by decide +kernel
theorem dX5_weighCases_37 : decode cX5_weighCases 37 = .ok (.iload 6, 2) := by decide +kernel
theorem dX5_weighCases_39 : decode cX5_weighCases 39 = .ok (.iload 4, 2) := by decide +kernel
theorem dX5_weighCases_41 : decode cX5_weighCases 41 = .ok (.iload_n 2, 1) := by decide +kernel
theorem dX5_weighCases_42 : decode cX5_weighCases 42 = .ok (.imul, 1) := by decide +kernel
theorem dX5_weighCases_43 : decode cX5_weighCases 43 = .ok (.if_icmp .ge 17, 3) := by decide +kernel
theorem dX5_weighCases_46 : decode cX5_weighCases 46 = .ok (.aload_n 0, 1) := by decide +kernel
theorem dX5_weighCases_47 : decode cX5_weighCases 47 = .ok (.getfield 32, 3) := by decide +kernel
theorem dX5_weighCases_50 : decode cX5_weighCases 50 = .ok (.iload_n 1, 1) := by decide +kernel
theorem dX5_weighCases_51 : decode cX5_weighCases 51 = .ok (.invokevirtual 264, 3) := by decide +kernel
theorem dX5_weighCases_54 : decode cX5_weighCases 54 = .ok (.iinc 6 1, 3) := by decide +kernel
theorem dX5_weighCases_57 : decode cX5_weighCases 57 = .ok (.goto (-20), 3) := by decide +kernel
theorem dX5_weighCases_60 : decode cX5_weighCases 60 = .ok (.aload_n 0, 1) := by decide +kernel
theorem dX5_weighCases_61 : decode cX5_weighCases 61 = .ok (.getfield 32, 3) := by decide +kernel
theorem dX5_weighCases_64 : decode cX5_weighCases 64 = .ok (.iload_n 1, 1) := by decide +kernel
theorem dX5_weighCases_65 : decode cX5_weighCases 65 = .ok (.iload 5, 2) := by decide +kernel
theorem dX5_weighCases_67 : decode cX5_weighCases 67 = .ok (.iload_n 2, 1) := by decide +kernel
theorem dX5_weighCases_68 : decode cX5_weighCases 68 = .ok (.invokevirtual 140, 3) := by decide +kernel
theorem dX5_weighCases_71 : decode cX5_weighCases 71 = .ok (.istore 6, 2) := by decide +kernel
theorem dX5_weighCases_73 : decode cX5_weighCases 73 = .ok (.aload_n 0, 1) := by decide +kernel
theorem dX5_weighCases_74 : decode cX5_weighCases 74 = .ok (.getfield 48, 3) := by decide +kernel
theorem dX5_weighCases_77 : decode cX5_weighCases 77 = .ok (.getfield 267, 3) := by decide +kernel
theorem dX5_weighCases_80 : decode cX5_weighCases 80 = .ok (.iload 4, 2) := by decide +kernel
theorem dX5_weighCases_82 : decode cX5_weighCases 82 = .ok (.aaload, 1) := by decide +kernel
theorem dX5_weighCases_83 : decode cX5_weighCases 83 = .ok (.iload 5, 2) := by decide +kernel
theorem dX5_weighCases_85 : decode cX5_weighCases 85 = .ok (.iload_n 3, 1) := by decide +kernel
theorem dX5_weighCases_86 : decode cX5_weighCases 86 = .ok (.ifCond .eq 18, 3) := by decide +kernel
theorem dX5_weighCases_89 : decode cX5_weighCases 89 = .ok (.aload_n 0, 1) := by decide +kernel
theorem dX5_weighCases_90 : decode cX5_weighCases 90 = .ok (.getfield 32, 3) := by decide +kernel
theorem dX5_weighCases_93 : decode cX5_weighCases 93 = .ok (.iload_n 1, 1) := by decide +kernel
theorem dX5_weighCases_94 : decode cX5_weighCases 94 = .ok (.iload 5, 2) := by decide +kernel
theorem dX5_weighCases_96 : decode cX5_weighCases 96 = .ok (.iload 6, 2) := by decide +kernel
theorem dX5_weighCases_98 : decode cX5_weighCases 98 = .ok (.invokevirtual 164, 3) := by decide +kernel
theorem dX5_weighCases_101 : decode cX5_weighCases 101 = .ok (.goto 5, 3) := by decide +kernel
theorem dX5_weighCases_104 : decode cX5_weighCases 104 = .ok (.iload 6, 2) := by decide +kernel
theorem dX5_weighCases_106 : decode cX5_weighCases 106 = .ok (.iastore, 1) := by decide +kernel
theorem dX5_weighCases_107 : decode cX5_weighCases 107 = .ok (.iinc 5 1, 3) := by decide +kernel
theorem dX5_weighCases_110 : decode cX5_weighCases 110 = .ok (.goto (-92), 3) := by decide +kernel
theorem dX5_weighCases_113 : decode cX5_weighCases 113 = .ok (.iinc 4 1, 3) := by decide +kernel
theorem dX5_weighCases_116 : decode cX5_weighCases 116 = .ok (.goto (-113), 3) := by decide +kernel
theorem dX5_weighCases_119 : decode cX5_weighCases 119 = .ok (.return_, 1) := by decide +kernel
set_option maxRecDepth 20000 in
theorem ggX5_refusalOfSheet_X2_isSheet : GoodIn wsX5_refusalOfSheet wsX2_isSheet := goodIn_r _ [10, 11, 12, 13] (by decide +kernel) (by decide +kernel)
set_option maxRecDepth 20000 in
theorem gX5_refusalOfSheet_X2_isSheet : GoodIn wsX5_refusalOfSheet (wsV RX5 196 RX2 yX2_isSheet wsX2_isSheet) := goodIn_app (goodIn_of _ (by decide +kernel)) ggX5_refusalOfSheet_X2_isSheet
set_option maxRecDepth 20000 in
theorem ggX5_refusalOfSheet_X0_hasPebble : GoodIn wsX5_refusalOfSheet wsX0_hasPebble := goodIn_r _ [18, 19, 32, 33, 34, 35, 36, 37, 38, 39, 40, 41, 42, 43] (by decide +kernel) (by decide +kernel)
set_option maxRecDepth 20000 in
theorem gX5_refusalOfSheet_X0_hasPebble : GoodIn wsX5_refusalOfSheet (wsV RX5 111 RX0 yX0_hasPebble wsX0_hasPebble) := goodIn_app (goodIn_of _ (by decide +kernel)) ggX5_refusalOfSheet_X0_hasPebble
set_option maxRecDepth 20000 in
theorem ggX5_refusalOfSheet_X5_within : GoodIn wsX5_refusalOfSheet wsX5_within := goodIn_r _ [13] (by decide +kernel) (by decide +kernel)
set_option maxRecDepth 20000 in
theorem gX5_refusalOfSheet_X5_within : GoodIn wsX5_refusalOfSheet (va_wsS RX5 86 yX5_within wsX5_within) := goodIn_app (goodIn_of _ (by decide +kernel)) ggX5_refusalOfSheet_X5_within
theorem dX5_refusalOfSheet_0 : decode cX5_refusalOfSheet 0 = .ok (.aload_n 0, 1) := by decide +kernel
theorem dX5_refusalOfSheet_1 : decode cX5_refusalOfSheet 1 = .ok (.getfield 41, 3) := by decide +kernel
theorem dX5_refusalOfSheet_4 : decode cX5_refusalOfSheet 4 = .ok (.iload_n 1, 1) := by decide +kernel
theorem dX5_refusalOfSheet_5 : decode cX5_refusalOfSheet 5 = .ok (.invokevirtual 196, 3) := by decide +kernel
theorem dX5_refusalOfSheet_8 : decode cX5_refusalOfSheet 8 = .ok (.ifCond .ne 6, 3) := by decide +kernel
theorem dX5_refusalOfSheet_11 : decode cX5_refusalOfSheet 11 = .ok (.bipush (-2), 2) := by decide +kernel
theorem dX5_refusalOfSheet_13 : decode cX5_refusalOfSheet 13 = .ok (.ireturn, 1) := by decide +kernel
theorem dX5_refusalOfSheet_14 : decode cX5_refusalOfSheet 14 = .ok (.aload_n 0, 1) := by decide +kernel
theorem dX5_refusalOfSheet_15 : decode cX5_refusalOfSheet 15 = .ok (.getfield 41, 3) := by decide +kernel
theorem dX5_refusalOfSheet_18 : decode cX5_refusalOfSheet 18 = .ok (.getfield 225, 3) := by decide +kernel
theorem dX5_refusalOfSheet_21 : decode cX5_refusalOfSheet 21 = .ok (.iload_n 1, 1) := by decide +kernel
theorem dX5_refusalOfSheet_22 : decode cX5_refusalOfSheet 22 = .ok (.iaload, 1) := by decide +kernel
theorem dX5_refusalOfSheet_23 : decode cX5_refusalOfSheet 23 = .ok (.iconst (-1), 1) := by decide +kernel
theorem dX5_refusalOfSheet_24 : decode cX5_refusalOfSheet 24 = .ok (.if_icmp .ne 6, 3) := by decide +kernel
theorem dX5_refusalOfSheet_27 : decode cX5_refusalOfSheet 27 = .ok (.bipush (-11), 2) := by decide +kernel
theorem dX5_refusalOfSheet_29 : decode cX5_refusalOfSheet 29 = .ok (.ireturn, 1) := by decide +kernel
theorem dX5_refusalOfSheet_30 : decode cX5_refusalOfSheet 30 = .ok (.aload_n 0, 1) := by decide +kernel
theorem dX5_refusalOfSheet_31 : decode cX5_refusalOfSheet 31 = .ok (.getfield 41, 3) := by decide +kernel
theorem dX5_refusalOfSheet_34 : decode cX5_refusalOfSheet 34 = .ok (.getfield 228, 3) := by decide +kernel
theorem dX5_refusalOfSheet_37 : decode cX5_refusalOfSheet 37 = .ok (.iload_n 1, 1) := by decide +kernel
theorem dX5_refusalOfSheet_38 : decode cX5_refusalOfSheet 38 = .ok (.iaload, 1) := by decide +kernel
theorem dX5_refusalOfSheet_39 : decode cX5_refusalOfSheet 39 = .ok (.istore_n 2, 1) := by decide +kernel
theorem dX5_refusalOfSheet_40 : decode cX5_refusalOfSheet 40 = .ok (.iload_n 2, 1) := by decide +kernel
theorem dX5_refusalOfSheet_41 : decode cX5_refusalOfSheet 41 = .ok (.iconst 3, 1) := by decide +kernel
theorem dX5_refusalOfSheet_42 : decode cX5_refusalOfSheet 42 = .ok (.irem, 1) := by decide +kernel
theorem dX5_refusalOfSheet_43 : decode cX5_refusalOfSheet 43 = .ok (.ifCond .eq 6, 3) := by decide +kernel
theorem dX5_refusalOfSheet_46 : decode cX5_refusalOfSheet 46 = .ok (.bipush (-2), 2) := by decide +kernel
theorem dX5_refusalOfSheet_48 : decode cX5_refusalOfSheet 48 = .ok (.ireturn, 1) := by decide +kernel
theorem dX5_refusalOfSheet_49 : decode cX5_refusalOfSheet 49 = .ok (.aload_n 0, 1) := by decide +kernel
theorem dX5_refusalOfSheet_50 : decode cX5_refusalOfSheet 50 = .ok (.getfield 41, 3) := by decide +kernel
theorem dX5_refusalOfSheet_53 : decode cX5_refusalOfSheet 53 = .ok (.getfield 235, 3) := by decide +kernel
theorem dX5_refusalOfSheet_56 : decode cX5_refusalOfSheet 56 = .ok (.iload_n 1, 1) := by decide +kernel
theorem dX5_refusalOfSheet_57 : decode cX5_refusalOfSheet 57 = .ok (.aaload, 1) := by decide +kernel
theorem dX5_refusalOfSheet_58 : decode cX5_refusalOfSheet 58 = .ok (.astore_n 3, 1) := by decide +kernel
theorem dX5_refusalOfSheet_59 : decode cX5_refusalOfSheet 59 = .ok (.iconst 0, 1) := by decide +kernel
theorem dX5_refusalOfSheet_60 : decode cX5_refusalOfSheet 60 = .ok (.istore 4, 2) := by decide +kernel
theorem dX5_refusalOfSheet_62 : decode cX5_refusalOfSheet 62 = .ok (.iload 4, 2) := by decide +kernel
theorem dX5_refusalOfSheet_64 : decode cX5_refusalOfSheet 64 = .ok (.iconst 2, 1) := by decide +kernel
theorem dX5_refusalOfSheet_65 : decode cX5_refusalOfSheet 65 = .ok (.iadd, 1) := by decide +kernel
theorem dX5_refusalOfSheet_66 : decode cX5_refusalOfSheet 66 = .ok (.iload_n 2, 1) := by decide +kernel
theorem dX5_refusalOfSheet_67 : decode cX5_refusalOfSheet 67 = .ok (.if_icmp .ge 53, 3) := by decide +kernel
theorem dX5_refusalOfSheet_70 : decode cX5_refusalOfSheet 70 = .ok (.aload_n 0, 1) := by decide +kernel
theorem dX5_refusalOfSheet_71 : decode cX5_refusalOfSheet 71 = .ok (.getfield 28, 3) := by decide +kernel
theorem dX5_refusalOfSheet_74 : decode cX5_refusalOfSheet 74 = .ok (.aload_n 3, 1) := by decide +kernel
theorem dX5_refusalOfSheet_75 : decode cX5_refusalOfSheet 75 = .ok (.iload 4, 2) := by decide +kernel
theorem dX5_refusalOfSheet_77 : decode cX5_refusalOfSheet 77 = .ok (.iaload, 1) := by decide +kernel
theorem dX5_refusalOfSheet_78 : decode cX5_refusalOfSheet 78 = .ok (.invokevirtual 111, 3) := by decide +kernel
theorem dX5_refusalOfSheet_81 : decode cX5_refusalOfSheet 81 = .ok (.ifCond .eq 30, 3) := by decide +kernel
theorem dX5_refusalOfSheet_84 : decode cX5_refusalOfSheet 84 = .ok (.aload_n 3, 1) := by decide +kernel
theorem dX5_refusalOfSheet_85 : decode cX5_refusalOfSheet 85 = .ok (.iload 4, 2) := by decide +kernel
theorem dX5_refusalOfSheet_87 : decode cX5_refusalOfSheet 87 = .ok (.iconst 1, 1) := by decide +kernel
theorem dX5_refusalOfSheet_88 : decode cX5_refusalOfSheet 88 = .ok (.iadd, 1) := by decide +kernel
theorem dX5_refusalOfSheet_89 : decode cX5_refusalOfSheet 89 = .ok (.iaload, 1) := by decide +kernel
theorem dX5_refusalOfSheet_90 : decode cX5_refusalOfSheet 90 = .ok (.bipush 60, 2) := by decide +kernel
theorem dX5_refusalOfSheet_92 : decode cX5_refusalOfSheet 92 = .ok (.invokestatic 86, 3) := by decide +kernel
theorem dX5_refusalOfSheet_95 : decode cX5_refusalOfSheet 95 = .ok (.ifCond .eq 16, 3) := by decide +kernel
theorem dX5_refusalOfSheet_98 : decode cX5_refusalOfSheet 98 = .ok (.aload_n 3, 1) := by decide +kernel
theorem dX5_refusalOfSheet_99 : decode cX5_refusalOfSheet 99 = .ok (.iload 4, 2) := by decide +kernel
theorem dX5_refusalOfSheet_101 : decode cX5_refusalOfSheet 101 = .ok (.iconst 2, 1) := by decide +kernel
theorem dX5_refusalOfSheet_102 : decode cX5_refusalOfSheet 102 = .ok (.iadd, 1) := by decide +kernel
theorem dX5_refusalOfSheet_103 : decode cX5_refusalOfSheet 103 = .ok (.iaload, 1) := by decide +kernel
theorem dX5_refusalOfSheet_104 : decode cX5_refusalOfSheet 104 = .ok (.iconst 1, 1) := by decide +kernel
theorem dX5_refusalOfSheet_105 : decode cX5_refusalOfSheet 105 = .ok (.invokestatic 86, 3) := by decide +kernel
theorem dX5_refusalOfSheet_108 : decode cX5_refusalOfSheet 108 = .ok (.ifCond .ne 6, 3) := by decide +kernel
theorem dX5_refusalOfSheet_111 : decode cX5_refusalOfSheet 111 = .ok (.bipush (-2), 2) := by decide +kernel
theorem dX5_refusalOfSheet_113 : decode cX5_refusalOfSheet 113 = .ok (.ireturn, 1) := by decide +kernel
theorem dX5_refusalOfSheet_114 : decode cX5_refusalOfSheet 114 = .ok (.iinc 4 3, 3) := by decide +kernel
theorem dX5_refusalOfSheet_117 : decode cX5_refusalOfSheet 117 = .ok (.goto (-55), 3) := by decide +kernel
theorem dX5_refusalOfSheet_120 : decode cX5_refusalOfSheet 120 = .ok (.iconst 0, 1) := by decide +kernel
theorem dX5_refusalOfSheet_121 : decode cX5_refusalOfSheet 121 = .ok (.ireturn, 1) := by decide +kernel
set_option maxRecDepth 20000 in
theorem ggX5_refusalOf_X5_refusalOfSheet : GoodIn wsX5_refusalOf wsX5_refusalOfSheet := goodIn_r _ [6, 7, 8, 9, 10, 1, 11, 12, 13, 14, 15, 16, 5, 17, 18, 19, 20, 21, 22, 23, 24, 30, 31, 32, 33, 34, 35, 36, 37, 38, 39, 40, 41, 42, 43, 44, 45, 46, 47, 48, 49, 50, 51, 52] (by decide +kernel) (by decide +kernel)
set_option maxRecDepth 20000 in
theorem gX5_refusalOf_X5_refusalOfSheet : GoodIn wsX5_refusalOf (wsV RX5 193 RX5 yX5_refusalOfSheet wsX5_refusalOfSheet) := goodIn_app (goodIn_of _ (by decide +kernel)) ggX5_refusalOf_X5_refusalOfSheet
set_option maxRecDepth 20000 in
theorem ggX5_refusalOf_X0_hasJudge : GoodIn wsX5_refusalOf wsX0_hasJudge := goodIn_r _ [28, 29, 41, 42, 43, 44, 45, 46, 47, 48, 49, 50, 51, 52] (by decide +kernel) (by decide +kernel)
set_option maxRecDepth 20000 in
theorem gX5_refusalOf_X0_hasJudge : GoodIn wsX5_refusalOf (wsV RX5 94 RX0 yX0_hasJudge wsX0_hasJudge) := goodIn_app (goodIn_of _ (by decide +kernel)) ggX5_refusalOf_X0_hasJudge
theorem dX5_refusalOf_0 : decode cX5_refusalOf 0 = .ok (.aload_n 0, 1) := by decide +kernel
theorem dX5_refusalOf_1 : decode cX5_refusalOf 1 = .ok (.iload_n 1, 1) := by decide +kernel
theorem dX5_refusalOf_2 : decode cX5_refusalOf 2 = .ok (.invokevirtual 193, 3) := by decide +kernel
theorem dX5_refusalOf_5 : decode cX5_refusalOf 5 = .ok (.istore_n 3, 1) := by decide +kernel
theorem dX5_refusalOf_6 : decode cX5_refusalOf 6 = .ok (.iload_n 3, 1) := by decide +kernel
theorem dX5_refusalOf_7 : decode cX5_refusalOf 7 = .ok (.ifCond .eq 5, 3) := by decide +kernel
theorem dX5_refusalOf_10 : decode cX5_refusalOf 10 = .ok (.iload_n 3, 1) := by decide +kernel
theorem dX5_refusalOf_11 : decode cX5_refusalOf 11 = .ok (.ireturn, 1) := by decide +kernel
theorem dX5_refusalOf_12 : decode cX5_refusalOf 12 = .ok (.aload_n 0, 1) := by decide +kernel
theorem dX5_refusalOf_13 : decode cX5_refusalOf 13 = .ok (.getfield 28, 3) := by decide +kernel
theorem dX5_refusalOf_16 : decode cX5_refusalOf 16 = .ok (.iload_n 2, 1) := by decide +kernel
theorem dX5_refusalOf_17 : decode cX5_refusalOf 17 = .ok (.invokevirtual 94, 3) := by decide +kernel
theorem dX5_refusalOf_20 : decode cX5_refusalOf 20 = .ok (.ifCond .eq 7, 3) := by decide +kernel
theorem dX5_refusalOf_23 : decode cX5_refusalOf 23 = .ok (.iconst 0, 1) := by decide +kernel
theorem dX5_refusalOf_24 : decode cX5_refusalOf 24 = .ok (.goto 5, 3) := by decide +kernel
theorem dX5_refusalOf_27 : decode cX5_refusalOf 27 = .ok (.bipush (-5), 2) := by decide +kernel
theorem dX5_refusalOf_29 : decode cX5_refusalOf 29 = .ok (.ireturn, 1) := by decide +kernel
set_option maxRecDepth 20000 in
theorem ggX5_firstOtherwise_X0_go : GoodIn wsX5_firstOtherwise wsX0_go := goodIn_r _ [9, 10, 11, 12, 8, 13, 14, 15, 16, 17, 18, 19, 20, 21, 22, 23, 24, 25, 26, 27, 28, 29, 30, 31, 32, 33, 34, 35, 36, 37, 38, 39, 40, 41, 42, 43, 44, 45, 46, 47, 48, 49, 50, 51, 52, 53, 54, 55, 56, 57, 58, 59, 60, 61, 62, 63, 64, 65, 66, 82, 83, 84, 85, 86, 87, 88, 89, 90, 91, 92, 93, 94, 95, 96, 97, 98] (by decide +kernel) (by decide +kernel)
set_option maxRecDepth 20000 in
theorem gX5_firstOtherwise_X0_go : GoodIn wsX5_firstOtherwise (wsV RX5 140 RX0 yX0_go wsX0_go) := goodIn_app (goodIn_of _ (by decide +kernel)) ggX5_firstOtherwise_X0_go
set_option maxRecDepth 20000 in
theorem ggX5_firstOtherwise_X0_verdict : GoodIn wsX5_firstOtherwise wsX0_verdict := goodIn_r _ [70, 30, 31, 32, 8, 33, 34, 20, 35, 36, 37, 29, 38, 39, 16, 17, 18, 19, 21, 22, 23, 40, 41, 42, 43, 44, 45, 46, 47, 48, 49, 50, 51, 52, 53, 54, 82, 83, 84, 85, 86, 87, 88, 89, 90, 91, 92, 93, 94, 95, 96, 97, 98] (by decide +kernel) (by decide +kernel)
set_option maxRecDepth 20000 in
theorem gX5_firstOtherwise_X0_verdict : GoodIn wsX5_firstOtherwise (wsV RX5 164 RX0 yX0_verdict wsX0_verdict) := goodIn_app (goodIn_of _ (by decide +kernel)) ggX5_firstOtherwise_X0_verdict
theorem dX5_firstOtherwise_0 : decode cX5_firstOtherwise 0 = .ok (.aload_n 0, 1) := by decide +kernel
theorem dX5_firstOtherwise_1 : decode cX5_firstOtherwise 1 = .ok (.getfield 41, 3) := by decide +kernel
theorem dX5_firstOtherwise_4 : decode cX5_firstOtherwise 4 = .ok (.getfield 235, 3) := by decide +kernel
theorem dX5_firstOtherwise_7 : decode cX5_firstOtherwise 7 = .ok (.iload_n 1, 1) := by decide +kernel
theorem dX5_firstOtherwise_8 : decode cX5_firstOtherwise 8 = .ok (.aaload, 1) := by decide +kernel
theorem dX5_firstOtherwise_9 : decode cX5_firstOtherwise 9 = .ok (.astore_n 3, 1) := by decide +kernel
theorem dX5_firstOtherwise_10 : decode cX5_firstOtherwise 10 = .ok (.iconst 0, 1) := by decide +kernel
theorem dX5_firstOtherwise_11 : decode cX5_firstOtherwise 11 = .ok (.istore 4, 2) := by decide +kernel
theorem dX5_firstOtherwise_13 : decode cX5_firstOtherwise 13 = .ok (.iload 4, 2) := by decide +kernel
theorem dX5_firstOtherwise_15 : decode cX5_firstOtherwise 15 = .ok (.iconst 2, 1) := by decide +kernel
theorem dX5_firstOtherwise_16 : decode cX5_firstOtherwise 16 = .ok (.iadd, 1) := by decide +kernel
theorem dX5_firstOtherwise_17 : decode cX5_firstOtherwise 17 = .ok (.aload_n 0, 1) := by decide +kernel
theorem dX5_firstOtherwise_18 : decode cX5_firstOtherwise 18 = .ok (.getfield 41, 3) := by decide +kernel
theorem dX5_firstOtherwise_21 : decode cX5_firstOtherwise 21 = .ok (.getfield 228, 3) := by decide +kernel
theorem dX5_firstOtherwise_24 : decode cX5_firstOtherwise 24 = .ok (.iload_n 1, 1) := by decide +kernel
theorem dX5_firstOtherwise_25 : decode cX5_firstOtherwise 25 = .ok (.iaload, 1) := by decide +kernel
theorem dX5_firstOtherwise_26 : decode cX5_firstOtherwise 26 = .ok (.if_icmp .ge 57, 3) := by decide +kernel
theorem dX5_firstOtherwise_29 : decode cX5_firstOtherwise 29 = .ok (.aload_n 0, 1) := by decide +kernel
theorem dX5_firstOtherwise_30 : decode cX5_firstOtherwise 30 = .ok (.getfield 32, 3) := by decide +kernel
theorem dX5_firstOtherwise_33 : decode cX5_firstOtherwise 33 = .ok (.iload_n 2, 1) := by decide +kernel
theorem dX5_firstOtherwise_34 : decode cX5_firstOtherwise 34 = .ok (.aload_n 3, 1) := by decide +kernel
theorem dX5_firstOtherwise_35 : decode cX5_firstOtherwise 35 = .ok (.iload 4, 2) := by decide +kernel
theorem dX5_firstOtherwise_37 : decode cX5_firstOtherwise 37 = .ok (.iaload, 1) := by decide +kernel
theorem dX5_firstOtherwise_38 : decode cX5_firstOtherwise 38 = .ok (.aload_n 3, 1) := by decide +kernel
theorem dX5_firstOtherwise_39 : decode cX5_firstOtherwise 39 = .ok (.iload 4, 2) := by decide +kernel
theorem dX5_firstOtherwise_41 : decode cX5_firstOtherwise 41 = .ok (.iconst 1, 1) := by decide +kernel
theorem dX5_firstOtherwise_42 : decode cX5_firstOtherwise 42 = .ok (.iadd, 1) := by decide +kernel
theorem dX5_firstOtherwise_43 : decode cX5_firstOtherwise 43 = .ok (.iaload, 1) := by decide +kernel
theorem dX5_firstOtherwise_44 : decode cX5_firstOtherwise 44 = .ok (.invokevirtual 140, 3) := by decide +kernel
theorem dX5_firstOtherwise_47 : decode cX5_firstOtherwise 47 = .ok (.istore 5, 2) := by decide +kernel
theorem dX5_firstOtherwise_49 : decode cX5_firstOtherwise 49 = .ok (.aload_n 0, 1) := by decide +kernel
theorem dX5_firstOtherwise_50 : decode cX5_firstOtherwise 50 = .ok (.getfield 32, 3) := by decide +kernel
theorem dX5_firstOtherwise_53 : decode cX5_firstOtherwise 53 = .ok (.iload_n 2, 1) := by decide +kernel
theorem dX5_firstOtherwise_54 : decode cX5_firstOtherwise 54 = .ok (.aload_n 3, 1) := by decide +kernel
theorem dX5_firstOtherwise_55 : decode cX5_firstOtherwise 55 = .ok (.iload 4, 2) := by decide +kernel
theorem dX5_firstOtherwise_57 : decode cX5_firstOtherwise 57 = .ok (.iaload, 1) := by decide +kernel
theorem dX5_firstOtherwise_58 : decode cX5_firstOtherwise 58 = .ok (.iload 5, 2) := by decide +kernel
theorem dX5_firstOtherwise_60 : decode cX5_firstOtherwise 60 = .ok (.invokevirtual 164, 3) := by decide +kernel
theorem dX5_firstOtherwise_63 : decode cX5_firstOtherwise 63 = .ok (.aload_n 3, 1) := by decide +kernel
theorem dX5_firstOtherwise_64 : decode cX5_firstOtherwise 64 = .ok (.iload 4, 2) := by decide +kernel
theorem dX5_firstOtherwise_66 : decode cX5_firstOtherwise 66 = .ok (.iconst 2, 1) := by decide +kernel
theorem dX5_firstOtherwise_67 : decode cX5_firstOtherwise 67 = .ok (.iadd, 1) := by decide +kernel
theorem dX5_firstOtherwise_68 : decode cX5_firstOtherwise 68 = .ok (.iaload, 1) := by decide +kernel
theorem dX5_firstOtherwise_69 : decode cX5_firstOtherwise 69 = .ok (.if_icmp .eq 8, 3) := by decide +kernel
theorem dX5_firstOtherwise_72 : decode cX5_firstOtherwise 72 = .ok (.iload 4, 2) := by decide +kernel
theorem dX5_firstOtherwise_74 : decode cX5_firstOtherwise 74 = .ok (.iconst 3, 1) := by decide +kernel
theorem dX5_firstOtherwise_75 : decode cX5_firstOtherwise 75 = .ok (.idiv, 1) := by decide +kernel
theorem dX5_firstOtherwise_76 : decode cX5_firstOtherwise 76 = .ok (.ireturn, 1) := by decide +kernel
theorem dX5_firstOtherwise_77 : decode cX5_firstOtherwise 77 = .ok (.iinc 4 3, 3) := by decide +kernel
theorem dX5_firstOtherwise_80 : decode cX5_firstOtherwise 80 = .ok (.goto (-67), 3) := by decide +kernel
theorem dX5_firstOtherwise_83 : decode cX5_firstOtherwise 83 = .ok (.iconst (-1), 1) := by decide +kernel
theorem dX5_firstOtherwise_84 : decode cX5_firstOtherwise 84 = .ok (.ireturn, 1) := by decide +kernel
set_option maxRecDepth 20000 in
theorem ggX6_init_X6_text : GoodIn wsX6_init wsX6_text := goodIn_r _ [34, 35, 36, 37, 38, 39, 11, 29, 40, 41, 42, 43, 33, 44, 9, 45, 46, 47, 48, 49, 50, 51, 18, 52, 53, 54, 55, 56, 57, 58, 59, 60, 61, 62, 10, 63, 64, 65, 66, 19, 67, 68, 69, 70, 71, 72, 73, 74, 75, 76, 77, 78, 79, 80, 81, 82, 83, 84, 85, 86, 87, 88, 89, 90, 91, 92, 93, 94, 95, 96, 97, 98, 99, 100, 101, 102, 103, 104, 105, 106, 107, 108, 109, 110, 111, 112, 113, 114, 115, 116, 117, 118, 119, 120, 121, 122, 123, 124, 125, 126, 127] (by decide +kernel) (by decide +kernel)
set_option maxRecDepth 20000 in
theorem gX6_init_X6_text : GoodIn wsX6_init (wsV RX6 84 RX6 yX6_text wsX6_text) := goodIn_app (goodIn_of _ (by decide +kernel)) ggX6_init_X6_text
