theorem zd02dec3_0 : decode cX6_count 0 = .ok (.iload_n 1, 1) ∧ decode cX6_count 1 = .ok (.tableswitch 60 0 4 #[35, 40, 45, 50, 55], 35) ∧ decode cX6_count 36 = .ok (.aload_n 0, 1) ∧ decode cX6_count 37 = .ok (.getfield 88, 3) ∧ decode cX6_count 40 = .ok (.ireturn, 1) ∧ decode cX6_count 41 = .ok (.aload_n 0, 1) ∧ decode cX6_count 42 = .ok (.getfield 95, 3) ∧ decode cX6_count 45 = .ok (.ireturn, 1) ∧ decode cX6_count 46 = .ok (.aload_n 0, 1) ∧ decode cX6_count 47 = .ok (.getfield 98, 3) ∧ decode cX6_count 50 = .ok (.ireturn, 1) ∧ decode cX6_count 51 = .ok (.aload_n 0, 1) := by decide +kernel
theorem dX6_count_0 : decode cX6_count 0 = .ok (.iload_n 1, 1) := zd02dec3_0.1
theorem dX6_count_1 : decode cX6_count 1 = .ok (.tableswitch 60 0 4 #[35, 40, 45, 50, 55], 35) := zd02dec3_0.2.1
theorem dX6_count_36 : decode cX6_count 36 = .ok (.aload_n 0, 1) := zd02dec3_0.2.2.1
theorem dX6_count_37 : decode cX6_count 37 = .ok (.getfield 88, 3) := zd02dec3_0.2.2.2.1
theorem dX6_count_40 : decode cX6_count 40 = .ok (.ireturn, 1) := zd02dec3_0.2.2.2.2.1
theorem dX6_count_41 : decode cX6_count 41 = .ok (.aload_n 0, 1) := zd02dec3_0.2.2.2.2.2.1
theorem dX6_count_42 : decode cX6_count 42 = .ok (.getfield 95, 3) := zd02dec3_0.2.2.2.2.2.2.1
theorem dX6_count_45 : decode cX6_count 45 = .ok (.ireturn, 1) := zd02dec3_0.2.2.2.2.2.2.2.1
theorem dX6_count_46 : decode cX6_count 46 = .ok (.aload_n 0, 1) := zd02dec3_0.2.2.2.2.2.2.2.2.1
theorem dX6_count_47 : decode cX6_count 47 = .ok (.getfield 98, 3) := zd02dec3_0.2.2.2.2.2.2.2.2.2.1
theorem dX6_count_50 : decode cX6_count 50 = .ok (.ireturn, 1) := zd02dec3_0.2.2.2.2.2.2.2.2.2.2.1
theorem dX6_count_51 : decode cX6_count 51 = .ok (.aload_n 0, 1) := zd02dec3_0.2.2.2.2.2.2.2.2.2.2.2
theorem zd02dec3_1 : decode cX6_count 52 = .ok (.getfield 101, 3) ∧ decode cX6_count 55 = .ok (.ireturn, 1) ∧ decode cX6_count 56 = .ok (.aload_n 0, 1) ∧ decode cX6_count 57 = .ok (.getfield 80, 3) ∧ decode cX6_count 60 = .ok (.ireturn, 1) ∧ decode cX6_count 61 = .ok (.bipush (-2), 2) ∧ decode cX6_count 63 = .ok (.ireturn, 1) := by decide +kernel
theorem dX6_count_52 : decode cX6_count 52 = .ok (.getfield 101, 3) := zd02dec3_1.1
theorem dX6_count_55 : decode cX6_count 55 = .ok (.ireturn, 1) := zd02dec3_1.2.1
theorem dX6_count_56 : decode cX6_count 56 = .ok (.aload_n 0, 1) := zd02dec3_1.2.2.1
theorem dX6_count_57 : decode cX6_count 57 = .ok (.getfield 80, 3) := zd02dec3_1.2.2.2.1
theorem dX6_count_60 : decode cX6_count 60 = .ok (.ireturn, 1) := zd02dec3_1.2.2.2.2.1
theorem dX6_count_61 : decode cX6_count 61 = .ok (.bipush (-2), 2) := zd02dec3_1.2.2.2.2.2.1
theorem dX6_count_63 : decode cX6_count 63 = .ok (.ireturn, 1) := zd02dec3_1.2.2.2.2.2.2
theorem zd02dec3_2 : decode cX6_judge 0 = .ok (.iload_n 1, 1) ∧ decode cX6_judge 1 = .ok (.iconst 0, 1) ∧ decode cX6_judge 2 = .ok (.bipush 20, 2) ∧ decode cX6_judge 4 = .ok (.invokestatic 91, 3) ∧ decode cX6_judge 7 = .ok (.ifCond .ne 6, 3) ∧ decode cX6_judge 10 = .ok (.bipush (-2), 2) ∧ decode cX6_judge 12 = .ok (.ireturn, 1) ∧ decode cX6_judge 13 = .ok (.aload_n 0, 1) ∧ decode cX6_judge 14 = .ok (.getfield 95, 3) ∧ decode cX6_judge 17 = .ok (.iconst 4, 1) ∧ decode cX6_judge 18 = .ok (.if_icmp .ne 6, 3) ∧ decode cX6_judge 21 = .ok (.bipush (-4), 2) := by decide +kernel
theorem dX6_judge_0 : decode cX6_judge 0 = .ok (.iload_n 1, 1) := zd02dec3_2.1
theorem dX6_judge_1 : decode cX6_judge 1 = .ok (.iconst 0, 1) := zd02dec3_2.2.1
theorem dX6_judge_2 : decode cX6_judge 2 = .ok (.bipush 20, 2) := zd02dec3_2.2.2.1
theorem dX6_judge_4 : decode cX6_judge 4 = .ok (.invokestatic 91, 3) := zd02dec3_2.2.2.2.1
theorem dX6_judge_7 : decode cX6_judge 7 = .ok (.ifCond .ne 6, 3) := zd02dec3_2.2.2.2.2.1
theorem dX6_judge_10 : decode cX6_judge 10 = .ok (.bipush (-2), 2) := zd02dec3_2.2.2.2.2.2.1
theorem dX6_judge_12 : decode cX6_judge 12 = .ok (.ireturn, 1) := zd02dec3_2.2.2.2.2.2.2.1
theorem dX6_judge_13 : decode cX6_judge 13 = .ok (.aload_n 0, 1) := zd02dec3_2.2.2.2.2.2.2.2.1
theorem dX6_judge_14 : decode cX6_judge 14 = .ok (.getfield 95, 3) := zd02dec3_2.2.2.2.2.2.2.2.2.1
theorem dX6_judge_17 : decode cX6_judge 17 = .ok (.iconst 4, 1) := zd02dec3_2.2.2.2.2.2.2.2.2.2.1
theorem dX6_judge_18 : decode cX6_judge 18 = .ok (.if_icmp .ne 6, 3) := zd02dec3_2.2.2.2.2.2.2.2.2.2.2.1
theorem dX6_judge_21 : decode cX6_judge 21 = .ok (.bipush (-4), 2) := zd02dec3_2.2.2.2.2.2.2.2.2.2.2.2
theorem zd02dec3_3 : decode cX6_judge 23 = .ok (.ireturn, 1) ∧ decode cX6_judge 24 = .ok (.aload_n 0, 1) ∧ decode cX6_judge 25 = .ok (.getfield 19, 3) ∧ decode cX6_judge 28 = .ok (.iconst 3, 1) ∧ decode cX6_judge 29 = .ok (.aload_n 0, 1) ∧ decode cX6_judge 30 = .ok (.getfield 95, 3) ∧ decode cX6_judge 33 = .ok (.imul, 1) ∧ decode cX6_judge 34 = .ok (.iload_n 1, 1) ∧ decode cX6_judge 35 = .ok (.iastore, 1) ∧ decode cX6_judge 36 = .ok (.aload_n 0, 1) ∧ decode cX6_judge 37 = .ok (.getfield 19, 3) ∧ decode cX6_judge 40 = .ok (.iconst 3, 1) := by decide +kernel
theorem dX6_judge_23 : decode cX6_judge 23 = .ok (.ireturn, 1) := zd02dec3_3.1
theorem dX6_judge_24 : decode cX6_judge 24 = .ok (.aload_n 0, 1) := zd02dec3_3.2.1
theorem dX6_judge_25 : decode cX6_judge 25 = .ok (.getfield 19, 3) := zd02dec3_3.2.2.1
theorem dX6_judge_28 : decode cX6_judge 28 = .ok (.iconst 3, 1) := zd02dec3_3.2.2.2.1
theorem dX6_judge_29 : decode cX6_judge 29 = .ok (.aload_n 0, 1) := zd02dec3_3.2.2.2.2.1
theorem dX6_judge_30 : decode cX6_judge 30 = .ok (.getfield 95, 3) := zd02dec3_3.2.2.2.2.2.1
theorem dX6_judge_33 : decode cX6_judge 33 = .ok (.imul, 1) := zd02dec3_3.2.2.2.2.2.2.1
theorem dX6_judge_34 : decode cX6_judge 34 = .ok (.iload_n 1, 1) := zd02dec3_3.2.2.2.2.2.2.2.1
theorem dX6_judge_35 : decode cX6_judge 35 = .ok (.iastore, 1) := zd02dec3_3.2.2.2.2.2.2.2.2.1
theorem dX6_judge_36 : decode cX6_judge 36 = .ok (.aload_n 0, 1) := zd02dec3_3.2.2.2.2.2.2.2.2.2.1
theorem dX6_judge_37 : decode cX6_judge 37 = .ok (.getfield 19, 3) := zd02dec3_3.2.2.2.2.2.2.2.2.2.2.1
theorem dX6_judge_40 : decode cX6_judge 40 = .ok (.iconst 3, 1) := zd02dec3_3.2.2.2.2.2.2.2.2.2.2.2
theorem zd02dec3_4 : decode cX6_judge 41 = .ok (.aload_n 0, 1) ∧ decode cX6_judge 42 = .ok (.getfield 95, 3) ∧ decode cX6_judge 45 = .ok (.imul, 1) ∧ decode cX6_judge 46 = .ok (.iconst 1, 1) ∧ decode cX6_judge 47 = .ok (.iadd, 1) ∧ decode cX6_judge 48 = .ok (.iconst 0, 1) ∧ decode cX6_judge 49 = .ok (.iastore, 1) ∧ decode cX6_judge 50 = .ok (.aload_n 0, 1) ∧ decode cX6_judge 51 = .ok (.getfield 19, 3) ∧ decode cX6_judge 54 = .ok (.iconst 3, 1) ∧ decode cX6_judge 55 = .ok (.aload_n 0, 1) ∧ decode cX6_judge 56 = .ok (.getfield 95, 3) := by decide +kernel
theorem dX6_judge_41 : decode cX6_judge 41 = .ok (.aload_n 0, 1) := zd02dec3_4.1
theorem dX6_judge_42 : decode cX6_judge 42 = .ok (.getfield 95, 3) := zd02dec3_4.2.1
theorem dX6_judge_45 : decode cX6_judge 45 = .ok (.imul, 1) := zd02dec3_4.2.2.1
theorem dX6_judge_46 : decode cX6_judge 46 = .ok (.iconst 1, 1) := zd02dec3_4.2.2.2.1
theorem dX6_judge_47 : decode cX6_judge 47 = .ok (.iadd, 1) := zd02dec3_4.2.2.2.2.1
theorem dX6_judge_48 : decode cX6_judge 48 = .ok (.iconst 0, 1) := zd02dec3_4.2.2.2.2.2.1
theorem dX6_judge_49 : decode cX6_judge 49 = .ok (.iastore, 1) := zd02dec3_4.2.2.2.2.2.2.1
theorem dX6_judge_50 : decode cX6_judge 50 = .ok (.aload_n 0, 1) := zd02dec3_4.2.2.2.2.2.2.2.1
theorem dX6_judge_51 : decode cX6_judge 51 = .ok (.getfield 19, 3) := zd02dec3_4.2.2.2.2.2.2.2.2.1
theorem dX6_judge_54 : decode cX6_judge 54 = .ok (.iconst 3, 1) := zd02dec3_4.2.2.2.2.2.2.2.2.2.1
theorem dX6_judge_55 : decode cX6_judge 55 = .ok (.aload_n 0, 1) := zd02dec3_4.2.2.2.2.2.2.2.2.2.2.1
theorem dX6_judge_56 : decode cX6_judge 56 = .ok (.getfield 95, 3) := zd02dec3_4.2.2.2.2.2.2.2.2.2.2.2
theorem zd02dec3_5 : decode cX6_judge 59 = .ok (.imul, 1) ∧ decode cX6_judge 60 = .ok (.iconst 2, 1) ∧ decode cX6_judge 61 = .ok (.iadd, 1) ∧ decode cX6_judge 62 = .ok (.iconst 0, 1) ∧ decode cX6_judge 63 = .ok (.iastore, 1) ∧ decode cX6_judge 64 = .ok (.aload_n 0, 1) ∧ decode cX6_judge 65 = .ok (.dup, 1) ∧ decode cX6_judge 66 = .ok (.getfield 95, 3) ∧ decode cX6_judge 69 = .ok (.iconst 1, 1) ∧ decode cX6_judge 70 = .ok (.iadd, 1) ∧ decode cX6_judge 71 = .ok (.putfield 95, 3) ∧ decode cX6_judge 74 = .ok (.aload_n 0, 1) := by decide +kernel
theorem dX6_judge_59 : decode cX6_judge 59 = .ok (.imul, 1) := zd02dec3_5.1
theorem dX6_judge_60 : decode cX6_judge 60 = .ok (.iconst 2, 1) := zd02dec3_5.2.1
theorem dX6_judge_61 : decode cX6_judge 61 = .ok (.iadd, 1) := zd02dec3_5.2.2.1
theorem dX6_judge_62 : decode cX6_judge 62 = .ok (.iconst 0, 1) := zd02dec3_5.2.2.2.1
theorem dX6_judge_63 : decode cX6_judge 63 = .ok (.iastore, 1) := zd02dec3_5.2.2.2.2.1
theorem dX6_judge_64 : decode cX6_judge 64 = .ok (.aload_n 0, 1) := zd02dec3_5.2.2.2.2.2.1
theorem dX6_judge_65 : decode cX6_judge 65 = .ok (.dup, 1) := zd02dec3_5.2.2.2.2.2.2.1
theorem dX6_judge_66 : decode cX6_judge 66 = .ok (.getfield 95, 3) := zd02dec3_5.2.2.2.2.2.2.2.1
theorem dX6_judge_69 : decode cX6_judge 69 = .ok (.iconst 1, 1) := zd02dec3_5.2.2.2.2.2.2.2.2.1
theorem dX6_judge_70 : decode cX6_judge 70 = .ok (.iadd, 1) := zd02dec3_5.2.2.2.2.2.2.2.2.2.1
theorem dX6_judge_71 : decode cX6_judge 71 = .ok (.putfield 95, 3) := zd02dec3_5.2.2.2.2.2.2.2.2.2.2.1
theorem dX6_judge_74 : decode cX6_judge 74 = .ok (.aload_n 0, 1) := zd02dec3_5.2.2.2.2.2.2.2.2.2.2.2
theorem zd02dec3_6 : decode cX6_judge 75 = .ok (.getfield 95, 3) ∧ decode cX6_judge 78 = .ok (.iconst 1, 1) ∧ decode cX6_judge 79 = .ok (.isub, 1) ∧ decode cX6_judge 80 = .ok (.ireturn, 1) := by decide +kernel
theorem dX6_judge_75 : decode cX6_judge 75 = .ok (.getfield 95, 3) := zd02dec3_6.1
theorem dX6_judge_78 : decode cX6_judge 78 = .ok (.iconst 1, 1) := zd02dec3_6.2.1
theorem dX6_judge_79 : decode cX6_judge 79 = .ok (.isub, 1) := zd02dec3_6.2.2.1
theorem dX6_judge_80 : decode cX6_judge 80 = .ok (.ireturn, 1) := zd02dec3_6.2.2.2
theorem zd02dec3_7 : decode cX6_shoe 0 = .ok (.aload_n 0, 1) ∧ decode cX6_shoe 1 = .ok (.iload_n 1, 1) ∧ decode cX6_shoe 2 = .ok (.invokevirtual 104, 3) ∧ decode cX6_shoe 5 = .ok (.ifCond .ne 6, 3) ∧ decode cX6_shoe 8 = .ok (.bipush (-5), 2) ∧ decode cX6_shoe 10 = .ok (.ireturn, 1) ∧ decode cX6_shoe 11 = .ok (.iload_n 2, 1) ∧ decode cX6_shoe 12 = .ok (.iconst 0, 1) ∧ decode cX6_shoe 13 = .ok (.iconst 1, 1) ∧ decode cX6_shoe 14 = .ok (.invokestatic 91, 3) ∧ decode cX6_shoe 17 = .ok (.ifCond .eq 23, 3) ∧ decode cX6_shoe 20 = .ok (.iload_n 3, 1) := by decide +kernel
theorem dX6_shoe_0 : decode cX6_shoe 0 = .ok (.aload_n 0, 1) := zd02dec3_7.1
theorem dX6_shoe_1 : decode cX6_shoe 1 = .ok (.iload_n 1, 1) := zd02dec3_7.2.1
theorem dX6_shoe_2 : decode cX6_shoe 2 = .ok (.invokevirtual 104, 3) := zd02dec3_7.2.2.1
theorem dX6_shoe_5 : decode cX6_shoe 5 = .ok (.ifCond .ne 6, 3) := zd02dec3_7.2.2.2.1
theorem dX6_shoe_8 : decode cX6_shoe 8 = .ok (.bipush (-5), 2) := zd02dec3_7.2.2.2.2.1
theorem dX6_shoe_10 : decode cX6_shoe 10 = .ok (.ireturn, 1) := zd02dec3_7.2.2.2.2.2.1
theorem dX6_shoe_11 : decode cX6_shoe 11 = .ok (.iload_n 2, 1) := zd02dec3_7.2.2.2.2.2.2.1
theorem dX6_shoe_12 : decode cX6_shoe 12 = .ok (.iconst 0, 1) := zd02dec3_7.2.2.2.2.2.2.2.1
theorem dX6_shoe_13 : decode cX6_shoe 13 = .ok (.iconst 1, 1) := zd02dec3_7.2.2.2.2.2.2.2.2.1
theorem dX6_shoe_14 : decode cX6_shoe 14 = .ok (.invokestatic 91, 3) := zd02dec3_7.2.2.2.2.2.2.2.2.2.1
theorem dX6_shoe_17 : decode cX6_shoe 17 = .ok (.ifCond .eq 23, 3) := zd02dec3_7.2.2.2.2.2.2.2.2.2.2.1
theorem dX6_shoe_20 : decode cX6_shoe 20 = .ok (.iload_n 3, 1) := zd02dec3_7.2.2.2.2.2.2.2.2.2.2.2
theorem zd02dec3_8 : decode cX6_shoe 21 = .ok (.iconst 0, 1) ∧ decode cX6_shoe 22 = .ok (.iload_n 2, 1) ∧ decode cX6_shoe 23 = .ok (.ifCond .ne 8, 3) ∧ decode cX6_shoe 26 = .ok (.bipush 20, 2) ∧ decode cX6_shoe 28 = .ok (.goto 6, 3) ∧ decode cX6_shoe 31 = .ok (.sipush 999, 3) ∧ decode cX6_shoe 34 = .ok (.invokestatic 91, 3) ∧ decode cX6_shoe 37 = .ok (.ifCond .ne 6, 3) ∧ decode cX6_shoe 40 = .ok (.bipush (-7), 2) ∧ decode cX6_shoe 42 = .ok (.ireturn, 1) ∧ decode cX6_shoe 43 = .ok (.aload_n 0, 1) ∧ decode cX6_shoe 44 = .ok (.getfield 19, 3) := by decide +kernel
theorem dX6_shoe_21 : decode cX6_shoe 21 = .ok (.iconst 0, 1) := zd02dec3_8.1
theorem dX6_shoe_22 : decode cX6_shoe 22 = .ok (.iload_n 2, 1) := zd02dec3_8.2.1
theorem dX6_shoe_23 : decode cX6_shoe 23 = .ok (.ifCond .ne 8, 3) := zd02dec3_8.2.2.1
theorem dX6_shoe_26 : decode cX6_shoe 26 = .ok (.bipush 20, 2) := zd02dec3_8.2.2.2.1
theorem dX6_shoe_28 : decode cX6_shoe 28 = .ok (.goto 6, 3) := zd02dec3_8.2.2.2.2.1
theorem dX6_shoe_31 : decode cX6_shoe 31 = .ok (.sipush 999, 3) := zd02dec3_8.2.2.2.2.2.1
theorem dX6_shoe_34 : decode cX6_shoe 34 = .ok (.invokestatic 91, 3) := zd02dec3_8.2.2.2.2.2.2.1
theorem dX6_shoe_37 : decode cX6_shoe 37 = .ok (.ifCond .ne 6, 3) := zd02dec3_8.2.2.2.2.2.2.2.1
theorem dX6_shoe_40 : decode cX6_shoe 40 = .ok (.bipush (-7), 2) := zd02dec3_8.2.2.2.2.2.2.2.2.1
theorem dX6_shoe_42 : decode cX6_shoe 42 = .ok (.ireturn, 1) := zd02dec3_8.2.2.2.2.2.2.2.2.2.1
theorem dX6_shoe_43 : decode cX6_shoe 43 = .ok (.aload_n 0, 1) := zd02dec3_8.2.2.2.2.2.2.2.2.2.2.1
theorem dX6_shoe_44 : decode cX6_shoe 44 = .ok (.getfield 19, 3) := zd02dec3_8.2.2.2.2.2.2.2.2.2.2.2
theorem zd02dec3_9 : decode cX6_shoe 47 = .ok (.iconst 3, 1) ∧ decode cX6_shoe 48 = .ok (.iload_n 1, 1) ∧ decode cX6_shoe 49 = .ok (.imul, 1) ∧ decode cX6_shoe 50 = .ok (.iload_n 2, 1) ∧ decode cX6_shoe 51 = .ok (.iadd, 1) ∧ decode cX6_shoe 52 = .ok (.iaload, 1) ∧ decode cX6_shoe 53 = .ok (.istore 4, 2) ∧ decode cX6_shoe 55 = .ok (.aload_n 0, 1) ∧ decode cX6_shoe 56 = .ok (.getfield 19, 3) ∧ decode cX6_shoe 59 = .ok (.iconst 3, 1) ∧ decode cX6_shoe 60 = .ok (.iload_n 1, 1) ∧ decode cX6_shoe 61 = .ok (.imul, 1) := by decide +kernel
theorem dX6_shoe_47 : decode cX6_shoe 47 = .ok (.iconst 3, 1) := zd02dec3_9.1
theorem dX6_shoe_48 : decode cX6_shoe 48 = .ok (.iload_n 1, 1) := zd02dec3_9.2.1
theorem dX6_shoe_49 : decode cX6_shoe 49 = .ok (.imul, 1) := zd02dec3_9.2.2.1
theorem dX6_shoe_50 : decode cX6_shoe 50 = .ok (.iload_n 2, 1) := zd02dec3_9.2.2.2.1
theorem dX6_shoe_51 : decode cX6_shoe 51 = .ok (.iadd, 1) := zd02dec3_9.2.2.2.2.1
theorem dX6_shoe_52 : decode cX6_shoe 52 = .ok (.iaload, 1) := zd02dec3_9.2.2.2.2.2.1
theorem dX6_shoe_53 : decode cX6_shoe 53 = .ok (.istore 4, 2) := zd02dec3_9.2.2.2.2.2.2.1
theorem dX6_shoe_55 : decode cX6_shoe 55 = .ok (.aload_n 0, 1) := zd02dec3_9.2.2.2.2.2.2.2.1
theorem dX6_shoe_56 : decode cX6_shoe 56 = .ok (.getfield 19, 3) := zd02dec3_9.2.2.2.2.2.2.2.2.1
theorem dX6_shoe_59 : decode cX6_shoe 59 = .ok (.iconst 3, 1) := zd02dec3_9.2.2.2.2.2.2.2.2.2.1
theorem dX6_shoe_60 : decode cX6_shoe 60 = .ok (.iload_n 1, 1) := zd02dec3_9.2.2.2.2.2.2.2.2.2.2.1
theorem dX6_shoe_61 : decode cX6_shoe 61 = .ok (.imul, 1) := zd02dec3_9.2.2.2.2.2.2.2.2.2.2.2
theorem zd02dec3_10 : decode cX6_shoe 62 = .ok (.iload_n 2, 1) ∧ decode cX6_shoe 63 = .ok (.iadd, 1) ∧ decode cX6_shoe 64 = .ok (.iload_n 3, 1) ∧ decode cX6_shoe 65 = .ok (.iastore, 1) ∧ decode cX6_shoe 66 = .ok (.iload 4, 2) ∧ decode cX6_shoe 68 = .ok (.ireturn, 1) := by decide +kernel
theorem dX6_shoe_62 : decode cX6_shoe 62 = .ok (.iload_n 2, 1) := zd02dec3_10.1
theorem dX6_shoe_63 : decode cX6_shoe 63 = .ok (.iadd, 1) := zd02dec3_10.2.1
theorem dX6_shoe_64 : decode cX6_shoe 64 = .ok (.iload_n 3, 1) := zd02dec3_10.2.2.1
theorem dX6_shoe_65 : decode cX6_shoe 65 = .ok (.iastore, 1) := zd02dec3_10.2.2.2.1
theorem dX6_shoe_66 : decode cX6_shoe 66 = .ok (.iload 4, 2) := zd02dec3_10.2.2.2.2.1
theorem dX6_shoe_68 : decode cX6_shoe 68 = .ok (.ireturn, 1) := zd02dec3_10.2.2.2.2.2
theorem zd02dec3_11 : decode cX6_bench 0 = .ok (.aload_n 0, 1) ∧ decode cX6_bench 1 = .ok (.iload_n 1, 1) ∧ decode cX6_bench 2 = .ok (.invokevirtual 104, 3) ∧ decode cX6_bench 5 = .ok (.ifCond .ne 6, 3) ∧ decode cX6_bench 8 = .ok (.bipush (-5), 2) ∧ decode cX6_bench 10 = .ok (.ireturn, 1) ∧ decode cX6_bench 11 = .ok (.iload_n 2, 1) ∧ decode cX6_bench 12 = .ok (.iconst 0, 1) ∧ decode cX6_bench 13 = .ok (.iconst 2, 1) ∧ decode cX6_bench 14 = .ok (.invokestatic 91, 3) ∧ decode cX6_bench 17 = .ok (.ifCond .eq 16, 3) ∧ decode cX6_bench 20 = .ok (.aload_n 0, 1) := by decide +kernel
theorem dX6_bench_0 : decode cX6_bench 0 = .ok (.aload_n 0, 1) := zd02dec3_11.1
theorem dX6_bench_1 : decode cX6_bench 1 = .ok (.iload_n 1, 1) := zd02dec3_11.2.1
theorem dX6_bench_2 : decode cX6_bench 2 = .ok (.invokevirtual 104, 3) := zd02dec3_11.2.2.1
theorem dX6_bench_5 : decode cX6_bench 5 = .ok (.ifCond .ne 6, 3) := zd02dec3_11.2.2.2.1
theorem dX6_bench_8 : decode cX6_bench 8 = .ok (.bipush (-5), 2) := zd02dec3_11.2.2.2.2.1
theorem dX6_bench_10 : decode cX6_bench 10 = .ok (.ireturn, 1) := zd02dec3_11.2.2.2.2.2.1
theorem dX6_bench_11 : decode cX6_bench 11 = .ok (.iload_n 2, 1) := zd02dec3_11.2.2.2.2.2.2.1
theorem dX6_bench_12 : decode cX6_bench 12 = .ok (.iconst 0, 1) := zd02dec3_11.2.2.2.2.2.2.2.1
theorem dX6_bench_13 : decode cX6_bench 13 = .ok (.iconst 2, 1) := zd02dec3_11.2.2.2.2.2.2.2.2.1
theorem dX6_bench_14 : decode cX6_bench 14 = .ok (.invokestatic 91, 3) := zd02dec3_11.2.2.2.2.2.2.2.2.2.1
theorem dX6_bench_17 : decode cX6_bench 17 = .ok (.ifCond .eq 16, 3) := zd02dec3_11.2.2.2.2.2.2.2.2.2.2.1
theorem dX6_bench_20 : decode cX6_bench 20 = .ok (.aload_n 0, 1) := zd02dec3_11.2.2.2.2.2.2.2.2.2.2.2
theorem zd02dec3_12 : decode cX6_bench 21 = .ok (.getfield 19, 3) ∧ decode cX6_bench 24 = .ok (.iconst 3, 1) ∧ decode cX6_bench 25 = .ok (.iload_n 1, 1) ∧ decode cX6_bench 26 = .ok (.imul, 1) ∧ decode cX6_bench 27 = .ok (.iload_n 2, 1) ∧ decode cX6_bench 28 = .ok (.iadd, 1) ∧ decode cX6_bench 29 = .ok (.iaload, 1) ∧ decode cX6_bench 30 = .ok (.goto 5, 3) ∧ decode cX6_bench 33 = .ok (.bipush (-7), 2) ∧ decode cX6_bench 35 = .ok (.ireturn, 1) := by decide +kernel
theorem dX6_bench_21 : decode cX6_bench 21 = .ok (.getfield 19, 3) := zd02dec3_12.1
theorem dX6_bench_24 : decode cX6_bench 24 = .ok (.iconst 3, 1) := zd02dec3_12.2.1
theorem dX6_bench_25 : decode cX6_bench 25 = .ok (.iload_n 1, 1) := zd02dec3_12.2.2.1
theorem dX6_bench_26 : decode cX6_bench 26 = .ok (.imul, 1) := zd02dec3_12.2.2.2.1
theorem dX6_bench_27 : decode cX6_bench 27 = .ok (.iload_n 2, 1) := zd02dec3_12.2.2.2.2.1
theorem dX6_bench_28 : decode cX6_bench 28 = .ok (.iadd, 1) := zd02dec3_12.2.2.2.2.2.1
theorem dX6_bench_29 : decode cX6_bench 29 = .ok (.iaload, 1) := zd02dec3_12.2.2.2.2.2.2.1
theorem dX6_bench_30 : decode cX6_bench 30 = .ok (.goto 5, 3) := zd02dec3_12.2.2.2.2.2.2.2.1
theorem dX6_bench_33 : decode cX6_bench 33 = .ok (.bipush (-7), 2) := zd02dec3_12.2.2.2.2.2.2.2.2.1
theorem dX6_bench_35 : decode cX6_bench 35 = .ok (.ireturn, 1) := zd02dec3_12.2.2.2.2.2.2.2.2.2
theorem zd02dec3_13 : decode cX6_isByte 0 = .ok (.iload_n 0, 1) ∧ decode cX6_isByte 1 = .ok (.iconst 0, 1) ∧ decode cX6_isByte 2 = .ok (.sipush 255, 3) ∧ decode cX6_isByte 5 = .ok (.invokestatic 91, 3) ∧ decode cX6_isByte 8 = .ok (.ireturn, 1) := by decide +kernel
theorem dX6_isByte_0 : decode cX6_isByte 0 = .ok (.iload_n 0, 1) := zd02dec3_13.1
theorem dX6_isByte_1 : decode cX6_isByte 1 = .ok (.iconst 0, 1) := zd02dec3_13.2.1
theorem dX6_isByte_2 : decode cX6_isByte 2 = .ok (.sipush 255, 3) := zd02dec3_13.2.2.1
theorem dX6_isByte_5 : decode cX6_isByte 5 = .ok (.invokestatic 91, 3) := zd02dec3_13.2.2.2.1
theorem dX6_isByte_8 : decode cX6_isByte 8 = .ok (.ireturn, 1) := zd02dec3_13.2.2.2.2
theorem zd02dec3_14 : decode cX6_feed 0 = .ok (.iload_n 1, 1) ∧ decode cX6_feed 1 = .ok (.iconst 1, 1) ∧ decode cX6_feed 2 = .ok (.iconst 5, 1) ∧ decode cX6_feed 3 = .ok (.invokestatic 91, 3) ∧ decode cX6_feed 6 = .ok (.ifCond .eq 41, 3) ∧ decode cX6_feed 9 = .ok (.iload_n 2, 1) ∧ decode cX6_feed 10 = .ok (.invokestatic 108, 3) ∧ decode cX6_feed 13 = .ok (.ifCond .eq 34, 3) ∧ decode cX6_feed 16 = .ok (.iload_n 3, 1) ∧ decode cX6_feed 17 = .ok (.invokestatic 108, 3) ∧ decode cX6_feed 20 = .ok (.ifCond .eq 27, 3) ∧ decode cX6_feed 23 = .ok (.iload 4, 2) := by decide +kernel
theorem dX6_feed_0 : decode cX6_feed 0 = .ok (.iload_n 1, 1) := zd02dec3_14.1
theorem dX6_feed_1 : decode cX6_feed 1 = .ok (.iconst 1, 1) := zd02dec3_14.2.1
theorem dX6_feed_2 : decode cX6_feed 2 = .ok (.iconst 5, 1) := zd02dec3_14.2.2.1
theorem dX6_feed_3 : decode cX6_feed 3 = .ok (.invokestatic 91, 3) := zd02dec3_14.2.2.2.1
theorem dX6_feed_6 : decode cX6_feed 6 = .ok (.ifCond .eq 41, 3) := zd02dec3_14.2.2.2.2.1
theorem dX6_feed_9 : decode cX6_feed 9 = .ok (.iload_n 2, 1) := zd02dec3_14.2.2.2.2.2.1
theorem dX6_feed_10 : decode cX6_feed 10 = .ok (.invokestatic 108, 3) := zd02dec3_14.2.2.2.2.2.2.1
theorem dX6_feed_13 : decode cX6_feed 13 = .ok (.ifCond .eq 34, 3) := zd02dec3_14.2.2.2.2.2.2.2.1
theorem dX6_feed_16 : decode cX6_feed 16 = .ok (.iload_n 3, 1) := zd02dec3_14.2.2.2.2.2.2.2.2.1
theorem dX6_feed_17 : decode cX6_feed 17 = .ok (.invokestatic 108, 3) := zd02dec3_14.2.2.2.2.2.2.2.2.2.1
theorem dX6_feed_20 : decode cX6_feed 20 = .ok (.ifCond .eq 27, 3) := zd02dec3_14.2.2.2.2.2.2.2.2.2.2.1
theorem dX6_feed_23 : decode cX6_feed 23 = .ok (.iload 4, 2) := zd02dec3_14.2.2.2.2.2.2.2.2.2.2.2
theorem zd02dec3_15 : decode cX6_feed 25 = .ok (.invokestatic 108, 3) ∧ decode cX6_feed 28 = .ok (.ifCond .eq 19, 3) ∧ decode cX6_feed 31 = .ok (.iload 5, 2) ∧ decode cX6_feed 33 = .ok (.invokestatic 108, 3) ∧ decode cX6_feed 36 = .ok (.ifCond .eq 11, 3) ∧ decode cX6_feed 39 = .ok (.iload 6, 2) ∧ decode cX6_feed 41 = .ok (.invokestatic 108, 3) ∧ decode cX6_feed 44 = .ok (.ifCond .ne 6, 3) ∧ decode cX6_feed 47 = .ok (.bipush (-2), 2) ∧ decode cX6_feed 49 = .ok (.ireturn, 1) ∧ decode cX6_feed 50 = .ok (.aload_n 0, 1) ∧ decode cX6_feed 51 = .ok (.getfield 80, 3) := by decide +kernel
theorem dX6_feed_25 : decode cX6_feed 25 = .ok (.invokestatic 108, 3) := zd02dec3_15.1
theorem dX6_feed_28 : decode cX6_feed 28 = .ok (.ifCond .eq 19, 3) := zd02dec3_15.2.1
theorem dX6_feed_31 : decode cX6_feed 31 = .ok (.iload 5, 2) := zd02dec3_15.2.2.1
theorem dX6_feed_33 : decode cX6_feed 33 = .ok (.invokestatic 108, 3) := zd02dec3_15.2.2.2.1
theorem dX6_feed_36 : decode cX6_feed 36 = .ok (.ifCond .eq 11, 3) := zd02dec3_15.2.2.2.2.1
theorem dX6_feed_39 : decode cX6_feed 39 = .ok (.iload 6, 2) := zd02dec3_15.2.2.2.2.2.1
theorem dX6_feed_41 : decode cX6_feed 41 = .ok (.invokestatic 108, 3) := zd02dec3_15.2.2.2.2.2.2.1
theorem dX6_feed_44 : decode cX6_feed 44 = .ok (.ifCond .ne 6, 3) := zd02dec3_15.2.2.2.2.2.2.2.1
theorem dX6_feed_47 : decode cX6_feed 47 = .ok (.bipush (-2), 2) := zd02dec3_15.2.2.2.2.2.2.2.2.1
theorem dX6_feed_49 : decode cX6_feed 49 = .ok (.ireturn, 1) := zd02dec3_15.2.2.2.2.2.2.2.2.2.1
theorem dX6_feed_50 : decode cX6_feed 50 = .ok (.aload_n 0, 1) := zd02dec3_15.2.2.2.2.2.2.2.2.2.2.1
theorem dX6_feed_51 : decode cX6_feed 51 = .ok (.getfield 80, 3) := zd02dec3_15.2.2.2.2.2.2.2.2.2.2.2
theorem zd02dec3_16 : decode cX6_feed 54 = .ok (.iload_n 1, 1) ∧ decode cX6_feed 55 = .ok (.iadd, 1) ∧ decode cX6_feed 56 = .ok (.sipush 160, 3) ∧ decode cX6_feed 59 = .ok (.if_icmp .le 6, 3) ∧ decode cX6_feed 62 = .ok (.bipush (-4), 2) ∧ decode cX6_feed 64 = .ok (.ireturn, 1) ∧ decode cX6_feed 65 = .ok (.iconst 0, 1) ∧ decode cX6_feed 66 = .ok (.istore 7, 2) ∧ decode cX6_feed 68 = .ok (.iload 7, 2) ∧ decode cX6_feed 70 = .ok (.iload_n 1, 1) ∧ decode cX6_feed 71 = .ok (.if_icmp .ge 71, 3) ∧ decode cX6_feed 74 = .ok (.aload_n 0, 1) := by decide +kernel
theorem dX6_feed_54 : decode cX6_feed 54 = .ok (.iload_n 1, 1) := zd02dec3_16.1
theorem dX6_feed_55 : decode cX6_feed 55 = .ok (.iadd, 1) := zd02dec3_16.2.1
theorem dX6_feed_56 : decode cX6_feed 56 = .ok (.sipush 160, 3) := zd02dec3_16.2.2.1
theorem dX6_feed_59 : decode cX6_feed 59 = .ok (.if_icmp .le 6, 3) := zd02dec3_16.2.2.2.1
theorem dX6_feed_62 : decode cX6_feed 62 = .ok (.bipush (-4), 2) := zd02dec3_16.2.2.2.2.1
theorem dX6_feed_64 : decode cX6_feed 64 = .ok (.ireturn, 1) := zd02dec3_16.2.2.2.2.2.1
theorem dX6_feed_65 : decode cX6_feed 65 = .ok (.iconst 0, 1) := zd02dec3_16.2.2.2.2.2.2.1
theorem dX6_feed_66 : decode cX6_feed 66 = .ok (.istore 7, 2) := zd02dec3_16.2.2.2.2.2.2.2.1
theorem dX6_feed_68 : decode cX6_feed 68 = .ok (.iload 7, 2) := zd02dec3_16.2.2.2.2.2.2.2.2.1
theorem dX6_feed_70 : decode cX6_feed 70 = .ok (.iload_n 1, 1) := zd02dec3_16.2.2.2.2.2.2.2.2.2.1
theorem dX6_feed_71 : decode cX6_feed 71 = .ok (.if_icmp .ge 71, 3) := zd02dec3_16.2.2.2.2.2.2.2.2.2.2.1
theorem dX6_feed_74 : decode cX6_feed 74 = .ok (.aload_n 0, 1) := zd02dec3_16.2.2.2.2.2.2.2.2.2.2.2
theorem zd02dec3_17 : decode cX6_feed 75 = .ok (.getfield 22, 3) ∧ decode cX6_feed 78 = .ok (.aload_n 0, 1) ∧ decode cX6_feed 79 = .ok (.getfield 80, 3) ∧ decode cX6_feed 82 = .ok (.iload 7, 2) ∧ decode cX6_feed 84 = .ok (.ifCond .ne 7, 3) ∧ decode cX6_feed 87 = .ok (.iload_n 2, 1) ∧ decode cX6_feed 88 = .ok (.goto 37, 3) ∧ decode cX6_feed 91 = .ok (.iload 7, 2) ∧ decode cX6_feed 93 = .ok (.iconst 1, 1) ∧ decode cX6_feed 94 = .ok (.if_icmp .ne 7, 3) ∧ decode cX6_feed 97 = .ok (.iload_n 3, 1) ∧ decode cX6_feed 98 = .ok (.goto 27, 3) := by decide +kernel
theorem dX6_feed_75 : decode cX6_feed 75 = .ok (.getfield 22, 3) := zd02dec3_17.1
theorem dX6_feed_78 : decode cX6_feed 78 = .ok (.aload_n 0, 1) := zd02dec3_17.2.1
theorem dX6_feed_79 : decode cX6_feed 79 = .ok (.getfield 80, 3) := zd02dec3_17.2.2.1
theorem dX6_feed_82 : decode cX6_feed 82 = .ok (.iload 7, 2) := zd02dec3_17.2.2.2.1
theorem dX6_feed_84 : decode cX6_feed 84 = .ok (.ifCond .ne 7, 3) := zd02dec3_17.2.2.2.2.1
theorem dX6_feed_87 : decode cX6_feed 87 = .ok (.iload_n 2, 1) := zd02dec3_17.2.2.2.2.2.1
theorem dX6_feed_88 : decode cX6_feed 88 = .ok (.goto 37, 3) := zd02dec3_17.2.2.2.2.2.2.1
theorem dX6_feed_91 : decode cX6_feed 91 = .ok (.iload 7, 2) := zd02dec3_17.2.2.2.2.2.2.2.1
theorem dX6_feed_93 : decode cX6_feed 93 = .ok (.iconst 1, 1) := zd02dec3_17.2.2.2.2.2.2.2.2.1
theorem dX6_feed_94 : decode cX6_feed 94 = .ok (.if_icmp .ne 7, 3) := zd02dec3_17.2.2.2.2.2.2.2.2.2.1
theorem dX6_feed_97 : decode cX6_feed 97 = .ok (.iload_n 3, 1) := zd02dec3_17.2.2.2.2.2.2.2.2.2.2.1
theorem dX6_feed_98 : decode cX6_feed 98 = .ok (.goto 27, 3) := zd02dec3_17.2.2.2.2.2.2.2.2.2.2.2
theorem zd02dec3_18 : decode cX6_feed 101 = .ok (.iload 7, 2) ∧ decode cX6_feed 103 = .ok (.iconst 2, 1) ∧ decode cX6_feed 104 = .ok (.if_icmp .ne 8, 3) ∧ decode cX6_feed 107 = .ok (.iload 4, 2) ∧ decode cX6_feed 109 = .ok (.goto 16, 3) ∧ decode cX6_feed 112 = .ok (.iload 7, 2) ∧ decode cX6_feed 114 = .ok (.iconst 3, 1) ∧ decode cX6_feed 115 = .ok (.if_icmp .ne 8, 3) ∧ decode cX6_feed 118 = .ok (.iload 5, 2) ∧ decode cX6_feed 120 = .ok (.goto 5, 3) ∧ decode cX6_feed 123 = .ok (.iload 6, 2) ∧ decode cX6_feed 125 = .ok (.iastore, 1) := by decide +kernel
theorem dX6_feed_101 : decode cX6_feed 101 = .ok (.iload 7, 2) := zd02dec3_18.1
theorem dX6_feed_103 : decode cX6_feed 103 = .ok (.iconst 2, 1) := zd02dec3_18.2.1
theorem dX6_feed_104 : decode cX6_feed 104 = .ok (.if_icmp .ne 8, 3) := zd02dec3_18.2.2.1
theorem dX6_feed_107 : decode cX6_feed 107 = .ok (.iload 4, 2) := zd02dec3_18.2.2.2.1
theorem dX6_feed_109 : decode cX6_feed 109 = .ok (.goto 16, 3) := zd02dec3_18.2.2.2.2.1
theorem dX6_feed_112 : decode cX6_feed 112 = .ok (.iload 7, 2) := zd02dec3_18.2.2.2.2.2.1
theorem dX6_feed_114 : decode cX6_feed 114 = .ok (.iconst 3, 1) := zd02dec3_18.2.2.2.2.2.2.1
theorem dX6_feed_115 : decode cX6_feed 115 = .ok (.if_icmp .ne 8, 3) := zd02dec3_18.2.2.2.2.2.2.2.1
theorem dX6_feed_118 : decode cX6_feed 118 = .ok (.iload 5, 2) := zd02dec3_18.2.2.2.2.2.2.2.2.1
theorem dX6_feed_120 : decode cX6_feed 120 = .ok (.goto 5, 3) := zd02dec3_18.2.2.2.2.2.2.2.2.2.1
theorem dX6_feed_123 : decode cX6_feed 123 = .ok (.iload 6, 2) := zd02dec3_18.2.2.2.2.2.2.2.2.2.2.1
theorem dX6_feed_125 : decode cX6_feed 125 = .ok (.iastore, 1) := zd02dec3_18.2.2.2.2.2.2.2.2.2.2.2
theorem zd02dec3_19 : decode cX6_feed 126 = .ok (.aload_n 0, 1) ∧ decode cX6_feed 127 = .ok (.dup, 1) ∧ decode cX6_feed 128 = .ok (.getfield 80, 3) ∧ decode cX6_feed 131 = .ok (.iconst 1, 1) ∧ decode cX6_feed 132 = .ok (.iadd, 1) ∧ decode cX6_feed 133 = .ok (.putfield 80, 3) ∧ decode cX6_feed 136 = .ok (.iinc 7 1, 3) ∧ decode cX6_feed 139 = .ok (.goto (-71), 3) ∧ decode cX6_feed 142 = .ok (.aload_n 0, 1) ∧ decode cX6_feed 143 = .ok (.getfield 80, 3) ∧ decode cX6_feed 146 = .ok (.ireturn, 1) := by decide +kernel
theorem dX6_feed_126 : decode cX6_feed 126 = .ok (.aload_n 0, 1) := zd02dec3_19.1
theorem dX6_feed_127 : decode cX6_feed 127 = .ok (.dup, 1) := zd02dec3_19.2.1
theorem dX6_feed_128 : decode cX6_feed 128 = .ok (.getfield 80, 3) := zd02dec3_19.2.2.1
theorem dX6_feed_131 : decode cX6_feed 131 = .ok (.iconst 1, 1) := zd02dec3_19.2.2.2.1
theorem dX6_feed_132 : decode cX6_feed 132 = .ok (.iadd, 1) := zd02dec3_19.2.2.2.2.1
theorem dX6_feed_133 : decode cX6_feed 133 = .ok (.putfield 80, 3) := zd02dec3_19.2.2.2.2.2.1
theorem dX6_feed_136 : decode cX6_feed 136 = .ok (.iinc 7 1, 3) := zd02dec3_19.2.2.2.2.2.2.1
theorem dX6_feed_139 : decode cX6_feed 139 = .ok (.goto (-71), 3) := zd02dec3_19.2.2.2.2.2.2.2.1
theorem dX6_feed_142 : decode cX6_feed 142 = .ok (.aload_n 0, 1) := zd02dec3_19.2.2.2.2.2.2.2.2.1
theorem dX6_feed_143 : decode cX6_feed 143 = .ok (.getfield 80, 3) := zd02dec3_19.2.2.2.2.2.2.2.2.2.1
theorem dX6_feed_146 : decode cX6_feed 146 = .ok (.ireturn, 1) := zd02dec3_19.2.2.2.2.2.2.2.2.2.2
theorem zd02dec3_20 : decode cX6_wordFrom 0 = .ok (.iconst 0, 1) ∧ decode cX6_wordFrom 1 = .ok (.istore_n 3, 1) ∧ decode cX6_wordFrom 2 = .ok (.iload_n 3, 1) ∧ decode cX6_wordFrom 3 = .ok (.bipush 12, 2) ∧ decode cX6_wordFrom 5 = .ok (.if_icmp .ge 96, 3) ∧ decode cX6_wordFrom 8 = .ok (.iload_n 2, 1) ∧ decode cX6_wordFrom 9 = .ok (.iload_n 1, 1) ∧ decode cX6_wordFrom 10 = .ok (.isub, 1) ∧ decode cX6_wordFrom 11 = .ok (.bipush 8, 2) ∧ decode cX6_wordFrom 13 = .ok (.if_icmp .gt 7, 3) ∧ decode cX6_wordFrom 16 = .ok (.iconst 1, 1) ∧ decode cX6_wordFrom 17 = .ok (.goto 4, 3) := by decide +kernel
theorem dX6_wordFrom_0 : decode cX6_wordFrom 0 = .ok (.iconst 0, 1) := zd02dec3_20.1
theorem dX6_wordFrom_1 : decode cX6_wordFrom 1 = .ok (.istore_n 3, 1) := zd02dec3_20.2.1
theorem dX6_wordFrom_2 : decode cX6_wordFrom 2 = .ok (.iload_n 3, 1) := zd02dec3_20.2.2.1
theorem dX6_wordFrom_3 : decode cX6_wordFrom 3 = .ok (.bipush 12, 2) := zd02dec3_20.2.2.2.1
theorem dX6_wordFrom_5 : decode cX6_wordFrom 5 = .ok (.if_icmp .ge 96, 3) := zd02dec3_20.2.2.2.2.1
theorem dX6_wordFrom_8 : decode cX6_wordFrom 8 = .ok (.iload_n 2, 1) := zd02dec3_20.2.2.2.2.2.1
theorem dX6_wordFrom_9 : decode cX6_wordFrom 9 = .ok (.iload_n 1, 1) := zd02dec3_20.2.2.2.2.2.2.1
theorem dX6_wordFrom_10 : decode cX6_wordFrom 10 = .ok (.isub, 1) := zd02dec3_20.2.2.2.2.2.2.2.1
theorem dX6_wordFrom_11 : decode cX6_wordFrom 11 = .ok (.bipush 8, 2) := zd02dec3_20.2.2.2.2.2.2.2.2.1
theorem dX6_wordFrom_13 : decode cX6_wordFrom 13 = .ok (.if_icmp .gt 7, 3) := zd02dec3_20.2.2.2.2.2.2.2.2.2.1
theorem dX6_wordFrom_16 : decode cX6_wordFrom 16 = .ok (.iconst 1, 1) := zd02dec3_20.2.2.2.2.2.2.2.2.2.2.1
theorem dX6_wordFrom_17 : decode cX6_wordFrom 17 = .ok (.goto 4, 3) := zd02dec3_20.2.2.2.2.2.2.2.2.2.2.2
theorem zd02dec3_21 : decode cX6_wordFrom 20 = .ok (.iconst 0, 1) ∧ decode cX6_wordFrom 21 = .ok (.istore 4, 2) ∧ decode cX6_wordFrom 23 = .ok (.iconst 0, 1) ∧ decode cX6_wordFrom 24 = .ok (.istore 5, 2) ∧ decode cX6_wordFrom 26 = .ok (.iload 5, 2) ∧ decode cX6_wordFrom 28 = .ok (.bipush 8, 2) ∧ decode cX6_wordFrom 30 = .ok (.if_icmp .ge 58, 3) ∧ decode cX6_wordFrom 33 = .ok (.iload 4, 2) ∧ decode cX6_wordFrom 35 = .ok (.ifCond .eq 53, 3) ∧ decode cX6_wordFrom 38 = .ok (.aload_n 0, 1) ∧ decode cX6_wordFrom 39 = .ok (.getfield 49, 3) ∧ decode cX6_wordFrom 42 = .ok (.bipush 8, 2) := by decide +kernel
theorem dX6_wordFrom_20 : decode cX6_wordFrom 20 = .ok (.iconst 0, 1) := zd02dec3_21.1
theorem dX6_wordFrom_21 : decode cX6_wordFrom 21 = .ok (.istore 4, 2) := zd02dec3_21.2.1
theorem dX6_wordFrom_23 : decode cX6_wordFrom 23 = .ok (.iconst 0, 1) := zd02dec3_21.2.2.1
theorem dX6_wordFrom_24 : decode cX6_wordFrom 24 = .ok (.istore 5, 2) := zd02dec3_21.2.2.2.1
theorem dX6_wordFrom_26 : decode cX6_wordFrom 26 = .ok (.iload 5, 2) := zd02dec3_21.2.2.2.2.1
theorem dX6_wordFrom_28 : decode cX6_wordFrom 28 = .ok (.bipush 8, 2) := zd02dec3_21.2.2.2.2.2.1
theorem dX6_wordFrom_30 : decode cX6_wordFrom 30 = .ok (.if_icmp .ge 58, 3) := zd02dec3_21.2.2.2.2.2.2.1
theorem dX6_wordFrom_33 : decode cX6_wordFrom 33 = .ok (.iload 4, 2) := zd02dec3_21.2.2.2.2.2.2.2.1
theorem dX6_wordFrom_35 : decode cX6_wordFrom 35 = .ok (.ifCond .eq 53, 3) := zd02dec3_21.2.2.2.2.2.2.2.2.1
theorem dX6_wordFrom_38 : decode cX6_wordFrom 38 = .ok (.aload_n 0, 1) := zd02dec3_21.2.2.2.2.2.2.2.2.2.1
theorem dX6_wordFrom_39 : decode cX6_wordFrom 39 = .ok (.getfield 49, 3) := zd02dec3_21.2.2.2.2.2.2.2.2.2.2.1
theorem dX6_wordFrom_42 : decode cX6_wordFrom 42 = .ok (.bipush 8, 2) := zd02dec3_21.2.2.2.2.2.2.2.2.2.2.2
theorem zd02dec3_22 : decode cX6_wordFrom 44 = .ok (.iload_n 3, 1) ∧ decode cX6_wordFrom 45 = .ok (.imul, 1) ∧ decode cX6_wordFrom 46 = .ok (.iload 5, 2) ∧ decode cX6_wordFrom 48 = .ok (.iadd, 1) ∧ decode cX6_wordFrom 49 = .ok (.iaload, 1) ∧ decode cX6_wordFrom 50 = .ok (.iload_n 1, 1) ∧ decode cX6_wordFrom 51 = .ok (.iload 5, 2) ∧ decode cX6_wordFrom 53 = .ok (.iadd, 1) ∧ decode cX6_wordFrom 54 = .ok (.iload_n 2, 1) ∧ decode cX6_wordFrom 55 = .ok (.if_icmp .ge 15, 3) ∧ decode cX6_wordFrom 58 = .ok (.aload_n 0, 1) ∧ decode cX6_wordFrom 59 = .ok (.getfield 22, 3) := by decide +kernel
theorem dX6_wordFrom_44 : decode cX6_wordFrom 44 = .ok (.iload_n 3, 1) := zd02dec3_22.1
theorem dX6_wordFrom_45 : decode cX6_wordFrom 45 = .ok (.imul, 1) := zd02dec3_22.2.1
theorem dX6_wordFrom_46 : decode cX6_wordFrom 46 = .ok (.iload 5, 2) := zd02dec3_22.2.2.1
theorem dX6_wordFrom_48 : decode cX6_wordFrom 48 = .ok (.iadd, 1) := zd02dec3_22.2.2.2.1
theorem dX6_wordFrom_49 : decode cX6_wordFrom 49 = .ok (.iaload, 1) := zd02dec3_22.2.2.2.2.1
theorem dX6_wordFrom_50 : decode cX6_wordFrom 50 = .ok (.iload_n 1, 1) := zd02dec3_22.2.2.2.2.2.1
theorem dX6_wordFrom_51 : decode cX6_wordFrom 51 = .ok (.iload 5, 2) := zd02dec3_22.2.2.2.2.2.2.1
theorem dX6_wordFrom_53 : decode cX6_wordFrom 53 = .ok (.iadd, 1) := zd02dec3_22.2.2.2.2.2.2.2.1
theorem dX6_wordFrom_54 : decode cX6_wordFrom 54 = .ok (.iload_n 2, 1) := zd02dec3_22.2.2.2.2.2.2.2.2.1
theorem dX6_wordFrom_55 : decode cX6_wordFrom 55 = .ok (.if_icmp .ge 15, 3) := zd02dec3_22.2.2.2.2.2.2.2.2.2.1
theorem dX6_wordFrom_58 : decode cX6_wordFrom 58 = .ok (.aload_n 0, 1) := zd02dec3_22.2.2.2.2.2.2.2.2.2.2.1
theorem dX6_wordFrom_59 : decode cX6_wordFrom 59 = .ok (.getfield 22, 3) := zd02dec3_22.2.2.2.2.2.2.2.2.2.2.2
theorem zd02dec3_23 : decode cX6_wordFrom 62 = .ok (.iload_n 1, 1) ∧ decode cX6_wordFrom 63 = .ok (.iload 5, 2) ∧ decode cX6_wordFrom 65 = .ok (.iadd, 1) ∧ decode cX6_wordFrom 66 = .ok (.iaload, 1) ∧ decode cX6_wordFrom 67 = .ok (.goto 5, 3) ∧ decode cX6_wordFrom 70 = .ok (.bipush 32, 2) ∧ decode cX6_wordFrom 72 = .ok (.if_icmp .ne 7, 3) ∧ decode cX6_wordFrom 75 = .ok (.iconst 1, 1) ∧ decode cX6_wordFrom 76 = .ok (.goto 4, 3) ∧ decode cX6_wordFrom 79 = .ok (.iconst 0, 1) ∧ decode cX6_wordFrom 80 = .ok (.istore 4, 2) ∧ decode cX6_wordFrom 82 = .ok (.iinc 5 1, 3) := by decide +kernel
theorem dX6_wordFrom_62 : decode cX6_wordFrom 62 = .ok (.iload_n 1, 1) := zd02dec3_23.1
theorem dX6_wordFrom_63 : decode cX6_wordFrom 63 = .ok (.iload 5, 2) := zd02dec3_23.2.1
theorem dX6_wordFrom_65 : decode cX6_wordFrom 65 = .ok (.iadd, 1) := zd02dec3_23.2.2.1
theorem dX6_wordFrom_66 : decode cX6_wordFrom 66 = .ok (.iaload, 1) := zd02dec3_23.2.2.2.1
theorem dX6_wordFrom_67 : decode cX6_wordFrom 67 = .ok (.goto 5, 3) := zd02dec3_23.2.2.2.2.1
theorem dX6_wordFrom_70 : decode cX6_wordFrom 70 = .ok (.bipush 32, 2) := zd02dec3_23.2.2.2.2.2.1
theorem dX6_wordFrom_72 : decode cX6_wordFrom 72 = .ok (.if_icmp .ne 7, 3) := zd02dec3_23.2.2.2.2.2.2.1
theorem dX6_wordFrom_75 : decode cX6_wordFrom 75 = .ok (.iconst 1, 1) := zd02dec3_23.2.2.2.2.2.2.2.1
theorem dX6_wordFrom_76 : decode cX6_wordFrom 76 = .ok (.goto 4, 3) := zd02dec3_23.2.2.2.2.2.2.2.2.1
theorem dX6_wordFrom_79 : decode cX6_wordFrom 79 = .ok (.iconst 0, 1) := zd02dec3_23.2.2.2.2.2.2.2.2.2.1
theorem dX6_wordFrom_80 : decode cX6_wordFrom 80 = .ok (.istore 4, 2) := zd02dec3_23.2.2.2.2.2.2.2.2.2.2.1
theorem dX6_wordFrom_82 : decode cX6_wordFrom 82 = .ok (.iinc 5 1, 3) := zd02dec3_23.2.2.2.2.2.2.2.2.2.2.2
theorem zd02dec3_24 : decode cX6_wordFrom 85 = .ok (.goto (-59), 3) ∧ decode cX6_wordFrom 88 = .ok (.iload 4, 2) ∧ decode cX6_wordFrom 90 = .ok (.ifCond .eq 5, 3) ∧ decode cX6_wordFrom 93 = .ok (.iload_n 3, 1) ∧ decode cX6_wordFrom 94 = .ok (.ireturn, 1) ∧ decode cX6_wordFrom 95 = .ok (.iinc 3 1, 3) ∧ decode cX6_wordFrom 98 = .ok (.goto (-96), 3) ∧ decode cX6_wordFrom 101 = .ok (.bipush 12, 2) ∧ decode cX6_wordFrom 103 = .ok (.ireturn, 1) := by decide +kernel
theorem dX6_wordFrom_85 : decode cX6_wordFrom 85 = .ok (.goto (-59), 3) := zd02dec3_24.1
theorem dX6_wordFrom_88 : decode cX6_wordFrom 88 = .ok (.iload 4, 2) := zd02dec3_24.2.1
theorem dX6_wordFrom_90 : decode cX6_wordFrom 90 = .ok (.ifCond .eq 5, 3) := zd02dec3_24.2.2.1
theorem dX6_wordFrom_93 : decode cX6_wordFrom 93 = .ok (.iload_n 3, 1) := zd02dec3_24.2.2.2.1
theorem dX6_wordFrom_94 : decode cX6_wordFrom 94 = .ok (.ireturn, 1) := zd02dec3_24.2.2.2.2.1
theorem dX6_wordFrom_95 : decode cX6_wordFrom 95 = .ok (.iinc 3 1, 3) := zd02dec3_24.2.2.2.2.2.1
theorem dX6_wordFrom_98 : decode cX6_wordFrom 98 = .ok (.goto (-96), 3) := zd02dec3_24.2.2.2.2.2.2.1
theorem dX6_wordFrom_101 : decode cX6_wordFrom 101 = .ok (.bipush 12, 2) := zd02dec3_24.2.2.2.2.2.2.2.1
theorem dX6_wordFrom_103 : decode cX6_wordFrom 103 = .ok (.ireturn, 1) := zd02dec3_24.2.2.2.2.2.2.2.2
theorem zd02dec3_25 : decode cX6_next 0 = .ok (.aload_n 0, 1) ∧ decode cX6_next 1 = .ok (.getfield 111, 3) ∧ decode cX6_next 4 = .ok (.aload_n 0, 1) ∧ decode cX6_next 5 = .ok (.getfield 80, 3) ∧ decode cX6_next 8 = .ok (.if_icmp .ge 44, 3) ∧ decode cX6_next 11 = .ok (.aload_n 0, 1) ∧ decode cX6_next 12 = .ok (.getfield 22, 3) ∧ decode cX6_next 15 = .ok (.aload_n 0, 1) ∧ decode cX6_next 16 = .ok (.getfield 111, 3) ∧ decode cX6_next 19 = .ok (.iaload, 1) ∧ decode cX6_next 20 = .ok (.bipush 32, 2) ∧ decode cX6_next 22 = .ok (.if_icmp .eq 17, 3) := by decide +kernel
theorem dX6_next_0 : decode cX6_next 0 = .ok (.aload_n 0, 1) := zd02dec3_25.1
theorem dX6_next_1 : decode cX6_next 1 = .ok (.getfield 111, 3) := zd02dec3_25.2.1
theorem dX6_next_4 : decode cX6_next 4 = .ok (.aload_n 0, 1) := zd02dec3_25.2.2.1
theorem dX6_next_5 : decode cX6_next 5 = .ok (.getfield 80, 3) := zd02dec3_25.2.2.2.1
theorem dX6_next_8 : decode cX6_next 8 = .ok (.if_icmp .ge 44, 3) := zd02dec3_25.2.2.2.2.1
theorem dX6_next_11 : decode cX6_next 11 = .ok (.aload_n 0, 1) := zd02dec3_25.2.2.2.2.2.1
theorem dX6_next_12 : decode cX6_next 12 = .ok (.getfield 22, 3) := zd02dec3_25.2.2.2.2.2.2.1
theorem dX6_next_15 : decode cX6_next 15 = .ok (.aload_n 0, 1) := zd02dec3_25.2.2.2.2.2.2.2.1
theorem dX6_next_16 : decode cX6_next 16 = .ok (.getfield 111, 3) := zd02dec3_25.2.2.2.2.2.2.2.2.1
theorem dX6_next_19 : decode cX6_next 19 = .ok (.iaload, 1) := zd02dec3_25.2.2.2.2.2.2.2.2.2.1
theorem dX6_next_20 : decode cX6_next 20 = .ok (.bipush 32, 2) := zd02dec3_25.2.2.2.2.2.2.2.2.2.2.1
theorem dX6_next_22 : decode cX6_next 22 = .ok (.if_icmp .eq 17, 3) := zd02dec3_25.2.2.2.2.2.2.2.2.2.2.2
theorem zd02dec3_26 : decode cX6_next 25 = .ok (.aload_n 0, 1) ∧ decode cX6_next 26 = .ok (.getfield 22, 3) ∧ decode cX6_next 29 = .ok (.aload_n 0, 1) ∧ decode cX6_next 30 = .ok (.getfield 111, 3) ∧ decode cX6_next 33 = .ok (.iaload, 1) ∧ decode cX6_next 34 = .ok (.bipush 10, 2) ∧ decode cX6_next 36 = .ok (.if_icmp .ne 16, 3) ∧ decode cX6_next 39 = .ok (.aload_n 0, 1) ∧ decode cX6_next 40 = .ok (.dup, 1) ∧ decode cX6_next 41 = .ok (.getfield 111, 3) ∧ decode cX6_next 44 = .ok (.iconst 1, 1) ∧ decode cX6_next 45 = .ok (.iadd, 1) := by decide +kernel
theorem dX6_next_25 : decode cX6_next 25 = .ok (.aload_n 0, 1) := zd02dec3_26.1
theorem dX6_next_26 : decode cX6_next 26 = .ok (.getfield 22, 3) := zd02dec3_26.2.1
theorem dX6_next_29 : decode cX6_next 29 = .ok (.aload_n 0, 1) := zd02dec3_26.2.2.1
theorem dX6_next_30 : decode cX6_next 30 = .ok (.getfield 111, 3) := zd02dec3_26.2.2.2.1
theorem dX6_next_33 : decode cX6_next 33 = .ok (.iaload, 1) := zd02dec3_26.2.2.2.2.1
theorem dX6_next_34 : decode cX6_next 34 = .ok (.bipush 10, 2) := zd02dec3_26.2.2.2.2.2.1
theorem dX6_next_36 : decode cX6_next 36 = .ok (.if_icmp .ne 16, 3) := zd02dec3_26.2.2.2.2.2.2.1
theorem dX6_next_39 : decode cX6_next 39 = .ok (.aload_n 0, 1) := zd02dec3_26.2.2.2.2.2.2.2.1
theorem dX6_next_40 : decode cX6_next 40 = .ok (.dup, 1) := zd02dec3_26.2.2.2.2.2.2.2.2.1
theorem dX6_next_41 : decode cX6_next 41 = .ok (.getfield 111, 3) := zd02dec3_26.2.2.2.2.2.2.2.2.2.1
theorem dX6_next_44 : decode cX6_next 44 = .ok (.iconst 1, 1) := zd02dec3_26.2.2.2.2.2.2.2.2.2.2.1
theorem dX6_next_45 : decode cX6_next 45 = .ok (.iadd, 1) := zd02dec3_26.2.2.2.2.2.2.2.2.2.2.2
theorem zd02dec3_27 : decode cX6_next 46 = .ok (.putfield 111, 3) ∧ decode cX6_next 49 = .ok (.goto (-49), 3) ∧ decode cX6_next 52 = .ok (.aload_n 0, 1) ∧ decode cX6_next 53 = .ok (.aload_n 0, 1) ∧ decode cX6_next 54 = .ok (.getfield 111, 3) ∧ decode cX6_next 57 = .ok (.putfield 114, 3) ∧ decode cX6_next 60 = .ok (.aload_n 0, 1) ∧ decode cX6_next 61 = .ok (.iconst 0, 1) ∧ decode cX6_next 62 = .ok (.putfield 117, 3) ∧ decode cX6_next 65 = .ok (.aload_n 0, 1) ∧ decode cX6_next 66 = .ok (.iconst 0, 1) ∧ decode cX6_next 67 = .ok (.putfield 120, 3) := by decide +kernel
theorem dX6_next_46 : decode cX6_next 46 = .ok (.putfield 111, 3) := zd02dec3_27.1
theorem dX6_next_49 : decode cX6_next 49 = .ok (.goto (-49), 3) := zd02dec3_27.2.1
theorem dX6_next_52 : decode cX6_next 52 = .ok (.aload_n 0, 1) := zd02dec3_27.2.2.1
theorem dX6_next_53 : decode cX6_next 53 = .ok (.aload_n 0, 1) := zd02dec3_27.2.2.2.1
theorem dX6_next_54 : decode cX6_next 54 = .ok (.getfield 111, 3) := zd02dec3_27.2.2.2.2.1
theorem dX6_next_57 : decode cX6_next 57 = .ok (.putfield 114, 3) := zd02dec3_27.2.2.2.2.2.1
theorem dX6_next_60 : decode cX6_next 60 = .ok (.aload_n 0, 1) := zd02dec3_27.2.2.2.2.2.2.1
theorem dX6_next_61 : decode cX6_next 61 = .ok (.iconst 0, 1) := zd02dec3_27.2.2.2.2.2.2.2.1
theorem dX6_next_62 : decode cX6_next 62 = .ok (.putfield 117, 3) := zd02dec3_27.2.2.2.2.2.2.2.2.1
theorem dX6_next_65 : decode cX6_next 65 = .ok (.aload_n 0, 1) := zd02dec3_27.2.2.2.2.2.2.2.2.2.1
theorem dX6_next_66 : decode cX6_next 66 = .ok (.iconst 0, 1) := zd02dec3_27.2.2.2.2.2.2.2.2.2.2.1
theorem dX6_next_67 : decode cX6_next 67 = .ok (.putfield 120, 3) := zd02dec3_27.2.2.2.2.2.2.2.2.2.2.2
theorem zd02dec3_28 : decode cX6_next 70 = .ok (.aload_n 0, 1) ∧ decode cX6_next 71 = .ok (.getfield 111, 3) ∧ decode cX6_next 74 = .ok (.aload_n 0, 1) ∧ decode cX6_next 75 = .ok (.getfield 80, 3) ∧ decode cX6_next 78 = .ok (.if_icmp .ne 4, 3) ∧ decode cX6_next 81 = .ok (.return_, 1) ∧ decode cX6_next 82 = .ok (.aload_n 0, 1) ∧ decode cX6_next 83 = .ok (.getfield 22, 3) ∧ decode cX6_next 86 = .ok (.aload_n 0, 1) ∧ decode cX6_next 87 = .ok (.getfield 111, 3) ∧ decode cX6_next 90 = .ok (.iaload, 1) ∧ decode cX6_next 91 = .ok (.istore_n 1, 1) := by decide +kernel
theorem dX6_next_70 : decode cX6_next 70 = .ok (.aload_n 0, 1) := zd02dec3_28.1
theorem dX6_next_71 : decode cX6_next 71 = .ok (.getfield 111, 3) := zd02dec3_28.2.1
theorem dX6_next_74 : decode cX6_next 74 = .ok (.aload_n 0, 1) := zd02dec3_28.2.2.1
theorem dX6_next_75 : decode cX6_next 75 = .ok (.getfield 80, 3) := zd02dec3_28.2.2.2.1
theorem dX6_next_78 : decode cX6_next 78 = .ok (.if_icmp .ne 4, 3) := zd02dec3_28.2.2.2.2.1
theorem dX6_next_81 : decode cX6_next 81 = .ok (.return_, 1) := zd02dec3_28.2.2.2.2.2.1
theorem dX6_next_82 : decode cX6_next 82 = .ok (.aload_n 0, 1) := zd02dec3_28.2.2.2.2.2.2.1
theorem dX6_next_83 : decode cX6_next 83 = .ok (.getfield 22, 3) := zd02dec3_28.2.2.2.2.2.2.2.1
theorem dX6_next_86 : decode cX6_next 86 = .ok (.aload_n 0, 1) := zd02dec3_28.2.2.2.2.2.2.2.2.1
theorem dX6_next_87 : decode cX6_next 87 = .ok (.getfield 111, 3) := zd02dec3_28.2.2.2.2.2.2.2.2.2.1
theorem dX6_next_90 : decode cX6_next 90 = .ok (.iaload, 1) := zd02dec3_28.2.2.2.2.2.2.2.2.2.2.1
theorem dX6_next_91 : decode cX6_next 91 = .ok (.istore_n 1, 1) := zd02dec3_28.2.2.2.2.2.2.2.2.2.2.2
theorem zd02dec3_29 : decode cX6_next 92 = .ok (.iload_n 1, 1) ∧ decode cX6_next 93 = .ok (.bipush 97, 2) ∧ decode cX6_next 95 = .ok (.bipush 122, 2) ∧ decode cX6_next 97 = .ok (.invokestatic 91, 3) ∧ decode cX6_next 100 = .ok (.ifCond .eq 117, 3) ∧ decode cX6_next 103 = .ok (.aload_n 0, 1) ∧ decode cX6_next 104 = .ok (.getfield 111, 3) ∧ decode cX6_next 107 = .ok (.aload_n 0, 1) ∧ decode cX6_next 108 = .ok (.getfield 80, 3) ∧ decode cX6_next 111 = .ok (.if_icmp .ge 35, 3) ∧ decode cX6_next 114 = .ok (.aload_n 0, 1) ∧ decode cX6_next 115 = .ok (.getfield 22, 3) := by decide +kernel
theorem dX6_next_92 : decode cX6_next 92 = .ok (.iload_n 1, 1) := zd02dec3_29.1
theorem dX6_next_93 : decode cX6_next 93 = .ok (.bipush 97, 2) := zd02dec3_29.2.1
theorem dX6_next_95 : decode cX6_next 95 = .ok (.bipush 122, 2) := zd02dec3_29.2.2.1
theorem dX6_next_97 : decode cX6_next 97 = .ok (.invokestatic 91, 3) := zd02dec3_29.2.2.2.1
theorem dX6_next_100 : decode cX6_next 100 = .ok (.ifCond .eq 117, 3) := zd02dec3_29.2.2.2.2.1
theorem dX6_next_103 : decode cX6_next 103 = .ok (.aload_n 0, 1) := zd02dec3_29.2.2.2.2.2.1
theorem dX6_next_104 : decode cX6_next 104 = .ok (.getfield 111, 3) := zd02dec3_29.2.2.2.2.2.2.1
theorem dX6_next_107 : decode cX6_next 107 = .ok (.aload_n 0, 1) := zd02dec3_29.2.2.2.2.2.2.2.1
theorem dX6_next_108 : decode cX6_next 108 = .ok (.getfield 80, 3) := zd02dec3_29.2.2.2.2.2.2.2.2.1
theorem dX6_next_111 : decode cX6_next 111 = .ok (.if_icmp .ge 35, 3) := zd02dec3_29.2.2.2.2.2.2.2.2.2.1
theorem dX6_next_114 : decode cX6_next 114 = .ok (.aload_n 0, 1) := zd02dec3_29.2.2.2.2.2.2.2.2.2.2.1
theorem dX6_next_115 : decode cX6_next 115 = .ok (.getfield 22, 3) := zd02dec3_29.2.2.2.2.2.2.2.2.2.2.2
theorem zd02dec3_30 : decode cX6_next 118 = .ok (.aload_n 0, 1) ∧ decode cX6_next 119 = .ok (.getfield 111, 3) ∧ decode cX6_next 122 = .ok (.iaload, 1) ∧ decode cX6_next 123 = .ok (.bipush 97, 2) ∧ decode cX6_next 125 = .ok (.bipush 122, 2) ∧ decode cX6_next 127 = .ok (.invokestatic 91, 3) ∧ decode cX6_next 130 = .ok (.ifCond .eq 16, 3) ∧ decode cX6_next 133 = .ok (.aload_n 0, 1) ∧ decode cX6_next 134 = .ok (.dup, 1) ∧ decode cX6_next 135 = .ok (.getfield 111, 3) ∧ decode cX6_next 138 = .ok (.iconst 1, 1) ∧ decode cX6_next 139 = .ok (.iadd, 1) := by decide +kernel
theorem dX6_next_118 : decode cX6_next 118 = .ok (.aload_n 0, 1) := zd02dec3_30.1
theorem dX6_next_119 : decode cX6_next 119 = .ok (.getfield 111, 3) := zd02dec3_30.2.1
theorem dX6_next_122 : decode cX6_next 122 = .ok (.iaload, 1) := zd02dec3_30.2.2.1
theorem dX6_next_123 : decode cX6_next 123 = .ok (.bipush 97, 2) := zd02dec3_30.2.2.2.1
theorem dX6_next_125 : decode cX6_next 125 = .ok (.bipush 122, 2) := zd02dec3_30.2.2.2.2.1
theorem dX6_next_127 : decode cX6_next 127 = .ok (.invokestatic 91, 3) := zd02dec3_30.2.2.2.2.2.1
theorem dX6_next_130 : decode cX6_next 130 = .ok (.ifCond .eq 16, 3) := zd02dec3_30.2.2.2.2.2.2.1
theorem dX6_next_133 : decode cX6_next 133 = .ok (.aload_n 0, 1) := zd02dec3_30.2.2.2.2.2.2.2.1
theorem dX6_next_134 : decode cX6_next 134 = .ok (.dup, 1) := zd02dec3_30.2.2.2.2.2.2.2.2.1
theorem dX6_next_135 : decode cX6_next 135 = .ok (.getfield 111, 3) := zd02dec3_30.2.2.2.2.2.2.2.2.2.1
theorem dX6_next_138 : decode cX6_next 138 = .ok (.iconst 1, 1) := zd02dec3_30.2.2.2.2.2.2.2.2.2.2.1
theorem dX6_next_139 : decode cX6_next 139 = .ok (.iadd, 1) := zd02dec3_30.2.2.2.2.2.2.2.2.2.2.2
theorem zd02dec3_31 : decode cX6_next 140 = .ok (.putfield 111, 3) ∧ decode cX6_next 143 = .ok (.goto (-40), 3) ∧ decode cX6_next 146 = .ok (.aload_n 0, 1) ∧ decode cX6_next 147 = .ok (.aload_n 0, 1) ∧ decode cX6_next 148 = .ok (.getfield 114, 3) ∧ decode cX6_next 151 = .ok (.aload_n 0, 1) ∧ decode cX6_next 152 = .ok (.getfield 111, 3) ∧ decode cX6_next 155 = .ok (.invokevirtual 123, 3) ∧ decode cX6_next 158 = .ok (.istore_n 2, 1) ∧ decode cX6_next 159 = .ok (.aload_n 0, 1) ∧ decode cX6_next 160 = .ok (.iload_n 2, 1) ∧ decode cX6_next 161 = .ok (.iconst 3, 1) := by decide +kernel
theorem dX6_next_140 : decode cX6_next 140 = .ok (.putfield 111, 3) := zd02dec3_31.1
theorem dX6_next_143 : decode cX6_next 143 = .ok (.goto (-40), 3) := zd02dec3_31.2.1
theorem dX6_next_146 : decode cX6_next 146 = .ok (.aload_n 0, 1) := zd02dec3_31.2.2.1
theorem dX6_next_147 : decode cX6_next 147 = .ok (.aload_n 0, 1) := zd02dec3_31.2.2.2.1
theorem dX6_next_148 : decode cX6_next 148 = .ok (.getfield 114, 3) := zd02dec3_31.2.2.2.2.1
theorem dX6_next_151 : decode cX6_next 151 = .ok (.aload_n 0, 1) := zd02dec3_31.2.2.2.2.2.1
theorem dX6_next_152 : decode cX6_next 152 = .ok (.getfield 111, 3) := zd02dec3_31.2.2.2.2.2.2.1
theorem dX6_next_155 : decode cX6_next 155 = .ok (.invokevirtual 123, 3) := zd02dec3_31.2.2.2.2.2.2.2.1
theorem dX6_next_158 : decode cX6_next 158 = .ok (.istore_n 2, 1) := zd02dec3_31.2.2.2.2.2.2.2.2.1
theorem dX6_next_159 : decode cX6_next 159 = .ok (.aload_n 0, 1) := zd02dec3_31.2.2.2.2.2.2.2.2.2.1
theorem dX6_next_160 : decode cX6_next 160 = .ok (.iload_n 2, 1) := zd02dec3_31.2.2.2.2.2.2.2.2.2.2.1
theorem dX6_next_161 : decode cX6_next 161 = .ok (.iconst 3, 1) := zd02dec3_31.2.2.2.2.2.2.2.2.2.2.2
theorem zd02dec3_32 : decode cX6_next 162 = .ok (.if_icmp .ge 7, 3) ∧ decode cX6_next 165 = .ok (.iconst 3, 1) ∧ decode cX6_next 166 = .ok (.goto 29, 3) ∧ decode cX6_next 169 = .ok (.iload_n 2, 1) ∧ decode cX6_next 170 = .ok (.bipush 9, 2) ∧ decode cX6_next 172 = .ok (.if_icmp .ge 7, 3) ∧ decode cX6_next 175 = .ok (.iconst 2, 1) ∧ decode cX6_next 176 = .ok (.goto 19, 3) ∧ decode cX6_next 179 = .ok (.iload_n 2, 1) ∧ decode cX6_next 180 = .ok (.bipush 12, 2) ∧ decode cX6_next 182 = .ok (.if_icmp .ne 7, 3) ∧ decode cX6_next 185 = .ok (.iconst (-1), 1) := by decide +kernel
theorem dX6_next_162 : decode cX6_next 162 = .ok (.if_icmp .ge 7, 3) := zd02dec3_32.1
theorem dX6_next_165 : decode cX6_next 165 = .ok (.iconst 3, 1) := zd02dec3_32.2.1
theorem dX6_next_166 : decode cX6_next 166 = .ok (.goto 29, 3) := zd02dec3_32.2.2.1
theorem dX6_next_169 : decode cX6_next 169 = .ok (.iload_n 2, 1) := zd02dec3_32.2.2.2.1
theorem dX6_next_170 : decode cX6_next 170 = .ok (.bipush 9, 2) := zd02dec3_32.2.2.2.2.1
theorem dX6_next_172 : decode cX6_next 172 = .ok (.if_icmp .ge 7, 3) := zd02dec3_32.2.2.2.2.2.1
theorem dX6_next_175 : decode cX6_next 175 = .ok (.iconst 2, 1) := zd02dec3_32.2.2.2.2.2.2.1
theorem dX6_next_176 : decode cX6_next 176 = .ok (.goto 19, 3) := zd02dec3_32.2.2.2.2.2.2.2.1
theorem dX6_next_179 : decode cX6_next 179 = .ok (.iload_n 2, 1) := zd02dec3_32.2.2.2.2.2.2.2.2.1
theorem dX6_next_180 : decode cX6_next 180 = .ok (.bipush 12, 2) := zd02dec3_32.2.2.2.2.2.2.2.2.2.1
theorem dX6_next_182 : decode cX6_next 182 = .ok (.if_icmp .ne 7, 3) := zd02dec3_32.2.2.2.2.2.2.2.2.2.2.1
theorem dX6_next_185 : decode cX6_next 185 = .ok (.iconst (-1), 1) := zd02dec3_32.2.2.2.2.2.2.2.2.2.2.2
theorem zd02dec3_33 : decode cX6_next 186 = .ok (.goto 9, 3) ∧ decode cX6_next 189 = .ok (.iconst 4, 1) ∧ decode cX6_next 190 = .ok (.iload_n 2, 1) ∧ decode cX6_next 191 = .ok (.iadd, 1) ∧ decode cX6_next 192 = .ok (.bipush 9, 2) ∧ decode cX6_next 194 = .ok (.isub, 1) ∧ decode cX6_next 195 = .ok (.putfield 117, 3) ∧ decode cX6_next 198 = .ok (.aload_n 0, 1) ∧ decode cX6_next 199 = .ok (.iload_n 2, 1) ∧ decode cX6_next 200 = .ok (.iconst 3, 1) ∧ decode cX6_next 201 = .ok (.if_icmp .ge 7, 3) ∧ decode cX6_next 204 = .ok (.iload_n 2, 1) := by decide +kernel
theorem dX6_next_186 : decode cX6_next 186 = .ok (.goto 9, 3) := zd02dec3_33.1
theorem dX6_next_189 : decode cX6_next 189 = .ok (.iconst 4, 1) := zd02dec3_33.2.1
theorem dX6_next_190 : decode cX6_next 190 = .ok (.iload_n 2, 1) := zd02dec3_33.2.2.1
theorem dX6_next_191 : decode cX6_next 191 = .ok (.iadd, 1) := zd02dec3_33.2.2.2.1
theorem dX6_next_192 : decode cX6_next 192 = .ok (.bipush 9, 2) := zd02dec3_33.2.2.2.2.1
theorem dX6_next_194 : decode cX6_next 194 = .ok (.isub, 1) := zd02dec3_33.2.2.2.2.2.1
theorem dX6_next_195 : decode cX6_next 195 = .ok (.putfield 117, 3) := zd02dec3_33.2.2.2.2.2.2.1
theorem dX6_next_198 : decode cX6_next 198 = .ok (.aload_n 0, 1) := zd02dec3_33.2.2.2.2.2.2.2.1
theorem dX6_next_199 : decode cX6_next 199 = .ok (.iload_n 2, 1) := zd02dec3_33.2.2.2.2.2.2.2.2.1
theorem dX6_next_200 : decode cX6_next 200 = .ok (.iconst 3, 1) := zd02dec3_33.2.2.2.2.2.2.2.2.2.1
theorem dX6_next_201 : decode cX6_next 201 = .ok (.if_icmp .ge 7, 3) := zd02dec3_33.2.2.2.2.2.2.2.2.2.2.1
theorem dX6_next_204 : decode cX6_next 204 = .ok (.iload_n 2, 1) := zd02dec3_33.2.2.2.2.2.2.2.2.2.2.2
theorem zd02dec3_34 : decode cX6_next 205 = .ok (.goto 6, 3) ∧ decode cX6_next 208 = .ok (.iload_n 2, 1) ∧ decode cX6_next 209 = .ok (.iconst 3, 1) ∧ decode cX6_next 210 = .ok (.isub, 1) ∧ decode cX6_next 211 = .ok (.putfield 120, 3) ∧ decode cX6_next 214 = .ok (.goto 189, 3) ∧ decode cX6_next 217 = .ok (.iload_n 1, 1) ∧ decode cX6_next 218 = .ok (.bipush 48, 2) ∧ decode cX6_next 220 = .ok (.bipush 57, 2) ∧ decode cX6_next 222 = .ok (.invokestatic 91, 3) ∧ decode cX6_next 225 = .ok (.ifCond .eq 101, 3) ∧ decode cX6_next 228 = .ok (.iconst 0, 1) := by decide +kernel
theorem dX6_next_205 : decode cX6_next 205 = .ok (.goto 6, 3) := zd02dec3_34.1
theorem dX6_next_208 : decode cX6_next 208 = .ok (.iload_n 2, 1) := zd02dec3_34.2.1
theorem dX6_next_209 : decode cX6_next 209 = .ok (.iconst 3, 1) := zd02dec3_34.2.2.1
theorem dX6_next_210 : decode cX6_next 210 = .ok (.isub, 1) := zd02dec3_34.2.2.2.1
theorem dX6_next_211 : decode cX6_next 211 = .ok (.putfield 120, 3) := zd02dec3_34.2.2.2.2.1
theorem dX6_next_214 : decode cX6_next 214 = .ok (.goto 189, 3) := zd02dec3_34.2.2.2.2.2.1
theorem dX6_next_217 : decode cX6_next 217 = .ok (.iload_n 1, 1) := zd02dec3_34.2.2.2.2.2.2.1
theorem dX6_next_218 : decode cX6_next 218 = .ok (.bipush 48, 2) := zd02dec3_34.2.2.2.2.2.2.2.1
theorem dX6_next_220 : decode cX6_next 220 = .ok (.bipush 57, 2) := zd02dec3_34.2.2.2.2.2.2.2.2.1
theorem dX6_next_222 : decode cX6_next 222 = .ok (.invokestatic 91, 3) := zd02dec3_34.2.2.2.2.2.2.2.2.2.1
theorem dX6_next_225 : decode cX6_next 225 = .ok (.ifCond .eq 101, 3) := zd02dec3_34.2.2.2.2.2.2.2.2.2.2.1
theorem dX6_next_228 : decode cX6_next 228 = .ok (.iconst 0, 1) := zd02dec3_34.2.2.2.2.2.2.2.2.2.2.2
theorem zd02dec3_35 : decode cX6_next 229 = .ok (.istore_n 2, 1) ∧ decode cX6_next 230 = .ok (.aload_n 0, 1) ∧ decode cX6_next 231 = .ok (.getfield 111, 3) ∧ decode cX6_next 234 = .ok (.aload_n 0, 1) ∧ decode cX6_next 235 = .ok (.getfield 80, 3) ∧ decode cX6_next 238 = .ok (.if_icmp .ge 71, 3) ∧ decode cX6_next 241 = .ok (.aload_n 0, 1) ∧ decode cX6_next 242 = .ok (.getfield 22, 3) ∧ decode cX6_next 245 = .ok (.aload_n 0, 1) ∧ decode cX6_next 246 = .ok (.getfield 111, 3) ∧ decode cX6_next 249 = .ok (.iaload, 1) ∧ decode cX6_next 250 = .ok (.bipush 48, 2) := by decide +kernel
theorem dX6_next_229 : decode cX6_next 229 = .ok (.istore_n 2, 1) := zd02dec3_35.1
theorem dX6_next_230 : decode cX6_next 230 = .ok (.aload_n 0, 1) := zd02dec3_35.2.1
theorem dX6_next_231 : decode cX6_next 231 = .ok (.getfield 111, 3) := zd02dec3_35.2.2.1
theorem dX6_next_234 : decode cX6_next 234 = .ok (.aload_n 0, 1) := zd02dec3_35.2.2.2.1
theorem dX6_next_235 : decode cX6_next 235 = .ok (.getfield 80, 3) := zd02dec3_35.2.2.2.2.1
theorem dX6_next_238 : decode cX6_next 238 = .ok (.if_icmp .ge 71, 3) := zd02dec3_35.2.2.2.2.2.1
theorem dX6_next_241 : decode cX6_next 241 = .ok (.aload_n 0, 1) := zd02dec3_35.2.2.2.2.2.2.1
theorem dX6_next_242 : decode cX6_next 242 = .ok (.getfield 22, 3) := zd02dec3_35.2.2.2.2.2.2.2.1
theorem dX6_next_245 : decode cX6_next 245 = .ok (.aload_n 0, 1) := zd02dec3_35.2.2.2.2.2.2.2.2.1
theorem dX6_next_246 : decode cX6_next 246 = .ok (.getfield 111, 3) := zd02dec3_35.2.2.2.2.2.2.2.2.2.1
theorem dX6_next_249 : decode cX6_next 249 = .ok (.iaload, 1) := zd02dec3_35.2.2.2.2.2.2.2.2.2.2.1
theorem dX6_next_250 : decode cX6_next 250 = .ok (.bipush 48, 2) := zd02dec3_35.2.2.2.2.2.2.2.2.2.2.2
theorem zd02dec3_36 : decode cX6_next 252 = .ok (.bipush 57, 2) ∧ decode cX6_next 254 = .ok (.invokestatic 91, 3) ∧ decode cX6_next 257 = .ok (.ifCond .eq 52, 3) ∧ decode cX6_next 260 = .ok (.aload_n 0, 1) ∧ decode cX6_next 261 = .ok (.iload_n 2, 1) ∧ decode cX6_next 262 = .ok (.iconst 4, 1) ∧ decode cX6_next 263 = .ok (.if_icmp .ge 26, 3) ∧ decode cX6_next 266 = .ok (.bipush 10, 2) ∧ decode cX6_next 268 = .ok (.aload_n 0, 1) ∧ decode cX6_next 269 = .ok (.getfield 120, 3) ∧ decode cX6_next 272 = .ok (.imul, 1) ∧ decode cX6_next 273 = .ok (.aload_n 0, 1) := by decide +kernel
theorem dX6_next_252 : decode cX6_next 252 = .ok (.bipush 57, 2) := zd02dec3_36.1
theorem dX6_next_254 : decode cX6_next 254 = .ok (.invokestatic 91, 3) := zd02dec3_36.2.1
theorem dX6_next_257 : decode cX6_next 257 = .ok (.ifCond .eq 52, 3) := zd02dec3_36.2.2.1
theorem dX6_next_260 : decode cX6_next 260 = .ok (.aload_n 0, 1) := zd02dec3_36.2.2.2.1
theorem dX6_next_261 : decode cX6_next 261 = .ok (.iload_n 2, 1) := zd02dec3_36.2.2.2.2.1
theorem dX6_next_262 : decode cX6_next 262 = .ok (.iconst 4, 1) := zd02dec3_36.2.2.2.2.2.1
theorem dX6_next_263 : decode cX6_next 263 = .ok (.if_icmp .ge 26, 3) := zd02dec3_36.2.2.2.2.2.2.1
theorem dX6_next_266 : decode cX6_next 266 = .ok (.bipush 10, 2) := zd02dec3_36.2.2.2.2.2.2.2.1
theorem dX6_next_268 : decode cX6_next 268 = .ok (.aload_n 0, 1) := zd02dec3_36.2.2.2.2.2.2.2.2.1
theorem dX6_next_269 : decode cX6_next 269 = .ok (.getfield 120, 3) := zd02dec3_36.2.2.2.2.2.2.2.2.2.1
theorem dX6_next_272 : decode cX6_next 272 = .ok (.imul, 1) := zd02dec3_36.2.2.2.2.2.2.2.2.2.2.1
theorem dX6_next_273 : decode cX6_next 273 = .ok (.aload_n 0, 1) := zd02dec3_36.2.2.2.2.2.2.2.2.2.2.2
theorem zd02dec3_37 : decode cX6_next 274 = .ok (.getfield 22, 3) ∧ decode cX6_next 277 = .ok (.aload_n 0, 1) ∧ decode cX6_next 278 = .ok (.getfield 111, 3) ∧ decode cX6_next 281 = .ok (.iaload, 1) ∧ decode cX6_next 282 = .ok (.iadd, 1) ∧ decode cX6_next 283 = .ok (.bipush 48, 2) ∧ decode cX6_next 285 = .ok (.isub, 1) ∧ decode cX6_next 286 = .ok (.goto 4, 3) ∧ decode cX6_next 289 = .ok (.iconst 0, 1) ∧ decode cX6_next 290 = .ok (.putfield 120, 3) ∧ decode cX6_next 293 = .ok (.iinc 2 1, 3) ∧ decode cX6_next 296 = .ok (.aload_n 0, 1) := by decide +kernel
theorem dX6_next_274 : decode cX6_next 274 = .ok (.getfield 22, 3) := zd02dec3_37.1
theorem dX6_next_277 : decode cX6_next 277 = .ok (.aload_n 0, 1) := zd02dec3_37.2.1
theorem dX6_next_278 : decode cX6_next 278 = .ok (.getfield 111, 3) := zd02dec3_37.2.2.1
theorem dX6_next_281 : decode cX6_next 281 = .ok (.iaload, 1) := zd02dec3_37.2.2.2.1
theorem dX6_next_282 : decode cX6_next 282 = .ok (.iadd, 1) := zd02dec3_37.2.2.2.2.1
theorem dX6_next_283 : decode cX6_next 283 = .ok (.bipush 48, 2) := zd02dec3_37.2.2.2.2.2.1
theorem dX6_next_285 : decode cX6_next 285 = .ok (.isub, 1) := zd02dec3_37.2.2.2.2.2.2.1
theorem dX6_next_286 : decode cX6_next 286 = .ok (.goto 4, 3) := zd02dec3_37.2.2.2.2.2.2.2.1
theorem dX6_next_289 : decode cX6_next 289 = .ok (.iconst 0, 1) := zd02dec3_37.2.2.2.2.2.2.2.2.1
theorem dX6_next_290 : decode cX6_next 290 = .ok (.putfield 120, 3) := zd02dec3_37.2.2.2.2.2.2.2.2.2.1
theorem dX6_next_293 : decode cX6_next 293 = .ok (.iinc 2 1, 3) := zd02dec3_37.2.2.2.2.2.2.2.2.2.2.1
theorem dX6_next_296 : decode cX6_next 296 = .ok (.aload_n 0, 1) := zd02dec3_37.2.2.2.2.2.2.2.2.2.2.2
theorem zd02dec3_38 : decode cX6_next 297 = .ok (.dup, 1) ∧ decode cX6_next 298 = .ok (.getfield 111, 3) ∧ decode cX6_next 301 = .ok (.iconst 1, 1) ∧ decode cX6_next 302 = .ok (.iadd, 1) ∧ decode cX6_next 303 = .ok (.putfield 111, 3) ∧ decode cX6_next 306 = .ok (.goto (-76), 3) ∧ decode cX6_next 309 = .ok (.aload_n 0, 1) ∧ decode cX6_next 310 = .ok (.iload_n 2, 1) ∧ decode cX6_next 311 = .ok (.iconst 4, 1) ∧ decode cX6_next 312 = .ok (.if_icmp .le 7, 3) ∧ decode cX6_next 315 = .ok (.iconst (-1), 1) ∧ decode cX6_next 316 = .ok (.goto 4, 3) := by decide +kernel
theorem dX6_next_297 : decode cX6_next 297 = .ok (.dup, 1) := zd02dec3_38.1
theorem dX6_next_298 : decode cX6_next 298 = .ok (.getfield 111, 3) := zd02dec3_38.2.1
theorem dX6_next_301 : decode cX6_next 301 = .ok (.iconst 1, 1) := zd02dec3_38.2.2.1
theorem dX6_next_302 : decode cX6_next 302 = .ok (.iadd, 1) := zd02dec3_38.2.2.2.1
theorem dX6_next_303 : decode cX6_next 303 = .ok (.putfield 111, 3) := zd02dec3_38.2.2.2.2.1
theorem dX6_next_306 : decode cX6_next 306 = .ok (.goto (-76), 3) := zd02dec3_38.2.2.2.2.2.1
theorem dX6_next_309 : decode cX6_next 309 = .ok (.aload_n 0, 1) := zd02dec3_38.2.2.2.2.2.2.1
theorem dX6_next_310 : decode cX6_next 310 = .ok (.iload_n 2, 1) := zd02dec3_38.2.2.2.2.2.2.2.1
theorem dX6_next_311 : decode cX6_next 311 = .ok (.iconst 4, 1) := zd02dec3_38.2.2.2.2.2.2.2.2.1
theorem dX6_next_312 : decode cX6_next 312 = .ok (.if_icmp .le 7, 3) := zd02dec3_38.2.2.2.2.2.2.2.2.2.1
theorem dX6_next_315 : decode cX6_next 315 = .ok (.iconst (-1), 1) := zd02dec3_38.2.2.2.2.2.2.2.2.2.2.1
theorem dX6_next_316 : decode cX6_next 316 = .ok (.goto 4, 3) := zd02dec3_38.2.2.2.2.2.2.2.2.2.2.2
theorem zd02dec3_39 : decode cX6_next 319 = .ok (.iconst 1, 1) ∧ decode cX6_next 320 = .ok (.putfield 117, 3) ∧ decode cX6_next 323 = .ok (.goto 80, 3) ∧ decode cX6_next 326 = .ok (.iload_n 1, 1) ∧ decode cX6_next 327 = .ok (.bipush 40, 2) ∧ decode cX6_next 329 = .ok (.if_icmp .eq 45, 3) ∧ decode cX6_next 332 = .ok (.iload_n 1, 1) ∧ decode cX6_next 333 = .ok (.bipush 41, 2) ∧ decode cX6_next 335 = .ok (.if_icmp .eq 39, 3) ∧ decode cX6_next 338 = .ok (.iload_n 1, 1) ∧ decode cX6_next 339 = .ok (.bipush 59, 2) ∧ decode cX6_next 341 = .ok (.if_icmp .eq 33, 3) := by decide +kernel
theorem dX6_next_319 : decode cX6_next 319 = .ok (.iconst 1, 1) := zd02dec3_39.1
theorem dX6_next_320 : decode cX6_next 320 = .ok (.putfield 117, 3) := zd02dec3_39.2.1
theorem dX6_next_323 : decode cX6_next 323 = .ok (.goto 80, 3) := zd02dec3_39.2.2.1
theorem dX6_next_326 : decode cX6_next 326 = .ok (.iload_n 1, 1) := zd02dec3_39.2.2.2.1
theorem dX6_next_327 : decode cX6_next 327 = .ok (.bipush 40, 2) := zd02dec3_39.2.2.2.2.1
theorem dX6_next_329 : decode cX6_next 329 = .ok (.if_icmp .eq 45, 3) := zd02dec3_39.2.2.2.2.2.1
theorem dX6_next_332 : decode cX6_next 332 = .ok (.iload_n 1, 1) := zd02dec3_39.2.2.2.2.2.2.1
theorem dX6_next_333 : decode cX6_next 333 = .ok (.bipush 41, 2) := zd02dec3_39.2.2.2.2.2.2.2.1
theorem dX6_next_335 : decode cX6_next 335 = .ok (.if_icmp .eq 39, 3) := zd02dec3_39.2.2.2.2.2.2.2.2.1
theorem dX6_next_338 : decode cX6_next 338 = .ok (.iload_n 1, 1) := zd02dec3_39.2.2.2.2.2.2.2.2.2.1
theorem dX6_next_339 : decode cX6_next 339 = .ok (.bipush 59, 2) := zd02dec3_39.2.2.2.2.2.2.2.2.2.2.1
theorem dX6_next_341 : decode cX6_next 341 = .ok (.if_icmp .eq 33, 3) := zd02dec3_39.2.2.2.2.2.2.2.2.2.2.2
theorem zd02dec3_40 : decode cX6_next 344 = .ok (.iload_n 1, 1) ∧ decode cX6_next 345 = .ok (.bipush 43, 2) ∧ decode cX6_next 347 = .ok (.if_icmp .eq 27, 3) ∧ decode cX6_next 350 = .ok (.iload_n 1, 1) ∧ decode cX6_next 351 = .ok (.bipush 45, 2) ∧ decode cX6_next 353 = .ok (.if_icmp .eq 21, 3) ∧ decode cX6_next 356 = .ok (.iload_n 1, 1) ∧ decode cX6_next 357 = .ok (.bipush 42, 2) ∧ decode cX6_next 359 = .ok (.if_icmp .eq 15, 3) ∧ decode cX6_next 362 = .ok (.iload_n 1, 1) ∧ decode cX6_next 363 = .ok (.bipush 60, 2) ∧ decode cX6_next 365 = .ok (.if_icmp .eq 9, 3) := by decide +kernel
theorem dX6_next_344 : decode cX6_next 344 = .ok (.iload_n 1, 1) := zd02dec3_40.1
theorem dX6_next_345 : decode cX6_next 345 = .ok (.bipush 43, 2) := zd02dec3_40.2.1
theorem dX6_next_347 : decode cX6_next 347 = .ok (.if_icmp .eq 27, 3) := zd02dec3_40.2.2.1
theorem dX6_next_350 : decode cX6_next 350 = .ok (.iload_n 1, 1) := zd02dec3_40.2.2.2.1
theorem dX6_next_351 : decode cX6_next 351 = .ok (.bipush 45, 2) := zd02dec3_40.2.2.2.2.1
theorem dX6_next_353 : decode cX6_next 353 = .ok (.if_icmp .eq 21, 3) := zd02dec3_40.2.2.2.2.2.1
theorem dX6_next_356 : decode cX6_next 356 = .ok (.iload_n 1, 1) := zd02dec3_40.2.2.2.2.2.2.1
theorem dX6_next_357 : decode cX6_next 357 = .ok (.bipush 42, 2) := zd02dec3_40.2.2.2.2.2.2.2.1
theorem dX6_next_359 : decode cX6_next 359 = .ok (.if_icmp .eq 15, 3) := zd02dec3_40.2.2.2.2.2.2.2.2.1
theorem dX6_next_362 : decode cX6_next 362 = .ok (.iload_n 1, 1) := zd02dec3_40.2.2.2.2.2.2.2.2.2.1
theorem dX6_next_363 : decode cX6_next 363 = .ok (.bipush 60, 2) := zd02dec3_40.2.2.2.2.2.2.2.2.2.2.1
theorem dX6_next_365 : decode cX6_next 365 = .ok (.if_icmp .eq 9, 3) := zd02dec3_40.2.2.2.2.2.2.2.2.2.2.2
theorem zd02dec3_41 : decode cX6_next 368 = .ok (.iload_n 1, 1) ∧ decode cX6_next 369 = .ok (.bipush 61, 2) ∧ decode cX6_next 371 = .ok (.if_icmp .ne 7, 3) ∧ decode cX6_next 374 = .ok (.iconst 1, 1) ∧ decode cX6_next 375 = .ok (.goto 4, 3) ∧ decode cX6_next 378 = .ok (.iconst 0, 1) ∧ decode cX6_next 379 = .ok (.istore_n 2, 1) ∧ decode cX6_next 380 = .ok (.aload_n 0, 1) ∧ decode cX6_next 381 = .ok (.iload_n 2, 1) ∧ decode cX6_next 382 = .ok (.ifCond .eq 7, 3) ∧ decode cX6_next 385 = .ok (.iload_n 1, 1) ∧ decode cX6_next 386 = .ok (.goto 4, 3) := by decide +kernel
theorem dX6_next_368 : decode cX6_next 368 = .ok (.iload_n 1, 1) := zd02dec3_41.1
theorem dX6_next_369 : decode cX6_next 369 = .ok (.bipush 61, 2) := zd02dec3_41.2.1
theorem dX6_next_371 : decode cX6_next 371 = .ok (.if_icmp .ne 7, 3) := zd02dec3_41.2.2.1
theorem dX6_next_374 : decode cX6_next 374 = .ok (.iconst 1, 1) := zd02dec3_41.2.2.2.1
theorem dX6_next_375 : decode cX6_next 375 = .ok (.goto 4, 3) := zd02dec3_41.2.2.2.2.1
theorem dX6_next_378 : decode cX6_next 378 = .ok (.iconst 0, 1) := zd02dec3_41.2.2.2.2.2.1
theorem dX6_next_379 : decode cX6_next 379 = .ok (.istore_n 2, 1) := zd02dec3_41.2.2.2.2.2.2.1
theorem dX6_next_380 : decode cX6_next 380 = .ok (.aload_n 0, 1) := zd02dec3_41.2.2.2.2.2.2.2.1
theorem dX6_next_381 : decode cX6_next 381 = .ok (.iload_n 2, 1) := zd02dec3_41.2.2.2.2.2.2.2.2.1
theorem dX6_next_382 : decode cX6_next 382 = .ok (.ifCond .eq 7, 3) := zd02dec3_41.2.2.2.2.2.2.2.2.2.1
theorem dX6_next_385 : decode cX6_next 385 = .ok (.iload_n 1, 1) := zd02dec3_41.2.2.2.2.2.2.2.2.2.2.1
theorem dX6_next_386 : decode cX6_next 386 = .ok (.goto 4, 3) := zd02dec3_41.2.2.2.2.2.2.2.2.2.2.2
theorem zd02dec3_42 : decode cX6_next 389 = .ok (.iconst (-1), 1) ∧ decode cX6_next 390 = .ok (.putfield 117, 3) ∧ decode cX6_next 393 = .ok (.aload_n 0, 1) ∧ decode cX6_next 394 = .ok (.dup, 1) ∧ decode cX6_next 395 = .ok (.getfield 111, 3) ∧ decode cX6_next 398 = .ok (.iconst 1, 1) ∧ decode cX6_next 399 = .ok (.iadd, 1) ∧ decode cX6_next 400 = .ok (.putfield 111, 3) ∧ decode cX6_next 403 = .ok (.return_, 1) := by decide +kernel
theorem dX6_next_389 : decode cX6_next 389 = .ok (.iconst (-1), 1) := zd02dec3_42.1
theorem dX6_next_390 : decode cX6_next 390 = .ok (.putfield 117, 3) := zd02dec3_42.2.1
theorem dX6_next_393 : decode cX6_next 393 = .ok (.aload_n 0, 1) := zd02dec3_42.2.2.1
theorem dX6_next_394 : decode cX6_next 394 = .ok (.dup, 1) := zd02dec3_42.2.2.2.1
theorem dX6_next_395 : decode cX6_next 395 = .ok (.getfield 111, 3) := zd02dec3_42.2.2.2.2.1
theorem dX6_next_398 : decode cX6_next 398 = .ok (.iconst 1, 1) := zd02dec3_42.2.2.2.2.2.1
theorem dX6_next_399 : decode cX6_next 399 = .ok (.iadd, 1) := zd02dec3_42.2.2.2.2.2.2.1
theorem dX6_next_400 : decode cX6_next 400 = .ok (.putfield 111, 3) := zd02dec3_42.2.2.2.2.2.2.2.1
theorem dX6_next_403 : decode cX6_next 403 = .ok (.return_, 1) := zd02dec3_42.2.2.2.2.2.2.2.2
theorem zd02dec3_43 : decode cX6_rank 0 = .ok (.iload_n 0, 1) ∧ decode cX6_rank 1 = .ok (.ifCond .ne 7, 3) ∧ decode cX6_rank 4 = .ok (.iconst 0, 1) ∧ decode cX6_rank 5 = .ok (.goto 66, 3) ∧ decode cX6_rank 8 = .ok (.iload_n 0, 1) ∧ decode cX6_rank 9 = .ok (.bipush 11, 2) ∧ decode cX6_rank 11 = .ok (.if_icmp .ne 7, 3) ∧ decode cX6_rank 14 = .ok (.iconst 1, 1) ∧ decode cX6_rank 15 = .ok (.goto 56, 3) ∧ decode cX6_rank 18 = .ok (.iload_n 0, 1) ∧ decode cX6_rank 19 = .ok (.bipush 12, 2) ∧ decode cX6_rank 21 = .ok (.if_icmp .ne 7, 3) := by decide +kernel
theorem dX6_rank_0 : decode cX6_rank 0 = .ok (.iload_n 0, 1) := zd02dec3_43.1
theorem dX6_rank_1 : decode cX6_rank 1 = .ok (.ifCond .ne 7, 3) := zd02dec3_43.2.1
theorem dX6_rank_4 : decode cX6_rank 4 = .ok (.iconst 0, 1) := zd02dec3_43.2.2.1
theorem dX6_rank_5 : decode cX6_rank 5 = .ok (.goto 66, 3) := zd02dec3_43.2.2.2.1
theorem dX6_rank_8 : decode cX6_rank 8 = .ok (.iload_n 0, 1) := zd02dec3_43.2.2.2.2.1
theorem dX6_rank_9 : decode cX6_rank 9 = .ok (.bipush 11, 2) := zd02dec3_43.2.2.2.2.2.1
theorem dX6_rank_11 : decode cX6_rank 11 = .ok (.if_icmp .ne 7, 3) := zd02dec3_43.2.2.2.2.2.2.1
theorem dX6_rank_14 : decode cX6_rank 14 = .ok (.iconst 1, 1) := zd02dec3_43.2.2.2.2.2.2.2.1
theorem dX6_rank_15 : decode cX6_rank 15 = .ok (.goto 56, 3) := zd02dec3_43.2.2.2.2.2.2.2.2.1
theorem dX6_rank_18 : decode cX6_rank 18 = .ok (.iload_n 0, 1) := zd02dec3_43.2.2.2.2.2.2.2.2.2.1
theorem dX6_rank_19 : decode cX6_rank 19 = .ok (.bipush 12, 2) := zd02dec3_43.2.2.2.2.2.2.2.2.2.2.1
theorem dX6_rank_21 : decode cX6_rank 21 = .ok (.if_icmp .ne 7, 3) := zd02dec3_43.2.2.2.2.2.2.2.2.2.2.2
theorem zd02dec3_44 : decode cX6_rank 24 = .ok (.iconst 2, 1) ∧ decode cX6_rank 25 = .ok (.goto 46, 3) ∧ decode cX6_rank 28 = .ok (.iload_n 0, 1) ∧ decode cX6_rank 29 = .ok (.bipush 13, 2) ∧ decode cX6_rank 31 = .ok (.if_icmp .ne 7, 3) ∧ decode cX6_rank 34 = .ok (.iconst 3, 1) ∧ decode cX6_rank 35 = .ok (.goto 36, 3) ∧ decode cX6_rank 38 = .ok (.iload_n 0, 1) ∧ decode cX6_rank 39 = .ok (.bipush 15, 2) ∧ decode cX6_rank 41 = .ok (.if_icmp .gt 7, 3) ∧ decode cX6_rank 44 = .ok (.iconst 4, 1) ∧ decode cX6_rank 45 = .ok (.goto 26, 3) := by decide +kernel
theorem dX6_rank_24 : decode cX6_rank 24 = .ok (.iconst 2, 1) := zd02dec3_44.1
theorem dX6_rank_25 : decode cX6_rank 25 = .ok (.goto 46, 3) := zd02dec3_44.2.1
theorem dX6_rank_28 : decode cX6_rank 28 = .ok (.iload_n 0, 1) := zd02dec3_44.2.2.1
theorem dX6_rank_29 : decode cX6_rank 29 = .ok (.bipush 13, 2) := zd02dec3_44.2.2.2.1
theorem dX6_rank_31 : decode cX6_rank 31 = .ok (.if_icmp .ne 7, 3) := zd02dec3_44.2.2.2.2.1
theorem dX6_rank_34 : decode cX6_rank 34 = .ok (.iconst 3, 1) := zd02dec3_44.2.2.2.2.2.1
theorem dX6_rank_35 : decode cX6_rank 35 = .ok (.goto 36, 3) := zd02dec3_44.2.2.2.2.2.2.1
theorem dX6_rank_38 : decode cX6_rank 38 = .ok (.iload_n 0, 1) := zd02dec3_44.2.2.2.2.2.2.2.1
theorem dX6_rank_39 : decode cX6_rank 39 = .ok (.bipush 15, 2) := zd02dec3_44.2.2.2.2.2.2.2.2.1
theorem dX6_rank_41 : decode cX6_rank 41 = .ok (.if_icmp .gt 7, 3) := zd02dec3_44.2.2.2.2.2.2.2.2.2.1
theorem dX6_rank_44 : decode cX6_rank 44 = .ok (.iconst 4, 1) := zd02dec3_44.2.2.2.2.2.2.2.2.2.2.1
theorem dX6_rank_45 : decode cX6_rank 45 = .ok (.goto 26, 3) := zd02dec3_44.2.2.2.2.2.2.2.2.2.2.2
theorem zd02dec3_45 : decode cX6_rank 48 = .ok (.iload_n 0, 1) ∧ decode cX6_rank 49 = .ok (.bipush 17, 2) ∧ decode cX6_rank 51 = .ok (.if_icmp .gt 7, 3) ∧ decode cX6_rank 54 = .ok (.iconst 5, 1) ∧ decode cX6_rank 55 = .ok (.goto 16, 3) ∧ decode cX6_rank 58 = .ok (.iload_n 0, 1) ∧ decode cX6_rank 59 = .ok (.bipush 18, 2) ∧ decode cX6_rank 61 = .ok (.if_icmp .ne 8, 3) ∧ decode cX6_rank 64 = .ok (.bipush 6, 2) ∧ decode cX6_rank 66 = .ok (.goto 5, 3) ∧ decode cX6_rank 69 = .ok (.bipush 7, 2) ∧ decode cX6_rank 71 = .ok (.ireturn, 1) := by decide +kernel
theorem dX6_rank_48 : decode cX6_rank 48 = .ok (.iload_n 0, 1) := zd02dec3_45.1
theorem dX6_rank_49 : decode cX6_rank 49 = .ok (.bipush 17, 2) := zd02dec3_45.2.1
theorem dX6_rank_51 : decode cX6_rank 51 = .ok (.if_icmp .gt 7, 3) := zd02dec3_45.2.2.1
theorem dX6_rank_54 : decode cX6_rank 54 = .ok (.iconst 5, 1) := zd02dec3_45.2.2.2.1
theorem dX6_rank_55 : decode cX6_rank 55 = .ok (.goto 16, 3) := zd02dec3_45.2.2.2.2.1
theorem dX6_rank_58 : decode cX6_rank 58 = .ok (.iload_n 0, 1) := zd02dec3_45.2.2.2.2.2.1
theorem dX6_rank_59 : decode cX6_rank 59 = .ok (.bipush 18, 2) := zd02dec3_45.2.2.2.2.2.2.1
theorem dX6_rank_61 : decode cX6_rank 61 = .ok (.if_icmp .ne 8, 3) := zd02dec3_45.2.2.2.2.2.2.2.1
theorem dX6_rank_64 : decode cX6_rank 64 = .ok (.bipush 6, 2) := zd02dec3_45.2.2.2.2.2.2.2.2.1
theorem dX6_rank_66 : decode cX6_rank 66 = .ok (.goto 5, 3) := zd02dec3_45.2.2.2.2.2.2.2.2.2.1
theorem dX6_rank_69 : decode cX6_rank 69 = .ok (.bipush 7, 2) := zd02dec3_45.2.2.2.2.2.2.2.2.2.2.1
theorem dX6_rank_71 : decode cX6_rank 71 = .ok (.ireturn, 1) := zd02dec3_45.2.2.2.2.2.2.2.2.2.2.2
theorem zd02dec3_46 : decode cX6_puts 0 = .ok (.aload_n 0, 1) ∧ decode cX6_puts 1 = .ok (.getfield 25, 3) ∧ decode cX6_puts 4 = .ok (.sipush 200, 3) ∧ decode cX6_puts 7 = .ok (.aload_n 0, 1) ∧ decode cX6_puts 8 = .ok (.getfield 98, 3) ∧ decode cX6_puts 11 = .ok (.imul, 1) ∧ decode cX6_puts 12 = .ok (.aload_n 0, 1) ∧ decode cX6_puts 13 = .ok (.getfield 127, 3) ∧ decode cX6_puts 16 = .ok (.iadd, 1) ∧ decode cX6_puts 17 = .ok (.iload_n 1, 1) ∧ decode cX6_puts 18 = .ok (.iastore, 1) ∧ decode cX6_puts 19 = .ok (.aload_n 0, 1) := by decide +kernel
theorem dX6_puts_0 : decode cX6_puts 0 = .ok (.aload_n 0, 1) := zd02dec3_46.1
theorem dX6_puts_1 : decode cX6_puts 1 = .ok (.getfield 25, 3) := zd02dec3_46.2.1
theorem dX6_puts_4 : decode cX6_puts 4 = .ok (.sipush 200, 3) := zd02dec3_46.2.2.1
theorem dX6_puts_7 : decode cX6_puts 7 = .ok (.aload_n 0, 1) := zd02dec3_46.2.2.2.1
theorem dX6_puts_8 : decode cX6_puts 8 = .ok (.getfield 98, 3) := zd02dec3_46.2.2.2.2.1
theorem dX6_puts_11 : decode cX6_puts 11 = .ok (.imul, 1) := zd02dec3_46.2.2.2.2.2.1
theorem dX6_puts_12 : decode cX6_puts 12 = .ok (.aload_n 0, 1) := zd02dec3_46.2.2.2.2.2.2.1
theorem dX6_puts_13 : decode cX6_puts 13 = .ok (.getfield 127, 3) := zd02dec3_46.2.2.2.2.2.2.2.1
theorem dX6_puts_16 : decode cX6_puts 16 = .ok (.iadd, 1) := zd02dec3_46.2.2.2.2.2.2.2.2.1
theorem dX6_puts_17 : decode cX6_puts 17 = .ok (.iload_n 1, 1) := zd02dec3_46.2.2.2.2.2.2.2.2.2.1
theorem dX6_puts_18 : decode cX6_puts 18 = .ok (.iastore, 1) := zd02dec3_46.2.2.2.2.2.2.2.2.2.2.1
theorem dX6_puts_19 : decode cX6_puts 19 = .ok (.aload_n 0, 1) := zd02dec3_46.2.2.2.2.2.2.2.2.2.2.2
theorem zd02dec3_47 : decode cX6_puts 20 = .ok (.dup, 1) ∧ decode cX6_puts 21 = .ok (.getfield 127, 3) ∧ decode cX6_puts 24 = .ok (.iconst 1, 1) ∧ decode cX6_puts 25 = .ok (.iadd, 1) ∧ decode cX6_puts 26 = .ok (.putfield 127, 3) ∧ decode cX6_puts 29 = .ok (.return_, 1) := by decide +kernel
theorem dX6_puts_20 : decode cX6_puts 20 = .ok (.dup, 1) := zd02dec3_47.1
theorem dX6_puts_21 : decode cX6_puts 21 = .ok (.getfield 127, 3) := zd02dec3_47.2.1
theorem dX6_puts_24 : decode cX6_puts 24 = .ok (.iconst 1, 1) := zd02dec3_47.2.2.1
theorem dX6_puts_25 : decode cX6_puts 25 = .ok (.iadd, 1) := zd02dec3_47.2.2.2.1
theorem dX6_puts_26 : decode cX6_puts 26 = .ok (.putfield 127, 3) := zd02dec3_47.2.2.2.2.1
theorem dX6_puts_29 : decode cX6_puts 29 = .ok (.return_, 1) := zd02dec3_47.2.2.2.2.2
theorem zd02dec3_48 : decode cX6_unwinds 0 = .ok (.aload_n 0, 1) ∧ decode cX6_unwinds 1 = .ok (.getfield 130, 3) ∧ decode cX6_unwinds 4 = .ok (.ifCond .le 75, 3) ∧ decode cX6_unwinds 7 = .ok (.aload_n 0, 1) ∧ decode cX6_unwinds 8 = .ok (.getfield 52, 3) ∧ decode cX6_unwinds 11 = .ok (.aload_n 0, 1) ∧ decode cX6_unwinds 12 = .ok (.getfield 130, 3) ∧ decode cX6_unwinds 15 = .ok (.iconst 1, 1) ∧ decode cX6_unwinds 16 = .ok (.isub, 1) ∧ decode cX6_unwinds 17 = .ok (.iaload, 1) ∧ decode cX6_unwinds 18 = .ok (.invokestatic 133, 3) ∧ decode cX6_unwinds 21 = .ok (.iload_n 1, 1) := by decide +kernel
theorem dX6_unwinds_0 : decode cX6_unwinds 0 = .ok (.aload_n 0, 1) := zd02dec3_48.1
theorem dX6_unwinds_1 : decode cX6_unwinds 1 = .ok (.getfield 130, 3) := zd02dec3_48.2.1
theorem dX6_unwinds_4 : decode cX6_unwinds 4 = .ok (.ifCond .le 75, 3) := zd02dec3_48.2.2.1
theorem dX6_unwinds_7 : decode cX6_unwinds 7 = .ok (.aload_n 0, 1) := zd02dec3_48.2.2.2.1
theorem dX6_unwinds_8 : decode cX6_unwinds 8 = .ok (.getfield 52, 3) := zd02dec3_48.2.2.2.2.1
theorem dX6_unwinds_11 : decode cX6_unwinds 11 = .ok (.aload_n 0, 1) := zd02dec3_48.2.2.2.2.2.1
theorem dX6_unwinds_12 : decode cX6_unwinds 12 = .ok (.getfield 130, 3) := zd02dec3_48.2.2.2.2.2.2.1
theorem dX6_unwinds_15 : decode cX6_unwinds 15 = .ok (.iconst 1, 1) := zd02dec3_48.2.2.2.2.2.2.2.1
theorem dX6_unwinds_16 : decode cX6_unwinds 16 = .ok (.isub, 1) := zd02dec3_48.2.2.2.2.2.2.2.2.1
theorem dX6_unwinds_17 : decode cX6_unwinds 17 = .ok (.iaload, 1) := zd02dec3_48.2.2.2.2.2.2.2.2.2.1
theorem dX6_unwinds_18 : decode cX6_unwinds 18 = .ok (.invokestatic 133, 3) := zd02dec3_48.2.2.2.2.2.2.2.2.2.2.1
theorem dX6_unwinds_21 : decode cX6_unwinds 21 = .ok (.iload_n 1, 1) := zd02dec3_48.2.2.2.2.2.2.2.2.2.2.2
theorem zd02dec3_49 : decode cX6_unwinds 22 = .ok (.if_icmp .lt 57, 3) ∧ decode cX6_unwinds 25 = .ok (.aload_n 0, 1) ∧ decode cX6_unwinds 26 = .ok (.dup, 1) ∧ decode cX6_unwinds 27 = .ok (.getfield 130, 3) ∧ decode cX6_unwinds 30 = .ok (.iconst 1, 1) ∧ decode cX6_unwinds 31 = .ok (.isub, 1) ∧ decode cX6_unwinds 32 = .ok (.putfield 130, 3) ∧ decode cX6_unwinds 35 = .ok (.aload_n 0, 1) ∧ decode cX6_unwinds 36 = .ok (.getfield 52, 3) ∧ decode cX6_unwinds 39 = .ok (.aload_n 0, 1) ∧ decode cX6_unwinds 40 = .ok (.getfield 130, 3) ∧ decode cX6_unwinds 43 = .ok (.iaload, 1) := by decide +kernel
theorem dX6_unwinds_22 : decode cX6_unwinds 22 = .ok (.if_icmp .lt 57, 3) := zd02dec3_49.1
theorem dX6_unwinds_25 : decode cX6_unwinds 25 = .ok (.aload_n 0, 1) := zd02dec3_49.2.1
theorem dX6_unwinds_26 : decode cX6_unwinds 26 = .ok (.dup, 1) := zd02dec3_49.2.2.1
theorem dX6_unwinds_27 : decode cX6_unwinds 27 = .ok (.getfield 130, 3) := zd02dec3_49.2.2.2.1
theorem dX6_unwinds_30 : decode cX6_unwinds 30 = .ok (.iconst 1, 1) := zd02dec3_49.2.2.2.2.1
theorem dX6_unwinds_31 : decode cX6_unwinds 31 = .ok (.isub, 1) := zd02dec3_49.2.2.2.2.2.1
theorem dX6_unwinds_32 : decode cX6_unwinds 32 = .ok (.putfield 130, 3) := zd02dec3_49.2.2.2.2.2.2.1
theorem dX6_unwinds_35 : decode cX6_unwinds 35 = .ok (.aload_n 0, 1) := zd02dec3_49.2.2.2.2.2.2.2.1
theorem dX6_unwinds_36 : decode cX6_unwinds 36 = .ok (.getfield 52, 3) := zd02dec3_49.2.2.2.2.2.2.2.2.1
theorem dX6_unwinds_39 : decode cX6_unwinds 39 = .ok (.aload_n 0, 1) := zd02dec3_49.2.2.2.2.2.2.2.2.2.1
theorem dX6_unwinds_40 : decode cX6_unwinds 40 = .ok (.getfield 130, 3) := zd02dec3_49.2.2.2.2.2.2.2.2.2.2.1
theorem dX6_unwinds_43 : decode cX6_unwinds 43 = .ok (.iaload, 1) := zd02dec3_49.2.2.2.2.2.2.2.2.2.2.2
theorem zd02dec3_50 : decode cX6_unwinds 44 = .ok (.istore_n 2, 1) ∧ decode cX6_unwinds 45 = .ok (.aload_n 0, 1) ∧ decode cX6_unwinds 46 = .ok (.dup, 1) ∧ decode cX6_unwinds 47 = .ok (.getfield 137, 3) ∧ decode cX6_unwinds 50 = .ok (.iload_n 2, 1) ∧ decode cX6_unwinds 51 = .ok (.bipush 13, 2) ∧ decode cX6_unwinds 53 = .ok (.if_icmp .eq 9, 3) ∧ decode cX6_unwinds 56 = .ok (.iload_n 2, 1) ∧ decode cX6_unwinds 57 = .ok (.bipush 19, 2) ∧ decode cX6_unwinds 59 = .ok (.if_icmp .ne 7, 3) ∧ decode cX6_unwinds 62 = .ok (.iconst 1, 1) ∧ decode cX6_unwinds 63 = .ok (.goto 4, 3) := by decide +kernel
theorem dX6_unwinds_44 : decode cX6_unwinds 44 = .ok (.istore_n 2, 1) := zd02dec3_50.1
theorem dX6_unwinds_45 : decode cX6_unwinds 45 = .ok (.aload_n 0, 1) := zd02dec3_50.2.1
theorem dX6_unwinds_46 : decode cX6_unwinds 46 = .ok (.dup, 1) := zd02dec3_50.2.2.1
theorem dX6_unwinds_47 : decode cX6_unwinds 47 = .ok (.getfield 137, 3) := zd02dec3_50.2.2.2.1
theorem dX6_unwinds_50 : decode cX6_unwinds 50 = .ok (.iload_n 2, 1) := zd02dec3_50.2.2.2.2.1
theorem dX6_unwinds_51 : decode cX6_unwinds 51 = .ok (.bipush 13, 2) := zd02dec3_50.2.2.2.2.2.1
theorem dX6_unwinds_53 : decode cX6_unwinds 53 = .ok (.if_icmp .eq 9, 3) := zd02dec3_50.2.2.2.2.2.2.1
theorem dX6_unwinds_56 : decode cX6_unwinds 56 = .ok (.iload_n 2, 1) := zd02dec3_50.2.2.2.2.2.2.2.1
theorem dX6_unwinds_57 : decode cX6_unwinds 57 = .ok (.bipush 19, 2) := zd02dec3_50.2.2.2.2.2.2.2.2.1
theorem dX6_unwinds_59 : decode cX6_unwinds 59 = .ok (.if_icmp .ne 7, 3) := zd02dec3_50.2.2.2.2.2.2.2.2.2.1
theorem dX6_unwinds_62 : decode cX6_unwinds 62 = .ok (.iconst 1, 1) := zd02dec3_50.2.2.2.2.2.2.2.2.2.2.1
theorem dX6_unwinds_63 : decode cX6_unwinds 63 = .ok (.goto 4, 3) := zd02dec3_50.2.2.2.2.2.2.2.2.2.2.2
theorem zd02dec3_51 : decode cX6_unwinds 66 = .ok (.iconst 0, 1) ∧ decode cX6_unwinds 67 = .ok (.isub, 1) ∧ decode cX6_unwinds 68 = .ok (.putfield 137, 3) ∧ decode cX6_unwinds 71 = .ok (.aload_n 0, 1) ∧ decode cX6_unwinds 72 = .ok (.iload_n 2, 1) ∧ decode cX6_unwinds 73 = .ok (.invokevirtual 140, 3) ∧ decode cX6_unwinds 76 = .ok (.goto (-76), 3) ∧ decode cX6_unwinds 79 = .ok (.return_, 1) := by decide +kernel
theorem dX6_unwinds_66 : decode cX6_unwinds 66 = .ok (.iconst 0, 1) := zd02dec3_51.1
theorem dX6_unwinds_67 : decode cX6_unwinds 67 = .ok (.isub, 1) := zd02dec3_51.2.1
theorem dX6_unwinds_68 : decode cX6_unwinds 68 = .ok (.putfield 137, 3) := zd02dec3_51.2.2.1
theorem dX6_unwinds_71 : decode cX6_unwinds 71 = .ok (.aload_n 0, 1) := zd02dec3_51.2.2.2.1
theorem dX6_unwinds_72 : decode cX6_unwinds 72 = .ok (.iload_n 2, 1) := zd02dec3_51.2.2.2.2.1
theorem dX6_unwinds_73 : decode cX6_unwinds 73 = .ok (.invokevirtual 140, 3) := zd02dec3_51.2.2.2.2.2.1
theorem dX6_unwinds_76 : decode cX6_unwinds 76 = .ok (.goto (-76), 3) := zd02dec3_51.2.2.2.2.2.2.1
theorem dX6_unwinds_79 : decode cX6_unwinds 79 = .ok (.return_, 1) := zd02dec3_51.2.2.2.2.2.2.2
theorem zd02dec3_52 : decode cX6_holds 0 = .ok (.aload_n 0, 1) ∧ decode cX6_holds 1 = .ok (.getfield 52, 3) ∧ decode cX6_holds 4 = .ok (.aload_n 0, 1) ∧ decode cX6_holds 5 = .ok (.getfield 130, 3) ∧ decode cX6_holds 8 = .ok (.iload_n 1, 1) ∧ decode cX6_holds 9 = .ok (.iastore, 1) ∧ decode cX6_holds 10 = .ok (.aload_n 0, 1) ∧ decode cX6_holds 11 = .ok (.dup, 1) ∧ decode cX6_holds 12 = .ok (.getfield 130, 3) ∧ decode cX6_holds 15 = .ok (.iconst 1, 1) ∧ decode cX6_holds 16 = .ok (.iadd, 1) ∧ decode cX6_holds 17 = .ok (.putfield 130, 3) := by decide +kernel
theorem dX6_holds_0 : decode cX6_holds 0 = .ok (.aload_n 0, 1) := zd02dec3_52.1
theorem dX6_holds_1 : decode cX6_holds 1 = .ok (.getfield 52, 3) := zd02dec3_52.2.1
theorem dX6_holds_4 : decode cX6_holds 4 = .ok (.aload_n 0, 1) := zd02dec3_52.2.2.1
theorem dX6_holds_5 : decode cX6_holds 5 = .ok (.getfield 130, 3) := zd02dec3_52.2.2.2.1
theorem dX6_holds_8 : decode cX6_holds 8 = .ok (.iload_n 1, 1) := zd02dec3_52.2.2.2.2.1
theorem dX6_holds_9 : decode cX6_holds 9 = .ok (.iastore, 1) := zd02dec3_52.2.2.2.2.2.1
theorem dX6_holds_10 : decode cX6_holds 10 = .ok (.aload_n 0, 1) := zd02dec3_52.2.2.2.2.2.2.1
theorem dX6_holds_11 : decode cX6_holds 11 = .ok (.dup, 1) := zd02dec3_52.2.2.2.2.2.2.2.1
theorem dX6_holds_12 : decode cX6_holds 12 = .ok (.getfield 130, 3) := zd02dec3_52.2.2.2.2.2.2.2.2.1
theorem dX6_holds_15 : decode cX6_holds 15 = .ok (.iconst 1, 1) := zd02dec3_52.2.2.2.2.2.2.2.2.2.1
theorem dX6_holds_16 : decode cX6_holds 16 = .ok (.iadd, 1) := zd02dec3_52.2.2.2.2.2.2.2.2.2.2.1
theorem dX6_holds_17 : decode cX6_holds 17 = .ok (.putfield 130, 3) := zd02dec3_52.2.2.2.2.2.2.2.2.2.2.2
theorem dX6_holds_20 : decode cX6_holds 20 = .ok (.return_, 1) := by decide +kernel
theorem zd02dec3_53 : decode cX6_opensOne 0 = .ok (.aload_n 0, 1) ∧ decode cX6_opensOne 1 = .ok (.getfield 137, 3) ∧ decode cX6_opensOne 4 = .ok (.iconst 5, 1) ∧ decode cX6_opensOne 5 = .ok (.if_icmp .ne 5, 3) ∧ decode cX6_opensOne 8 = .ok (.iconst 0, 1) ∧ decode cX6_opensOne 9 = .ok (.ireturn, 1) ∧ decode cX6_opensOne 10 = .ok (.aload_n 0, 1) ∧ decode cX6_opensOne 11 = .ok (.dup, 1) ∧ decode cX6_opensOne 12 = .ok (.getfield 137, 3) ∧ decode cX6_opensOne 15 = .ok (.iconst 1, 1) ∧ decode cX6_opensOne 16 = .ok (.iadd, 1) ∧ decode cX6_opensOne 17 = .ok (.putfield 137, 3) := by decide +kernel
theorem dX6_opensOne_0 : decode cX6_opensOne 0 = .ok (.aload_n 0, 1) := zd02dec3_53.1
theorem dX6_opensOne_1 : decode cX6_opensOne 1 = .ok (.getfield 137, 3) := zd02dec3_53.2.1
theorem dX6_opensOne_4 : decode cX6_opensOne 4 = .ok (.iconst 5, 1) := zd02dec3_53.2.2.1
theorem dX6_opensOne_5 : decode cX6_opensOne 5 = .ok (.if_icmp .ne 5, 3) := zd02dec3_53.2.2.2.1
theorem dX6_opensOne_8 : decode cX6_opensOne 8 = .ok (.iconst 0, 1) := zd02dec3_53.2.2.2.2.1
theorem dX6_opensOne_9 : decode cX6_opensOne 9 = .ok (.ireturn, 1) := zd02dec3_53.2.2.2.2.2.1
theorem dX6_opensOne_10 : decode cX6_opensOne 10 = .ok (.aload_n 0, 1) := zd02dec3_53.2.2.2.2.2.2.1
theorem dX6_opensOne_11 : decode cX6_opensOne 11 = .ok (.dup, 1) := zd02dec3_53.2.2.2.2.2.2.2.1
theorem dX6_opensOne_12 : decode cX6_opensOne 12 = .ok (.getfield 137, 3) := zd02dec3_53.2.2.2.2.2.2.2.2.1
theorem dX6_opensOne_15 : decode cX6_opensOne 15 = .ok (.iconst 1, 1) := zd02dec3_53.2.2.2.2.2.2.2.2.2.1
theorem dX6_opensOne_16 : decode cX6_opensOne 16 = .ok (.iadd, 1) := zd02dec3_53.2.2.2.2.2.2.2.2.2.2.1
theorem dX6_opensOne_17 : decode cX6_opensOne 17 = .ok (.putfield 137, 3) := zd02dec3_53.2.2.2.2.2.2.2.2.2.2.2
theorem zd02dec3_54 : decode cX6_opensOne 20 = .ok (.aload_n 0, 1) ∧ decode cX6_opensOne 21 = .ok (.iload_n 1, 1) ∧ decode cX6_opensOne 22 = .ok (.invokevirtual 144, 3) ∧ decode cX6_opensOne 25 = .ok (.iconst 1, 1) ∧ decode cX6_opensOne 26 = .ok (.ireturn, 1) := by decide +kernel
theorem dX6_opensOne_20 : decode cX6_opensOne 20 = .ok (.aload_n 0, 1) := zd02dec3_54.1
theorem dX6_opensOne_21 : decode cX6_opensOne 21 = .ok (.iload_n 1, 1) := zd02dec3_54.2.1
theorem dX6_opensOne_22 : decode cX6_opensOne 22 = .ok (.invokevirtual 144, 3) := zd02dec3_54.2.2.1
theorem dX6_opensOne_25 : decode cX6_opensOne 25 = .ok (.iconst 1, 1) := zd02dec3_54.2.2.2.1
theorem dX6_opensOne_26 : decode cX6_opensOne 26 = .ok (.ireturn, 1) := zd02dec3_54.2.2.2.2
theorem zd02dec3_55 : decode cX6_between 0 = .ok (.aload_n 0, 1) ∧ decode cX6_between 1 = .ok (.iload_n 1, 1) ∧ decode cX6_between 2 = .ok (.invokestatic 133, 3) ∧ decode cX6_between 5 = .ok (.iconst 4, 1) ∧ decode cX6_between 6 = .ok (.if_icmp .ne 7, 3) ∧ decode cX6_between 9 = .ok (.iconst 5, 1) ∧ decode cX6_between 10 = .ok (.goto 7, 3) ∧ decode cX6_between 13 = .ok (.iload_n 1, 1) ∧ decode cX6_between 14 = .ok (.invokestatic 133, 3) ∧ decode cX6_between 17 = .ok (.invokevirtual 147, 3) ∧ decode cX6_between 20 = .ok (.iload_n 1, 1) ∧ decode cX6_between 21 = .ok (.invokestatic 133, 3) := by decide +kernel
theorem dX6_between_0 : decode cX6_between 0 = .ok (.aload_n 0, 1) := zd02dec3_55.1
theorem dX6_between_1 : decode cX6_between 1 = .ok (.iload_n 1, 1) := zd02dec3_55.2.1
theorem dX6_between_2 : decode cX6_between 2 = .ok (.invokestatic 133, 3) := zd02dec3_55.2.2.1
theorem dX6_between_5 : decode cX6_between 5 = .ok (.iconst 4, 1) := zd02dec3_55.2.2.2.1
theorem dX6_between_6 : decode cX6_between 6 = .ok (.if_icmp .ne 7, 3) := zd02dec3_55.2.2.2.2.1
theorem dX6_between_9 : decode cX6_between 9 = .ok (.iconst 5, 1) := zd02dec3_55.2.2.2.2.2.1
theorem dX6_between_10 : decode cX6_between 10 = .ok (.goto 7, 3) := zd02dec3_55.2.2.2.2.2.2.1
theorem dX6_between_13 : decode cX6_between 13 = .ok (.iload_n 1, 1) := zd02dec3_55.2.2.2.2.2.2.2.1
theorem dX6_between_14 : decode cX6_between 14 = .ok (.invokestatic 133, 3) := zd02dec3_55.2.2.2.2.2.2.2.2.1
theorem dX6_between_17 : decode cX6_between 17 = .ok (.invokevirtual 147, 3) := zd02dec3_55.2.2.2.2.2.2.2.2.2.1
theorem dX6_between_20 : decode cX6_between 20 = .ok (.iload_n 1, 1) := zd02dec3_55.2.2.2.2.2.2.2.2.2.2.1
theorem dX6_between_21 : decode cX6_between 21 = .ok (.invokestatic 133, 3) := zd02dec3_55.2.2.2.2.2.2.2.2.2.2.2
theorem zd02dec3_56 : decode cX6_between 24 = .ok (.iconst 4, 1) ∧ decode cX6_between 25 = .ok (.if_icmp .ne 30, 3) ∧ decode cX6_between 28 = .ok (.aload_n 0, 1) ∧ decode cX6_between 29 = .ok (.getfield 130, 3) ∧ decode cX6_between 32 = .ok (.ifCond .le 23, 3) ∧ decode cX6_between 35 = .ok (.aload_n 0, 1) ∧ decode cX6_between 36 = .ok (.getfield 52, 3) ∧ decode cX6_between 39 = .ok (.aload_n 0, 1) ∧ decode cX6_between 40 = .ok (.getfield 130, 3) ∧ decode cX6_between 43 = .ok (.iconst 1, 1) ∧ decode cX6_between 44 = .ok (.isub, 1) ∧ decode cX6_between 45 = .ok (.iaload, 1) := by decide +kernel
theorem dX6_between_24 : decode cX6_between 24 = .ok (.iconst 4, 1) := zd02dec3_56.1
theorem dX6_between_25 : decode cX6_between 25 = .ok (.if_icmp .ne 30, 3) := zd02dec3_56.2.1
theorem dX6_between_28 : decode cX6_between 28 = .ok (.aload_n 0, 1) := zd02dec3_56.2.2.1
theorem dX6_between_29 : decode cX6_between 29 = .ok (.getfield 130, 3) := zd02dec3_56.2.2.2.1
theorem dX6_between_32 : decode cX6_between 32 = .ok (.ifCond .le 23, 3) := zd02dec3_56.2.2.2.2.1
theorem dX6_between_35 : decode cX6_between 35 = .ok (.aload_n 0, 1) := zd02dec3_56.2.2.2.2.2.1
theorem dX6_between_36 : decode cX6_between 36 = .ok (.getfield 52, 3) := zd02dec3_56.2.2.2.2.2.2.1
theorem dX6_between_39 : decode cX6_between 39 = .ok (.aload_n 0, 1) := zd02dec3_56.2.2.2.2.2.2.2.1
theorem dX6_between_40 : decode cX6_between 40 = .ok (.getfield 130, 3) := zd02dec3_56.2.2.2.2.2.2.2.2.1
theorem dX6_between_43 : decode cX6_between 43 = .ok (.iconst 1, 1) := zd02dec3_56.2.2.2.2.2.2.2.2.2.1
theorem dX6_between_44 : decode cX6_between 44 = .ok (.isub, 1) := zd02dec3_56.2.2.2.2.2.2.2.2.2.2.1
theorem dX6_between_45 : decode cX6_between 45 = .ok (.iaload, 1) := zd02dec3_56.2.2.2.2.2.2.2.2.2.2.2
theorem zd02dec3_57 : decode cX6_between 46 = .ok (.invokestatic 133, 3) ∧ decode cX6_between 49 = .ok (.iconst 4, 1) ∧ decode cX6_between 50 = .ok (.if_icmp .ne 5, 3) ∧ decode cX6_between 53 = .ok (.iconst 0, 1) ∧ decode cX6_between 54 = .ok (.ireturn, 1) ∧ decode cX6_between 55 = .ok (.aload_n 0, 1) ∧ decode cX6_between 56 = .ok (.iload_n 1, 1) ∧ decode cX6_between 57 = .ok (.invokevirtual 144, 3) ∧ decode cX6_between 60 = .ok (.iconst 1, 1) ∧ decode cX6_between 61 = .ok (.ireturn, 1) := by decide +kernel
theorem dX6_between_46 : decode cX6_between 46 = .ok (.invokestatic 133, 3) := zd02dec3_57.1
theorem dX6_between_49 : decode cX6_between 49 = .ok (.iconst 4, 1) := zd02dec3_57.2.1
theorem dX6_between_50 : decode cX6_between 50 = .ok (.if_icmp .ne 5, 3) := zd02dec3_57.2.2.1
theorem dX6_between_53 : decode cX6_between 53 = .ok (.iconst 0, 1) := zd02dec3_57.2.2.2.1
theorem dX6_between_54 : decode cX6_between 54 = .ok (.ireturn, 1) := zd02dec3_57.2.2.2.2.1
theorem dX6_between_55 : decode cX6_between 55 = .ok (.aload_n 0, 1) := zd02dec3_57.2.2.2.2.2.1
theorem dX6_between_56 : decode cX6_between 56 = .ok (.iload_n 1, 1) := zd02dec3_57.2.2.2.2.2.2.1
theorem dX6_between_57 : decode cX6_between 57 = .ok (.invokevirtual 144, 3) := zd02dec3_57.2.2.2.2.2.2.2.1
theorem dX6_between_60 : decode cX6_between 60 = .ok (.iconst 1, 1) := zd02dec3_57.2.2.2.2.2.2.2.2.1
theorem dX6_between_61 : decode cX6_between 61 = .ok (.ireturn, 1) := zd02dec3_57.2.2.2.2.2.2.2.2.2
theorem zd02dec3_58 : decode cX6_signOf 0 = .ok (.aload_n 0, 1) ∧ decode cX6_signOf 1 = .ok (.getfield 117, 3) ∧ decode cX6_signOf 4 = .ok (.iconst 4, 1) ∧ decode cX6_signOf 5 = .ok (.if_icmp .ne 8, 3) ∧ decode cX6_signOf 8 = .ok (.bipush 11, 2) ∧ decode cX6_signOf 10 = .ok (.goto 87, 3) ∧ decode cX6_signOf 13 = .ok (.aload_n 0, 1) ∧ decode cX6_signOf 14 = .ok (.getfield 117, 3) ∧ decode cX6_signOf 17 = .ok (.iconst 5, 1) ∧ decode cX6_signOf 18 = .ok (.if_icmp .ne 8, 3) ∧ decode cX6_signOf 21 = .ok (.bipush 12, 2) ∧ decode cX6_signOf 23 = .ok (.goto 74, 3) := by decide +kernel
theorem dX6_signOf_0 : decode cX6_signOf 0 = .ok (.aload_n 0, 1) := zd02dec3_58.1
theorem dX6_signOf_1 : decode cX6_signOf 1 = .ok (.getfield 117, 3) := zd02dec3_58.2.1
theorem dX6_signOf_4 : decode cX6_signOf 4 = .ok (.iconst 4, 1) := zd02dec3_58.2.2.1
theorem dX6_signOf_5 : decode cX6_signOf 5 = .ok (.if_icmp .ne 8, 3) := zd02dec3_58.2.2.2.1
theorem dX6_signOf_8 : decode cX6_signOf 8 = .ok (.bipush 11, 2) := zd02dec3_58.2.2.2.2.1
theorem dX6_signOf_10 : decode cX6_signOf 10 = .ok (.goto 87, 3) := zd02dec3_58.2.2.2.2.2.1
theorem dX6_signOf_13 : decode cX6_signOf 13 = .ok (.aload_n 0, 1) := zd02dec3_58.2.2.2.2.2.2.1
theorem dX6_signOf_14 : decode cX6_signOf 14 = .ok (.getfield 117, 3) := zd02dec3_58.2.2.2.2.2.2.2.1
theorem dX6_signOf_17 : decode cX6_signOf 17 = .ok (.iconst 5, 1) := zd02dec3_58.2.2.2.2.2.2.2.2.1
theorem dX6_signOf_18 : decode cX6_signOf 18 = .ok (.if_icmp .ne 8, 3) := zd02dec3_58.2.2.2.2.2.2.2.2.2.1
theorem dX6_signOf_21 : decode cX6_signOf 21 = .ok (.bipush 12, 2) := zd02dec3_58.2.2.2.2.2.2.2.2.2.2.1
theorem dX6_signOf_23 : decode cX6_signOf 23 = .ok (.goto 74, 3) := zd02dec3_58.2.2.2.2.2.2.2.2.2.2.2
theorem zd02dec3_59 : decode cX6_signOf 26 = .ok (.aload_n 0, 1) ∧ decode cX6_signOf 27 = .ok (.getfield 117, 3) ∧ decode cX6_signOf 30 = .ok (.bipush 60, 2) ∧ decode cX6_signOf 32 = .ok (.if_icmp .ne 8, 3) ∧ decode cX6_signOf 35 = .ok (.bipush 14, 2) ∧ decode cX6_signOf 37 = .ok (.goto 60, 3) ∧ decode cX6_signOf 40 = .ok (.aload_n 0, 1) ∧ decode cX6_signOf 41 = .ok (.getfield 117, 3) ∧ decode cX6_signOf 44 = .ok (.bipush 61, 2) ∧ decode cX6_signOf 46 = .ok (.if_icmp .ne 8, 3) ∧ decode cX6_signOf 49 = .ok (.bipush 15, 2) ∧ decode cX6_signOf 51 = .ok (.goto 46, 3) := by decide +kernel
theorem dX6_signOf_26 : decode cX6_signOf 26 = .ok (.aload_n 0, 1) := zd02dec3_59.1
theorem dX6_signOf_27 : decode cX6_signOf 27 = .ok (.getfield 117, 3) := zd02dec3_59.2.1
theorem dX6_signOf_30 : decode cX6_signOf 30 = .ok (.bipush 60, 2) := zd02dec3_59.2.2.1
theorem dX6_signOf_32 : decode cX6_signOf 32 = .ok (.if_icmp .ne 8, 3) := zd02dec3_59.2.2.2.1
theorem dX6_signOf_35 : decode cX6_signOf 35 = .ok (.bipush 14, 2) := zd02dec3_59.2.2.2.2.1
theorem dX6_signOf_37 : decode cX6_signOf 37 = .ok (.goto 60, 3) := zd02dec3_59.2.2.2.2.2.1
theorem dX6_signOf_40 : decode cX6_signOf 40 = .ok (.aload_n 0, 1) := zd02dec3_59.2.2.2.2.2.2.1
theorem dX6_signOf_41 : decode cX6_signOf 41 = .ok (.getfield 117, 3) := zd02dec3_59.2.2.2.2.2.2.2.1
theorem dX6_signOf_44 : decode cX6_signOf 44 = .ok (.bipush 61, 2) := zd02dec3_59.2.2.2.2.2.2.2.2.1
theorem dX6_signOf_46 : decode cX6_signOf 46 = .ok (.if_icmp .ne 8, 3) := zd02dec3_59.2.2.2.2.2.2.2.2.2.1
theorem dX6_signOf_49 : decode cX6_signOf 49 = .ok (.bipush 15, 2) := zd02dec3_59.2.2.2.2.2.2.2.2.2.2.1
theorem dX6_signOf_51 : decode cX6_signOf 51 = .ok (.goto 46, 3) := zd02dec3_59.2.2.2.2.2.2.2.2.2.2.2
theorem zd02dec3_60 : decode cX6_signOf 54 = .ok (.aload_n 0, 1) ∧ decode cX6_signOf 55 = .ok (.getfield 117, 3) ∧ decode cX6_signOf 58 = .ok (.bipush 43, 2) ∧ decode cX6_signOf 60 = .ok (.if_icmp .ne 8, 3) ∧ decode cX6_signOf 63 = .ok (.bipush 16, 2) ∧ decode cX6_signOf 65 = .ok (.goto 32, 3) ∧ decode cX6_signOf 68 = .ok (.aload_n 0, 1) ∧ decode cX6_signOf 69 = .ok (.getfield 117, 3) ∧ decode cX6_signOf 72 = .ok (.bipush 45, 2) ∧ decode cX6_signOf 74 = .ok (.if_icmp .ne 8, 3) ∧ decode cX6_signOf 77 = .ok (.bipush 17, 2) ∧ decode cX6_signOf 79 = .ok (.goto 18, 3) := by decide +kernel
theorem dX6_signOf_54 : decode cX6_signOf 54 = .ok (.aload_n 0, 1) := zd02dec3_60.1
theorem dX6_signOf_55 : decode cX6_signOf 55 = .ok (.getfield 117, 3) := zd02dec3_60.2.1
theorem dX6_signOf_58 : decode cX6_signOf 58 = .ok (.bipush 43, 2) := zd02dec3_60.2.2.1
theorem dX6_signOf_60 : decode cX6_signOf 60 = .ok (.if_icmp .ne 8, 3) := zd02dec3_60.2.2.2.1
theorem dX6_signOf_63 : decode cX6_signOf 63 = .ok (.bipush 16, 2) := zd02dec3_60.2.2.2.2.1
theorem dX6_signOf_65 : decode cX6_signOf 65 = .ok (.goto 32, 3) := zd02dec3_60.2.2.2.2.2.1
theorem dX6_signOf_68 : decode cX6_signOf 68 = .ok (.aload_n 0, 1) := zd02dec3_60.2.2.2.2.2.2.1
theorem dX6_signOf_69 : decode cX6_signOf 69 = .ok (.getfield 117, 3) := zd02dec3_60.2.2.2.2.2.2.2.1
theorem dX6_signOf_72 : decode cX6_signOf 72 = .ok (.bipush 45, 2) := zd02dec3_60.2.2.2.2.2.2.2.2.1
theorem dX6_signOf_74 : decode cX6_signOf 74 = .ok (.if_icmp .ne 8, 3) := zd02dec3_60.2.2.2.2.2.2.2.2.2.1
theorem dX6_signOf_77 : decode cX6_signOf 77 = .ok (.bipush 17, 2) := zd02dec3_60.2.2.2.2.2.2.2.2.2.2.1
theorem dX6_signOf_79 : decode cX6_signOf 79 = .ok (.goto 18, 3) := zd02dec3_60.2.2.2.2.2.2.2.2.2.2.2
theorem zd02dec3_61 : decode cX6_signOf 82 = .ok (.aload_n 0, 1) ∧ decode cX6_signOf 83 = .ok (.getfield 117, 3) ∧ decode cX6_signOf 86 = .ok (.bipush 42, 2) ∧ decode cX6_signOf 88 = .ok (.if_icmp .ne 8, 3) ∧ decode cX6_signOf 91 = .ok (.bipush 18, 2) ∧ decode cX6_signOf 93 = .ok (.goto 4, 3) ∧ decode cX6_signOf 96 = .ok (.iconst (-1), 1) ∧ decode cX6_signOf 97 = .ok (.ireturn, 1) := by decide +kernel
theorem dX6_signOf_82 : decode cX6_signOf 82 = .ok (.aload_n 0, 1) := zd02dec3_61.1
theorem dX6_signOf_83 : decode cX6_signOf 83 = .ok (.getfield 117, 3) := zd02dec3_61.2.1
theorem dX6_signOf_86 : decode cX6_signOf 86 = .ok (.bipush 42, 2) := zd02dec3_61.2.2.1
theorem dX6_signOf_88 : decode cX6_signOf 88 = .ok (.if_icmp .ne 8, 3) := zd02dec3_61.2.2.2.1
theorem dX6_signOf_91 : decode cX6_signOf 91 = .ok (.bipush 18, 2) := zd02dec3_61.2.2.2.2.1
theorem dX6_signOf_93 : decode cX6_signOf 93 = .ok (.goto 4, 3) := zd02dec3_61.2.2.2.2.2.1
theorem dX6_signOf_96 : decode cX6_signOf 96 = .ok (.iconst (-1), 1) := zd02dec3_61.2.2.2.2.2.2.1
theorem dX6_signOf_97 : decode cX6_signOf 97 = .ok (.ireturn, 1) := zd02dec3_61.2.2.2.2.2.2.2
theorem zd02dec3_62 : decode cX6_eRead 0 = .ok (.aload_n 0, 1) ∧ decode cX6_eRead 1 = .ok (.iconst 0, 1) ∧ decode cX6_eRead 2 = .ok (.putfield 130, 3) ∧ decode cX6_eRead 5 = .ok (.aload_n 0, 1) ∧ decode cX6_eRead 6 = .ok (.iconst 0, 1) ∧ decode cX6_eRead 7 = .ok (.putfield 137, 3) ∧ decode cX6_eRead 10 = .ok (.iconst 1, 1) ∧ decode cX6_eRead 11 = .ok (.istore_n 1, 1) ∧ decode cX6_eRead 12 = .ok (.iconst 1, 1) ∧ decode cX6_eRead 13 = .ok (.istore_n 2, 1) ∧ decode cX6_eRead 14 = .ok (.aload_n 0, 1) ∧ decode cX6_eRead 15 = .ok (.invokevirtual 150, 3) := by decide +kernel
theorem dX6_eRead_0 : decode cX6_eRead 0 = .ok (.aload_n 0, 1) := zd02dec3_62.1
theorem dX6_eRead_1 : decode cX6_eRead 1 = .ok (.iconst 0, 1) := zd02dec3_62.2.1
theorem dX6_eRead_2 : decode cX6_eRead 2 = .ok (.putfield 130, 3) := zd02dec3_62.2.2.1
theorem dX6_eRead_5 : decode cX6_eRead 5 = .ok (.aload_n 0, 1) := zd02dec3_62.2.2.2.1
theorem dX6_eRead_6 : decode cX6_eRead 6 = .ok (.iconst 0, 1) := zd02dec3_62.2.2.2.2.1
theorem dX6_eRead_7 : decode cX6_eRead 7 = .ok (.putfield 137, 3) := zd02dec3_62.2.2.2.2.2.1
theorem dX6_eRead_10 : decode cX6_eRead 10 = .ok (.iconst 1, 1) := zd02dec3_62.2.2.2.2.2.2.1
theorem dX6_eRead_11 : decode cX6_eRead 11 = .ok (.istore_n 1, 1) := zd02dec3_62.2.2.2.2.2.2.2.1
theorem dX6_eRead_12 : decode cX6_eRead 12 = .ok (.iconst 1, 1) := zd02dec3_62.2.2.2.2.2.2.2.2.1
theorem dX6_eRead_13 : decode cX6_eRead 13 = .ok (.istore_n 2, 1) := zd02dec3_62.2.2.2.2.2.2.2.2.2.1
theorem dX6_eRead_14 : decode cX6_eRead 14 = .ok (.aload_n 0, 1) := zd02dec3_62.2.2.2.2.2.2.2.2.2.2.1
theorem dX6_eRead_15 : decode cX6_eRead 15 = .ok (.invokevirtual 150, 3) := zd02dec3_62.2.2.2.2.2.2.2.2.2.2.2
theorem zd02dec3_63 : decode cX6_eRead 18 = .ok (.iload_n 1, 1) ∧ decode cX6_eRead 19 = .ok (.ifCond .eq 131, 3) ∧ decode cX6_eRead 22 = .ok (.aload_n 0, 1) ∧ decode cX6_eRead 23 = .ok (.getfield 117, 3) ∧ decode cX6_eRead 26 = .ok (.iconst 1, 1) ∧ decode cX6_eRead 27 = .ok (.if_icmp .eq 11, 3) ∧ decode cX6_eRead 30 = .ok (.aload_n 0, 1) ∧ decode cX6_eRead 31 = .ok (.getfield 117, 3) ∧ decode cX6_eRead 34 = .ok (.iconst 2, 1) ∧ decode cX6_eRead 35 = .ok (.if_icmp .ne 40, 3) ∧ decode cX6_eRead 38 = .ok (.aload_n 0, 1) ∧ decode cX6_eRead 39 = .ok (.aload_n 0, 1) := by decide +kernel
theorem dX6_eRead_18 : decode cX6_eRead 18 = .ok (.iload_n 1, 1) := zd02dec3_63.1
theorem dX6_eRead_19 : decode cX6_eRead 19 = .ok (.ifCond .eq 131, 3) := zd02dec3_63.2.1
theorem dX6_eRead_22 : decode cX6_eRead 22 = .ok (.aload_n 0, 1) := zd02dec3_63.2.2.1
theorem dX6_eRead_23 : decode cX6_eRead 23 = .ok (.getfield 117, 3) := zd02dec3_63.2.2.2.1
theorem dX6_eRead_26 : decode cX6_eRead 26 = .ok (.iconst 1, 1) := zd02dec3_63.2.2.2.2.1
theorem dX6_eRead_27 : decode cX6_eRead 27 = .ok (.if_icmp .eq 11, 3) := zd02dec3_63.2.2.2.2.2.1
theorem dX6_eRead_30 : decode cX6_eRead 30 = .ok (.aload_n 0, 1) := zd02dec3_63.2.2.2.2.2.2.1
theorem dX6_eRead_31 : decode cX6_eRead 31 = .ok (.getfield 117, 3) := zd02dec3_63.2.2.2.2.2.2.2.1
theorem dX6_eRead_34 : decode cX6_eRead 34 = .ok (.iconst 2, 1) := zd02dec3_63.2.2.2.2.2.2.2.2.1
theorem dX6_eRead_35 : decode cX6_eRead 35 = .ok (.if_icmp .ne 40, 3) := zd02dec3_63.2.2.2.2.2.2.2.2.2.1
theorem dX6_eRead_38 : decode cX6_eRead 38 = .ok (.aload_n 0, 1) := zd02dec3_63.2.2.2.2.2.2.2.2.2.2.1
theorem dX6_eRead_39 : decode cX6_eRead 39 = .ok (.aload_n 0, 1) := zd02dec3_63.2.2.2.2.2.2.2.2.2.2.2
theorem zd02dec3_64 : decode cX6_eRead 40 = .ok (.getfield 117, 3) ∧ decode cX6_eRead 43 = .ok (.iconst 1, 1) ∧ decode cX6_eRead 44 = .ok (.if_icmp .ne 13, 3) ∧ decode cX6_eRead 47 = .ok (.ldc 153, 2) ∧ decode cX6_eRead 49 = .ok (.aload_n 0, 1) ∧ decode cX6_eRead 50 = .ok (.getfield 120, 3) ∧ decode cX6_eRead 53 = .ok (.iadd, 1) ∧ decode cX6_eRead 54 = .ok (.goto 7, 3) ∧ decode cX6_eRead 57 = .ok (.aload_n 0, 1) ∧ decode cX6_eRead 58 = .ok (.getfield 120, 3) ∧ decode cX6_eRead 61 = .ok (.invokevirtual 140, 3) ∧ decode cX6_eRead 64 = .ok (.aload_n 0, 1) := by decide +kernel
theorem dX6_eRead_40 : decode cX6_eRead 40 = .ok (.getfield 117, 3) := zd02dec3_64.1
theorem dX6_eRead_43 : decode cX6_eRead 43 = .ok (.iconst 1, 1) := zd02dec3_64.2.1
theorem dX6_eRead_44 : decode cX6_eRead 44 = .ok (.if_icmp .ne 13, 3) := zd02dec3_64.2.2.1
theorem dX6_eRead_47 : decode cX6_eRead 47 = .ok (.ldc 153, 2) := zd02dec3_64.2.2.2.1
theorem dX6_eRead_49 : decode cX6_eRead 49 = .ok (.aload_n 0, 1) := zd02dec3_64.2.2.2.2.1
theorem dX6_eRead_50 : decode cX6_eRead 50 = .ok (.getfield 120, 3) := zd02dec3_64.2.2.2.2.2.1
theorem dX6_eRead_53 : decode cX6_eRead 53 = .ok (.iadd, 1) := zd02dec3_64.2.2.2.2.2.2.1
theorem dX6_eRead_54 : decode cX6_eRead 54 = .ok (.goto 7, 3) := zd02dec3_64.2.2.2.2.2.2.2.1
theorem dX6_eRead_57 : decode cX6_eRead 57 = .ok (.aload_n 0, 1) := zd02dec3_64.2.2.2.2.2.2.2.2.1
theorem dX6_eRead_58 : decode cX6_eRead 58 = .ok (.getfield 120, 3) := zd02dec3_64.2.2.2.2.2.2.2.2.2.1
theorem dX6_eRead_61 : decode cX6_eRead 61 = .ok (.invokevirtual 140, 3) := zd02dec3_64.2.2.2.2.2.2.2.2.2.2.1
theorem dX6_eRead_64 : decode cX6_eRead 64 = .ok (.aload_n 0, 1) := zd02dec3_64.2.2.2.2.2.2.2.2.2.2.2
theorem zd02dec3_65 : decode cX6_eRead 65 = .ok (.bipush 7, 2) ∧ decode cX6_eRead 67 = .ok (.invokevirtual 147, 3) ∧ decode cX6_eRead 70 = .ok (.iconst 0, 1) ∧ decode cX6_eRead 71 = .ok (.istore_n 1, 1) ∧ decode cX6_eRead 72 = .ok (.goto (-58), 3) ∧ decode cX6_eRead 75 = .ok (.aload_n 0, 1) ∧ decode cX6_eRead 76 = .ok (.getfield 117, 3) ∧ decode cX6_eRead 79 = .ok (.bipush 6, 2) ∧ decode cX6_eRead 81 = .ok (.if_icmp .ne 18, 3) ∧ decode cX6_eRead 84 = .ok (.iload_n 2, 1) ∧ decode cX6_eRead 85 = .ok (.ifCond .eq 14, 3) ∧ decode cX6_eRead 88 = .ok (.aload_n 0, 1) := by decide +kernel
theorem dX6_eRead_65 : decode cX6_eRead 65 = .ok (.bipush 7, 2) := zd02dec3_65.1
theorem dX6_eRead_67 : decode cX6_eRead 67 = .ok (.invokevirtual 147, 3) := zd02dec3_65.2.1
theorem dX6_eRead_70 : decode cX6_eRead 70 = .ok (.iconst 0, 1) := zd02dec3_65.2.2.1
theorem dX6_eRead_71 : decode cX6_eRead 71 = .ok (.istore_n 1, 1) := zd02dec3_65.2.2.2.1
theorem dX6_eRead_72 : decode cX6_eRead 72 = .ok (.goto (-58), 3) := zd02dec3_65.2.2.2.2.1
theorem dX6_eRead_75 : decode cX6_eRead 75 = .ok (.aload_n 0, 1) := zd02dec3_65.2.2.2.2.2.1
theorem dX6_eRead_76 : decode cX6_eRead 76 = .ok (.getfield 117, 3) := zd02dec3_65.2.2.2.2.2.2.1
theorem dX6_eRead_79 : decode cX6_eRead 79 = .ok (.bipush 6, 2) := zd02dec3_65.2.2.2.2.2.2.2.1
theorem dX6_eRead_81 : decode cX6_eRead 81 = .ok (.if_icmp .ne 18, 3) := zd02dec3_65.2.2.2.2.2.2.2.2.1
theorem dX6_eRead_84 : decode cX6_eRead 84 = .ok (.iload_n 2, 1) := zd02dec3_65.2.2.2.2.2.2.2.2.2.1
theorem dX6_eRead_85 : decode cX6_eRead 85 = .ok (.ifCond .eq 14, 3) := zd02dec3_65.2.2.2.2.2.2.2.2.2.2.1
theorem dX6_eRead_88 : decode cX6_eRead 88 = .ok (.aload_n 0, 1) := zd02dec3_65.2.2.2.2.2.2.2.2.2.2.2
theorem zd02dec3_66 : decode cX6_eRead 89 = .ok (.bipush 13, 2) ∧ decode cX6_eRead 91 = .ok (.invokevirtual 154, 3) ∧ decode cX6_eRead 94 = .ok (.ifCond .ne (-80), 3) ∧ decode cX6_eRead 97 = .ok (.iconst 0, 1) ∧ decode cX6_eRead 98 = .ok (.ireturn, 1) ∧ decode cX6_eRead 99 = .ok (.aload_n 0, 1) ∧ decode cX6_eRead 100 = .ok (.getfield 117, 3) ∧ decode cX6_eRead 103 = .ok (.bipush 45, 2) ∧ decode cX6_eRead 105 = .ok (.if_icmp .ne 19, 3) ∧ decode cX6_eRead 108 = .ok (.aload_n 0, 1) ∧ decode cX6_eRead 109 = .ok (.bipush 19, 2) ∧ decode cX6_eRead 111 = .ok (.invokevirtual 154, 3) := by decide +kernel
theorem dX6_eRead_89 : decode cX6_eRead 89 = .ok (.bipush 13, 2) := zd02dec3_66.1
theorem dX6_eRead_91 : decode cX6_eRead 91 = .ok (.invokevirtual 154, 3) := zd02dec3_66.2.1
theorem dX6_eRead_94 : decode cX6_eRead 94 = .ok (.ifCond .ne (-80), 3) := zd02dec3_66.2.2.1
theorem dX6_eRead_97 : decode cX6_eRead 97 = .ok (.iconst 0, 1) := zd02dec3_66.2.2.2.1
theorem dX6_eRead_98 : decode cX6_eRead 98 = .ok (.ireturn, 1) := zd02dec3_66.2.2.2.2.1
theorem dX6_eRead_99 : decode cX6_eRead 99 = .ok (.aload_n 0, 1) := zd02dec3_66.2.2.2.2.2.1
theorem dX6_eRead_100 : decode cX6_eRead 100 = .ok (.getfield 117, 3) := zd02dec3_66.2.2.2.2.2.2.1
theorem dX6_eRead_103 : decode cX6_eRead 103 = .ok (.bipush 45, 2) := zd02dec3_66.2.2.2.2.2.2.2.1
theorem dX6_eRead_105 : decode cX6_eRead 105 = .ok (.if_icmp .ne 19, 3) := zd02dec3_66.2.2.2.2.2.2.2.2.1
theorem dX6_eRead_108 : decode cX6_eRead 108 = .ok (.aload_n 0, 1) := zd02dec3_66.2.2.2.2.2.2.2.2.2.1
theorem dX6_eRead_109 : decode cX6_eRead 109 = .ok (.bipush 19, 2) := zd02dec3_66.2.2.2.2.2.2.2.2.2.2.1
theorem dX6_eRead_111 : decode cX6_eRead 111 = .ok (.invokevirtual 154, 3) := zd02dec3_66.2.2.2.2.2.2.2.2.2.2.2
theorem zd02dec3_67 : decode cX6_eRead 114 = .ok (.ifCond .ne 5, 3) ∧ decode cX6_eRead 117 = .ok (.iconst 0, 1) ∧ decode cX6_eRead 118 = .ok (.ireturn, 1) ∧ decode cX6_eRead 119 = .ok (.iconst 0, 1) ∧ decode cX6_eRead 120 = .ok (.istore_n 2, 1) ∧ decode cX6_eRead 121 = .ok (.goto (-107), 3) ∧ decode cX6_eRead 124 = .ok (.aload_n 0, 1) ∧ decode cX6_eRead 125 = .ok (.getfield 117, 3) ∧ decode cX6_eRead 128 = .ok (.bipush 40, 2) ∧ decode cX6_eRead 130 = .ok (.if_icmp .ne 18, 3) ∧ decode cX6_eRead 133 = .ok (.aload_n 0, 1) ∧ decode cX6_eRead 134 = .ok (.iconst 0, 1) := by decide +kernel
theorem dX6_eRead_114 : decode cX6_eRead 114 = .ok (.ifCond .ne 5, 3) := zd02dec3_67.1
theorem dX6_eRead_117 : decode cX6_eRead 117 = .ok (.iconst 0, 1) := zd02dec3_67.2.1
theorem dX6_eRead_118 : decode cX6_eRead 118 = .ok (.ireturn, 1) := zd02dec3_67.2.2.1
theorem dX6_eRead_119 : decode cX6_eRead 119 = .ok (.iconst 0, 1) := zd02dec3_67.2.2.2.1
theorem dX6_eRead_120 : decode cX6_eRead 120 = .ok (.istore_n 2, 1) := zd02dec3_67.2.2.2.2.1
theorem dX6_eRead_121 : decode cX6_eRead 121 = .ok (.goto (-107), 3) := zd02dec3_67.2.2.2.2.2.1
theorem dX6_eRead_124 : decode cX6_eRead 124 = .ok (.aload_n 0, 1) := zd02dec3_67.2.2.2.2.2.2.1
theorem dX6_eRead_125 : decode cX6_eRead 125 = .ok (.getfield 117, 3) := zd02dec3_67.2.2.2.2.2.2.2.1
theorem dX6_eRead_128 : decode cX6_eRead 128 = .ok (.bipush 40, 2) := zd02dec3_67.2.2.2.2.2.2.2.2.1
theorem dX6_eRead_130 : decode cX6_eRead 130 = .ok (.if_icmp .ne 18, 3) := zd02dec3_67.2.2.2.2.2.2.2.2.2.1
theorem dX6_eRead_133 : decode cX6_eRead 133 = .ok (.aload_n 0, 1) := zd02dec3_67.2.2.2.2.2.2.2.2.2.2.1
theorem dX6_eRead_134 : decode cX6_eRead 134 = .ok (.iconst 0, 1) := zd02dec3_67.2.2.2.2.2.2.2.2.2.2.2
theorem zd02dec3_68 : decode cX6_eRead 135 = .ok (.invokevirtual 154, 3) ∧ decode cX6_eRead 138 = .ok (.ifCond .ne 5, 3) ∧ decode cX6_eRead 141 = .ok (.iconst 0, 1) ∧ decode cX6_eRead 142 = .ok (.ireturn, 1) ∧ decode cX6_eRead 143 = .ok (.iconst 1, 1) ∧ decode cX6_eRead 144 = .ok (.istore_n 2, 1) ∧ decode cX6_eRead 145 = .ok (.goto (-131), 3) ∧ decode cX6_eRead 148 = .ok (.iconst 0, 1) ∧ decode cX6_eRead 149 = .ok (.ireturn, 1) ∧ decode cX6_eRead 150 = .ok (.aload_n 0, 1) ∧ decode cX6_eRead 151 = .ok (.getfield 117, 3) ∧ decode cX6_eRead 154 = .ok (.bipush 59, 2) := by decide +kernel
theorem dX6_eRead_135 : decode cX6_eRead 135 = .ok (.invokevirtual 154, 3) := zd02dec3_68.1
theorem dX6_eRead_138 : decode cX6_eRead 138 = .ok (.ifCond .ne 5, 3) := zd02dec3_68.2.1
theorem dX6_eRead_141 : decode cX6_eRead 141 = .ok (.iconst 0, 1) := zd02dec3_68.2.2.1
theorem dX6_eRead_142 : decode cX6_eRead 142 = .ok (.ireturn, 1) := zd02dec3_68.2.2.2.1
theorem dX6_eRead_143 : decode cX6_eRead 143 = .ok (.iconst 1, 1) := zd02dec3_68.2.2.2.2.1
theorem dX6_eRead_144 : decode cX6_eRead 144 = .ok (.istore_n 2, 1) := zd02dec3_68.2.2.2.2.2.1
theorem dX6_eRead_145 : decode cX6_eRead 145 = .ok (.goto (-131), 3) := zd02dec3_68.2.2.2.2.2.2.1
theorem dX6_eRead_148 : decode cX6_eRead 148 = .ok (.iconst 0, 1) := zd02dec3_68.2.2.2.2.2.2.2.1
theorem dX6_eRead_149 : decode cX6_eRead 149 = .ok (.ireturn, 1) := zd02dec3_68.2.2.2.2.2.2.2.2.1
theorem dX6_eRead_150 : decode cX6_eRead 150 = .ok (.aload_n 0, 1) := zd02dec3_68.2.2.2.2.2.2.2.2.2.1
theorem dX6_eRead_151 : decode cX6_eRead 151 = .ok (.getfield 117, 3) := zd02dec3_68.2.2.2.2.2.2.2.2.2.2.1
theorem dX6_eRead_154 : decode cX6_eRead 154 = .ok (.bipush 59, 2) := zd02dec3_68.2.2.2.2.2.2.2.2.2.2.2
theorem zd02dec3_69 : decode cX6_eRead 156 = .ok (.if_icmp .ne 21, 3) ∧ decode cX6_eRead 159 = .ok (.aload_n 0, 1) ∧ decode cX6_eRead 160 = .ok (.iconst 1, 1) ∧ decode cX6_eRead 161 = .ok (.invokevirtual 147, 3) ∧ decode cX6_eRead 164 = .ok (.aload_n 0, 1) ∧ decode cX6_eRead 165 = .ok (.getfield 130, 3) ∧ decode cX6_eRead 168 = .ok (.ifCond .ne 7, 3) ∧ decode cX6_eRead 171 = .ok (.iconst 1, 1) ∧ decode cX6_eRead 172 = .ok (.goto 4, 3) ∧ decode cX6_eRead 175 = .ok (.iconst 0, 1) ∧ decode cX6_eRead 176 = .ok (.ireturn, 1) ∧ decode cX6_eRead 177 = .ok (.aload_n 0, 1) := by decide +kernel
theorem dX6_eRead_156 : decode cX6_eRead 156 = .ok (.if_icmp .ne 21, 3) := zd02dec3_69.1
theorem dX6_eRead_159 : decode cX6_eRead 159 = .ok (.aload_n 0, 1) := zd02dec3_69.2.1
theorem dX6_eRead_160 : decode cX6_eRead 160 = .ok (.iconst 1, 1) := zd02dec3_69.2.2.1
theorem dX6_eRead_161 : decode cX6_eRead 161 = .ok (.invokevirtual 147, 3) := zd02dec3_69.2.2.2.1
theorem dX6_eRead_164 : decode cX6_eRead 164 = .ok (.aload_n 0, 1) := zd02dec3_69.2.2.2.2.1
theorem dX6_eRead_165 : decode cX6_eRead 165 = .ok (.getfield 130, 3) := zd02dec3_69.2.2.2.2.2.1
theorem dX6_eRead_168 : decode cX6_eRead 168 = .ok (.ifCond .ne 7, 3) := zd02dec3_69.2.2.2.2.2.2.1
theorem dX6_eRead_171 : decode cX6_eRead 171 = .ok (.iconst 1, 1) := zd02dec3_69.2.2.2.2.2.2.2.1
theorem dX6_eRead_172 : decode cX6_eRead 172 = .ok (.goto 4, 3) := zd02dec3_69.2.2.2.2.2.2.2.2.1
theorem dX6_eRead_175 : decode cX6_eRead 175 = .ok (.iconst 0, 1) := zd02dec3_69.2.2.2.2.2.2.2.2.2.1
theorem dX6_eRead_176 : decode cX6_eRead 176 = .ok (.ireturn, 1) := zd02dec3_69.2.2.2.2.2.2.2.2.2.2.1
theorem dX6_eRead_177 : decode cX6_eRead 177 = .ok (.aload_n 0, 1) := zd02dec3_69.2.2.2.2.2.2.2.2.2.2.2
theorem zd02dec3_70 : decode cX6_eRead 178 = .ok (.getfield 117, 3) ∧ decode cX6_eRead 181 = .ok (.bipush 41, 2) ∧ decode cX6_eRead 183 = .ok (.if_icmp .ne 46, 3) ∧ decode cX6_eRead 186 = .ok (.aload_n 0, 1) ∧ decode cX6_eRead 187 = .ok (.iconst 1, 1) ∧ decode cX6_eRead 188 = .ok (.invokevirtual 147, 3) ∧ decode cX6_eRead 191 = .ok (.aload_n 0, 1) ∧ decode cX6_eRead 192 = .ok (.getfield 130, 3) ∧ decode cX6_eRead 195 = .ok (.ifCond .ne 5, 3) ∧ decode cX6_eRead 198 = .ok (.iconst 0, 1) ∧ decode cX6_eRead 199 = .ok (.ireturn, 1) ∧ decode cX6_eRead 200 = .ok (.aload_n 0, 1) := by decide +kernel
theorem dX6_eRead_178 : decode cX6_eRead 178 = .ok (.getfield 117, 3) := zd02dec3_70.1
theorem dX6_eRead_181 : decode cX6_eRead 181 = .ok (.bipush 41, 2) := zd02dec3_70.2.1
theorem dX6_eRead_183 : decode cX6_eRead 183 = .ok (.if_icmp .ne 46, 3) := zd02dec3_70.2.2.1
theorem dX6_eRead_186 : decode cX6_eRead 186 = .ok (.aload_n 0, 1) := zd02dec3_70.2.2.2.1
theorem dX6_eRead_187 : decode cX6_eRead 187 = .ok (.iconst 1, 1) := zd02dec3_70.2.2.2.2.1
theorem dX6_eRead_188 : decode cX6_eRead 188 = .ok (.invokevirtual 147, 3) := zd02dec3_70.2.2.2.2.2.1
theorem dX6_eRead_191 : decode cX6_eRead 191 = .ok (.aload_n 0, 1) := zd02dec3_70.2.2.2.2.2.2.1
theorem dX6_eRead_192 : decode cX6_eRead 192 = .ok (.getfield 130, 3) := zd02dec3_70.2.2.2.2.2.2.2.1
theorem dX6_eRead_195 : decode cX6_eRead 195 = .ok (.ifCond .ne 5, 3) := zd02dec3_70.2.2.2.2.2.2.2.2.1
theorem dX6_eRead_198 : decode cX6_eRead 198 = .ok (.iconst 0, 1) := zd02dec3_70.2.2.2.2.2.2.2.2.2.1
theorem dX6_eRead_199 : decode cX6_eRead 199 = .ok (.ireturn, 1) := zd02dec3_70.2.2.2.2.2.2.2.2.2.2.1
theorem dX6_eRead_200 : decode cX6_eRead 200 = .ok (.aload_n 0, 1) := zd02dec3_70.2.2.2.2.2.2.2.2.2.2.2
theorem zd02dec3_71 : decode cX6_eRead 201 = .ok (.dup, 1) ∧ decode cX6_eRead 202 = .ok (.getfield 130, 3) ∧ decode cX6_eRead 205 = .ok (.iconst 1, 1) ∧ decode cX6_eRead 206 = .ok (.isub, 1) ∧ decode cX6_eRead 207 = .ok (.putfield 130, 3) ∧ decode cX6_eRead 210 = .ok (.aload_n 0, 1) ∧ decode cX6_eRead 211 = .ok (.dup, 1) ∧ decode cX6_eRead 212 = .ok (.getfield 137, 3) ∧ decode cX6_eRead 215 = .ok (.iconst 1, 1) ∧ decode cX6_eRead 216 = .ok (.isub, 1) ∧ decode cX6_eRead 217 = .ok (.putfield 137, 3) ∧ decode cX6_eRead 220 = .ok (.aload_n 0, 1) := by decide +kernel
theorem dX6_eRead_201 : decode cX6_eRead 201 = .ok (.dup, 1) := zd02dec3_71.1
theorem dX6_eRead_202 : decode cX6_eRead 202 = .ok (.getfield 130, 3) := zd02dec3_71.2.1
theorem dX6_eRead_205 : decode cX6_eRead 205 = .ok (.iconst 1, 1) := zd02dec3_71.2.2.1
theorem dX6_eRead_206 : decode cX6_eRead 206 = .ok (.isub, 1) := zd02dec3_71.2.2.2.1
theorem dX6_eRead_207 : decode cX6_eRead 207 = .ok (.putfield 130, 3) := zd02dec3_71.2.2.2.2.1
theorem dX6_eRead_210 : decode cX6_eRead 210 = .ok (.aload_n 0, 1) := zd02dec3_71.2.2.2.2.2.1
theorem dX6_eRead_211 : decode cX6_eRead 211 = .ok (.dup, 1) := zd02dec3_71.2.2.2.2.2.2.1
theorem dX6_eRead_212 : decode cX6_eRead 212 = .ok (.getfield 137, 3) := zd02dec3_71.2.2.2.2.2.2.2.1
theorem dX6_eRead_215 : decode cX6_eRead 215 = .ok (.iconst 1, 1) := zd02dec3_71.2.2.2.2.2.2.2.2.1
theorem dX6_eRead_216 : decode cX6_eRead 216 = .ok (.isub, 1) := zd02dec3_71.2.2.2.2.2.2.2.2.2.1
theorem dX6_eRead_217 : decode cX6_eRead 217 = .ok (.putfield 137, 3) := zd02dec3_71.2.2.2.2.2.2.2.2.2.2.1
theorem dX6_eRead_220 : decode cX6_eRead 220 = .ok (.aload_n 0, 1) := zd02dec3_71.2.2.2.2.2.2.2.2.2.2.2
theorem zd02dec3_72 : decode cX6_eRead 221 = .ok (.bipush 7, 2) ∧ decode cX6_eRead 223 = .ok (.invokevirtual 147, 3) ∧ decode cX6_eRead 226 = .ok (.goto (-212), 3) ∧ decode cX6_eRead 229 = .ok (.aload_n 0, 1) ∧ decode cX6_eRead 230 = .ok (.invokevirtual 157, 3) ∧ decode cX6_eRead 233 = .ok (.istore_n 3, 1) ∧ decode cX6_eRead 234 = .ok (.iload_n 3, 1) ∧ decode cX6_eRead 235 = .ok (.iconst (-1), 1) ∧ decode cX6_eRead 236 = .ok (.if_icmp .eq 11, 3) ∧ decode cX6_eRead 239 = .ok (.aload_n 0, 1) ∧ decode cX6_eRead 240 = .ok (.iload_n 3, 1) ∧ decode cX6_eRead 241 = .ok (.invokevirtual 160, 3) := by decide +kernel
theorem dX6_eRead_221 : decode cX6_eRead 221 = .ok (.bipush 7, 2) := zd02dec3_72.1
theorem dX6_eRead_223 : decode cX6_eRead 223 = .ok (.invokevirtual 147, 3) := zd02dec3_72.2.1
theorem dX6_eRead_226 : decode cX6_eRead 226 = .ok (.goto (-212), 3) := zd02dec3_72.2.2.1
theorem dX6_eRead_229 : decode cX6_eRead 229 = .ok (.aload_n 0, 1) := zd02dec3_72.2.2.2.1
theorem dX6_eRead_230 : decode cX6_eRead 230 = .ok (.invokevirtual 157, 3) := zd02dec3_72.2.2.2.2.1
theorem dX6_eRead_233 : decode cX6_eRead 233 = .ok (.istore_n 3, 1) := zd02dec3_72.2.2.2.2.2.1
theorem dX6_eRead_234 : decode cX6_eRead 234 = .ok (.iload_n 3, 1) := zd02dec3_72.2.2.2.2.2.2.1
theorem dX6_eRead_235 : decode cX6_eRead 235 = .ok (.iconst (-1), 1) := zd02dec3_72.2.2.2.2.2.2.2.1
theorem dX6_eRead_236 : decode cX6_eRead 236 = .ok (.if_icmp .eq 11, 3) := zd02dec3_72.2.2.2.2.2.2.2.2.1
theorem dX6_eRead_239 : decode cX6_eRead 239 = .ok (.aload_n 0, 1) := zd02dec3_72.2.2.2.2.2.2.2.2.2.1
theorem dX6_eRead_240 : decode cX6_eRead 240 = .ok (.iload_n 3, 1) := zd02dec3_72.2.2.2.2.2.2.2.2.2.2.1
theorem dX6_eRead_241 : decode cX6_eRead 241 = .ok (.invokevirtual 160, 3) := zd02dec3_72.2.2.2.2.2.2.2.2.2.2.2
theorem zd02dec3_73 : decode cX6_eRead 244 = .ok (.ifCond .ne 5, 3) ∧ decode cX6_eRead 247 = .ok (.iconst 0, 1) ∧ decode cX6_eRead 248 = .ok (.ireturn, 1) ∧ decode cX6_eRead 249 = .ok (.iconst 1, 1) ∧ decode cX6_eRead 250 = .ok (.istore_n 1, 1) ∧ decode cX6_eRead 251 = .ok (.iload_n 3, 1) ∧ decode cX6_eRead 252 = .ok (.bipush 12, 2) ∧ decode cX6_eRead 254 = .ok (.if_icmp .gt 7, 3) ∧ decode cX6_eRead 257 = .ok (.iconst 1, 1) ∧ decode cX6_eRead 258 = .ok (.goto 4, 3) ∧ decode cX6_eRead 261 = .ok (.iconst 0, 1) ∧ decode cX6_eRead 262 = .ok (.istore_n 2, 1) := by decide +kernel
theorem dX6_eRead_244 : decode cX6_eRead 244 = .ok (.ifCond .ne 5, 3) := zd02dec3_73.1
theorem dX6_eRead_247 : decode cX6_eRead 247 = .ok (.iconst 0, 1) := zd02dec3_73.2.1
theorem dX6_eRead_248 : decode cX6_eRead 248 = .ok (.ireturn, 1) := zd02dec3_73.2.2.1
theorem dX6_eRead_249 : decode cX6_eRead 249 = .ok (.iconst 1, 1) := zd02dec3_73.2.2.2.1
theorem dX6_eRead_250 : decode cX6_eRead 250 = .ok (.istore_n 1, 1) := zd02dec3_73.2.2.2.2.1
theorem dX6_eRead_251 : decode cX6_eRead 251 = .ok (.iload_n 3, 1) := zd02dec3_73.2.2.2.2.2.1
theorem dX6_eRead_252 : decode cX6_eRead 252 = .ok (.bipush 12, 2) := zd02dec3_73.2.2.2.2.2.2.1
theorem dX6_eRead_254 : decode cX6_eRead 254 = .ok (.if_icmp .gt 7, 3) := zd02dec3_73.2.2.2.2.2.2.2.1
theorem dX6_eRead_257 : decode cX6_eRead 257 = .ok (.iconst 1, 1) := zd02dec3_73.2.2.2.2.2.2.2.2.1
theorem dX6_eRead_258 : decode cX6_eRead 258 = .ok (.goto 4, 3) := zd02dec3_73.2.2.2.2.2.2.2.2.2.1
theorem dX6_eRead_261 : decode cX6_eRead 261 = .ok (.iconst 0, 1) := zd02dec3_73.2.2.2.2.2.2.2.2.2.2.1
theorem dX6_eRead_262 : decode cX6_eRead 262 = .ok (.istore_n 2, 1) := zd02dec3_73.2.2.2.2.2.2.2.2.2.2.2
theorem dX6_eRead_263 : decode cX6_eRead 263 = .ok (.goto (-249), 3) := by decide +kernel
theorem zd02dec3_74 : decode cX6_text 0 = .ok (.aload_n 0, 1) ∧ decode cX6_text 1 = .ok (.getfield 98, 3) ∧ decode cX6_text 4 = .ok (.bipush 6, 2) ∧ decode cX6_text 6 = .ok (.if_icmp .ne 6, 3) ∧ decode cX6_text 9 = .ok (.bipush (-4), 2) ∧ decode cX6_text 11 = .ok (.ireturn, 1) ∧ decode cX6_text 12 = .ok (.aload_n 0, 1) ∧ decode cX6_text 13 = .ok (.iconst 0, 1) ∧ decode cX6_text 14 = .ok (.putfield 111, 3) ∧ decode cX6_text 17 = .ok (.aload_n 0, 1) ∧ decode cX6_text 18 = .ok (.iconst 0, 1) ∧ decode cX6_text 19 = .ok (.putfield 127, 3) := by decide +kernel
theorem dX6_text_0 : decode cX6_text 0 = .ok (.aload_n 0, 1) := zd02dec3_74.1
theorem dX6_text_1 : decode cX6_text 1 = .ok (.getfield 98, 3) := zd02dec3_74.2.1
theorem dX6_text_4 : decode cX6_text 4 = .ok (.bipush 6, 2) := zd02dec3_74.2.2.1
theorem dX6_text_6 : decode cX6_text 6 = .ok (.if_icmp .ne 6, 3) := zd02dec3_74.2.2.2.1
theorem dX6_text_9 : decode cX6_text 9 = .ok (.bipush (-4), 2) := zd02dec3_74.2.2.2.2.1
theorem dX6_text_11 : decode cX6_text 11 = .ok (.ireturn, 1) := zd02dec3_74.2.2.2.2.2.1
theorem dX6_text_12 : decode cX6_text 12 = .ok (.aload_n 0, 1) := zd02dec3_74.2.2.2.2.2.2.1
theorem dX6_text_13 : decode cX6_text 13 = .ok (.iconst 0, 1) := zd02dec3_74.2.2.2.2.2.2.2.1
theorem dX6_text_14 : decode cX6_text 14 = .ok (.putfield 111, 3) := zd02dec3_74.2.2.2.2.2.2.2.2.1
theorem dX6_text_17 : decode cX6_text 17 = .ok (.aload_n 0, 1) := zd02dec3_74.2.2.2.2.2.2.2.2.2.1
theorem dX6_text_18 : decode cX6_text 18 = .ok (.iconst 0, 1) := zd02dec3_74.2.2.2.2.2.2.2.2.2.2.1
theorem dX6_text_19 : decode cX6_text 19 = .ok (.putfield 127, 3) := zd02dec3_74.2.2.2.2.2.2.2.2.2.2.2
theorem zd02dec3_75 : decode cX6_text 22 = .ok (.iconst 1, 1) ∧ decode cX6_text 23 = .ok (.istore_n 1, 1) ∧ decode cX6_text 24 = .ok (.iconst 0, 1) ∧ decode cX6_text 25 = .ok (.istore_n 2, 1) ∧ decode cX6_text 26 = .ok (.iload_n 2, 1) ∧ decode cX6_text 27 = .ok (.iconst 3, 1) ∧ decode cX6_text 28 = .ok (.if_icmp .ge 73, 3) ∧ decode cX6_text 31 = .ok (.iload_n 1, 1) ∧ decode cX6_text 32 = .ok (.ifCond .eq 69, 3) ∧ decode cX6_text 35 = .ok (.aload_n 0, 1) ∧ decode cX6_text 36 = .ok (.invokevirtual 150, 3) ∧ decode cX6_text 39 = .ok (.aload_n 0, 1) := by decide +kernel
theorem dX6_text_22 : decode cX6_text 22 = .ok (.iconst 1, 1) := zd02dec3_75.1
theorem dX6_text_23 : decode cX6_text 23 = .ok (.istore_n 1, 1) := zd02dec3_75.2.1
theorem dX6_text_24 : decode cX6_text 24 = .ok (.iconst 0, 1) := zd02dec3_75.2.2.1
theorem dX6_text_25 : decode cX6_text 25 = .ok (.istore_n 2, 1) := zd02dec3_75.2.2.2.1
theorem dX6_text_26 : decode cX6_text 26 = .ok (.iload_n 2, 1) := zd02dec3_75.2.2.2.2.1
theorem dX6_text_27 : decode cX6_text 27 = .ok (.iconst 3, 1) := zd02dec3_75.2.2.2.2.2.1
theorem dX6_text_28 : decode cX6_text 28 = .ok (.if_icmp .ge 73, 3) := zd02dec3_75.2.2.2.2.2.2.1
theorem dX6_text_31 : decode cX6_text 31 = .ok (.iload_n 1, 1) := zd02dec3_75.2.2.2.2.2.2.2.1
theorem dX6_text_32 : decode cX6_text 32 = .ok (.ifCond .eq 69, 3) := zd02dec3_75.2.2.2.2.2.2.2.2.1
theorem dX6_text_35 : decode cX6_text 35 = .ok (.aload_n 0, 1) := zd02dec3_75.2.2.2.2.2.2.2.2.2.1
theorem dX6_text_36 : decode cX6_text 36 = .ok (.invokevirtual 150, 3) := zd02dec3_75.2.2.2.2.2.2.2.2.2.2.1
theorem dX6_text_39 : decode cX6_text 39 = .ok (.aload_n 0, 1) := zd02dec3_75.2.2.2.2.2.2.2.2.2.2.2
theorem zd02dec3_76 : decode cX6_text 40 = .ok (.getfield 117, 3) ∧ decode cX6_text 43 = .ok (.iconst 3, 1) ∧ decode cX6_text 44 = .ok (.if_icmp .ne 15, 3) ∧ decode cX6_text 47 = .ok (.aload_n 0, 1) ∧ decode cX6_text 48 = .ok (.getfield 120, 3) ∧ decode cX6_text 51 = .ok (.iload_n 2, 1) ∧ decode cX6_text 52 = .ok (.if_icmp .ne 7, 3) ∧ decode cX6_text 55 = .ok (.iconst 1, 1) ∧ decode cX6_text 56 = .ok (.goto 4, 3) ∧ decode cX6_text 59 = .ok (.iconst 0, 1) ∧ decode cX6_text 60 = .ok (.istore_n 1, 1) ∧ decode cX6_text 61 = .ok (.aload_n 0, 1) := by decide +kernel
theorem dX6_text_40 : decode cX6_text 40 = .ok (.getfield 117, 3) := zd02dec3_76.1
theorem dX6_text_43 : decode cX6_text 43 = .ok (.iconst 3, 1) := zd02dec3_76.2.1
theorem dX6_text_44 : decode cX6_text 44 = .ok (.if_icmp .ne 15, 3) := zd02dec3_76.2.2.1
theorem dX6_text_47 : decode cX6_text 47 = .ok (.aload_n 0, 1) := zd02dec3_76.2.2.2.1
theorem dX6_text_48 : decode cX6_text 48 = .ok (.getfield 120, 3) := zd02dec3_76.2.2.2.2.1
theorem dX6_text_51 : decode cX6_text 51 = .ok (.iload_n 2, 1) := zd02dec3_76.2.2.2.2.2.1
theorem dX6_text_52 : decode cX6_text 52 = .ok (.if_icmp .ne 7, 3) := zd02dec3_76.2.2.2.2.2.2.1
theorem dX6_text_55 : decode cX6_text 55 = .ok (.iconst 1, 1) := zd02dec3_76.2.2.2.2.2.2.2.1
theorem dX6_text_56 : decode cX6_text 56 = .ok (.goto 4, 3) := zd02dec3_76.2.2.2.2.2.2.2.2.1
theorem dX6_text_59 : decode cX6_text 59 = .ok (.iconst 0, 1) := zd02dec3_76.2.2.2.2.2.2.2.2.2.1
theorem dX6_text_60 : decode cX6_text 60 = .ok (.istore_n 1, 1) := zd02dec3_76.2.2.2.2.2.2.2.2.2.2.1
theorem dX6_text_61 : decode cX6_text 61 = .ok (.aload_n 0, 1) := zd02dec3_76.2.2.2.2.2.2.2.2.2.2.2
theorem zd02dec3_77 : decode cX6_text 62 = .ok (.getfield 28, 3) ∧ decode cX6_text 65 = .ok (.iconst 4, 1) ∧ decode cX6_text 66 = .ok (.aload_n 0, 1) ∧ decode cX6_text 67 = .ok (.getfield 98, 3) ∧ decode cX6_text 70 = .ok (.imul, 1) ∧ decode cX6_text 71 = .ok (.iload_n 2, 1) ∧ decode cX6_text 72 = .ok (.iadd, 1) ∧ decode cX6_text 73 = .ok (.aload_n 0, 1) ∧ decode cX6_text 74 = .ok (.getfield 127, 3) ∧ decode cX6_text 77 = .ok (.iastore, 1) ∧ decode cX6_text 78 = .ok (.iload_n 1, 1) ∧ decode cX6_text 79 = .ok (.ifCond .eq 14, 3) := by decide +kernel
theorem dX6_text_62 : decode cX6_text 62 = .ok (.getfield 28, 3) := zd02dec3_77.1
theorem dX6_text_65 : decode cX6_text 65 = .ok (.iconst 4, 1) := zd02dec3_77.2.1
theorem dX6_text_66 : decode cX6_text 66 = .ok (.aload_n 0, 1) := zd02dec3_77.2.2.1
theorem dX6_text_67 : decode cX6_text 67 = .ok (.getfield 98, 3) := zd02dec3_77.2.2.2.1
theorem dX6_text_70 : decode cX6_text 70 = .ok (.imul, 1) := zd02dec3_77.2.2.2.2.1
theorem dX6_text_71 : decode cX6_text 71 = .ok (.iload_n 2, 1) := zd02dec3_77.2.2.2.2.2.1
theorem dX6_text_72 : decode cX6_text 72 = .ok (.iadd, 1) := zd02dec3_77.2.2.2.2.2.2.1
theorem dX6_text_73 : decode cX6_text 73 = .ok (.aload_n 0, 1) := zd02dec3_77.2.2.2.2.2.2.2.1
theorem dX6_text_74 : decode cX6_text 74 = .ok (.getfield 127, 3) := zd02dec3_77.2.2.2.2.2.2.2.2.1
theorem dX6_text_77 : decode cX6_text 77 = .ok (.iastore, 1) := zd02dec3_77.2.2.2.2.2.2.2.2.2.1
theorem dX6_text_78 : decode cX6_text 78 = .ok (.iload_n 1, 1) := zd02dec3_77.2.2.2.2.2.2.2.2.2.2.1
theorem dX6_text_79 : decode cX6_text 79 = .ok (.ifCond .eq 14, 3) := zd02dec3_77.2.2.2.2.2.2.2.2.2.2.2
theorem zd02dec3_78 : decode cX6_text 82 = .ok (.aload_n 0, 1) ∧ decode cX6_text 83 = .ok (.invokevirtual 163, 3) ∧ decode cX6_text 86 = .ok (.ifCond .eq 7, 3) ∧ decode cX6_text 89 = .ok (.iconst 1, 1) ∧ decode cX6_text 90 = .ok (.goto 4, 3) ∧ decode cX6_text 93 = .ok (.iconst 0, 1) ∧ decode cX6_text 94 = .ok (.istore_n 1, 1) ∧ decode cX6_text 95 = .ok (.iinc 2 1, 3) ∧ decode cX6_text 98 = .ok (.goto (-72), 3) ∧ decode cX6_text 101 = .ok (.iload_n 1, 1) ∧ decode cX6_text 102 = .ok (.ifCond .eq 20, 3) ∧ decode cX6_text 105 = .ok (.aload_n 0, 1) := by decide +kernel
theorem dX6_text_82 : decode cX6_text 82 = .ok (.aload_n 0, 1) := zd02dec3_78.1
theorem dX6_text_83 : decode cX6_text 83 = .ok (.invokevirtual 163, 3) := zd02dec3_78.2.1
theorem dX6_text_86 : decode cX6_text 86 = .ok (.ifCond .eq 7, 3) := zd02dec3_78.2.2.1
theorem dX6_text_89 : decode cX6_text 89 = .ok (.iconst 1, 1) := zd02dec3_78.2.2.2.1
theorem dX6_text_90 : decode cX6_text 90 = .ok (.goto 4, 3) := zd02dec3_78.2.2.2.2.1
theorem dX6_text_93 : decode cX6_text 93 = .ok (.iconst 0, 1) := zd02dec3_78.2.2.2.2.2.1
theorem dX6_text_94 : decode cX6_text 94 = .ok (.istore_n 1, 1) := zd02dec3_78.2.2.2.2.2.2.1
theorem dX6_text_95 : decode cX6_text 95 = .ok (.iinc 2 1, 3) := zd02dec3_78.2.2.2.2.2.2.2.1
theorem dX6_text_98 : decode cX6_text 98 = .ok (.goto (-72), 3) := zd02dec3_78.2.2.2.2.2.2.2.2.1
theorem dX6_text_101 : decode cX6_text 101 = .ok (.iload_n 1, 1) := zd02dec3_78.2.2.2.2.2.2.2.2.2.1
theorem dX6_text_102 : decode cX6_text 102 = .ok (.ifCond .eq 20, 3) := zd02dec3_78.2.2.2.2.2.2.2.2.2.2.1
theorem dX6_text_105 : decode cX6_text 105 = .ok (.aload_n 0, 1) := zd02dec3_78.2.2.2.2.2.2.2.2.2.2.2
theorem zd02dec3_79 : decode cX6_text 106 = .ok (.invokevirtual 150, 3) ∧ decode cX6_text 109 = .ok (.aload_n 0, 1) ∧ decode cX6_text 110 = .ok (.getfield 117, 3) ∧ decode cX6_text 113 = .ok (.ifCond .ne 7, 3) ∧ decode cX6_text 116 = .ok (.iconst 1, 1) ∧ decode cX6_text 117 = .ok (.goto 4, 3) ∧ decode cX6_text 120 = .ok (.iconst 0, 1) ∧ decode cX6_text 121 = .ok (.istore_n 1, 1) ∧ decode cX6_text 122 = .ok (.aload_n 0, 1) ∧ decode cX6_text 123 = .ok (.getfield 28, 3) ∧ decode cX6_text 126 = .ok (.iconst 4, 1) ∧ decode cX6_text 127 = .ok (.aload_n 0, 1) := by decide +kernel
theorem dX6_text_106 : decode cX6_text 106 = .ok (.invokevirtual 150, 3) := zd02dec3_79.1
theorem dX6_text_109 : decode cX6_text 109 = .ok (.aload_n 0, 1) := zd02dec3_79.2.1
theorem dX6_text_110 : decode cX6_text 110 = .ok (.getfield 117, 3) := zd02dec3_79.2.2.1
theorem dX6_text_113 : decode cX6_text 113 = .ok (.ifCond .ne 7, 3) := zd02dec3_79.2.2.2.1
theorem dX6_text_116 : decode cX6_text 116 = .ok (.iconst 1, 1) := zd02dec3_79.2.2.2.2.1
theorem dX6_text_117 : decode cX6_text 117 = .ok (.goto 4, 3) := zd02dec3_79.2.2.2.2.2.1
theorem dX6_text_120 : decode cX6_text 120 = .ok (.iconst 0, 1) := zd02dec3_79.2.2.2.2.2.2.1
theorem dX6_text_121 : decode cX6_text 121 = .ok (.istore_n 1, 1) := zd02dec3_79.2.2.2.2.2.2.2.1
theorem dX6_text_122 : decode cX6_text 122 = .ok (.aload_n 0, 1) := zd02dec3_79.2.2.2.2.2.2.2.2.1
theorem dX6_text_123 : decode cX6_text 123 = .ok (.getfield 28, 3) := zd02dec3_79.2.2.2.2.2.2.2.2.2.1
theorem dX6_text_126 : decode cX6_text 126 = .ok (.iconst 4, 1) := zd02dec3_79.2.2.2.2.2.2.2.2.2.2.1
theorem dX6_text_127 : decode cX6_text 127 = .ok (.aload_n 0, 1) := zd02dec3_79.2.2.2.2.2.2.2.2.2.2.2
theorem zd02dec3_80 : decode cX6_text 128 = .ok (.getfield 98, 3) ∧ decode cX6_text 131 = .ok (.imul, 1) ∧ decode cX6_text 132 = .ok (.iconst 3, 1) ∧ decode cX6_text 133 = .ok (.iadd, 1) ∧ decode cX6_text 134 = .ok (.aload_n 0, 1) ∧ decode cX6_text 135 = .ok (.getfield 127, 3) ∧ decode cX6_text 138 = .ok (.iastore, 1) ∧ decode cX6_text 139 = .ok (.aload_n 0, 1) ∧ decode cX6_text 140 = .ok (.iconst 0, 1) ∧ decode cX6_text 141 = .ok (.putfield 80, 3) ∧ decode cX6_text 144 = .ok (.iload_n 1, 1) ∧ decode cX6_text 145 = .ok (.ifCond .ne 11, 3) := by decide +kernel
theorem dX6_text_128 : decode cX6_text 128 = .ok (.getfield 98, 3) := zd02dec3_80.1
theorem dX6_text_131 : decode cX6_text 131 = .ok (.imul, 1) := zd02dec3_80.2.1
theorem dX6_text_132 : decode cX6_text 132 = .ok (.iconst 3, 1) := zd02dec3_80.2.2.1
theorem dX6_text_133 : decode cX6_text 133 = .ok (.iadd, 1) := zd02dec3_80.2.2.2.1
theorem dX6_text_134 : decode cX6_text 134 = .ok (.aload_n 0, 1) := zd02dec3_80.2.2.2.2.1
theorem dX6_text_135 : decode cX6_text 135 = .ok (.getfield 127, 3) := zd02dec3_80.2.2.2.2.2.1
theorem dX6_text_138 : decode cX6_text 138 = .ok (.iastore, 1) := zd02dec3_80.2.2.2.2.2.2.1
theorem dX6_text_139 : decode cX6_text 139 = .ok (.aload_n 0, 1) := zd02dec3_80.2.2.2.2.2.2.2.1
theorem dX6_text_140 : decode cX6_text 140 = .ok (.iconst 0, 1) := zd02dec3_80.2.2.2.2.2.2.2.2.1
theorem dX6_text_141 : decode cX6_text 141 = .ok (.putfield 80, 3) := zd02dec3_80.2.2.2.2.2.2.2.2.2.1
theorem dX6_text_144 : decode cX6_text 144 = .ok (.iload_n 1, 1) := zd02dec3_80.2.2.2.2.2.2.2.2.2.2.1
theorem dX6_text_145 : decode cX6_text 145 = .ok (.ifCond .ne 11, 3) := zd02dec3_80.2.2.2.2.2.2.2.2.2.2.2
theorem zd02dec3_81 : decode cX6_text 148 = .ok (.bipush (-100), 2) ∧ decode cX6_text 150 = .ok (.aload_n 0, 1) ∧ decode cX6_text 151 = .ok (.getfield 114, 3) ∧ decode cX6_text 154 = .ok (.isub, 1) ∧ decode cX6_text 155 = .ok (.ireturn, 1) ∧ decode cX6_text 156 = .ok (.aload_n 0, 1) ∧ decode cX6_text 157 = .ok (.dup, 1) ∧ decode cX6_text 158 = .ok (.getfield 98, 3) ∧ decode cX6_text 161 = .ok (.iconst 1, 1) ∧ decode cX6_text 162 = .ok (.iadd, 1) ∧ decode cX6_text 163 = .ok (.putfield 98, 3) ∧ decode cX6_text 166 = .ok (.aload_n 0, 1) := by decide +kernel
theorem dX6_text_148 : decode cX6_text 148 = .ok (.bipush (-100), 2) := zd02dec3_81.1
theorem dX6_text_150 : decode cX6_text 150 = .ok (.aload_n 0, 1) := zd02dec3_81.2.1
theorem dX6_text_151 : decode cX6_text 151 = .ok (.getfield 114, 3) := zd02dec3_81.2.2.1
theorem dX6_text_154 : decode cX6_text 154 = .ok (.isub, 1) := zd02dec3_81.2.2.2.1
theorem dX6_text_155 : decode cX6_text 155 = .ok (.ireturn, 1) := zd02dec3_81.2.2.2.2.1
theorem dX6_text_156 : decode cX6_text 156 = .ok (.aload_n 0, 1) := zd02dec3_81.2.2.2.2.2.1
theorem dX6_text_157 : decode cX6_text 157 = .ok (.dup, 1) := zd02dec3_81.2.2.2.2.2.2.1
theorem dX6_text_158 : decode cX6_text 158 = .ok (.getfield 98, 3) := zd02dec3_81.2.2.2.2.2.2.2.1
theorem dX6_text_161 : decode cX6_text 161 = .ok (.iconst 1, 1) := zd02dec3_81.2.2.2.2.2.2.2.2.1
theorem dX6_text_162 : decode cX6_text 162 = .ok (.iadd, 1) := zd02dec3_81.2.2.2.2.2.2.2.2.2.1
theorem dX6_text_163 : decode cX6_text 163 = .ok (.putfield 98, 3) := zd02dec3_81.2.2.2.2.2.2.2.2.2.2.1
theorem dX6_text_166 : decode cX6_text 166 = .ok (.aload_n 0, 1) := zd02dec3_81.2.2.2.2.2.2.2.2.2.2.2
theorem zd02dec3_82 : decode cX6_text 167 = .ok (.getfield 98, 3) ∧ decode cX6_text 170 = .ok (.iconst 1, 1) ∧ decode cX6_text 171 = .ok (.isub, 1) ∧ decode cX6_text 172 = .ok (.ireturn, 1) := by decide +kernel
theorem dX6_text_167 : decode cX6_text 167 = .ok (.getfield 98, 3) := zd02dec3_82.1
theorem dX6_text_170 : decode cX6_text 170 = .ok (.iconst 1, 1) := zd02dec3_82.2.1
theorem dX6_text_171 : decode cX6_text 171 = .ok (.isub, 1) := zd02dec3_82.2.2.1
theorem dX6_text_172 : decode cX6_text 172 = .ok (.ireturn, 1) := zd02dec3_82.2.2.2
theorem zd02dec3_83 : decode cX6_two 0 = .ok (.iload_n 0, 1) ∧ decode cX6_two 1 = .ok (.tableswitch 101 11 17 #[43, 57, 101, 71, 82, 93, 97], 43) ∧ decode cX6_two 44 = .ok (.iload_n 1, 1) ∧ decode cX6_two 45 = .ok (.ifCond .ne 7, 3) ∧ decode cX6_two 48 = .ok (.iload_n 2, 1) ∧ decode cX6_two 49 = .ok (.ifCond .eq 7, 3) ∧ decode cX6_two 52 = .ok (.iconst 1, 1) ∧ decode cX6_two 53 = .ok (.goto 4, 3) ∧ decode cX6_two 56 = .ok (.iconst 0, 1) ∧ decode cX6_two 57 = .ok (.ireturn, 1) ∧ decode cX6_two 58 = .ok (.iload_n 1, 1) ∧ decode cX6_two 59 = .ok (.ifCond .eq 11, 3) := by decide +kernel
theorem dX6_two_0 : decode cX6_two 0 = .ok (.iload_n 0, 1) := zd02dec3_83.1
theorem dX6_two_1 : decode cX6_two 1 = .ok (.tableswitch 101 11 17 #[43, 57, 101, 71, 82, 93, 97], 43) := zd02dec3_83.2.1
theorem dX6_two_44 : decode cX6_two 44 = .ok (.iload_n 1, 1) := zd02dec3_83.2.2.1
theorem dX6_two_45 : decode cX6_two 45 = .ok (.ifCond .ne 7, 3) := zd02dec3_83.2.2.2.1
theorem dX6_two_48 : decode cX6_two 48 = .ok (.iload_n 2, 1) := zd02dec3_83.2.2.2.2.1
theorem dX6_two_49 : decode cX6_two 49 = .ok (.ifCond .eq 7, 3) := zd02dec3_83.2.2.2.2.2.1
theorem dX6_two_52 : decode cX6_two 52 = .ok (.iconst 1, 1) := zd02dec3_83.2.2.2.2.2.2.1
theorem dX6_two_53 : decode cX6_two 53 = .ok (.goto 4, 3) := zd02dec3_83.2.2.2.2.2.2.2.1
theorem dX6_two_56 : decode cX6_two 56 = .ok (.iconst 0, 1) := zd02dec3_83.2.2.2.2.2.2.2.2.1
theorem dX6_two_57 : decode cX6_two 57 = .ok (.ireturn, 1) := zd02dec3_83.2.2.2.2.2.2.2.2.2.1
theorem dX6_two_58 : decode cX6_two 58 = .ok (.iload_n 1, 1) := zd02dec3_83.2.2.2.2.2.2.2.2.2.2.1
theorem dX6_two_59 : decode cX6_two 59 = .ok (.ifCond .eq 11, 3) := zd02dec3_83.2.2.2.2.2.2.2.2.2.2.2
theorem zd02dec3_84 : decode cX6_two 62 = .ok (.iload_n 2, 1) ∧ decode cX6_two 63 = .ok (.ifCond .eq 7, 3) ∧ decode cX6_two 66 = .ok (.iconst 1, 1) ∧ decode cX6_two 67 = .ok (.goto 4, 3) ∧ decode cX6_two 70 = .ok (.iconst 0, 1) ∧ decode cX6_two 71 = .ok (.ireturn, 1) ∧ decode cX6_two 72 = .ok (.iload_n 1, 1) ∧ decode cX6_two 73 = .ok (.iload_n 2, 1) ∧ decode cX6_two 74 = .ok (.if_icmp .ge 7, 3) ∧ decode cX6_two 77 = .ok (.iconst 1, 1) ∧ decode cX6_two 78 = .ok (.goto 4, 3) ∧ decode cX6_two 81 = .ok (.iconst 0, 1) := by decide +kernel
theorem dX6_two_62 : decode cX6_two 62 = .ok (.iload_n 2, 1) := zd02dec3_84.1
theorem dX6_two_63 : decode cX6_two 63 = .ok (.ifCond .eq 7, 3) := zd02dec3_84.2.1
theorem dX6_two_66 : decode cX6_two 66 = .ok (.iconst 1, 1) := zd02dec3_84.2.2.1
theorem dX6_two_67 : decode cX6_two 67 = .ok (.goto 4, 3) := zd02dec3_84.2.2.2.1
theorem dX6_two_70 : decode cX6_two 70 = .ok (.iconst 0, 1) := zd02dec3_84.2.2.2.2.1
theorem dX6_two_71 : decode cX6_two 71 = .ok (.ireturn, 1) := zd02dec3_84.2.2.2.2.2.1
theorem dX6_two_72 : decode cX6_two 72 = .ok (.iload_n 1, 1) := zd02dec3_84.2.2.2.2.2.2.1
theorem dX6_two_73 : decode cX6_two 73 = .ok (.iload_n 2, 1) := zd02dec3_84.2.2.2.2.2.2.2.1
theorem dX6_two_74 : decode cX6_two 74 = .ok (.if_icmp .ge 7, 3) := zd02dec3_84.2.2.2.2.2.2.2.2.1
theorem dX6_two_77 : decode cX6_two 77 = .ok (.iconst 1, 1) := zd02dec3_84.2.2.2.2.2.2.2.2.2.1
theorem dX6_two_78 : decode cX6_two 78 = .ok (.goto 4, 3) := zd02dec3_84.2.2.2.2.2.2.2.2.2.2.1
theorem dX6_two_81 : decode cX6_two 81 = .ok (.iconst 0, 1) := zd02dec3_84.2.2.2.2.2.2.2.2.2.2.2
theorem zd02dec3_85 : decode cX6_two 82 = .ok (.ireturn, 1) ∧ decode cX6_two 83 = .ok (.iload_n 1, 1) ∧ decode cX6_two 84 = .ok (.iload_n 2, 1) ∧ decode cX6_two 85 = .ok (.if_icmp .ne 7, 3) ∧ decode cX6_two 88 = .ok (.iconst 1, 1) ∧ decode cX6_two 89 = .ok (.goto 4, 3) ∧ decode cX6_two 92 = .ok (.iconst 0, 1) ∧ decode cX6_two 93 = .ok (.ireturn, 1) ∧ decode cX6_two 94 = .ok (.iload_n 1, 1) ∧ decode cX6_two 95 = .ok (.iload_n 2, 1) ∧ decode cX6_two 96 = .ok (.iadd, 1) ∧ decode cX6_two 97 = .ok (.ireturn, 1) := by decide +kernel
theorem dX6_two_82 : decode cX6_two 82 = .ok (.ireturn, 1) := zd02dec3_85.1
theorem dX6_two_83 : decode cX6_two 83 = .ok (.iload_n 1, 1) := zd02dec3_85.2.1
theorem dX6_two_84 : decode cX6_two 84 = .ok (.iload_n 2, 1) := zd02dec3_85.2.2.1
theorem dX6_two_85 : decode cX6_two 85 = .ok (.if_icmp .ne 7, 3) := zd02dec3_85.2.2.2.1
theorem dX6_two_88 : decode cX6_two 88 = .ok (.iconst 1, 1) := zd02dec3_85.2.2.2.2.1
theorem dX6_two_89 : decode cX6_two 89 = .ok (.goto 4, 3) := zd02dec3_85.2.2.2.2.2.1
theorem dX6_two_92 : decode cX6_two 92 = .ok (.iconst 0, 1) := zd02dec3_85.2.2.2.2.2.2.1
theorem dX6_two_93 : decode cX6_two 93 = .ok (.ireturn, 1) := zd02dec3_85.2.2.2.2.2.2.2.1
theorem dX6_two_94 : decode cX6_two 94 = .ok (.iload_n 1, 1) := zd02dec3_85.2.2.2.2.2.2.2.2.1
theorem dX6_two_95 : decode cX6_two 95 = .ok (.iload_n 2, 1) := zd02dec3_85.2.2.2.2.2.2.2.2.2.1
theorem dX6_two_96 : decode cX6_two 96 = .ok (.iadd, 1) := zd02dec3_85.2.2.2.2.2.2.2.2.2.2.1
theorem dX6_two_97 : decode cX6_two 97 = .ok (.ireturn, 1) := zd02dec3_85.2.2.2.2.2.2.2.2.2.2.2
theorem zd02dec3_86 : decode cX6_two 98 = .ok (.iload_n 1, 1) ∧ decode cX6_two 99 = .ok (.iload_n 2, 1) ∧ decode cX6_two 100 = .ok (.isub, 1) ∧ decode cX6_two 101 = .ok (.ireturn, 1) ∧ decode cX6_two 102 = .ok (.iload_n 1, 1) ∧ decode cX6_two 103 = .ok (.iload_n 2, 1) ∧ decode cX6_two 104 = .ok (.imul, 1) ∧ decode cX6_two 105 = .ok (.ireturn, 1) := by decide +kernel
theorem dX6_two_98 : decode cX6_two 98 = .ok (.iload_n 1, 1) := zd02dec3_86.1
theorem dX6_two_99 : decode cX6_two 99 = .ok (.iload_n 2, 1) := zd02dec3_86.2.1
theorem dX6_two_100 : decode cX6_two 100 = .ok (.isub, 1) := zd02dec3_86.2.2.1
theorem dX6_two_101 : decode cX6_two 101 = .ok (.ireturn, 1) := zd02dec3_86.2.2.2.1
theorem dX6_two_102 : decode cX6_two 102 = .ok (.iload_n 1, 1) := zd02dec3_86.2.2.2.2.1
theorem dX6_two_103 : decode cX6_two 103 = .ok (.iload_n 2, 1) := zd02dec3_86.2.2.2.2.2.1
theorem dX6_two_104 : decode cX6_two 104 = .ok (.imul, 1) := zd02dec3_86.2.2.2.2.2.2.1
theorem dX6_two_105 : decode cX6_two 105 = .ok (.ireturn, 1) := zd02dec3_86.2.2.2.2.2.2.2
theorem zd02dec3_87 : decode cX6_says 0 = .ok (.iconst 0, 1) ∧ decode cX6_says 1 = .ok (.istore_n 2, 1) ∧ decode cX6_says 2 = .ok (.aload_n 0, 1) ∧ decode cX6_says 3 = .ok (.getfield 28, 3) ∧ decode cX6_says 6 = .ok (.iconst 4, 1) ∧ decode cX6_says 7 = .ok (.aload_n 0, 1) ∧ decode cX6_says 8 = .ok (.getfield 101, 3) ∧ decode cX6_says 11 = .ok (.imul, 1) ∧ decode cX6_says 12 = .ok (.iload_n 1, 1) ∧ decode cX6_says 13 = .ok (.iadd, 1) ∧ decode cX6_says 14 = .ok (.iaload, 1) ∧ decode cX6_says 15 = .ok (.istore_n 3, 1) := by decide +kernel
theorem dX6_says_0 : decode cX6_says 0 = .ok (.iconst 0, 1) := zd02dec3_87.1
theorem dX6_says_1 : decode cX6_says 1 = .ok (.istore_n 2, 1) := zd02dec3_87.2.1
theorem dX6_says_2 : decode cX6_says 2 = .ok (.aload_n 0, 1) := zd02dec3_87.2.2.1
theorem dX6_says_3 : decode cX6_says 3 = .ok (.getfield 28, 3) := zd02dec3_87.2.2.2.1
theorem dX6_says_6 : decode cX6_says 6 = .ok (.iconst 4, 1) := zd02dec3_87.2.2.2.2.1
theorem dX6_says_7 : decode cX6_says 7 = .ok (.aload_n 0, 1) := zd02dec3_87.2.2.2.2.2.1
theorem dX6_says_8 : decode cX6_says 8 = .ok (.getfield 101, 3) := zd02dec3_87.2.2.2.2.2.2.1
theorem dX6_says_11 : decode cX6_says 11 = .ok (.imul, 1) := zd02dec3_87.2.2.2.2.2.2.2.1
theorem dX6_says_12 : decode cX6_says 12 = .ok (.iload_n 1, 1) := zd02dec3_87.2.2.2.2.2.2.2.2.1
theorem dX6_says_13 : decode cX6_says 13 = .ok (.iadd, 1) := zd02dec3_87.2.2.2.2.2.2.2.2.2.1
theorem dX6_says_14 : decode cX6_says 14 = .ok (.iaload, 1) := zd02dec3_87.2.2.2.2.2.2.2.2.2.2.1
theorem dX6_says_15 : decode cX6_says 15 = .ok (.istore_n 3, 1) := zd02dec3_87.2.2.2.2.2.2.2.2.2.2.2
theorem zd02dec3_88 : decode cX6_says 16 = .ok (.iload_n 3, 1) ∧ decode cX6_says 17 = .ok (.aload_n 0, 1) ∧ decode cX6_says 18 = .ok (.getfield 28, 3) ∧ decode cX6_says 21 = .ok (.iconst 4, 1) ∧ decode cX6_says 22 = .ok (.aload_n 0, 1) ∧ decode cX6_says 23 = .ok (.getfield 101, 3) ∧ decode cX6_says 26 = .ok (.imul, 1) ∧ decode cX6_says 27 = .ok (.iload_n 1, 1) ∧ decode cX6_says 28 = .ok (.iadd, 1) ∧ decode cX6_says 29 = .ok (.iconst 1, 1) ∧ decode cX6_says 30 = .ok (.iadd, 1) ∧ decode cX6_says 31 = .ok (.iaload, 1) := by decide +kernel
theorem dX6_says_16 : decode cX6_says 16 = .ok (.iload_n 3, 1) := zd02dec3_88.1
theorem dX6_says_17 : decode cX6_says 17 = .ok (.aload_n 0, 1) := zd02dec3_88.2.1
theorem dX6_says_18 : decode cX6_says 18 = .ok (.getfield 28, 3) := zd02dec3_88.2.2.1
theorem dX6_says_21 : decode cX6_says 21 = .ok (.iconst 4, 1) := zd02dec3_88.2.2.2.1
theorem dX6_says_22 : decode cX6_says 22 = .ok (.aload_n 0, 1) := zd02dec3_88.2.2.2.2.1
theorem dX6_says_23 : decode cX6_says 23 = .ok (.getfield 101, 3) := zd02dec3_88.2.2.2.2.2.1
theorem dX6_says_26 : decode cX6_says 26 = .ok (.imul, 1) := zd02dec3_88.2.2.2.2.2.2.1
theorem dX6_says_27 : decode cX6_says 27 = .ok (.iload_n 1, 1) := zd02dec3_88.2.2.2.2.2.2.2.1
theorem dX6_says_28 : decode cX6_says 28 = .ok (.iadd, 1) := zd02dec3_88.2.2.2.2.2.2.2.2.1
theorem dX6_says_29 : decode cX6_says 29 = .ok (.iconst 1, 1) := zd02dec3_88.2.2.2.2.2.2.2.2.2.1
theorem dX6_says_30 : decode cX6_says 30 = .ok (.iadd, 1) := zd02dec3_88.2.2.2.2.2.2.2.2.2.2.1
theorem dX6_says_31 : decode cX6_says 31 = .ok (.iaload, 1) := zd02dec3_88.2.2.2.2.2.2.2.2.2.2.2
theorem zd02dec3_89 : decode cX6_says 32 = .ok (.if_icmp .ge 165, 3) ∧ decode cX6_says 35 = .ok (.aload_n 0, 1) ∧ decode cX6_says 36 = .ok (.getfield 25, 3) ∧ decode cX6_says 39 = .ok (.sipush 200, 3) ∧ decode cX6_says 42 = .ok (.aload_n 0, 1) ∧ decode cX6_says 43 = .ok (.getfield 101, 3) ∧ decode cX6_says 46 = .ok (.imul, 1) ∧ decode cX6_says 47 = .ok (.iload_n 3, 1) ∧ decode cX6_says 48 = .ok (.iadd, 1) ∧ decode cX6_says 49 = .ok (.iaload, 1) ∧ decode cX6_says 50 = .ok (.istore 4, 2) ∧ decode cX6_says 52 = .ok (.iload 4, 2) := by decide +kernel
theorem dX6_says_32 : decode cX6_says 32 = .ok (.if_icmp .ge 165, 3) := zd02dec3_89.1
theorem dX6_says_35 : decode cX6_says 35 = .ok (.aload_n 0, 1) := zd02dec3_89.2.1
theorem dX6_says_36 : decode cX6_says 36 = .ok (.getfield 25, 3) := zd02dec3_89.2.2.1
theorem dX6_says_39 : decode cX6_says 39 = .ok (.sipush 200, 3) := zd02dec3_89.2.2.2.1
theorem dX6_says_42 : decode cX6_says 42 = .ok (.aload_n 0, 1) := zd02dec3_89.2.2.2.2.1
theorem dX6_says_43 : decode cX6_says 43 = .ok (.getfield 101, 3) := zd02dec3_89.2.2.2.2.2.1
theorem dX6_says_46 : decode cX6_says 46 = .ok (.imul, 1) := zd02dec3_89.2.2.2.2.2.2.1
theorem dX6_says_47 : decode cX6_says 47 = .ok (.iload_n 3, 1) := zd02dec3_89.2.2.2.2.2.2.2.1
theorem dX6_says_48 : decode cX6_says 48 = .ok (.iadd, 1) := zd02dec3_89.2.2.2.2.2.2.2.2.1
theorem dX6_says_49 : decode cX6_says 49 = .ok (.iaload, 1) := zd02dec3_89.2.2.2.2.2.2.2.2.2.1
theorem dX6_says_50 : decode cX6_says 50 = .ok (.istore 4, 2) := zd02dec3_89.2.2.2.2.2.2.2.2.2.2.1
theorem dX6_says_52 : decode cX6_says 52 = .ok (.iload 4, 2) := zd02dec3_89.2.2.2.2.2.2.2.2.2.2.2
theorem zd02dec3_90 : decode cX6_says 54 = .ok (.ldc 153, 2) ∧ decode cX6_says 56 = .ok (.if_icmp .ge 10, 3) ∧ decode cX6_says 59 = .ok (.iload 4, 2) ∧ decode cX6_says 61 = .ok (.bipush 11, 2) ∧ decode cX6_says 63 = .ok (.if_icmp .ge 37, 3) ∧ decode cX6_says 66 = .ok (.aload_n 0, 1) ∧ decode cX6_says 67 = .ok (.getfield 55, 3) ∧ decode cX6_says 70 = .ok (.iload_n 2, 1) ∧ decode cX6_says 71 = .ok (.iload 4, 2) ∧ decode cX6_says 73 = .ok (.bipush 11, 2) ∧ decode cX6_says 75 = .ok (.if_icmp .ge 13, 3) ∧ decode cX6_says 78 = .ok (.aload_n 0, 1) := by decide +kernel
theorem dX6_says_54 : decode cX6_says 54 = .ok (.ldc 153, 2) := zd02dec3_90.1
theorem dX6_says_56 : decode cX6_says 56 = .ok (.if_icmp .ge 10, 3) := zd02dec3_90.2.1
theorem dX6_says_59 : decode cX6_says 59 = .ok (.iload 4, 2) := zd02dec3_90.2.2.1
theorem dX6_says_61 : decode cX6_says 61 = .ok (.bipush 11, 2) := zd02dec3_90.2.2.2.1
theorem dX6_says_63 : decode cX6_says 63 = .ok (.if_icmp .ge 37, 3) := zd02dec3_90.2.2.2.2.1
theorem dX6_says_66 : decode cX6_says 66 = .ok (.aload_n 0, 1) := zd02dec3_90.2.2.2.2.2.1
theorem dX6_says_67 : decode cX6_says 67 = .ok (.getfield 55, 3) := zd02dec3_90.2.2.2.2.2.2.1
theorem dX6_says_70 : decode cX6_says 70 = .ok (.iload_n 2, 1) := zd02dec3_90.2.2.2.2.2.2.2.1
theorem dX6_says_71 : decode cX6_says 71 = .ok (.iload 4, 2) := zd02dec3_90.2.2.2.2.2.2.2.2.1
theorem dX6_says_73 : decode cX6_says 73 = .ok (.bipush 11, 2) := zd02dec3_90.2.2.2.2.2.2.2.2.2.1
theorem dX6_says_75 : decode cX6_says 75 = .ok (.if_icmp .ge 13, 3) := zd02dec3_90.2.2.2.2.2.2.2.2.2.2.1
theorem dX6_says_78 : decode cX6_says 78 = .ok (.aload_n 0, 1) := zd02dec3_90.2.2.2.2.2.2.2.2.2.2.2
theorem zd02dec3_91 : decode cX6_says 79 = .ok (.getfield 58, 3) ∧ decode cX6_says 82 = .ok (.iload 4, 2) ∧ decode cX6_says 84 = .ok (.iaload, 1) ∧ decode cX6_says 85 = .ok (.goto 8, 3) ∧ decode cX6_says 88 = .ok (.iload 4, 2) ∧ decode cX6_says 90 = .ok (.ldc 153, 2) ∧ decode cX6_says 92 = .ok (.isub, 1) ∧ decode cX6_says 93 = .ok (.iastore, 1) ∧ decode cX6_says 94 = .ok (.iinc 2 1, 3) ∧ decode cX6_says 97 = .ok (.goto 94, 3) ∧ decode cX6_says 100 = .ok (.iload 4, 2) ∧ decode cX6_says 102 = .ok (.bipush 13, 2) := by decide +kernel
theorem dX6_says_79 : decode cX6_says 79 = .ok (.getfield 58, 3) := zd02dec3_91.1
theorem dX6_says_82 : decode cX6_says 82 = .ok (.iload 4, 2) := zd02dec3_91.2.1
theorem dX6_says_84 : decode cX6_says 84 = .ok (.iaload, 1) := zd02dec3_91.2.2.1
theorem dX6_says_85 : decode cX6_says 85 = .ok (.goto 8, 3) := zd02dec3_91.2.2.2.1
theorem dX6_says_88 : decode cX6_says 88 = .ok (.iload 4, 2) := zd02dec3_91.2.2.2.2.1
theorem dX6_says_90 : decode cX6_says 90 = .ok (.ldc 153, 2) := zd02dec3_91.2.2.2.2.2.1
theorem dX6_says_92 : decode cX6_says 92 = .ok (.isub, 1) := zd02dec3_91.2.2.2.2.2.2.1
theorem dX6_says_93 : decode cX6_says 93 = .ok (.iastore, 1) := zd02dec3_91.2.2.2.2.2.2.2.1
theorem dX6_says_94 : decode cX6_says 94 = .ok (.iinc 2 1, 3) := zd02dec3_91.2.2.2.2.2.2.2.2.1
theorem dX6_says_97 : decode cX6_says 97 = .ok (.goto 94, 3) := zd02dec3_91.2.2.2.2.2.2.2.2.2.1
theorem dX6_says_100 : decode cX6_says 100 = .ok (.iload 4, 2) := zd02dec3_91.2.2.2.2.2.2.2.2.2.2.1
theorem dX6_says_102 : decode cX6_says 102 = .ok (.bipush 13, 2) := zd02dec3_91.2.2.2.2.2.2.2.2.2.2.2
theorem zd02dec3_92 : decode cX6_says 104 = .ok (.if_icmp .ne 30, 3) ∧ decode cX6_says 107 = .ok (.aload_n 0, 1) ∧ decode cX6_says 108 = .ok (.getfield 55, 3) ∧ decode cX6_says 111 = .ok (.iload_n 2, 1) ∧ decode cX6_says 112 = .ok (.iconst 1, 1) ∧ decode cX6_says 113 = .ok (.isub, 1) ∧ decode cX6_says 114 = .ok (.aload_n 0, 1) ∧ decode cX6_says 115 = .ok (.getfield 55, 3) ∧ decode cX6_says 118 = .ok (.iload_n 2, 1) ∧ decode cX6_says 119 = .ok (.iconst 1, 1) ∧ decode cX6_says 120 = .ok (.isub, 1) ∧ decode cX6_says 121 = .ok (.iaload, 1) := by decide +kernel
theorem dX6_says_104 : decode cX6_says 104 = .ok (.if_icmp .ne 30, 3) := zd02dec3_92.1
theorem dX6_says_107 : decode cX6_says 107 = .ok (.aload_n 0, 1) := zd02dec3_92.2.1
theorem dX6_says_108 : decode cX6_says 108 = .ok (.getfield 55, 3) := zd02dec3_92.2.2.1
theorem dX6_says_111 : decode cX6_says 111 = .ok (.iload_n 2, 1) := zd02dec3_92.2.2.2.1
theorem dX6_says_112 : decode cX6_says 112 = .ok (.iconst 1, 1) := zd02dec3_92.2.2.2.2.1
theorem dX6_says_113 : decode cX6_says 113 = .ok (.isub, 1) := zd02dec3_92.2.2.2.2.2.1
theorem dX6_says_114 : decode cX6_says 114 = .ok (.aload_n 0, 1) := zd02dec3_92.2.2.2.2.2.2.1
theorem dX6_says_115 : decode cX6_says 115 = .ok (.getfield 55, 3) := zd02dec3_92.2.2.2.2.2.2.2.1
theorem dX6_says_118 : decode cX6_says 118 = .ok (.iload_n 2, 1) := zd02dec3_92.2.2.2.2.2.2.2.2.1
theorem dX6_says_119 : decode cX6_says 119 = .ok (.iconst 1, 1) := zd02dec3_92.2.2.2.2.2.2.2.2.2.1
theorem dX6_says_120 : decode cX6_says 120 = .ok (.isub, 1) := zd02dec3_92.2.2.2.2.2.2.2.2.2.2.1
theorem dX6_says_121 : decode cX6_says 121 = .ok (.iaload, 1) := zd02dec3_92.2.2.2.2.2.2.2.2.2.2.2
theorem zd02dec3_93 : decode cX6_says 122 = .ok (.ifCond .ne 7, 3) ∧ decode cX6_says 125 = .ok (.iconst 1, 1) ∧ decode cX6_says 126 = .ok (.goto 4, 3) ∧ decode cX6_says 129 = .ok (.iconst 0, 1) ∧ decode cX6_says 130 = .ok (.iastore, 1) ∧ decode cX6_says 131 = .ok (.goto 60, 3) ∧ decode cX6_says 134 = .ok (.iload 4, 2) ∧ decode cX6_says 136 = .ok (.bipush 19, 2) ∧ decode cX6_says 138 = .ok (.if_icmp .ne 23, 3) ∧ decode cX6_says 141 = .ok (.aload_n 0, 1) ∧ decode cX6_says 142 = .ok (.getfield 55, 3) ∧ decode cX6_says 145 = .ok (.iload_n 2, 1) := by decide +kernel
theorem dX6_says_122 : decode cX6_says 122 = .ok (.ifCond .ne 7, 3) := zd02dec3_93.1
theorem dX6_says_125 : decode cX6_says 125 = .ok (.iconst 1, 1) := zd02dec3_93.2.1
theorem dX6_says_126 : decode cX6_says 126 = .ok (.goto 4, 3) := zd02dec3_93.2.2.1
theorem dX6_says_129 : decode cX6_says 129 = .ok (.iconst 0, 1) := zd02dec3_93.2.2.2.1
theorem dX6_says_130 : decode cX6_says 130 = .ok (.iastore, 1) := zd02dec3_93.2.2.2.2.1
theorem dX6_says_131 : decode cX6_says 131 = .ok (.goto 60, 3) := zd02dec3_93.2.2.2.2.2.1
theorem dX6_says_134 : decode cX6_says 134 = .ok (.iload 4, 2) := zd02dec3_93.2.2.2.2.2.2.1
theorem dX6_says_136 : decode cX6_says 136 = .ok (.bipush 19, 2) := zd02dec3_93.2.2.2.2.2.2.2.1
theorem dX6_says_138 : decode cX6_says 138 = .ok (.if_icmp .ne 23, 3) := zd02dec3_93.2.2.2.2.2.2.2.2.1
theorem dX6_says_141 : decode cX6_says 141 = .ok (.aload_n 0, 1) := zd02dec3_93.2.2.2.2.2.2.2.2.2.1
theorem dX6_says_142 : decode cX6_says 142 = .ok (.getfield 55, 3) := zd02dec3_93.2.2.2.2.2.2.2.2.2.2.1
theorem dX6_says_145 : decode cX6_says 145 = .ok (.iload_n 2, 1) := zd02dec3_93.2.2.2.2.2.2.2.2.2.2.2
theorem zd02dec3_94 : decode cX6_says 146 = .ok (.iconst 1, 1) ∧ decode cX6_says 147 = .ok (.isub, 1) ∧ decode cX6_says 148 = .ok (.aload_n 0, 1) ∧ decode cX6_says 149 = .ok (.getfield 55, 3) ∧ decode cX6_says 152 = .ok (.iload_n 2, 1) ∧ decode cX6_says 153 = .ok (.iconst 1, 1) ∧ decode cX6_says 154 = .ok (.isub, 1) ∧ decode cX6_says 155 = .ok (.iaload, 1) ∧ decode cX6_says 156 = .ok (.ineg, 1) ∧ decode cX6_says 157 = .ok (.iastore, 1) ∧ decode cX6_says 158 = .ok (.goto 33, 3) ∧ decode cX6_says 161 = .ok (.iinc 2 (-1), 3) := by decide +kernel
theorem dX6_says_146 : decode cX6_says 146 = .ok (.iconst 1, 1) := zd02dec3_94.1
theorem dX6_says_147 : decode cX6_says 147 = .ok (.isub, 1) := zd02dec3_94.2.1
theorem dX6_says_148 : decode cX6_says 148 = .ok (.aload_n 0, 1) := zd02dec3_94.2.2.1
theorem dX6_says_149 : decode cX6_says 149 = .ok (.getfield 55, 3) := zd02dec3_94.2.2.2.1
theorem dX6_says_152 : decode cX6_says 152 = .ok (.iload_n 2, 1) := zd02dec3_94.2.2.2.2.1
theorem dX6_says_153 : decode cX6_says 153 = .ok (.iconst 1, 1) := zd02dec3_94.2.2.2.2.2.1
theorem dX6_says_154 : decode cX6_says 154 = .ok (.isub, 1) := zd02dec3_94.2.2.2.2.2.2.1
theorem dX6_says_155 : decode cX6_says 155 = .ok (.iaload, 1) := zd02dec3_94.2.2.2.2.2.2.2.1
theorem dX6_says_156 : decode cX6_says 156 = .ok (.ineg, 1) := zd02dec3_94.2.2.2.2.2.2.2.2.1
theorem dX6_says_157 : decode cX6_says 157 = .ok (.iastore, 1) := zd02dec3_94.2.2.2.2.2.2.2.2.2.1
theorem dX6_says_158 : decode cX6_says 158 = .ok (.goto 33, 3) := zd02dec3_94.2.2.2.2.2.2.2.2.2.2.1
theorem dX6_says_161 : decode cX6_says 161 = .ok (.iinc 2 (-1), 3) := zd02dec3_94.2.2.2.2.2.2.2.2.2.2.2
theorem zd02dec3_95 : decode cX6_says 164 = .ok (.aload_n 0, 1) ∧ decode cX6_says 165 = .ok (.getfield 55, 3) ∧ decode cX6_says 168 = .ok (.iload_n 2, 1) ∧ decode cX6_says 169 = .ok (.iconst 1, 1) ∧ decode cX6_says 170 = .ok (.isub, 1) ∧ decode cX6_says 171 = .ok (.iload 4, 2) ∧ decode cX6_says 173 = .ok (.aload_n 0, 1) ∧ decode cX6_says 174 = .ok (.getfield 55, 3) ∧ decode cX6_says 177 = .ok (.iload_n 2, 1) ∧ decode cX6_says 178 = .ok (.iconst 1, 1) ∧ decode cX6_says 179 = .ok (.isub, 1) ∧ decode cX6_says 180 = .ok (.iaload, 1) := by decide +kernel
theorem dX6_says_164 : decode cX6_says 164 = .ok (.aload_n 0, 1) := zd02dec3_95.1
theorem dX6_says_165 : decode cX6_says 165 = .ok (.getfield 55, 3) := zd02dec3_95.2.1
theorem dX6_says_168 : decode cX6_says 168 = .ok (.iload_n 2, 1) := zd02dec3_95.2.2.1
theorem dX6_says_169 : decode cX6_says 169 = .ok (.iconst 1, 1) := zd02dec3_95.2.2.2.1
theorem dX6_says_170 : decode cX6_says 170 = .ok (.isub, 1) := zd02dec3_95.2.2.2.2.1
theorem dX6_says_171 : decode cX6_says 171 = .ok (.iload 4, 2) := zd02dec3_95.2.2.2.2.2.1
theorem dX6_says_173 : decode cX6_says 173 = .ok (.aload_n 0, 1) := zd02dec3_95.2.2.2.2.2.2.1
theorem dX6_says_174 : decode cX6_says 174 = .ok (.getfield 55, 3) := zd02dec3_95.2.2.2.2.2.2.2.1
theorem dX6_says_177 : decode cX6_says 177 = .ok (.iload_n 2, 1) := zd02dec3_95.2.2.2.2.2.2.2.2.1
theorem dX6_says_178 : decode cX6_says 178 = .ok (.iconst 1, 1) := zd02dec3_95.2.2.2.2.2.2.2.2.2.1
theorem dX6_says_179 : decode cX6_says 179 = .ok (.isub, 1) := zd02dec3_95.2.2.2.2.2.2.2.2.2.2.1
theorem dX6_says_180 : decode cX6_says 180 = .ok (.iaload, 1) := zd02dec3_95.2.2.2.2.2.2.2.2.2.2.2
theorem zd02dec3_96 : decode cX6_says 181 = .ok (.aload_n 0, 1) ∧ decode cX6_says 182 = .ok (.getfield 55, 3) ∧ decode cX6_says 185 = .ok (.iload_n 2, 1) ∧ decode cX6_says 186 = .ok (.iaload, 1) ∧ decode cX6_says 187 = .ok (.invokestatic 167, 3) ∧ decode cX6_says 190 = .ok (.iastore, 1) ∧ decode cX6_says 191 = .ok (.iinc 3 1, 3) ∧ decode cX6_says 194 = .ok (.goto (-178), 3) ∧ decode cX6_says 197 = .ok (.aload_n 0, 1) ∧ decode cX6_says 198 = .ok (.getfield 55, 3) ∧ decode cX6_says 201 = .ok (.iconst 0, 1) ∧ decode cX6_says 202 = .ok (.iaload, 1) := by decide +kernel
theorem dX6_says_181 : decode cX6_says 181 = .ok (.aload_n 0, 1) := zd02dec3_96.1
theorem dX6_says_182 : decode cX6_says 182 = .ok (.getfield 55, 3) := zd02dec3_96.2.1
theorem dX6_says_185 : decode cX6_says 185 = .ok (.iload_n 2, 1) := zd02dec3_96.2.2.1
theorem dX6_says_186 : decode cX6_says 186 = .ok (.iaload, 1) := zd02dec3_96.2.2.2.1
theorem dX6_says_187 : decode cX6_says 187 = .ok (.invokestatic 167, 3) := zd02dec3_96.2.2.2.2.1
theorem dX6_says_190 : decode cX6_says 190 = .ok (.iastore, 1) := zd02dec3_96.2.2.2.2.2.1
theorem dX6_says_191 : decode cX6_says 191 = .ok (.iinc 3 1, 3) := zd02dec3_96.2.2.2.2.2.2.1
theorem dX6_says_194 : decode cX6_says 194 = .ok (.goto (-178), 3) := zd02dec3_96.2.2.2.2.2.2.2.1
theorem dX6_says_197 : decode cX6_says 197 = .ok (.aload_n 0, 1) := zd02dec3_96.2.2.2.2.2.2.2.2.1
theorem dX6_says_198 : decode cX6_says 198 = .ok (.getfield 55, 3) := zd02dec3_96.2.2.2.2.2.2.2.2.2.1
theorem dX6_says_201 : decode cX6_says 201 = .ok (.iconst 0, 1) := zd02dec3_96.2.2.2.2.2.2.2.2.2.2.1
theorem dX6_says_202 : decode cX6_says 202 = .ok (.iaload, 1) := zd02dec3_96.2.2.2.2.2.2.2.2.2.2.2
theorem dX6_says_203 : decode cX6_says 203 = .ok (.ireturn, 1) := by decide +kernel
theorem zd02dec3_97 : decode cX6_force 0 = .ok (.iload_n 1, 1) ∧ decode cX6_force 1 = .ok (.iconst 0, 1) ∧ decode cX6_force 2 = .ok (.aload_n 0, 1) ∧ decode cX6_force 3 = .ok (.getfield 98, 3) ∧ decode cX6_force 6 = .ok (.iconst 1, 1) ∧ decode cX6_force 7 = .ok (.isub, 1) ∧ decode cX6_force 8 = .ok (.invokestatic 91, 3) ∧ decode cX6_force 11 = .ok (.ifCond .ne 6, 3) ∧ decode cX6_force 14 = .ok (.bipush (-2), 2) ∧ decode cX6_force 16 = .ok (.ireturn, 1) ∧ decode cX6_force 17 = .ok (.aload_n 0, 1) ∧ decode cX6_force 18 = .ok (.getfield 101, 3) := by decide +kernel
theorem dX6_force_0 : decode cX6_force 0 = .ok (.iload_n 1, 1) := zd02dec3_97.1
theorem dX6_force_1 : decode cX6_force 1 = .ok (.iconst 0, 1) := zd02dec3_97.2.1
theorem dX6_force_2 : decode cX6_force 2 = .ok (.aload_n 0, 1) := zd02dec3_97.2.2.1
theorem dX6_force_3 : decode cX6_force 3 = .ok (.getfield 98, 3) := zd02dec3_97.2.2.2.1
theorem dX6_force_6 : decode cX6_force 6 = .ok (.iconst 1, 1) := zd02dec3_97.2.2.2.2.1
theorem dX6_force_7 : decode cX6_force 7 = .ok (.isub, 1) := zd02dec3_97.2.2.2.2.2.1
theorem dX6_force_8 : decode cX6_force 8 = .ok (.invokestatic 91, 3) := zd02dec3_97.2.2.2.2.2.2.1
theorem dX6_force_11 : decode cX6_force 11 = .ok (.ifCond .ne 6, 3) := zd02dec3_97.2.2.2.2.2.2.2.1
theorem dX6_force_14 : decode cX6_force 14 = .ok (.bipush (-2), 2) := zd02dec3_97.2.2.2.2.2.2.2.2.1
theorem dX6_force_16 : decode cX6_force 16 = .ok (.ireturn, 1) := zd02dec3_97.2.2.2.2.2.2.2.2.2.1
theorem dX6_force_17 : decode cX6_force 17 = .ok (.aload_n 0, 1) := zd02dec3_97.2.2.2.2.2.2.2.2.2.2.1
theorem dX6_force_18 : decode cX6_force 18 = .ok (.getfield 101, 3) := zd02dec3_97.2.2.2.2.2.2.2.2.2.2.2
theorem zd02dec3_98 : decode cX6_force 21 = .ok (.istore_n 2, 1) ∧ decode cX6_force 22 = .ok (.aload_n 0, 1) ∧ decode cX6_force 23 = .ok (.iload_n 1, 1) ∧ decode cX6_force 24 = .ok (.putfield 101, 3) ∧ decode cX6_force 27 = .ok (.iload_n 2, 1) ∧ decode cX6_force 28 = .ok (.ireturn, 1) := by decide +kernel
theorem dX6_force_21 : decode cX6_force 21 = .ok (.istore_n 2, 1) := zd02dec3_98.1
theorem dX6_force_22 : decode cX6_force 22 = .ok (.aload_n 0, 1) := zd02dec3_98.2.1
theorem dX6_force_23 : decode cX6_force 23 = .ok (.iload_n 1, 1) := zd02dec3_98.2.2.1
theorem dX6_force_24 : decode cX6_force 24 = .ok (.putfield 101, 3) := zd02dec3_98.2.2.2.1
theorem dX6_force_27 : decode cX6_force 27 = .ok (.iload_n 2, 1) := zd02dec3_98.2.2.2.2.1
theorem dX6_force_28 : decode cX6_force 28 = .ok (.ireturn, 1) := zd02dec3_98.2.2.2.2.2
theorem zd02dec3_99 : decode cX6_asksOf 0 = .ok (.aload_n 0, 1) ∧ decode cX6_asksOf 1 = .ok (.getfield 58, 3) ∧ decode cX6_asksOf 4 = .ok (.iconst 0, 1) ∧ decode cX6_asksOf 5 = .ok (.aload_n 0, 1) ∧ decode cX6_asksOf 6 = .ok (.getfield 16, 3) ∧ decode cX6_asksOf 9 = .ok (.iconst 2, 1) ∧ decode cX6_asksOf 10 = .ok (.iload_n 3, 1) ∧ decode cX6_asksOf 11 = .ok (.imul, 1) ∧ decode cX6_asksOf 12 = .ok (.iaload, 1) ∧ decode cX6_asksOf 13 = .ok (.iastore, 1) ∧ decode cX6_asksOf 14 = .ok (.aload_n 0, 1) ∧ decode cX6_asksOf 15 = .ok (.getfield 58, 3) := by decide +kernel
theorem dX6_asksOf_0 : decode cX6_asksOf 0 = .ok (.aload_n 0, 1) := zd02dec3_99.1
theorem dX6_asksOf_1 : decode cX6_asksOf 1 = .ok (.getfield 58, 3) := zd02dec3_99.2.1
theorem dX6_asksOf_4 : decode cX6_asksOf 4 = .ok (.iconst 0, 1) := zd02dec3_99.2.2.1
theorem dX6_asksOf_5 : decode cX6_asksOf 5 = .ok (.aload_n 0, 1) := zd02dec3_99.2.2.2.1
theorem dX6_asksOf_6 : decode cX6_asksOf 6 = .ok (.getfield 16, 3) := zd02dec3_99.2.2.2.2.1
theorem dX6_asksOf_9 : decode cX6_asksOf 9 = .ok (.iconst 2, 1) := zd02dec3_99.2.2.2.2.2.1
theorem dX6_asksOf_10 : decode cX6_asksOf 10 = .ok (.iload_n 3, 1) := zd02dec3_99.2.2.2.2.2.2.1
theorem dX6_asksOf_11 : decode cX6_asksOf 11 = .ok (.imul, 1) := zd02dec3_99.2.2.2.2.2.2.2.1
theorem dX6_asksOf_12 : decode cX6_asksOf 12 = .ok (.iaload, 1) := zd02dec3_99.2.2.2.2.2.2.2.2.1
theorem dX6_asksOf_13 : decode cX6_asksOf 13 = .ok (.iastore, 1) := zd02dec3_99.2.2.2.2.2.2.2.2.2.1
theorem dX6_asksOf_14 : decode cX6_asksOf 14 = .ok (.aload_n 0, 1) := zd02dec3_99.2.2.2.2.2.2.2.2.2.2.1
theorem dX6_asksOf_15 : decode cX6_asksOf 15 = .ok (.getfield 58, 3) := zd02dec3_99.2.2.2.2.2.2.2.2.2.2.2
theorem zd02dec3_100 : decode cX6_asksOf 18 = .ok (.iconst 1, 1) ∧ decode cX6_asksOf 19 = .ok (.aload_n 0, 1) ∧ decode cX6_asksOf 20 = .ok (.getfield 16, 3) ∧ decode cX6_asksOf 23 = .ok (.iconst 2, 1) ∧ decode cX6_asksOf 24 = .ok (.iload_n 3, 1) ∧ decode cX6_asksOf 25 = .ok (.imul, 1) ∧ decode cX6_asksOf 26 = .ok (.iconst 1, 1) ∧ decode cX6_asksOf 27 = .ok (.iadd, 1) ∧ decode cX6_asksOf 28 = .ok (.iaload, 1) ∧ decode cX6_asksOf 29 = .ok (.iastore, 1) ∧ decode cX6_asksOf 30 = .ok (.aload_n 0, 1) ∧ decode cX6_asksOf 31 = .ok (.getfield 58, 3) := by decide +kernel
theorem dX6_asksOf_18 : decode cX6_asksOf 18 = .ok (.iconst 1, 1) := zd02dec3_100.1
theorem dX6_asksOf_19 : decode cX6_asksOf 19 = .ok (.aload_n 0, 1) := zd02dec3_100.2.1
theorem dX6_asksOf_20 : decode cX6_asksOf 20 = .ok (.getfield 16, 3) := zd02dec3_100.2.2.1
theorem dX6_asksOf_23 : decode cX6_asksOf 23 = .ok (.iconst 2, 1) := zd02dec3_100.2.2.2.1
theorem dX6_asksOf_24 : decode cX6_asksOf 24 = .ok (.iload_n 3, 1) := zd02dec3_100.2.2.2.2.1
theorem dX6_asksOf_25 : decode cX6_asksOf 25 = .ok (.imul, 1) := zd02dec3_100.2.2.2.2.2.1
theorem dX6_asksOf_26 : decode cX6_asksOf 26 = .ok (.iconst 1, 1) := zd02dec3_100.2.2.2.2.2.2.1
theorem dX6_asksOf_27 : decode cX6_asksOf 27 = .ok (.iadd, 1) := zd02dec3_100.2.2.2.2.2.2.2.1
theorem dX6_asksOf_28 : decode cX6_asksOf 28 = .ok (.iaload, 1) := zd02dec3_100.2.2.2.2.2.2.2.2.1
theorem dX6_asksOf_29 : decode cX6_asksOf 29 = .ok (.iastore, 1) := zd02dec3_100.2.2.2.2.2.2.2.2.2.1
theorem dX6_asksOf_30 : decode cX6_asksOf 30 = .ok (.aload_n 0, 1) := zd02dec3_100.2.2.2.2.2.2.2.2.2.2.1
theorem dX6_asksOf_31 : decode cX6_asksOf 31 = .ok (.getfield 58, 3) := zd02dec3_100.2.2.2.2.2.2.2.2.2.2.2
theorem zd02dec3_101 : decode cX6_asksOf 34 = .ok (.iconst 2, 1) ∧ decode cX6_asksOf 35 = .ok (.aload_n 0, 1) ∧ decode cX6_asksOf 36 = .ok (.getfield 19, 3) ∧ decode cX6_asksOf 39 = .ok (.iconst 3, 1) ∧ decode cX6_asksOf 40 = .ok (.iload_n 2, 1) ∧ decode cX6_asksOf 41 = .ok (.imul, 1) ∧ decode cX6_asksOf 42 = .ok (.iaload, 1) ∧ decode cX6_asksOf 43 = .ok (.iastore, 1) ∧ decode cX6_asksOf 44 = .ok (.aload_n 0, 1) ∧ decode cX6_asksOf 45 = .ok (.getfield 58, 3) ∧ decode cX6_asksOf 48 = .ok (.iconst 3, 1) ∧ decode cX6_asksOf 49 = .ok (.aload_n 0, 1) := by decide +kernel
theorem dX6_asksOf_34 : decode cX6_asksOf 34 = .ok (.iconst 2, 1) := zd02dec3_101.1
theorem dX6_asksOf_35 : decode cX6_asksOf 35 = .ok (.aload_n 0, 1) := zd02dec3_101.2.1
theorem dX6_asksOf_36 : decode cX6_asksOf 36 = .ok (.getfield 19, 3) := zd02dec3_101.2.2.1
theorem dX6_asksOf_39 : decode cX6_asksOf 39 = .ok (.iconst 3, 1) := zd02dec3_101.2.2.2.1
theorem dX6_asksOf_40 : decode cX6_asksOf 40 = .ok (.iload_n 2, 1) := zd02dec3_101.2.2.2.2.1
theorem dX6_asksOf_41 : decode cX6_asksOf 41 = .ok (.imul, 1) := zd02dec3_101.2.2.2.2.2.1
theorem dX6_asksOf_42 : decode cX6_asksOf 42 = .ok (.iaload, 1) := zd02dec3_101.2.2.2.2.2.2.1
theorem dX6_asksOf_43 : decode cX6_asksOf 43 = .ok (.iastore, 1) := zd02dec3_101.2.2.2.2.2.2.2.1
theorem dX6_asksOf_44 : decode cX6_asksOf 44 = .ok (.aload_n 0, 1) := zd02dec3_101.2.2.2.2.2.2.2.2.1
theorem dX6_asksOf_45 : decode cX6_asksOf 45 = .ok (.getfield 58, 3) := zd02dec3_101.2.2.2.2.2.2.2.2.2.1
theorem dX6_asksOf_48 : decode cX6_asksOf 48 = .ok (.iconst 3, 1) := zd02dec3_101.2.2.2.2.2.2.2.2.2.2.1
theorem dX6_asksOf_49 : decode cX6_asksOf 49 = .ok (.aload_n 0, 1) := zd02dec3_101.2.2.2.2.2.2.2.2.2.2.2
theorem zd02dec3_102 : decode cX6_asksOf 50 = .ok (.getfield 19, 3) ∧ decode cX6_asksOf 53 = .ok (.iconst 3, 1) ∧ decode cX6_asksOf 54 = .ok (.iload_n 2, 1) ∧ decode cX6_asksOf 55 = .ok (.imul, 1) ∧ decode cX6_asksOf 56 = .ok (.iconst 1, 1) ∧ decode cX6_asksOf 57 = .ok (.iadd, 1) ∧ decode cX6_asksOf 58 = .ok (.iaload, 1) ∧ decode cX6_asksOf 59 = .ok (.iastore, 1) ∧ decode cX6_asksOf 60 = .ok (.aload_n 0, 1) ∧ decode cX6_asksOf 61 = .ok (.getfield 58, 3) ∧ decode cX6_asksOf 64 = .ok (.iconst 4, 1) ∧ decode cX6_asksOf 65 = .ok (.aload_n 0, 1) := by decide +kernel
theorem dX6_asksOf_50 : decode cX6_asksOf 50 = .ok (.getfield 19, 3) := zd02dec3_102.1
theorem dX6_asksOf_53 : decode cX6_asksOf 53 = .ok (.iconst 3, 1) := zd02dec3_102.2.1
theorem dX6_asksOf_54 : decode cX6_asksOf 54 = .ok (.iload_n 2, 1) := zd02dec3_102.2.2.1
theorem dX6_asksOf_55 : decode cX6_asksOf 55 = .ok (.imul, 1) := zd02dec3_102.2.2.2.1
theorem dX6_asksOf_56 : decode cX6_asksOf 56 = .ok (.iconst 1, 1) := zd02dec3_102.2.2.2.2.1
theorem dX6_asksOf_57 : decode cX6_asksOf 57 = .ok (.iadd, 1) := zd02dec3_102.2.2.2.2.2.1
theorem dX6_asksOf_58 : decode cX6_asksOf 58 = .ok (.iaload, 1) := zd02dec3_102.2.2.2.2.2.2.1
theorem dX6_asksOf_59 : decode cX6_asksOf 59 = .ok (.iastore, 1) := zd02dec3_102.2.2.2.2.2.2.2.1
theorem dX6_asksOf_60 : decode cX6_asksOf 60 = .ok (.aload_n 0, 1) := zd02dec3_102.2.2.2.2.2.2.2.2.1
theorem dX6_asksOf_61 : decode cX6_asksOf 61 = .ok (.getfield 58, 3) := zd02dec3_102.2.2.2.2.2.2.2.2.2.1
theorem dX6_asksOf_64 : decode cX6_asksOf 64 = .ok (.iconst 4, 1) := zd02dec3_102.2.2.2.2.2.2.2.2.2.2.1
theorem dX6_asksOf_65 : decode cX6_asksOf 65 = .ok (.aload_n 0, 1) := zd02dec3_102.2.2.2.2.2.2.2.2.2.2.2
theorem zd02dec3_103 : decode cX6_asksOf 66 = .ok (.getfield 13, 3) ∧ decode cX6_asksOf 69 = .ok (.iload_n 3, 1) ∧ decode cX6_asksOf 70 = .ok (.iaload, 1) ∧ decode cX6_asksOf 71 = .ok (.iastore, 1) ∧ decode cX6_asksOf 72 = .ok (.aload_n 0, 1) ∧ decode cX6_asksOf 73 = .ok (.getfield 58, 3) ∧ decode cX6_asksOf 76 = .ok (.iconst 5, 1) ∧ decode cX6_asksOf 77 = .ok (.iload_n 2, 1) ∧ decode cX6_asksOf 78 = .ok (.iastore, 1) ∧ decode cX6_asksOf 79 = .ok (.aload_n 0, 1) ∧ decode cX6_asksOf 80 = .ok (.iload_n 1, 1) ∧ decode cX6_asksOf 81 = .ok (.invokevirtual 171, 3) := by decide +kernel
theorem dX6_asksOf_66 : decode cX6_asksOf 66 = .ok (.getfield 13, 3) := zd02dec3_103.1
theorem dX6_asksOf_69 : decode cX6_asksOf 69 = .ok (.iload_n 3, 1) := zd02dec3_103.2.1
theorem dX6_asksOf_70 : decode cX6_asksOf 70 = .ok (.iaload, 1) := zd02dec3_103.2.2.1
theorem dX6_asksOf_71 : decode cX6_asksOf 71 = .ok (.iastore, 1) := zd02dec3_103.2.2.2.1
theorem dX6_asksOf_72 : decode cX6_asksOf 72 = .ok (.aload_n 0, 1) := zd02dec3_103.2.2.2.2.1
theorem dX6_asksOf_73 : decode cX6_asksOf 73 = .ok (.getfield 58, 3) := zd02dec3_103.2.2.2.2.2.1
theorem dX6_asksOf_76 : decode cX6_asksOf 76 = .ok (.iconst 5, 1) := zd02dec3_103.2.2.2.2.2.2.1
theorem dX6_asksOf_77 : decode cX6_asksOf 77 = .ok (.iload_n 2, 1) := zd02dec3_103.2.2.2.2.2.2.2.1
theorem dX6_asksOf_78 : decode cX6_asksOf 78 = .ok (.iastore, 1) := zd02dec3_103.2.2.2.2.2.2.2.2.1
theorem dX6_asksOf_79 : decode cX6_asksOf 79 = .ok (.aload_n 0, 1) := zd02dec3_103.2.2.2.2.2.2.2.2.2.1
theorem dX6_asksOf_80 : decode cX6_asksOf 80 = .ok (.iload_n 1, 1) := zd02dec3_103.2.2.2.2.2.2.2.2.2.2.1
theorem dX6_asksOf_81 : decode cX6_asksOf 81 = .ok (.invokevirtual 171, 3) := zd02dec3_103.2.2.2.2.2.2.2.2.2.2.2
theorem zd02dec3_104 : decode cX6_asksOf 84 = .ok (.iconst 0, 1) ∧ decode cX6_asksOf 85 = .ok (.iload_n 1, 1) ∧ decode cX6_asksOf 86 = .ok (.ifCond .ne 8, 3) ∧ decode cX6_asksOf 89 = .ok (.bipush 99, 2) ∧ decode cX6_asksOf 91 = .ok (.goto 16, 3) ∧ decode cX6_asksOf 94 = .ok (.iload_n 1, 1) ∧ decode cX6_asksOf 95 = .ok (.iconst 1, 1) ∧ decode cX6_asksOf 96 = .ok (.if_icmp .ne 8, 3) ∧ decode cX6_asksOf 99 = .ok (.bipush 20, 2) ∧ decode cX6_asksOf 101 = .ok (.goto 6, 3) ∧ decode cX6_asksOf 104 = .ok (.sipush 9999, 3) ∧ decode cX6_asksOf 107 = .ok (.invokestatic 174, 3) := by decide +kernel
theorem dX6_asksOf_84 : decode cX6_asksOf 84 = .ok (.iconst 0, 1) := zd02dec3_104.1
theorem dX6_asksOf_85 : decode cX6_asksOf 85 = .ok (.iload_n 1, 1) := zd02dec3_104.2.1
theorem dX6_asksOf_86 : decode cX6_asksOf 86 = .ok (.ifCond .ne 8, 3) := zd02dec3_104.2.2.1
theorem dX6_asksOf_89 : decode cX6_asksOf 89 = .ok (.bipush 99, 2) := zd02dec3_104.2.2.2.1
theorem dX6_asksOf_91 : decode cX6_asksOf 91 = .ok (.goto 16, 3) := zd02dec3_104.2.2.2.2.1
theorem dX6_asksOf_94 : decode cX6_asksOf 94 = .ok (.iload_n 1, 1) := zd02dec3_104.2.2.2.2.2.1
theorem dX6_asksOf_95 : decode cX6_asksOf 95 = .ok (.iconst 1, 1) := zd02dec3_104.2.2.2.2.2.2.1
theorem dX6_asksOf_96 : decode cX6_asksOf 96 = .ok (.if_icmp .ne 8, 3) := zd02dec3_104.2.2.2.2.2.2.2.1
theorem dX6_asksOf_99 : decode cX6_asksOf 99 = .ok (.bipush 20, 2) := zd02dec3_104.2.2.2.2.2.2.2.2.1
theorem dX6_asksOf_101 : decode cX6_asksOf 101 = .ok (.goto 6, 3) := zd02dec3_104.2.2.2.2.2.2.2.2.2.1
theorem dX6_asksOf_104 : decode cX6_asksOf 104 = .ok (.sipush 9999, 3) := zd02dec3_104.2.2.2.2.2.2.2.2.2.2.1
theorem dX6_asksOf_107 : decode cX6_asksOf 107 = .ok (.invokestatic 174, 3) := zd02dec3_104.2.2.2.2.2.2.2.2.2.2.2
theorem dX6_asksOf_110 : decode cX6_asksOf 110 = .ok (.ireturn, 1) := by decide +kernel
theorem zd02dec3_105 : decode cX6_asks 0 = .ok (.iload_n 1, 1) ∧ decode cX6_asks 1 = .ok (.iconst 0, 1) ∧ decode cX6_asks 2 = .ok (.iconst 2, 1) ∧ decode cX6_asks 3 = .ok (.invokestatic 91, 3) ∧ decode cX6_asks 6 = .ok (.ifCond .eq 29, 3) ∧ decode cX6_asks 9 = .ok (.aload_n 0, 1) ∧ decode cX6_asks 10 = .ok (.iload_n 2, 1) ∧ decode cX6_asks 11 = .ok (.invokevirtual 104, 3) ∧ decode cX6_asks 14 = .ok (.ifCond .eq 21, 3) ∧ decode cX6_asks 17 = .ok (.aload_n 0, 1) ∧ decode cX6_asks 18 = .ok (.iload_n 3, 1) ∧ decode cX6_asks 19 = .ok (.invokevirtual 177, 3) := by decide +kernel
theorem dX6_asks_0 : decode cX6_asks 0 = .ok (.iload_n 1, 1) := zd02dec3_105.1
theorem dX6_asks_1 : decode cX6_asks 1 = .ok (.iconst 0, 1) := zd02dec3_105.2.1
theorem dX6_asks_2 : decode cX6_asks 2 = .ok (.iconst 2, 1) := zd02dec3_105.2.2.1
theorem dX6_asks_3 : decode cX6_asks 3 = .ok (.invokestatic 91, 3) := zd02dec3_105.2.2.2.1
theorem dX6_asks_6 : decode cX6_asks 6 = .ok (.ifCond .eq 29, 3) := zd02dec3_105.2.2.2.2.1
theorem dX6_asks_9 : decode cX6_asks 9 = .ok (.aload_n 0, 1) := zd02dec3_105.2.2.2.2.2.1
theorem dX6_asks_10 : decode cX6_asks 10 = .ok (.iload_n 2, 1) := zd02dec3_105.2.2.2.2.2.2.1
theorem dX6_asks_11 : decode cX6_asks 11 = .ok (.invokevirtual 104, 3) := zd02dec3_105.2.2.2.2.2.2.2.1
theorem dX6_asks_14 : decode cX6_asks 14 = .ok (.ifCond .eq 21, 3) := zd02dec3_105.2.2.2.2.2.2.2.2.1
theorem dX6_asks_17 : decode cX6_asks 17 = .ok (.aload_n 0, 1) := zd02dec3_105.2.2.2.2.2.2.2.2.2.1
theorem dX6_asks_18 : decode cX6_asks 18 = .ok (.iload_n 3, 1) := zd02dec3_105.2.2.2.2.2.2.2.2.2.2.1
theorem dX6_asks_19 : decode cX6_asks 19 = .ok (.invokevirtual 177, 3) := zd02dec3_105.2.2.2.2.2.2.2.2.2.2.2
theorem zd02dec3_106 : decode cX6_asks 22 = .ok (.ifCond .eq 13, 3) ∧ decode cX6_asks 25 = .ok (.aload_n 0, 1) ∧ decode cX6_asks 26 = .ok (.iload_n 1, 1) ∧ decode cX6_asks 27 = .ok (.iload_n 2, 1) ∧ decode cX6_asks 28 = .ok (.iload_n 3, 1) ∧ decode cX6_asks 29 = .ok (.invokevirtual 180, 3) ∧ decode cX6_asks 32 = .ok (.goto 5, 3) ∧ decode cX6_asks 35 = .ok (.bipush (-2), 2) ∧ decode cX6_asks 37 = .ok (.ireturn, 1) := by decide +kernel
theorem dX6_asks_22 : decode cX6_asks 22 = .ok (.ifCond .eq 13, 3) := zd02dec3_106.1
theorem dX6_asks_25 : decode cX6_asks 25 = .ok (.aload_n 0, 1) := zd02dec3_106.2.1
theorem dX6_asks_26 : decode cX6_asks 26 = .ok (.iload_n 1, 1) := zd02dec3_106.2.2.1
theorem dX6_asks_27 : decode cX6_asks 27 = .ok (.iload_n 2, 1) := zd02dec3_106.2.2.2.1
theorem dX6_asks_28 : decode cX6_asks 28 = .ok (.iload_n 3, 1) := zd02dec3_106.2.2.2.2.1
theorem dX6_asks_29 : decode cX6_asks 29 = .ok (.invokevirtual 180, 3) := zd02dec3_106.2.2.2.2.2.1
theorem dX6_asks_32 : decode cX6_asks 32 = .ok (.goto 5, 3) := zd02dec3_106.2.2.2.2.2.2.1
theorem dX6_asks_35 : decode cX6_asks 35 = .ok (.bipush (-2), 2) := zd02dec3_106.2.2.2.2.2.2.2.1
theorem dX6_asks_37 : decode cX6_asks 37 = .ok (.ireturn, 1) := zd02dec3_106.2.2.2.2.2.2.2.2
theorem zd02dec3_107 : decode cX6_pebble 0 = .ok (.iload_n 1, 1) ∧ decode cX6_pebble 1 = .ok (.iconst 0, 1) ∧ decode cX6_pebble 2 = .ok (.bipush 59, 2) ∧ decode cX6_pebble 4 = .ok (.invokestatic 91, 3) ∧ decode cX6_pebble 7 = .ok (.ifCond .eq 14, 3) ∧ decode cX6_pebble 10 = .ok (.iload_n 2, 1) ∧ decode cX6_pebble 11 = .ok (.iconst 0, 1) ∧ decode cX6_pebble 12 = .ok (.sipush 9999, 3) ∧ decode cX6_pebble 15 = .ok (.invokestatic 91, 3) ∧ decode cX6_pebble 18 = .ok (.ifCond .ne 6, 3) ∧ decode cX6_pebble 21 = .ok (.bipush (-2), 2) ∧ decode cX6_pebble 23 = .ok (.ireturn, 1) := by decide +kernel
theorem dX6_pebble_0 : decode cX6_pebble 0 = .ok (.iload_n 1, 1) := zd02dec3_107.1
theorem dX6_pebble_1 : decode cX6_pebble 1 = .ok (.iconst 0, 1) := zd02dec3_107.2.1
theorem dX6_pebble_2 : decode cX6_pebble 2 = .ok (.bipush 59, 2) := zd02dec3_107.2.2.1
theorem dX6_pebble_4 : decode cX6_pebble 4 = .ok (.invokestatic 91, 3) := zd02dec3_107.2.2.2.1
theorem dX6_pebble_7 : decode cX6_pebble 7 = .ok (.ifCond .eq 14, 3) := zd02dec3_107.2.2.2.2.1
theorem dX6_pebble_10 : decode cX6_pebble 10 = .ok (.iload_n 2, 1) := zd02dec3_107.2.2.2.2.2.1
theorem dX6_pebble_11 : decode cX6_pebble 11 = .ok (.iconst 0, 1) := zd02dec3_107.2.2.2.2.2.2.1
theorem dX6_pebble_12 : decode cX6_pebble 12 = .ok (.sipush 9999, 3) := zd02dec3_107.2.2.2.2.2.2.2.1
theorem dX6_pebble_15 : decode cX6_pebble 15 = .ok (.invokestatic 91, 3) := zd02dec3_107.2.2.2.2.2.2.2.2.1
theorem dX6_pebble_18 : decode cX6_pebble 18 = .ok (.ifCond .ne 6, 3) := zd02dec3_107.2.2.2.2.2.2.2.2.2.1
theorem dX6_pebble_21 : decode cX6_pebble 21 = .ok (.bipush (-2), 2) := zd02dec3_107.2.2.2.2.2.2.2.2.2.2.1
theorem dX6_pebble_23 : decode cX6_pebble 23 = .ok (.ireturn, 1) := zd02dec3_107.2.2.2.2.2.2.2.2.2.2.2
theorem zd02dec3_108 : decode cX6_pebble 24 = .ok (.aload_n 0, 1) ∧ decode cX6_pebble 25 = .ok (.getfield 88, 3) ∧ decode cX6_pebble 28 = .ok (.bipush 6, 2) ∧ decode cX6_pebble 30 = .ok (.if_icmp .ne 6, 3) ∧ decode cX6_pebble 33 = .ok (.bipush (-4), 2) ∧ decode cX6_pebble 35 = .ok (.ireturn, 1) ∧ decode cX6_pebble 36 = .ok (.aload_n 0, 1) ∧ decode cX6_pebble 37 = .ok (.getfield 7, 3) ∧ decode cX6_pebble 40 = .ok (.aload_n 0, 1) ∧ decode cX6_pebble 41 = .ok (.getfield 88, 3) ∧ decode cX6_pebble 44 = .ok (.iload_n 1, 1) ∧ decode cX6_pebble 45 = .ok (.bipush 10, 2) := by decide +kernel
theorem dX6_pebble_24 : decode cX6_pebble 24 = .ok (.aload_n 0, 1) := zd02dec3_108.1
theorem dX6_pebble_25 : decode cX6_pebble 25 = .ok (.getfield 88, 3) := zd02dec3_108.2.1
theorem dX6_pebble_28 : decode cX6_pebble 28 = .ok (.bipush 6, 2) := zd02dec3_108.2.2.1
theorem dX6_pebble_30 : decode cX6_pebble 30 = .ok (.if_icmp .ne 6, 3) := zd02dec3_108.2.2.2.1
theorem dX6_pebble_33 : decode cX6_pebble 33 = .ok (.bipush (-4), 2) := zd02dec3_108.2.2.2.2.1
theorem dX6_pebble_35 : decode cX6_pebble 35 = .ok (.ireturn, 1) := zd02dec3_108.2.2.2.2.2.1
theorem dX6_pebble_36 : decode cX6_pebble 36 = .ok (.aload_n 0, 1) := zd02dec3_108.2.2.2.2.2.2.1
theorem dX6_pebble_37 : decode cX6_pebble 37 = .ok (.getfield 7, 3) := zd02dec3_108.2.2.2.2.2.2.2.1
theorem dX6_pebble_40 : decode cX6_pebble 40 = .ok (.aload_n 0, 1) := zd02dec3_108.2.2.2.2.2.2.2.2.1
theorem dX6_pebble_41 : decode cX6_pebble 41 = .ok (.getfield 88, 3) := zd02dec3_108.2.2.2.2.2.2.2.2.2.1
theorem dX6_pebble_44 : decode cX6_pebble 44 = .ok (.iload_n 1, 1) := zd02dec3_108.2.2.2.2.2.2.2.2.2.2.1
theorem dX6_pebble_45 : decode cX6_pebble 45 = .ok (.bipush 10, 2) := zd02dec3_108.2.2.2.2.2.2.2.2.2.2.2
theorem zd02dec3_109 : decode cX6_pebble 47 = .ok (.idiv, 1) ∧ decode cX6_pebble 48 = .ok (.iastore, 1) ∧ decode cX6_pebble 49 = .ok (.aload_n 0, 1) ∧ decode cX6_pebble 50 = .ok (.getfield 13, 3) ∧ decode cX6_pebble 53 = .ok (.aload_n 0, 1) ∧ decode cX6_pebble 54 = .ok (.getfield 88, 3) ∧ decode cX6_pebble 57 = .ok (.iload_n 1, 1) ∧ decode cX6_pebble 58 = .ok (.bipush 10, 2) ∧ decode cX6_pebble 60 = .ok (.irem, 1) ∧ decode cX6_pebble 61 = .ok (.iastore, 1) ∧ decode cX6_pebble 62 = .ok (.aload_n 0, 1) ∧ decode cX6_pebble 63 = .ok (.getfield 16, 3) := by decide +kernel
theorem dX6_pebble_47 : decode cX6_pebble 47 = .ok (.idiv, 1) := zd02dec3_109.1
theorem dX6_pebble_48 : decode cX6_pebble 48 = .ok (.iastore, 1) := zd02dec3_109.2.1
theorem dX6_pebble_49 : decode cX6_pebble 49 = .ok (.aload_n 0, 1) := zd02dec3_109.2.2.1
theorem dX6_pebble_50 : decode cX6_pebble 50 = .ok (.getfield 13, 3) := zd02dec3_109.2.2.2.1
theorem dX6_pebble_53 : decode cX6_pebble 53 = .ok (.aload_n 0, 1) := zd02dec3_109.2.2.2.2.1
theorem dX6_pebble_54 : decode cX6_pebble 54 = .ok (.getfield 88, 3) := zd02dec3_109.2.2.2.2.2.1
theorem dX6_pebble_57 : decode cX6_pebble 57 = .ok (.iload_n 1, 1) := zd02dec3_109.2.2.2.2.2.2.1
theorem dX6_pebble_58 : decode cX6_pebble 58 = .ok (.bipush 10, 2) := zd02dec3_109.2.2.2.2.2.2.2.1
theorem dX6_pebble_60 : decode cX6_pebble 60 = .ok (.irem, 1) := zd02dec3_109.2.2.2.2.2.2.2.2.1
theorem dX6_pebble_61 : decode cX6_pebble 61 = .ok (.iastore, 1) := zd02dec3_109.2.2.2.2.2.2.2.2.2.1
theorem dX6_pebble_62 : decode cX6_pebble 62 = .ok (.aload_n 0, 1) := zd02dec3_109.2.2.2.2.2.2.2.2.2.2.1
theorem dX6_pebble_63 : decode cX6_pebble 63 = .ok (.getfield 16, 3) := zd02dec3_109.2.2.2.2.2.2.2.2.2.2.2
theorem zd02dec3_110 : decode cX6_pebble 66 = .ok (.iconst 2, 1) ∧ decode cX6_pebble 67 = .ok (.aload_n 0, 1) ∧ decode cX6_pebble 68 = .ok (.getfield 88, 3) ∧ decode cX6_pebble 71 = .ok (.imul, 1) ∧ decode cX6_pebble 72 = .ok (.iload_n 2, 1) ∧ decode cX6_pebble 73 = .ok (.bipush 100, 2) ∧ decode cX6_pebble 75 = .ok (.idiv, 1) ∧ decode cX6_pebble 76 = .ok (.iastore, 1) ∧ decode cX6_pebble 77 = .ok (.aload_n 0, 1) ∧ decode cX6_pebble 78 = .ok (.getfield 16, 3) ∧ decode cX6_pebble 81 = .ok (.iconst 2, 1) ∧ decode cX6_pebble 82 = .ok (.aload_n 0, 1) := by decide +kernel
theorem dX6_pebble_66 : decode cX6_pebble 66 = .ok (.iconst 2, 1) := zd02dec3_110.1
theorem dX6_pebble_67 : decode cX6_pebble 67 = .ok (.aload_n 0, 1) := zd02dec3_110.2.1
theorem dX6_pebble_68 : decode cX6_pebble 68 = .ok (.getfield 88, 3) := zd02dec3_110.2.2.1
theorem dX6_pebble_71 : decode cX6_pebble 71 = .ok (.imul, 1) := zd02dec3_110.2.2.2.1
theorem dX6_pebble_72 : decode cX6_pebble 72 = .ok (.iload_n 2, 1) := zd02dec3_110.2.2.2.2.1
theorem dX6_pebble_73 : decode cX6_pebble 73 = .ok (.bipush 100, 2) := zd02dec3_110.2.2.2.2.2.1
theorem dX6_pebble_75 : decode cX6_pebble 75 = .ok (.idiv, 1) := zd02dec3_110.2.2.2.2.2.2.1
theorem dX6_pebble_76 : decode cX6_pebble 76 = .ok (.iastore, 1) := zd02dec3_110.2.2.2.2.2.2.2.1
theorem dX6_pebble_77 : decode cX6_pebble 77 = .ok (.aload_n 0, 1) := zd02dec3_110.2.2.2.2.2.2.2.2.1
theorem dX6_pebble_78 : decode cX6_pebble 78 = .ok (.getfield 16, 3) := zd02dec3_110.2.2.2.2.2.2.2.2.2.1
theorem dX6_pebble_81 : decode cX6_pebble 81 = .ok (.iconst 2, 1) := zd02dec3_110.2.2.2.2.2.2.2.2.2.2.1
theorem dX6_pebble_82 : decode cX6_pebble 82 = .ok (.aload_n 0, 1) := zd02dec3_110.2.2.2.2.2.2.2.2.2.2.2
theorem zd02dec3_111 : decode cX6_pebble 83 = .ok (.getfield 88, 3) ∧ decode cX6_pebble 86 = .ok (.imul, 1) ∧ decode cX6_pebble 87 = .ok (.iconst 1, 1) ∧ decode cX6_pebble 88 = .ok (.iadd, 1) ∧ decode cX6_pebble 89 = .ok (.iload_n 2, 1) ∧ decode cX6_pebble 90 = .ok (.bipush 100, 2) ∧ decode cX6_pebble 92 = .ok (.irem, 1) ∧ decode cX6_pebble 93 = .ok (.iastore, 1) ∧ decode cX6_pebble 94 = .ok (.aload_n 0, 1) ∧ decode cX6_pebble 95 = .ok (.dup, 1) ∧ decode cX6_pebble 96 = .ok (.getfield 88, 3) ∧ decode cX6_pebble 99 = .ok (.iconst 1, 1) := by decide +kernel
theorem dX6_pebble_83 : decode cX6_pebble 83 = .ok (.getfield 88, 3) := zd02dec3_111.1
theorem dX6_pebble_86 : decode cX6_pebble 86 = .ok (.imul, 1) := zd02dec3_111.2.1
theorem dX6_pebble_87 : decode cX6_pebble 87 = .ok (.iconst 1, 1) := zd02dec3_111.2.2.1
theorem dX6_pebble_88 : decode cX6_pebble 88 = .ok (.iadd, 1) := zd02dec3_111.2.2.2.1
theorem dX6_pebble_89 : decode cX6_pebble 89 = .ok (.iload_n 2, 1) := zd02dec3_111.2.2.2.2.1
theorem dX6_pebble_90 : decode cX6_pebble 90 = .ok (.bipush 100, 2) := zd02dec3_111.2.2.2.2.2.1
theorem dX6_pebble_92 : decode cX6_pebble 92 = .ok (.irem, 1) := zd02dec3_111.2.2.2.2.2.2.1
theorem dX6_pebble_93 : decode cX6_pebble 93 = .ok (.iastore, 1) := zd02dec3_111.2.2.2.2.2.2.2.1
theorem dX6_pebble_94 : decode cX6_pebble 94 = .ok (.aload_n 0, 1) := zd02dec3_111.2.2.2.2.2.2.2.2.1
theorem dX6_pebble_95 : decode cX6_pebble 95 = .ok (.dup, 1) := zd02dec3_111.2.2.2.2.2.2.2.2.2.1
theorem dX6_pebble_96 : decode cX6_pebble 96 = .ok (.getfield 88, 3) := zd02dec3_111.2.2.2.2.2.2.2.2.2.2.1
theorem dX6_pebble_99 : decode cX6_pebble 99 = .ok (.iconst 1, 1) := zd02dec3_111.2.2.2.2.2.2.2.2.2.2.2
theorem zd02dec3_112 : decode cX6_pebble 100 = .ok (.iadd, 1) ∧ decode cX6_pebble 101 = .ok (.putfield 88, 3) ∧ decode cX6_pebble 104 = .ok (.aload_n 0, 1) ∧ decode cX6_pebble 105 = .ok (.getfield 88, 3) ∧ decode cX6_pebble 108 = .ok (.iconst 1, 1) ∧ decode cX6_pebble 109 = .ok (.isub, 1) ∧ decode cX6_pebble 110 = .ok (.ireturn, 1) := by decide +kernel
theorem dX6_pebble_100 : decode cX6_pebble 100 = .ok (.iadd, 1) := zd02dec3_112.1
theorem dX6_pebble_101 : decode cX6_pebble 101 = .ok (.putfield 88, 3) := zd02dec3_112.2.1
theorem dX6_pebble_104 : decode cX6_pebble 104 = .ok (.aload_n 0, 1) := zd02dec3_112.2.2.1
theorem dX6_pebble_105 : decode cX6_pebble 105 = .ok (.getfield 88, 3) := zd02dec3_112.2.2.2.1
theorem dX6_pebble_108 : decode cX6_pebble 108 = .ok (.iconst 1, 1) := zd02dec3_112.2.2.2.2.1
theorem dX6_pebble_109 : decode cX6_pebble 109 = .ok (.isub, 1) := zd02dec3_112.2.2.2.2.2.1
theorem dX6_pebble_110 : decode cX6_pebble 110 = .ok (.ireturn, 1) := zd02dec3_112.2.2.2.2.2.2
theorem zd02dec3_113 : decode cX6_put 0 = .ok (.aload_n 0, 1) ∧ decode cX6_put 1 = .ok (.iload_n 1, 1) ∧ decode cX6_put 2 = .ok (.invokevirtual 177, 3) ∧ decode cX6_put 5 = .ok (.ifCond .ne 6, 3) ∧ decode cX6_put 8 = .ok (.bipush (-5), 2) ∧ decode cX6_put 10 = .ok (.ireturn, 1) ∧ decode cX6_put 11 = .ok (.iload_n 2, 1) ∧ decode cX6_put 12 = .ok (.iconst 0, 1) ∧ decode cX6_put 13 = .ok (.iconst 1, 1) ∧ decode cX6_put 14 = .ok (.invokestatic 91, 3) ∧ decode cX6_put 17 = .ok (.ifCond .eq 13, 3) ∧ decode cX6_put 20 = .ok (.iload_n 3, 1) := by decide +kernel
theorem dX6_put_0 : decode cX6_put 0 = .ok (.aload_n 0, 1) := zd02dec3_113.1
theorem dX6_put_1 : decode cX6_put 1 = .ok (.iload_n 1, 1) := zd02dec3_113.2.1
theorem dX6_put_2 : decode cX6_put 2 = .ok (.invokevirtual 177, 3) := zd02dec3_113.2.2.1
theorem dX6_put_5 : decode cX6_put 5 = .ok (.ifCond .ne 6, 3) := zd02dec3_113.2.2.2.1
theorem dX6_put_8 : decode cX6_put 8 = .ok (.bipush (-5), 2) := zd02dec3_113.2.2.2.2.1
theorem dX6_put_10 : decode cX6_put 10 = .ok (.ireturn, 1) := zd02dec3_113.2.2.2.2.2.1
theorem dX6_put_11 : decode cX6_put 11 = .ok (.iload_n 2, 1) := zd02dec3_113.2.2.2.2.2.2.1
theorem dX6_put_12 : decode cX6_put 12 = .ok (.iconst 0, 1) := zd02dec3_113.2.2.2.2.2.2.2.1
theorem dX6_put_13 : decode cX6_put 13 = .ok (.iconst 1, 1) := zd02dec3_113.2.2.2.2.2.2.2.2.1
theorem dX6_put_14 : decode cX6_put 14 = .ok (.invokestatic 91, 3) := zd02dec3_113.2.2.2.2.2.2.2.2.2.1
theorem dX6_put_17 : decode cX6_put 17 = .ok (.ifCond .eq 13, 3) := zd02dec3_113.2.2.2.2.2.2.2.2.2.2.1
theorem dX6_put_20 : decode cX6_put 20 = .ok (.iload_n 3, 1) := zd02dec3_113.2.2.2.2.2.2.2.2.2.2.2
theorem zd02dec3_114 : decode cX6_put 21 = .ok (.iconst 0, 1) ∧ decode cX6_put 22 = .ok (.bipush 99, 2) ∧ decode cX6_put 24 = .ok (.invokestatic 91, 3) ∧ decode cX6_put 27 = .ok (.ifCond .ne 6, 3) ∧ decode cX6_put 30 = .ok (.bipush (-7), 2) ∧ decode cX6_put 32 = .ok (.ireturn, 1) ∧ decode cX6_put 33 = .ok (.aload_n 0, 1) ∧ decode cX6_put 34 = .ok (.getfield 16, 3) ∧ decode cX6_put 37 = .ok (.iconst 2, 1) ∧ decode cX6_put 38 = .ok (.iload_n 1, 1) ∧ decode cX6_put 39 = .ok (.imul, 1) ∧ decode cX6_put 40 = .ok (.iload_n 2, 1) := by decide +kernel
theorem dX6_put_21 : decode cX6_put 21 = .ok (.iconst 0, 1) := zd02dec3_114.1
theorem dX6_put_22 : decode cX6_put 22 = .ok (.bipush 99, 2) := zd02dec3_114.2.1
theorem dX6_put_24 : decode cX6_put 24 = .ok (.invokestatic 91, 3) := zd02dec3_114.2.2.1
theorem dX6_put_27 : decode cX6_put 27 = .ok (.ifCond .ne 6, 3) := zd02dec3_114.2.2.2.1
theorem dX6_put_30 : decode cX6_put 30 = .ok (.bipush (-7), 2) := zd02dec3_114.2.2.2.2.1
theorem dX6_put_32 : decode cX6_put 32 = .ok (.ireturn, 1) := zd02dec3_114.2.2.2.2.2.1
theorem dX6_put_33 : decode cX6_put 33 = .ok (.aload_n 0, 1) := zd02dec3_114.2.2.2.2.2.2.1
theorem dX6_put_34 : decode cX6_put 34 = .ok (.getfield 16, 3) := zd02dec3_114.2.2.2.2.2.2.2.1
theorem dX6_put_37 : decode cX6_put 37 = .ok (.iconst 2, 1) := zd02dec3_114.2.2.2.2.2.2.2.2.1
theorem dX6_put_38 : decode cX6_put 38 = .ok (.iload_n 1, 1) := zd02dec3_114.2.2.2.2.2.2.2.2.2.1
theorem dX6_put_39 : decode cX6_put 39 = .ok (.imul, 1) := zd02dec3_114.2.2.2.2.2.2.2.2.2.2.1
theorem dX6_put_40 : decode cX6_put 40 = .ok (.iload_n 2, 1) := zd02dec3_114.2.2.2.2.2.2.2.2.2.2.2
theorem zd02dec3_115 : decode cX6_put 41 = .ok (.iadd, 1) ∧ decode cX6_put 42 = .ok (.iaload, 1) ∧ decode cX6_put 43 = .ok (.istore 4, 2) ∧ decode cX6_put 45 = .ok (.aload_n 0, 1) ∧ decode cX6_put 46 = .ok (.getfield 16, 3) ∧ decode cX6_put 49 = .ok (.iconst 2, 1) ∧ decode cX6_put 50 = .ok (.iload_n 1, 1) ∧ decode cX6_put 51 = .ok (.imul, 1) ∧ decode cX6_put 52 = .ok (.iload_n 2, 1) ∧ decode cX6_put 53 = .ok (.iadd, 1) ∧ decode cX6_put 54 = .ok (.iload_n 3, 1) ∧ decode cX6_put 55 = .ok (.iastore, 1) := by decide +kernel
theorem dX6_put_41 : decode cX6_put 41 = .ok (.iadd, 1) := zd02dec3_115.1
theorem dX6_put_42 : decode cX6_put 42 = .ok (.iaload, 1) := zd02dec3_115.2.1
theorem dX6_put_43 : decode cX6_put 43 = .ok (.istore 4, 2) := zd02dec3_115.2.2.1
theorem dX6_put_45 : decode cX6_put 45 = .ok (.aload_n 0, 1) := zd02dec3_115.2.2.2.1
theorem dX6_put_46 : decode cX6_put 46 = .ok (.getfield 16, 3) := zd02dec3_115.2.2.2.2.1
theorem dX6_put_49 : decode cX6_put 49 = .ok (.iconst 2, 1) := zd02dec3_115.2.2.2.2.2.1
theorem dX6_put_50 : decode cX6_put 50 = .ok (.iload_n 1, 1) := zd02dec3_115.2.2.2.2.2.2.1
theorem dX6_put_51 : decode cX6_put 51 = .ok (.imul, 1) := zd02dec3_115.2.2.2.2.2.2.2.1
theorem dX6_put_52 : decode cX6_put 52 = .ok (.iload_n 2, 1) := zd02dec3_115.2.2.2.2.2.2.2.2.1
theorem dX6_put_53 : decode cX6_put 53 = .ok (.iadd, 1) := zd02dec3_115.2.2.2.2.2.2.2.2.2.1
theorem dX6_put_54 : decode cX6_put 54 = .ok (.iload_n 3, 1) := zd02dec3_115.2.2.2.2.2.2.2.2.2.2.1
theorem dX6_put_55 : decode cX6_put 55 = .ok (.iastore, 1) := zd02dec3_115.2.2.2.2.2.2.2.2.2.2.2
theorem zd02dec3_116 : decode cX6_put 56 = .ok (.iload 4, 2) ∧ decode cX6_put 58 = .ok (.ireturn, 1) := by decide +kernel
theorem dX6_put_56 : decode cX6_put 56 = .ok (.iload 4, 2) := zd02dec3_116.1
theorem dX6_put_58 : decode cX6_put 58 = .ok (.ireturn, 1) := zd02dec3_116.2
theorem zd02dec3_117 : decode cX6_isSand 0 = .ok (.aload_n 0, 1) ∧ decode cX6_isSand 1 = .ok (.getfield 16, 3) ∧ decode cX6_isSand 4 = .ok (.iconst 2, 1) ∧ decode cX6_isSand 5 = .ok (.iload_n 1, 1) ∧ decode cX6_isSand 6 = .ok (.imul, 1) ∧ decode cX6_isSand 7 = .ok (.iaload, 1) ∧ decode cX6_isSand 8 = .ok (.istore_n 2, 1) ∧ decode cX6_isSand 9 = .ok (.aload_n 0, 1) ∧ decode cX6_isSand 10 = .ok (.getfield 7, 3) ∧ decode cX6_isSand 13 = .ok (.iload_n 1, 1) ∧ decode cX6_isSand 14 = .ok (.iaload, 1) ∧ decode cX6_isSand 15 = .ok (.iconst 2, 1) := by decide +kernel
theorem dX6_isSand_0 : decode cX6_isSand 0 = .ok (.aload_n 0, 1) := zd02dec3_117.1
theorem dX6_isSand_1 : decode cX6_isSand 1 = .ok (.getfield 16, 3) := zd02dec3_117.2.1
theorem dX6_isSand_4 : decode cX6_isSand 4 = .ok (.iconst 2, 1) := zd02dec3_117.2.2.1
theorem dX6_isSand_5 : decode cX6_isSand 5 = .ok (.iload_n 1, 1) := zd02dec3_117.2.2.2.1
theorem dX6_isSand_6 : decode cX6_isSand 6 = .ok (.imul, 1) := zd02dec3_117.2.2.2.2.1
theorem dX6_isSand_7 : decode cX6_isSand 7 = .ok (.iaload, 1) := zd02dec3_117.2.2.2.2.2.1
theorem dX6_isSand_8 : decode cX6_isSand 8 = .ok (.istore_n 2, 1) := zd02dec3_117.2.2.2.2.2.2.1
theorem dX6_isSand_9 : decode cX6_isSand 9 = .ok (.aload_n 0, 1) := zd02dec3_117.2.2.2.2.2.2.2.1
theorem dX6_isSand_10 : decode cX6_isSand 10 = .ok (.getfield 7, 3) := zd02dec3_117.2.2.2.2.2.2.2.2.1
theorem dX6_isSand_13 : decode cX6_isSand 13 = .ok (.iload_n 1, 1) := zd02dec3_117.2.2.2.2.2.2.2.2.2.1
theorem dX6_isSand_14 : decode cX6_isSand 14 = .ok (.iaload, 1) := zd02dec3_117.2.2.2.2.2.2.2.2.2.2.1
theorem dX6_isSand_15 : decode cX6_isSand 15 = .ok (.iconst 2, 1) := zd02dec3_117.2.2.2.2.2.2.2.2.2.2.2
theorem zd02dec3_118 : decode cX6_isSand 16 = .ok (.if_icmp .eq 13, 3) ∧ decode cX6_isSand 19 = .ok (.aload_n 0, 1) ∧ decode cX6_isSand 20 = .ok (.getfield 7, 3) ∧ decode cX6_isSand 23 = .ok (.iload_n 1, 1) ∧ decode cX6_isSand 24 = .ok (.iaload, 1) ∧ decode cX6_isSand 25 = .ok (.iconst 4, 1) ∧ decode cX6_isSand 26 = .ok (.if_icmp .ne 21, 3) ∧ decode cX6_isSand 29 = .ok (.iload_n 2, 1) ∧ decode cX6_isSand 30 = .ok (.aload_n 0, 1) ∧ decode cX6_isSand 31 = .ok (.getfield 13, 3) ∧ decode cX6_isSand 34 = .ok (.iload_n 1, 1) ∧ decode cX6_isSand 35 = .ok (.iaload, 1) := by decide +kernel
theorem dX6_isSand_16 : decode cX6_isSand 16 = .ok (.if_icmp .eq 13, 3) := zd02dec3_118.1
theorem dX6_isSand_19 : decode cX6_isSand 19 = .ok (.aload_n 0, 1) := zd02dec3_118.2.1
theorem dX6_isSand_20 : decode cX6_isSand 20 = .ok (.getfield 7, 3) := zd02dec3_118.2.2.1
theorem dX6_isSand_23 : decode cX6_isSand 23 = .ok (.iload_n 1, 1) := zd02dec3_118.2.2.2.1
theorem dX6_isSand_24 : decode cX6_isSand 24 = .ok (.iaload, 1) := zd02dec3_118.2.2.2.2.1
theorem dX6_isSand_25 : decode cX6_isSand 25 = .ok (.iconst 4, 1) := zd02dec3_118.2.2.2.2.2.1
theorem dX6_isSand_26 : decode cX6_isSand 26 = .ok (.if_icmp .ne 21, 3) := zd02dec3_118.2.2.2.2.2.2.1
theorem dX6_isSand_29 : decode cX6_isSand 29 = .ok (.iload_n 2, 1) := zd02dec3_118.2.2.2.2.2.2.2.1
theorem dX6_isSand_30 : decode cX6_isSand 30 = .ok (.aload_n 0, 1) := zd02dec3_118.2.2.2.2.2.2.2.2.1
theorem dX6_isSand_31 : decode cX6_isSand 31 = .ok (.getfield 13, 3) := zd02dec3_118.2.2.2.2.2.2.2.2.2.1
theorem dX6_isSand_34 : decode cX6_isSand 34 = .ok (.iload_n 1, 1) := zd02dec3_118.2.2.2.2.2.2.2.2.2.2.1
theorem dX6_isSand_35 : decode cX6_isSand 35 = .ok (.iaload, 1) := zd02dec3_118.2.2.2.2.2.2.2.2.2.2.2
theorem zd02dec3_119 : decode cX6_isSand 36 = .ok (.if_icmp .gt 7, 3) ∧ decode cX6_isSand 39 = .ok (.iconst 1, 1) ∧ decode cX6_isSand 40 = .ok (.goto 39, 3) ∧ decode cX6_isSand 43 = .ok (.iconst 0, 1) ∧ decode cX6_isSand 44 = .ok (.goto 35, 3) ∧ decode cX6_isSand 47 = .ok (.aload_n 0, 1) ∧ decode cX6_isSand 48 = .ok (.getfield 7, 3) ∧ decode cX6_isSand 51 = .ok (.iload_n 1, 1) ∧ decode cX6_isSand 52 = .ok (.iaload, 1) ∧ decode cX6_isSand 53 = .ok (.iconst 5, 1) ∧ decode cX6_isSand 54 = .ok (.if_icmp .ne 16, 3) ∧ decode cX6_isSand 57 = .ok (.iload_n 2, 1) := by decide +kernel
theorem dX6_isSand_36 : decode cX6_isSand 36 = .ok (.if_icmp .gt 7, 3) := zd02dec3_119.1
theorem dX6_isSand_39 : decode cX6_isSand 39 = .ok (.iconst 1, 1) := zd02dec3_119.2.1
theorem dX6_isSand_40 : decode cX6_isSand 40 = .ok (.goto 39, 3) := zd02dec3_119.2.2.1
theorem dX6_isSand_43 : decode cX6_isSand 43 = .ok (.iconst 0, 1) := zd02dec3_119.2.2.2.1
theorem dX6_isSand_44 : decode cX6_isSand 44 = .ok (.goto 35, 3) := zd02dec3_119.2.2.2.2.1
theorem dX6_isSand_47 : decode cX6_isSand 47 = .ok (.aload_n 0, 1) := zd02dec3_119.2.2.2.2.2.1
theorem dX6_isSand_48 : decode cX6_isSand 48 = .ok (.getfield 7, 3) := zd02dec3_119.2.2.2.2.2.2.1
theorem dX6_isSand_51 : decode cX6_isSand 51 = .ok (.iload_n 1, 1) := zd02dec3_119.2.2.2.2.2.2.2.1
theorem dX6_isSand_52 : decode cX6_isSand 52 = .ok (.iaload, 1) := zd02dec3_119.2.2.2.2.2.2.2.2.1
theorem dX6_isSand_53 : decode cX6_isSand 53 = .ok (.iconst 5, 1) := zd02dec3_119.2.2.2.2.2.2.2.2.2.1
theorem dX6_isSand_54 : decode cX6_isSand 54 = .ok (.if_icmp .ne 16, 3) := zd02dec3_119.2.2.2.2.2.2.2.2.2.2.1
theorem dX6_isSand_57 : decode cX6_isSand 57 = .ok (.iload_n 2, 1) := zd02dec3_119.2.2.2.2.2.2.2.2.2.2.2
theorem zd02dec3_120 : decode cX6_isSand 58 = .ok (.iconst 5, 1) ∧ decode cX6_isSand 59 = .ok (.if_icmp .ge 7, 3) ∧ decode cX6_isSand 62 = .ok (.iconst 1, 1) ∧ decode cX6_isSand 63 = .ok (.goto 16, 3) ∧ decode cX6_isSand 66 = .ok (.iconst 0, 1) ∧ decode cX6_isSand 67 = .ok (.goto 12, 3) ∧ decode cX6_isSand 70 = .ok (.iload_n 2, 1) ∧ decode cX6_isSand 71 = .ok (.ifCond .ne 7, 3) ∧ decode cX6_isSand 74 = .ok (.iconst 1, 1) ∧ decode cX6_isSand 75 = .ok (.goto 4, 3) ∧ decode cX6_isSand 78 = .ok (.iconst 0, 1) ∧ decode cX6_isSand 79 = .ok (.ireturn, 1) := by decide +kernel
theorem dX6_isSand_58 : decode cX6_isSand 58 = .ok (.iconst 5, 1) := zd02dec3_120.1
theorem dX6_isSand_59 : decode cX6_isSand 59 = .ok (.if_icmp .ge 7, 3) := zd02dec3_120.2.1
theorem dX6_isSand_62 : decode cX6_isSand 62 = .ok (.iconst 1, 1) := zd02dec3_120.2.2.1
theorem dX6_isSand_63 : decode cX6_isSand 63 = .ok (.goto 16, 3) := zd02dec3_120.2.2.2.1
theorem dX6_isSand_66 : decode cX6_isSand 66 = .ok (.iconst 0, 1) := zd02dec3_120.2.2.2.2.1
theorem dX6_isSand_67 : decode cX6_isSand 67 = .ok (.goto 12, 3) := zd02dec3_120.2.2.2.2.2.1
theorem dX6_isSand_70 : decode cX6_isSand 70 = .ok (.iload_n 2, 1) := zd02dec3_120.2.2.2.2.2.2.1
theorem dX6_isSand_71 : decode cX6_isSand 71 = .ok (.ifCond .ne 7, 3) := zd02dec3_120.2.2.2.2.2.2.2.1
theorem dX6_isSand_74 : decode cX6_isSand 74 = .ok (.iconst 1, 1) := zd02dec3_120.2.2.2.2.2.2.2.2.1
theorem dX6_isSand_75 : decode cX6_isSand 75 = .ok (.goto 4, 3) := zd02dec3_120.2.2.2.2.2.2.2.2.2.1
theorem dX6_isSand_78 : decode cX6_isSand 78 = .ok (.iconst 0, 1) := zd02dec3_120.2.2.2.2.2.2.2.2.2.2.1
theorem dX6_isSand_79 : decode cX6_isSand 79 = .ok (.ireturn, 1) := zd02dec3_120.2.2.2.2.2.2.2.2.2.2.2
theorem zd02dec3_121 : decode cX6_told 0 = .ok (.aload_n 0, 1) ∧ decode cX6_told 1 = .ok (.iload_n 1, 1) ∧ decode cX6_told 2 = .ok (.invokevirtual 177, 3) ∧ decode cX6_told 5 = .ok (.ifCond .ne 6, 3) ∧ decode cX6_told 8 = .ok (.bipush (-5), 2) ∧ decode cX6_told 10 = .ok (.ireturn, 1) ∧ decode cX6_told 11 = .ok (.iload_n 2, 1) ∧ decode cX6_told 12 = .ok (.tableswitch 77 0 4 #[36, 43, 50, 50, 63], 36) ∧ decode cX6_told 48 = .ok (.aload_n 0, 1) ∧ decode cX6_told 49 = .ok (.getfield 7, 3) ∧ decode cX6_told 52 = .ok (.iload_n 1, 1) ∧ decode cX6_told 53 = .ok (.iaload, 1) := by decide +kernel
theorem dX6_told_0 : decode cX6_told 0 = .ok (.aload_n 0, 1) := zd02dec3_121.1
theorem dX6_told_1 : decode cX6_told 1 = .ok (.iload_n 1, 1) := zd02dec3_121.2.1
theorem dX6_told_2 : decode cX6_told 2 = .ok (.invokevirtual 177, 3) := zd02dec3_121.2.2.1
theorem dX6_told_5 : decode cX6_told 5 = .ok (.ifCond .ne 6, 3) := zd02dec3_121.2.2.2.1
theorem dX6_told_8 : decode cX6_told 8 = .ok (.bipush (-5), 2) := zd02dec3_121.2.2.2.2.1
theorem dX6_told_10 : decode cX6_told 10 = .ok (.ireturn, 1) := zd02dec3_121.2.2.2.2.2.1
theorem dX6_told_11 : decode cX6_told 11 = .ok (.iload_n 2, 1) := zd02dec3_121.2.2.2.2.2.2.1
theorem dX6_told_12 : decode cX6_told 12 = .ok (.tableswitch 77 0 4 #[36, 43, 50, 50, 63], 36) := zd02dec3_121.2.2.2.2.2.2.2.1
theorem dX6_told_48 : decode cX6_told 48 = .ok (.aload_n 0, 1) := zd02dec3_121.2.2.2.2.2.2.2.2.1
theorem dX6_told_49 : decode cX6_told 49 = .ok (.getfield 7, 3) := zd02dec3_121.2.2.2.2.2.2.2.2.2.1
theorem dX6_told_52 : decode cX6_told 52 = .ok (.iload_n 1, 1) := zd02dec3_121.2.2.2.2.2.2.2.2.2.2.1
theorem dX6_told_53 : decode cX6_told 53 = .ok (.iaload, 1) := zd02dec3_121.2.2.2.2.2.2.2.2.2.2.2
theorem zd02dec3_122 : decode cX6_told 54 = .ok (.ireturn, 1) ∧ decode cX6_told 55 = .ok (.aload_n 0, 1) ∧ decode cX6_told 56 = .ok (.getfield 13, 3) ∧ decode cX6_told 59 = .ok (.iload_n 1, 1) ∧ decode cX6_told 60 = .ok (.iaload, 1) ∧ decode cX6_told 61 = .ok (.ireturn, 1) ∧ decode cX6_told 62 = .ok (.aload_n 0, 1) ∧ decode cX6_told 63 = .ok (.getfield 16, 3) ∧ decode cX6_told 66 = .ok (.iconst 2, 1) ∧ decode cX6_told 67 = .ok (.iload_n 1, 1) ∧ decode cX6_told 68 = .ok (.imul, 1) ∧ decode cX6_told 69 = .ok (.iload_n 2, 1) := by decide +kernel
theorem dX6_told_54 : decode cX6_told 54 = .ok (.ireturn, 1) := zd02dec3_122.1
theorem dX6_told_55 : decode cX6_told 55 = .ok (.aload_n 0, 1) := zd02dec3_122.2.1
theorem dX6_told_56 : decode cX6_told 56 = .ok (.getfield 13, 3) := zd02dec3_122.2.2.1
theorem dX6_told_59 : decode cX6_told 59 = .ok (.iload_n 1, 1) := zd02dec3_122.2.2.2.1
theorem dX6_told_60 : decode cX6_told 60 = .ok (.iaload, 1) := zd02dec3_122.2.2.2.2.1
theorem dX6_told_61 : decode cX6_told 61 = .ok (.ireturn, 1) := zd02dec3_122.2.2.2.2.2.1
theorem dX6_told_62 : decode cX6_told 62 = .ok (.aload_n 0, 1) := zd02dec3_122.2.2.2.2.2.2.1
theorem dX6_told_63 : decode cX6_told 63 = .ok (.getfield 16, 3) := zd02dec3_122.2.2.2.2.2.2.2.1
theorem dX6_told_66 : decode cX6_told 66 = .ok (.iconst 2, 1) := zd02dec3_122.2.2.2.2.2.2.2.2.1
theorem dX6_told_67 : decode cX6_told 67 = .ok (.iload_n 1, 1) := zd02dec3_122.2.2.2.2.2.2.2.2.2.1
theorem dX6_told_68 : decode cX6_told 68 = .ok (.imul, 1) := zd02dec3_122.2.2.2.2.2.2.2.2.2.2.1
theorem dX6_told_69 : decode cX6_told 69 = .ok (.iload_n 2, 1) := zd02dec3_122.2.2.2.2.2.2.2.2.2.2.2
theorem zd02dec3_123 : decode cX6_told 70 = .ok (.iadd, 1) ∧ decode cX6_told 71 = .ok (.iconst 2, 1) ∧ decode cX6_told 72 = .ok (.isub, 1) ∧ decode cX6_told 73 = .ok (.iaload, 1) ∧ decode cX6_told 74 = .ok (.ireturn, 1) ∧ decode cX6_told 75 = .ok (.aload_n 0, 1) ∧ decode cX6_told 76 = .ok (.iload_n 1, 1) ∧ decode cX6_told 77 = .ok (.invokevirtual 183, 3) ∧ decode cX6_told 80 = .ok (.ifCond .eq 7, 3) ∧ decode cX6_told 83 = .ok (.iconst 1, 1) ∧ decode cX6_told 84 = .ok (.goto 4, 3) ∧ decode cX6_told 87 = .ok (.iconst 0, 1) := by decide +kernel
theorem dX6_told_70 : decode cX6_told 70 = .ok (.iadd, 1) := zd02dec3_123.1
theorem dX6_told_71 : decode cX6_told 71 = .ok (.iconst 2, 1) := zd02dec3_123.2.1
theorem dX6_told_72 : decode cX6_told 72 = .ok (.isub, 1) := zd02dec3_123.2.2.1
theorem dX6_told_73 : decode cX6_told 73 = .ok (.iaload, 1) := zd02dec3_123.2.2.2.1
theorem dX6_told_74 : decode cX6_told 74 = .ok (.ireturn, 1) := zd02dec3_123.2.2.2.2.1
theorem dX6_told_75 : decode cX6_told 75 = .ok (.aload_n 0, 1) := zd02dec3_123.2.2.2.2.2.1
theorem dX6_told_76 : decode cX6_told 76 = .ok (.iload_n 1, 1) := zd02dec3_123.2.2.2.2.2.2.1
theorem dX6_told_77 : decode cX6_told 77 = .ok (.invokevirtual 183, 3) := zd02dec3_123.2.2.2.2.2.2.2.1
theorem dX6_told_80 : decode cX6_told 80 = .ok (.ifCond .eq 7, 3) := zd02dec3_123.2.2.2.2.2.2.2.2.1
theorem dX6_told_83 : decode cX6_told 83 = .ok (.iconst 1, 1) := zd02dec3_123.2.2.2.2.2.2.2.2.2.1
theorem dX6_told_84 : decode cX6_told 84 = .ok (.goto 4, 3) := zd02dec3_123.2.2.2.2.2.2.2.2.2.2.1
theorem dX6_told_87 : decode cX6_told 87 = .ok (.iconst 0, 1) := zd02dec3_123.2.2.2.2.2.2.2.2.2.2.2
theorem zd02dec3_124 : decode cX6_told 88 = .ok (.ireturn, 1) ∧ decode cX6_told 89 = .ok (.bipush (-7), 2) ∧ decode cX6_told 91 = .ok (.ireturn, 1) := by decide +kernel
theorem dX6_told_88 : decode cX6_told 88 = .ok (.ireturn, 1) := zd02dec3_124.1
theorem dX6_told_89 : decode cX6_told 89 = .ok (.bipush (-7), 2) := zd02dec3_124.2.1
theorem dX6_told_91 : decode cX6_told 91 = .ok (.ireturn, 1) := zd02dec3_124.2.2
theorem zd02dec3_125 : decode cX6_hurtsOf 0 = .ok (.aload_n 0, 1) ∧ decode cX6_hurtsOf 1 = .ok (.getfield 19, 3) ∧ decode cX6_hurtsOf 4 = .ok (.iconst 3, 1) ∧ decode cX6_hurtsOf 5 = .ok (.iload_n 1, 1) ∧ decode cX6_hurtsOf 6 = .ok (.imul, 1) ∧ decode cX6_hurtsOf 7 = .ok (.iaload, 1) ∧ decode cX6_hurtsOf 8 = .ok (.istore_n 3, 1) ∧ decode cX6_hurtsOf 9 = .ok (.aload_n 0, 1) ∧ decode cX6_hurtsOf 10 = .ok (.iconst 0, 1) ∧ decode cX6_hurtsOf 11 = .ok (.iload_n 1, 1) ∧ decode cX6_hurtsOf 12 = .ok (.iload_n 2, 1) ∧ decode cX6_hurtsOf 13 = .ok (.invokevirtual 180, 3) := by decide +kernel
theorem dX6_hurtsOf_0 : decode cX6_hurtsOf 0 = .ok (.aload_n 0, 1) := zd02dec3_125.1
theorem dX6_hurtsOf_1 : decode cX6_hurtsOf 1 = .ok (.getfield 19, 3) := zd02dec3_125.2.1
theorem dX6_hurtsOf_4 : decode cX6_hurtsOf 4 = .ok (.iconst 3, 1) := zd02dec3_125.2.2.1
theorem dX6_hurtsOf_5 : decode cX6_hurtsOf 5 = .ok (.iload_n 1, 1) := zd02dec3_125.2.2.2.1
theorem dX6_hurtsOf_6 : decode cX6_hurtsOf 6 = .ok (.imul, 1) := zd02dec3_125.2.2.2.2.1
theorem dX6_hurtsOf_7 : decode cX6_hurtsOf 7 = .ok (.iaload, 1) := zd02dec3_125.2.2.2.2.2.1
theorem dX6_hurtsOf_8 : decode cX6_hurtsOf 8 = .ok (.istore_n 3, 1) := zd02dec3_125.2.2.2.2.2.2.1
theorem dX6_hurtsOf_9 : decode cX6_hurtsOf 9 = .ok (.aload_n 0, 1) := zd02dec3_125.2.2.2.2.2.2.2.1
theorem dX6_hurtsOf_10 : decode cX6_hurtsOf 10 = .ok (.iconst 0, 1) := zd02dec3_125.2.2.2.2.2.2.2.2.1
theorem dX6_hurtsOf_11 : decode cX6_hurtsOf 11 = .ok (.iload_n 1, 1) := zd02dec3_125.2.2.2.2.2.2.2.2.2.1
theorem dX6_hurtsOf_12 : decode cX6_hurtsOf 12 = .ok (.iload_n 2, 1) := zd02dec3_125.2.2.2.2.2.2.2.2.2.2.1
theorem dX6_hurtsOf_13 : decode cX6_hurtsOf 13 = .ok (.invokevirtual 180, 3) := zd02dec3_125.2.2.2.2.2.2.2.2.2.2.2
theorem zd02dec3_126 : decode cX6_hurtsOf 16 = .ok (.istore 4, 2) ∧ decode cX6_hurtsOf 18 = .ok (.aload_n 0, 1) ∧ decode cX6_hurtsOf 19 = .ok (.getfield 13, 3) ∧ decode cX6_hurtsOf 22 = .ok (.iload_n 2, 1) ∧ decode cX6_hurtsOf 23 = .ok (.iaload, 1) ∧ decode cX6_hurtsOf 24 = .ok (.istore 5, 2) ∧ decode cX6_hurtsOf 26 = .ok (.iload 4, 2) ∧ decode cX6_hurtsOf 28 = .ok (.iload_n 3, 1) ∧ decode cX6_hurtsOf 29 = .ok (.isub, 1) ∧ decode cX6_hurtsOf 30 = .ok (.istore 6, 2) ∧ decode cX6_hurtsOf 32 = .ok (.aload_n 0, 1) ∧ decode cX6_hurtsOf 33 = .ok (.getfield 7, 3) := by decide +kernel
theorem dX6_hurtsOf_16 : decode cX6_hurtsOf 16 = .ok (.istore 4, 2) := zd02dec3_126.1
theorem dX6_hurtsOf_18 : decode cX6_hurtsOf 18 = .ok (.aload_n 0, 1) := zd02dec3_126.2.1
theorem dX6_hurtsOf_19 : decode cX6_hurtsOf 19 = .ok (.getfield 13, 3) := zd02dec3_126.2.2.1
theorem dX6_hurtsOf_22 : decode cX6_hurtsOf 22 = .ok (.iload_n 2, 1) := zd02dec3_126.2.2.2.1
theorem dX6_hurtsOf_23 : decode cX6_hurtsOf 23 = .ok (.iaload, 1) := zd02dec3_126.2.2.2.2.1
theorem dX6_hurtsOf_24 : decode cX6_hurtsOf 24 = .ok (.istore 5, 2) := zd02dec3_126.2.2.2.2.2.1
theorem dX6_hurtsOf_26 : decode cX6_hurtsOf 26 = .ok (.iload 4, 2) := zd02dec3_126.2.2.2.2.2.2.1
theorem dX6_hurtsOf_28 : decode cX6_hurtsOf 28 = .ok (.iload_n 3, 1) := zd02dec3_126.2.2.2.2.2.2.2.1
theorem dX6_hurtsOf_29 : decode cX6_hurtsOf 29 = .ok (.isub, 1) := zd02dec3_126.2.2.2.2.2.2.2.2.1
theorem dX6_hurtsOf_30 : decode cX6_hurtsOf 30 = .ok (.istore 6, 2) := zd02dec3_126.2.2.2.2.2.2.2.2.2.1
theorem dX6_hurtsOf_32 : decode cX6_hurtsOf 32 = .ok (.aload_n 0, 1) := zd02dec3_126.2.2.2.2.2.2.2.2.2.2.1
theorem dX6_hurtsOf_33 : decode cX6_hurtsOf 33 = .ok (.getfield 7, 3) := zd02dec3_126.2.2.2.2.2.2.2.2.2.2.2
theorem zd02dec3_127 : decode cX6_hurtsOf 36 = .ok (.iload_n 2, 1) ∧ decode cX6_hurtsOf 37 = .ok (.iaload, 1) ∧ decode cX6_hurtsOf 38 = .ok (.tableswitch 92 1 5 #[34, 92, 44, 69, 78], 34) ∧ decode cX6_hurtsOf 72 = .ok (.iload 6, 2) ∧ decode cX6_hurtsOf 74 = .ok (.iload 5, 2) ∧ decode cX6_hurtsOf 76 = .ok (.iadd, 1) ∧ decode cX6_hurtsOf 77 = .ok (.istore 6, 2) ∧ decode cX6_hurtsOf 79 = .ok (.goto 51, 3) ∧ decode cX6_hurtsOf 82 = .ok (.iload_n 3, 1) ∧ decode cX6_hurtsOf 83 = .ok (.iconst 5, 1) ∧ decode cX6_hurtsOf 84 = .ok (.if_icmp .ge 13, 3) ∧ decode cX6_hurtsOf 87 = .ok (.iconst 2, 1) := by decide +kernel
theorem dX6_hurtsOf_36 : decode cX6_hurtsOf 36 = .ok (.iload_n 2, 1) := zd02dec3_127.1
theorem dX6_hurtsOf_37 : decode cX6_hurtsOf 37 = .ok (.iaload, 1) := zd02dec3_127.2.1
theorem dX6_hurtsOf_38 : decode cX6_hurtsOf 38 = .ok (.tableswitch 92 1 5 #[34, 92, 44, 69, 78], 34) := zd02dec3_127.2.2.1
theorem dX6_hurtsOf_72 : decode cX6_hurtsOf 72 = .ok (.iload 6, 2) := zd02dec3_127.2.2.2.1
theorem dX6_hurtsOf_74 : decode cX6_hurtsOf 74 = .ok (.iload 5, 2) := zd02dec3_127.2.2.2.2.1
theorem dX6_hurtsOf_76 : decode cX6_hurtsOf 76 = .ok (.iadd, 1) := zd02dec3_127.2.2.2.2.2.1
theorem dX6_hurtsOf_77 : decode cX6_hurtsOf 77 = .ok (.istore 6, 2) := zd02dec3_127.2.2.2.2.2.2.1
theorem dX6_hurtsOf_79 : decode cX6_hurtsOf 79 = .ok (.goto 51, 3) := zd02dec3_127.2.2.2.2.2.2.2.1
theorem dX6_hurtsOf_82 : decode cX6_hurtsOf 82 = .ok (.iload_n 3, 1) := zd02dec3_127.2.2.2.2.2.2.2.2.1
theorem dX6_hurtsOf_83 : decode cX6_hurtsOf 83 = .ok (.iconst 5, 1) := zd02dec3_127.2.2.2.2.2.2.2.2.2.1
theorem dX6_hurtsOf_84 : decode cX6_hurtsOf 84 = .ok (.if_icmp .ge 13, 3) := zd02dec3_127.2.2.2.2.2.2.2.2.2.2.1
theorem dX6_hurtsOf_87 : decode cX6_hurtsOf 87 = .ok (.iconst 2, 1) := zd02dec3_127.2.2.2.2.2.2.2.2.2.2.2
theorem zd02dec3_128 : decode cX6_hurtsOf 88 = .ok (.iload 6, 2) ∧ decode cX6_hurtsOf 90 = .ok (.iload 5, 2) ∧ decode cX6_hurtsOf 92 = .ok (.iadd, 1) ∧ decode cX6_hurtsOf 93 = .ok (.imul, 1) ∧ decode cX6_hurtsOf 94 = .ok (.goto 8, 3) ∧ decode cX6_hurtsOf 97 = .ok (.iload 6, 2) ∧ decode cX6_hurtsOf 99 = .ok (.iload 5, 2) ∧ decode cX6_hurtsOf 101 = .ok (.iadd, 1) ∧ decode cX6_hurtsOf 102 = .ok (.istore 6, 2) ∧ decode cX6_hurtsOf 104 = .ok (.goto 26, 3) ∧ decode cX6_hurtsOf 107 = .ok (.iload 6, 2) ∧ decode cX6_hurtsOf 109 = .ok (.iconst 2, 1) := by decide +kernel
theorem dX6_hurtsOf_88 : decode cX6_hurtsOf 88 = .ok (.iload 6, 2) := zd02dec3_128.1
theorem dX6_hurtsOf_90 : decode cX6_hurtsOf 90 = .ok (.iload 5, 2) := zd02dec3_128.2.1
theorem dX6_hurtsOf_92 : decode cX6_hurtsOf 92 = .ok (.iadd, 1) := zd02dec3_128.2.2.1
theorem dX6_hurtsOf_93 : decode cX6_hurtsOf 93 = .ok (.imul, 1) := zd02dec3_128.2.2.2.1
theorem dX6_hurtsOf_94 : decode cX6_hurtsOf 94 = .ok (.goto 8, 3) := zd02dec3_128.2.2.2.2.1
theorem dX6_hurtsOf_97 : decode cX6_hurtsOf 97 = .ok (.iload 6, 2) := zd02dec3_128.2.2.2.2.2.1
theorem dX6_hurtsOf_99 : decode cX6_hurtsOf 99 = .ok (.iload 5, 2) := zd02dec3_128.2.2.2.2.2.2.1
theorem dX6_hurtsOf_101 : decode cX6_hurtsOf 101 = .ok (.iadd, 1) := zd02dec3_128.2.2.2.2.2.2.2.1
theorem dX6_hurtsOf_102 : decode cX6_hurtsOf 102 = .ok (.istore 6, 2) := zd02dec3_128.2.2.2.2.2.2.2.2.1
theorem dX6_hurtsOf_104 : decode cX6_hurtsOf 104 = .ok (.goto 26, 3) := zd02dec3_128.2.2.2.2.2.2.2.2.2.1
theorem dX6_hurtsOf_107 : decode cX6_hurtsOf 107 = .ok (.iload 6, 2) := zd02dec3_128.2.2.2.2.2.2.2.2.2.2.1
theorem dX6_hurtsOf_109 : decode cX6_hurtsOf 109 = .ok (.iconst 2, 1) := zd02dec3_128.2.2.2.2.2.2.2.2.2.2.2
theorem zd02dec3_129 : decode cX6_hurtsOf 110 = .ok (.idiv, 1) ∧ decode cX6_hurtsOf 111 = .ok (.istore 6, 2) ∧ decode cX6_hurtsOf 113 = .ok (.goto 17, 3) ∧ decode cX6_hurtsOf 116 = .ok (.iload 4, 2) ∧ decode cX6_hurtsOf 118 = .ok (.iload_n 3, 1) ∧ decode cX6_hurtsOf 119 = .ok (.iload 5, 2) ∧ decode cX6_hurtsOf 121 = .ok (.imul, 1) ∧ decode cX6_hurtsOf 122 = .ok (.iconst 4, 1) ∧ decode cX6_hurtsOf 123 = .ok (.idiv, 1) ∧ decode cX6_hurtsOf 124 = .ok (.isub, 1) ∧ decode cX6_hurtsOf 125 = .ok (.istore 6, 2) ∧ decode cX6_hurtsOf 127 = .ok (.goto 3, 3) := by decide +kernel
theorem dX6_hurtsOf_110 : decode cX6_hurtsOf 110 = .ok (.idiv, 1) := zd02dec3_129.1
theorem dX6_hurtsOf_111 : decode cX6_hurtsOf 111 = .ok (.istore 6, 2) := zd02dec3_129.2.1
theorem dX6_hurtsOf_113 : decode cX6_hurtsOf 113 = .ok (.goto 17, 3) := zd02dec3_129.2.2.1
theorem dX6_hurtsOf_116 : decode cX6_hurtsOf 116 = .ok (.iload 4, 2) := zd02dec3_129.2.2.2.1
theorem dX6_hurtsOf_118 : decode cX6_hurtsOf 118 = .ok (.iload_n 3, 1) := zd02dec3_129.2.2.2.2.1
theorem dX6_hurtsOf_119 : decode cX6_hurtsOf 119 = .ok (.iload 5, 2) := zd02dec3_129.2.2.2.2.2.1
theorem dX6_hurtsOf_121 : decode cX6_hurtsOf 121 = .ok (.imul, 1) := zd02dec3_129.2.2.2.2.2.2.1
theorem dX6_hurtsOf_122 : decode cX6_hurtsOf 122 = .ok (.iconst 4, 1) := zd02dec3_129.2.2.2.2.2.2.2.1
theorem dX6_hurtsOf_123 : decode cX6_hurtsOf 123 = .ok (.idiv, 1) := zd02dec3_129.2.2.2.2.2.2.2.2.1
theorem dX6_hurtsOf_124 : decode cX6_hurtsOf 124 = .ok (.isub, 1) := zd02dec3_129.2.2.2.2.2.2.2.2.2.1
theorem dX6_hurtsOf_125 : decode cX6_hurtsOf 125 = .ok (.istore 6, 2) := zd02dec3_129.2.2.2.2.2.2.2.2.2.2.1
theorem dX6_hurtsOf_127 : decode cX6_hurtsOf 127 = .ok (.goto 3, 3) := zd02dec3_129.2.2.2.2.2.2.2.2.2.2.2
theorem zd02dec3_130 : decode cX6_hurtsOf 130 = .ok (.iload 6, 2) ∧ decode cX6_hurtsOf 132 = .ok (.ifCond .ge 7, 3) ∧ decode cX6_hurtsOf 135 = .ok (.iconst 0, 1) ∧ decode cX6_hurtsOf 136 = .ok (.goto 5, 3) ∧ decode cX6_hurtsOf 139 = .ok (.iload 6, 2) ∧ decode cX6_hurtsOf 141 = .ok (.ireturn, 1) := by decide +kernel
theorem dX6_hurtsOf_130 : decode cX6_hurtsOf 130 = .ok (.iload 6, 2) := zd02dec3_130.1
theorem dX6_hurtsOf_132 : decode cX6_hurtsOf 132 = .ok (.ifCond .ge 7, 3) := zd02dec3_130.2.1
theorem dX6_hurtsOf_135 : decode cX6_hurtsOf 135 = .ok (.iconst 0, 1) := zd02dec3_130.2.2.1
theorem dX6_hurtsOf_136 : decode cX6_hurtsOf 136 = .ok (.goto 5, 3) := zd02dec3_130.2.2.2.1
theorem dX6_hurtsOf_139 : decode cX6_hurtsOf 139 = .ok (.iload 6, 2) := zd02dec3_130.2.2.2.2.1
theorem dX6_hurtsOf_141 : decode cX6_hurtsOf 141 = .ok (.ireturn, 1) := zd02dec3_130.2.2.2.2.2
theorem zd02dec3_131 : decode cX6_wearsOf 0 = .ok (.aload_n 0, 1) ∧ decode cX6_wearsOf 1 = .ok (.iconst 1, 1) ∧ decode cX6_wearsOf 2 = .ok (.iload_n 1, 1) ∧ decode cX6_wearsOf 3 = .ok (.iload_n 2, 1) ∧ decode cX6_wearsOf 4 = .ok (.invokevirtual 180, 3) ∧ decode cX6_wearsOf 7 = .ok (.istore_n 3, 1) ∧ decode cX6_wearsOf 8 = .ok (.aload_n 0, 1) ∧ decode cX6_wearsOf 9 = .ok (.getfield 7, 3) ∧ decode cX6_wearsOf 12 = .ok (.iload_n 2, 1) ∧ decode cX6_wearsOf 13 = .ok (.iaload, 1) ∧ decode cX6_wearsOf 14 = .ok (.tableswitch 47 2 4 #[26, 30, 34], 26) ∧ decode cX6_wearsOf 40 = .ok (.iconst 2, 1) := by decide +kernel
theorem dX6_wearsOf_0 : decode cX6_wearsOf 0 = .ok (.aload_n 0, 1) := zd02dec3_131.1
theorem dX6_wearsOf_1 : decode cX6_wearsOf 1 = .ok (.iconst 1, 1) := zd02dec3_131.2.1
theorem dX6_wearsOf_2 : decode cX6_wearsOf 2 = .ok (.iload_n 1, 1) := zd02dec3_131.2.2.1
theorem dX6_wearsOf_3 : decode cX6_wearsOf 3 = .ok (.iload_n 2, 1) := zd02dec3_131.2.2.2.1
theorem dX6_wearsOf_4 : decode cX6_wearsOf 4 = .ok (.invokevirtual 180, 3) := zd02dec3_131.2.2.2.2.1
theorem dX6_wearsOf_7 : decode cX6_wearsOf 7 = .ok (.istore_n 3, 1) := zd02dec3_131.2.2.2.2.2.1
theorem dX6_wearsOf_8 : decode cX6_wearsOf 8 = .ok (.aload_n 0, 1) := zd02dec3_131.2.2.2.2.2.2.1
theorem dX6_wearsOf_9 : decode cX6_wearsOf 9 = .ok (.getfield 7, 3) := zd02dec3_131.2.2.2.2.2.2.2.1
theorem dX6_wearsOf_12 : decode cX6_wearsOf 12 = .ok (.iload_n 2, 1) := zd02dec3_131.2.2.2.2.2.2.2.2.1
theorem dX6_wearsOf_13 : decode cX6_wearsOf 13 = .ok (.iaload, 1) := zd02dec3_131.2.2.2.2.2.2.2.2.2.1
theorem dX6_wearsOf_14 : decode cX6_wearsOf 14 = .ok (.tableswitch 47 2 4 #[26, 30, 34], 26) := zd02dec3_131.2.2.2.2.2.2.2.2.2.2.1
theorem dX6_wearsOf_40 : decode cX6_wearsOf 40 = .ok (.iconst 2, 1) := zd02dec3_131.2.2.2.2.2.2.2.2.2.2.2
theorem zd02dec3_132 : decode cX6_wearsOf 41 = .ok (.iload_n 3, 1) ∧ decode cX6_wearsOf 42 = .ok (.imul, 1) ∧ decode cX6_wearsOf 43 = .ok (.ireturn, 1) ∧ decode cX6_wearsOf 44 = .ok (.iload_n 3, 1) ∧ decode cX6_wearsOf 45 = .ok (.iconst 2, 1) ∧ decode cX6_wearsOf 46 = .ok (.idiv, 1) ∧ decode cX6_wearsOf 47 = .ok (.ireturn, 1) ∧ decode cX6_wearsOf 48 = .ok (.iload_n 3, 1) ∧ decode cX6_wearsOf 49 = .ok (.iconst 5, 1) ∧ decode cX6_wearsOf 50 = .ok (.if_icmp .gt 7, 3) ∧ decode cX6_wearsOf 53 = .ok (.iconst 0, 1) ∧ decode cX6_wearsOf 54 = .ok (.goto 6, 3) := by decide +kernel
theorem dX6_wearsOf_41 : decode cX6_wearsOf 41 = .ok (.iload_n 3, 1) := zd02dec3_132.1
theorem dX6_wearsOf_42 : decode cX6_wearsOf 42 = .ok (.imul, 1) := zd02dec3_132.2.1
theorem dX6_wearsOf_43 : decode cX6_wearsOf 43 = .ok (.ireturn, 1) := zd02dec3_132.2.2.1
theorem dX6_wearsOf_44 : decode cX6_wearsOf 44 = .ok (.iload_n 3, 1) := zd02dec3_132.2.2.2.1
theorem dX6_wearsOf_45 : decode cX6_wearsOf 45 = .ok (.iconst 2, 1) := zd02dec3_132.2.2.2.2.1
theorem dX6_wearsOf_46 : decode cX6_wearsOf 46 = .ok (.idiv, 1) := zd02dec3_132.2.2.2.2.2.1
theorem dX6_wearsOf_47 : decode cX6_wearsOf 47 = .ok (.ireturn, 1) := zd02dec3_132.2.2.2.2.2.2.1
theorem dX6_wearsOf_48 : decode cX6_wearsOf 48 = .ok (.iload_n 3, 1) := zd02dec3_132.2.2.2.2.2.2.2.1
theorem dX6_wearsOf_49 : decode cX6_wearsOf 49 = .ok (.iconst 5, 1) := zd02dec3_132.2.2.2.2.2.2.2.2.1
theorem dX6_wearsOf_50 : decode cX6_wearsOf 50 = .ok (.if_icmp .gt 7, 3) := zd02dec3_132.2.2.2.2.2.2.2.2.2.1
theorem dX6_wearsOf_53 : decode cX6_wearsOf 53 = .ok (.iconst 0, 1) := zd02dec3_132.2.2.2.2.2.2.2.2.2.2.1
theorem dX6_wearsOf_54 : decode cX6_wearsOf 54 = .ok (.goto 6, 3) := zd02dec3_132.2.2.2.2.2.2.2.2.2.2.2
theorem zd02dec3_133 : decode cX6_wearsOf 57 = .ok (.iconst 2, 1) ∧ decode cX6_wearsOf 58 = .ok (.iload_n 3, 1) ∧ decode cX6_wearsOf 59 = .ok (.imul, 1) ∧ decode cX6_wearsOf 60 = .ok (.ireturn, 1) ∧ decode cX6_wearsOf 61 = .ok (.iload_n 3, 1) ∧ decode cX6_wearsOf 62 = .ok (.ireturn, 1) := by decide +kernel
theorem dX6_wearsOf_57 : decode cX6_wearsOf 57 = .ok (.iconst 2, 1) := zd02dec3_133.1
theorem dX6_wearsOf_58 : decode cX6_wearsOf 58 = .ok (.iload_n 3, 1) := zd02dec3_133.2.1
theorem dX6_wearsOf_59 : decode cX6_wearsOf 59 = .ok (.imul, 1) := zd02dec3_133.2.2.1
theorem dX6_wearsOf_60 : decode cX6_wearsOf 60 = .ok (.ireturn, 1) := zd02dec3_133.2.2.2.1
theorem dX6_wearsOf_61 : decode cX6_wearsOf 61 = .ok (.iload_n 3, 1) := zd02dec3_133.2.2.2.2.1
theorem dX6_wearsOf_62 : decode cX6_wearsOf 62 = .ok (.ireturn, 1) := zd02dec3_133.2.2.2.2.2
theorem zd02dec3_134 : decode cX6_mile 0 = .ok (.iconst 0, 1) ∧ decode cX6_mile 1 = .ok (.istore 4, 2) ∧ decode cX6_mile 3 = .ok (.aload_n 0, 1) ∧ decode cX6_mile 4 = .ok (.iload_n 2, 1) ∧ decode cX6_mile 5 = .ok (.invokevirtual 183, 3) ∧ decode cX6_mile 8 = .ok (.ifCond .ne 75, 3) ∧ decode cX6_mile 11 = .ok (.aload_n 0, 1) ∧ decode cX6_mile 12 = .ok (.iload_n 1, 1) ∧ decode cX6_mile 13 = .ok (.iload_n 2, 1) ∧ decode cX6_mile 14 = .ok (.invokevirtual 186, 3) ∧ decode cX6_mile 17 = .ok (.istore 4, 2) ∧ decode cX6_mile 19 = .ok (.aload_n 0, 1) := by decide +kernel
theorem dX6_mile_0 : decode cX6_mile 0 = .ok (.iconst 0, 1) := zd02dec3_134.1
theorem dX6_mile_1 : decode cX6_mile 1 = .ok (.istore 4, 2) := zd02dec3_134.2.1
theorem dX6_mile_3 : decode cX6_mile 3 = .ok (.aload_n 0, 1) := zd02dec3_134.2.2.1
theorem dX6_mile_4 : decode cX6_mile 4 = .ok (.iload_n 2, 1) := zd02dec3_134.2.2.2.1
theorem dX6_mile_5 : decode cX6_mile 5 = .ok (.invokevirtual 183, 3) := zd02dec3_134.2.2.2.2.1
theorem dX6_mile_8 : decode cX6_mile 8 = .ok (.ifCond .ne 75, 3) := zd02dec3_134.2.2.2.2.2.1
theorem dX6_mile_11 : decode cX6_mile 11 = .ok (.aload_n 0, 1) := zd02dec3_134.2.2.2.2.2.2.1
theorem dX6_mile_12 : decode cX6_mile 12 = .ok (.iload_n 1, 1) := zd02dec3_134.2.2.2.2.2.2.2.1
theorem dX6_mile_13 : decode cX6_mile 13 = .ok (.iload_n 2, 1) := zd02dec3_134.2.2.2.2.2.2.2.2.1
theorem dX6_mile_14 : decode cX6_mile 14 = .ok (.invokevirtual 186, 3) := zd02dec3_134.2.2.2.2.2.2.2.2.2.1
theorem dX6_mile_17 : decode cX6_mile 17 = .ok (.istore 4, 2) := zd02dec3_134.2.2.2.2.2.2.2.2.2.2.1
theorem dX6_mile_19 : decode cX6_mile 19 = .ok (.aload_n 0, 1) := zd02dec3_134.2.2.2.2.2.2.2.2.2.2.2
theorem zd02dec3_135 : decode cX6_mile 20 = .ok (.iload_n 1, 1) ∧ decode cX6_mile 21 = .ok (.iload_n 2, 1) ∧ decode cX6_mile 22 = .ok (.invokevirtual 189, 3) ∧ decode cX6_mile 25 = .ok (.iload_n 3, 1) ∧ decode cX6_mile 26 = .ok (.iadd, 1) ∧ decode cX6_mile 27 = .ok (.istore 5, 2) ∧ decode cX6_mile 29 = .ok (.aload_n 0, 1) ∧ decode cX6_mile 30 = .ok (.getfield 19, 3) ∧ decode cX6_mile 33 = .ok (.iconst 3, 1) ∧ decode cX6_mile 34 = .ok (.iload_n 1, 1) ∧ decode cX6_mile 35 = .ok (.imul, 1) ∧ decode cX6_mile 36 = .ok (.iconst 2, 1) := by decide +kernel
theorem dX6_mile_20 : decode cX6_mile 20 = .ok (.iload_n 1, 1) := zd02dec3_135.1
theorem dX6_mile_21 : decode cX6_mile 21 = .ok (.iload_n 2, 1) := zd02dec3_135.2.1
theorem dX6_mile_22 : decode cX6_mile 22 = .ok (.invokevirtual 189, 3) := zd02dec3_135.2.2.1
theorem dX6_mile_25 : decode cX6_mile 25 = .ok (.iload_n 3, 1) := zd02dec3_135.2.2.2.1
theorem dX6_mile_26 : decode cX6_mile 26 = .ok (.iadd, 1) := zd02dec3_135.2.2.2.2.1
theorem dX6_mile_27 : decode cX6_mile 27 = .ok (.istore 5, 2) := zd02dec3_135.2.2.2.2.2.1
theorem dX6_mile_29 : decode cX6_mile 29 = .ok (.aload_n 0, 1) := zd02dec3_135.2.2.2.2.2.2.1
theorem dX6_mile_30 : decode cX6_mile 30 = .ok (.getfield 19, 3) := zd02dec3_135.2.2.2.2.2.2.2.1
theorem dX6_mile_33 : decode cX6_mile 33 = .ok (.iconst 3, 1) := zd02dec3_135.2.2.2.2.2.2.2.2.1
theorem dX6_mile_34 : decode cX6_mile 34 = .ok (.iload_n 1, 1) := zd02dec3_135.2.2.2.2.2.2.2.2.2.1
theorem dX6_mile_35 : decode cX6_mile 35 = .ok (.imul, 1) := zd02dec3_135.2.2.2.2.2.2.2.2.2.2.1
theorem dX6_mile_36 : decode cX6_mile 36 = .ok (.iconst 2, 1) := zd02dec3_135.2.2.2.2.2.2.2.2.2.2.2
theorem zd02dec3_136 : decode cX6_mile 37 = .ok (.iadd, 1) ∧ decode cX6_mile 38 = .ok (.aload_n 0, 1) ∧ decode cX6_mile 39 = .ok (.getfield 19, 3) ∧ decode cX6_mile 42 = .ok (.iconst 3, 1) ∧ decode cX6_mile 43 = .ok (.iload_n 1, 1) ∧ decode cX6_mile 44 = .ok (.imul, 1) ∧ decode cX6_mile 45 = .ok (.iconst 2, 1) ∧ decode cX6_mile 46 = .ok (.iadd, 1) ∧ decode cX6_mile 47 = .ok (.iaload, 1) ∧ decode cX6_mile 48 = .ok (.iload 4, 2) ∧ decode cX6_mile 50 = .ok (.iadd, 1) ∧ decode cX6_mile 51 = .ok (.iconst 0, 1) := by decide +kernel
theorem dX6_mile_37 : decode cX6_mile 37 = .ok (.iadd, 1) := zd02dec3_136.1
theorem dX6_mile_38 : decode cX6_mile 38 = .ok (.aload_n 0, 1) := zd02dec3_136.2.1
theorem dX6_mile_39 : decode cX6_mile 39 = .ok (.getfield 19, 3) := zd02dec3_136.2.2.1
theorem dX6_mile_42 : decode cX6_mile 42 = .ok (.iconst 3, 1) := zd02dec3_136.2.2.2.1
theorem dX6_mile_43 : decode cX6_mile 43 = .ok (.iload_n 1, 1) := zd02dec3_136.2.2.2.2.1
theorem dX6_mile_44 : decode cX6_mile 44 = .ok (.imul, 1) := zd02dec3_136.2.2.2.2.2.1
theorem dX6_mile_45 : decode cX6_mile 45 = .ok (.iconst 2, 1) := zd02dec3_136.2.2.2.2.2.2.1
theorem dX6_mile_46 : decode cX6_mile 46 = .ok (.iadd, 1) := zd02dec3_136.2.2.2.2.2.2.2.1
theorem dX6_mile_47 : decode cX6_mile 47 = .ok (.iaload, 1) := zd02dec3_136.2.2.2.2.2.2.2.2.1
theorem dX6_mile_48 : decode cX6_mile 48 = .ok (.iload 4, 2) := zd02dec3_136.2.2.2.2.2.2.2.2.2.1
theorem dX6_mile_50 : decode cX6_mile 50 = .ok (.iadd, 1) := zd02dec3_136.2.2.2.2.2.2.2.2.2.2.1
theorem dX6_mile_51 : decode cX6_mile 51 = .ok (.iconst 0, 1) := zd02dec3_136.2.2.2.2.2.2.2.2.2.2.2
theorem zd02dec3_137 : decode cX6_mile 52 = .ok (.ldc 192, 2) ∧ decode cX6_mile 54 = .ok (.invokestatic 174, 3) ∧ decode cX6_mile 57 = .ok (.iastore, 1) ∧ decode cX6_mile 58 = .ok (.aload_n 0, 1) ∧ decode cX6_mile 59 = .ok (.getfield 16, 3) ∧ decode cX6_mile 62 = .ok (.iconst 2, 1) ∧ decode cX6_mile 63 = .ok (.iload_n 2, 1) ∧ decode cX6_mile 64 = .ok (.imul, 1) ∧ decode cX6_mile 65 = .ok (.aload_n 0, 1) ∧ decode cX6_mile 66 = .ok (.getfield 16, 3) ∧ decode cX6_mile 69 = .ok (.iconst 2, 1) ∧ decode cX6_mile 70 = .ok (.iload_n 2, 1) := by decide +kernel
theorem dX6_mile_52 : decode cX6_mile 52 = .ok (.ldc 192, 2) := zd02dec3_137.1
theorem dX6_mile_54 : decode cX6_mile 54 = .ok (.invokestatic 174, 3) := zd02dec3_137.2.1
theorem dX6_mile_57 : decode cX6_mile 57 = .ok (.iastore, 1) := zd02dec3_137.2.2.1
theorem dX6_mile_58 : decode cX6_mile 58 = .ok (.aload_n 0, 1) := zd02dec3_137.2.2.2.1
theorem dX6_mile_59 : decode cX6_mile 59 = .ok (.getfield 16, 3) := zd02dec3_137.2.2.2.2.1
theorem dX6_mile_62 : decode cX6_mile 62 = .ok (.iconst 2, 1) := zd02dec3_137.2.2.2.2.2.1
theorem dX6_mile_63 : decode cX6_mile 63 = .ok (.iload_n 2, 1) := zd02dec3_137.2.2.2.2.2.2.1
theorem dX6_mile_64 : decode cX6_mile 64 = .ok (.imul, 1) := zd02dec3_137.2.2.2.2.2.2.2.1
theorem dX6_mile_65 : decode cX6_mile 65 = .ok (.aload_n 0, 1) := zd02dec3_137.2.2.2.2.2.2.2.2.1
theorem dX6_mile_66 : decode cX6_mile 66 = .ok (.getfield 16, 3) := zd02dec3_137.2.2.2.2.2.2.2.2.2.1
theorem dX6_mile_69 : decode cX6_mile 69 = .ok (.iconst 2, 1) := zd02dec3_137.2.2.2.2.2.2.2.2.2.2.1
theorem dX6_mile_70 : decode cX6_mile 70 = .ok (.iload_n 2, 1) := zd02dec3_137.2.2.2.2.2.2.2.2.2.2.2
theorem zd02dec3_138 : decode cX6_mile 71 = .ok (.imul, 1) ∧ decode cX6_mile 72 = .ok (.iaload, 1) ∧ decode cX6_mile 73 = .ok (.iload 5, 2) ∧ decode cX6_mile 75 = .ok (.isub, 1) ∧ decode cX6_mile 76 = .ok (.iconst 0, 1) ∧ decode cX6_mile 77 = .ok (.bipush 99, 2) ∧ decode cX6_mile 79 = .ok (.invokestatic 174, 3) ∧ decode cX6_mile 82 = .ok (.iastore, 1) ∧ decode cX6_mile 83 = .ok (.aload_n 0, 1) ∧ decode cX6_mile 84 = .ok (.getfield 19, 3) ∧ decode cX6_mile 87 = .ok (.iconst 3, 1) ∧ decode cX6_mile 88 = .ok (.iload_n 1, 1) := by decide +kernel
theorem dX6_mile_71 : decode cX6_mile 71 = .ok (.imul, 1) := zd02dec3_138.1
theorem dX6_mile_72 : decode cX6_mile 72 = .ok (.iaload, 1) := zd02dec3_138.2.1
theorem dX6_mile_73 : decode cX6_mile 73 = .ok (.iload 5, 2) := zd02dec3_138.2.2.1
theorem dX6_mile_75 : decode cX6_mile 75 = .ok (.isub, 1) := zd02dec3_138.2.2.2.1
theorem dX6_mile_76 : decode cX6_mile 76 = .ok (.iconst 0, 1) := zd02dec3_138.2.2.2.2.1
theorem dX6_mile_77 : decode cX6_mile 77 = .ok (.bipush 99, 2) := zd02dec3_138.2.2.2.2.2.1
theorem dX6_mile_79 : decode cX6_mile 79 = .ok (.invokestatic 174, 3) := zd02dec3_138.2.2.2.2.2.2.1
theorem dX6_mile_82 : decode cX6_mile 82 = .ok (.iastore, 1) := zd02dec3_138.2.2.2.2.2.2.2.1
theorem dX6_mile_83 : decode cX6_mile 83 = .ok (.aload_n 0, 1) := zd02dec3_138.2.2.2.2.2.2.2.2.1
theorem dX6_mile_84 : decode cX6_mile 84 = .ok (.getfield 19, 3) := zd02dec3_138.2.2.2.2.2.2.2.2.2.1
theorem dX6_mile_87 : decode cX6_mile 87 = .ok (.iconst 3, 1) := zd02dec3_138.2.2.2.2.2.2.2.2.2.2.1
theorem dX6_mile_88 : decode cX6_mile 88 = .ok (.iload_n 1, 1) := zd02dec3_138.2.2.2.2.2.2.2.2.2.2.2
theorem zd02dec3_139 : decode cX6_mile 89 = .ok (.imul, 1) ∧ decode cX6_mile 90 = .ok (.iconst 1, 1) ∧ decode cX6_mile 91 = .ok (.iadd, 1) ∧ decode cX6_mile 92 = .ok (.dup2, 1) ∧ decode cX6_mile 93 = .ok (.iaload, 1) ∧ decode cX6_mile 94 = .ok (.iconst 1, 1) ∧ decode cX6_mile 95 = .ok (.iadd, 1) ∧ decode cX6_mile 96 = .ok (.iastore, 1) ∧ decode cX6_mile 97 = .ok (.aload_n 0, 1) ∧ decode cX6_mile 98 = .ok (.getfield 19, 3) ∧ decode cX6_mile 101 = .ok (.iconst 3, 1) ∧ decode cX6_mile 102 = .ok (.iload_n 1, 1) := by decide +kernel
theorem dX6_mile_89 : decode cX6_mile 89 = .ok (.imul, 1) := zd02dec3_139.1
theorem dX6_mile_90 : decode cX6_mile 90 = .ok (.iconst 1, 1) := zd02dec3_139.2.1
theorem dX6_mile_91 : decode cX6_mile 91 = .ok (.iadd, 1) := zd02dec3_139.2.2.1
theorem dX6_mile_92 : decode cX6_mile 92 = .ok (.dup2, 1) := zd02dec3_139.2.2.2.1
theorem dX6_mile_93 : decode cX6_mile 93 = .ok (.iaload, 1) := zd02dec3_139.2.2.2.2.1
theorem dX6_mile_94 : decode cX6_mile 94 = .ok (.iconst 1, 1) := zd02dec3_139.2.2.2.2.2.1
theorem dX6_mile_95 : decode cX6_mile 95 = .ok (.iadd, 1) := zd02dec3_139.2.2.2.2.2.2.1
theorem dX6_mile_96 : decode cX6_mile 96 = .ok (.iastore, 1) := zd02dec3_139.2.2.2.2.2.2.2.1
theorem dX6_mile_97 : decode cX6_mile 97 = .ok (.aload_n 0, 1) := zd02dec3_139.2.2.2.2.2.2.2.2.1
theorem dX6_mile_98 : decode cX6_mile 98 = .ok (.getfield 19, 3) := zd02dec3_139.2.2.2.2.2.2.2.2.2.1
theorem dX6_mile_101 : decode cX6_mile 101 = .ok (.iconst 3, 1) := zd02dec3_139.2.2.2.2.2.2.2.2.2.2.1
theorem dX6_mile_102 : decode cX6_mile 102 = .ok (.iload_n 1, 1) := zd02dec3_139.2.2.2.2.2.2.2.2.2.2.2
theorem zd02dec3_140 : decode cX6_mile 103 = .ok (.imul, 1) ∧ decode cX6_mile 104 = .ok (.aload_n 0, 1) ∧ decode cX6_mile 105 = .ok (.getfield 19, 3) ∧ decode cX6_mile 108 = .ok (.iconst 3, 1) ∧ decode cX6_mile 109 = .ok (.iload_n 1, 1) ∧ decode cX6_mile 110 = .ok (.imul, 1) ∧ decode cX6_mile 111 = .ok (.iconst 1, 1) ∧ decode cX6_mile 112 = .ok (.iadd, 1) ∧ decode cX6_mile 113 = .ok (.iaload, 1) ∧ decode cX6_mile 114 = .ok (.bipush 10, 2) ∧ decode cX6_mile 116 = .ok (.irem, 1) ∧ decode cX6_mile 117 = .ok (.ifCond .ne 22, 3) := by decide +kernel
theorem dX6_mile_103 : decode cX6_mile 103 = .ok (.imul, 1) := zd02dec3_140.1
theorem dX6_mile_104 : decode cX6_mile 104 = .ok (.aload_n 0, 1) := zd02dec3_140.2.1
theorem dX6_mile_105 : decode cX6_mile 105 = .ok (.getfield 19, 3) := zd02dec3_140.2.2.1
theorem dX6_mile_108 : decode cX6_mile 108 = .ok (.iconst 3, 1) := zd02dec3_140.2.2.2.1
theorem dX6_mile_109 : decode cX6_mile 109 = .ok (.iload_n 1, 1) := zd02dec3_140.2.2.2.2.1
theorem dX6_mile_110 : decode cX6_mile 110 = .ok (.imul, 1) := zd02dec3_140.2.2.2.2.2.1
theorem dX6_mile_111 : decode cX6_mile 111 = .ok (.iconst 1, 1) := zd02dec3_140.2.2.2.2.2.2.1
theorem dX6_mile_112 : decode cX6_mile 112 = .ok (.iadd, 1) := zd02dec3_140.2.2.2.2.2.2.2.1
theorem dX6_mile_113 : decode cX6_mile 113 = .ok (.iaload, 1) := zd02dec3_140.2.2.2.2.2.2.2.2.1
theorem dX6_mile_114 : decode cX6_mile 114 = .ok (.bipush 10, 2) := zd02dec3_140.2.2.2.2.2.2.2.2.2.1
theorem dX6_mile_116 : decode cX6_mile 116 = .ok (.irem, 1) := zd02dec3_140.2.2.2.2.2.2.2.2.2.2.1
theorem dX6_mile_117 : decode cX6_mile 117 = .ok (.ifCond .ne 22, 3) := zd02dec3_140.2.2.2.2.2.2.2.2.2.2.2
theorem zd02dec3_141 : decode cX6_mile 120 = .ok (.aload_n 0, 1) ∧ decode cX6_mile 121 = .ok (.getfield 19, 3) ∧ decode cX6_mile 124 = .ok (.iconst 3, 1) ∧ decode cX6_mile 125 = .ok (.iload_n 1, 1) ∧ decode cX6_mile 126 = .ok (.imul, 1) ∧ decode cX6_mile 127 = .ok (.iaload, 1) ∧ decode cX6_mile 128 = .ok (.iconst 1, 1) ∧ decode cX6_mile 129 = .ok (.iadd, 1) ∧ decode cX6_mile 130 = .ok (.iconst 0, 1) ∧ decode cX6_mile 131 = .ok (.bipush 20, 2) ∧ decode cX6_mile 133 = .ok (.invokestatic 174, 3) ∧ decode cX6_mile 136 = .ok (.goto 11, 3) := by decide +kernel
theorem dX6_mile_120 : decode cX6_mile 120 = .ok (.aload_n 0, 1) := zd02dec3_141.1
theorem dX6_mile_121 : decode cX6_mile 121 = .ok (.getfield 19, 3) := zd02dec3_141.2.1
theorem dX6_mile_124 : decode cX6_mile 124 = .ok (.iconst 3, 1) := zd02dec3_141.2.2.1
theorem dX6_mile_125 : decode cX6_mile 125 = .ok (.iload_n 1, 1) := zd02dec3_141.2.2.2.1
theorem dX6_mile_126 : decode cX6_mile 126 = .ok (.imul, 1) := zd02dec3_141.2.2.2.2.1
theorem dX6_mile_127 : decode cX6_mile 127 = .ok (.iaload, 1) := zd02dec3_141.2.2.2.2.2.1
theorem dX6_mile_128 : decode cX6_mile 128 = .ok (.iconst 1, 1) := zd02dec3_141.2.2.2.2.2.2.1
theorem dX6_mile_129 : decode cX6_mile 129 = .ok (.iadd, 1) := zd02dec3_141.2.2.2.2.2.2.2.1
theorem dX6_mile_130 : decode cX6_mile 130 = .ok (.iconst 0, 1) := zd02dec3_141.2.2.2.2.2.2.2.2.1
theorem dX6_mile_131 : decode cX6_mile 131 = .ok (.bipush 20, 2) := zd02dec3_141.2.2.2.2.2.2.2.2.2.1
theorem dX6_mile_133 : decode cX6_mile 133 = .ok (.invokestatic 174, 3) := zd02dec3_141.2.2.2.2.2.2.2.2.2.2.1
theorem dX6_mile_136 : decode cX6_mile 136 = .ok (.goto 11, 3) := zd02dec3_141.2.2.2.2.2.2.2.2.2.2.2
theorem zd02dec3_142 : decode cX6_mile 139 = .ok (.aload_n 0, 1) ∧ decode cX6_mile 140 = .ok (.getfield 19, 3) ∧ decode cX6_mile 143 = .ok (.iconst 3, 1) ∧ decode cX6_mile 144 = .ok (.iload_n 1, 1) ∧ decode cX6_mile 145 = .ok (.imul, 1) ∧ decode cX6_mile 146 = .ok (.iaload, 1) ∧ decode cX6_mile 147 = .ok (.iastore, 1) ∧ decode cX6_mile 148 = .ok (.iload 4, 2) ∧ decode cX6_mile 150 = .ok (.ireturn, 1) := by decide +kernel
theorem dX6_mile_139 : decode cX6_mile 139 = .ok (.aload_n 0, 1) := zd02dec3_142.1
theorem dX6_mile_140 : decode cX6_mile 140 = .ok (.getfield 19, 3) := zd02dec3_142.2.1
theorem dX6_mile_143 : decode cX6_mile 143 = .ok (.iconst 3, 1) := zd02dec3_142.2.2.1
theorem dX6_mile_144 : decode cX6_mile 144 = .ok (.iload_n 1, 1) := zd02dec3_142.2.2.2.1
theorem dX6_mile_145 : decode cX6_mile 145 = .ok (.imul, 1) := zd02dec3_142.2.2.2.2.1
theorem dX6_mile_146 : decode cX6_mile 146 = .ok (.iaload, 1) := zd02dec3_142.2.2.2.2.2.1
theorem dX6_mile_147 : decode cX6_mile 147 = .ok (.iastore, 1) := zd02dec3_142.2.2.2.2.2.2.1
theorem dX6_mile_148 : decode cX6_mile 148 = .ok (.iload 4, 2) := zd02dec3_142.2.2.2.2.2.2.2.1
theorem dX6_mile_150 : decode cX6_mile 150 = .ok (.ireturn, 1) := zd02dec3_142.2.2.2.2.2.2.2.2
theorem zd02dec3_143 : decode cX6_caseOf 0 = .ok (.iconst 0, 1) ∧ decode cX6_caseOf 1 = .ok (.istore 4, 2) ∧ decode cX6_caseOf 3 = .ok (.iconst 0, 1) ∧ decode cX6_caseOf 4 = .ok (.istore 5, 2) ∧ decode cX6_caseOf 6 = .ok (.iload 5, 2) ∧ decode cX6_caseOf 8 = .ok (.iload_n 3, 1) ∧ decode cX6_caseOf 9 = .ok (.if_icmp .ge 21, 3) ∧ decode cX6_caseOf 12 = .ok (.iload 4, 2) ∧ decode cX6_caseOf 14 = .ok (.aload_n 0, 1) ∧ decode cX6_caseOf 15 = .ok (.iload_n 1, 1) ∧ decode cX6_caseOf 16 = .ok (.iload_n 2, 1) ∧ decode cX6_caseOf 17 = .ok (.iconst 0, 1) := by decide +kernel
theorem dX6_caseOf_0 : decode cX6_caseOf 0 = .ok (.iconst 0, 1) := zd02dec3_143.1
theorem dX6_caseOf_1 : decode cX6_caseOf 1 = .ok (.istore 4, 2) := zd02dec3_143.2.1
theorem dX6_caseOf_3 : decode cX6_caseOf 3 = .ok (.iconst 0, 1) := zd02dec3_143.2.2.1
theorem dX6_caseOf_4 : decode cX6_caseOf 4 = .ok (.istore 5, 2) := zd02dec3_143.2.2.2.1
theorem dX6_caseOf_6 : decode cX6_caseOf 6 = .ok (.iload 5, 2) := zd02dec3_143.2.2.2.2.1
theorem dX6_caseOf_8 : decode cX6_caseOf 8 = .ok (.iload_n 3, 1) := zd02dec3_143.2.2.2.2.2.1
theorem dX6_caseOf_9 : decode cX6_caseOf 9 = .ok (.if_icmp .ge 21, 3) := zd02dec3_143.2.2.2.2.2.2.1
theorem dX6_caseOf_12 : decode cX6_caseOf 12 = .ok (.iload 4, 2) := zd02dec3_143.2.2.2.2.2.2.2.1
theorem dX6_caseOf_14 : decode cX6_caseOf 14 = .ok (.aload_n 0, 1) := zd02dec3_143.2.2.2.2.2.2.2.2.1
theorem dX6_caseOf_15 : decode cX6_caseOf 15 = .ok (.iload_n 1, 1) := zd02dec3_143.2.2.2.2.2.2.2.2.2.1
theorem dX6_caseOf_16 : decode cX6_caseOf 16 = .ok (.iload_n 2, 1) := zd02dec3_143.2.2.2.2.2.2.2.2.2.2.1
theorem dX6_caseOf_17 : decode cX6_caseOf 17 = .ok (.iconst 0, 1) := zd02dec3_143.2.2.2.2.2.2.2.2.2.2.2
theorem zd02dec3_144 : decode cX6_caseOf 18 = .ok (.invokevirtual 193, 3) ∧ decode cX6_caseOf 21 = .ok (.iadd, 1) ∧ decode cX6_caseOf 22 = .ok (.istore 4, 2) ∧ decode cX6_caseOf 24 = .ok (.iinc 5 1, 3) ∧ decode cX6_caseOf 27 = .ok (.goto (-21), 3) ∧ decode cX6_caseOf 30 = .ok (.iload 4, 2) ∧ decode cX6_caseOf 32 = .ok (.ireturn, 1) := by decide +kernel
theorem dX6_caseOf_18 : decode cX6_caseOf 18 = .ok (.invokevirtual 193, 3) := zd02dec3_144.1
theorem dX6_caseOf_21 : decode cX6_caseOf 21 = .ok (.iadd, 1) := zd02dec3_144.2.1
theorem dX6_caseOf_22 : decode cX6_caseOf 22 = .ok (.istore 4, 2) := zd02dec3_144.2.2.1
theorem dX6_caseOf_24 : decode cX6_caseOf 24 = .ok (.iinc 5 1, 3) := zd02dec3_144.2.2.2.1
theorem dX6_caseOf_27 : decode cX6_caseOf 27 = .ok (.goto (-21), 3) := zd02dec3_144.2.2.2.2.1
theorem dX6_caseOf_30 : decode cX6_caseOf 30 = .ok (.iload 4, 2) := zd02dec3_144.2.2.2.2.2.1
theorem dX6_caseOf_32 : decode cX6_caseOf 32 = .ok (.ireturn, 1) := zd02dec3_144.2.2.2.2.2.2
theorem zd02dec3_145 : decode cX6_walk 0 = .ok (.aload_n 0, 1) ∧ decode cX6_walk 1 = .ok (.iload_n 1, 1) ∧ decode cX6_walk 2 = .ok (.invokevirtual 104, 3) ∧ decode cX6_walk 5 = .ok (.ifCond .eq 11, 3) ∧ decode cX6_walk 8 = .ok (.aload_n 0, 1) ∧ decode cX6_walk 9 = .ok (.iload_n 2, 1) ∧ decode cX6_walk 10 = .ok (.invokevirtual 177, 3) ∧ decode cX6_walk 13 = .ok (.ifCond .ne 6, 3) ∧ decode cX6_walk 16 = .ok (.bipush (-5), 2) ∧ decode cX6_walk 18 = .ok (.ireturn, 1) ∧ decode cX6_walk 19 = .ok (.iload_n 3, 1) ∧ decode cX6_walk 20 = .ok (.invokestatic 196, 3) := by decide +kernel
theorem dX6_walk_0 : decode cX6_walk 0 = .ok (.aload_n 0, 1) := zd02dec3_145.1
theorem dX6_walk_1 : decode cX6_walk 1 = .ok (.iload_n 1, 1) := zd02dec3_145.2.1
theorem dX6_walk_2 : decode cX6_walk 2 = .ok (.invokevirtual 104, 3) := zd02dec3_145.2.2.1
theorem dX6_walk_5 : decode cX6_walk 5 = .ok (.ifCond .eq 11, 3) := zd02dec3_145.2.2.2.1
theorem dX6_walk_8 : decode cX6_walk 8 = .ok (.aload_n 0, 1) := zd02dec3_145.2.2.2.2.1
theorem dX6_walk_9 : decode cX6_walk 9 = .ok (.iload_n 2, 1) := zd02dec3_145.2.2.2.2.2.1
theorem dX6_walk_10 : decode cX6_walk 10 = .ok (.invokevirtual 177, 3) := zd02dec3_145.2.2.2.2.2.2.1
theorem dX6_walk_13 : decode cX6_walk 13 = .ok (.ifCond .ne 6, 3) := zd02dec3_145.2.2.2.2.2.2.2.1
theorem dX6_walk_16 : decode cX6_walk 16 = .ok (.bipush (-5), 2) := zd02dec3_145.2.2.2.2.2.2.2.2.1
theorem dX6_walk_18 : decode cX6_walk 18 = .ok (.ireturn, 1) := zd02dec3_145.2.2.2.2.2.2.2.2.2.1
theorem dX6_walk_19 : decode cX6_walk 19 = .ok (.iload_n 3, 1) := zd02dec3_145.2.2.2.2.2.2.2.2.2.2.1
theorem dX6_walk_20 : decode cX6_walk 20 = .ok (.invokestatic 196, 3) := zd02dec3_145.2.2.2.2.2.2.2.2.2.2.2
theorem zd02dec3_146 : decode cX6_walk 23 = .ok (.ifCond .ne 6, 3) ∧ decode cX6_walk 26 = .ok (.bipush (-7), 2) ∧ decode cX6_walk 28 = .ok (.ireturn, 1) ∧ decode cX6_walk 29 = .ok (.aload_n 0, 1) ∧ decode cX6_walk 30 = .ok (.getfield 19, 3) ∧ decode cX6_walk 33 = .ok (.iconst 3, 1) ∧ decode cX6_walk 34 = .ok (.iload_n 1, 1) ∧ decode cX6_walk 35 = .ok (.imul, 1) ∧ decode cX6_walk 36 = .ok (.iconst 1, 1) ∧ decode cX6_walk 37 = .ok (.iadd, 1) ∧ decode cX6_walk 38 = .ok (.iaload, 1) ∧ decode cX6_walk 39 = .ok (.iload_n 3, 1) := by decide +kernel
theorem dX6_walk_23 : decode cX6_walk 23 = .ok (.ifCond .ne 6, 3) := zd02dec3_146.1
theorem dX6_walk_26 : decode cX6_walk 26 = .ok (.bipush (-7), 2) := zd02dec3_146.2.1
theorem dX6_walk_28 : decode cX6_walk 28 = .ok (.ireturn, 1) := zd02dec3_146.2.2.1
theorem dX6_walk_29 : decode cX6_walk 29 = .ok (.aload_n 0, 1) := zd02dec3_146.2.2.2.1
theorem dX6_walk_30 : decode cX6_walk 30 = .ok (.getfield 19, 3) := zd02dec3_146.2.2.2.2.1
theorem dX6_walk_33 : decode cX6_walk 33 = .ok (.iconst 3, 1) := zd02dec3_146.2.2.2.2.2.1
theorem dX6_walk_34 : decode cX6_walk 34 = .ok (.iload_n 1, 1) := zd02dec3_146.2.2.2.2.2.2.1
theorem dX6_walk_35 : decode cX6_walk 35 = .ok (.imul, 1) := zd02dec3_146.2.2.2.2.2.2.2.1
theorem dX6_walk_36 : decode cX6_walk 36 = .ok (.iconst 1, 1) := zd02dec3_146.2.2.2.2.2.2.2.2.1
theorem dX6_walk_37 : decode cX6_walk 37 = .ok (.iadd, 1) := zd02dec3_146.2.2.2.2.2.2.2.2.2.1
theorem dX6_walk_38 : decode cX6_walk 38 = .ok (.iaload, 1) := zd02dec3_146.2.2.2.2.2.2.2.2.2.2.1
theorem dX6_walk_39 : decode cX6_walk 39 = .ok (.iload_n 3, 1) := zd02dec3_146.2.2.2.2.2.2.2.2.2.2.2
theorem zd02dec3_147 : decode cX6_walk 40 = .ok (.iadd, 1) ∧ decode cX6_walk 41 = .ok (.sipush 999, 3) ∧ decode cX6_walk 44 = .ok (.if_icmp .le 8, 3) ∧ decode cX6_walk 47 = .ok (.bipush (-4), 2) ∧ decode cX6_walk 49 = .ok (.goto 10, 3) ∧ decode cX6_walk 52 = .ok (.aload_n 0, 1) ∧ decode cX6_walk 53 = .ok (.iload_n 1, 1) ∧ decode cX6_walk 54 = .ok (.iload_n 2, 1) ∧ decode cX6_walk 55 = .ok (.iload_n 3, 1) ∧ decode cX6_walk 56 = .ok (.invokevirtual 199, 3) ∧ decode cX6_walk 59 = .ok (.ireturn, 1) := by decide +kernel
theorem dX6_walk_40 : decode cX6_walk 40 = .ok (.iadd, 1) := zd02dec3_147.1
theorem dX6_walk_41 : decode cX6_walk 41 = .ok (.sipush 999, 3) := zd02dec3_147.2.1
theorem dX6_walk_44 : decode cX6_walk 44 = .ok (.if_icmp .le 8, 3) := zd02dec3_147.2.2.1
theorem dX6_walk_47 : decode cX6_walk 47 = .ok (.bipush (-4), 2) := zd02dec3_147.2.2.2.1
theorem dX6_walk_49 : decode cX6_walk 49 = .ok (.goto 10, 3) := zd02dec3_147.2.2.2.2.1
theorem dX6_walk_52 : decode cX6_walk 52 = .ok (.aload_n 0, 1) := zd02dec3_147.2.2.2.2.2.1
theorem dX6_walk_53 : decode cX6_walk 53 = .ok (.iload_n 1, 1) := zd02dec3_147.2.2.2.2.2.2.1
theorem dX6_walk_54 : decode cX6_walk 54 = .ok (.iload_n 2, 1) := zd02dec3_147.2.2.2.2.2.2.2.1
theorem dX6_walk_55 : decode cX6_walk 55 = .ok (.iload_n 3, 1) := zd02dec3_147.2.2.2.2.2.2.2.2.1
theorem dX6_walk_56 : decode cX6_walk 56 = .ok (.invokevirtual 199, 3) := zd02dec3_147.2.2.2.2.2.2.2.2.2.1
theorem dX6_walk_59 : decode cX6_walk 59 = .ok (.ireturn, 1) := zd02dec3_147.2.2.2.2.2.2.2.2.2.2
theorem zd02dec3_148 : decode cX6_keeps 0 = .ok (.iconst 0, 1) ∧ decode cX6_keeps 1 = .ok (.istore_n 1, 1) ∧ decode cX6_keeps 2 = .ok (.iload_n 1, 1) ∧ decode cX6_keeps 3 = .ok (.bipush 12, 2) ∧ decode cX6_keeps 5 = .ok (.if_icmp .ge 36, 3) ∧ decode cX6_keeps 8 = .ok (.aload_n 0, 1) ∧ decode cX6_keeps 9 = .ok (.getfield 61, 3) ∧ decode cX6_keeps 12 = .ok (.iload_n 1, 1) ∧ decode cX6_keeps 13 = .ok (.aload_n 0, 1) ∧ decode cX6_keeps 14 = .ok (.getfield 19, 3) ∧ decode cX6_keeps 17 = .ok (.iload_n 1, 1) ∧ decode cX6_keeps 18 = .ok (.iaload, 1) := by decide +kernel
theorem dX6_keeps_0 : decode cX6_keeps 0 = .ok (.iconst 0, 1) := zd02dec3_148.1
theorem dX6_keeps_1 : decode cX6_keeps 1 = .ok (.istore_n 1, 1) := zd02dec3_148.2.1
theorem dX6_keeps_2 : decode cX6_keeps 2 = .ok (.iload_n 1, 1) := zd02dec3_148.2.2.1
theorem dX6_keeps_3 : decode cX6_keeps 3 = .ok (.bipush 12, 2) := zd02dec3_148.2.2.2.1
theorem dX6_keeps_5 : decode cX6_keeps 5 = .ok (.if_icmp .ge 36, 3) := zd02dec3_148.2.2.2.2.1
theorem dX6_keeps_8 : decode cX6_keeps 8 = .ok (.aload_n 0, 1) := zd02dec3_148.2.2.2.2.2.1
theorem dX6_keeps_9 : decode cX6_keeps 9 = .ok (.getfield 61, 3) := zd02dec3_148.2.2.2.2.2.2.1
theorem dX6_keeps_12 : decode cX6_keeps 12 = .ok (.iload_n 1, 1) := zd02dec3_148.2.2.2.2.2.2.2.1
theorem dX6_keeps_13 : decode cX6_keeps 13 = .ok (.aload_n 0, 1) := zd02dec3_148.2.2.2.2.2.2.2.2.1
theorem dX6_keeps_14 : decode cX6_keeps 14 = .ok (.getfield 19, 3) := zd02dec3_148.2.2.2.2.2.2.2.2.2.1
theorem dX6_keeps_17 : decode cX6_keeps 17 = .ok (.iload_n 1, 1) := zd02dec3_148.2.2.2.2.2.2.2.2.2.2.1
theorem dX6_keeps_18 : decode cX6_keeps 18 = .ok (.iaload, 1) := zd02dec3_148.2.2.2.2.2.2.2.2.2.2.2
theorem zd02dec3_149 : decode cX6_keeps 19 = .ok (.iastore, 1) ∧ decode cX6_keeps 20 = .ok (.aload_n 0, 1) ∧ decode cX6_keeps 21 = .ok (.getfield 61, 3) ∧ decode cX6_keeps 24 = .ok (.bipush 12, 2) ∧ decode cX6_keeps 26 = .ok (.iload_n 1, 1) ∧ decode cX6_keeps 27 = .ok (.iadd, 1) ∧ decode cX6_keeps 28 = .ok (.aload_n 0, 1) ∧ decode cX6_keeps 29 = .ok (.getfield 16, 3) ∧ decode cX6_keeps 32 = .ok (.iload_n 1, 1) ∧ decode cX6_keeps 33 = .ok (.iaload, 1) ∧ decode cX6_keeps 34 = .ok (.iastore, 1) ∧ decode cX6_keeps 35 = .ok (.iinc 1 1, 3) := by decide +kernel
theorem dX6_keeps_19 : decode cX6_keeps 19 = .ok (.iastore, 1) := zd02dec3_149.1
theorem dX6_keeps_20 : decode cX6_keeps 20 = .ok (.aload_n 0, 1) := zd02dec3_149.2.1
theorem dX6_keeps_21 : decode cX6_keeps 21 = .ok (.getfield 61, 3) := zd02dec3_149.2.2.1
theorem dX6_keeps_24 : decode cX6_keeps 24 = .ok (.bipush 12, 2) := zd02dec3_149.2.2.2.1
theorem dX6_keeps_26 : decode cX6_keeps 26 = .ok (.iload_n 1, 1) := zd02dec3_149.2.2.2.2.1
theorem dX6_keeps_27 : decode cX6_keeps 27 = .ok (.iadd, 1) := zd02dec3_149.2.2.2.2.2.1
theorem dX6_keeps_28 : decode cX6_keeps 28 = .ok (.aload_n 0, 1) := zd02dec3_149.2.2.2.2.2.2.1
theorem dX6_keeps_29 : decode cX6_keeps 29 = .ok (.getfield 16, 3) := zd02dec3_149.2.2.2.2.2.2.2.1
theorem dX6_keeps_32 : decode cX6_keeps 32 = .ok (.iload_n 1, 1) := zd02dec3_149.2.2.2.2.2.2.2.2.1
theorem dX6_keeps_33 : decode cX6_keeps 33 = .ok (.iaload, 1) := zd02dec3_149.2.2.2.2.2.2.2.2.2.1
theorem dX6_keeps_34 : decode cX6_keeps 34 = .ok (.iastore, 1) := zd02dec3_149.2.2.2.2.2.2.2.2.2.2.1
theorem dX6_keeps_35 : decode cX6_keeps 35 = .ok (.iinc 1 1, 3) := zd02dec3_149.2.2.2.2.2.2.2.2.2.2.2
theorem zd02dec3_150 : decode cX6_keeps 38 = .ok (.goto (-36), 3) ∧ decode cX6_keeps 41 = .ok (.return_, 1) := by decide +kernel
theorem dX6_keeps_38 : decode cX6_keeps 38 = .ok (.goto (-36), 3) := zd02dec3_150.1
theorem dX6_keeps_41 : decode cX6_keeps 41 = .ok (.return_, 1) := zd02dec3_150.2
theorem zd02dec3_151 : decode cX6_laysBack 0 = .ok (.iconst 0, 1) ∧ decode cX6_laysBack 1 = .ok (.istore_n 1, 1) ∧ decode cX6_laysBack 2 = .ok (.iload_n 1, 1) ∧ decode cX6_laysBack 3 = .ok (.bipush 12, 2) ∧ decode cX6_laysBack 5 = .ok (.if_icmp .ge 36, 3) ∧ decode cX6_laysBack 8 = .ok (.aload_n 0, 1) ∧ decode cX6_laysBack 9 = .ok (.getfield 19, 3) ∧ decode cX6_laysBack 12 = .ok (.iload_n 1, 1) ∧ decode cX6_laysBack 13 = .ok (.aload_n 0, 1) ∧ decode cX6_laysBack 14 = .ok (.getfield 61, 3) ∧ decode cX6_laysBack 17 = .ok (.iload_n 1, 1) ∧ decode cX6_laysBack 18 = .ok (.iaload, 1) := by decide +kernel
theorem dX6_laysBack_0 : decode cX6_laysBack 0 = .ok (.iconst 0, 1) := zd02dec3_151.1
theorem dX6_laysBack_1 : decode cX6_laysBack 1 = .ok (.istore_n 1, 1) := zd02dec3_151.2.1
theorem dX6_laysBack_2 : decode cX6_laysBack 2 = .ok (.iload_n 1, 1) := zd02dec3_151.2.2.1
theorem dX6_laysBack_3 : decode cX6_laysBack 3 = .ok (.bipush 12, 2) := zd02dec3_151.2.2.2.1
theorem dX6_laysBack_5 : decode cX6_laysBack 5 = .ok (.if_icmp .ge 36, 3) := zd02dec3_151.2.2.2.2.1
theorem dX6_laysBack_8 : decode cX6_laysBack 8 = .ok (.aload_n 0, 1) := zd02dec3_151.2.2.2.2.2.1
theorem dX6_laysBack_9 : decode cX6_laysBack 9 = .ok (.getfield 19, 3) := zd02dec3_151.2.2.2.2.2.2.1
theorem dX6_laysBack_12 : decode cX6_laysBack 12 = .ok (.iload_n 1, 1) := zd02dec3_151.2.2.2.2.2.2.2.1
theorem dX6_laysBack_13 : decode cX6_laysBack 13 = .ok (.aload_n 0, 1) := zd02dec3_151.2.2.2.2.2.2.2.2.1
theorem dX6_laysBack_14 : decode cX6_laysBack 14 = .ok (.getfield 61, 3) := zd02dec3_151.2.2.2.2.2.2.2.2.2.1
theorem dX6_laysBack_17 : decode cX6_laysBack 17 = .ok (.iload_n 1, 1) := zd02dec3_151.2.2.2.2.2.2.2.2.2.2.1
theorem dX6_laysBack_18 : decode cX6_laysBack 18 = .ok (.iaload, 1) := zd02dec3_151.2.2.2.2.2.2.2.2.2.2.2
theorem zd02dec3_152 : decode cX6_laysBack 19 = .ok (.iastore, 1) ∧ decode cX6_laysBack 20 = .ok (.aload_n 0, 1) ∧ decode cX6_laysBack 21 = .ok (.getfield 16, 3) ∧ decode cX6_laysBack 24 = .ok (.iload_n 1, 1) ∧ decode cX6_laysBack 25 = .ok (.aload_n 0, 1) ∧ decode cX6_laysBack 26 = .ok (.getfield 61, 3) ∧ decode cX6_laysBack 29 = .ok (.bipush 12, 2) ∧ decode cX6_laysBack 31 = .ok (.iload_n 1, 1) ∧ decode cX6_laysBack 32 = .ok (.iadd, 1) ∧ decode cX6_laysBack 33 = .ok (.iaload, 1) ∧ decode cX6_laysBack 34 = .ok (.iastore, 1) ∧ decode cX6_laysBack 35 = .ok (.iinc 1 1, 3) := by decide +kernel
theorem dX6_laysBack_19 : decode cX6_laysBack 19 = .ok (.iastore, 1) := zd02dec3_152.1
theorem dX6_laysBack_20 : decode cX6_laysBack 20 = .ok (.aload_n 0, 1) := zd02dec3_152.2.1
theorem dX6_laysBack_21 : decode cX6_laysBack 21 = .ok (.getfield 16, 3) := zd02dec3_152.2.2.1
theorem dX6_laysBack_24 : decode cX6_laysBack 24 = .ok (.iload_n 1, 1) := zd02dec3_152.2.2.2.1
theorem dX6_laysBack_25 : decode cX6_laysBack 25 = .ok (.aload_n 0, 1) := zd02dec3_152.2.2.2.2.1
theorem dX6_laysBack_26 : decode cX6_laysBack 26 = .ok (.getfield 61, 3) := zd02dec3_152.2.2.2.2.2.1
theorem dX6_laysBack_29 : decode cX6_laysBack 29 = .ok (.bipush 12, 2) := zd02dec3_152.2.2.2.2.2.2.1
theorem dX6_laysBack_31 : decode cX6_laysBack 31 = .ok (.iload_n 1, 1) := zd02dec3_152.2.2.2.2.2.2.2.1
theorem dX6_laysBack_32 : decode cX6_laysBack 32 = .ok (.iadd, 1) := zd02dec3_152.2.2.2.2.2.2.2.2.1
theorem dX6_laysBack_33 : decode cX6_laysBack 33 = .ok (.iaload, 1) := zd02dec3_152.2.2.2.2.2.2.2.2.2.1
theorem dX6_laysBack_34 : decode cX6_laysBack 34 = .ok (.iastore, 1) := zd02dec3_152.2.2.2.2.2.2.2.2.2.2.1
theorem dX6_laysBack_35 : decode cX6_laysBack 35 = .ok (.iinc 1 1, 3) := zd02dec3_152.2.2.2.2.2.2.2.2.2.2.2
theorem zd02dec3_153 : decode cX6_laysBack 38 = .ok (.goto (-36), 3) ∧ decode cX6_laysBack 41 = .ok (.return_, 1) := by decide +kernel
theorem dX6_laysBack_38 : decode cX6_laysBack 38 = .ok (.goto (-36), 3) := zd02dec3_153.1
theorem dX6_laysBack_41 : decode cX6_laysBack 41 = .ok (.return_, 1) := zd02dec3_153.2
theorem zd02dec3_154 : decode cX6_heard 0 = .ok (.aload_n 0, 1) ∧ decode cX6_heard 1 = .ok (.invokevirtual 202, 3) ∧ decode cX6_heard 4 = .ok (.aload_n 0, 1) ∧ decode cX6_heard 5 = .ok (.aload_n 0, 1) ∧ decode cX6_heard 6 = .ok (.iload_n 1, 1) ∧ decode cX6_heard 7 = .ok (.iload_n 2, 1) ∧ decode cX6_heard 8 = .ok (.iload_n 3, 1) ∧ decode cX6_heard 9 = .ok (.invokevirtual 199, 3) ∧ decode cX6_heard 12 = .ok (.putfield 205, 3) ∧ decode cX6_heard 15 = .ok (.aload_n 0, 1) ∧ decode cX6_heard 16 = .ok (.aload_n 0, 1) ∧ decode cX6_heard 17 = .ok (.getfield 16, 3) := by decide +kernel
theorem dX6_heard_0 : decode cX6_heard 0 = .ok (.aload_n 0, 1) := zd02dec3_154.1
theorem dX6_heard_1 : decode cX6_heard 1 = .ok (.invokevirtual 202, 3) := zd02dec3_154.2.1
theorem dX6_heard_4 : decode cX6_heard 4 = .ok (.aload_n 0, 1) := zd02dec3_154.2.2.1
theorem dX6_heard_5 : decode cX6_heard 5 = .ok (.aload_n 0, 1) := zd02dec3_154.2.2.2.1
theorem dX6_heard_6 : decode cX6_heard 6 = .ok (.iload_n 1, 1) := zd02dec3_154.2.2.2.2.1
theorem dX6_heard_7 : decode cX6_heard 7 = .ok (.iload_n 2, 1) := zd02dec3_154.2.2.2.2.2.1
theorem dX6_heard_8 : decode cX6_heard 8 = .ok (.iload_n 3, 1) := zd02dec3_154.2.2.2.2.2.2.1
theorem dX6_heard_9 : decode cX6_heard 9 = .ok (.invokevirtual 199, 3) := zd02dec3_154.2.2.2.2.2.2.2.1
theorem dX6_heard_12 : decode cX6_heard 12 = .ok (.putfield 205, 3) := zd02dec3_154.2.2.2.2.2.2.2.2.1
theorem dX6_heard_15 : decode cX6_heard 15 = .ok (.aload_n 0, 1) := zd02dec3_154.2.2.2.2.2.2.2.2.2.1
theorem dX6_heard_16 : decode cX6_heard 16 = .ok (.aload_n 0, 1) := zd02dec3_154.2.2.2.2.2.2.2.2.2.2.1
theorem dX6_heard_17 : decode cX6_heard 17 = .ok (.getfield 16, 3) := zd02dec3_154.2.2.2.2.2.2.2.2.2.2.2
theorem zd02dec3_155 : decode cX6_heard 20 = .ok (.iconst 2, 1) ∧ decode cX6_heard 21 = .ok (.iload_n 2, 1) ∧ decode cX6_heard 22 = .ok (.imul, 1) ∧ decode cX6_heard 23 = .ok (.iaload, 1) ∧ decode cX6_heard 24 = .ok (.putfield 208, 3) ∧ decode cX6_heard 27 = .ok (.aload_n 0, 1) ∧ decode cX6_heard 28 = .ok (.aload_n 0, 1) ∧ decode cX6_heard 29 = .ok (.getfield 19, 3) ∧ decode cX6_heard 32 = .ok (.iconst 3, 1) ∧ decode cX6_heard 33 = .ok (.iload_n 1, 1) ∧ decode cX6_heard 34 = .ok (.imul, 1) ∧ decode cX6_heard 35 = .ok (.iaload, 1) := by decide +kernel
theorem dX6_heard_20 : decode cX6_heard 20 = .ok (.iconst 2, 1) := zd02dec3_155.1
theorem dX6_heard_21 : decode cX6_heard 21 = .ok (.iload_n 2, 1) := zd02dec3_155.2.1
theorem dX6_heard_22 : decode cX6_heard 22 = .ok (.imul, 1) := zd02dec3_155.2.2.1
theorem dX6_heard_23 : decode cX6_heard 23 = .ok (.iaload, 1) := zd02dec3_155.2.2.2.1
theorem dX6_heard_24 : decode cX6_heard 24 = .ok (.putfield 208, 3) := zd02dec3_155.2.2.2.2.1
theorem dX6_heard_27 : decode cX6_heard 27 = .ok (.aload_n 0, 1) := zd02dec3_155.2.2.2.2.2.1
theorem dX6_heard_28 : decode cX6_heard 28 = .ok (.aload_n 0, 1) := zd02dec3_155.2.2.2.2.2.2.1
theorem dX6_heard_29 : decode cX6_heard 29 = .ok (.getfield 19, 3) := zd02dec3_155.2.2.2.2.2.2.2.1
theorem dX6_heard_32 : decode cX6_heard 32 = .ok (.iconst 3, 1) := zd02dec3_155.2.2.2.2.2.2.2.2.1
theorem dX6_heard_33 : decode cX6_heard 33 = .ok (.iload_n 1, 1) := zd02dec3_155.2.2.2.2.2.2.2.2.2.1
theorem dX6_heard_34 : decode cX6_heard 34 = .ok (.imul, 1) := zd02dec3_155.2.2.2.2.2.2.2.2.2.2.1
theorem dX6_heard_35 : decode cX6_heard 35 = .ok (.iaload, 1) := zd02dec3_155.2.2.2.2.2.2.2.2.2.2.2
theorem zd02dec3_156 : decode cX6_heard 36 = .ok (.putfield 211, 3) ∧ decode cX6_heard 39 = .ok (.aload_n 0, 1) ∧ decode cX6_heard 40 = .ok (.aload_n 0, 1) ∧ decode cX6_heard 41 = .ok (.getfield 205, 3) ∧ decode cX6_heard 44 = .ok (.aload_n 0, 1) ∧ decode cX6_heard 45 = .ok (.iconst 2, 1) ∧ decode cX6_heard 46 = .ok (.iload_n 1, 1) ∧ decode cX6_heard 47 = .ok (.iload_n 2, 1) ∧ decode cX6_heard 48 = .ok (.invokevirtual 180, 3) ∧ decode cX6_heard 51 = .ok (.if_icmp .lt 7, 3) ∧ decode cX6_heard 54 = .ok (.iconst 1, 1) ∧ decode cX6_heard 55 = .ok (.goto 4, 3) := by decide +kernel
theorem dX6_heard_36 : decode cX6_heard 36 = .ok (.putfield 211, 3) := zd02dec3_156.1
theorem dX6_heard_39 : decode cX6_heard 39 = .ok (.aload_n 0, 1) := zd02dec3_156.2.1
theorem dX6_heard_40 : decode cX6_heard 40 = .ok (.aload_n 0, 1) := zd02dec3_156.2.2.1
theorem dX6_heard_41 : decode cX6_heard 41 = .ok (.getfield 205, 3) := zd02dec3_156.2.2.2.1
theorem dX6_heard_44 : decode cX6_heard 44 = .ok (.aload_n 0, 1) := zd02dec3_156.2.2.2.2.1
theorem dX6_heard_45 : decode cX6_heard 45 = .ok (.iconst 2, 1) := zd02dec3_156.2.2.2.2.2.1
theorem dX6_heard_46 : decode cX6_heard 46 = .ok (.iload_n 1, 1) := zd02dec3_156.2.2.2.2.2.2.1
theorem dX6_heard_47 : decode cX6_heard 47 = .ok (.iload_n 2, 1) := zd02dec3_156.2.2.2.2.2.2.2.1
theorem dX6_heard_48 : decode cX6_heard 48 = .ok (.invokevirtual 180, 3) := zd02dec3_156.2.2.2.2.2.2.2.2.1
theorem dX6_heard_51 : decode cX6_heard 51 = .ok (.if_icmp .lt 7, 3) := zd02dec3_156.2.2.2.2.2.2.2.2.2.1
theorem dX6_heard_54 : decode cX6_heard 54 = .ok (.iconst 1, 1) := zd02dec3_156.2.2.2.2.2.2.2.2.2.2.1
theorem dX6_heard_55 : decode cX6_heard 55 = .ok (.goto 4, 3) := zd02dec3_156.2.2.2.2.2.2.2.2.2.2.2
theorem zd02dec3_157 : decode cX6_heard 58 = .ok (.iconst 0, 1) ∧ decode cX6_heard 59 = .ok (.putfield 214, 3) ∧ decode cX6_heard 62 = .ok (.aload_n 0, 1) ∧ decode cX6_heard 63 = .ok (.invokevirtual 218, 3) ∧ decode cX6_heard 66 = .ok (.return_, 1) := by decide +kernel
theorem dX6_heard_58 : decode cX6_heard 58 = .ok (.iconst 0, 1) := zd02dec3_157.1
theorem dX6_heard_59 : decode cX6_heard 59 = .ok (.putfield 214, 3) := zd02dec3_157.2.1
theorem dX6_heard_62 : decode cX6_heard 62 = .ok (.aload_n 0, 1) := zd02dec3_157.2.2.1
theorem dX6_heard_63 : decode cX6_heard 63 = .ok (.invokevirtual 218, 3) := zd02dec3_157.2.2.2.1
theorem dX6_heard_66 : decode cX6_heard 66 = .ok (.return_, 1) := zd02dec3_157.2.2.2.2
theorem zd02dec3_158 : decode cX6_toldCase 0 = .ok (.iload_n 1, 1) ∧ decode cX6_toldCase 1 = .ok (.ifCond .ne 10, 3) ∧ decode cX6_toldCase 4 = .ok (.aload_n 0, 1) ∧ decode cX6_toldCase 5 = .ok (.getfield 205, 3) ∧ decode cX6_toldCase 8 = .ok (.goto 39, 3) ∧ decode cX6_toldCase 11 = .ok (.iload_n 1, 1) ∧ decode cX6_toldCase 12 = .ok (.iconst 1, 1) ∧ decode cX6_toldCase 13 = .ok (.if_icmp .ne 10, 3) ∧ decode cX6_toldCase 16 = .ok (.aload_n 0, 1) ∧ decode cX6_toldCase 17 = .ok (.getfield 208, 3) ∧ decode cX6_toldCase 20 = .ok (.goto 27, 3) ∧ decode cX6_toldCase 23 = .ok (.iload_n 1, 1) := by decide +kernel
theorem dX6_toldCase_0 : decode cX6_toldCase 0 = .ok (.iload_n 1, 1) := zd02dec3_158.1
theorem dX6_toldCase_1 : decode cX6_toldCase 1 = .ok (.ifCond .ne 10, 3) := zd02dec3_158.2.1
theorem dX6_toldCase_4 : decode cX6_toldCase 4 = .ok (.aload_n 0, 1) := zd02dec3_158.2.2.1
theorem dX6_toldCase_5 : decode cX6_toldCase 5 = .ok (.getfield 205, 3) := zd02dec3_158.2.2.2.1
theorem dX6_toldCase_8 : decode cX6_toldCase 8 = .ok (.goto 39, 3) := zd02dec3_158.2.2.2.2.1
theorem dX6_toldCase_11 : decode cX6_toldCase 11 = .ok (.iload_n 1, 1) := zd02dec3_158.2.2.2.2.2.1
theorem dX6_toldCase_12 : decode cX6_toldCase 12 = .ok (.iconst 1, 1) := zd02dec3_158.2.2.2.2.2.2.1
theorem dX6_toldCase_13 : decode cX6_toldCase 13 = .ok (.if_icmp .ne 10, 3) := zd02dec3_158.2.2.2.2.2.2.2.1
theorem dX6_toldCase_16 : decode cX6_toldCase 16 = .ok (.aload_n 0, 1) := zd02dec3_158.2.2.2.2.2.2.2.2.1
theorem dX6_toldCase_17 : decode cX6_toldCase 17 = .ok (.getfield 208, 3) := zd02dec3_158.2.2.2.2.2.2.2.2.2.1
theorem dX6_toldCase_20 : decode cX6_toldCase 20 = .ok (.goto 27, 3) := zd02dec3_158.2.2.2.2.2.2.2.2.2.2.1
theorem dX6_toldCase_23 : decode cX6_toldCase 23 = .ok (.iload_n 1, 1) := zd02dec3_158.2.2.2.2.2.2.2.2.2.2.2
theorem zd02dec3_159 : decode cX6_toldCase 24 = .ok (.iconst 2, 1) ∧ decode cX6_toldCase 25 = .ok (.if_icmp .ne 18, 3) ∧ decode cX6_toldCase 28 = .ok (.aload_n 0, 1) ∧ decode cX6_toldCase 29 = .ok (.getfield 214, 3) ∧ decode cX6_toldCase 32 = .ok (.ifCond .eq 7, 3) ∧ decode cX6_toldCase 35 = .ok (.iconst 1, 1) ∧ decode cX6_toldCase 36 = .ok (.goto 11, 3) ∧ decode cX6_toldCase 39 = .ok (.iconst 0, 1) ∧ decode cX6_toldCase 40 = .ok (.goto 7, 3) ∧ decode cX6_toldCase 43 = .ok (.aload_n 0, 1) ∧ decode cX6_toldCase 44 = .ok (.getfield 211, 3) ∧ decode cX6_toldCase 47 = .ok (.ireturn, 1) := by decide +kernel
theorem dX6_toldCase_24 : decode cX6_toldCase 24 = .ok (.iconst 2, 1) := zd02dec3_159.1
theorem dX6_toldCase_25 : decode cX6_toldCase 25 = .ok (.if_icmp .ne 18, 3) := zd02dec3_159.2.1
theorem dX6_toldCase_28 : decode cX6_toldCase 28 = .ok (.aload_n 0, 1) := zd02dec3_159.2.2.1
theorem dX6_toldCase_29 : decode cX6_toldCase 29 = .ok (.getfield 214, 3) := zd02dec3_159.2.2.2.1
theorem dX6_toldCase_32 : decode cX6_toldCase 32 = .ok (.ifCond .eq 7, 3) := zd02dec3_159.2.2.2.2.1
theorem dX6_toldCase_35 : decode cX6_toldCase 35 = .ok (.iconst 1, 1) := zd02dec3_159.2.2.2.2.2.1
theorem dX6_toldCase_36 : decode cX6_toldCase 36 = .ok (.goto 11, 3) := zd02dec3_159.2.2.2.2.2.2.1
theorem dX6_toldCase_39 : decode cX6_toldCase 39 = .ok (.iconst 0, 1) := zd02dec3_159.2.2.2.2.2.2.2.1
theorem dX6_toldCase_40 : decode cX6_toldCase 40 = .ok (.goto 7, 3) := zd02dec3_159.2.2.2.2.2.2.2.2.1
theorem dX6_toldCase_43 : decode cX6_toldCase 43 = .ok (.aload_n 0, 1) := zd02dec3_159.2.2.2.2.2.2.2.2.2.1
theorem dX6_toldCase_44 : decode cX6_toldCase 44 = .ok (.getfield 211, 3) := zd02dec3_159.2.2.2.2.2.2.2.2.2.2.1
theorem dX6_toldCase_47 : decode cX6_toldCase 47 = .ok (.ireturn, 1) := zd02dec3_159.2.2.2.2.2.2.2.2.2.2.2
theorem zd02dec3_160 : decode cX6_hear 0 = .ok (.aload_n 0, 1) ∧ decode cX6_hear 1 = .ok (.iload_n 1, 1) ∧ decode cX6_hear 2 = .ok (.invokevirtual 104, 3) ∧ decode cX6_hear 5 = .ok (.ifCond .eq 11, 3) ∧ decode cX6_hear 8 = .ok (.aload_n 0, 1) ∧ decode cX6_hear 9 = .ok (.iload_n 2, 1) ∧ decode cX6_hear 10 = .ok (.invokevirtual 177, 3) ∧ decode cX6_hear 13 = .ok (.ifCond .ne 6, 3) ∧ decode cX6_hear 16 = .ok (.bipush (-5), 2) ∧ decode cX6_hear 18 = .ok (.ireturn, 1) ∧ decode cX6_hear 19 = .ok (.iload_n 3, 1) ∧ decode cX6_hear 20 = .ok (.invokestatic 196, 3) := by decide +kernel
theorem dX6_hear_0 : decode cX6_hear 0 = .ok (.aload_n 0, 1) := zd02dec3_160.1
theorem dX6_hear_1 : decode cX6_hear 1 = .ok (.iload_n 1, 1) := zd02dec3_160.2.1
theorem dX6_hear_2 : decode cX6_hear 2 = .ok (.invokevirtual 104, 3) := zd02dec3_160.2.2.1
theorem dX6_hear_5 : decode cX6_hear 5 = .ok (.ifCond .eq 11, 3) := zd02dec3_160.2.2.2.1
theorem dX6_hear_8 : decode cX6_hear 8 = .ok (.aload_n 0, 1) := zd02dec3_160.2.2.2.2.1
theorem dX6_hear_9 : decode cX6_hear 9 = .ok (.iload_n 2, 1) := zd02dec3_160.2.2.2.2.2.1
theorem dX6_hear_10 : decode cX6_hear 10 = .ok (.invokevirtual 177, 3) := zd02dec3_160.2.2.2.2.2.2.1
theorem dX6_hear_13 : decode cX6_hear 13 = .ok (.ifCond .ne 6, 3) := zd02dec3_160.2.2.2.2.2.2.2.1
theorem dX6_hear_16 : decode cX6_hear 16 = .ok (.bipush (-5), 2) := zd02dec3_160.2.2.2.2.2.2.2.2.1
theorem dX6_hear_18 : decode cX6_hear 18 = .ok (.ireturn, 1) := zd02dec3_160.2.2.2.2.2.2.2.2.2.1
theorem dX6_hear_19 : decode cX6_hear 19 = .ok (.iload_n 3, 1) := zd02dec3_160.2.2.2.2.2.2.2.2.2.2.1
theorem dX6_hear_20 : decode cX6_hear 20 = .ok (.invokestatic 196, 3) := zd02dec3_160.2.2.2.2.2.2.2.2.2.2.2
theorem zd02dec3_161 : decode cX6_hear 23 = .ok (.ifCond .eq 13, 3) ∧ decode cX6_hear 26 = .ok (.iload 4, 2) ∧ decode cX6_hear 28 = .ok (.iconst 0, 1) ∧ decode cX6_hear 29 = .ok (.iconst 3, 1) ∧ decode cX6_hear 30 = .ok (.invokestatic 91, 3) ∧ decode cX6_hear 33 = .ok (.ifCond .ne 6, 3) ∧ decode cX6_hear 36 = .ok (.bipush (-7), 2) ∧ decode cX6_hear 38 = .ok (.ireturn, 1) ∧ decode cX6_hear 39 = .ok (.aload_n 0, 1) ∧ decode cX6_hear 40 = .ok (.iload_n 1, 1) ∧ decode cX6_hear 41 = .ok (.iload_n 2, 1) ∧ decode cX6_hear 42 = .ok (.iload_n 3, 1) := by decide +kernel
theorem dX6_hear_23 : decode cX6_hear 23 = .ok (.ifCond .eq 13, 3) := zd02dec3_161.1
theorem dX6_hear_26 : decode cX6_hear 26 = .ok (.iload 4, 2) := zd02dec3_161.2.1
theorem dX6_hear_28 : decode cX6_hear 28 = .ok (.iconst 0, 1) := zd02dec3_161.2.2.1
theorem dX6_hear_29 : decode cX6_hear 29 = .ok (.iconst 3, 1) := zd02dec3_161.2.2.2.1
theorem dX6_hear_30 : decode cX6_hear 30 = .ok (.invokestatic 91, 3) := zd02dec3_161.2.2.2.2.1
theorem dX6_hear_33 : decode cX6_hear 33 = .ok (.ifCond .ne 6, 3) := zd02dec3_161.2.2.2.2.2.1
theorem dX6_hear_36 : decode cX6_hear 36 = .ok (.bipush (-7), 2) := zd02dec3_161.2.2.2.2.2.2.1
theorem dX6_hear_38 : decode cX6_hear 38 = .ok (.ireturn, 1) := zd02dec3_161.2.2.2.2.2.2.2.1
theorem dX6_hear_39 : decode cX6_hear 39 = .ok (.aload_n 0, 1) := zd02dec3_161.2.2.2.2.2.2.2.2.1
theorem dX6_hear_40 : decode cX6_hear 40 = .ok (.iload_n 1, 1) := zd02dec3_161.2.2.2.2.2.2.2.2.2.1
theorem dX6_hear_41 : decode cX6_hear 41 = .ok (.iload_n 2, 1) := zd02dec3_161.2.2.2.2.2.2.2.2.2.2.1
theorem dX6_hear_42 : decode cX6_hear 42 = .ok (.iload_n 3, 1) := zd02dec3_161.2.2.2.2.2.2.2.2.2.2.2
theorem zd02dec3_162 : decode cX6_hear 43 = .ok (.invokevirtual 221, 3) ∧ decode cX6_hear 46 = .ok (.aload_n 0, 1) ∧ decode cX6_hear 47 = .ok (.iload 4, 2) ∧ decode cX6_hear 49 = .ok (.invokevirtual 225, 3) ∧ decode cX6_hear 52 = .ok (.ireturn, 1) := by decide +kernel
theorem dX6_hear_43 : decode cX6_hear 43 = .ok (.invokevirtual 221, 3) := zd02dec3_162.1
theorem dX6_hear_46 : decode cX6_hear 46 = .ok (.aload_n 0, 1) := zd02dec3_162.2.1
theorem dX6_hear_47 : decode cX6_hear 47 = .ok (.iload 4, 2) := zd02dec3_162.2.2.1
theorem dX6_hear_49 : decode cX6_hear 49 = .ok (.invokevirtual 225, 3) := zd02dec3_162.2.2.2.1
theorem dX6_hear_52 : decode cX6_hear 52 = .ok (.ireturn, 1) := zd02dec3_162.2.2.2.2
theorem zd02dec3_163 : decode cX6_tellsMiles 0 = .ok (.iconst 0, 1) ∧ decode cX6_tellsMiles 1 = .ok (.istore_n 3, 1) ∧ decode cX6_tellsMiles 2 = .ok (.iconst (-1), 1) ∧ decode cX6_tellsMiles 3 = .ok (.istore 4, 2) ∧ decode cX6_tellsMiles 5 = .ok (.aload_n 0, 1) ∧ decode cX6_tellsMiles 6 = .ok (.invokevirtual 202, 3) ∧ decode cX6_tellsMiles 9 = .ok (.iconst 0, 1) ∧ decode cX6_tellsMiles 10 = .ok (.istore 5, 2) ∧ decode cX6_tellsMiles 12 = .ok (.iload 5, 2) ∧ decode cX6_tellsMiles 14 = .ok (.bipush 60, 2) ∧ decode cX6_tellsMiles 16 = .ok (.if_icmp .gt 65, 3) ∧ decode cX6_tellsMiles 19 = .ok (.aload_n 0, 1) := by decide +kernel
theorem dX6_tellsMiles_0 : decode cX6_tellsMiles 0 = .ok (.iconst 0, 1) := zd02dec3_163.1
theorem dX6_tellsMiles_1 : decode cX6_tellsMiles 1 = .ok (.istore_n 3, 1) := zd02dec3_163.2.1
theorem dX6_tellsMiles_2 : decode cX6_tellsMiles 2 = .ok (.iconst (-1), 1) := zd02dec3_163.2.2.1
theorem dX6_tellsMiles_3 : decode cX6_tellsMiles 3 = .ok (.istore 4, 2) := zd02dec3_163.2.2.2.1
theorem dX6_tellsMiles_5 : decode cX6_tellsMiles 5 = .ok (.aload_n 0, 1) := zd02dec3_163.2.2.2.2.1
theorem dX6_tellsMiles_6 : decode cX6_tellsMiles 6 = .ok (.invokevirtual 202, 3) := zd02dec3_163.2.2.2.2.2.1
theorem dX6_tellsMiles_9 : decode cX6_tellsMiles 9 = .ok (.iconst 0, 1) := zd02dec3_163.2.2.2.2.2.2.1
theorem dX6_tellsMiles_10 : decode cX6_tellsMiles 10 = .ok (.istore 5, 2) := zd02dec3_163.2.2.2.2.2.2.2.1
theorem dX6_tellsMiles_12 : decode cX6_tellsMiles 12 = .ok (.iload 5, 2) := zd02dec3_163.2.2.2.2.2.2.2.2.1
theorem dX6_tellsMiles_14 : decode cX6_tellsMiles 14 = .ok (.bipush 60, 2) := zd02dec3_163.2.2.2.2.2.2.2.2.2.1
theorem dX6_tellsMiles_16 : decode cX6_tellsMiles 16 = .ok (.if_icmp .gt 65, 3) := zd02dec3_163.2.2.2.2.2.2.2.2.2.2.1
theorem dX6_tellsMiles_19 : decode cX6_tellsMiles 19 = .ok (.aload_n 0, 1) := zd02dec3_163.2.2.2.2.2.2.2.2.2.2.2
theorem zd02dec3_164 : decode cX6_tellsMiles 20 = .ok (.getfield 64, 3) ∧ decode cX6_tellsMiles 23 = .ok (.iload 5, 2) ∧ decode cX6_tellsMiles 25 = .ok (.iload_n 3, 1) ∧ decode cX6_tellsMiles 26 = .ok (.aload_n 0, 1) ∧ decode cX6_tellsMiles 27 = .ok (.iconst 2, 1) ∧ decode cX6_tellsMiles 28 = .ok (.iload_n 1, 1) ∧ decode cX6_tellsMiles 29 = .ok (.iload_n 2, 1) ∧ decode cX6_tellsMiles 30 = .ok (.invokevirtual 180, 3) ∧ decode cX6_tellsMiles 33 = .ok (.if_icmp .lt 7, 3) ∧ decode cX6_tellsMiles 36 = .ok (.iconst 1, 1) ∧ decode cX6_tellsMiles 37 = .ok (.goto 4, 3) ∧ decode cX6_tellsMiles 40 = .ok (.iconst 0, 1) := by decide +kernel
theorem dX6_tellsMiles_20 : decode cX6_tellsMiles 20 = .ok (.getfield 64, 3) := zd02dec3_164.1
theorem dX6_tellsMiles_23 : decode cX6_tellsMiles 23 = .ok (.iload 5, 2) := zd02dec3_164.2.1
theorem dX6_tellsMiles_25 : decode cX6_tellsMiles 25 = .ok (.iload_n 3, 1) := zd02dec3_164.2.2.1
theorem dX6_tellsMiles_26 : decode cX6_tellsMiles 26 = .ok (.aload_n 0, 1) := zd02dec3_164.2.2.2.1
theorem dX6_tellsMiles_27 : decode cX6_tellsMiles 27 = .ok (.iconst 2, 1) := zd02dec3_164.2.2.2.2.1
theorem dX6_tellsMiles_28 : decode cX6_tellsMiles 28 = .ok (.iload_n 1, 1) := zd02dec3_164.2.2.2.2.2.1
theorem dX6_tellsMiles_29 : decode cX6_tellsMiles 29 = .ok (.iload_n 2, 1) := zd02dec3_164.2.2.2.2.2.2.1
theorem dX6_tellsMiles_30 : decode cX6_tellsMiles 30 = .ok (.invokevirtual 180, 3) := zd02dec3_164.2.2.2.2.2.2.2.1
theorem dX6_tellsMiles_33 : decode cX6_tellsMiles 33 = .ok (.if_icmp .lt 7, 3) := zd02dec3_164.2.2.2.2.2.2.2.2.1
theorem dX6_tellsMiles_36 : decode cX6_tellsMiles 36 = .ok (.iconst 1, 1) := zd02dec3_164.2.2.2.2.2.2.2.2.2.1
theorem dX6_tellsMiles_37 : decode cX6_tellsMiles 37 = .ok (.goto 4, 3) := zd02dec3_164.2.2.2.2.2.2.2.2.2.2.1
theorem dX6_tellsMiles_40 : decode cX6_tellsMiles 40 = .ok (.iconst 0, 1) := zd02dec3_164.2.2.2.2.2.2.2.2.2.2.2
theorem zd02dec3_165 : decode cX6_tellsMiles 41 = .ok (.bastore, 1) ∧ decode cX6_tellsMiles 42 = .ok (.iload 4, 2) ∧ decode cX6_tellsMiles 44 = .ok (.iconst (-1), 1) ∧ decode cX6_tellsMiles 45 = .ok (.if_icmp .ne 16, 3) ∧ decode cX6_tellsMiles 48 = .ok (.aload_n 0, 1) ∧ decode cX6_tellsMiles 49 = .ok (.iload_n 2, 1) ∧ decode cX6_tellsMiles 50 = .ok (.invokevirtual 183, 3) ∧ decode cX6_tellsMiles 53 = .ok (.ifCond .eq 8, 3) ∧ decode cX6_tellsMiles 56 = .ok (.iload 5, 2) ∧ decode cX6_tellsMiles 58 = .ok (.goto 5, 3) ∧ decode cX6_tellsMiles 61 = .ok (.iload 4, 2) ∧ decode cX6_tellsMiles 63 = .ok (.istore 4, 2) := by decide +kernel
theorem dX6_tellsMiles_41 : decode cX6_tellsMiles 41 = .ok (.bastore, 1) := zd02dec3_165.1
theorem dX6_tellsMiles_42 : decode cX6_tellsMiles 42 = .ok (.iload 4, 2) := zd02dec3_165.2.1
theorem dX6_tellsMiles_44 : decode cX6_tellsMiles 44 = .ok (.iconst (-1), 1) := zd02dec3_165.2.2.1
theorem dX6_tellsMiles_45 : decode cX6_tellsMiles 45 = .ok (.if_icmp .ne 16, 3) := zd02dec3_165.2.2.2.1
theorem dX6_tellsMiles_48 : decode cX6_tellsMiles 48 = .ok (.aload_n 0, 1) := zd02dec3_165.2.2.2.2.1
theorem dX6_tellsMiles_49 : decode cX6_tellsMiles 49 = .ok (.iload_n 2, 1) := zd02dec3_165.2.2.2.2.2.1
theorem dX6_tellsMiles_50 : decode cX6_tellsMiles 50 = .ok (.invokevirtual 183, 3) := zd02dec3_165.2.2.2.2.2.2.1
theorem dX6_tellsMiles_53 : decode cX6_tellsMiles 53 = .ok (.ifCond .eq 8, 3) := zd02dec3_165.2.2.2.2.2.2.2.1
theorem dX6_tellsMiles_56 : decode cX6_tellsMiles 56 = .ok (.iload 5, 2) := zd02dec3_165.2.2.2.2.2.2.2.2.1
theorem dX6_tellsMiles_58 : decode cX6_tellsMiles 58 = .ok (.goto 5, 3) := zd02dec3_165.2.2.2.2.2.2.2.2.2.1
theorem dX6_tellsMiles_61 : decode cX6_tellsMiles 61 = .ok (.iload 4, 2) := zd02dec3_165.2.2.2.2.2.2.2.2.2.2.1
theorem dX6_tellsMiles_63 : decode cX6_tellsMiles 63 = .ok (.istore 4, 2) := zd02dec3_165.2.2.2.2.2.2.2.2.2.2.2
theorem zd02dec3_166 : decode cX6_tellsMiles 65 = .ok (.iload_n 3, 1) ∧ decode cX6_tellsMiles 66 = .ok (.aload_n 0, 1) ∧ decode cX6_tellsMiles 67 = .ok (.iload_n 1, 1) ∧ decode cX6_tellsMiles 68 = .ok (.iload_n 2, 1) ∧ decode cX6_tellsMiles 69 = .ok (.iconst 0, 1) ∧ decode cX6_tellsMiles 70 = .ok (.invokevirtual 193, 3) ∧ decode cX6_tellsMiles 73 = .ok (.iadd, 1) ∧ decode cX6_tellsMiles 74 = .ok (.istore_n 3, 1) ∧ decode cX6_tellsMiles 75 = .ok (.iinc 5 1, 3) ∧ decode cX6_tellsMiles 78 = .ok (.goto (-66), 3) ∧ decode cX6_tellsMiles 81 = .ok (.aload_n 0, 1) ∧ decode cX6_tellsMiles 82 = .ok (.invokevirtual 218, 3) := by decide +kernel
theorem dX6_tellsMiles_65 : decode cX6_tellsMiles 65 = .ok (.iload_n 3, 1) := zd02dec3_166.1
theorem dX6_tellsMiles_66 : decode cX6_tellsMiles 66 = .ok (.aload_n 0, 1) := zd02dec3_166.2.1
theorem dX6_tellsMiles_67 : decode cX6_tellsMiles 67 = .ok (.iload_n 1, 1) := zd02dec3_166.2.2.1
theorem dX6_tellsMiles_68 : decode cX6_tellsMiles 68 = .ok (.iload_n 2, 1) := zd02dec3_166.2.2.2.1
theorem dX6_tellsMiles_69 : decode cX6_tellsMiles 69 = .ok (.iconst 0, 1) := zd02dec3_166.2.2.2.2.1
theorem dX6_tellsMiles_70 : decode cX6_tellsMiles 70 = .ok (.invokevirtual 193, 3) := zd02dec3_166.2.2.2.2.2.1
theorem dX6_tellsMiles_73 : decode cX6_tellsMiles 73 = .ok (.iadd, 1) := zd02dec3_166.2.2.2.2.2.2.1
theorem dX6_tellsMiles_74 : decode cX6_tellsMiles 74 = .ok (.istore_n 3, 1) := zd02dec3_166.2.2.2.2.2.2.2.1
theorem dX6_tellsMiles_75 : decode cX6_tellsMiles 75 = .ok (.iinc 5 1, 3) := zd02dec3_166.2.2.2.2.2.2.2.2.1
theorem dX6_tellsMiles_78 : decode cX6_tellsMiles 78 = .ok (.goto (-66), 3) := zd02dec3_166.2.2.2.2.2.2.2.2.2.1
theorem dX6_tellsMiles_81 : decode cX6_tellsMiles 81 = .ok (.aload_n 0, 1) := zd02dec3_166.2.2.2.2.2.2.2.2.2.2.1
theorem dX6_tellsMiles_82 : decode cX6_tellsMiles 82 = .ok (.invokevirtual 218, 3) := zd02dec3_166.2.2.2.2.2.2.2.2.2.2.2
theorem zd02dec3_167 : decode cX6_tellsMiles 85 = .ok (.iload 4, 2) ∧ decode cX6_tellsMiles 87 = .ok (.ireturn, 1) := by decide +kernel
theorem dX6_tellsMiles_85 : decode cX6_tellsMiles 85 = .ok (.iload 4, 2) := zd02dec3_167.1
theorem dX6_tellsMiles_87 : decode cX6_tellsMiles 87 = .ok (.ireturn, 1) := zd02dec3_167.2
theorem zd02dec3_168 : decode cX6_fewest 0 = .ok (.aload_n 0, 1) ∧ decode cX6_fewest 1 = .ok (.iload_n 1, 1) ∧ decode cX6_fewest 2 = .ok (.invokevirtual 104, 3) ∧ decode cX6_fewest 5 = .ok (.ifCond .eq 11, 3) ∧ decode cX6_fewest 8 = .ok (.aload_n 0, 1) ∧ decode cX6_fewest 9 = .ok (.iload_n 2, 1) ∧ decode cX6_fewest 10 = .ok (.invokevirtual 177, 3) ∧ decode cX6_fewest 13 = .ok (.ifCond .ne 6, 3) ∧ decode cX6_fewest 16 = .ok (.bipush (-5), 2) ∧ decode cX6_fewest 18 = .ok (.ireturn, 1) ∧ decode cX6_fewest 19 = .ok (.aload_n 0, 1) ∧ decode cX6_fewest 20 = .ok (.iload_n 1, 1) := by decide +kernel
theorem dX6_fewest_0 : decode cX6_fewest 0 = .ok (.aload_n 0, 1) := zd02dec3_168.1
theorem dX6_fewest_1 : decode cX6_fewest 1 = .ok (.iload_n 1, 1) := zd02dec3_168.2.1
theorem dX6_fewest_2 : decode cX6_fewest 2 = .ok (.invokevirtual 104, 3) := zd02dec3_168.2.2.1
theorem dX6_fewest_5 : decode cX6_fewest 5 = .ok (.ifCond .eq 11, 3) := zd02dec3_168.2.2.2.1
theorem dX6_fewest_8 : decode cX6_fewest 8 = .ok (.aload_n 0, 1) := zd02dec3_168.2.2.2.2.1
theorem dX6_fewest_9 : decode cX6_fewest 9 = .ok (.iload_n 2, 1) := zd02dec3_168.2.2.2.2.2.1
theorem dX6_fewest_10 : decode cX6_fewest 10 = .ok (.invokevirtual 177, 3) := zd02dec3_168.2.2.2.2.2.2.1
theorem dX6_fewest_13 : decode cX6_fewest 13 = .ok (.ifCond .ne 6, 3) := zd02dec3_168.2.2.2.2.2.2.2.1
theorem dX6_fewest_16 : decode cX6_fewest 16 = .ok (.bipush (-5), 2) := zd02dec3_168.2.2.2.2.2.2.2.2.1
theorem dX6_fewest_18 : decode cX6_fewest 18 = .ok (.ireturn, 1) := zd02dec3_168.2.2.2.2.2.2.2.2.2.1
theorem dX6_fewest_19 : decode cX6_fewest 19 = .ok (.aload_n 0, 1) := zd02dec3_168.2.2.2.2.2.2.2.2.2.2.1
theorem dX6_fewest_20 : decode cX6_fewest 20 = .ok (.iload_n 1, 1) := zd02dec3_168.2.2.2.2.2.2.2.2.2.2.2
theorem zd02dec3_169 : decode cX6_fewest 21 = .ok (.iload_n 2, 1) ∧ decode cX6_fewest 22 = .ok (.invokevirtual 228, 3) ∧ decode cX6_fewest 25 = .ok (.pop, 1) ∧ decode cX6_fewest 26 = .ok (.iconst 0, 1) ∧ decode cX6_fewest 27 = .ok (.istore_n 3, 1) ∧ decode cX6_fewest 28 = .ok (.iload_n 3, 1) ∧ decode cX6_fewest 29 = .ok (.bipush 60, 2) ∧ decode cX6_fewest 31 = .ok (.if_icmp .gt 20, 3) ∧ decode cX6_fewest 34 = .ok (.aload_n 0, 1) ∧ decode cX6_fewest 35 = .ok (.getfield 64, 3) ∧ decode cX6_fewest 38 = .ok (.iload_n 3, 1) ∧ decode cX6_fewest 39 = .ok (.baload, 1) := by decide +kernel
theorem dX6_fewest_21 : decode cX6_fewest 21 = .ok (.iload_n 2, 1) := zd02dec3_169.1
theorem dX6_fewest_22 : decode cX6_fewest 22 = .ok (.invokevirtual 228, 3) := zd02dec3_169.2.1
theorem dX6_fewest_25 : decode cX6_fewest 25 = .ok (.pop, 1) := zd02dec3_169.2.2.1
theorem dX6_fewest_26 : decode cX6_fewest 26 = .ok (.iconst 0, 1) := zd02dec3_169.2.2.2.1
theorem dX6_fewest_27 : decode cX6_fewest 27 = .ok (.istore_n 3, 1) := zd02dec3_169.2.2.2.2.1
theorem dX6_fewest_28 : decode cX6_fewest 28 = .ok (.iload_n 3, 1) := zd02dec3_169.2.2.2.2.2.1
theorem dX6_fewest_29 : decode cX6_fewest 29 = .ok (.bipush 60, 2) := zd02dec3_169.2.2.2.2.2.2.1
theorem dX6_fewest_31 : decode cX6_fewest 31 = .ok (.if_icmp .gt 20, 3) := zd02dec3_169.2.2.2.2.2.2.2.1
theorem dX6_fewest_34 : decode cX6_fewest 34 = .ok (.aload_n 0, 1) := zd02dec3_169.2.2.2.2.2.2.2.2.1
theorem dX6_fewest_35 : decode cX6_fewest 35 = .ok (.getfield 64, 3) := zd02dec3_169.2.2.2.2.2.2.2.2.2.1
theorem dX6_fewest_38 : decode cX6_fewest 38 = .ok (.iload_n 3, 1) := zd02dec3_169.2.2.2.2.2.2.2.2.2.2.1
theorem dX6_fewest_39 : decode cX6_fewest 39 = .ok (.baload, 1) := zd02dec3_169.2.2.2.2.2.2.2.2.2.2.2
theorem zd02dec3_170 : decode cX6_fewest 40 = .ok (.ifCond .eq 5, 3) ∧ decode cX6_fewest 43 = .ok (.iload_n 3, 1) ∧ decode cX6_fewest 44 = .ok (.ireturn, 1) ∧ decode cX6_fewest 45 = .ok (.iinc 3 1, 3) ∧ decode cX6_fewest 48 = .ok (.goto (-20), 3) ∧ decode cX6_fewest 51 = .ok (.iconst (-1), 1) ∧ decode cX6_fewest 52 = .ok (.ireturn, 1) := by decide +kernel
theorem dX6_fewest_40 : decode cX6_fewest 40 = .ok (.ifCond .eq 5, 3) := zd02dec3_170.1
theorem dX6_fewest_43 : decode cX6_fewest 43 = .ok (.iload_n 3, 1) := zd02dec3_170.2.1
theorem dX6_fewest_44 : decode cX6_fewest 44 = .ok (.ireturn, 1) := zd02dec3_170.2.2.1
theorem dX6_fewest_45 : decode cX6_fewest 45 = .ok (.iinc 3 1, 3) := zd02dec3_170.2.2.2.1
theorem dX6_fewest_48 : decode cX6_fewest 48 = .ok (.goto (-20), 3) := zd02dec3_170.2.2.2.2.1
theorem dX6_fewest_51 : decode cX6_fewest 51 = .ok (.iconst (-1), 1) := zd02dec3_170.2.2.2.2.2.1
theorem dX6_fewest_52 : decode cX6_fewest 52 = .ok (.ireturn, 1) := zd02dec3_170.2.2.2.2.2.2
theorem zd02dec3_171 : decode cX6_sand 0 = .ok (.aload_n 0, 1) ∧ decode cX6_sand 1 = .ok (.iload_n 1, 1) ∧ decode cX6_sand 2 = .ok (.invokevirtual 104, 3) ∧ decode cX6_sand 5 = .ok (.ifCond .eq 20, 3) ∧ decode cX6_sand 8 = .ok (.aload_n 0, 1) ∧ decode cX6_sand 9 = .ok (.iload_n 2, 1) ∧ decode cX6_sand 10 = .ok (.invokevirtual 177, 3) ∧ decode cX6_sand 13 = .ok (.ifCond .eq 12, 3) ∧ decode cX6_sand 16 = .ok (.aload_n 0, 1) ∧ decode cX6_sand 17 = .ok (.iload_n 1, 1) ∧ decode cX6_sand 18 = .ok (.iload_n 2, 1) ∧ decode cX6_sand 19 = .ok (.invokevirtual 228, 3) := by decide +kernel
theorem dX6_sand_0 : decode cX6_sand 0 = .ok (.aload_n 0, 1) := zd02dec3_171.1
theorem dX6_sand_1 : decode cX6_sand 1 = .ok (.iload_n 1, 1) := zd02dec3_171.2.1
theorem dX6_sand_2 : decode cX6_sand 2 = .ok (.invokevirtual 104, 3) := zd02dec3_171.2.2.1
theorem dX6_sand_5 : decode cX6_sand 5 = .ok (.ifCond .eq 20, 3) := zd02dec3_171.2.2.2.1
theorem dX6_sand_8 : decode cX6_sand 8 = .ok (.aload_n 0, 1) := zd02dec3_171.2.2.2.2.1
theorem dX6_sand_9 : decode cX6_sand 9 = .ok (.iload_n 2, 1) := zd02dec3_171.2.2.2.2.2.1
theorem dX6_sand_10 : decode cX6_sand 10 = .ok (.invokevirtual 177, 3) := zd02dec3_171.2.2.2.2.2.2.1
theorem dX6_sand_13 : decode cX6_sand 13 = .ok (.ifCond .eq 12, 3) := zd02dec3_171.2.2.2.2.2.2.2.1
theorem dX6_sand_16 : decode cX6_sand 16 = .ok (.aload_n 0, 1) := zd02dec3_171.2.2.2.2.2.2.2.2.1
theorem dX6_sand_17 : decode cX6_sand 17 = .ok (.iload_n 1, 1) := zd02dec3_171.2.2.2.2.2.2.2.2.2.1
theorem dX6_sand_18 : decode cX6_sand 18 = .ok (.iload_n 2, 1) := zd02dec3_171.2.2.2.2.2.2.2.2.2.2.1
theorem dX6_sand_19 : decode cX6_sand 19 = .ok (.invokevirtual 228, 3) := zd02dec3_171.2.2.2.2.2.2.2.2.2.2.2
theorem zd02dec3_172 : decode cX6_sand 22 = .ok (.goto 5, 3) ∧ decode cX6_sand 25 = .ok (.bipush (-5), 2) ∧ decode cX6_sand 27 = .ok (.ireturn, 1) := by decide +kernel
theorem dX6_sand_22 : decode cX6_sand 22 = .ok (.goto 5, 3) := zd02dec3_172.1
theorem dX6_sand_25 : decode cX6_sand 25 = .ok (.bipush (-5), 2) := zd02dec3_172.2.1
theorem dX6_sand_27 : decode cX6_sand 27 = .ok (.ireturn, 1) := zd02dec3_172.2.2
theorem zd02dec3_173 : decode cX6_unlike 0 = .ok (.aload_n 0, 1) ∧ decode cX6_unlike 1 = .ok (.iload_n 1, 1) ∧ decode cX6_unlike 2 = .ok (.invokevirtual 104, 3) ∧ decode cX6_unlike 5 = .ok (.ifCond .eq 24, 3) ∧ decode cX6_unlike 8 = .ok (.aload_n 0, 1) ∧ decode cX6_unlike 9 = .ok (.iload_n 2, 1) ∧ decode cX6_unlike 10 = .ok (.invokevirtual 104, 3) ∧ decode cX6_unlike 13 = .ok (.ifCond .eq 16, 3) ∧ decode cX6_unlike 16 = .ok (.iload_n 1, 1) ∧ decode cX6_unlike 17 = .ok (.iload_n 2, 1) ∧ decode cX6_unlike 18 = .ok (.if_icmp .eq 11, 3) ∧ decode cX6_unlike 21 = .ok (.aload_n 0, 1) := by decide +kernel
theorem dX6_unlike_0 : decode cX6_unlike 0 = .ok (.aload_n 0, 1) := zd02dec3_173.1
theorem dX6_unlike_1 : decode cX6_unlike 1 = .ok (.iload_n 1, 1) := zd02dec3_173.2.1
theorem dX6_unlike_2 : decode cX6_unlike 2 = .ok (.invokevirtual 104, 3) := zd02dec3_173.2.2.1
theorem dX6_unlike_5 : decode cX6_unlike 5 = .ok (.ifCond .eq 24, 3) := zd02dec3_173.2.2.2.1
theorem dX6_unlike_8 : decode cX6_unlike 8 = .ok (.aload_n 0, 1) := zd02dec3_173.2.2.2.2.1
theorem dX6_unlike_9 : decode cX6_unlike 9 = .ok (.iload_n 2, 1) := zd02dec3_173.2.2.2.2.2.1
theorem dX6_unlike_10 : decode cX6_unlike 10 = .ok (.invokevirtual 104, 3) := zd02dec3_173.2.2.2.2.2.2.1
theorem dX6_unlike_13 : decode cX6_unlike 13 = .ok (.ifCond .eq 16, 3) := zd02dec3_173.2.2.2.2.2.2.2.1
theorem dX6_unlike_16 : decode cX6_unlike 16 = .ok (.iload_n 1, 1) := zd02dec3_173.2.2.2.2.2.2.2.2.1
theorem dX6_unlike_17 : decode cX6_unlike 17 = .ok (.iload_n 2, 1) := zd02dec3_173.2.2.2.2.2.2.2.2.2.1
theorem dX6_unlike_18 : decode cX6_unlike 18 = .ok (.if_icmp .eq 11, 3) := zd02dec3_173.2.2.2.2.2.2.2.2.2.2.1
theorem dX6_unlike_21 : decode cX6_unlike 21 = .ok (.aload_n 0, 1) := zd02dec3_173.2.2.2.2.2.2.2.2.2.2.2
theorem zd02dec3_174 : decode cX6_unlike 22 = .ok (.iload_n 3, 1) ∧ decode cX6_unlike 23 = .ok (.invokevirtual 177, 3) ∧ decode cX6_unlike 26 = .ok (.ifCond .ne 6, 3) ∧ decode cX6_unlike 29 = .ok (.bipush (-5), 2) ∧ decode cX6_unlike 31 = .ok (.ireturn, 1) ∧ decode cX6_unlike 32 = .ok (.aload_n 0, 1) ∧ decode cX6_unlike 33 = .ok (.iload_n 1, 1) ∧ decode cX6_unlike 34 = .ok (.iload_n 3, 1) ∧ decode cX6_unlike 35 = .ok (.invokevirtual 228, 3) ∧ decode cX6_unlike 38 = .ok (.pop, 1) ∧ decode cX6_unlike 39 = .ok (.iconst 0, 1) ∧ decode cX6_unlike 40 = .ok (.istore 4, 2) := by decide +kernel
theorem dX6_unlike_22 : decode cX6_unlike 22 = .ok (.iload_n 3, 1) := zd02dec3_174.1
theorem dX6_unlike_23 : decode cX6_unlike 23 = .ok (.invokevirtual 177, 3) := zd02dec3_174.2.1
theorem dX6_unlike_26 : decode cX6_unlike 26 = .ok (.ifCond .ne 6, 3) := zd02dec3_174.2.2.1
theorem dX6_unlike_29 : decode cX6_unlike 29 = .ok (.bipush (-5), 2) := zd02dec3_174.2.2.2.1
theorem dX6_unlike_31 : decode cX6_unlike 31 = .ok (.ireturn, 1) := zd02dec3_174.2.2.2.2.1
theorem dX6_unlike_32 : decode cX6_unlike 32 = .ok (.aload_n 0, 1) := zd02dec3_174.2.2.2.2.2.1
theorem dX6_unlike_33 : decode cX6_unlike 33 = .ok (.iload_n 1, 1) := zd02dec3_174.2.2.2.2.2.2.1
theorem dX6_unlike_34 : decode cX6_unlike 34 = .ok (.iload_n 3, 1) := zd02dec3_174.2.2.2.2.2.2.2.1
theorem dX6_unlike_35 : decode cX6_unlike 35 = .ok (.invokevirtual 228, 3) := zd02dec3_174.2.2.2.2.2.2.2.2.1
theorem dX6_unlike_38 : decode cX6_unlike 38 = .ok (.pop, 1) := zd02dec3_174.2.2.2.2.2.2.2.2.2.1
theorem dX6_unlike_39 : decode cX6_unlike 39 = .ok (.iconst 0, 1) := zd02dec3_174.2.2.2.2.2.2.2.2.2.2.1
theorem dX6_unlike_40 : decode cX6_unlike 40 = .ok (.istore 4, 2) := zd02dec3_174.2.2.2.2.2.2.2.2.2.2.2
theorem zd02dec3_175 : decode cX6_unlike 42 = .ok (.iload 4, 2) ∧ decode cX6_unlike 44 = .ok (.bipush 60, 2) ∧ decode cX6_unlike 46 = .ok (.if_icmp .gt 23, 3) ∧ decode cX6_unlike 49 = .ok (.aload_n 0, 1) ∧ decode cX6_unlike 50 = .ok (.getfield 68, 3) ∧ decode cX6_unlike 53 = .ok (.iload 4, 2) ∧ decode cX6_unlike 55 = .ok (.aload_n 0, 1) ∧ decode cX6_unlike 56 = .ok (.getfield 64, 3) ∧ decode cX6_unlike 59 = .ok (.iload 4, 2) ∧ decode cX6_unlike 61 = .ok (.baload, 1) ∧ decode cX6_unlike 62 = .ok (.bastore, 1) ∧ decode cX6_unlike 63 = .ok (.iinc 4 1, 3) := by decide +kernel
theorem dX6_unlike_42 : decode cX6_unlike 42 = .ok (.iload 4, 2) := zd02dec3_175.1
theorem dX6_unlike_44 : decode cX6_unlike 44 = .ok (.bipush 60, 2) := zd02dec3_175.2.1
theorem dX6_unlike_46 : decode cX6_unlike 46 = .ok (.if_icmp .gt 23, 3) := zd02dec3_175.2.2.1
theorem dX6_unlike_49 : decode cX6_unlike 49 = .ok (.aload_n 0, 1) := zd02dec3_175.2.2.2.1
theorem dX6_unlike_50 : decode cX6_unlike 50 = .ok (.getfield 68, 3) := zd02dec3_175.2.2.2.2.1
theorem dX6_unlike_53 : decode cX6_unlike 53 = .ok (.iload 4, 2) := zd02dec3_175.2.2.2.2.2.1
theorem dX6_unlike_55 : decode cX6_unlike 55 = .ok (.aload_n 0, 1) := zd02dec3_175.2.2.2.2.2.2.1
theorem dX6_unlike_56 : decode cX6_unlike 56 = .ok (.getfield 64, 3) := zd02dec3_175.2.2.2.2.2.2.2.1
theorem dX6_unlike_59 : decode cX6_unlike 59 = .ok (.iload 4, 2) := zd02dec3_175.2.2.2.2.2.2.2.2.1
theorem dX6_unlike_61 : decode cX6_unlike 61 = .ok (.baload, 1) := zd02dec3_175.2.2.2.2.2.2.2.2.2.1
theorem dX6_unlike_62 : decode cX6_unlike 62 = .ok (.bastore, 1) := zd02dec3_175.2.2.2.2.2.2.2.2.2.2.1
theorem dX6_unlike_63 : decode cX6_unlike 63 = .ok (.iinc 4 1, 3) := zd02dec3_175.2.2.2.2.2.2.2.2.2.2.2
theorem zd02dec3_176 : decode cX6_unlike 66 = .ok (.goto (-24), 3) ∧ decode cX6_unlike 69 = .ok (.aload_n 0, 1) ∧ decode cX6_unlike 70 = .ok (.iload_n 2, 1) ∧ decode cX6_unlike 71 = .ok (.iload_n 3, 1) ∧ decode cX6_unlike 72 = .ok (.invokevirtual 228, 3) ∧ decode cX6_unlike 75 = .ok (.pop, 1) ∧ decode cX6_unlike 76 = .ok (.iconst 0, 1) ∧ decode cX6_unlike 77 = .ok (.istore 4, 2) ∧ decode cX6_unlike 79 = .ok (.iload 4, 2) ∧ decode cX6_unlike 81 = .ok (.bipush 60, 2) ∧ decode cX6_unlike 83 = .ok (.if_icmp .gt 32, 3) ∧ decode cX6_unlike 86 = .ok (.aload_n 0, 1) := by decide +kernel
theorem dX6_unlike_66 : decode cX6_unlike 66 = .ok (.goto (-24), 3) := zd02dec3_176.1
theorem dX6_unlike_69 : decode cX6_unlike 69 = .ok (.aload_n 0, 1) := zd02dec3_176.2.1
theorem dX6_unlike_70 : decode cX6_unlike 70 = .ok (.iload_n 2, 1) := zd02dec3_176.2.2.1
theorem dX6_unlike_71 : decode cX6_unlike 71 = .ok (.iload_n 3, 1) := zd02dec3_176.2.2.2.1
theorem dX6_unlike_72 : decode cX6_unlike 72 = .ok (.invokevirtual 228, 3) := zd02dec3_176.2.2.2.2.1
theorem dX6_unlike_75 : decode cX6_unlike 75 = .ok (.pop, 1) := zd02dec3_176.2.2.2.2.2.1
theorem dX6_unlike_76 : decode cX6_unlike 76 = .ok (.iconst 0, 1) := zd02dec3_176.2.2.2.2.2.2.1
theorem dX6_unlike_77 : decode cX6_unlike 77 = .ok (.istore 4, 2) := zd02dec3_176.2.2.2.2.2.2.2.1
theorem dX6_unlike_79 : decode cX6_unlike 79 = .ok (.iload 4, 2) := zd02dec3_176.2.2.2.2.2.2.2.2.1
theorem dX6_unlike_81 : decode cX6_unlike 81 = .ok (.bipush 60, 2) := zd02dec3_176.2.2.2.2.2.2.2.2.2.1
theorem dX6_unlike_83 : decode cX6_unlike 83 = .ok (.if_icmp .gt 32, 3) := zd02dec3_176.2.2.2.2.2.2.2.2.2.2.1
theorem dX6_unlike_86 : decode cX6_unlike 86 = .ok (.aload_n 0, 1) := zd02dec3_176.2.2.2.2.2.2.2.2.2.2.2
theorem zd02dec3_177 : decode cX6_unlike 87 = .ok (.getfield 68, 3) ∧ decode cX6_unlike 90 = .ok (.iload 4, 2) ∧ decode cX6_unlike 92 = .ok (.baload, 1) ∧ decode cX6_unlike 93 = .ok (.ifCond .eq 16, 3) ∧ decode cX6_unlike 96 = .ok (.aload_n 0, 1) ∧ decode cX6_unlike 97 = .ok (.getfield 64, 3) ∧ decode cX6_unlike 100 = .ok (.iload 4, 2) ∧ decode cX6_unlike 102 = .ok (.baload, 1) ∧ decode cX6_unlike 103 = .ok (.ifCond .ne 6, 3) ∧ decode cX6_unlike 106 = .ok (.iload 4, 2) ∧ decode cX6_unlike 108 = .ok (.ireturn, 1) ∧ decode cX6_unlike 109 = .ok (.iinc 4 1, 3) := by decide +kernel
theorem dX6_unlike_87 : decode cX6_unlike 87 = .ok (.getfield 68, 3) := zd02dec3_177.1
theorem dX6_unlike_90 : decode cX6_unlike 90 = .ok (.iload 4, 2) := zd02dec3_177.2.1
theorem dX6_unlike_92 : decode cX6_unlike 92 = .ok (.baload, 1) := zd02dec3_177.2.2.1
theorem dX6_unlike_93 : decode cX6_unlike 93 = .ok (.ifCond .eq 16, 3) := zd02dec3_177.2.2.2.1
theorem dX6_unlike_96 : decode cX6_unlike 96 = .ok (.aload_n 0, 1) := zd02dec3_177.2.2.2.2.1
theorem dX6_unlike_97 : decode cX6_unlike 97 = .ok (.getfield 64, 3) := zd02dec3_177.2.2.2.2.2.1
theorem dX6_unlike_100 : decode cX6_unlike 100 = .ok (.iload 4, 2) := zd02dec3_177.2.2.2.2.2.2.1
theorem dX6_unlike_102 : decode cX6_unlike 102 = .ok (.baload, 1) := zd02dec3_177.2.2.2.2.2.2.2.1
theorem dX6_unlike_103 : decode cX6_unlike 103 = .ok (.ifCond .ne 6, 3) := zd02dec3_177.2.2.2.2.2.2.2.2.1
theorem dX6_unlike_106 : decode cX6_unlike 106 = .ok (.iload 4, 2) := zd02dec3_177.2.2.2.2.2.2.2.2.2.1
theorem dX6_unlike_108 : decode cX6_unlike 108 = .ok (.ireturn, 1) := zd02dec3_177.2.2.2.2.2.2.2.2.2.2.1
theorem dX6_unlike_109 : decode cX6_unlike 109 = .ok (.iinc 4 1, 3) := zd02dec3_177.2.2.2.2.2.2.2.2.2.2.2
theorem zd02dec3_178 : decode cX6_unlike 112 = .ok (.goto (-33), 3) ∧ decode cX6_unlike 115 = .ok (.iconst (-1), 1) ∧ decode cX6_unlike 116 = .ok (.ireturn, 1) := by decide +kernel
theorem dX6_unlike_112 : decode cX6_unlike 112 = .ok (.goto (-33), 3) := zd02dec3_178.1
theorem dX6_unlike_115 : decode cX6_unlike 115 = .ok (.iconst (-1), 1) := zd02dec3_178.2.1
theorem dX6_unlike_116 : decode cX6_unlike 116 = .ok (.ireturn, 1) := zd02dec3_178.2.2
theorem zd02dec3_179 : decode cX6_hardest 0 = .ok (.iload_n 1, 1) ∧ decode cX6_hardest 1 = .ok (.invokestatic 196, 3) ∧ decode cX6_hardest 4 = .ok (.ifCond .eq 12, 3) ∧ decode cX6_hardest 7 = .ok (.iload_n 2, 1) ∧ decode cX6_hardest 8 = .ok (.iconst 0, 1) ∧ decode cX6_hardest 9 = .ok (.iconst 1, 1) ∧ decode cX6_hardest 10 = .ok (.invokestatic 91, 3) ∧ decode cX6_hardest 13 = .ok (.ifCond .ne 6, 3) ∧ decode cX6_hardest 16 = .ok (.bipush (-2), 2) ∧ decode cX6_hardest 18 = .ok (.ireturn, 1) ∧ decode cX6_hardest 19 = .ok (.iconst (-1), 1) ∧ decode cX6_hardest 20 = .ok (.istore_n 3, 1) := by decide +kernel
theorem dX6_hardest_0 : decode cX6_hardest 0 = .ok (.iload_n 1, 1) := zd02dec3_179.1
theorem dX6_hardest_1 : decode cX6_hardest 1 = .ok (.invokestatic 196, 3) := zd02dec3_179.2.1
theorem dX6_hardest_4 : decode cX6_hardest 4 = .ok (.ifCond .eq 12, 3) := zd02dec3_179.2.2.1
theorem dX6_hardest_7 : decode cX6_hardest 7 = .ok (.iload_n 2, 1) := zd02dec3_179.2.2.2.1
theorem dX6_hardest_8 : decode cX6_hardest 8 = .ok (.iconst 0, 1) := zd02dec3_179.2.2.2.2.1
theorem dX6_hardest_9 : decode cX6_hardest 9 = .ok (.iconst 1, 1) := zd02dec3_179.2.2.2.2.2.1
theorem dX6_hardest_10 : decode cX6_hardest 10 = .ok (.invokestatic 91, 3) := zd02dec3_179.2.2.2.2.2.2.1
theorem dX6_hardest_13 : decode cX6_hardest 13 = .ok (.ifCond .ne 6, 3) := zd02dec3_179.2.2.2.2.2.2.2.1
theorem dX6_hardest_16 : decode cX6_hardest 16 = .ok (.bipush (-2), 2) := zd02dec3_179.2.2.2.2.2.2.2.2.1
theorem dX6_hardest_18 : decode cX6_hardest 18 = .ok (.ireturn, 1) := zd02dec3_179.2.2.2.2.2.2.2.2.2.1
theorem dX6_hardest_19 : decode cX6_hardest 19 = .ok (.iconst (-1), 1) := zd02dec3_179.2.2.2.2.2.2.2.2.2.2.1
theorem dX6_hardest_20 : decode cX6_hardest 20 = .ok (.istore_n 3, 1) := zd02dec3_179.2.2.2.2.2.2.2.2.2.2.2
theorem zd02dec3_180 : decode cX6_hardest 21 = .ok (.iconst (-1), 1) ∧ decode cX6_hardest 22 = .ok (.istore 4, 2) ∧ decode cX6_hardest 24 = .ok (.iconst 0, 1) ∧ decode cX6_hardest 25 = .ok (.istore 5, 2) ∧ decode cX6_hardest 27 = .ok (.iload 5, 2) ∧ decode cX6_hardest 29 = .ok (.aload_n 0, 1) ∧ decode cX6_hardest 30 = .ok (.getfield 95, 3) ∧ decode cX6_hardest 33 = .ok (.if_icmp .ge 86, 3) ∧ decode cX6_hardest 36 = .ok (.iconst 0, 1) ∧ decode cX6_hardest 37 = .ok (.istore 6, 2) ∧ decode cX6_hardest 39 = .ok (.iconst 0, 1) ∧ decode cX6_hardest 40 = .ok (.istore 7, 2) := by decide +kernel
theorem dX6_hardest_21 : decode cX6_hardest 21 = .ok (.iconst (-1), 1) := zd02dec3_180.1
theorem dX6_hardest_22 : decode cX6_hardest 22 = .ok (.istore 4, 2) := zd02dec3_180.2.1
theorem dX6_hardest_24 : decode cX6_hardest 24 = .ok (.iconst 0, 1) := zd02dec3_180.2.2.1
theorem dX6_hardest_25 : decode cX6_hardest 25 = .ok (.istore 5, 2) := zd02dec3_180.2.2.2.1
theorem dX6_hardest_27 : decode cX6_hardest 27 = .ok (.iload 5, 2) := zd02dec3_180.2.2.2.2.1
theorem dX6_hardest_29 : decode cX6_hardest 29 = .ok (.aload_n 0, 1) := zd02dec3_180.2.2.2.2.2.1
theorem dX6_hardest_30 : decode cX6_hardest 30 = .ok (.getfield 95, 3) := zd02dec3_180.2.2.2.2.2.2.1
theorem dX6_hardest_33 : decode cX6_hardest 33 = .ok (.if_icmp .ge 86, 3) := zd02dec3_180.2.2.2.2.2.2.2.1
theorem dX6_hardest_36 : decode cX6_hardest 36 = .ok (.iconst 0, 1) := zd02dec3_180.2.2.2.2.2.2.2.2.1
theorem dX6_hardest_37 : decode cX6_hardest 37 = .ok (.istore 6, 2) := zd02dec3_180.2.2.2.2.2.2.2.2.2.1
theorem dX6_hardest_39 : decode cX6_hardest 39 = .ok (.iconst 0, 1) := zd02dec3_180.2.2.2.2.2.2.2.2.2.2.1
theorem dX6_hardest_40 : decode cX6_hardest 40 = .ok (.istore 7, 2) := zd02dec3_180.2.2.2.2.2.2.2.2.2.2.2
theorem zd02dec3_181 : decode cX6_hardest 42 = .ok (.iload 7, 2) ∧ decode cX6_hardest 44 = .ok (.aload_n 0, 1) ∧ decode cX6_hardest 45 = .ok (.getfield 88, 3) ∧ decode cX6_hardest 48 = .ok (.if_icmp .ge 35, 3) ∧ decode cX6_hardest 51 = .ok (.aload_n 0, 1) ∧ decode cX6_hardest 52 = .ok (.iload 5, 2) ∧ decode cX6_hardest 54 = .ok (.iload 7, 2) ∧ decode cX6_hardest 56 = .ok (.iload_n 1, 1) ∧ decode cX6_hardest 57 = .ok (.invokevirtual 221, 3) ∧ decode cX6_hardest 60 = .ok (.iload 6, 2) ∧ decode cX6_hardest 62 = .ok (.aload_n 0, 1) ∧ decode cX6_hardest 63 = .ok (.getfield 214, 3) := by decide +kernel
theorem dX6_hardest_42 : decode cX6_hardest 42 = .ok (.iload 7, 2) := zd02dec3_181.1
theorem dX6_hardest_44 : decode cX6_hardest 44 = .ok (.aload_n 0, 1) := zd02dec3_181.2.1
theorem dX6_hardest_45 : decode cX6_hardest 45 = .ok (.getfield 88, 3) := zd02dec3_181.2.2.1
theorem dX6_hardest_48 : decode cX6_hardest 48 = .ok (.if_icmp .ge 35, 3) := zd02dec3_181.2.2.2.1
theorem dX6_hardest_51 : decode cX6_hardest 51 = .ok (.aload_n 0, 1) := zd02dec3_181.2.2.2.2.1
theorem dX6_hardest_52 : decode cX6_hardest 52 = .ok (.iload 5, 2) := zd02dec3_181.2.2.2.2.2.1
theorem dX6_hardest_54 : decode cX6_hardest 54 = .ok (.iload 7, 2) := zd02dec3_181.2.2.2.2.2.2.1
theorem dX6_hardest_56 : decode cX6_hardest 56 = .ok (.iload_n 1, 1) := zd02dec3_181.2.2.2.2.2.2.2.1
theorem dX6_hardest_57 : decode cX6_hardest 57 = .ok (.invokevirtual 221, 3) := zd02dec3_181.2.2.2.2.2.2.2.2.1
theorem dX6_hardest_60 : decode cX6_hardest 60 = .ok (.iload 6, 2) := zd02dec3_181.2.2.2.2.2.2.2.2.2.1
theorem dX6_hardest_62 : decode cX6_hardest 62 = .ok (.aload_n 0, 1) := zd02dec3_181.2.2.2.2.2.2.2.2.2.2.1
theorem dX6_hardest_63 : decode cX6_hardest 63 = .ok (.getfield 214, 3) := zd02dec3_181.2.2.2.2.2.2.2.2.2.2.2
theorem zd02dec3_182 : decode cX6_hardest 66 = .ok (.ifCond .eq 7, 3) ∧ decode cX6_hardest 69 = .ok (.iconst 1, 1) ∧ decode cX6_hardest 70 = .ok (.goto 4, 3) ∧ decode cX6_hardest 73 = .ok (.iconst 0, 1) ∧ decode cX6_hardest 74 = .ok (.iadd, 1) ∧ decode cX6_hardest 75 = .ok (.istore 6, 2) ∧ decode cX6_hardest 77 = .ok (.iinc 7 1, 3) ∧ decode cX6_hardest 80 = .ok (.goto (-38), 3) ∧ decode cX6_hardest 83 = .ok (.iload 6, 2) ∧ decode cX6_hardest 85 = .ok (.iload 4, 2) ∧ decode cX6_hardest 87 = .ok (.if_icmp .le 8, 3) ∧ decode cX6_hardest 90 = .ok (.iload 5, 2) := by decide +kernel
theorem dX6_hardest_66 : decode cX6_hardest 66 = .ok (.ifCond .eq 7, 3) := zd02dec3_182.1
theorem dX6_hardest_69 : decode cX6_hardest 69 = .ok (.iconst 1, 1) := zd02dec3_182.2.1
theorem dX6_hardest_70 : decode cX6_hardest 70 = .ok (.goto 4, 3) := zd02dec3_182.2.2.1
theorem dX6_hardest_73 : decode cX6_hardest 73 = .ok (.iconst 0, 1) := zd02dec3_182.2.2.2.1
theorem dX6_hardest_74 : decode cX6_hardest 74 = .ok (.iadd, 1) := zd02dec3_182.2.2.2.2.1
theorem dX6_hardest_75 : decode cX6_hardest 75 = .ok (.istore 6, 2) := zd02dec3_182.2.2.2.2.2.1
theorem dX6_hardest_77 : decode cX6_hardest 77 = .ok (.iinc 7 1, 3) := zd02dec3_182.2.2.2.2.2.2.1
theorem dX6_hardest_80 : decode cX6_hardest 80 = .ok (.goto (-38), 3) := zd02dec3_182.2.2.2.2.2.2.2.1
theorem dX6_hardest_83 : decode cX6_hardest 83 = .ok (.iload 6, 2) := zd02dec3_182.2.2.2.2.2.2.2.2.1
theorem dX6_hardest_85 : decode cX6_hardest 85 = .ok (.iload 4, 2) := zd02dec3_182.2.2.2.2.2.2.2.2.2.1
theorem dX6_hardest_87 : decode cX6_hardest 87 = .ok (.if_icmp .le 8, 3) := zd02dec3_182.2.2.2.2.2.2.2.2.2.2.1
theorem dX6_hardest_90 : decode cX6_hardest 90 = .ok (.iload 5, 2) := zd02dec3_182.2.2.2.2.2.2.2.2.2.2.2
theorem zd02dec3_183 : decode cX6_hardest 92 = .ok (.goto 4, 3) ∧ decode cX6_hardest 95 = .ok (.iload_n 3, 1) ∧ decode cX6_hardest 96 = .ok (.istore_n 3, 1) ∧ decode cX6_hardest 97 = .ok (.iload 6, 2) ∧ decode cX6_hardest 99 = .ok (.iload 4, 2) ∧ decode cX6_hardest 101 = .ok (.if_icmp .le 8, 3) ∧ decode cX6_hardest 104 = .ok (.iload 6, 2) ∧ decode cX6_hardest 106 = .ok (.goto 5, 3) ∧ decode cX6_hardest 109 = .ok (.iload 4, 2) ∧ decode cX6_hardest 111 = .ok (.istore 4, 2) ∧ decode cX6_hardest 113 = .ok (.iinc 5 1, 3) ∧ decode cX6_hardest 116 = .ok (.goto (-89), 3) := by decide +kernel
theorem dX6_hardest_92 : decode cX6_hardest 92 = .ok (.goto 4, 3) := zd02dec3_183.1
theorem dX6_hardest_95 : decode cX6_hardest 95 = .ok (.iload_n 3, 1) := zd02dec3_183.2.1
theorem dX6_hardest_96 : decode cX6_hardest 96 = .ok (.istore_n 3, 1) := zd02dec3_183.2.2.1
theorem dX6_hardest_97 : decode cX6_hardest 97 = .ok (.iload 6, 2) := zd02dec3_183.2.2.2.1
theorem dX6_hardest_99 : decode cX6_hardest 99 = .ok (.iload 4, 2) := zd02dec3_183.2.2.2.2.1
theorem dX6_hardest_101 : decode cX6_hardest 101 = .ok (.if_icmp .le 8, 3) := zd02dec3_183.2.2.2.2.2.1
theorem dX6_hardest_104 : decode cX6_hardest 104 = .ok (.iload 6, 2) := zd02dec3_183.2.2.2.2.2.2.1
theorem dX6_hardest_106 : decode cX6_hardest 106 = .ok (.goto 5, 3) := zd02dec3_183.2.2.2.2.2.2.2.1
theorem dX6_hardest_109 : decode cX6_hardest 109 = .ok (.iload 4, 2) := zd02dec3_183.2.2.2.2.2.2.2.2.1
theorem dX6_hardest_111 : decode cX6_hardest 111 = .ok (.istore 4, 2) := zd02dec3_183.2.2.2.2.2.2.2.2.2.1
theorem dX6_hardest_113 : decode cX6_hardest 113 = .ok (.iinc 5 1, 3) := zd02dec3_183.2.2.2.2.2.2.2.2.2.2.1
theorem dX6_hardest_116 : decode cX6_hardest 116 = .ok (.goto (-89), 3) := zd02dec3_183.2.2.2.2.2.2.2.2.2.2.2
theorem zd02dec3_184 : decode cX6_hardest 119 = .ok (.iload_n 2, 1) ∧ decode cX6_hardest 120 = .ok (.ifCond .ne 7, 3) ∧ decode cX6_hardest 123 = .ok (.iload_n 3, 1) ∧ decode cX6_hardest 124 = .ok (.goto 5, 3) ∧ decode cX6_hardest 127 = .ok (.iload 4, 2) ∧ decode cX6_hardest 129 = .ok (.ireturn, 1) := by decide +kernel
theorem dX6_hardest_119 : decode cX6_hardest 119 = .ok (.iload_n 2, 1) := zd02dec3_184.1
theorem dX6_hardest_120 : decode cX6_hardest 120 = .ok (.ifCond .ne 7, 3) := zd02dec3_184.2.1
theorem dX6_hardest_123 : decode cX6_hardest 123 = .ok (.iload_n 3, 1) := zd02dec3_184.2.2.1
theorem dX6_hardest_124 : decode cX6_hardest 124 = .ok (.goto 5, 3) := zd02dec3_184.2.2.2.1
theorem dX6_hardest_127 : decode cX6_hardest 127 = .ok (.iload 4, 2) := zd02dec3_184.2.2.2.2.1
theorem dX6_hardest_129 : decode cX6_hardest 129 = .ok (.ireturn, 1) := zd02dec3_184.2.2.2.2.2
theorem zd02dec3_185 : decode cX6_thick 0 = .ok (.aload_n 0, 1) ∧ decode cX6_thick 1 = .ok (.iload_n 1, 1) ∧ decode cX6_thick 2 = .ok (.invokevirtual 104, 3) ∧ decode cX6_thick 5 = .ok (.ifCond .eq 11, 3) ∧ decode cX6_thick 8 = .ok (.aload_n 0, 1) ∧ decode cX6_thick 9 = .ok (.iload_n 2, 1) ∧ decode cX6_thick 10 = .ok (.invokevirtual 177, 3) ∧ decode cX6_thick 13 = .ok (.ifCond .ne 6, 3) ∧ decode cX6_thick 16 = .ok (.bipush (-5), 2) ∧ decode cX6_thick 18 = .ok (.ireturn, 1) ∧ decode cX6_thick 19 = .ok (.iload_n 3, 1) ∧ decode cX6_thick 20 = .ok (.invokestatic 196, 3) := by decide +kernel
theorem dX6_thick_0 : decode cX6_thick 0 = .ok (.aload_n 0, 1) := zd02dec3_185.1
theorem dX6_thick_1 : decode cX6_thick 1 = .ok (.iload_n 1, 1) := zd02dec3_185.2.1
theorem dX6_thick_2 : decode cX6_thick 2 = .ok (.invokevirtual 104, 3) := zd02dec3_185.2.2.1
theorem dX6_thick_5 : decode cX6_thick 5 = .ok (.ifCond .eq 11, 3) := zd02dec3_185.2.2.2.1
theorem dX6_thick_8 : decode cX6_thick 8 = .ok (.aload_n 0, 1) := zd02dec3_185.2.2.2.2.1
theorem dX6_thick_9 : decode cX6_thick 9 = .ok (.iload_n 2, 1) := zd02dec3_185.2.2.2.2.2.1
theorem dX6_thick_10 : decode cX6_thick 10 = .ok (.invokevirtual 177, 3) := zd02dec3_185.2.2.2.2.2.2.1
theorem dX6_thick_13 : decode cX6_thick 13 = .ok (.ifCond .ne 6, 3) := zd02dec3_185.2.2.2.2.2.2.2.1
theorem dX6_thick_16 : decode cX6_thick 16 = .ok (.bipush (-5), 2) := zd02dec3_185.2.2.2.2.2.2.2.2.1
theorem dX6_thick_18 : decode cX6_thick 18 = .ok (.ireturn, 1) := zd02dec3_185.2.2.2.2.2.2.2.2.2.1
theorem dX6_thick_19 : decode cX6_thick 19 = .ok (.iload_n 3, 1) := zd02dec3_185.2.2.2.2.2.2.2.2.2.2.1
theorem dX6_thick_20 : decode cX6_thick 20 = .ok (.invokestatic 196, 3) := zd02dec3_185.2.2.2.2.2.2.2.2.2.2.2
theorem zd02dec3_186 : decode cX6_thick 23 = .ok (.ifCond .ne 6, 3) ∧ decode cX6_thick 26 = .ok (.bipush (-7), 2) ∧ decode cX6_thick 28 = .ok (.ireturn, 1) ∧ decode cX6_thick 29 = .ok (.aload_n 0, 1) ∧ decode cX6_thick 30 = .ok (.getfield 19, 3) ∧ decode cX6_thick 33 = .ok (.iconst 3, 1) ∧ decode cX6_thick 34 = .ok (.iload_n 1, 1) ∧ decode cX6_thick 35 = .ok (.imul, 1) ∧ decode cX6_thick 36 = .ok (.iaload, 1) ∧ decode cX6_thick 37 = .ok (.istore 4, 2) ∧ decode cX6_thick 39 = .ok (.iconst (-1), 1) ∧ decode cX6_thick 40 = .ok (.istore 5, 2) := by decide +kernel
theorem dX6_thick_23 : decode cX6_thick 23 = .ok (.ifCond .ne 6, 3) := zd02dec3_186.1
theorem dX6_thick_26 : decode cX6_thick 26 = .ok (.bipush (-7), 2) := zd02dec3_186.2.1
theorem dX6_thick_28 : decode cX6_thick 28 = .ok (.ireturn, 1) := zd02dec3_186.2.2.1
theorem dX6_thick_29 : decode cX6_thick 29 = .ok (.aload_n 0, 1) := zd02dec3_186.2.2.2.1
theorem dX6_thick_30 : decode cX6_thick 30 = .ok (.getfield 19, 3) := zd02dec3_186.2.2.2.2.1
theorem dX6_thick_33 : decode cX6_thick 33 = .ok (.iconst 3, 1) := zd02dec3_186.2.2.2.2.2.1
theorem dX6_thick_34 : decode cX6_thick 34 = .ok (.iload_n 1, 1) := zd02dec3_186.2.2.2.2.2.2.1
theorem dX6_thick_35 : decode cX6_thick 35 = .ok (.imul, 1) := zd02dec3_186.2.2.2.2.2.2.2.1
theorem dX6_thick_36 : decode cX6_thick 36 = .ok (.iaload, 1) := zd02dec3_186.2.2.2.2.2.2.2.2.1
theorem dX6_thick_37 : decode cX6_thick 37 = .ok (.istore 4, 2) := zd02dec3_186.2.2.2.2.2.2.2.2.2.1
theorem dX6_thick_39 : decode cX6_thick 39 = .ok (.iconst (-1), 1) := zd02dec3_186.2.2.2.2.2.2.2.2.2.2.1
theorem dX6_thick_40 : decode cX6_thick 40 = .ok (.istore 5, 2) := zd02dec3_186.2.2.2.2.2.2.2.2.2.2.2
theorem zd02dec3_187 : decode cX6_thick 42 = .ok (.iconst 0, 1) ∧ decode cX6_thick 43 = .ok (.istore 6, 2) ∧ decode cX6_thick 45 = .ok (.iload 6, 2) ∧ decode cX6_thick 47 = .ok (.bipush 20, 2) ∧ decode cX6_thick 49 = .ok (.if_icmp .gt 47, 3) ∧ decode cX6_thick 52 = .ok (.iload 5, 2) ∧ decode cX6_thick 54 = .ok (.iconst (-1), 1) ∧ decode cX6_thick 55 = .ok (.if_icmp .ne 41, 3) ∧ decode cX6_thick 58 = .ok (.aload_n 0, 1) ∧ decode cX6_thick 59 = .ok (.getfield 19, 3) ∧ decode cX6_thick 62 = .ok (.iconst 3, 1) ∧ decode cX6_thick 63 = .ok (.iload_n 1, 1) := by decide +kernel
theorem dX6_thick_42 : decode cX6_thick 42 = .ok (.iconst 0, 1) := zd02dec3_187.1
theorem dX6_thick_43 : decode cX6_thick 43 = .ok (.istore 6, 2) := zd02dec3_187.2.1
theorem dX6_thick_45 : decode cX6_thick 45 = .ok (.iload 6, 2) := zd02dec3_187.2.2.1
theorem dX6_thick_47 : decode cX6_thick 47 = .ok (.bipush 20, 2) := zd02dec3_187.2.2.2.1
theorem dX6_thick_49 : decode cX6_thick 49 = .ok (.if_icmp .gt 47, 3) := zd02dec3_187.2.2.2.2.1
theorem dX6_thick_52 : decode cX6_thick 52 = .ok (.iload 5, 2) := zd02dec3_187.2.2.2.2.2.1
theorem dX6_thick_54 : decode cX6_thick 54 = .ok (.iconst (-1), 1) := zd02dec3_187.2.2.2.2.2.2.1
theorem dX6_thick_55 : decode cX6_thick 55 = .ok (.if_icmp .ne 41, 3) := zd02dec3_187.2.2.2.2.2.2.2.1
theorem dX6_thick_58 : decode cX6_thick 58 = .ok (.aload_n 0, 1) := zd02dec3_187.2.2.2.2.2.2.2.2.1
theorem dX6_thick_59 : decode cX6_thick 59 = .ok (.getfield 19, 3) := zd02dec3_187.2.2.2.2.2.2.2.2.2.1
theorem dX6_thick_62 : decode cX6_thick 62 = .ok (.iconst 3, 1) := zd02dec3_187.2.2.2.2.2.2.2.2.2.2.1
theorem dX6_thick_63 : decode cX6_thick 63 = .ok (.iload_n 1, 1) := zd02dec3_187.2.2.2.2.2.2.2.2.2.2.2
theorem zd02dec3_188 : decode cX6_thick 64 = .ok (.imul, 1) ∧ decode cX6_thick 65 = .ok (.iload 6, 2) ∧ decode cX6_thick 67 = .ok (.iastore, 1) ∧ decode cX6_thick 68 = .ok (.aload_n 0, 1) ∧ decode cX6_thick 69 = .ok (.iload_n 1, 1) ∧ decode cX6_thick 70 = .ok (.iload_n 2, 1) ∧ decode cX6_thick 71 = .ok (.iload_n 3, 1) ∧ decode cX6_thick 72 = .ok (.invokevirtual 221, 3) ∧ decode cX6_thick 75 = .ok (.aload_n 0, 1) ∧ decode cX6_thick 76 = .ok (.getfield 214, 3) ∧ decode cX6_thick 79 = .ok (.ifCond .eq 7, 3) ∧ decode cX6_thick 82 = .ok (.iconst (-1), 1) := by decide +kernel
theorem dX6_thick_64 : decode cX6_thick 64 = .ok (.imul, 1) := zd02dec3_188.1
theorem dX6_thick_65 : decode cX6_thick 65 = .ok (.iload 6, 2) := zd02dec3_188.2.1
theorem dX6_thick_67 : decode cX6_thick 67 = .ok (.iastore, 1) := zd02dec3_188.2.2.1
theorem dX6_thick_68 : decode cX6_thick 68 = .ok (.aload_n 0, 1) := zd02dec3_188.2.2.2.1
theorem dX6_thick_69 : decode cX6_thick 69 = .ok (.iload_n 1, 1) := zd02dec3_188.2.2.2.2.1
theorem dX6_thick_70 : decode cX6_thick 70 = .ok (.iload_n 2, 1) := zd02dec3_188.2.2.2.2.2.1
theorem dX6_thick_71 : decode cX6_thick 71 = .ok (.iload_n 3, 1) := zd02dec3_188.2.2.2.2.2.2.1
theorem dX6_thick_72 : decode cX6_thick 72 = .ok (.invokevirtual 221, 3) := zd02dec3_188.2.2.2.2.2.2.2.1
theorem dX6_thick_75 : decode cX6_thick 75 = .ok (.aload_n 0, 1) := zd02dec3_188.2.2.2.2.2.2.2.2.1
theorem dX6_thick_76 : decode cX6_thick 76 = .ok (.getfield 214, 3) := zd02dec3_188.2.2.2.2.2.2.2.2.2.1
theorem dX6_thick_79 : decode cX6_thick 79 = .ok (.ifCond .eq 7, 3) := zd02dec3_188.2.2.2.2.2.2.2.2.2.2.1
theorem dX6_thick_82 : decode cX6_thick 82 = .ok (.iconst (-1), 1) := zd02dec3_188.2.2.2.2.2.2.2.2.2.2.2
theorem zd02dec3_189 : decode cX6_thick 83 = .ok (.goto 5, 3) ∧ decode cX6_thick 86 = .ok (.iload 6, 2) ∧ decode cX6_thick 88 = .ok (.istore 5, 2) ∧ decode cX6_thick 90 = .ok (.iinc 6 1, 3) ∧ decode cX6_thick 93 = .ok (.goto (-48), 3) ∧ decode cX6_thick 96 = .ok (.aload_n 0, 1) ∧ decode cX6_thick 97 = .ok (.getfield 19, 3) ∧ decode cX6_thick 100 = .ok (.iconst 3, 1) ∧ decode cX6_thick 101 = .ok (.iload_n 1, 1) ∧ decode cX6_thick 102 = .ok (.imul, 1) ∧ decode cX6_thick 103 = .ok (.iload 4, 2) ∧ decode cX6_thick 105 = .ok (.iastore, 1) := by decide +kernel
theorem dX6_thick_83 : decode cX6_thick 83 = .ok (.goto 5, 3) := zd02dec3_189.1
theorem dX6_thick_86 : decode cX6_thick 86 = .ok (.iload 6, 2) := zd02dec3_189.2.1
theorem dX6_thick_88 : decode cX6_thick 88 = .ok (.istore 5, 2) := zd02dec3_189.2.2.1
theorem dX6_thick_90 : decode cX6_thick 90 = .ok (.iinc 6 1, 3) := zd02dec3_189.2.2.2.1
theorem dX6_thick_93 : decode cX6_thick 93 = .ok (.goto (-48), 3) := zd02dec3_189.2.2.2.2.1
theorem dX6_thick_96 : decode cX6_thick 96 = .ok (.aload_n 0, 1) := zd02dec3_189.2.2.2.2.2.1
theorem dX6_thick_97 : decode cX6_thick 97 = .ok (.getfield 19, 3) := zd02dec3_189.2.2.2.2.2.2.1
theorem dX6_thick_100 : decode cX6_thick 100 = .ok (.iconst 3, 1) := zd02dec3_189.2.2.2.2.2.2.2.1
theorem dX6_thick_101 : decode cX6_thick 101 = .ok (.iload_n 1, 1) := zd02dec3_189.2.2.2.2.2.2.2.2.1
theorem dX6_thick_102 : decode cX6_thick 102 = .ok (.imul, 1) := zd02dec3_189.2.2.2.2.2.2.2.2.2.1
theorem dX6_thick_103 : decode cX6_thick 103 = .ok (.iload 4, 2) := zd02dec3_189.2.2.2.2.2.2.2.2.2.2.1
theorem dX6_thick_105 : decode cX6_thick 105 = .ok (.iastore, 1) := zd02dec3_189.2.2.2.2.2.2.2.2.2.2.2
theorem zd02dec3_190 : decode cX6_thick 106 = .ok (.iload 5, 2) ∧ decode cX6_thick 108 = .ok (.ireturn, 1) := by decide +kernel
theorem dX6_thick_106 : decode cX6_thick 106 = .ok (.iload 5, 2) := zd02dec3_190.1
theorem dX6_thick_108 : decode cX6_thick 108 = .ok (.ireturn, 1) := zd02dec3_190.2
theorem zd02dec3_191 : decode cX6_tellsPlaces 0 = .ok (.aload_n 0, 1) ∧ decode cX6_tellsPlaces 1 = .ok (.getfield 19, 3) ∧ decode cX6_tellsPlaces 4 = .ok (.iconst 3, 1) ∧ decode cX6_tellsPlaces 5 = .ok (.iload_n 1, 1) ∧ decode cX6_tellsPlaces 6 = .ok (.imul, 1) ∧ decode cX6_tellsPlaces 7 = .ok (.iaload, 1) ∧ decode cX6_tellsPlaces 8 = .ok (.istore_n 3, 1) ∧ decode cX6_tellsPlaces 9 = .ok (.aload_n 0, 1) ∧ decode cX6_tellsPlaces 10 = .ok (.getfield 19, 3) ∧ decode cX6_tellsPlaces 13 = .ok (.iconst 3, 1) ∧ decode cX6_tellsPlaces 14 = .ok (.iload_n 1, 1) ∧ decode cX6_tellsPlaces 15 = .ok (.imul, 1) := by decide +kernel
theorem dX6_tellsPlaces_0 : decode cX6_tellsPlaces 0 = .ok (.aload_n 0, 1) := zd02dec3_191.1
theorem dX6_tellsPlaces_1 : decode cX6_tellsPlaces 1 = .ok (.getfield 19, 3) := zd02dec3_191.2.1
theorem dX6_tellsPlaces_4 : decode cX6_tellsPlaces 4 = .ok (.iconst 3, 1) := zd02dec3_191.2.2.1
theorem dX6_tellsPlaces_5 : decode cX6_tellsPlaces 5 = .ok (.iload_n 1, 1) := zd02dec3_191.2.2.2.1
theorem dX6_tellsPlaces_6 : decode cX6_tellsPlaces 6 = .ok (.imul, 1) := zd02dec3_191.2.2.2.2.1
theorem dX6_tellsPlaces_7 : decode cX6_tellsPlaces 7 = .ok (.iaload, 1) := zd02dec3_191.2.2.2.2.2.1
theorem dX6_tellsPlaces_8 : decode cX6_tellsPlaces 8 = .ok (.istore_n 3, 1) := zd02dec3_191.2.2.2.2.2.2.1
theorem dX6_tellsPlaces_9 : decode cX6_tellsPlaces 9 = .ok (.aload_n 0, 1) := zd02dec3_191.2.2.2.2.2.2.2.1
theorem dX6_tellsPlaces_10 : decode cX6_tellsPlaces 10 = .ok (.getfield 19, 3) := zd02dec3_191.2.2.2.2.2.2.2.2.1
theorem dX6_tellsPlaces_13 : decode cX6_tellsPlaces 13 = .ok (.iconst 3, 1) := zd02dec3_191.2.2.2.2.2.2.2.2.2.1
theorem dX6_tellsPlaces_14 : decode cX6_tellsPlaces 14 = .ok (.iload_n 1, 1) := zd02dec3_191.2.2.2.2.2.2.2.2.2.2.1
theorem dX6_tellsPlaces_15 : decode cX6_tellsPlaces 15 = .ok (.imul, 1) := zd02dec3_191.2.2.2.2.2.2.2.2.2.2.2
theorem zd02dec3_192 : decode cX6_tellsPlaces 16 = .ok (.iconst 1, 1) ∧ decode cX6_tellsPlaces 17 = .ok (.iadd, 1) ∧ decode cX6_tellsPlaces 18 = .ok (.iaload, 1) ∧ decode cX6_tellsPlaces 19 = .ok (.istore 4, 2) ∧ decode cX6_tellsPlaces 21 = .ok (.iconst 0, 1) ∧ decode cX6_tellsPlaces 22 = .ok (.istore 5, 2) ∧ decode cX6_tellsPlaces 24 = .ok (.iload 5, 2) ∧ decode cX6_tellsPlaces 26 = .ok (.aload_n 0, 1) ∧ decode cX6_tellsPlaces 27 = .ok (.getfield 88, 3) ∧ decode cX6_tellsPlaces 30 = .ok (.if_icmp .ge 157, 3) ∧ decode cX6_tellsPlaces 33 = .ok (.iconst 0, 1) ∧ decode cX6_tellsPlaces 34 = .ok (.istore 6, 2) := by decide +kernel
theorem dX6_tellsPlaces_16 : decode cX6_tellsPlaces 16 = .ok (.iconst 1, 1) := zd02dec3_192.1
theorem dX6_tellsPlaces_17 : decode cX6_tellsPlaces 17 = .ok (.iadd, 1) := zd02dec3_192.2.1
theorem dX6_tellsPlaces_18 : decode cX6_tellsPlaces 18 = .ok (.iaload, 1) := zd02dec3_192.2.2.1
theorem dX6_tellsPlaces_19 : decode cX6_tellsPlaces 19 = .ok (.istore 4, 2) := zd02dec3_192.2.2.2.1
theorem dX6_tellsPlaces_21 : decode cX6_tellsPlaces 21 = .ok (.iconst 0, 1) := zd02dec3_192.2.2.2.2.1
theorem dX6_tellsPlaces_22 : decode cX6_tellsPlaces 22 = .ok (.istore 5, 2) := zd02dec3_192.2.2.2.2.2.1
theorem dX6_tellsPlaces_24 : decode cX6_tellsPlaces 24 = .ok (.iload 5, 2) := zd02dec3_192.2.2.2.2.2.2.1
theorem dX6_tellsPlaces_26 : decode cX6_tellsPlaces 26 = .ok (.aload_n 0, 1) := zd02dec3_192.2.2.2.2.2.2.2.1
theorem dX6_tellsPlaces_27 : decode cX6_tellsPlaces 27 = .ok (.getfield 88, 3) := zd02dec3_192.2.2.2.2.2.2.2.2.1
theorem dX6_tellsPlaces_30 : decode cX6_tellsPlaces 30 = .ok (.if_icmp .ge 157, 3) := zd02dec3_192.2.2.2.2.2.2.2.2.2.1
theorem dX6_tellsPlaces_33 : decode cX6_tellsPlaces 33 = .ok (.iconst 0, 1) := zd02dec3_192.2.2.2.2.2.2.2.2.2.2.1
theorem dX6_tellsPlaces_34 : decode cX6_tellsPlaces 34 = .ok (.istore 6, 2) := zd02dec3_192.2.2.2.2.2.2.2.2.2.2.2
theorem zd02dec3_193 : decode cX6_tellsPlaces 36 = .ok (.iload 6, 2) ∧ decode cX6_tellsPlaces 38 = .ok (.aload_n 0, 1) ∧ decode cX6_tellsPlaces 39 = .ok (.getfield 88, 3) ∧ decode cX6_tellsPlaces 42 = .ok (.if_icmp .ge 59, 3) ∧ decode cX6_tellsPlaces 45 = .ok (.aload_n 0, 1) ∧ decode cX6_tellsPlaces 46 = .ok (.iload_n 1, 1) ∧ decode cX6_tellsPlaces 47 = .ok (.iload 6, 2) ∧ decode cX6_tellsPlaces 49 = .ok (.iload_n 2, 1) ∧ decode cX6_tellsPlaces 50 = .ok (.invokevirtual 221, 3) ∧ decode cX6_tellsPlaces 53 = .ok (.aload_n 0, 1) ∧ decode cX6_tellsPlaces 54 = .ok (.getfield 71, 3) ∧ decode cX6_tellsPlaces 57 = .ok (.bipush 6, 2) := by decide +kernel
theorem dX6_tellsPlaces_36 : decode cX6_tellsPlaces 36 = .ok (.iload 6, 2) := zd02dec3_193.1
theorem dX6_tellsPlaces_38 : decode cX6_tellsPlaces 38 = .ok (.aload_n 0, 1) := zd02dec3_193.2.1
theorem dX6_tellsPlaces_39 : decode cX6_tellsPlaces 39 = .ok (.getfield 88, 3) := zd02dec3_193.2.2.1
theorem dX6_tellsPlaces_42 : decode cX6_tellsPlaces 42 = .ok (.if_icmp .ge 59, 3) := zd02dec3_193.2.2.2.1
theorem dX6_tellsPlaces_45 : decode cX6_tellsPlaces 45 = .ok (.aload_n 0, 1) := zd02dec3_193.2.2.2.2.1
theorem dX6_tellsPlaces_46 : decode cX6_tellsPlaces 46 = .ok (.iload_n 1, 1) := zd02dec3_193.2.2.2.2.2.1
theorem dX6_tellsPlaces_47 : decode cX6_tellsPlaces 47 = .ok (.iload 6, 2) := zd02dec3_193.2.2.2.2.2.2.1
theorem dX6_tellsPlaces_49 : decode cX6_tellsPlaces 49 = .ok (.iload_n 2, 1) := zd02dec3_193.2.2.2.2.2.2.2.1
theorem dX6_tellsPlaces_50 : decode cX6_tellsPlaces 50 = .ok (.invokevirtual 221, 3) := zd02dec3_193.2.2.2.2.2.2.2.2.1
theorem dX6_tellsPlaces_53 : decode cX6_tellsPlaces 53 = .ok (.aload_n 0, 1) := zd02dec3_193.2.2.2.2.2.2.2.2.2.1
theorem dX6_tellsPlaces_54 : decode cX6_tellsPlaces 54 = .ok (.getfield 71, 3) := zd02dec3_193.2.2.2.2.2.2.2.2.2.2.1
theorem dX6_tellsPlaces_57 : decode cX6_tellsPlaces 57 = .ok (.bipush 6, 2) := zd02dec3_193.2.2.2.2.2.2.2.2.2.2.2
theorem zd02dec3_194 : decode cX6_tellsPlaces 59 = .ok (.iload 5, 2) ∧ decode cX6_tellsPlaces 61 = .ok (.imul, 1) ∧ decode cX6_tellsPlaces 62 = .ok (.iload 6, 2) ∧ decode cX6_tellsPlaces 64 = .ok (.iadd, 1) ∧ decode cX6_tellsPlaces 65 = .ok (.aload_n 0, 1) ∧ decode cX6_tellsPlaces 66 = .ok (.getfield 205, 3) ∧ decode cX6_tellsPlaces 69 = .ok (.iastore, 1) ∧ decode cX6_tellsPlaces 70 = .ok (.aload_n 0, 1) ∧ decode cX6_tellsPlaces 71 = .ok (.getfield 74, 3) ∧ decode cX6_tellsPlaces 74 = .ok (.bipush 6, 2) ∧ decode cX6_tellsPlaces 76 = .ok (.iload 5, 2) ∧ decode cX6_tellsPlaces 78 = .ok (.imul, 1) := by decide +kernel
theorem dX6_tellsPlaces_59 : decode cX6_tellsPlaces 59 = .ok (.iload 5, 2) := zd02dec3_194.1
theorem dX6_tellsPlaces_61 : decode cX6_tellsPlaces 61 = .ok (.imul, 1) := zd02dec3_194.2.1
theorem dX6_tellsPlaces_62 : decode cX6_tellsPlaces 62 = .ok (.iload 6, 2) := zd02dec3_194.2.2.1
theorem dX6_tellsPlaces_64 : decode cX6_tellsPlaces 64 = .ok (.iadd, 1) := zd02dec3_194.2.2.2.1
theorem dX6_tellsPlaces_65 : decode cX6_tellsPlaces 65 = .ok (.aload_n 0, 1) := zd02dec3_194.2.2.2.2.1
theorem dX6_tellsPlaces_66 : decode cX6_tellsPlaces 66 = .ok (.getfield 205, 3) := zd02dec3_194.2.2.2.2.2.1
theorem dX6_tellsPlaces_69 : decode cX6_tellsPlaces 69 = .ok (.iastore, 1) := zd02dec3_194.2.2.2.2.2.2.1
theorem dX6_tellsPlaces_70 : decode cX6_tellsPlaces 70 = .ok (.aload_n 0, 1) := zd02dec3_194.2.2.2.2.2.2.2.1
theorem dX6_tellsPlaces_71 : decode cX6_tellsPlaces 71 = .ok (.getfield 74, 3) := zd02dec3_194.2.2.2.2.2.2.2.2.1
theorem dX6_tellsPlaces_74 : decode cX6_tellsPlaces 74 = .ok (.bipush 6, 2) := zd02dec3_194.2.2.2.2.2.2.2.2.2.1
theorem dX6_tellsPlaces_76 : decode cX6_tellsPlaces 76 = .ok (.iload 5, 2) := zd02dec3_194.2.2.2.2.2.2.2.2.2.2.1
theorem dX6_tellsPlaces_78 : decode cX6_tellsPlaces 78 = .ok (.imul, 1) := zd02dec3_194.2.2.2.2.2.2.2.2.2.2.2
theorem zd02dec3_195 : decode cX6_tellsPlaces 79 = .ok (.iload 6, 2) ∧ decode cX6_tellsPlaces 81 = .ok (.iadd, 1) ∧ decode cX6_tellsPlaces 82 = .ok (.aload_n 0, 1) ∧ decode cX6_tellsPlaces 83 = .ok (.getfield 214, 3) ∧ decode cX6_tellsPlaces 86 = .ok (.ifCond .eq 7, 3) ∧ decode cX6_tellsPlaces 89 = .ok (.iconst 1, 1) ∧ decode cX6_tellsPlaces 90 = .ok (.goto 4, 3) ∧ decode cX6_tellsPlaces 93 = .ok (.iconst 0, 1) ∧ decode cX6_tellsPlaces 94 = .ok (.iastore, 1) ∧ decode cX6_tellsPlaces 95 = .ok (.iinc 6 1, 3) ∧ decode cX6_tellsPlaces 98 = .ok (.goto (-62), 3) ∧ decode cX6_tellsPlaces 101 = .ok (.iconst 0, 1) := by decide +kernel
theorem dX6_tellsPlaces_79 : decode cX6_tellsPlaces 79 = .ok (.iload 6, 2) := zd02dec3_195.1
theorem dX6_tellsPlaces_81 : decode cX6_tellsPlaces 81 = .ok (.iadd, 1) := zd02dec3_195.2.1
theorem dX6_tellsPlaces_82 : decode cX6_tellsPlaces 82 = .ok (.aload_n 0, 1) := zd02dec3_195.2.2.1
theorem dX6_tellsPlaces_83 : decode cX6_tellsPlaces 83 = .ok (.getfield 214, 3) := zd02dec3_195.2.2.2.1
theorem dX6_tellsPlaces_86 : decode cX6_tellsPlaces 86 = .ok (.ifCond .eq 7, 3) := zd02dec3_195.2.2.2.2.1
theorem dX6_tellsPlaces_89 : decode cX6_tellsPlaces 89 = .ok (.iconst 1, 1) := zd02dec3_195.2.2.2.2.2.1
theorem dX6_tellsPlaces_90 : decode cX6_tellsPlaces 90 = .ok (.goto 4, 3) := zd02dec3_195.2.2.2.2.2.2.1
theorem dX6_tellsPlaces_93 : decode cX6_tellsPlaces 93 = .ok (.iconst 0, 1) := zd02dec3_195.2.2.2.2.2.2.2.1
theorem dX6_tellsPlaces_94 : decode cX6_tellsPlaces 94 = .ok (.iastore, 1) := zd02dec3_195.2.2.2.2.2.2.2.2.1
theorem dX6_tellsPlaces_95 : decode cX6_tellsPlaces 95 = .ok (.iinc 6 1, 3) := zd02dec3_195.2.2.2.2.2.2.2.2.2.1
theorem dX6_tellsPlaces_98 : decode cX6_tellsPlaces 98 = .ok (.goto (-62), 3) := zd02dec3_195.2.2.2.2.2.2.2.2.2.2.1
theorem dX6_tellsPlaces_101 : decode cX6_tellsPlaces 101 = .ok (.iconst 0, 1) := zd02dec3_195.2.2.2.2.2.2.2.2.2.2.2
