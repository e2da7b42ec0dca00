theorem zd02dec2_0 : decode cX5_hear 46 = .ok (.iload_n 3, 1) ∧ decode cX5_hear 47 = .ok (.invokevirtual 140, 3) ∧ decode cX5_hear 50 = .ok (.istore 5, 2) ∧ decode cX5_hear 52 = .ok (.iload 4, 2) ∧ decode cX5_hear 54 = .ok (.iconst 3, 1) ∧ decode cX5_hear 55 = .ok (.if_icmp .ne 15, 3) ∧ decode cX5_hear 58 = .ok (.aload_n 0, 1) ∧ decode cX5_hear 59 = .ok (.getfield 32, 3) ∧ decode cX5_hear 62 = .ok (.getfield 98, 3) ∧ decode cX5_hear 65 = .ok (.iload_n 1, 1) ∧ decode cX5_hear 66 = .ok (.iaload, 1) ∧ decode cX5_hear 67 = .ok (.goto 13, 3) := by decide +kernel
theorem dX5_hear_46 : decode cX5_hear 46 = .ok (.iload_n 3, 1) := zd02dec2_0.1
theorem dX5_hear_47 : decode cX5_hear 47 = .ok (.invokevirtual 140, 3) := zd02dec2_0.2.1
theorem dX5_hear_50 : decode cX5_hear 50 = .ok (.istore 5, 2) := zd02dec2_0.2.2.1
theorem dX5_hear_52 : decode cX5_hear 52 = .ok (.iload 4, 2) := zd02dec2_0.2.2.2.1
theorem dX5_hear_54 : decode cX5_hear 54 = .ok (.iconst 3, 1) := zd02dec2_0.2.2.2.2.1
theorem dX5_hear_55 : decode cX5_hear 55 = .ok (.if_icmp .ne 15, 3) := zd02dec2_0.2.2.2.2.2.1
theorem dX5_hear_58 : decode cX5_hear 58 = .ok (.aload_n 0, 1) := zd02dec2_0.2.2.2.2.2.2.1
theorem dX5_hear_59 : decode cX5_hear 59 = .ok (.getfield 32, 3) := zd02dec2_0.2.2.2.2.2.2.2.1
theorem dX5_hear_62 : decode cX5_hear 62 = .ok (.getfield 98, 3) := zd02dec2_0.2.2.2.2.2.2.2.2.1
theorem dX5_hear_65 : decode cX5_hear 65 = .ok (.iload_n 1, 1) := zd02dec2_0.2.2.2.2.2.2.2.2.2.1
theorem dX5_hear_66 : decode cX5_hear 66 = .ok (.iaload, 1) := zd02dec2_0.2.2.2.2.2.2.2.2.2.2.1
theorem dX5_hear_67 : decode cX5_hear 67 = .ok (.goto 13, 3) := zd02dec2_0.2.2.2.2.2.2.2.2.2.2.2
theorem zd02dec2_1 : decode cX5_hear 70 = .ok (.aload_n 0, 1) ∧ decode cX5_hear 71 = .ok (.iload_n 1, 1) ∧ decode cX5_hear 72 = .ok (.iload_n 2, 1) ∧ decode cX5_hear 73 = .ok (.iload 5, 2) ∧ decode cX5_hear 75 = .ok (.iload 4, 2) ∧ decode cX5_hear 77 = .ok (.invokevirtual 146, 3) ∧ decode cX5_hear 80 = .ok (.ireturn, 1) := by decide +kernel
theorem dX5_hear_70 : decode cX5_hear 70 = .ok (.aload_n 0, 1) := zd02dec2_1.1
theorem dX5_hear_71 : decode cX5_hear 71 = .ok (.iload_n 1, 1) := zd02dec2_1.2.1
theorem dX5_hear_72 : decode cX5_hear 72 = .ok (.iload_n 2, 1) := zd02dec2_1.2.2.1
theorem dX5_hear_73 : decode cX5_hear 73 = .ok (.iload 5, 2) := zd02dec2_1.2.2.2.1
theorem dX5_hear_75 : decode cX5_hear 75 = .ok (.iload 4, 2) := zd02dec2_1.2.2.2.2.1
theorem dX5_hear_77 : decode cX5_hear 77 = .ok (.invokevirtual 146, 3) := zd02dec2_1.2.2.2.2.2.1
theorem dX5_hear_80 : decode cX5_hear 80 = .ok (.ireturn, 1) := zd02dec2_1.2.2.2.2.2.2
theorem zd02dec2_2 : decode cX5_fewest 0 = .ok (.aload_n 0, 1) ∧ decode cX5_fewest 1 = .ok (.getfield 28, 3) ∧ decode cX5_fewest 4 = .ok (.iload_n 1, 1) ∧ decode cX5_fewest 5 = .ok (.iload_n 2, 1) ∧ decode cX5_fewest 6 = .ok (.invokevirtual 137, 3) ∧ decode cX5_fewest 9 = .ok (.ifCond .ne 6, 3) ∧ decode cX5_fewest 12 = .ok (.bipush (-5), 2) ∧ decode cX5_fewest 14 = .ok (.ireturn, 1) ∧ decode cX5_fewest 15 = .ok (.aload_n 0, 1) ∧ decode cX5_fewest 16 = .ok (.iload_n 1, 1) ∧ decode cX5_fewest 17 = .ok (.iload_n 2, 1) ∧ decode cX5_fewest 18 = .ok (.invokevirtual 150, 3) := by decide +kernel
theorem dX5_fewest_0 : decode cX5_fewest 0 = .ok (.aload_n 0, 1) := zd02dec2_2.1
theorem dX5_fewest_1 : decode cX5_fewest 1 = .ok (.getfield 28, 3) := zd02dec2_2.2.1
theorem dX5_fewest_4 : decode cX5_fewest 4 = .ok (.iload_n 1, 1) := zd02dec2_2.2.2.1
theorem dX5_fewest_5 : decode cX5_fewest 5 = .ok (.iload_n 2, 1) := zd02dec2_2.2.2.2.1
theorem dX5_fewest_6 : decode cX5_fewest 6 = .ok (.invokevirtual 137, 3) := zd02dec2_2.2.2.2.2.1
theorem dX5_fewest_9 : decode cX5_fewest 9 = .ok (.ifCond .ne 6, 3) := zd02dec2_2.2.2.2.2.2.1
theorem dX5_fewest_12 : decode cX5_fewest 12 = .ok (.bipush (-5), 2) := zd02dec2_2.2.2.2.2.2.2.1
theorem dX5_fewest_14 : decode cX5_fewest 14 = .ok (.ireturn, 1) := zd02dec2_2.2.2.2.2.2.2.2.1
theorem dX5_fewest_15 : decode cX5_fewest 15 = .ok (.aload_n 0, 1) := zd02dec2_2.2.2.2.2.2.2.2.2.1
theorem dX5_fewest_16 : decode cX5_fewest 16 = .ok (.iload_n 1, 1) := zd02dec2_2.2.2.2.2.2.2.2.2.2.1
theorem dX5_fewest_17 : decode cX5_fewest 17 = .ok (.iload_n 2, 1) := zd02dec2_2.2.2.2.2.2.2.2.2.2.2.1
theorem dX5_fewest_18 : decode cX5_fewest 18 = .ok (.invokevirtual 150, 3) := zd02dec2_2.2.2.2.2.2.2.2.2.2.2.2
theorem zd02dec2_3 : decode cX5_fewest 21 = .ok (.invokestatic 154, 3) ∧ decode cX5_fewest 24 = .ok (.ireturn, 1) := by decide +kernel
theorem dX5_fewest_21 : decode cX5_fewest 21 = .ok (.invokestatic 154, 3) := zd02dec2_3.1
theorem dX5_fewest_24 : decode cX5_fewest 24 = .ok (.ireturn, 1) := zd02dec2_3.2
theorem zd02dec2_4 : decode cX5_sand 0 = .ok (.aload_n 0, 1) ∧ decode cX5_sand 1 = .ok (.getfield 28, 3) ∧ decode cX5_sand 4 = .ok (.iload_n 1, 1) ∧ decode cX5_sand 5 = .ok (.iload_n 2, 1) ∧ decode cX5_sand 6 = .ok (.invokevirtual 137, 3) ∧ decode cX5_sand 9 = .ok (.ifCond .ne 6, 3) ∧ decode cX5_sand 12 = .ok (.bipush (-5), 2) ∧ decode cX5_sand 14 = .ok (.ireturn, 1) ∧ decode cX5_sand 15 = .ok (.aload_n 0, 1) ∧ decode cX5_sand 16 = .ok (.invokevirtual 143, 3) ∧ decode cX5_sand 19 = .ok (.iconst 0, 1) ∧ decode cX5_sand 20 = .ok (.istore_n 3, 1) := by decide +kernel
theorem dX5_sand_0 : decode cX5_sand 0 = .ok (.aload_n 0, 1) := zd02dec2_4.1
theorem dX5_sand_1 : decode cX5_sand 1 = .ok (.getfield 28, 3) := zd02dec2_4.2.1
theorem dX5_sand_4 : decode cX5_sand 4 = .ok (.iload_n 1, 1) := zd02dec2_4.2.2.1
theorem dX5_sand_5 : decode cX5_sand 5 = .ok (.iload_n 2, 1) := zd02dec2_4.2.2.2.1
theorem dX5_sand_6 : decode cX5_sand 6 = .ok (.invokevirtual 137, 3) := zd02dec2_4.2.2.2.2.1
theorem dX5_sand_9 : decode cX5_sand 9 = .ok (.ifCond .ne 6, 3) := zd02dec2_4.2.2.2.2.2.1
theorem dX5_sand_12 : decode cX5_sand 12 = .ok (.bipush (-5), 2) := zd02dec2_4.2.2.2.2.2.2.1
theorem dX5_sand_14 : decode cX5_sand 14 = .ok (.ireturn, 1) := zd02dec2_4.2.2.2.2.2.2.2.1
theorem dX5_sand_15 : decode cX5_sand 15 = .ok (.aload_n 0, 1) := zd02dec2_4.2.2.2.2.2.2.2.2.1
theorem dX5_sand_16 : decode cX5_sand 16 = .ok (.invokevirtual 143, 3) := zd02dec2_4.2.2.2.2.2.2.2.2.2.1
theorem dX5_sand_19 : decode cX5_sand 19 = .ok (.iconst 0, 1) := zd02dec2_4.2.2.2.2.2.2.2.2.2.2.1
theorem dX5_sand_20 : decode cX5_sand 20 = .ok (.istore_n 3, 1) := zd02dec2_4.2.2.2.2.2.2.2.2.2.2.2
theorem zd02dec2_5 : decode cX5_sand 21 = .ok (.iload_n 3, 1) ∧ decode cX5_sand 22 = .ok (.bipush 60, 2) ∧ decode cX5_sand 24 = .ok (.if_icmp .gt 33, 3) ∧ decode cX5_sand 27 = .ok (.aload_n 0, 1) ∧ decode cX5_sand 28 = .ok (.getfield 32, 3) ∧ decode cX5_sand 31 = .ok (.iload_n 2, 1) ∧ decode cX5_sand 32 = .ok (.invokevirtual 134, 3) ∧ decode cX5_sand 35 = .ok (.ifCond .eq 5, 3) ∧ decode cX5_sand 38 = .ok (.iload_n 3, 1) ∧ decode cX5_sand 39 = .ok (.ireturn, 1) ∧ decode cX5_sand 40 = .ok (.aload_n 0, 1) ∧ decode cX5_sand 41 = .ok (.getfield 32, 3) := by decide +kernel
theorem dX5_sand_21 : decode cX5_sand 21 = .ok (.iload_n 3, 1) := zd02dec2_5.1
theorem dX5_sand_22 : decode cX5_sand 22 = .ok (.bipush 60, 2) := zd02dec2_5.2.1
theorem dX5_sand_24 : decode cX5_sand 24 = .ok (.if_icmp .gt 33, 3) := zd02dec2_5.2.2.1
theorem dX5_sand_27 : decode cX5_sand 27 = .ok (.aload_n 0, 1) := zd02dec2_5.2.2.2.1
theorem dX5_sand_28 : decode cX5_sand 28 = .ok (.getfield 32, 3) := zd02dec2_5.2.2.2.2.1
theorem dX5_sand_31 : decode cX5_sand 31 = .ok (.iload_n 2, 1) := zd02dec2_5.2.2.2.2.2.1
theorem dX5_sand_32 : decode cX5_sand 32 = .ok (.invokevirtual 134, 3) := zd02dec2_5.2.2.2.2.2.2.1
theorem dX5_sand_35 : decode cX5_sand 35 = .ok (.ifCond .eq 5, 3) := zd02dec2_5.2.2.2.2.2.2.2.1
theorem dX5_sand_38 : decode cX5_sand 38 = .ok (.iload_n 3, 1) := zd02dec2_5.2.2.2.2.2.2.2.2.1
theorem dX5_sand_39 : decode cX5_sand 39 = .ok (.ireturn, 1) := zd02dec2_5.2.2.2.2.2.2.2.2.2.1
theorem dX5_sand_40 : decode cX5_sand 40 = .ok (.aload_n 0, 1) := zd02dec2_5.2.2.2.2.2.2.2.2.2.2.1
theorem dX5_sand_41 : decode cX5_sand 41 = .ok (.getfield 32, 3) := zd02dec2_5.2.2.2.2.2.2.2.2.2.2.2
theorem zd02dec2_6 : decode cX5_sand 44 = .ok (.iload_n 1, 1) ∧ decode cX5_sand 45 = .ok (.iload_n 2, 1) ∧ decode cX5_sand 46 = .ok (.iconst 0, 1) ∧ decode cX5_sand 47 = .ok (.invokevirtual 158, 3) ∧ decode cX5_sand 50 = .ok (.pop, 1) ∧ decode cX5_sand 51 = .ok (.iinc 3 1, 3) ∧ decode cX5_sand 54 = .ok (.goto (-33), 3) ∧ decode cX5_sand 57 = .ok (.iconst (-1), 1) ∧ decode cX5_sand 58 = .ok (.ireturn, 1) := by decide +kernel
theorem dX5_sand_44 : decode cX5_sand 44 = .ok (.iload_n 1, 1) := zd02dec2_6.1
theorem dX5_sand_45 : decode cX5_sand 45 = .ok (.iload_n 2, 1) := zd02dec2_6.2.1
theorem dX5_sand_46 : decode cX5_sand 46 = .ok (.iconst 0, 1) := zd02dec2_6.2.2.1
theorem dX5_sand_47 : decode cX5_sand 47 = .ok (.invokevirtual 158, 3) := zd02dec2_6.2.2.2.1
theorem dX5_sand_50 : decode cX5_sand 50 = .ok (.pop, 1) := zd02dec2_6.2.2.2.2.1
theorem dX5_sand_51 : decode cX5_sand 51 = .ok (.iinc 3 1, 3) := zd02dec2_6.2.2.2.2.2.1
theorem dX5_sand_54 : decode cX5_sand 54 = .ok (.goto (-33), 3) := zd02dec2_6.2.2.2.2.2.2.1
theorem dX5_sand_57 : decode cX5_sand 57 = .ok (.iconst (-1), 1) := zd02dec2_6.2.2.2.2.2.2.2.1
theorem dX5_sand_58 : decode cX5_sand 58 = .ok (.ireturn, 1) := zd02dec2_6.2.2.2.2.2.2.2.2
theorem zd02dec2_7 : decode cX5_unlike 0 = .ok (.aload_n 0, 1) ∧ decode cX5_unlike 1 = .ok (.getfield 28, 3) ∧ decode cX5_unlike 4 = .ok (.iload_n 1, 1) ∧ decode cX5_unlike 5 = .ok (.iload_n 3, 1) ∧ decode cX5_unlike 6 = .ok (.invokevirtual 137, 3) ∧ decode cX5_unlike 9 = .ok (.ifCond .eq 19, 3) ∧ decode cX5_unlike 12 = .ok (.aload_n 0, 1) ∧ decode cX5_unlike 13 = .ok (.getfield 28, 3) ∧ decode cX5_unlike 16 = .ok (.iload_n 2, 1) ∧ decode cX5_unlike 17 = .ok (.invokevirtual 94, 3) ∧ decode cX5_unlike 20 = .ok (.ifCond .eq 8, 3) ∧ decode cX5_unlike 23 = .ok (.iload_n 1, 1) := by decide +kernel
theorem dX5_unlike_0 : decode cX5_unlike 0 = .ok (.aload_n 0, 1) := zd02dec2_7.1
theorem dX5_unlike_1 : decode cX5_unlike 1 = .ok (.getfield 28, 3) := zd02dec2_7.2.1
theorem dX5_unlike_4 : decode cX5_unlike 4 = .ok (.iload_n 1, 1) := zd02dec2_7.2.2.1
theorem dX5_unlike_5 : decode cX5_unlike 5 = .ok (.iload_n 3, 1) := zd02dec2_7.2.2.2.1
theorem dX5_unlike_6 : decode cX5_unlike 6 = .ok (.invokevirtual 137, 3) := zd02dec2_7.2.2.2.2.1
theorem dX5_unlike_9 : decode cX5_unlike 9 = .ok (.ifCond .eq 19, 3) := zd02dec2_7.2.2.2.2.2.1
theorem dX5_unlike_12 : decode cX5_unlike 12 = .ok (.aload_n 0, 1) := zd02dec2_7.2.2.2.2.2.2.1
theorem dX5_unlike_13 : decode cX5_unlike 13 = .ok (.getfield 28, 3) := zd02dec2_7.2.2.2.2.2.2.2.1
theorem dX5_unlike_16 : decode cX5_unlike 16 = .ok (.iload_n 2, 1) := zd02dec2_7.2.2.2.2.2.2.2.2.1
theorem dX5_unlike_17 : decode cX5_unlike 17 = .ok (.invokevirtual 94, 3) := zd02dec2_7.2.2.2.2.2.2.2.2.2.1
theorem dX5_unlike_20 : decode cX5_unlike 20 = .ok (.ifCond .eq 8, 3) := zd02dec2_7.2.2.2.2.2.2.2.2.2.2.1
theorem dX5_unlike_23 : decode cX5_unlike 23 = .ok (.iload_n 1, 1) := zd02dec2_7.2.2.2.2.2.2.2.2.2.2.2
theorem zd02dec2_8 : decode cX5_unlike 24 = .ok (.iload_n 2, 1) ∧ decode cX5_unlike 25 = .ok (.if_icmp .ne 6, 3) ∧ decode cX5_unlike 28 = .ok (.bipush (-5), 2) ∧ decode cX5_unlike 30 = .ok (.ireturn, 1) ∧ decode cX5_unlike 31 = .ok (.aload_n 0, 1) ∧ decode cX5_unlike 32 = .ok (.iload_n 1, 1) ∧ decode cX5_unlike 33 = .ok (.iload_n 3, 1) ∧ decode cX5_unlike 34 = .ok (.invokevirtual 150, 3) ∧ decode cX5_unlike 37 = .ok (.aload_n 0, 1) ∧ decode cX5_unlike 38 = .ok (.iload_n 2, 1) ∧ decode cX5_unlike 39 = .ok (.iload_n 3, 1) ∧ decode cX5_unlike 40 = .ok (.invokevirtual 150, 3) := by decide +kernel
theorem dX5_unlike_24 : decode cX5_unlike 24 = .ok (.iload_n 2, 1) := zd02dec2_8.1
theorem dX5_unlike_25 : decode cX5_unlike 25 = .ok (.if_icmp .ne 6, 3) := zd02dec2_8.2.1
theorem dX5_unlike_28 : decode cX5_unlike 28 = .ok (.bipush (-5), 2) := zd02dec2_8.2.2.1
theorem dX5_unlike_30 : decode cX5_unlike 30 = .ok (.ireturn, 1) := zd02dec2_8.2.2.2.1
theorem dX5_unlike_31 : decode cX5_unlike 31 = .ok (.aload_n 0, 1) := zd02dec2_8.2.2.2.2.1
theorem dX5_unlike_32 : decode cX5_unlike 32 = .ok (.iload_n 1, 1) := zd02dec2_8.2.2.2.2.2.1
theorem dX5_unlike_33 : decode cX5_unlike 33 = .ok (.iload_n 3, 1) := zd02dec2_8.2.2.2.2.2.2.1
theorem dX5_unlike_34 : decode cX5_unlike 34 = .ok (.invokevirtual 150, 3) := zd02dec2_8.2.2.2.2.2.2.2.1
theorem dX5_unlike_37 : decode cX5_unlike 37 = .ok (.aload_n 0, 1) := zd02dec2_8.2.2.2.2.2.2.2.2.1
theorem dX5_unlike_38 : decode cX5_unlike 38 = .ok (.iload_n 2, 1) := zd02dec2_8.2.2.2.2.2.2.2.2.2.1
theorem dX5_unlike_39 : decode cX5_unlike 39 = .ok (.iload_n 3, 1) := zd02dec2_8.2.2.2.2.2.2.2.2.2.2.1
theorem dX5_unlike_40 : decode cX5_unlike 40 = .ok (.invokevirtual 150, 3) := zd02dec2_8.2.2.2.2.2.2.2.2.2.2.2
theorem zd02dec2_9 : decode cX5_unlike 43 = .ok (.lxor, 1) ∧ decode cX5_unlike 44 = .ok (.invokestatic 154, 3) ∧ decode cX5_unlike 47 = .ok (.ireturn, 1) := by decide +kernel
theorem dX5_unlike_43 : decode cX5_unlike 43 = .ok (.lxor, 1) := zd02dec2_9.1
theorem dX5_unlike_44 : decode cX5_unlike 44 = .ok (.invokestatic 154, 3) := zd02dec2_9.2.1
theorem dX5_unlike_47 : decode cX5_unlike 47 = .ok (.ireturn, 1) := zd02dec2_9.2.2
theorem zd02dec2_10 : decode cX5_hardest 0 = .ok (.iload_n 1, 1) ∧ decode cX5_hardest 1 = .ok (.bipush 60, 2) ∧ decode cX5_hardest 3 = .ok (.invokestatic 86, 3) ∧ decode cX5_hardest 6 = .ok (.ifCond .eq 11, 3) ∧ decode cX5_hardest 9 = .ok (.iload_n 2, 1) ∧ decode cX5_hardest 10 = .ok (.iconst 1, 1) ∧ decode cX5_hardest 11 = .ok (.invokestatic 86, 3) ∧ decode cX5_hardest 14 = .ok (.ifCond .ne 6, 3) ∧ decode cX5_hardest 17 = .ok (.bipush (-2), 2) ∧ decode cX5_hardest 19 = .ok (.ireturn, 1) ∧ decode cX5_hardest 20 = .ok (.iconst (-1), 1) ∧ decode cX5_hardest 21 = .ok (.istore_n 3, 1) := by decide +kernel
theorem dX5_hardest_0 : decode cX5_hardest 0 = .ok (.iload_n 1, 1) := zd02dec2_10.1
theorem dX5_hardest_1 : decode cX5_hardest 1 = .ok (.bipush 60, 2) := zd02dec2_10.2.1
theorem dX5_hardest_3 : decode cX5_hardest 3 = .ok (.invokestatic 86, 3) := zd02dec2_10.2.2.1
theorem dX5_hardest_6 : decode cX5_hardest 6 = .ok (.ifCond .eq 11, 3) := zd02dec2_10.2.2.2.1
theorem dX5_hardest_9 : decode cX5_hardest 9 = .ok (.iload_n 2, 1) := zd02dec2_10.2.2.2.2.1
theorem dX5_hardest_10 : decode cX5_hardest 10 = .ok (.iconst 1, 1) := zd02dec2_10.2.2.2.2.2.1
theorem dX5_hardest_11 : decode cX5_hardest 11 = .ok (.invokestatic 86, 3) := zd02dec2_10.2.2.2.2.2.2.1
theorem dX5_hardest_14 : decode cX5_hardest 14 = .ok (.ifCond .ne 6, 3) := zd02dec2_10.2.2.2.2.2.2.2.1
theorem dX5_hardest_17 : decode cX5_hardest 17 = .ok (.bipush (-2), 2) := zd02dec2_10.2.2.2.2.2.2.2.2.1
theorem dX5_hardest_19 : decode cX5_hardest 19 = .ok (.ireturn, 1) := zd02dec2_10.2.2.2.2.2.2.2.2.2.1
theorem dX5_hardest_20 : decode cX5_hardest 20 = .ok (.iconst (-1), 1) := zd02dec2_10.2.2.2.2.2.2.2.2.2.2.1
theorem dX5_hardest_21 : decode cX5_hardest 21 = .ok (.istore_n 3, 1) := zd02dec2_10.2.2.2.2.2.2.2.2.2.2.2
theorem zd02dec2_11 : decode cX5_hardest 22 = .ok (.iconst (-1), 1) ∧ decode cX5_hardest 23 = .ok (.istore 4, 2) ∧ decode cX5_hardest 25 = .ok (.iconst 0, 1) ∧ decode cX5_hardest 26 = .ok (.istore 5, 2) ∧ decode cX5_hardest 28 = .ok (.iload 5, 2) ∧ decode cX5_hardest 30 = .ok (.aload_n 0, 1) ∧ decode cX5_hardest 31 = .ok (.getfield 28, 3) ∧ decode cX5_hardest 34 = .ok (.getfield 75, 3) ∧ decode cX5_hardest 37 = .ok (.if_icmp .ge 32, 3) ∧ decode cX5_hardest 40 = .ok (.aload_n 0, 1) ∧ decode cX5_hardest 41 = .ok (.iload 5, 2) ∧ decode cX5_hardest 43 = .ok (.iload_n 1, 1) := by decide +kernel
theorem dX5_hardest_22 : decode cX5_hardest 22 = .ok (.iconst (-1), 1) := zd02dec2_11.1
theorem dX5_hardest_23 : decode cX5_hardest 23 = .ok (.istore 4, 2) := zd02dec2_11.2.1
theorem dX5_hardest_25 : decode cX5_hardest 25 = .ok (.iconst 0, 1) := zd02dec2_11.2.2.1
theorem dX5_hardest_26 : decode cX5_hardest 26 = .ok (.istore 5, 2) := zd02dec2_11.2.2.2.1
theorem dX5_hardest_28 : decode cX5_hardest 28 = .ok (.iload 5, 2) := zd02dec2_11.2.2.2.2.1
theorem dX5_hardest_30 : decode cX5_hardest 30 = .ok (.aload_n 0, 1) := zd02dec2_11.2.2.2.2.2.1
theorem dX5_hardest_31 : decode cX5_hardest 31 = .ok (.getfield 28, 3) := zd02dec2_11.2.2.2.2.2.2.1
theorem dX5_hardest_34 : decode cX5_hardest 34 = .ok (.getfield 75, 3) := zd02dec2_11.2.2.2.2.2.2.2.1
theorem dX5_hardest_37 : decode cX5_hardest 37 = .ok (.if_icmp .ge 32, 3) := zd02dec2_11.2.2.2.2.2.2.2.2.1
theorem dX5_hardest_40 : decode cX5_hardest 40 = .ok (.aload_n 0, 1) := zd02dec2_11.2.2.2.2.2.2.2.2.2.1
theorem dX5_hardest_41 : decode cX5_hardest 41 = .ok (.iload 5, 2) := zd02dec2_11.2.2.2.2.2.2.2.2.2.2.1
theorem dX5_hardest_43 : decode cX5_hardest 43 = .ok (.iload_n 1, 1) := zd02dec2_11.2.2.2.2.2.2.2.2.2.2.2
theorem zd02dec2_12 : decode cX5_hardest 44 = .ok (.invokevirtual 161, 3) ∧ decode cX5_hardest 47 = .ok (.istore 6, 2) ∧ decode cX5_hardest 49 = .ok (.iload 6, 2) ∧ decode cX5_hardest 51 = .ok (.iload 4, 2) ∧ decode cX5_hardest 53 = .ok (.if_icmp .le 10, 3) ∧ decode cX5_hardest 56 = .ok (.iload 6, 2) ∧ decode cX5_hardest 58 = .ok (.istore 4, 2) ∧ decode cX5_hardest 60 = .ok (.iload 5, 2) ∧ decode cX5_hardest 62 = .ok (.istore_n 3, 1) ∧ decode cX5_hardest 63 = .ok (.iinc 5 1, 3) ∧ decode cX5_hardest 66 = .ok (.goto (-38), 3) ∧ decode cX5_hardest 69 = .ok (.iload_n 2, 1) := by decide +kernel
theorem dX5_hardest_44 : decode cX5_hardest 44 = .ok (.invokevirtual 161, 3) := zd02dec2_12.1
theorem dX5_hardest_47 : decode cX5_hardest 47 = .ok (.istore 6, 2) := zd02dec2_12.2.1
theorem dX5_hardest_49 : decode cX5_hardest 49 = .ok (.iload 6, 2) := zd02dec2_12.2.2.1
theorem dX5_hardest_51 : decode cX5_hardest 51 = .ok (.iload 4, 2) := zd02dec2_12.2.2.2.1
theorem dX5_hardest_53 : decode cX5_hardest 53 = .ok (.if_icmp .le 10, 3) := zd02dec2_12.2.2.2.2.1
theorem dX5_hardest_56 : decode cX5_hardest 56 = .ok (.iload 6, 2) := zd02dec2_12.2.2.2.2.2.1
theorem dX5_hardest_58 : decode cX5_hardest 58 = .ok (.istore 4, 2) := zd02dec2_12.2.2.2.2.2.2.1
theorem dX5_hardest_60 : decode cX5_hardest 60 = .ok (.iload 5, 2) := zd02dec2_12.2.2.2.2.2.2.2.1
theorem dX5_hardest_62 : decode cX5_hardest 62 = .ok (.istore_n 3, 1) := zd02dec2_12.2.2.2.2.2.2.2.2.1
theorem dX5_hardest_63 : decode cX5_hardest 63 = .ok (.iinc 5 1, 3) := zd02dec2_12.2.2.2.2.2.2.2.2.2.1
theorem dX5_hardest_66 : decode cX5_hardest 66 = .ok (.goto (-38), 3) := zd02dec2_12.2.2.2.2.2.2.2.2.2.2.1
theorem dX5_hardest_69 : decode cX5_hardest 69 = .ok (.iload_n 2, 1) := zd02dec2_12.2.2.2.2.2.2.2.2.2.2.2
theorem zd02dec2_13 : decode cX5_hardest 70 = .ok (.ifCond .ne 7, 3) ∧ decode cX5_hardest 73 = .ok (.iload_n 3, 1) ∧ decode cX5_hardest 74 = .ok (.goto 5, 3) ∧ decode cX5_hardest 77 = .ok (.iload 4, 2) ∧ decode cX5_hardest 79 = .ok (.ireturn, 1) := by decide +kernel
theorem dX5_hardest_70 : decode cX5_hardest 70 = .ok (.ifCond .ne 7, 3) := zd02dec2_13.1
theorem dX5_hardest_73 : decode cX5_hardest 73 = .ok (.iload_n 3, 1) := zd02dec2_13.2.1
theorem dX5_hardest_74 : decode cX5_hardest 74 = .ok (.goto 5, 3) := zd02dec2_13.2.2.1
theorem dX5_hardest_77 : decode cX5_hardest 77 = .ok (.iload 4, 2) := zd02dec2_13.2.2.2.1
theorem dX5_hardest_79 : decode cX5_hardest 79 = .ok (.ireturn, 1) := zd02dec2_13.2.2.2.2
theorem zd02dec2_14 : decode cX5_thick 0 = .ok (.aload_n 0, 1) ∧ decode cX5_thick 1 = .ok (.getfield 28, 3) ∧ decode cX5_thick 4 = .ok (.iload_n 1, 1) ∧ decode cX5_thick 5 = .ok (.iload_n 2, 1) ∧ decode cX5_thick 6 = .ok (.invokevirtual 137, 3) ∧ decode cX5_thick 9 = .ok (.ifCond .ne 6, 3) ∧ decode cX5_thick 12 = .ok (.bipush (-5), 2) ∧ decode cX5_thick 14 = .ok (.ireturn, 1) ∧ decode cX5_thick 15 = .ok (.iload_n 3, 1) ∧ decode cX5_thick 16 = .ok (.bipush 60, 2) ∧ decode cX5_thick 18 = .ok (.invokestatic 86, 3) ∧ decode cX5_thick 21 = .ok (.ifCond .ne 6, 3) := by decide +kernel
theorem dX5_thick_0 : decode cX5_thick 0 = .ok (.aload_n 0, 1) := zd02dec2_14.1
theorem dX5_thick_1 : decode cX5_thick 1 = .ok (.getfield 28, 3) := zd02dec2_14.2.1
theorem dX5_thick_4 : decode cX5_thick 4 = .ok (.iload_n 1, 1) := zd02dec2_14.2.2.1
theorem dX5_thick_5 : decode cX5_thick 5 = .ok (.iload_n 2, 1) := zd02dec2_14.2.2.2.1
theorem dX5_thick_6 : decode cX5_thick 6 = .ok (.invokevirtual 137, 3) := zd02dec2_14.2.2.2.2.1
theorem dX5_thick_9 : decode cX5_thick 9 = .ok (.ifCond .ne 6, 3) := zd02dec2_14.2.2.2.2.2.1
theorem dX5_thick_12 : decode cX5_thick 12 = .ok (.bipush (-5), 2) := zd02dec2_14.2.2.2.2.2.2.1
theorem dX5_thick_14 : decode cX5_thick 14 = .ok (.ireturn, 1) := zd02dec2_14.2.2.2.2.2.2.2.1
theorem dX5_thick_15 : decode cX5_thick 15 = .ok (.iload_n 3, 1) := zd02dec2_14.2.2.2.2.2.2.2.2.1
theorem dX5_thick_16 : decode cX5_thick 16 = .ok (.bipush 60, 2) := zd02dec2_14.2.2.2.2.2.2.2.2.2.1
theorem dX5_thick_18 : decode cX5_thick 18 = .ok (.invokestatic 86, 3) := zd02dec2_14.2.2.2.2.2.2.2.2.2.2.1
theorem dX5_thick_21 : decode cX5_thick 21 = .ok (.ifCond .ne 6, 3) := zd02dec2_14.2.2.2.2.2.2.2.2.2.2.2
theorem zd02dec2_15 : decode cX5_thick 24 = .ok (.bipush (-7), 2) ∧ decode cX5_thick 26 = .ok (.ireturn, 1) ∧ decode cX5_thick 27 = .ok (.iconst 0, 1) ∧ decode cX5_thick 28 = .ok (.istore 4, 2) ∧ decode cX5_thick 30 = .ok (.iload 4, 2) ∧ decode cX5_thick 32 = .ok (.bipush 20, 2) ∧ decode cX5_thick 34 = .ok (.if_icmp .gt 49, 3) ∧ decode cX5_thick 37 = .ok (.aload_n 0, 1) ∧ decode cX5_thick 38 = .ok (.invokevirtual 143, 3) ∧ decode cX5_thick 41 = .ok (.aload_n 0, 1) ∧ decode cX5_thick 42 = .ok (.getfield 32, 3) ∧ decode cX5_thick 45 = .ok (.getfield 98, 3) := by decide +kernel
theorem dX5_thick_24 : decode cX5_thick 24 = .ok (.bipush (-7), 2) := zd02dec2_15.1
theorem dX5_thick_26 : decode cX5_thick 26 = .ok (.ireturn, 1) := zd02dec2_15.2.1
theorem dX5_thick_27 : decode cX5_thick 27 = .ok (.iconst 0, 1) := zd02dec2_15.2.2.1
theorem dX5_thick_28 : decode cX5_thick 28 = .ok (.istore 4, 2) := zd02dec2_15.2.2.2.1
theorem dX5_thick_30 : decode cX5_thick 30 = .ok (.iload 4, 2) := zd02dec2_15.2.2.2.2.1
theorem dX5_thick_32 : decode cX5_thick 32 = .ok (.bipush 20, 2) := zd02dec2_15.2.2.2.2.2.1
theorem dX5_thick_34 : decode cX5_thick 34 = .ok (.if_icmp .gt 49, 3) := zd02dec2_15.2.2.2.2.2.2.1
theorem dX5_thick_37 : decode cX5_thick 37 = .ok (.aload_n 0, 1) := zd02dec2_15.2.2.2.2.2.2.2.1
theorem dX5_thick_38 : decode cX5_thick 38 = .ok (.invokevirtual 143, 3) := zd02dec2_15.2.2.2.2.2.2.2.2.1
theorem dX5_thick_41 : decode cX5_thick 41 = .ok (.aload_n 0, 1) := zd02dec2_15.2.2.2.2.2.2.2.2.2.1
theorem dX5_thick_42 : decode cX5_thick 42 = .ok (.getfield 32, 3) := zd02dec2_15.2.2.2.2.2.2.2.2.2.2.1
theorem dX5_thick_45 : decode cX5_thick 45 = .ok (.getfield 98, 3) := zd02dec2_15.2.2.2.2.2.2.2.2.2.2.2
theorem zd02dec2_16 : decode cX5_thick 48 = .ok (.iload_n 1, 1) ∧ decode cX5_thick 49 = .ok (.iload 4, 2) ∧ decode cX5_thick 51 = .ok (.iastore, 1) ∧ decode cX5_thick 52 = .ok (.aload_n 0, 1) ∧ decode cX5_thick 53 = .ok (.getfield 32, 3) ∧ decode cX5_thick 56 = .ok (.iload_n 1, 1) ∧ decode cX5_thick 57 = .ok (.iload_n 2, 1) ∧ decode cX5_thick 58 = .ok (.aload_n 0, 1) ∧ decode cX5_thick 59 = .ok (.getfield 32, 3) ∧ decode cX5_thick 62 = .ok (.iload_n 1, 1) ∧ decode cX5_thick 63 = .ok (.iload_n 2, 1) ∧ decode cX5_thick 64 = .ok (.iload_n 3, 1) := by decide +kernel
theorem dX5_thick_48 : decode cX5_thick 48 = .ok (.iload_n 1, 1) := zd02dec2_16.1
theorem dX5_thick_49 : decode cX5_thick 49 = .ok (.iload 4, 2) := zd02dec2_16.2.1
theorem dX5_thick_51 : decode cX5_thick 51 = .ok (.iastore, 1) := zd02dec2_16.2.2.1
theorem dX5_thick_52 : decode cX5_thick 52 = .ok (.aload_n 0, 1) := zd02dec2_16.2.2.2.1
theorem dX5_thick_53 : decode cX5_thick 53 = .ok (.getfield 32, 3) := zd02dec2_16.2.2.2.2.1
theorem dX5_thick_56 : decode cX5_thick 56 = .ok (.iload_n 1, 1) := zd02dec2_16.2.2.2.2.2.1
theorem dX5_thick_57 : decode cX5_thick 57 = .ok (.iload_n 2, 1) := zd02dec2_16.2.2.2.2.2.2.1
theorem dX5_thick_58 : decode cX5_thick 58 = .ok (.aload_n 0, 1) := zd02dec2_16.2.2.2.2.2.2.2.1
theorem dX5_thick_59 : decode cX5_thick 59 = .ok (.getfield 32, 3) := zd02dec2_16.2.2.2.2.2.2.2.2.1
theorem dX5_thick_62 : decode cX5_thick 62 = .ok (.iload_n 1, 1) := zd02dec2_16.2.2.2.2.2.2.2.2.2.1
theorem dX5_thick_63 : decode cX5_thick 63 = .ok (.iload_n 2, 1) := zd02dec2_16.2.2.2.2.2.2.2.2.2.2.1
theorem dX5_thick_64 : decode cX5_thick 64 = .ok (.iload_n 3, 1) := zd02dec2_16.2.2.2.2.2.2.2.2.2.2.2
theorem zd02dec2_17 : decode cX5_thick 65 = .ok (.invokevirtual 140, 3) ∧ decode cX5_thick 68 = .ok (.invokevirtual 164, 3) ∧ decode cX5_thick 71 = .ok (.ifCond .ne 6, 3) ∧ decode cX5_thick 74 = .ok (.iload 4, 2) ∧ decode cX5_thick 76 = .ok (.ireturn, 1) ∧ decode cX5_thick 77 = .ok (.iinc 4 1, 3) ∧ decode cX5_thick 80 = .ok (.goto (-50), 3) ∧ decode cX5_thick 83 = .ok (.iconst (-1), 1) ∧ decode cX5_thick 84 = .ok (.ireturn, 1) := by decide +kernel
theorem dX5_thick_65 : decode cX5_thick 65 = .ok (.invokevirtual 140, 3) := zd02dec2_17.1
theorem dX5_thick_68 : decode cX5_thick 68 = .ok (.invokevirtual 164, 3) := zd02dec2_17.2.1
theorem dX5_thick_71 : decode cX5_thick 71 = .ok (.ifCond .ne 6, 3) := zd02dec2_17.2.2.1
theorem dX5_thick_74 : decode cX5_thick 74 = .ok (.iload 4, 2) := zd02dec2_17.2.2.2.1
theorem dX5_thick_76 : decode cX5_thick 76 = .ok (.ireturn, 1) := zd02dec2_17.2.2.2.2.1
theorem dX5_thick_77 : decode cX5_thick 77 = .ok (.iinc 4 1, 3) := zd02dec2_17.2.2.2.2.2.1
theorem dX5_thick_80 : decode cX5_thick 80 = .ok (.goto (-50), 3) := zd02dec2_17.2.2.2.2.2.2.1
theorem dX5_thick_83 : decode cX5_thick 83 = .ok (.iconst (-1), 1) := zd02dec2_17.2.2.2.2.2.2.2.1
theorem dX5_thick_84 : decode cX5_thick 84 = .ok (.ireturn, 1) := zd02dec2_17.2.2.2.2.2.2.2.2
theorem zd02dec2_18 : decode cX5_order 0 = .ok (.aload_n 0, 1) ∧ decode cX5_order 1 = .ok (.getfield 28, 3) ∧ decode cX5_order 4 = .ok (.iload_n 1, 1) ∧ decode cX5_order 5 = .ok (.invokevirtual 94, 3) ∧ decode cX5_order 8 = .ok (.ifCond .ne 6, 3) ∧ decode cX5_order 11 = .ok (.bipush (-5), 2) ∧ decode cX5_order 13 = .ok (.ireturn, 1) ∧ decode cX5_order 14 = .ok (.iload_n 2, 1) ∧ decode cX5_order 15 = .ok (.bipush 60, 2) ∧ decode cX5_order 17 = .ok (.invokestatic 86, 3) ∧ decode cX5_order 20 = .ok (.ifCond .eq 10, 3) ∧ decode cX5_order 23 = .ok (.iload_n 3, 1) := by decide +kernel
theorem dX5_order_0 : decode cX5_order 0 = .ok (.aload_n 0, 1) := zd02dec2_18.1
theorem dX5_order_1 : decode cX5_order 1 = .ok (.getfield 28, 3) := zd02dec2_18.2.1
theorem dX5_order_4 : decode cX5_order 4 = .ok (.iload_n 1, 1) := zd02dec2_18.2.2.1
theorem dX5_order_5 : decode cX5_order 5 = .ok (.invokevirtual 94, 3) := zd02dec2_18.2.2.2.1
theorem dX5_order_8 : decode cX5_order 8 = .ok (.ifCond .ne 6, 3) := zd02dec2_18.2.2.2.2.1
theorem dX5_order_11 : decode cX5_order 11 = .ok (.bipush (-5), 2) := zd02dec2_18.2.2.2.2.2.1
theorem dX5_order_13 : decode cX5_order 13 = .ok (.ireturn, 1) := zd02dec2_18.2.2.2.2.2.2.1
theorem dX5_order_14 : decode cX5_order 14 = .ok (.iload_n 2, 1) := zd02dec2_18.2.2.2.2.2.2.2.1
theorem dX5_order_15 : decode cX5_order 15 = .ok (.bipush 60, 2) := zd02dec2_18.2.2.2.2.2.2.2.2.1
theorem dX5_order_17 : decode cX5_order 17 = .ok (.invokestatic 86, 3) := zd02dec2_18.2.2.2.2.2.2.2.2.2.1
theorem dX5_order_20 : decode cX5_order 20 = .ok (.ifCond .eq 10, 3) := zd02dec2_18.2.2.2.2.2.2.2.2.2.2.1
theorem dX5_order_23 : decode cX5_order 23 = .ok (.iload_n 3, 1) := zd02dec2_18.2.2.2.2.2.2.2.2.2.2.2
theorem zd02dec2_19 : decode cX5_order 24 = .ok (.invokestatic 167, 3) ∧ decode cX5_order 27 = .ok (.ifCond .ne 6, 3) ∧ decode cX5_order 30 = .ok (.bipush (-7), 2) ∧ decode cX5_order 32 = .ok (.ireturn, 1) ∧ decode cX5_order 33 = .ok (.aload_n 0, 1) ∧ decode cX5_order 34 = .ok (.iload_n 1, 1) ∧ decode cX5_order 35 = .ok (.iload_n 2, 1) ∧ decode cX5_order 36 = .ok (.iload_n 3, 1) ∧ decode cX5_order 37 = .ok (.bipush 10, 2) ∧ decode cX5_order 39 = .ok (.idiv, 1) ∧ decode cX5_order 40 = .ok (.iconst 1, 1) ∧ decode cX5_order 41 = .ok (.if_icmp .ne 7, 3) := by decide +kernel
theorem dX5_order_24 : decode cX5_order 24 = .ok (.invokestatic 167, 3) := zd02dec2_19.1
theorem dX5_order_27 : decode cX5_order 27 = .ok (.ifCond .ne 6, 3) := zd02dec2_19.2.1
theorem dX5_order_30 : decode cX5_order 30 = .ok (.bipush (-7), 2) := zd02dec2_19.2.2.1
theorem dX5_order_32 : decode cX5_order 32 = .ok (.ireturn, 1) := zd02dec2_19.2.2.2.1
theorem dX5_order_33 : decode cX5_order 33 = .ok (.aload_n 0, 1) := zd02dec2_19.2.2.2.2.1
theorem dX5_order_34 : decode cX5_order 34 = .ok (.iload_n 1, 1) := zd02dec2_19.2.2.2.2.2.1
theorem dX5_order_35 : decode cX5_order 35 = .ok (.iload_n 2, 1) := zd02dec2_19.2.2.2.2.2.2.1
theorem dX5_order_36 : decode cX5_order 36 = .ok (.iload_n 3, 1) := zd02dec2_19.2.2.2.2.2.2.2.1
theorem dX5_order_37 : decode cX5_order 37 = .ok (.bipush 10, 2) := zd02dec2_19.2.2.2.2.2.2.2.2.1
theorem dX5_order_39 : decode cX5_order 39 = .ok (.idiv, 1) := zd02dec2_19.2.2.2.2.2.2.2.2.2.1
theorem dX5_order_40 : decode cX5_order 40 = .ok (.iconst 1, 1) := zd02dec2_19.2.2.2.2.2.2.2.2.2.2.1
theorem dX5_order_41 : decode cX5_order 41 = .ok (.if_icmp .ne 7, 3) := zd02dec2_19.2.2.2.2.2.2.2.2.2.2.2
theorem zd02dec2_20 : decode cX5_order 44 = .ok (.iconst 1, 1) ∧ decode cX5_order 45 = .ok (.goto 4, 3) ∧ decode cX5_order 48 = .ok (.iconst 0, 1) ∧ decode cX5_order 49 = .ok (.invokevirtual 170, 3) ∧ decode cX5_order 52 = .ok (.aload_n 0, 1) ∧ decode cX5_order 53 = .ok (.getfield 48, 3) ∧ decode cX5_order 56 = .ok (.aload_n 0, 1) ∧ decode cX5_order 57 = .ok (.getfield 28, 3) ∧ decode cX5_order 60 = .ok (.getfield 71, 3) ∧ decode cX5_order 63 = .ok (.iconst 0, 1) ∧ decode cX5_order 64 = .ok (.invokevirtual 174, 3) ∧ decode cX5_order 67 = .ok (.iload_n 3, 1) := by decide +kernel
theorem dX5_order_44 : decode cX5_order 44 = .ok (.iconst 1, 1) := zd02dec2_20.1
theorem dX5_order_45 : decode cX5_order 45 = .ok (.goto 4, 3) := zd02dec2_20.2.1
theorem dX5_order_48 : decode cX5_order 48 = .ok (.iconst 0, 1) := zd02dec2_20.2.2.1
theorem dX5_order_49 : decode cX5_order 49 = .ok (.invokevirtual 170, 3) := zd02dec2_20.2.2.2.1
theorem dX5_order_52 : decode cX5_order 52 = .ok (.aload_n 0, 1) := zd02dec2_20.2.2.2.2.1
theorem dX5_order_53 : decode cX5_order 53 = .ok (.getfield 48, 3) := zd02dec2_20.2.2.2.2.2.1
theorem dX5_order_56 : decode cX5_order 56 = .ok (.aload_n 0, 1) := zd02dec2_20.2.2.2.2.2.2.1
theorem dX5_order_57 : decode cX5_order 57 = .ok (.getfield 28, 3) := zd02dec2_20.2.2.2.2.2.2.2.1
theorem dX5_order_60 : decode cX5_order 60 = .ok (.getfield 71, 3) := zd02dec2_20.2.2.2.2.2.2.2.2.1
theorem dX5_order_63 : decode cX5_order 63 = .ok (.iconst 0, 1) := zd02dec2_20.2.2.2.2.2.2.2.2.2.1
theorem dX5_order_64 : decode cX5_order 64 = .ok (.invokevirtual 174, 3) := zd02dec2_20.2.2.2.2.2.2.2.2.2.2.1
theorem dX5_order_67 : decode cX5_order 67 = .ok (.iload_n 3, 1) := zd02dec2_20.2.2.2.2.2.2.2.2.2.2.2
theorem zd02dec2_21 : decode cX5_order 68 = .ok (.bipush 10, 2) ∧ decode cX5_order 70 = .ok (.irem, 1) ∧ decode cX5_order 71 = .ok (.ifCond .ne 20, 3) ∧ decode cX5_order 74 = .ok (.aload_n 0, 1) ∧ decode cX5_order 75 = .ok (.getfield 48, 3) ∧ decode cX5_order 78 = .ok (.aload_n 0, 1) ∧ decode cX5_order 79 = .ok (.getfield 28, 3) ∧ decode cX5_order 82 = .ok (.getfield 71, 3) ∧ decode cX5_order 85 = .ok (.invokevirtual 178, 3) ∧ decode cX5_order 88 = .ok (.goto 10, 3) ∧ decode cX5_order 91 = .ok (.aload_n 0, 1) ∧ decode cX5_order 92 = .ok (.getfield 48, 3) := by decide +kernel
theorem dX5_order_68 : decode cX5_order 68 = .ok (.bipush 10, 2) := zd02dec2_21.1
theorem dX5_order_70 : decode cX5_order 70 = .ok (.irem, 1) := zd02dec2_21.2.1
theorem dX5_order_71 : decode cX5_order 71 = .ok (.ifCond .ne 20, 3) := zd02dec2_21.2.2.1
theorem dX5_order_74 : decode cX5_order 74 = .ok (.aload_n 0, 1) := zd02dec2_21.2.2.2.1
theorem dX5_order_75 : decode cX5_order 75 = .ok (.getfield 48, 3) := zd02dec2_21.2.2.2.2.1
theorem dX5_order_78 : decode cX5_order 78 = .ok (.aload_n 0, 1) := zd02dec2_21.2.2.2.2.2.1
theorem dX5_order_79 : decode cX5_order 79 = .ok (.getfield 28, 3) := zd02dec2_21.2.2.2.2.2.2.1
theorem dX5_order_82 : decode cX5_order 82 = .ok (.getfield 71, 3) := zd02dec2_21.2.2.2.2.2.2.2.1
theorem dX5_order_85 : decode cX5_order 85 = .ok (.invokevirtual 178, 3) := zd02dec2_21.2.2.2.2.2.2.2.2.1
theorem dX5_order_88 : decode cX5_order 88 = .ok (.goto 10, 3) := zd02dec2_21.2.2.2.2.2.2.2.2.2.1
theorem dX5_order_91 : decode cX5_order 91 = .ok (.aload_n 0, 1) := zd02dec2_21.2.2.2.2.2.2.2.2.2.2.1
theorem dX5_order_92 : decode cX5_order 92 = .ok (.getfield 48, 3) := zd02dec2_21.2.2.2.2.2.2.2.2.2.2.2
theorem zd02dec2_22 : decode cX5_order 95 = .ok (.invokevirtual 181, 3) ∧ decode cX5_order 98 = .ok (.ireturn, 1) := by decide +kernel
theorem dX5_order_95 : decode cX5_order 95 = .ok (.invokevirtual 181, 3) := zd02dec2_22.1
theorem dX5_order_98 : decode cX5_order 98 = .ok (.ireturn, 1) := zd02dec2_22.2
theorem zd02dec2_23 : decode cX5_counsel 0 = .ok (.aload_n 0, 1) ∧ decode cX5_counsel 1 = .ok (.getfield 28, 3) ∧ decode cX5_counsel 4 = .ok (.iload_n 1, 1) ∧ decode cX5_counsel 5 = .ok (.invokevirtual 94, 3) ∧ decode cX5_counsel 8 = .ok (.ifCond .ne 6, 3) ∧ decode cX5_counsel 11 = .ok (.bipush (-5), 2) ∧ decode cX5_counsel 13 = .ok (.ireturn, 1) ∧ decode cX5_counsel 14 = .ok (.iload_n 2, 1) ∧ decode cX5_counsel 15 = .ok (.bipush 60, 2) ∧ decode cX5_counsel 17 = .ok (.invokestatic 86, 3) ∧ decode cX5_counsel 20 = .ok (.ifCond .eq 11, 3) ∧ decode cX5_counsel 23 = .ok (.iload_n 3, 1) := by decide +kernel
theorem dX5_counsel_0 : decode cX5_counsel 0 = .ok (.aload_n 0, 1) := zd02dec2_23.1
theorem dX5_counsel_1 : decode cX5_counsel 1 = .ok (.getfield 28, 3) := zd02dec2_23.2.1
theorem dX5_counsel_4 : decode cX5_counsel 4 = .ok (.iload_n 1, 1) := zd02dec2_23.2.2.1
theorem dX5_counsel_5 : decode cX5_counsel 5 = .ok (.invokevirtual 94, 3) := zd02dec2_23.2.2.2.1
theorem dX5_counsel_8 : decode cX5_counsel 8 = .ok (.ifCond .ne 6, 3) := zd02dec2_23.2.2.2.2.1
theorem dX5_counsel_11 : decode cX5_counsel 11 = .ok (.bipush (-5), 2) := zd02dec2_23.2.2.2.2.2.1
theorem dX5_counsel_13 : decode cX5_counsel 13 = .ok (.ireturn, 1) := zd02dec2_23.2.2.2.2.2.2.1
theorem dX5_counsel_14 : decode cX5_counsel 14 = .ok (.iload_n 2, 1) := zd02dec2_23.2.2.2.2.2.2.2.1
theorem dX5_counsel_15 : decode cX5_counsel 15 = .ok (.bipush 60, 2) := zd02dec2_23.2.2.2.2.2.2.2.2.1
theorem dX5_counsel_17 : decode cX5_counsel 17 = .ok (.invokestatic 86, 3) := zd02dec2_23.2.2.2.2.2.2.2.2.2.1
theorem dX5_counsel_20 : decode cX5_counsel 20 = .ok (.ifCond .eq 11, 3) := zd02dec2_23.2.2.2.2.2.2.2.2.2.2.1
theorem dX5_counsel_23 : decode cX5_counsel 23 = .ok (.iload_n 3, 1) := zd02dec2_23.2.2.2.2.2.2.2.2.2.2.2
theorem zd02dec2_24 : decode cX5_counsel 24 = .ok (.iconst 1, 1) ∧ decode cX5_counsel 25 = .ok (.invokestatic 86, 3) ∧ decode cX5_counsel 28 = .ok (.ifCond .ne 6, 3) ∧ decode cX5_counsel 31 = .ok (.bipush (-7), 2) ∧ decode cX5_counsel 33 = .ok (.ireturn, 1) ∧ decode cX5_counsel 34 = .ok (.aload_n 0, 1) ∧ decode cX5_counsel 35 = .ok (.iload_n 1, 1) ∧ decode cX5_counsel 36 = .ok (.iload_n 2, 1) ∧ decode cX5_counsel 37 = .ok (.iconst 1, 1) ∧ decode cX5_counsel 38 = .ok (.invokevirtual 170, 3) ∧ decode cX5_counsel 41 = .ok (.aload_n 0, 1) ∧ decode cX5_counsel 42 = .ok (.getfield 48, 3) := by decide +kernel
theorem dX5_counsel_24 : decode cX5_counsel 24 = .ok (.iconst 1, 1) := zd02dec2_24.1
theorem dX5_counsel_25 : decode cX5_counsel 25 = .ok (.invokestatic 86, 3) := zd02dec2_24.2.1
theorem dX5_counsel_28 : decode cX5_counsel 28 = .ok (.ifCond .ne 6, 3) := zd02dec2_24.2.2.1
theorem dX5_counsel_31 : decode cX5_counsel 31 = .ok (.bipush (-7), 2) := zd02dec2_24.2.2.2.1
theorem dX5_counsel_33 : decode cX5_counsel 33 = .ok (.ireturn, 1) := zd02dec2_24.2.2.2.2.1
theorem dX5_counsel_34 : decode cX5_counsel 34 = .ok (.aload_n 0, 1) := zd02dec2_24.2.2.2.2.2.1
theorem dX5_counsel_35 : decode cX5_counsel 35 = .ok (.iload_n 1, 1) := zd02dec2_24.2.2.2.2.2.2.1
theorem dX5_counsel_36 : decode cX5_counsel 36 = .ok (.iload_n 2, 1) := zd02dec2_24.2.2.2.2.2.2.2.1
theorem dX5_counsel_37 : decode cX5_counsel 37 = .ok (.iconst 1, 1) := zd02dec2_24.2.2.2.2.2.2.2.2.1
theorem dX5_counsel_38 : decode cX5_counsel 38 = .ok (.invokevirtual 170, 3) := zd02dec2_24.2.2.2.2.2.2.2.2.2.1
theorem dX5_counsel_41 : decode cX5_counsel 41 = .ok (.aload_n 0, 1) := zd02dec2_24.2.2.2.2.2.2.2.2.2.2.1
theorem dX5_counsel_42 : decode cX5_counsel 42 = .ok (.getfield 48, 3) := zd02dec2_24.2.2.2.2.2.2.2.2.2.2.2
theorem zd02dec2_25 : decode cX5_counsel 45 = .ok (.aload_n 0, 1) ∧ decode cX5_counsel 46 = .ok (.getfield 28, 3) ∧ decode cX5_counsel 49 = .ok (.getfield 71, 3) ∧ decode cX5_counsel 52 = .ok (.iconst 1, 1) ∧ decode cX5_counsel 53 = .ok (.invokevirtual 174, 3) ∧ decode cX5_counsel 56 = .ok (.iload_n 3, 1) ∧ decode cX5_counsel 57 = .ok (.ifCond .ne 13, 3) ∧ decode cX5_counsel 60 = .ok (.aload_n 0, 1) ∧ decode cX5_counsel 61 = .ok (.getfield 48, 3) ∧ decode cX5_counsel 64 = .ok (.invokevirtual 181, 3) ∧ decode cX5_counsel 67 = .ok (.goto 18, 3) ∧ decode cX5_counsel 70 = .ok (.aload_n 0, 1) := by decide +kernel
theorem dX5_counsel_45 : decode cX5_counsel 45 = .ok (.aload_n 0, 1) := zd02dec2_25.1
theorem dX5_counsel_46 : decode cX5_counsel 46 = .ok (.getfield 28, 3) := zd02dec2_25.2.1
theorem dX5_counsel_49 : decode cX5_counsel 49 = .ok (.getfield 71, 3) := zd02dec2_25.2.2.1
theorem dX5_counsel_52 : decode cX5_counsel 52 = .ok (.iconst 1, 1) := zd02dec2_25.2.2.2.1
theorem dX5_counsel_53 : decode cX5_counsel 53 = .ok (.invokevirtual 174, 3) := zd02dec2_25.2.2.2.2.1
theorem dX5_counsel_56 : decode cX5_counsel 56 = .ok (.iload_n 3, 1) := zd02dec2_25.2.2.2.2.2.1
theorem dX5_counsel_57 : decode cX5_counsel 57 = .ok (.ifCond .ne 13, 3) := zd02dec2_25.2.2.2.2.2.2.1
theorem dX5_counsel_60 : decode cX5_counsel 60 = .ok (.aload_n 0, 1) := zd02dec2_25.2.2.2.2.2.2.2.1
theorem dX5_counsel_61 : decode cX5_counsel 61 = .ok (.getfield 48, 3) := zd02dec2_25.2.2.2.2.2.2.2.2.1
theorem dX5_counsel_64 : decode cX5_counsel 64 = .ok (.invokevirtual 181, 3) := zd02dec2_25.2.2.2.2.2.2.2.2.2.1
theorem dX5_counsel_67 : decode cX5_counsel 67 = .ok (.goto 18, 3) := zd02dec2_25.2.2.2.2.2.2.2.2.2.2.1
theorem dX5_counsel_70 : decode cX5_counsel 70 = .ok (.aload_n 0, 1) := zd02dec2_25.2.2.2.2.2.2.2.2.2.2.2
theorem zd02dec2_26 : decode cX5_counsel 71 = .ok (.getfield 48, 3) ∧ decode cX5_counsel 74 = .ok (.iconst 0, 1) ∧ decode cX5_counsel 75 = .ok (.aload_n 0, 1) ∧ decode cX5_counsel 76 = .ok (.getfield 28, 3) ∧ decode cX5_counsel 79 = .ok (.getfield 71, 3) ∧ decode cX5_counsel 82 = .ok (.invokevirtual 184, 3) ∧ decode cX5_counsel 85 = .ok (.ireturn, 1) := by decide +kernel
theorem dX5_counsel_71 : decode cX5_counsel 71 = .ok (.getfield 48, 3) := zd02dec2_26.1
theorem dX5_counsel_74 : decode cX5_counsel 74 = .ok (.iconst 0, 1) := zd02dec2_26.2.1
theorem dX5_counsel_75 : decode cX5_counsel 75 = .ok (.aload_n 0, 1) := zd02dec2_26.2.2.1
theorem dX5_counsel_76 : decode cX5_counsel 76 = .ok (.getfield 28, 3) := zd02dec2_26.2.2.2.1
theorem dX5_counsel_79 : decode cX5_counsel 79 = .ok (.getfield 71, 3) := zd02dec2_26.2.2.2.2.1
theorem dX5_counsel_82 : decode cX5_counsel 82 = .ok (.invokevirtual 184, 3) := zd02dec2_26.2.2.2.2.2.1
theorem dX5_counsel_85 : decode cX5_counsel 85 = .ok (.ireturn, 1) := zd02dec2_26.2.2.2.2.2.2
theorem zd02dec2_27 : decode cX5_reversed 0 = .ok (.aload_n 0, 1) ∧ decode cX5_reversed 1 = .ok (.iload_n 1, 1) ∧ decode cX5_reversed 2 = .ok (.iload_n 2, 1) ∧ decode cX5_reversed 3 = .ok (.invokevirtual 187, 3) ∧ decode cX5_reversed 6 = .ok (.istore_n 3, 1) ∧ decode cX5_reversed 7 = .ok (.iload_n 3, 1) ∧ decode cX5_reversed 8 = .ok (.ifCond .eq 5, 3) ∧ decode cX5_reversed 11 = .ok (.iload_n 3, 1) ∧ decode cX5_reversed 12 = .ok (.ireturn, 1) ∧ decode cX5_reversed 13 = .ok (.aload_n 0, 1) ∧ decode cX5_reversed 14 = .ok (.invokevirtual 143, 3) ∧ decode cX5_reversed 17 = .ok (.aload_n 0, 1) := by decide +kernel
theorem dX5_reversed_0 : decode cX5_reversed 0 = .ok (.aload_n 0, 1) := zd02dec2_27.1
theorem dX5_reversed_1 : decode cX5_reversed 1 = .ok (.iload_n 1, 1) := zd02dec2_27.2.1
theorem dX5_reversed_2 : decode cX5_reversed 2 = .ok (.iload_n 2, 1) := zd02dec2_27.2.2.1
theorem dX5_reversed_3 : decode cX5_reversed 3 = .ok (.invokevirtual 187, 3) := zd02dec2_27.2.2.2.1
theorem dX5_reversed_6 : decode cX5_reversed 6 = .ok (.istore_n 3, 1) := zd02dec2_27.2.2.2.2.1
theorem dX5_reversed_7 : decode cX5_reversed 7 = .ok (.iload_n 3, 1) := zd02dec2_27.2.2.2.2.2.1
theorem dX5_reversed_8 : decode cX5_reversed 8 = .ok (.ifCond .eq 5, 3) := zd02dec2_27.2.2.2.2.2.2.1
theorem dX5_reversed_11 : decode cX5_reversed 11 = .ok (.iload_n 3, 1) := zd02dec2_27.2.2.2.2.2.2.2.1
theorem dX5_reversed_12 : decode cX5_reversed 12 = .ok (.ireturn, 1) := zd02dec2_27.2.2.2.2.2.2.2.2.1
theorem dX5_reversed_13 : decode cX5_reversed 13 = .ok (.aload_n 0, 1) := zd02dec2_27.2.2.2.2.2.2.2.2.2.1
theorem dX5_reversed_14 : decode cX5_reversed 14 = .ok (.invokevirtual 143, 3) := zd02dec2_27.2.2.2.2.2.2.2.2.2.2.1
theorem dX5_reversed_17 : decode cX5_reversed 17 = .ok (.aload_n 0, 1) := zd02dec2_27.2.2.2.2.2.2.2.2.2.2.2
theorem zd02dec2_28 : decode cX5_reversed 18 = .ok (.iload_n 1, 1) ∧ decode cX5_reversed 19 = .ok (.iload_n 2, 1) ∧ decode cX5_reversed 20 = .ok (.invokevirtual 190, 3) ∧ decode cX5_reversed 23 = .ok (.ireturn, 1) := by decide +kernel
theorem dX5_reversed_18 : decode cX5_reversed 18 = .ok (.iload_n 1, 1) := zd02dec2_28.1
theorem dX5_reversed_19 : decode cX5_reversed 19 = .ok (.iload_n 2, 1) := zd02dec2_28.2.1
theorem dX5_reversed_20 : decode cX5_reversed 20 = .ok (.invokevirtual 190, 3) := zd02dec2_28.2.2.1
theorem dX5_reversed_23 : decode cX5_reversed 23 = .ok (.ireturn, 1) := zd02dec2_28.2.2.2
theorem zd02dec2_29 : decode cX5_kinds 0 = .ok (.aload_n 0, 1) ∧ decode cX5_kinds 1 = .ok (.iload_n 1, 1) ∧ decode cX5_kinds 2 = .ok (.iload_n 2, 1) ∧ decode cX5_kinds 3 = .ok (.invokevirtual 187, 3) ∧ decode cX5_kinds 6 = .ok (.istore 5, 2) ∧ decode cX5_kinds 8 = .ok (.iload 5, 2) ∧ decode cX5_kinds 10 = .ok (.ifCond .eq 6, 3) ∧ decode cX5_kinds 13 = .ok (.iload 5, 2) ∧ decode cX5_kinds 15 = .ok (.ireturn, 1) ∧ decode cX5_kinds 16 = .ok (.aload_n 0, 1) ∧ decode cX5_kinds 17 = .ok (.getfield 28, 3) ∧ decode cX5_kinds 20 = .ok (.iload_n 3, 1) := by decide +kernel
theorem dX5_kinds_0 : decode cX5_kinds 0 = .ok (.aload_n 0, 1) := zd02dec2_29.1
theorem dX5_kinds_1 : decode cX5_kinds 1 = .ok (.iload_n 1, 1) := zd02dec2_29.2.1
theorem dX5_kinds_2 : decode cX5_kinds 2 = .ok (.iload_n 2, 1) := zd02dec2_29.2.2.1
theorem dX5_kinds_3 : decode cX5_kinds 3 = .ok (.invokevirtual 187, 3) := zd02dec2_29.2.2.2.1
theorem dX5_kinds_6 : decode cX5_kinds 6 = .ok (.istore 5, 2) := zd02dec2_29.2.2.2.2.1
theorem dX5_kinds_8 : decode cX5_kinds 8 = .ok (.iload 5, 2) := zd02dec2_29.2.2.2.2.2.1
theorem dX5_kinds_10 : decode cX5_kinds 10 = .ok (.ifCond .eq 6, 3) := zd02dec2_29.2.2.2.2.2.2.1
theorem dX5_kinds_13 : decode cX5_kinds 13 = .ok (.iload 5, 2) := zd02dec2_29.2.2.2.2.2.2.2.1
theorem dX5_kinds_15 : decode cX5_kinds 15 = .ok (.ireturn, 1) := zd02dec2_29.2.2.2.2.2.2.2.2.1
theorem dX5_kinds_16 : decode cX5_kinds 16 = .ok (.aload_n 0, 1) := zd02dec2_29.2.2.2.2.2.2.2.2.2.1
theorem dX5_kinds_17 : decode cX5_kinds 17 = .ok (.getfield 28, 3) := zd02dec2_29.2.2.2.2.2.2.2.2.2.2.1
theorem dX5_kinds_20 : decode cX5_kinds 20 = .ok (.iload_n 3, 1) := zd02dec2_29.2.2.2.2.2.2.2.2.2.2.2
theorem zd02dec2_30 : decode cX5_kinds 21 = .ok (.invokevirtual 111, 3) ∧ decode cX5_kinds 24 = .ok (.ifCond .ne 6, 3) ∧ decode cX5_kinds 27 = .ok (.bipush (-6), 2) ∧ decode cX5_kinds 29 = .ok (.ireturn, 1) ∧ decode cX5_kinds 30 = .ok (.iload 4, 2) ∧ decode cX5_kinds 32 = .ok (.iconst 1, 1) ∧ decode cX5_kinds 33 = .ok (.invokestatic 86, 3) ∧ decode cX5_kinds 36 = .ok (.ifCond .ne 6, 3) ∧ decode cX5_kinds 39 = .ok (.bipush (-7), 2) ∧ decode cX5_kinds 41 = .ok (.ireturn, 1) ∧ decode cX5_kinds 42 = .ok (.iload 4, 2) ∧ decode cX5_kinds 44 = .ok (.ifCond .ne 13, 3) := by decide +kernel
theorem dX5_kinds_21 : decode cX5_kinds 21 = .ok (.invokevirtual 111, 3) := zd02dec2_30.1
theorem dX5_kinds_24 : decode cX5_kinds 24 = .ok (.ifCond .ne 6, 3) := zd02dec2_30.2.1
theorem dX5_kinds_27 : decode cX5_kinds 27 = .ok (.bipush (-6), 2) := zd02dec2_30.2.2.1
theorem dX5_kinds_29 : decode cX5_kinds 29 = .ok (.ireturn, 1) := zd02dec2_30.2.2.2.1
theorem dX5_kinds_30 : decode cX5_kinds 30 = .ok (.iload 4, 2) := zd02dec2_30.2.2.2.2.1
theorem dX5_kinds_32 : decode cX5_kinds 32 = .ok (.iconst 1, 1) := zd02dec2_30.2.2.2.2.2.1
theorem dX5_kinds_33 : decode cX5_kinds 33 = .ok (.invokestatic 86, 3) := zd02dec2_30.2.2.2.2.2.2.1
theorem dX5_kinds_36 : decode cX5_kinds 36 = .ok (.ifCond .ne 6, 3) := zd02dec2_30.2.2.2.2.2.2.2.1
theorem dX5_kinds_39 : decode cX5_kinds 39 = .ok (.bipush (-7), 2) := zd02dec2_30.2.2.2.2.2.2.2.2.1
theorem dX5_kinds_41 : decode cX5_kinds 41 = .ok (.ireturn, 1) := zd02dec2_30.2.2.2.2.2.2.2.2.2.1
theorem dX5_kinds_42 : decode cX5_kinds 42 = .ok (.iload 4, 2) := zd02dec2_30.2.2.2.2.2.2.2.2.2.2.1
theorem dX5_kinds_44 : decode cX5_kinds 44 = .ok (.ifCond .ne 13, 3) := zd02dec2_30.2.2.2.2.2.2.2.2.2.2.2
theorem zd02dec2_31 : decode cX5_kinds 47 = .ok (.aload_n 0, 1) ∧ decode cX5_kinds 48 = .ok (.getfield 32, 3) ∧ decode cX5_kinds 51 = .ok (.getfield 128, 3) ∧ decode cX5_kinds 54 = .ok (.goto 10, 3) ∧ decode cX5_kinds 57 = .ok (.aload_n 0, 1) ∧ decode cX5_kinds 58 = .ok (.getfield 32, 3) ∧ decode cX5_kinds 61 = .ok (.getfield 131, 3) ∧ decode cX5_kinds 64 = .ok (.astore 6, 2) ∧ decode cX5_kinds 66 = .ok (.iload 4, 2) ∧ decode cX5_kinds 68 = .ok (.ifCond .ne 7, 3) ∧ decode cX5_kinds 71 = .ok (.iconst 5, 1) ∧ decode cX5_kinds 72 = .ok (.goto 5, 3) := by decide +kernel
theorem dX5_kinds_47 : decode cX5_kinds 47 = .ok (.aload_n 0, 1) := zd02dec2_31.1
theorem dX5_kinds_48 : decode cX5_kinds 48 = .ok (.getfield 32, 3) := zd02dec2_31.2.1
theorem dX5_kinds_51 : decode cX5_kinds 51 = .ok (.getfield 128, 3) := zd02dec2_31.2.2.1
theorem dX5_kinds_54 : decode cX5_kinds 54 = .ok (.goto 10, 3) := zd02dec2_31.2.2.2.1
theorem dX5_kinds_57 : decode cX5_kinds 57 = .ok (.aload_n 0, 1) := zd02dec2_31.2.2.2.2.1
theorem dX5_kinds_58 : decode cX5_kinds 58 = .ok (.getfield 32, 3) := zd02dec2_31.2.2.2.2.2.1
theorem dX5_kinds_61 : decode cX5_kinds 61 = .ok (.getfield 131, 3) := zd02dec2_31.2.2.2.2.2.2.1
theorem dX5_kinds_64 : decode cX5_kinds 64 = .ok (.astore 6, 2) := zd02dec2_31.2.2.2.2.2.2.2.1
theorem dX5_kinds_66 : decode cX5_kinds 66 = .ok (.iload 4, 2) := zd02dec2_31.2.2.2.2.2.2.2.2.1
theorem dX5_kinds_68 : decode cX5_kinds 68 = .ok (.ifCond .ne 7, 3) := zd02dec2_31.2.2.2.2.2.2.2.2.2.1
theorem dX5_kinds_71 : decode cX5_kinds 71 = .ok (.iconst 5, 1) := zd02dec2_31.2.2.2.2.2.2.2.2.2.2.1
theorem dX5_kinds_72 : decode cX5_kinds 72 = .ok (.goto 5, 3) := zd02dec2_31.2.2.2.2.2.2.2.2.2.2.2
theorem zd02dec2_32 : decode cX5_kinds 75 = .ok (.bipush 9, 2) ∧ decode cX5_kinds 77 = .ok (.istore 7, 2) ∧ decode cX5_kinds 79 = .ok (.iconst 0, 1) ∧ decode cX5_kinds 80 = .ok (.istore 8, 2) ∧ decode cX5_kinds 82 = .ok (.iconst 0, 1) ∧ decode cX5_kinds 83 = .ok (.istore 9, 2) ∧ decode cX5_kinds 85 = .ok (.iload 9, 2) ∧ decode cX5_kinds 87 = .ok (.iload 7, 2) ∧ decode cX5_kinds 89 = .ok (.if_icmp .gt 38, 3) ∧ decode cX5_kinds 92 = .ok (.aload_n 0, 1) ∧ decode cX5_kinds 93 = .ok (.invokevirtual 143, 3) ∧ decode cX5_kinds 96 = .ok (.aload 6, 2) := by decide +kernel
theorem dX5_kinds_75 : decode cX5_kinds 75 = .ok (.bipush 9, 2) := zd02dec2_32.1
theorem dX5_kinds_77 : decode cX5_kinds 77 = .ok (.istore 7, 2) := zd02dec2_32.2.1
theorem dX5_kinds_79 : decode cX5_kinds 79 = .ok (.iconst 0, 1) := zd02dec2_32.2.2.1
theorem dX5_kinds_80 : decode cX5_kinds 80 = .ok (.istore 8, 2) := zd02dec2_32.2.2.2.1
theorem dX5_kinds_82 : decode cX5_kinds 82 = .ok (.iconst 0, 1) := zd02dec2_32.2.2.2.2.1
theorem dX5_kinds_83 : decode cX5_kinds 83 = .ok (.istore 9, 2) := zd02dec2_32.2.2.2.2.2.1
theorem dX5_kinds_85 : decode cX5_kinds 85 = .ok (.iload 9, 2) := zd02dec2_32.2.2.2.2.2.2.1
theorem dX5_kinds_87 : decode cX5_kinds 87 = .ok (.iload 7, 2) := zd02dec2_32.2.2.2.2.2.2.2.1
theorem dX5_kinds_89 : decode cX5_kinds 89 = .ok (.if_icmp .gt 38, 3) := zd02dec2_32.2.2.2.2.2.2.2.2.1
theorem dX5_kinds_92 : decode cX5_kinds 92 = .ok (.aload_n 0, 1) := zd02dec2_32.2.2.2.2.2.2.2.2.2.1
theorem dX5_kinds_93 : decode cX5_kinds 93 = .ok (.invokevirtual 143, 3) := zd02dec2_32.2.2.2.2.2.2.2.2.2.2.1
theorem dX5_kinds_96 : decode cX5_kinds 96 = .ok (.aload 6, 2) := zd02dec2_32.2.2.2.2.2.2.2.2.2.2.2
theorem zd02dec2_33 : decode cX5_kinds 98 = .ok (.iload_n 3, 1) ∧ decode cX5_kinds 99 = .ok (.iload 9, 2) ∧ decode cX5_kinds 101 = .ok (.iastore, 1) ∧ decode cX5_kinds 102 = .ok (.aload_n 0, 1) ∧ decode cX5_kinds 103 = .ok (.iload_n 1, 1) ∧ decode cX5_kinds 104 = .ok (.iload_n 2, 1) ∧ decode cX5_kinds 105 = .ok (.invokevirtual 190, 3) ∧ decode cX5_kinds 108 = .ok (.iconst (-1), 1) ∧ decode cX5_kinds 109 = .ok (.if_icmp .ne 12, 3) ∧ decode cX5_kinds 112 = .ok (.iload 8, 2) ∧ decode cX5_kinds 114 = .ok (.iconst 1, 1) ∧ decode cX5_kinds 115 = .ok (.iload 9, 2) := by decide +kernel
theorem dX5_kinds_98 : decode cX5_kinds 98 = .ok (.iload_n 3, 1) := zd02dec2_33.1
theorem dX5_kinds_99 : decode cX5_kinds 99 = .ok (.iload 9, 2) := zd02dec2_33.2.1
theorem dX5_kinds_101 : decode cX5_kinds 101 = .ok (.iastore, 1) := zd02dec2_33.2.2.1
theorem dX5_kinds_102 : decode cX5_kinds 102 = .ok (.aload_n 0, 1) := zd02dec2_33.2.2.2.1
theorem dX5_kinds_103 : decode cX5_kinds 103 = .ok (.iload_n 1, 1) := zd02dec2_33.2.2.2.2.1
theorem dX5_kinds_104 : decode cX5_kinds 104 = .ok (.iload_n 2, 1) := zd02dec2_33.2.2.2.2.2.1
theorem dX5_kinds_105 : decode cX5_kinds 105 = .ok (.invokevirtual 190, 3) := zd02dec2_33.2.2.2.2.2.2.1
theorem dX5_kinds_108 : decode cX5_kinds 108 = .ok (.iconst (-1), 1) := zd02dec2_33.2.2.2.2.2.2.2.1
theorem dX5_kinds_109 : decode cX5_kinds 109 = .ok (.if_icmp .ne 12, 3) := zd02dec2_33.2.2.2.2.2.2.2.2.1
theorem dX5_kinds_112 : decode cX5_kinds 112 = .ok (.iload 8, 2) := zd02dec2_33.2.2.2.2.2.2.2.2.2.1
theorem dX5_kinds_114 : decode cX5_kinds 114 = .ok (.iconst 1, 1) := zd02dec2_33.2.2.2.2.2.2.2.2.2.2.1
theorem dX5_kinds_115 : decode cX5_kinds 115 = .ok (.iload 9, 2) := zd02dec2_33.2.2.2.2.2.2.2.2.2.2.2
theorem zd02dec2_34 : decode cX5_kinds 117 = .ok (.ishl, 1) ∧ decode cX5_kinds 118 = .ok (.ior, 1) ∧ decode cX5_kinds 119 = .ok (.istore 8, 2) ∧ decode cX5_kinds 121 = .ok (.iinc 9 1, 3) ∧ decode cX5_kinds 124 = .ok (.goto (-39), 3) ∧ decode cX5_kinds 127 = .ok (.iload 8, 2) ∧ decode cX5_kinds 129 = .ok (.ireturn, 1) := by decide +kernel
theorem dX5_kinds_117 : decode cX5_kinds 117 = .ok (.ishl, 1) := zd02dec2_34.1
theorem dX5_kinds_118 : decode cX5_kinds 118 = .ok (.ior, 1) := zd02dec2_34.2.1
theorem dX5_kinds_119 : decode cX5_kinds 119 = .ok (.istore 8, 2) := zd02dec2_34.2.2.1
theorem dX5_kinds_121 : decode cX5_kinds 121 = .ok (.iinc 9 1, 3) := zd02dec2_34.2.2.2.1
theorem dX5_kinds_124 : decode cX5_kinds 124 = .ok (.goto (-39), 3) := zd02dec2_34.2.2.2.2.1
theorem dX5_kinds_127 : decode cX5_kinds 127 = .ok (.iload 8, 2) := zd02dec2_34.2.2.2.2.2.1
theorem dX5_kinds_129 : decode cX5_kinds 129 = .ok (.ireturn, 1) := zd02dec2_34.2.2.2.2.2.2
theorem zd02dec2_35 : decode cX5_soled 0 = .ok (.aload_n 0, 1) ∧ decode cX5_soled 1 = .ok (.iload_n 1, 1) ∧ decode cX5_soled 2 = .ok (.iload_n 2, 1) ∧ decode cX5_soled 3 = .ok (.invokevirtual 187, 3) ∧ decode cX5_soled 6 = .ok (.istore_n 3, 1) ∧ decode cX5_soled 7 = .ok (.iload_n 3, 1) ∧ decode cX5_soled 8 = .ok (.ifCond .eq 5, 3) ∧ decode cX5_soled 11 = .ok (.iload_n 3, 1) ∧ decode cX5_soled 12 = .ok (.ireturn, 1) ∧ decode cX5_soled 13 = .ok (.iconst 0, 1) ∧ decode cX5_soled 14 = .ok (.istore 4, 2) ∧ decode cX5_soled 16 = .ok (.iconst 0, 1) := by decide +kernel
theorem dX5_soled_0 : decode cX5_soled 0 = .ok (.aload_n 0, 1) := zd02dec2_35.1
theorem dX5_soled_1 : decode cX5_soled 1 = .ok (.iload_n 1, 1) := zd02dec2_35.2.1
theorem dX5_soled_2 : decode cX5_soled 2 = .ok (.iload_n 2, 1) := zd02dec2_35.2.2.1
theorem dX5_soled_3 : decode cX5_soled 3 = .ok (.invokevirtual 187, 3) := zd02dec2_35.2.2.2.1
theorem dX5_soled_6 : decode cX5_soled 6 = .ok (.istore_n 3, 1) := zd02dec2_35.2.2.2.2.1
theorem dX5_soled_7 : decode cX5_soled 7 = .ok (.iload_n 3, 1) := zd02dec2_35.2.2.2.2.2.1
theorem dX5_soled_8 : decode cX5_soled 8 = .ok (.ifCond .eq 5, 3) := zd02dec2_35.2.2.2.2.2.2.1
theorem dX5_soled_11 : decode cX5_soled 11 = .ok (.iload_n 3, 1) := zd02dec2_35.2.2.2.2.2.2.2.1
theorem dX5_soled_12 : decode cX5_soled 12 = .ok (.ireturn, 1) := zd02dec2_35.2.2.2.2.2.2.2.2.1
theorem dX5_soled_13 : decode cX5_soled 13 = .ok (.iconst 0, 1) := zd02dec2_35.2.2.2.2.2.2.2.2.2.1
theorem dX5_soled_14 : decode cX5_soled 14 = .ok (.istore 4, 2) := zd02dec2_35.2.2.2.2.2.2.2.2.2.2.1
theorem dX5_soled_16 : decode cX5_soled 16 = .ok (.iconst 0, 1) := zd02dec2_35.2.2.2.2.2.2.2.2.2.2.2
theorem zd02dec2_36 : decode cX5_soled 17 = .ok (.istore 5, 2) ∧ decode cX5_soled 19 = .ok (.iload 5, 2) ∧ decode cX5_soled 21 = .ok (.bipush 20, 2) ∧ decode cX5_soled 23 = .ok (.if_icmp .gt 43, 3) ∧ decode cX5_soled 26 = .ok (.aload_n 0, 1) ∧ decode cX5_soled 27 = .ok (.invokevirtual 143, 3) ∧ decode cX5_soled 30 = .ok (.aload_n 0, 1) ∧ decode cX5_soled 31 = .ok (.getfield 32, 3) ∧ decode cX5_soled 34 = .ok (.getfield 98, 3) ∧ decode cX5_soled 37 = .ok (.iload_n 2, 1) ∧ decode cX5_soled 38 = .ok (.iload 5, 2) ∧ decode cX5_soled 40 = .ok (.iastore, 1) := by decide +kernel
theorem dX5_soled_17 : decode cX5_soled 17 = .ok (.istore 5, 2) := zd02dec2_36.1
theorem dX5_soled_19 : decode cX5_soled 19 = .ok (.iload 5, 2) := zd02dec2_36.2.1
theorem dX5_soled_21 : decode cX5_soled 21 = .ok (.bipush 20, 2) := zd02dec2_36.2.2.1
theorem dX5_soled_23 : decode cX5_soled 23 = .ok (.if_icmp .gt 43, 3) := zd02dec2_36.2.2.2.1
theorem dX5_soled_26 : decode cX5_soled 26 = .ok (.aload_n 0, 1) := zd02dec2_36.2.2.2.2.1
theorem dX5_soled_27 : decode cX5_soled 27 = .ok (.invokevirtual 143, 3) := zd02dec2_36.2.2.2.2.2.1
theorem dX5_soled_30 : decode cX5_soled 30 = .ok (.aload_n 0, 1) := zd02dec2_36.2.2.2.2.2.2.1
theorem dX5_soled_31 : decode cX5_soled 31 = .ok (.getfield 32, 3) := zd02dec2_36.2.2.2.2.2.2.2.1
theorem dX5_soled_34 : decode cX5_soled 34 = .ok (.getfield 98, 3) := zd02dec2_36.2.2.2.2.2.2.2.2.1
theorem dX5_soled_37 : decode cX5_soled 37 = .ok (.iload_n 2, 1) := zd02dec2_36.2.2.2.2.2.2.2.2.2.1
theorem dX5_soled_38 : decode cX5_soled 38 = .ok (.iload 5, 2) := zd02dec2_36.2.2.2.2.2.2.2.2.2.2.1
theorem dX5_soled_40 : decode cX5_soled 40 = .ok (.iastore, 1) := zd02dec2_36.2.2.2.2.2.2.2.2.2.2.2
theorem zd02dec2_37 : decode cX5_soled 41 = .ok (.aload_n 0, 1) ∧ decode cX5_soled 42 = .ok (.iload_n 1, 1) ∧ decode cX5_soled 43 = .ok (.iload_n 2, 1) ∧ decode cX5_soled 44 = .ok (.invokevirtual 190, 3) ∧ decode cX5_soled 47 = .ok (.iconst (-1), 1) ∧ decode cX5_soled 48 = .ok (.if_icmp .ne 12, 3) ∧ decode cX5_soled 51 = .ok (.iload 4, 2) ∧ decode cX5_soled 53 = .ok (.iconst 1, 1) ∧ decode cX5_soled 54 = .ok (.iload 5, 2) ∧ decode cX5_soled 56 = .ok (.ishl, 1) ∧ decode cX5_soled 57 = .ok (.ior, 1) ∧ decode cX5_soled 58 = .ok (.istore 4, 2) := by decide +kernel
theorem dX5_soled_41 : decode cX5_soled 41 = .ok (.aload_n 0, 1) := zd02dec2_37.1
theorem dX5_soled_42 : decode cX5_soled 42 = .ok (.iload_n 1, 1) := zd02dec2_37.2.1
theorem dX5_soled_43 : decode cX5_soled 43 = .ok (.iload_n 2, 1) := zd02dec2_37.2.2.1
theorem dX5_soled_44 : decode cX5_soled 44 = .ok (.invokevirtual 190, 3) := zd02dec2_37.2.2.2.1
theorem dX5_soled_47 : decode cX5_soled 47 = .ok (.iconst (-1), 1) := zd02dec2_37.2.2.2.2.1
theorem dX5_soled_48 : decode cX5_soled 48 = .ok (.if_icmp .ne 12, 3) := zd02dec2_37.2.2.2.2.2.1
theorem dX5_soled_51 : decode cX5_soled 51 = .ok (.iload 4, 2) := zd02dec2_37.2.2.2.2.2.2.1
theorem dX5_soled_53 : decode cX5_soled 53 = .ok (.iconst 1, 1) := zd02dec2_37.2.2.2.2.2.2.2.1
theorem dX5_soled_54 : decode cX5_soled 54 = .ok (.iload 5, 2) := zd02dec2_37.2.2.2.2.2.2.2.2.1
theorem dX5_soled_56 : decode cX5_soled 56 = .ok (.ishl, 1) := zd02dec2_37.2.2.2.2.2.2.2.2.2.1
theorem dX5_soled_57 : decode cX5_soled 57 = .ok (.ior, 1) := zd02dec2_37.2.2.2.2.2.2.2.2.2.2.1
theorem dX5_soled_58 : decode cX5_soled 58 = .ok (.istore 4, 2) := zd02dec2_37.2.2.2.2.2.2.2.2.2.2.2
theorem zd02dec2_38 : decode cX5_soled 60 = .ok (.iinc 5 1, 3) ∧ decode cX5_soled 63 = .ok (.goto (-44), 3) ∧ decode cX5_soled 66 = .ok (.iload 4, 2) ∧ decode cX5_soled 68 = .ok (.ireturn, 1) := by decide +kernel
theorem dX5_soled_60 : decode cX5_soled 60 = .ok (.iinc 5 1, 3) := zd02dec2_38.1
theorem dX5_soled_63 : decode cX5_soled 63 = .ok (.goto (-44), 3) := zd02dec2_38.2.1
theorem dX5_soled_66 : decode cX5_soled 66 = .ok (.iload 4, 2) := zd02dec2_38.2.2.1
theorem dX5_soled_68 : decode cX5_soled 68 = .ok (.ireturn, 1) := zd02dec2_38.2.2.2
theorem zd02dec2_39 : decode cX5_sizes 0 = .ok (.aload_n 0, 1) ∧ decode cX5_sizes 1 = .ok (.iload_n 1, 1) ∧ decode cX5_sizes 2 = .ok (.iload_n 2, 1) ∧ decode cX5_sizes 3 = .ok (.invokevirtual 187, 3) ∧ decode cX5_sizes 6 = .ok (.istore 5, 2) ∧ decode cX5_sizes 8 = .ok (.iload 5, 2) ∧ decode cX5_sizes 10 = .ok (.ifCond .eq 6, 3) ∧ decode cX5_sizes 13 = .ok (.iload 5, 2) ∧ decode cX5_sizes 15 = .ok (.ireturn, 1) ∧ decode cX5_sizes 16 = .ok (.aload_n 0, 1) ∧ decode cX5_sizes 17 = .ok (.getfield 28, 3) ∧ decode cX5_sizes 20 = .ok (.iload_n 3, 1) := by decide +kernel
theorem dX5_sizes_0 : decode cX5_sizes 0 = .ok (.aload_n 0, 1) := zd02dec2_39.1
theorem dX5_sizes_1 : decode cX5_sizes 1 = .ok (.iload_n 1, 1) := zd02dec2_39.2.1
theorem dX5_sizes_2 : decode cX5_sizes 2 = .ok (.iload_n 2, 1) := zd02dec2_39.2.2.1
theorem dX5_sizes_3 : decode cX5_sizes 3 = .ok (.invokevirtual 187, 3) := zd02dec2_39.2.2.2.1
theorem dX5_sizes_6 : decode cX5_sizes 6 = .ok (.istore 5, 2) := zd02dec2_39.2.2.2.2.1
theorem dX5_sizes_8 : decode cX5_sizes 8 = .ok (.iload 5, 2) := zd02dec2_39.2.2.2.2.2.1
theorem dX5_sizes_10 : decode cX5_sizes 10 = .ok (.ifCond .eq 6, 3) := zd02dec2_39.2.2.2.2.2.2.1
theorem dX5_sizes_13 : decode cX5_sizes 13 = .ok (.iload 5, 2) := zd02dec2_39.2.2.2.2.2.2.2.1
theorem dX5_sizes_15 : decode cX5_sizes 15 = .ok (.ireturn, 1) := zd02dec2_39.2.2.2.2.2.2.2.2.1
theorem dX5_sizes_16 : decode cX5_sizes 16 = .ok (.aload_n 0, 1) := zd02dec2_39.2.2.2.2.2.2.2.2.2.1
theorem dX5_sizes_17 : decode cX5_sizes 17 = .ok (.getfield 28, 3) := zd02dec2_39.2.2.2.2.2.2.2.2.2.2.1
theorem dX5_sizes_20 : decode cX5_sizes 20 = .ok (.iload_n 3, 1) := zd02dec2_39.2.2.2.2.2.2.2.2.2.2.2
theorem zd02dec2_40 : decode cX5_sizes 21 = .ok (.invokevirtual 111, 3) ∧ decode cX5_sizes 24 = .ok (.ifCond .ne 6, 3) ∧ decode cX5_sizes 27 = .ok (.bipush (-6), 2) ∧ decode cX5_sizes 29 = .ok (.ireturn, 1) ∧ decode cX5_sizes 30 = .ok (.iload 4, 2) ∧ decode cX5_sizes 32 = .ok (.invokestatic 167, 3) ∧ decode cX5_sizes 35 = .ok (.ifCond .ne 6, 3) ∧ decode cX5_sizes 38 = .ok (.bipush (-7), 2) ∧ decode cX5_sizes 40 = .ok (.ireturn, 1) ∧ decode cX5_sizes 41 = .ok (.iload 4, 2) ∧ decode cX5_sizes 43 = .ok (.bipush 10, 2) ∧ decode cX5_sizes 45 = .ok (.idiv, 1) := by decide +kernel
theorem dX5_sizes_21 : decode cX5_sizes 21 = .ok (.invokevirtual 111, 3) := zd02dec2_40.1
theorem dX5_sizes_24 : decode cX5_sizes 24 = .ok (.ifCond .ne 6, 3) := zd02dec2_40.2.1
theorem dX5_sizes_27 : decode cX5_sizes 27 = .ok (.bipush (-6), 2) := zd02dec2_40.2.2.1
theorem dX5_sizes_29 : decode cX5_sizes 29 = .ok (.ireturn, 1) := zd02dec2_40.2.2.2.1
theorem dX5_sizes_30 : decode cX5_sizes 30 = .ok (.iload 4, 2) := zd02dec2_40.2.2.2.2.1
theorem dX5_sizes_32 : decode cX5_sizes 32 = .ok (.invokestatic 167, 3) := zd02dec2_40.2.2.2.2.2.1
theorem dX5_sizes_35 : decode cX5_sizes 35 = .ok (.ifCond .ne 6, 3) := zd02dec2_40.2.2.2.2.2.2.1
theorem dX5_sizes_38 : decode cX5_sizes 38 = .ok (.bipush (-7), 2) := zd02dec2_40.2.2.2.2.2.2.2.1
theorem dX5_sizes_40 : decode cX5_sizes 40 = .ok (.ireturn, 1) := zd02dec2_40.2.2.2.2.2.2.2.2.1
theorem dX5_sizes_41 : decode cX5_sizes 41 = .ok (.iload 4, 2) := zd02dec2_40.2.2.2.2.2.2.2.2.2.1
theorem dX5_sizes_43 : decode cX5_sizes 43 = .ok (.bipush 10, 2) := zd02dec2_40.2.2.2.2.2.2.2.2.2.2.1
theorem dX5_sizes_45 : decode cX5_sizes 45 = .ok (.idiv, 1) := zd02dec2_40.2.2.2.2.2.2.2.2.2.2.2
theorem zd02dec2_41 : decode cX5_sizes 46 = .ok (.ifCond .ne 13, 3) ∧ decode cX5_sizes 49 = .ok (.aload_n 0, 1) ∧ decode cX5_sizes 50 = .ok (.getfield 32, 3) ∧ decode cX5_sizes 53 = .ok (.getfield 122, 3) ∧ decode cX5_sizes 56 = .ok (.goto 10, 3) ∧ decode cX5_sizes 59 = .ok (.aload_n 0, 1) ∧ decode cX5_sizes 60 = .ok (.getfield 32, 3) ∧ decode cX5_sizes 63 = .ok (.getfield 125, 3) ∧ decode cX5_sizes 66 = .ok (.astore 6, 2) ∧ decode cX5_sizes 68 = .ok (.iconst 0, 1) ∧ decode cX5_sizes 69 = .ok (.istore 7, 2) ∧ decode cX5_sizes 71 = .ok (.iconst (-1), 1) := by decide +kernel
theorem dX5_sizes_46 : decode cX5_sizes 46 = .ok (.ifCond .ne 13, 3) := zd02dec2_41.1
theorem dX5_sizes_49 : decode cX5_sizes 49 = .ok (.aload_n 0, 1) := zd02dec2_41.2.1
theorem dX5_sizes_50 : decode cX5_sizes 50 = .ok (.getfield 32, 3) := zd02dec2_41.2.2.1
theorem dX5_sizes_53 : decode cX5_sizes 53 = .ok (.getfield 122, 3) := zd02dec2_41.2.2.2.1
theorem dX5_sizes_56 : decode cX5_sizes 56 = .ok (.goto 10, 3) := zd02dec2_41.2.2.2.2.1
theorem dX5_sizes_59 : decode cX5_sizes 59 = .ok (.aload_n 0, 1) := zd02dec2_41.2.2.2.2.2.1
theorem dX5_sizes_60 : decode cX5_sizes 60 = .ok (.getfield 32, 3) := zd02dec2_41.2.2.2.2.2.2.1
theorem dX5_sizes_63 : decode cX5_sizes 63 = .ok (.getfield 125, 3) := zd02dec2_41.2.2.2.2.2.2.2.1
theorem dX5_sizes_66 : decode cX5_sizes 66 = .ok (.astore 6, 2) := zd02dec2_41.2.2.2.2.2.2.2.2.1
theorem dX5_sizes_68 : decode cX5_sizes 68 = .ok (.iconst 0, 1) := zd02dec2_41.2.2.2.2.2.2.2.2.2.1
theorem dX5_sizes_69 : decode cX5_sizes 69 = .ok (.istore 7, 2) := zd02dec2_41.2.2.2.2.2.2.2.2.2.2.1
theorem dX5_sizes_71 : decode cX5_sizes 71 = .ok (.iconst (-1), 1) := zd02dec2_41.2.2.2.2.2.2.2.2.2.2.2
theorem zd02dec2_42 : decode cX5_sizes 72 = .ok (.istore 8, 2) ∧ decode cX5_sizes 74 = .ok (.bipush 99, 2) ∧ decode cX5_sizes 76 = .ok (.istore 9, 2) ∧ decode cX5_sizes 78 = .ok (.iload 9, 2) ∧ decode cX5_sizes 80 = .ok (.ifCond .lt 36, 3) ∧ decode cX5_sizes 83 = .ok (.aload_n 0, 1) ∧ decode cX5_sizes 84 = .ok (.invokevirtual 143, 3) ∧ decode cX5_sizes 87 = .ok (.aload 6, 2) ∧ decode cX5_sizes 89 = .ok (.iload_n 3, 1) ∧ decode cX5_sizes 90 = .ok (.iload 9, 2) ∧ decode cX5_sizes 92 = .ok (.iastore, 1) ∧ decode cX5_sizes 93 = .ok (.aload_n 0, 1) := by decide +kernel
theorem dX5_sizes_72 : decode cX5_sizes 72 = .ok (.istore 8, 2) := zd02dec2_42.1
theorem dX5_sizes_74 : decode cX5_sizes 74 = .ok (.bipush 99, 2) := zd02dec2_42.2.1
theorem dX5_sizes_76 : decode cX5_sizes 76 = .ok (.istore 9, 2) := zd02dec2_42.2.2.1
theorem dX5_sizes_78 : decode cX5_sizes 78 = .ok (.iload 9, 2) := zd02dec2_42.2.2.2.1
theorem dX5_sizes_80 : decode cX5_sizes 80 = .ok (.ifCond .lt 36, 3) := zd02dec2_42.2.2.2.2.1
theorem dX5_sizes_83 : decode cX5_sizes 83 = .ok (.aload_n 0, 1) := zd02dec2_42.2.2.2.2.2.1
theorem dX5_sizes_84 : decode cX5_sizes 84 = .ok (.invokevirtual 143, 3) := zd02dec2_42.2.2.2.2.2.2.1
theorem dX5_sizes_87 : decode cX5_sizes 87 = .ok (.aload 6, 2) := zd02dec2_42.2.2.2.2.2.2.2.1
theorem dX5_sizes_89 : decode cX5_sizes 89 = .ok (.iload_n 3, 1) := zd02dec2_42.2.2.2.2.2.2.2.2.1
theorem dX5_sizes_90 : decode cX5_sizes 90 = .ok (.iload 9, 2) := zd02dec2_42.2.2.2.2.2.2.2.2.2.1
theorem dX5_sizes_92 : decode cX5_sizes 92 = .ok (.iastore, 1) := zd02dec2_42.2.2.2.2.2.2.2.2.2.2.1
theorem dX5_sizes_93 : decode cX5_sizes 93 = .ok (.aload_n 0, 1) := zd02dec2_42.2.2.2.2.2.2.2.2.2.2.2
theorem zd02dec2_43 : decode cX5_sizes 94 = .ok (.iload_n 1, 1) ∧ decode cX5_sizes 95 = .ok (.iload_n 2, 1) ∧ decode cX5_sizes 96 = .ok (.invokevirtual 190, 3) ∧ decode cX5_sizes 99 = .ok (.iconst (-1), 1) ∧ decode cX5_sizes 100 = .ok (.if_icmp .ne 10, 3) ∧ decode cX5_sizes 103 = .ok (.iinc 7 1, 3) ∧ decode cX5_sizes 106 = .ok (.iload 9, 2) ∧ decode cX5_sizes 108 = .ok (.istore 8, 2) ∧ decode cX5_sizes 110 = .ok (.iinc 9 (-1), 3) ∧ decode cX5_sizes 113 = .ok (.goto (-35), 3) ∧ decode cX5_sizes 116 = .ok (.iload 4, 2) ∧ decode cX5_sizes 118 = .ok (.bipush 10, 2) := by decide +kernel
theorem dX5_sizes_94 : decode cX5_sizes 94 = .ok (.iload_n 1, 1) := zd02dec2_43.1
theorem dX5_sizes_95 : decode cX5_sizes 95 = .ok (.iload_n 2, 1) := zd02dec2_43.2.1
theorem dX5_sizes_96 : decode cX5_sizes 96 = .ok (.invokevirtual 190, 3) := zd02dec2_43.2.2.1
theorem dX5_sizes_99 : decode cX5_sizes 99 = .ok (.iconst (-1), 1) := zd02dec2_43.2.2.2.1
theorem dX5_sizes_100 : decode cX5_sizes 100 = .ok (.if_icmp .ne 10, 3) := zd02dec2_43.2.2.2.2.1
theorem dX5_sizes_103 : decode cX5_sizes 103 = .ok (.iinc 7 1, 3) := zd02dec2_43.2.2.2.2.2.1
theorem dX5_sizes_106 : decode cX5_sizes 106 = .ok (.iload 9, 2) := zd02dec2_43.2.2.2.2.2.2.1
theorem dX5_sizes_108 : decode cX5_sizes 108 = .ok (.istore 8, 2) := zd02dec2_43.2.2.2.2.2.2.2.1
theorem dX5_sizes_110 : decode cX5_sizes 110 = .ok (.iinc 9 (-1), 3) := zd02dec2_43.2.2.2.2.2.2.2.2.1
theorem dX5_sizes_113 : decode cX5_sizes 113 = .ok (.goto (-35), 3) := zd02dec2_43.2.2.2.2.2.2.2.2.2.1
theorem dX5_sizes_116 : decode cX5_sizes 116 = .ok (.iload 4, 2) := zd02dec2_43.2.2.2.2.2.2.2.2.2.2.1
theorem dX5_sizes_118 : decode cX5_sizes 118 = .ok (.bipush 10, 2) := zd02dec2_43.2.2.2.2.2.2.2.2.2.2.2
theorem zd02dec2_44 : decode cX5_sizes 120 = .ok (.irem, 1) ∧ decode cX5_sizes 121 = .ok (.ifCond .ne 8, 3) ∧ decode cX5_sizes 124 = .ok (.iload 7, 2) ∧ decode cX5_sizes 126 = .ok (.goto 5, 3) ∧ decode cX5_sizes 129 = .ok (.iload 8, 2) ∧ decode cX5_sizes 131 = .ok (.ireturn, 1) := by decide +kernel
theorem dX5_sizes_120 : decode cX5_sizes 120 = .ok (.irem, 1) := zd02dec2_44.1
theorem dX5_sizes_121 : decode cX5_sizes 121 = .ok (.ifCond .ne 8, 3) := zd02dec2_44.2.1
theorem dX5_sizes_124 : decode cX5_sizes 124 = .ok (.iload 7, 2) := zd02dec2_44.2.2.1
theorem dX5_sizes_126 : decode cX5_sizes 126 = .ok (.goto 5, 3) := zd02dec2_44.2.2.2.1
theorem dX5_sizes_129 : decode cX5_sizes 129 = .ok (.iload 8, 2) := zd02dec2_44.2.2.2.2.1
theorem dX5_sizes_131 : decode cX5_sizes 131 = .ok (.ireturn, 1) := zd02dec2_44.2.2.2.2.2
theorem zd02dec2_45 : decode cX5_whose 0 = .ok (.aload_n 0, 1) ∧ decode cX5_whose 1 = .ok (.iload_n 1, 1) ∧ decode cX5_whose 2 = .ok (.invokevirtual 193, 3) ∧ decode cX5_whose 5 = .ok (.istore_n 2, 1) ∧ decode cX5_whose 6 = .ok (.iload_n 2, 1) ∧ decode cX5_whose 7 = .ok (.ifCond .eq 5, 3) ∧ decode cX5_whose 10 = .ok (.iload_n 2, 1) ∧ decode cX5_whose 11 = .ok (.ireturn, 1) ∧ decode cX5_whose 12 = .ok (.iconst 0, 1) ∧ decode cX5_whose 13 = .ok (.istore_n 3, 1) ∧ decode cX5_whose 14 = .ok (.iconst 0, 1) ∧ decode cX5_whose 15 = .ok (.istore 4, 2) := by decide +kernel
theorem dX5_whose_0 : decode cX5_whose 0 = .ok (.aload_n 0, 1) := zd02dec2_45.1
theorem dX5_whose_1 : decode cX5_whose 1 = .ok (.iload_n 1, 1) := zd02dec2_45.2.1
theorem dX5_whose_2 : decode cX5_whose 2 = .ok (.invokevirtual 193, 3) := zd02dec2_45.2.2.1
theorem dX5_whose_5 : decode cX5_whose 5 = .ok (.istore_n 2, 1) := zd02dec2_45.2.2.2.1
theorem dX5_whose_6 : decode cX5_whose 6 = .ok (.iload_n 2, 1) := zd02dec2_45.2.2.2.2.1
theorem dX5_whose_7 : decode cX5_whose 7 = .ok (.ifCond .eq 5, 3) := zd02dec2_45.2.2.2.2.2.1
theorem dX5_whose_10 : decode cX5_whose 10 = .ok (.iload_n 2, 1) := zd02dec2_45.2.2.2.2.2.2.1
theorem dX5_whose_11 : decode cX5_whose 11 = .ok (.ireturn, 1) := zd02dec2_45.2.2.2.2.2.2.2.1
theorem dX5_whose_12 : decode cX5_whose 12 = .ok (.iconst 0, 1) := zd02dec2_45.2.2.2.2.2.2.2.2.1
theorem dX5_whose_13 : decode cX5_whose 13 = .ok (.istore_n 3, 1) := zd02dec2_45.2.2.2.2.2.2.2.2.2.1
theorem dX5_whose_14 : decode cX5_whose 14 = .ok (.iconst 0, 1) := zd02dec2_45.2.2.2.2.2.2.2.2.2.2.1
theorem dX5_whose_15 : decode cX5_whose 15 = .ok (.istore 4, 2) := zd02dec2_45.2.2.2.2.2.2.2.2.2.2.2
theorem zd02dec2_46 : decode cX5_whose 17 = .ok (.iload 4, 2) ∧ decode cX5_whose 19 = .ok (.aload_n 0, 1) ∧ decode cX5_whose 20 = .ok (.getfield 28, 3) ∧ decode cX5_whose 23 = .ok (.getfield 75, 3) ∧ decode cX5_whose 26 = .ok (.if_icmp .ge 31, 3) ∧ decode cX5_whose 29 = .ok (.aload_n 0, 1) ∧ decode cX5_whose 30 = .ok (.invokevirtual 143, 3) ∧ decode cX5_whose 33 = .ok (.aload_n 0, 1) ∧ decode cX5_whose 34 = .ok (.iload_n 1, 1) ∧ decode cX5_whose 35 = .ok (.iload 4, 2) ∧ decode cX5_whose 37 = .ok (.invokevirtual 190, 3) ∧ decode cX5_whose 40 = .ok (.iconst (-1), 1) := by decide +kernel
theorem dX5_whose_17 : decode cX5_whose 17 = .ok (.iload 4, 2) := zd02dec2_46.1
theorem dX5_whose_19 : decode cX5_whose 19 = .ok (.aload_n 0, 1) := zd02dec2_46.2.1
theorem dX5_whose_20 : decode cX5_whose 20 = .ok (.getfield 28, 3) := zd02dec2_46.2.2.1
theorem dX5_whose_23 : decode cX5_whose 23 = .ok (.getfield 75, 3) := zd02dec2_46.2.2.2.1
theorem dX5_whose_26 : decode cX5_whose 26 = .ok (.if_icmp .ge 31, 3) := zd02dec2_46.2.2.2.2.1
theorem dX5_whose_29 : decode cX5_whose 29 = .ok (.aload_n 0, 1) := zd02dec2_46.2.2.2.2.2.1
theorem dX5_whose_30 : decode cX5_whose 30 = .ok (.invokevirtual 143, 3) := zd02dec2_46.2.2.2.2.2.2.1
theorem dX5_whose_33 : decode cX5_whose 33 = .ok (.aload_n 0, 1) := zd02dec2_46.2.2.2.2.2.2.2.1
theorem dX5_whose_34 : decode cX5_whose 34 = .ok (.iload_n 1, 1) := zd02dec2_46.2.2.2.2.2.2.2.2.1
theorem dX5_whose_35 : decode cX5_whose 35 = .ok (.iload 4, 2) := zd02dec2_46.2.2.2.2.2.2.2.2.2.1
theorem dX5_whose_37 : decode cX5_whose 37 = .ok (.invokevirtual 190, 3) := zd02dec2_46.2.2.2.2.2.2.2.2.2.2.1
theorem dX5_whose_40 : decode cX5_whose 40 = .ok (.iconst (-1), 1) := zd02dec2_46.2.2.2.2.2.2.2.2.2.2.2
theorem zd02dec2_47 : decode cX5_whose 41 = .ok (.if_icmp .ne 10, 3) ∧ decode cX5_whose 44 = .ok (.iload_n 3, 1) ∧ decode cX5_whose 45 = .ok (.iconst 1, 1) ∧ decode cX5_whose 46 = .ok (.iload 4, 2) ∧ decode cX5_whose 48 = .ok (.ishl, 1) ∧ decode cX5_whose 49 = .ok (.ior, 1) ∧ decode cX5_whose 50 = .ok (.istore_n 3, 1) ∧ decode cX5_whose 51 = .ok (.iinc 4 1, 3) ∧ decode cX5_whose 54 = .ok (.goto (-37), 3) ∧ decode cX5_whose 57 = .ok (.iload_n 3, 1) ∧ decode cX5_whose 58 = .ok (.ireturn, 1) := by decide +kernel
theorem dX5_whose_41 : decode cX5_whose 41 = .ok (.if_icmp .ne 10, 3) := zd02dec2_47.1
theorem dX5_whose_44 : decode cX5_whose 44 = .ok (.iload_n 3, 1) := zd02dec2_47.2.1
theorem dX5_whose_45 : decode cX5_whose 45 = .ok (.iconst 1, 1) := zd02dec2_47.2.2.1
theorem dX5_whose_46 : decode cX5_whose 46 = .ok (.iload 4, 2) := zd02dec2_47.2.2.2.1
theorem dX5_whose_48 : decode cX5_whose 48 = .ok (.ishl, 1) := zd02dec2_47.2.2.2.2.1
theorem dX5_whose_49 : decode cX5_whose 49 = .ok (.ior, 1) := zd02dec2_47.2.2.2.2.2.1
theorem dX5_whose_50 : decode cX5_whose 50 = .ok (.istore_n 3, 1) := zd02dec2_47.2.2.2.2.2.2.1
theorem dX5_whose_51 : decode cX5_whose 51 = .ok (.iinc 4 1, 3) := zd02dec2_47.2.2.2.2.2.2.2.1
theorem dX5_whose_54 : decode cX5_whose 54 = .ok (.goto (-37), 3) := zd02dec2_47.2.2.2.2.2.2.2.2.1
theorem dX5_whose_57 : decode cX5_whose 57 = .ok (.iload_n 3, 1) := zd02dec2_47.2.2.2.2.2.2.2.2.2.1
theorem dX5_whose_58 : decode cX5_whose 58 = .ok (.ireturn, 1) := zd02dec2_47.2.2.2.2.2.2.2.2.2.2
theorem zd02dec2_48 : decode cX5_laws 0 = .ok (.aload_n 0, 1) ∧ decode cX5_laws 1 = .ok (.iload_n 1, 1) ∧ decode cX5_laws 2 = .ok (.iload_n 2, 1) ∧ decode cX5_laws 3 = .ok (.invokevirtual 187, 3) ∧ decode cX5_laws 6 = .ok (.istore_n 3, 1) ∧ decode cX5_laws 7 = .ok (.iload_n 3, 1) ∧ decode cX5_laws 8 = .ok (.ifCond .eq 5, 3) ∧ decode cX5_laws 11 = .ok (.iload_n 3, 1) ∧ decode cX5_laws 12 = .ok (.ireturn, 1) ∧ decode cX5_laws 13 = .ok (.iconst 0, 1) ∧ decode cX5_laws 14 = .ok (.istore 4, 2) ∧ decode cX5_laws 16 = .ok (.iconst 0, 1) := by decide +kernel
theorem dX5_laws_0 : decode cX5_laws 0 = .ok (.aload_n 0, 1) := zd02dec2_48.1
theorem dX5_laws_1 : decode cX5_laws 1 = .ok (.iload_n 1, 1) := zd02dec2_48.2.1
theorem dX5_laws_2 : decode cX5_laws 2 = .ok (.iload_n 2, 1) := zd02dec2_48.2.2.1
theorem dX5_laws_3 : decode cX5_laws 3 = .ok (.invokevirtual 187, 3) := zd02dec2_48.2.2.2.1
theorem dX5_laws_6 : decode cX5_laws 6 = .ok (.istore_n 3, 1) := zd02dec2_48.2.2.2.2.1
theorem dX5_laws_7 : decode cX5_laws 7 = .ok (.iload_n 3, 1) := zd02dec2_48.2.2.2.2.2.1
theorem dX5_laws_8 : decode cX5_laws 8 = .ok (.ifCond .eq 5, 3) := zd02dec2_48.2.2.2.2.2.2.1
theorem dX5_laws_11 : decode cX5_laws 11 = .ok (.iload_n 3, 1) := zd02dec2_48.2.2.2.2.2.2.2.1
theorem dX5_laws_12 : decode cX5_laws 12 = .ok (.ireturn, 1) := zd02dec2_48.2.2.2.2.2.2.2.2.1
theorem dX5_laws_13 : decode cX5_laws 13 = .ok (.iconst 0, 1) := zd02dec2_48.2.2.2.2.2.2.2.2.2.1
theorem dX5_laws_14 : decode cX5_laws 14 = .ok (.istore 4, 2) := zd02dec2_48.2.2.2.2.2.2.2.2.2.2.1
theorem dX5_laws_16 : decode cX5_laws 16 = .ok (.iconst 0, 1) := zd02dec2_48.2.2.2.2.2.2.2.2.2.2.2
theorem zd02dec2_49 : decode cX5_laws 17 = .ok (.istore 5, 2) ∧ decode cX5_laws 19 = .ok (.iload 5, 2) ∧ decode cX5_laws 21 = .ok (.aload_n 0, 1) ∧ decode cX5_laws 22 = .ok (.getfield 10, 3) ∧ decode cX5_laws 25 = .ok (.getfield 78, 3) ∧ decode cX5_laws 28 = .ok (.if_icmp .ge 41, 3) ∧ decode cX5_laws 31 = .ok (.aload_n 0, 1) ∧ decode cX5_laws 32 = .ok (.invokevirtual 143, 3) ∧ decode cX5_laws 35 = .ok (.aload_n 0, 1) ∧ decode cX5_laws 36 = .ok (.getfield 32, 3) ∧ decode cX5_laws 39 = .ok (.iload 5, 2) ∧ decode cX5_laws 41 = .ok (.putfield 81, 3) := by decide +kernel
theorem dX5_laws_17 : decode cX5_laws 17 = .ok (.istore 5, 2) := zd02dec2_49.1
theorem dX5_laws_19 : decode cX5_laws 19 = .ok (.iload 5, 2) := zd02dec2_49.2.1
theorem dX5_laws_21 : decode cX5_laws 21 = .ok (.aload_n 0, 1) := zd02dec2_49.2.2.1
theorem dX5_laws_22 : decode cX5_laws 22 = .ok (.getfield 10, 3) := zd02dec2_49.2.2.2.1
theorem dX5_laws_25 : decode cX5_laws 25 = .ok (.getfield 78, 3) := zd02dec2_49.2.2.2.2.1
theorem dX5_laws_28 : decode cX5_laws 28 = .ok (.if_icmp .ge 41, 3) := zd02dec2_49.2.2.2.2.2.1
theorem dX5_laws_31 : decode cX5_laws 31 = .ok (.aload_n 0, 1) := zd02dec2_49.2.2.2.2.2.2.1
theorem dX5_laws_32 : decode cX5_laws 32 = .ok (.invokevirtual 143, 3) := zd02dec2_49.2.2.2.2.2.2.2.1
theorem dX5_laws_35 : decode cX5_laws 35 = .ok (.aload_n 0, 1) := zd02dec2_49.2.2.2.2.2.2.2.2.1
theorem dX5_laws_36 : decode cX5_laws 36 = .ok (.getfield 32, 3) := zd02dec2_49.2.2.2.2.2.2.2.2.2.1
theorem dX5_laws_39 : decode cX5_laws 39 = .ok (.iload 5, 2) := zd02dec2_49.2.2.2.2.2.2.2.2.2.2.1
theorem dX5_laws_41 : decode cX5_laws 41 = .ok (.putfield 81, 3) := zd02dec2_49.2.2.2.2.2.2.2.2.2.2.2
theorem zd02dec2_50 : decode cX5_laws 44 = .ok (.aload_n 0, 1) ∧ decode cX5_laws 45 = .ok (.iload_n 1, 1) ∧ decode cX5_laws 46 = .ok (.iload_n 2, 1) ∧ decode cX5_laws 47 = .ok (.invokevirtual 190, 3) ∧ decode cX5_laws 50 = .ok (.iconst (-1), 1) ∧ decode cX5_laws 51 = .ok (.if_icmp .ne 12, 3) ∧ decode cX5_laws 54 = .ok (.iload 4, 2) ∧ decode cX5_laws 56 = .ok (.iconst 1, 1) ∧ decode cX5_laws 57 = .ok (.iload 5, 2) ∧ decode cX5_laws 59 = .ok (.ishl, 1) ∧ decode cX5_laws 60 = .ok (.ior, 1) ∧ decode cX5_laws 61 = .ok (.istore 4, 2) := by decide +kernel
theorem dX5_laws_44 : decode cX5_laws 44 = .ok (.aload_n 0, 1) := zd02dec2_50.1
theorem dX5_laws_45 : decode cX5_laws 45 = .ok (.iload_n 1, 1) := zd02dec2_50.2.1
theorem dX5_laws_46 : decode cX5_laws 46 = .ok (.iload_n 2, 1) := zd02dec2_50.2.2.1
theorem dX5_laws_47 : decode cX5_laws 47 = .ok (.invokevirtual 190, 3) := zd02dec2_50.2.2.2.1
theorem dX5_laws_50 : decode cX5_laws 50 = .ok (.iconst (-1), 1) := zd02dec2_50.2.2.2.2.1
theorem dX5_laws_51 : decode cX5_laws 51 = .ok (.if_icmp .ne 12, 3) := zd02dec2_50.2.2.2.2.2.1
theorem dX5_laws_54 : decode cX5_laws 54 = .ok (.iload 4, 2) := zd02dec2_50.2.2.2.2.2.2.1
theorem dX5_laws_56 : decode cX5_laws 56 = .ok (.iconst 1, 1) := zd02dec2_50.2.2.2.2.2.2.2.1
theorem dX5_laws_57 : decode cX5_laws 57 = .ok (.iload 5, 2) := zd02dec2_50.2.2.2.2.2.2.2.2.1
theorem dX5_laws_59 : decode cX5_laws 59 = .ok (.ishl, 1) := zd02dec2_50.2.2.2.2.2.2.2.2.2.1
theorem dX5_laws_60 : decode cX5_laws 60 = .ok (.ior, 1) := zd02dec2_50.2.2.2.2.2.2.2.2.2.2.1
theorem dX5_laws_61 : decode cX5_laws 61 = .ok (.istore 4, 2) := zd02dec2_50.2.2.2.2.2.2.2.2.2.2.2
theorem zd02dec2_51 : decode cX5_laws 63 = .ok (.iinc 5 1, 3) ∧ decode cX5_laws 66 = .ok (.goto (-47), 3) ∧ decode cX5_laws 69 = .ok (.iload 4, 2) ∧ decode cX5_laws 71 = .ok (.ireturn, 1) := by decide +kernel
theorem dX5_laws_63 : decode cX5_laws 63 = .ok (.iinc 5 1, 3) := zd02dec2_51.1
theorem dX5_laws_66 : decode cX5_laws 66 = .ok (.goto (-47), 3) := zd02dec2_51.2.1
theorem dX5_laws_69 : decode cX5_laws 69 = .ok (.iload 4, 2) := zd02dec2_51.2.2.1
theorem dX5_laws_71 : decode cX5_laws 71 = .ok (.ireturn, 1) := zd02dec2_51.2.2.2
theorem zd02dec2_52 : decode cX5_film 0 = .ok (.aload_n 0, 1) ∧ decode cX5_film 1 = .ok (.getfield 41, 3) ∧ decode cX5_film 4 = .ok (.iload_n 1, 1) ∧ decode cX5_film 5 = .ok (.invokevirtual 196, 3) ∧ decode cX5_film 8 = .ok (.ifCond .ne 6, 3) ∧ decode cX5_film 11 = .ok (.bipush (-2), 2) ∧ decode cX5_film 13 = .ok (.ireturn, 1) ∧ decode cX5_film 14 = .ok (.aload_n 0, 1) ∧ decode cX5_film 15 = .ok (.getfield 28, 3) ∧ decode cX5_film 18 = .ok (.iload_n 2, 1) ∧ decode cX5_film 19 = .ok (.invokevirtual 94, 3) ∧ decode cX5_film 22 = .ok (.ifCond .ne 6, 3) := by decide +kernel
theorem dX5_film_0 : decode cX5_film 0 = .ok (.aload_n 0, 1) := zd02dec2_52.1
theorem dX5_film_1 : decode cX5_film 1 = .ok (.getfield 41, 3) := zd02dec2_52.2.1
theorem dX5_film_4 : decode cX5_film 4 = .ok (.iload_n 1, 1) := zd02dec2_52.2.2.1
theorem dX5_film_5 : decode cX5_film 5 = .ok (.invokevirtual 196, 3) := zd02dec2_52.2.2.2.1
theorem dX5_film_8 : decode cX5_film 8 = .ok (.ifCond .ne 6, 3) := zd02dec2_52.2.2.2.2.1
theorem dX5_film_11 : decode cX5_film 11 = .ok (.bipush (-2), 2) := zd02dec2_52.2.2.2.2.2.1
theorem dX5_film_13 : decode cX5_film 13 = .ok (.ireturn, 1) := zd02dec2_52.2.2.2.2.2.2.1
theorem dX5_film_14 : decode cX5_film 14 = .ok (.aload_n 0, 1) := zd02dec2_52.2.2.2.2.2.2.2.1
theorem dX5_film_15 : decode cX5_film 15 = .ok (.getfield 28, 3) := zd02dec2_52.2.2.2.2.2.2.2.2.1
theorem dX5_film_18 : decode cX5_film 18 = .ok (.iload_n 2, 1) := zd02dec2_52.2.2.2.2.2.2.2.2.2.1
theorem dX5_film_19 : decode cX5_film 19 = .ok (.invokevirtual 94, 3) := zd02dec2_52.2.2.2.2.2.2.2.2.2.2.1
theorem dX5_film_22 : decode cX5_film 22 = .ok (.ifCond .ne 6, 3) := zd02dec2_52.2.2.2.2.2.2.2.2.2.2.2
theorem zd02dec2_53 : decode cX5_film 25 = .ok (.bipush (-5), 2) ∧ decode cX5_film 27 = .ok (.ireturn, 1) ∧ decode cX5_film 28 = .ok (.iload_n 3, 1) ∧ decode cX5_film 29 = .ok (.bipush 60, 2) ∧ decode cX5_film 31 = .ok (.invokestatic 86, 3) ∧ decode cX5_film 34 = .ok (.ifCond .ne 6, 3) ∧ decode cX5_film 37 = .ok (.bipush (-7), 2) ∧ decode cX5_film 39 = .ok (.ireturn, 1) ∧ decode cX5_film 40 = .ok (.aload_n 0, 1) ∧ decode cX5_film 41 = .ok (.invokevirtual 143, 3) ∧ decode cX5_film 44 = .ok (.aload_n 0, 1) ∧ decode cX5_film 45 = .ok (.getfield 41, 3) := by decide +kernel
theorem dX5_film_25 : decode cX5_film 25 = .ok (.bipush (-5), 2) := zd02dec2_53.1
theorem dX5_film_27 : decode cX5_film 27 = .ok (.ireturn, 1) := zd02dec2_53.2.1
theorem dX5_film_28 : decode cX5_film 28 = .ok (.iload_n 3, 1) := zd02dec2_53.2.2.1
theorem dX5_film_29 : decode cX5_film 29 = .ok (.bipush 60, 2) := zd02dec2_53.2.2.2.1
theorem dX5_film_31 : decode cX5_film 31 = .ok (.invokestatic 86, 3) := zd02dec2_53.2.2.2.2.1
theorem dX5_film_34 : decode cX5_film 34 = .ok (.ifCond .ne 6, 3) := zd02dec2_53.2.2.2.2.2.1
theorem dX5_film_37 : decode cX5_film 37 = .ok (.bipush (-7), 2) := zd02dec2_53.2.2.2.2.2.2.1
theorem dX5_film_39 : decode cX5_film 39 = .ok (.ireturn, 1) := zd02dec2_53.2.2.2.2.2.2.2.1
theorem dX5_film_40 : decode cX5_film 40 = .ok (.aload_n 0, 1) := zd02dec2_53.2.2.2.2.2.2.2.2.1
theorem dX5_film_41 : decode cX5_film 41 = .ok (.invokevirtual 143, 3) := zd02dec2_53.2.2.2.2.2.2.2.2.2.1
theorem dX5_film_44 : decode cX5_film 44 = .ok (.aload_n 0, 1) := zd02dec2_53.2.2.2.2.2.2.2.2.2.2.1
theorem dX5_film_45 : decode cX5_film 45 = .ok (.getfield 41, 3) := zd02dec2_53.2.2.2.2.2.2.2.2.2.2.2
theorem zd02dec2_54 : decode cX5_film 48 = .ok (.iload_n 1, 1) ∧ decode cX5_film 49 = .ok (.iconst 0, 1) ∧ decode cX5_film 50 = .ok (.iconst 3, 1) ∧ decode cX5_film 51 = .ok (.aload_n 0, 1) ∧ decode cX5_film 52 = .ok (.getfield 28, 3) ∧ decode cX5_film 55 = .ok (.getfield 71, 3) ∧ decode cX5_film 58 = .ok (.imul, 1) ∧ decode cX5_film 59 = .ok (.invokevirtual 199, 3) ∧ decode cX5_film 62 = .ok (.iconst 0, 1) ∧ decode cX5_film 63 = .ok (.istore 4, 2) ∧ decode cX5_film 65 = .ok (.iconst 0, 1) ∧ decode cX5_film 66 = .ok (.istore 5, 2) := by decide +kernel
theorem dX5_film_48 : decode cX5_film 48 = .ok (.iload_n 1, 1) := zd02dec2_54.1
theorem dX5_film_49 : decode cX5_film 49 = .ok (.iconst 0, 1) := zd02dec2_54.2.1
theorem dX5_film_50 : decode cX5_film 50 = .ok (.iconst 3, 1) := zd02dec2_54.2.2.1
theorem dX5_film_51 : decode cX5_film 51 = .ok (.aload_n 0, 1) := zd02dec2_54.2.2.2.1
theorem dX5_film_52 : decode cX5_film 52 = .ok (.getfield 28, 3) := zd02dec2_54.2.2.2.2.1
theorem dX5_film_55 : decode cX5_film 55 = .ok (.getfield 71, 3) := zd02dec2_54.2.2.2.2.2.1
theorem dX5_film_58 : decode cX5_film 58 = .ok (.imul, 1) := zd02dec2_54.2.2.2.2.2.2.1
theorem dX5_film_59 : decode cX5_film 59 = .ok (.invokevirtual 199, 3) := zd02dec2_54.2.2.2.2.2.2.2.1
theorem dX5_film_62 : decode cX5_film 62 = .ok (.iconst 0, 1) := zd02dec2_54.2.2.2.2.2.2.2.2.1
theorem dX5_film_63 : decode cX5_film 63 = .ok (.istore 4, 2) := zd02dec2_54.2.2.2.2.2.2.2.2.2.1
theorem dX5_film_65 : decode cX5_film 65 = .ok (.iconst 0, 1) := zd02dec2_54.2.2.2.2.2.2.2.2.2.2.1
theorem dX5_film_66 : decode cX5_film 66 = .ok (.istore 5, 2) := zd02dec2_54.2.2.2.2.2.2.2.2.2.2.2
theorem zd02dec2_55 : decode cX5_film 68 = .ok (.iload 5, 2) ∧ decode cX5_film 70 = .ok (.aload_n 0, 1) ∧ decode cX5_film 71 = .ok (.getfield 28, 3) ∧ decode cX5_film 74 = .ok (.getfield 71, 3) ∧ decode cX5_film 77 = .ok (.if_icmp .ge 84, 3) ∧ decode cX5_film 80 = .ok (.aload_n 0, 1) ∧ decode cX5_film 81 = .ok (.getfield 32, 3) ∧ decode cX5_film 84 = .ok (.iload_n 2, 1) ∧ decode cX5_film 85 = .ok (.iload 5, 2) ∧ decode cX5_film 87 = .ok (.aload_n 0, 1) ∧ decode cX5_film 88 = .ok (.getfield 32, 3) ∧ decode cX5_film 91 = .ok (.iload_n 2, 1) := by decide +kernel
theorem dX5_film_68 : decode cX5_film 68 = .ok (.iload 5, 2) := zd02dec2_55.1
theorem dX5_film_70 : decode cX5_film 70 = .ok (.aload_n 0, 1) := zd02dec2_55.2.1
theorem dX5_film_71 : decode cX5_film 71 = .ok (.getfield 28, 3) := zd02dec2_55.2.2.1
theorem dX5_film_74 : decode cX5_film 74 = .ok (.getfield 71, 3) := zd02dec2_55.2.2.2.1
theorem dX5_film_77 : decode cX5_film 77 = .ok (.if_icmp .ge 84, 3) := zd02dec2_55.2.2.2.2.1
theorem dX5_film_80 : decode cX5_film 80 = .ok (.aload_n 0, 1) := zd02dec2_55.2.2.2.2.2.1
theorem dX5_film_81 : decode cX5_film 81 = .ok (.getfield 32, 3) := zd02dec2_55.2.2.2.2.2.2.1
theorem dX5_film_84 : decode cX5_film 84 = .ok (.iload_n 2, 1) := zd02dec2_55.2.2.2.2.2.2.2.1
theorem dX5_film_85 : decode cX5_film 85 = .ok (.iload 5, 2) := zd02dec2_55.2.2.2.2.2.2.2.2.1
theorem dX5_film_87 : decode cX5_film 87 = .ok (.aload_n 0, 1) := zd02dec2_55.2.2.2.2.2.2.2.2.2.1
theorem dX5_film_88 : decode cX5_film 88 = .ok (.getfield 32, 3) := zd02dec2_55.2.2.2.2.2.2.2.2.2.2.1
theorem dX5_film_91 : decode cX5_film 91 = .ok (.iload_n 2, 1) := zd02dec2_55.2.2.2.2.2.2.2.2.2.2.2
theorem zd02dec2_56 : decode cX5_film 92 = .ok (.iload 5, 2) ∧ decode cX5_film 94 = .ok (.iload_n 3, 1) ∧ decode cX5_film 95 = .ok (.invokevirtual 140, 3) ∧ decode cX5_film 98 = .ok (.invokevirtual 164, 3) ∧ decode cX5_film 101 = .ok (.istore 6, 2) ∧ decode cX5_film 103 = .ok (.aload_n 0, 1) ∧ decode cX5_film 104 = .ok (.getfield 41, 3) ∧ decode cX5_film 107 = .ok (.iload_n 1, 1) ∧ decode cX5_film 108 = .ok (.iconst 3, 1) ∧ decode cX5_film 109 = .ok (.iload 5, 2) ∧ decode cX5_film 111 = .ok (.imul, 1) ∧ decode cX5_film 112 = .ok (.iload 5, 2) := by decide +kernel
theorem dX5_film_92 : decode cX5_film 92 = .ok (.iload 5, 2) := zd02dec2_56.1
theorem dX5_film_94 : decode cX5_film 94 = .ok (.iload_n 3, 1) := zd02dec2_56.2.1
theorem dX5_film_95 : decode cX5_film 95 = .ok (.invokevirtual 140, 3) := zd02dec2_56.2.2.1
theorem dX5_film_98 : decode cX5_film 98 = .ok (.invokevirtual 164, 3) := zd02dec2_56.2.2.2.1
theorem dX5_film_101 : decode cX5_film 101 = .ok (.istore 6, 2) := zd02dec2_56.2.2.2.2.1
theorem dX5_film_103 : decode cX5_film 103 = .ok (.aload_n 0, 1) := zd02dec2_56.2.2.2.2.2.1
theorem dX5_film_104 : decode cX5_film 104 = .ok (.getfield 41, 3) := zd02dec2_56.2.2.2.2.2.2.1
theorem dX5_film_107 : decode cX5_film 107 = .ok (.iload_n 1, 1) := zd02dec2_56.2.2.2.2.2.2.2.1
theorem dX5_film_108 : decode cX5_film 108 = .ok (.iconst 3, 1) := zd02dec2_56.2.2.2.2.2.2.2.2.1
theorem dX5_film_109 : decode cX5_film 109 = .ok (.iload 5, 2) := zd02dec2_56.2.2.2.2.2.2.2.2.2.1
theorem dX5_film_111 : decode cX5_film 111 = .ok (.imul, 1) := zd02dec2_56.2.2.2.2.2.2.2.2.2.2.1
theorem dX5_film_112 : decode cX5_film 112 = .ok (.iload 5, 2) := zd02dec2_56.2.2.2.2.2.2.2.2.2.2.2
theorem zd02dec2_57 : decode cX5_film 114 = .ok (.invokevirtual 203, 3) ∧ decode cX5_film 117 = .ok (.aload_n 0, 1) ∧ decode cX5_film 118 = .ok (.getfield 41, 3) ∧ decode cX5_film 121 = .ok (.iload_n 1, 1) ∧ decode cX5_film 122 = .ok (.iconst 3, 1) ∧ decode cX5_film 123 = .ok (.iload 5, 2) ∧ decode cX5_film 125 = .ok (.imul, 1) ∧ decode cX5_film 126 = .ok (.iconst 1, 1) ∧ decode cX5_film 127 = .ok (.iadd, 1) ∧ decode cX5_film 128 = .ok (.iload_n 3, 1) ∧ decode cX5_film 129 = .ok (.invokevirtual 203, 3) ∧ decode cX5_film 132 = .ok (.aload_n 0, 1) := by decide +kernel
theorem dX5_film_114 : decode cX5_film 114 = .ok (.invokevirtual 203, 3) := zd02dec2_57.1
theorem dX5_film_117 : decode cX5_film 117 = .ok (.aload_n 0, 1) := zd02dec2_57.2.1
theorem dX5_film_118 : decode cX5_film 118 = .ok (.getfield 41, 3) := zd02dec2_57.2.2.1
theorem dX5_film_121 : decode cX5_film 121 = .ok (.iload_n 1, 1) := zd02dec2_57.2.2.2.1
theorem dX5_film_122 : decode cX5_film 122 = .ok (.iconst 3, 1) := zd02dec2_57.2.2.2.2.1
theorem dX5_film_123 : decode cX5_film 123 = .ok (.iload 5, 2) := zd02dec2_57.2.2.2.2.2.1
theorem dX5_film_125 : decode cX5_film 125 = .ok (.imul, 1) := zd02dec2_57.2.2.2.2.2.2.1
theorem dX5_film_126 : decode cX5_film 126 = .ok (.iconst 1, 1) := zd02dec2_57.2.2.2.2.2.2.2.1
theorem dX5_film_127 : decode cX5_film 127 = .ok (.iadd, 1) := zd02dec2_57.2.2.2.2.2.2.2.2.1
theorem dX5_film_128 : decode cX5_film 128 = .ok (.iload_n 3, 1) := zd02dec2_57.2.2.2.2.2.2.2.2.2.1
theorem dX5_film_129 : decode cX5_film 129 = .ok (.invokevirtual 203, 3) := zd02dec2_57.2.2.2.2.2.2.2.2.2.2.1
theorem dX5_film_132 : decode cX5_film 132 = .ok (.aload_n 0, 1) := zd02dec2_57.2.2.2.2.2.2.2.2.2.2.2
theorem zd02dec2_58 : decode cX5_film 133 = .ok (.getfield 41, 3) ∧ decode cX5_film 136 = .ok (.iload_n 1, 1) ∧ decode cX5_film 137 = .ok (.iconst 3, 1) ∧ decode cX5_film 138 = .ok (.iload 5, 2) ∧ decode cX5_film 140 = .ok (.imul, 1) ∧ decode cX5_film 141 = .ok (.iconst 2, 1) ∧ decode cX5_film 142 = .ok (.iadd, 1) ∧ decode cX5_film 143 = .ok (.iload 6, 2) ∧ decode cX5_film 145 = .ok (.invokevirtual 203, 3) ∧ decode cX5_film 148 = .ok (.iload 4, 2) ∧ decode cX5_film 150 = .ok (.iload 6, 2) ∧ decode cX5_film 152 = .ok (.iadd, 1) := by decide +kernel
theorem dX5_film_133 : decode cX5_film 133 = .ok (.getfield 41, 3) := zd02dec2_58.1
theorem dX5_film_136 : decode cX5_film 136 = .ok (.iload_n 1, 1) := zd02dec2_58.2.1
theorem dX5_film_137 : decode cX5_film 137 = .ok (.iconst 3, 1) := zd02dec2_58.2.2.1
theorem dX5_film_138 : decode cX5_film 138 = .ok (.iload 5, 2) := zd02dec2_58.2.2.2.1
theorem dX5_film_140 : decode cX5_film 140 = .ok (.imul, 1) := zd02dec2_58.2.2.2.2.1
theorem dX5_film_141 : decode cX5_film 141 = .ok (.iconst 2, 1) := zd02dec2_58.2.2.2.2.2.1
theorem dX5_film_142 : decode cX5_film 142 = .ok (.iadd, 1) := zd02dec2_58.2.2.2.2.2.2.1
theorem dX5_film_143 : decode cX5_film 143 = .ok (.iload 6, 2) := zd02dec2_58.2.2.2.2.2.2.2.1
theorem dX5_film_145 : decode cX5_film 145 = .ok (.invokevirtual 203, 3) := zd02dec2_58.2.2.2.2.2.2.2.2.1
theorem dX5_film_148 : decode cX5_film 148 = .ok (.iload 4, 2) := zd02dec2_58.2.2.2.2.2.2.2.2.2.1
theorem dX5_film_150 : decode cX5_film 150 = .ok (.iload 6, 2) := zd02dec2_58.2.2.2.2.2.2.2.2.2.2.1
theorem dX5_film_152 : decode cX5_film 152 = .ok (.iadd, 1) := zd02dec2_58.2.2.2.2.2.2.2.2.2.2.2
theorem zd02dec2_59 : decode cX5_film 153 = .ok (.istore 4, 2) ∧ decode cX5_film 155 = .ok (.iinc 5 1, 3) ∧ decode cX5_film 158 = .ok (.goto (-90), 3) ∧ decode cX5_film 161 = .ok (.iload 4, 2) ∧ decode cX5_film 163 = .ok (.ireturn, 1) := by decide +kernel
theorem dX5_film_153 : decode cX5_film 153 = .ok (.istore 4, 2) := zd02dec2_59.1
theorem dX5_film_155 : decode cX5_film 155 = .ok (.iinc 5 1, 3) := zd02dec2_59.2.1
theorem dX5_film_158 : decode cX5_film 158 = .ok (.goto (-90), 3) := zd02dec2_59.2.2.1
theorem dX5_film_161 : decode cX5_film 161 = .ok (.iload 4, 2) := zd02dec2_59.2.2.2.1
theorem dX5_film_163 : decode cX5_film 163 = .ok (.ireturn, 1) := zd02dec2_59.2.2.2.2
theorem zd02dec2_60 : decode cX5_drawn 0 = .ok (.aload_n 0, 1) ∧ decode cX5_drawn 1 = .ok (.getfield 28, 3) ∧ decode cX5_drawn 4 = .ok (.iload_n 2, 1) ∧ decode cX5_drawn 5 = .ok (.iload_n 3, 1) ∧ decode cX5_drawn 6 = .ok (.invokevirtual 137, 3) ∧ decode cX5_drawn 9 = .ok (.ifCond .ne 6, 3) ∧ decode cX5_drawn 12 = .ok (.bipush (-5), 2) ∧ decode cX5_drawn 14 = .ok (.ireturn, 1) ∧ decode cX5_drawn 15 = .ok (.iload_n 1, 1) ∧ decode cX5_drawn 16 = .ok (.ldc 206, 2) ∧ decode cX5_drawn 18 = .ok (.invokestatic 86, 3) ∧ decode cX5_drawn 21 = .ok (.ifCond .eq 20, 3) := by decide +kernel
theorem dX5_drawn_0 : decode cX5_drawn 0 = .ok (.aload_n 0, 1) := zd02dec2_60.1
theorem dX5_drawn_1 : decode cX5_drawn 1 = .ok (.getfield 28, 3) := zd02dec2_60.2.1
theorem dX5_drawn_4 : decode cX5_drawn 4 = .ok (.iload_n 2, 1) := zd02dec2_60.2.2.1
theorem dX5_drawn_5 : decode cX5_drawn 5 = .ok (.iload_n 3, 1) := zd02dec2_60.2.2.2.1
theorem dX5_drawn_6 : decode cX5_drawn 6 = .ok (.invokevirtual 137, 3) := zd02dec2_60.2.2.2.2.1
theorem dX5_drawn_9 : decode cX5_drawn 9 = .ok (.ifCond .ne 6, 3) := zd02dec2_60.2.2.2.2.2.1
theorem dX5_drawn_12 : decode cX5_drawn 12 = .ok (.bipush (-5), 2) := zd02dec2_60.2.2.2.2.2.2.1
theorem dX5_drawn_14 : decode cX5_drawn 14 = .ok (.ireturn, 1) := zd02dec2_60.2.2.2.2.2.2.2.1
theorem dX5_drawn_15 : decode cX5_drawn 15 = .ok (.iload_n 1, 1) := zd02dec2_60.2.2.2.2.2.2.2.2.1
theorem dX5_drawn_16 : decode cX5_drawn 16 = .ok (.ldc 206, 2) := zd02dec2_60.2.2.2.2.2.2.2.2.2.1
theorem dX5_drawn_18 : decode cX5_drawn 18 = .ok (.invokestatic 86, 3) := zd02dec2_60.2.2.2.2.2.2.2.2.2.2.1
theorem dX5_drawn_21 : decode cX5_drawn 21 = .ok (.ifCond .eq 20, 3) := zd02dec2_60.2.2.2.2.2.2.2.2.2.2.2
theorem zd02dec2_61 : decode cX5_drawn 24 = .ok (.iload 4, 2) ∧ decode cX5_drawn 26 = .ok (.invokestatic 207, 3) ∧ decode cX5_drawn 29 = .ok (.ifCond .eq 12, 3) ∧ decode cX5_drawn 32 = .ok (.iload 5, 2) ∧ decode cX5_drawn 34 = .ok (.iconst 2, 1) ∧ decode cX5_drawn 35 = .ok (.invokestatic 86, 3) ∧ decode cX5_drawn 38 = .ok (.ifCond .ne 6, 3) ∧ decode cX5_drawn 41 = .ok (.bipush (-7), 2) ∧ decode cX5_drawn 43 = .ok (.ireturn, 1) ∧ decode cX5_drawn 44 = .ok (.aload_n 0, 1) ∧ decode cX5_drawn 45 = .ok (.invokevirtual 143, 3) ∧ decode cX5_drawn 48 = .ok (.aload_n 0, 1) := by decide +kernel
theorem dX5_drawn_24 : decode cX5_drawn 24 = .ok (.iload 4, 2) := zd02dec2_61.1
theorem dX5_drawn_26 : decode cX5_drawn 26 = .ok (.invokestatic 207, 3) := zd02dec2_61.2.1
theorem dX5_drawn_29 : decode cX5_drawn 29 = .ok (.ifCond .eq 12, 3) := zd02dec2_61.2.2.1
theorem dX5_drawn_32 : decode cX5_drawn 32 = .ok (.iload 5, 2) := zd02dec2_61.2.2.2.1
theorem dX5_drawn_34 : decode cX5_drawn 34 = .ok (.iconst 2, 1) := zd02dec2_61.2.2.2.2.1
theorem dX5_drawn_35 : decode cX5_drawn 35 = .ok (.invokestatic 86, 3) := zd02dec2_61.2.2.2.2.2.1
theorem dX5_drawn_38 : decode cX5_drawn 38 = .ok (.ifCond .ne 6, 3) := zd02dec2_61.2.2.2.2.2.2.1
theorem dX5_drawn_41 : decode cX5_drawn 41 = .ok (.bipush (-7), 2) := zd02dec2_61.2.2.2.2.2.2.2.1
theorem dX5_drawn_43 : decode cX5_drawn 43 = .ok (.ireturn, 1) := zd02dec2_61.2.2.2.2.2.2.2.2.1
theorem dX5_drawn_44 : decode cX5_drawn 44 = .ok (.aload_n 0, 1) := zd02dec2_61.2.2.2.2.2.2.2.2.2.1
theorem dX5_drawn_45 : decode cX5_drawn 45 = .ok (.invokevirtual 143, 3) := zd02dec2_61.2.2.2.2.2.2.2.2.2.2.1
theorem dX5_drawn_48 : decode cX5_drawn 48 = .ok (.aload_n 0, 1) := zd02dec2_61.2.2.2.2.2.2.2.2.2.2.2
theorem zd02dec2_62 : decode cX5_drawn 49 = .ok (.getfield 32, 3) ∧ decode cX5_drawn 52 = .ok (.iload_n 1, 1) ∧ decode cX5_drawn 53 = .ok (.iload_n 2, 1) ∧ decode cX5_drawn 54 = .ok (.iload_n 3, 1) ∧ decode cX5_drawn 55 = .ok (.iload 4, 2) ∧ decode cX5_drawn 57 = .ok (.invokevirtual 210, 3) ∧ decode cX5_drawn 60 = .ok (.istore 6, 2) ∧ decode cX5_drawn 62 = .ok (.aload_n 0, 1) ∧ decode cX5_drawn 63 = .ok (.iload_n 2, 1) ∧ decode cX5_drawn 64 = .ok (.iload_n 3, 1) ∧ decode cX5_drawn 65 = .ok (.iload 6, 2) ∧ decode cX5_drawn 67 = .ok (.iload 5, 2) := by decide +kernel
theorem dX5_drawn_49 : decode cX5_drawn 49 = .ok (.getfield 32, 3) := zd02dec2_62.1
theorem dX5_drawn_52 : decode cX5_drawn 52 = .ok (.iload_n 1, 1) := zd02dec2_62.2.1
theorem dX5_drawn_53 : decode cX5_drawn 53 = .ok (.iload_n 2, 1) := zd02dec2_62.2.2.1
theorem dX5_drawn_54 : decode cX5_drawn 54 = .ok (.iload_n 3, 1) := zd02dec2_62.2.2.2.1
theorem dX5_drawn_55 : decode cX5_drawn 55 = .ok (.iload 4, 2) := zd02dec2_62.2.2.2.2.1
theorem dX5_drawn_57 : decode cX5_drawn 57 = .ok (.invokevirtual 210, 3) := zd02dec2_62.2.2.2.2.2.1
theorem dX5_drawn_60 : decode cX5_drawn 60 = .ok (.istore 6, 2) := zd02dec2_62.2.2.2.2.2.2.1
theorem dX5_drawn_62 : decode cX5_drawn 62 = .ok (.aload_n 0, 1) := zd02dec2_62.2.2.2.2.2.2.2.1
theorem dX5_drawn_63 : decode cX5_drawn 63 = .ok (.iload_n 2, 1) := zd02dec2_62.2.2.2.2.2.2.2.2.1
theorem dX5_drawn_64 : decode cX5_drawn 64 = .ok (.iload_n 3, 1) := zd02dec2_62.2.2.2.2.2.2.2.2.2.1
theorem dX5_drawn_65 : decode cX5_drawn 65 = .ok (.iload 6, 2) := zd02dec2_62.2.2.2.2.2.2.2.2.2.2.1
theorem dX5_drawn_67 : decode cX5_drawn 67 = .ok (.iload 5, 2) := zd02dec2_62.2.2.2.2.2.2.2.2.2.2.2
theorem zd02dec2_63 : decode cX5_drawn 69 = .ok (.invokevirtual 146, 3) ∧ decode cX5_drawn 72 = .ok (.ireturn, 1) := by decide +kernel
theorem dX5_drawn_69 : decode cX5_drawn 69 = .ok (.invokevirtual 146, 3) := zd02dec2_63.1
theorem dX5_drawn_72 : decode cX5_drawn 72 = .ok (.ireturn, 1) := zd02dec2_63.2
theorem zd02dec2_64 : decode cX5_odds 0 = .ok (.iload_n 1, 1) ∧ decode cX5_odds 1 = .ok (.ldc 206, 2) ∧ decode cX5_odds 3 = .ok (.invokestatic 86, 3) ∧ decode cX5_odds 6 = .ok (.ifCond .eq 23, 3) ∧ decode cX5_odds 9 = .ok (.iload_n 2, 1) ∧ decode cX5_odds 10 = .ok (.iconst 1, 1) ∧ decode cX5_odds 11 = .ok (.if_icmp .lt 18, 3) ∧ decode cX5_odds 14 = .ok (.iload_n 2, 1) ∧ decode cX5_odds 15 = .ok (.bipush 40, 2) ∧ decode cX5_odds 17 = .ok (.if_icmp .gt 12, 3) ∧ decode cX5_odds 20 = .ok (.iload 6, 2) ∧ decode cX5_odds 22 = .ok (.iconst 1, 1) := by decide +kernel
theorem dX5_odds_0 : decode cX5_odds 0 = .ok (.iload_n 1, 1) := zd02dec2_64.1
theorem dX5_odds_1 : decode cX5_odds 1 = .ok (.ldc 206, 2) := zd02dec2_64.2.1
theorem dX5_odds_3 : decode cX5_odds 3 = .ok (.invokestatic 86, 3) := zd02dec2_64.2.2.1
theorem dX5_odds_6 : decode cX5_odds 6 = .ok (.ifCond .eq 23, 3) := zd02dec2_64.2.2.2.1
theorem dX5_odds_9 : decode cX5_odds 9 = .ok (.iload_n 2, 1) := zd02dec2_64.2.2.2.2.1
theorem dX5_odds_10 : decode cX5_odds 10 = .ok (.iconst 1, 1) := zd02dec2_64.2.2.2.2.2.1
theorem dX5_odds_11 : decode cX5_odds 11 = .ok (.if_icmp .lt 18, 3) := zd02dec2_64.2.2.2.2.2.2.1
theorem dX5_odds_14 : decode cX5_odds 14 = .ok (.iload_n 2, 1) := zd02dec2_64.2.2.2.2.2.2.2.1
theorem dX5_odds_15 : decode cX5_odds 15 = .ok (.bipush 40, 2) := zd02dec2_64.2.2.2.2.2.2.2.2.1
theorem dX5_odds_17 : decode cX5_odds 17 = .ok (.if_icmp .gt 12, 3) := zd02dec2_64.2.2.2.2.2.2.2.2.2.1
theorem dX5_odds_20 : decode cX5_odds 20 = .ok (.iload 6, 2) := zd02dec2_64.2.2.2.2.2.2.2.2.2.2.1
theorem dX5_odds_22 : decode cX5_odds 22 = .ok (.iconst 1, 1) := zd02dec2_64.2.2.2.2.2.2.2.2.2.2.2
theorem zd02dec2_65 : decode cX5_odds 23 = .ok (.invokestatic 86, 3) ∧ decode cX5_odds 26 = .ok (.ifCond .ne 7, 3) ∧ decode cX5_odds 29 = .ok (.ldc2_w 213, 3) ∧ decode cX5_odds 32 = .ok (.lreturn, 1) ∧ decode cX5_odds 33 = .ok (.aload_n 0, 1) ∧ decode cX5_odds 34 = .ok (.getfield 28, 3) ∧ decode cX5_odds 37 = .ok (.iload_n 3, 1) ∧ decode cX5_odds 38 = .ok (.iload 4, 2) ∧ decode cX5_odds 40 = .ok (.invokevirtual 137, 3) ∧ decode cX5_odds 43 = .ok (.ifCond .eq 11, 3) ∧ decode cX5_odds 46 = .ok (.iload 5, 2) ∧ decode cX5_odds 48 = .ok (.invokestatic 207, 3) := by decide +kernel
theorem dX5_odds_23 : decode cX5_odds 23 = .ok (.invokestatic 86, 3) := zd02dec2_65.1
theorem dX5_odds_26 : decode cX5_odds 26 = .ok (.ifCond .ne 7, 3) := zd02dec2_65.2.1
theorem dX5_odds_29 : decode cX5_odds 29 = .ok (.ldc2_w 213, 3) := zd02dec2_65.2.2.1
theorem dX5_odds_32 : decode cX5_odds 32 = .ok (.lreturn, 1) := zd02dec2_65.2.2.2.1
theorem dX5_odds_33 : decode cX5_odds 33 = .ok (.aload_n 0, 1) := zd02dec2_65.2.2.2.2.1
theorem dX5_odds_34 : decode cX5_odds 34 = .ok (.getfield 28, 3) := zd02dec2_65.2.2.2.2.2.1
theorem dX5_odds_37 : decode cX5_odds 37 = .ok (.iload_n 3, 1) := zd02dec2_65.2.2.2.2.2.2.1
theorem dX5_odds_38 : decode cX5_odds 38 = .ok (.iload 4, 2) := zd02dec2_65.2.2.2.2.2.2.2.1
theorem dX5_odds_40 : decode cX5_odds 40 = .ok (.invokevirtual 137, 3) := zd02dec2_65.2.2.2.2.2.2.2.2.1
theorem dX5_odds_43 : decode cX5_odds 43 = .ok (.ifCond .eq 11, 3) := zd02dec2_65.2.2.2.2.2.2.2.2.2.1
theorem dX5_odds_46 : decode cX5_odds 46 = .ok (.iload 5, 2) := zd02dec2_65.2.2.2.2.2.2.2.2.2.2.1
theorem dX5_odds_48 : decode cX5_odds 48 = .ok (.invokestatic 207, 3) := zd02dec2_65.2.2.2.2.2.2.2.2.2.2.2
theorem zd02dec2_66 : decode cX5_odds 51 = .ok (.ifCond .ne 7, 3) ∧ decode cX5_odds 54 = .ok (.ldc2_w 213, 3) ∧ decode cX5_odds 57 = .ok (.lreturn, 1) ∧ decode cX5_odds 58 = .ok (.iconst 0, 1) ∧ decode cX5_odds 59 = .ok (.istore 7, 2) ∧ decode cX5_odds 61 = .ok (.iconst 0, 1) ∧ decode cX5_odds 62 = .ok (.istore 8, 2) ∧ decode cX5_odds 64 = .ok (.iload 8, 2) ∧ decode cX5_odds 66 = .ok (.iload_n 2, 1) ∧ decode cX5_odds 67 = .ok (.if_icmp .ge 44, 3) ∧ decode cX5_odds 70 = .ok (.aload_n 0, 1) ∧ decode cX5_odds 71 = .ok (.invokevirtual 143, 3) := by decide +kernel
theorem dX5_odds_51 : decode cX5_odds 51 = .ok (.ifCond .ne 7, 3) := zd02dec2_66.1
theorem dX5_odds_54 : decode cX5_odds 54 = .ok (.ldc2_w 213, 3) := zd02dec2_66.2.1
theorem dX5_odds_57 : decode cX5_odds 57 = .ok (.lreturn, 1) := zd02dec2_66.2.2.1
theorem dX5_odds_58 : decode cX5_odds 58 = .ok (.iconst 0, 1) := zd02dec2_66.2.2.2.1
theorem dX5_odds_59 : decode cX5_odds 59 = .ok (.istore 7, 2) := zd02dec2_66.2.2.2.2.1
theorem dX5_odds_61 : decode cX5_odds 61 = .ok (.iconst 0, 1) := zd02dec2_66.2.2.2.2.2.1
theorem dX5_odds_62 : decode cX5_odds 62 = .ok (.istore 8, 2) := zd02dec2_66.2.2.2.2.2.2.1
theorem dX5_odds_64 : decode cX5_odds 64 = .ok (.iload 8, 2) := zd02dec2_66.2.2.2.2.2.2.2.1
theorem dX5_odds_66 : decode cX5_odds 66 = .ok (.iload_n 2, 1) := zd02dec2_66.2.2.2.2.2.2.2.2.1
theorem dX5_odds_67 : decode cX5_odds 67 = .ok (.if_icmp .ge 44, 3) := zd02dec2_66.2.2.2.2.2.2.2.2.2.1
theorem dX5_odds_70 : decode cX5_odds 70 = .ok (.aload_n 0, 1) := zd02dec2_66.2.2.2.2.2.2.2.2.2.2.1
theorem dX5_odds_71 : decode cX5_odds 71 = .ok (.invokevirtual 143, 3) := zd02dec2_66.2.2.2.2.2.2.2.2.2.2.2
theorem zd02dec2_67 : decode cX5_odds 74 = .ok (.iload 7, 2) ∧ decode cX5_odds 76 = .ok (.aload_n 0, 1) ∧ decode cX5_odds 77 = .ok (.getfield 32, 3) ∧ decode cX5_odds 80 = .ok (.iload_n 3, 1) ∧ decode cX5_odds 81 = .ok (.iload 4, 2) ∧ decode cX5_odds 83 = .ok (.aload_n 0, 1) ∧ decode cX5_odds 84 = .ok (.getfield 32, 3) ∧ decode cX5_odds 87 = .ok (.iload_n 1, 1) ∧ decode cX5_odds 88 = .ok (.iload 8, 2) ∧ decode cX5_odds 90 = .ok (.iadd, 1) ∧ decode cX5_odds 91 = .ok (.iload_n 3, 1) ∧ decode cX5_odds 92 = .ok (.iload 4, 2) := by decide +kernel
theorem dX5_odds_74 : decode cX5_odds 74 = .ok (.iload 7, 2) := zd02dec2_67.1
theorem dX5_odds_76 : decode cX5_odds 76 = .ok (.aload_n 0, 1) := zd02dec2_67.2.1
theorem dX5_odds_77 : decode cX5_odds 77 = .ok (.getfield 32, 3) := zd02dec2_67.2.2.1
theorem dX5_odds_80 : decode cX5_odds 80 = .ok (.iload_n 3, 1) := zd02dec2_67.2.2.2.1
theorem dX5_odds_81 : decode cX5_odds 81 = .ok (.iload 4, 2) := zd02dec2_67.2.2.2.2.1
theorem dX5_odds_83 : decode cX5_odds 83 = .ok (.aload_n 0, 1) := zd02dec2_67.2.2.2.2.2.1
theorem dX5_odds_84 : decode cX5_odds 84 = .ok (.getfield 32, 3) := zd02dec2_67.2.2.2.2.2.2.1
theorem dX5_odds_87 : decode cX5_odds 87 = .ok (.iload_n 1, 1) := zd02dec2_67.2.2.2.2.2.2.2.1
theorem dX5_odds_88 : decode cX5_odds 88 = .ok (.iload 8, 2) := zd02dec2_67.2.2.2.2.2.2.2.2.1
theorem dX5_odds_90 : decode cX5_odds 90 = .ok (.iadd, 1) := zd02dec2_67.2.2.2.2.2.2.2.2.2.1
theorem dX5_odds_91 : decode cX5_odds 91 = .ok (.iload_n 3, 1) := zd02dec2_67.2.2.2.2.2.2.2.2.2.2.1
theorem dX5_odds_92 : decode cX5_odds 92 = .ok (.iload 4, 2) := zd02dec2_67.2.2.2.2.2.2.2.2.2.2.2
theorem zd02dec2_68 : decode cX5_odds 94 = .ok (.iload 5, 2) ∧ decode cX5_odds 96 = .ok (.invokevirtual 210, 3) ∧ decode cX5_odds 99 = .ok (.invokevirtual 164, 3) ∧ decode cX5_odds 102 = .ok (.iadd, 1) ∧ decode cX5_odds 103 = .ok (.istore 7, 2) ∧ decode cX5_odds 105 = .ok (.iinc 8 1, 3) ∧ decode cX5_odds 108 = .ok (.goto (-44), 3) ∧ decode cX5_odds 111 = .ok (.iload 6, 2) ∧ decode cX5_odds 113 = .ok (.ifCond .ne 8, 3) ∧ decode cX5_odds 116 = .ok (.iload 7, 2) ∧ decode cX5_odds 118 = .ok (.goto 4, 3) ∧ decode cX5_odds 121 = .ok (.iload_n 2, 1) := by decide +kernel
theorem dX5_odds_94 : decode cX5_odds 94 = .ok (.iload 5, 2) := zd02dec2_68.1
theorem dX5_odds_96 : decode cX5_odds 96 = .ok (.invokevirtual 210, 3) := zd02dec2_68.2.1
theorem dX5_odds_99 : decode cX5_odds 99 = .ok (.invokevirtual 164, 3) := zd02dec2_68.2.2.1
theorem dX5_odds_102 : decode cX5_odds 102 = .ok (.iadd, 1) := zd02dec2_68.2.2.2.1
theorem dX5_odds_103 : decode cX5_odds 103 = .ok (.istore 7, 2) := zd02dec2_68.2.2.2.2.1
theorem dX5_odds_105 : decode cX5_odds 105 = .ok (.iinc 8 1, 3) := zd02dec2_68.2.2.2.2.2.1
theorem dX5_odds_108 : decode cX5_odds 108 = .ok (.goto (-44), 3) := zd02dec2_68.2.2.2.2.2.2.1
theorem dX5_odds_111 : decode cX5_odds 111 = .ok (.iload 6, 2) := zd02dec2_68.2.2.2.2.2.2.2.1
theorem dX5_odds_113 : decode cX5_odds 113 = .ok (.ifCond .ne 8, 3) := zd02dec2_68.2.2.2.2.2.2.2.2.1
theorem dX5_odds_116 : decode cX5_odds 116 = .ok (.iload 7, 2) := zd02dec2_68.2.2.2.2.2.2.2.2.2.1
theorem dX5_odds_118 : decode cX5_odds 118 = .ok (.goto 4, 3) := zd02dec2_68.2.2.2.2.2.2.2.2.2.2.1
theorem dX5_odds_121 : decode cX5_odds 121 = .ok (.iload_n 2, 1) := zd02dec2_68.2.2.2.2.2.2.2.2.2.2.2
theorem zd02dec2_69 : decode cX5_odds 122 = .ok (.iload 7, 2) ∧ decode cX5_odds 124 = .ok (.iload_n 2, 1) ∧ decode cX5_odds 125 = .ok (.invokestatic 215, 3) ∧ decode cX5_odds 128 = .ok (.idiv, 1) ∧ decode cX5_odds 129 = .ok (.i2l, 1) ∧ decode cX5_odds 130 = .ok (.lreturn, 1) := by decide +kernel
theorem dX5_odds_122 : decode cX5_odds 122 = .ok (.iload 7, 2) := zd02dec2_69.1
theorem dX5_odds_124 : decode cX5_odds 124 = .ok (.iload_n 2, 1) := zd02dec2_69.2.1
theorem dX5_odds_125 : decode cX5_odds 125 = .ok (.invokestatic 215, 3) := zd02dec2_69.2.2.1
theorem dX5_odds_128 : decode cX5_odds 128 = .ok (.idiv, 1) := zd02dec2_69.2.2.2.1
theorem dX5_odds_129 : decode cX5_odds 129 = .ok (.i2l, 1) := zd02dec2_69.2.2.2.2.1
theorem dX5_odds_130 : decode cX5_odds 130 = .ok (.lreturn, 1) := zd02dec2_69.2.2.2.2.2
theorem zd02dec2_70 : decode cX5_image 0 = .ok (.aload_n 0, 1) ∧ decode cX5_image 1 = .ok (.getfield 35, 3) ∧ decode cX5_image 4 = .ok (.aload_n 0, 1) ∧ decode cX5_image 5 = .ok (.getfield 28, 3) ∧ decode cX5_image 8 = .ok (.invokevirtual 218, 3) ∧ decode cX5_image 11 = .ok (.aload_n 0, 1) ∧ decode cX5_image 12 = .ok (.iconst 1, 1) ∧ decode cX5_image 13 = .ok (.putfield 221, 3) ∧ decode cX5_image 16 = .ok (.aload_n 0, 1) ∧ decode cX5_image 17 = .ok (.getfield 28, 3) ∧ decode cX5_image 20 = .ok (.getfield 71, 3) ∧ decode cX5_image 23 = .ok (.ireturn, 1) := by decide +kernel
theorem dX5_image_0 : decode cX5_image 0 = .ok (.aload_n 0, 1) := zd02dec2_70.1
theorem dX5_image_1 : decode cX5_image 1 = .ok (.getfield 35, 3) := zd02dec2_70.2.1
theorem dX5_image_4 : decode cX5_image 4 = .ok (.aload_n 0, 1) := zd02dec2_70.2.2.1
theorem dX5_image_5 : decode cX5_image 5 = .ok (.getfield 28, 3) := zd02dec2_70.2.2.2.1
theorem dX5_image_8 : decode cX5_image 8 = .ok (.invokevirtual 218, 3) := zd02dec2_70.2.2.2.2.1
theorem dX5_image_11 : decode cX5_image 11 = .ok (.aload_n 0, 1) := zd02dec2_70.2.2.2.2.2.1
theorem dX5_image_12 : decode cX5_image 12 = .ok (.iconst 1, 1) := zd02dec2_70.2.2.2.2.2.2.1
theorem dX5_image_13 : decode cX5_image 13 = .ok (.putfield 221, 3) := zd02dec2_70.2.2.2.2.2.2.2.1
theorem dX5_image_16 : decode cX5_image 16 = .ok (.aload_n 0, 1) := zd02dec2_70.2.2.2.2.2.2.2.2.1
theorem dX5_image_17 : decode cX5_image 17 = .ok (.getfield 28, 3) := zd02dec2_70.2.2.2.2.2.2.2.2.2.1
theorem dX5_image_20 : decode cX5_image 20 = .ok (.getfield 71, 3) := zd02dec2_70.2.2.2.2.2.2.2.2.2.2.1
theorem dX5_image_23 : decode cX5_image 23 = .ok (.ireturn, 1) := zd02dec2_70.2.2.2.2.2.2.2.2.2.2.2
theorem zd02dec2_71 : decode cX5_back 0 = .ok (.aload_n 0, 1) ∧ decode cX5_back 1 = .ok (.getfield 221, 3) ∧ decode cX5_back 4 = .ok (.ifCond .ne 6, 3) ∧ decode cX5_back 7 = .ok (.bipush (-3), 2) ∧ decode cX5_back 9 = .ok (.ireturn, 1) ∧ decode cX5_back 10 = .ok (.aload_n 0, 1) ∧ decode cX5_back 11 = .ok (.getfield 28, 3) ∧ decode cX5_back 14 = .ok (.aload_n 0, 1) ∧ decode cX5_back 15 = .ok (.getfield 35, 3) ∧ decode cX5_back 18 = .ok (.invokevirtual 218, 3) ∧ decode cX5_back 21 = .ok (.aload_n 0, 1) ∧ decode cX5_back 22 = .ok (.getfield 28, 3) := by decide +kernel
theorem dX5_back_0 : decode cX5_back 0 = .ok (.aload_n 0, 1) := zd02dec2_71.1
theorem dX5_back_1 : decode cX5_back 1 = .ok (.getfield 221, 3) := zd02dec2_71.2.1
theorem dX5_back_4 : decode cX5_back 4 = .ok (.ifCond .ne 6, 3) := zd02dec2_71.2.2.1
theorem dX5_back_7 : decode cX5_back 7 = .ok (.bipush (-3), 2) := zd02dec2_71.2.2.2.1
theorem dX5_back_9 : decode cX5_back 9 = .ok (.ireturn, 1) := zd02dec2_71.2.2.2.2.1
theorem dX5_back_10 : decode cX5_back 10 = .ok (.aload_n 0, 1) := zd02dec2_71.2.2.2.2.2.1
theorem dX5_back_11 : decode cX5_back 11 = .ok (.getfield 28, 3) := zd02dec2_71.2.2.2.2.2.2.1
theorem dX5_back_14 : decode cX5_back 14 = .ok (.aload_n 0, 1) := zd02dec2_71.2.2.2.2.2.2.2.1
theorem dX5_back_15 : decode cX5_back 15 = .ok (.getfield 35, 3) := zd02dec2_71.2.2.2.2.2.2.2.2.1
theorem dX5_back_18 : decode cX5_back 18 = .ok (.invokevirtual 218, 3) := zd02dec2_71.2.2.2.2.2.2.2.2.2.1
theorem dX5_back_21 : decode cX5_back 21 = .ok (.aload_n 0, 1) := zd02dec2_71.2.2.2.2.2.2.2.2.2.2.1
theorem dX5_back_22 : decode cX5_back 22 = .ok (.getfield 28, 3) := zd02dec2_71.2.2.2.2.2.2.2.2.2.2.2
theorem zd02dec2_72 : decode cX5_back 25 = .ok (.getfield 71, 3) ∧ decode cX5_back 28 = .ok (.ireturn, 1) := by decide +kernel
theorem dX5_back_25 : decode cX5_back 25 = .ok (.getfield 71, 3) := zd02dec2_72.1
theorem dX5_back_28 : decode cX5_back 28 = .ok (.ireturn, 1) := zd02dec2_72.2
theorem zd02dec2_73 : decode cX5_sheet 0 = .ok (.aload_n 0, 1) ∧ decode cX5_sheet 1 = .ok (.getfield 41, 3) ∧ decode cX5_sheet 4 = .ok (.iload_n 1, 1) ∧ decode cX5_sheet 5 = .ok (.invokevirtual 196, 3) ∧ decode cX5_sheet 8 = .ok (.ifCond .eq 13, 3) ∧ decode cX5_sheet 11 = .ok (.iload_n 2, 1) ∧ decode cX5_sheet 12 = .ok (.iconst (-1), 1) ∧ decode cX5_sheet 13 = .ok (.if_icmp .lt 8, 3) ∧ decode cX5_sheet 16 = .ok (.iload_n 2, 1) ∧ decode cX5_sheet 17 = .ok (.iconst 2, 1) ∧ decode cX5_sheet 18 = .ok (.if_icmp .le 6, 3) ∧ decode cX5_sheet 21 = .ok (.bipush (-2), 2) := by decide +kernel
theorem dX5_sheet_0 : decode cX5_sheet 0 = .ok (.aload_n 0, 1) := zd02dec2_73.1
theorem dX5_sheet_1 : decode cX5_sheet 1 = .ok (.getfield 41, 3) := zd02dec2_73.2.1
theorem dX5_sheet_4 : decode cX5_sheet 4 = .ok (.iload_n 1, 1) := zd02dec2_73.2.2.1
theorem dX5_sheet_5 : decode cX5_sheet 5 = .ok (.invokevirtual 196, 3) := zd02dec2_73.2.2.2.1
theorem dX5_sheet_8 : decode cX5_sheet 8 = .ok (.ifCond .eq 13, 3) := zd02dec2_73.2.2.2.2.1
theorem dX5_sheet_11 : decode cX5_sheet 11 = .ok (.iload_n 2, 1) := zd02dec2_73.2.2.2.2.2.1
theorem dX5_sheet_12 : decode cX5_sheet 12 = .ok (.iconst (-1), 1) := zd02dec2_73.2.2.2.2.2.2.1
theorem dX5_sheet_13 : decode cX5_sheet 13 = .ok (.if_icmp .lt 8, 3) := zd02dec2_73.2.2.2.2.2.2.2.1
theorem dX5_sheet_16 : decode cX5_sheet 16 = .ok (.iload_n 2, 1) := zd02dec2_73.2.2.2.2.2.2.2.2.1
theorem dX5_sheet_17 : decode cX5_sheet 17 = .ok (.iconst 2, 1) := zd02dec2_73.2.2.2.2.2.2.2.2.2.1
theorem dX5_sheet_18 : decode cX5_sheet 18 = .ok (.if_icmp .le 6, 3) := zd02dec2_73.2.2.2.2.2.2.2.2.2.2.1
theorem dX5_sheet_21 : decode cX5_sheet 21 = .ok (.bipush (-2), 2) := zd02dec2_73.2.2.2.2.2.2.2.2.2.2.2
theorem zd02dec2_74 : decode cX5_sheet 23 = .ok (.ireturn, 1) ∧ decode cX5_sheet 24 = .ok (.iload_n 2, 1) ∧ decode cX5_sheet 25 = .ok (.iconst (-1), 1) ∧ decode cX5_sheet 26 = .ok (.if_icmp .ne 15, 3) ∧ decode cX5_sheet 29 = .ok (.aload_n 0, 1) ∧ decode cX5_sheet 30 = .ok (.getfield 41, 3) ∧ decode cX5_sheet 33 = .ok (.iload_n 1, 1) ∧ decode cX5_sheet 34 = .ok (.iconst (-1), 1) ∧ decode cX5_sheet 35 = .ok (.iconst 0, 1) ∧ decode cX5_sheet 36 = .ok (.invokevirtual 199, 3) ∧ decode cX5_sheet 39 = .ok (.iconst 1, 1) ∧ decode cX5_sheet 40 = .ok (.ireturn, 1) := by decide +kernel
theorem dX5_sheet_23 : decode cX5_sheet 23 = .ok (.ireturn, 1) := zd02dec2_74.1
theorem dX5_sheet_24 : decode cX5_sheet 24 = .ok (.iload_n 2, 1) := zd02dec2_74.2.1
theorem dX5_sheet_25 : decode cX5_sheet 25 = .ok (.iconst (-1), 1) := zd02dec2_74.2.2.1
theorem dX5_sheet_26 : decode cX5_sheet 26 = .ok (.if_icmp .ne 15, 3) := zd02dec2_74.2.2.2.1
theorem dX5_sheet_29 : decode cX5_sheet 29 = .ok (.aload_n 0, 1) := zd02dec2_74.2.2.2.2.1
theorem dX5_sheet_30 : decode cX5_sheet 30 = .ok (.getfield 41, 3) := zd02dec2_74.2.2.2.2.2.1
theorem dX5_sheet_33 : decode cX5_sheet 33 = .ok (.iload_n 1, 1) := zd02dec2_74.2.2.2.2.2.2.1
theorem dX5_sheet_34 : decode cX5_sheet 34 = .ok (.iconst (-1), 1) := zd02dec2_74.2.2.2.2.2.2.2.1
theorem dX5_sheet_35 : decode cX5_sheet 35 = .ok (.iconst 0, 1) := zd02dec2_74.2.2.2.2.2.2.2.2.1
theorem dX5_sheet_36 : decode cX5_sheet 36 = .ok (.invokevirtual 199, 3) := zd02dec2_74.2.2.2.2.2.2.2.2.2.1
theorem dX5_sheet_39 : decode cX5_sheet 39 = .ok (.iconst 1, 1) := zd02dec2_74.2.2.2.2.2.2.2.2.2.2.1
theorem dX5_sheet_40 : decode cX5_sheet 40 = .ok (.ireturn, 1) := zd02dec2_74.2.2.2.2.2.2.2.2.2.2.2
theorem zd02dec2_75 : decode cX5_sheet 41 = .ok (.iload_n 3, 1) ∧ decode cX5_sheet 42 = .ok (.bipush 40, 2) ∧ decode cX5_sheet 44 = .ok (.if_icmp .le 6, 3) ∧ decode cX5_sheet 47 = .ok (.bipush (-2), 2) ∧ decode cX5_sheet 49 = .ok (.ireturn, 1) ∧ decode cX5_sheet 50 = .ok (.iload_n 3, 1) ∧ decode cX5_sheet 51 = .ok (.ifCond .ge 6, 3) ∧ decode cX5_sheet 54 = .ok (.bipush (-14), 2) ∧ decode cX5_sheet 56 = .ok (.ireturn, 1) ∧ decode cX5_sheet 57 = .ok (.aload_n 0, 1) ∧ decode cX5_sheet 58 = .ok (.getfield 41, 3) ∧ decode cX5_sheet 61 = .ok (.iload_n 1, 1) := by decide +kernel
theorem dX5_sheet_41 : decode cX5_sheet 41 = .ok (.iload_n 3, 1) := zd02dec2_75.1
theorem dX5_sheet_42 : decode cX5_sheet 42 = .ok (.bipush 40, 2) := zd02dec2_75.2.1
theorem dX5_sheet_44 : decode cX5_sheet 44 = .ok (.if_icmp .le 6, 3) := zd02dec2_75.2.2.1
theorem dX5_sheet_47 : decode cX5_sheet 47 = .ok (.bipush (-2), 2) := zd02dec2_75.2.2.2.1
theorem dX5_sheet_49 : decode cX5_sheet 49 = .ok (.ireturn, 1) := zd02dec2_75.2.2.2.2.1
theorem dX5_sheet_50 : decode cX5_sheet 50 = .ok (.iload_n 3, 1) := zd02dec2_75.2.2.2.2.2.1
theorem dX5_sheet_51 : decode cX5_sheet 51 = .ok (.ifCond .ge 6, 3) := zd02dec2_75.2.2.2.2.2.2.1
theorem dX5_sheet_54 : decode cX5_sheet 54 = .ok (.bipush (-14), 2) := zd02dec2_75.2.2.2.2.2.2.2.1
theorem dX5_sheet_56 : decode cX5_sheet 56 = .ok (.ireturn, 1) := zd02dec2_75.2.2.2.2.2.2.2.2.1
theorem dX5_sheet_57 : decode cX5_sheet 57 = .ok (.aload_n 0, 1) := zd02dec2_75.2.2.2.2.2.2.2.2.2.1
theorem dX5_sheet_58 : decode cX5_sheet 58 = .ok (.getfield 41, 3) := zd02dec2_75.2.2.2.2.2.2.2.2.2.2.1
theorem dX5_sheet_61 : decode cX5_sheet 61 = .ok (.iload_n 1, 1) := zd02dec2_75.2.2.2.2.2.2.2.2.2.2.2
theorem zd02dec2_76 : decode cX5_sheet 62 = .ok (.iload_n 2, 1) ∧ decode cX5_sheet 63 = .ok (.iload_n 3, 1) ∧ decode cX5_sheet 64 = .ok (.invokevirtual 199, 3) ∧ decode cX5_sheet 67 = .ok (.iconst 1, 1) ∧ decode cX5_sheet 68 = .ok (.ireturn, 1) := by decide +kernel
theorem dX5_sheet_62 : decode cX5_sheet 62 = .ok (.iload_n 2, 1) := zd02dec2_76.1
theorem dX5_sheet_63 : decode cX5_sheet 63 = .ok (.iload_n 3, 1) := zd02dec2_76.2.1
theorem dX5_sheet_64 : decode cX5_sheet 64 = .ok (.invokevirtual 199, 3) := zd02dec2_76.2.2.1
theorem dX5_sheet_67 : decode cX5_sheet 67 = .ok (.iconst 1, 1) := zd02dec2_76.2.2.2.1
theorem dX5_sheet_68 : decode cX5_sheet 68 = .ok (.ireturn, 1) := zd02dec2_76.2.2.2.2
theorem zd02dec2_77 : decode cX5_cell 0 = .ok (.aload_n 0, 1) ∧ decode cX5_cell 1 = .ok (.getfield 41, 3) ∧ decode cX5_cell 4 = .ok (.iload_n 1, 1) ∧ decode cX5_cell 5 = .ok (.invokevirtual 196, 3) ∧ decode cX5_cell 8 = .ok (.ifCond .ne 6, 3) ∧ decode cX5_cell 11 = .ok (.bipush (-2), 2) ∧ decode cX5_cell 13 = .ok (.ireturn, 1) ∧ decode cX5_cell 14 = .ok (.aload_n 0, 1) ∧ decode cX5_cell 15 = .ok (.getfield 41, 3) ∧ decode cX5_cell 18 = .ok (.getfield 225, 3) ∧ decode cX5_cell 21 = .ok (.iload_n 1, 1) ∧ decode cX5_cell 22 = .ok (.iaload, 1) := by decide +kernel
theorem dX5_cell_0 : decode cX5_cell 0 = .ok (.aload_n 0, 1) := zd02dec2_77.1
theorem dX5_cell_1 : decode cX5_cell 1 = .ok (.getfield 41, 3) := zd02dec2_77.2.1
theorem dX5_cell_4 : decode cX5_cell 4 = .ok (.iload_n 1, 1) := zd02dec2_77.2.2.1
theorem dX5_cell_5 : decode cX5_cell 5 = .ok (.invokevirtual 196, 3) := zd02dec2_77.2.2.2.1
theorem dX5_cell_8 : decode cX5_cell 8 = .ok (.ifCond .ne 6, 3) := zd02dec2_77.2.2.2.2.1
theorem dX5_cell_11 : decode cX5_cell 11 = .ok (.bipush (-2), 2) := zd02dec2_77.2.2.2.2.2.1
theorem dX5_cell_13 : decode cX5_cell 13 = .ok (.ireturn, 1) := zd02dec2_77.2.2.2.2.2.2.1
theorem dX5_cell_14 : decode cX5_cell 14 = .ok (.aload_n 0, 1) := zd02dec2_77.2.2.2.2.2.2.2.1
theorem dX5_cell_15 : decode cX5_cell 15 = .ok (.getfield 41, 3) := zd02dec2_77.2.2.2.2.2.2.2.2.1
theorem dX5_cell_18 : decode cX5_cell 18 = .ok (.getfield 225, 3) := zd02dec2_77.2.2.2.2.2.2.2.2.2.1
theorem dX5_cell_21 : decode cX5_cell 21 = .ok (.iload_n 1, 1) := zd02dec2_77.2.2.2.2.2.2.2.2.2.2.1
theorem dX5_cell_22 : decode cX5_cell 22 = .ok (.iaload, 1) := zd02dec2_77.2.2.2.2.2.2.2.2.2.2.2
theorem zd02dec2_78 : decode cX5_cell 23 = .ok (.iconst (-1), 1) ∧ decode cX5_cell 24 = .ok (.if_icmp .ne 6, 3) ∧ decode cX5_cell 27 = .ok (.bipush (-11), 2) ∧ decode cX5_cell 29 = .ok (.ireturn, 1) ∧ decode cX5_cell 30 = .ok (.iload_n 2, 1) ∧ decode cX5_cell 31 = .ok (.ifCond .lt 16, 3) ∧ decode cX5_cell 34 = .ok (.iload_n 2, 1) ∧ decode cX5_cell 35 = .ok (.aload_n 0, 1) ∧ decode cX5_cell 36 = .ok (.getfield 41, 3) ∧ decode cX5_cell 39 = .ok (.getfield 228, 3) ∧ decode cX5_cell 42 = .ok (.iload_n 1, 1) ∧ decode cX5_cell 43 = .ok (.iaload, 1) := by decide +kernel
theorem dX5_cell_23 : decode cX5_cell 23 = .ok (.iconst (-1), 1) := zd02dec2_78.1
theorem dX5_cell_24 : decode cX5_cell 24 = .ok (.if_icmp .ne 6, 3) := zd02dec2_78.2.1
theorem dX5_cell_27 : decode cX5_cell 27 = .ok (.bipush (-11), 2) := zd02dec2_78.2.2.1
theorem dX5_cell_29 : decode cX5_cell 29 = .ok (.ireturn, 1) := zd02dec2_78.2.2.2.1
theorem dX5_cell_30 : decode cX5_cell 30 = .ok (.iload_n 2, 1) := zd02dec2_78.2.2.2.2.1
theorem dX5_cell_31 : decode cX5_cell 31 = .ok (.ifCond .lt 16, 3) := zd02dec2_78.2.2.2.2.2.1
theorem dX5_cell_34 : decode cX5_cell 34 = .ok (.iload_n 2, 1) := zd02dec2_78.2.2.2.2.2.2.1
theorem dX5_cell_35 : decode cX5_cell 35 = .ok (.aload_n 0, 1) := zd02dec2_78.2.2.2.2.2.2.2.1
theorem dX5_cell_36 : decode cX5_cell 36 = .ok (.getfield 41, 3) := zd02dec2_78.2.2.2.2.2.2.2.2.1
theorem dX5_cell_39 : decode cX5_cell 39 = .ok (.getfield 228, 3) := zd02dec2_78.2.2.2.2.2.2.2.2.2.1
theorem dX5_cell_42 : decode cX5_cell 42 = .ok (.iload_n 1, 1) := zd02dec2_78.2.2.2.2.2.2.2.2.2.2.1
theorem dX5_cell_43 : decode cX5_cell 43 = .ok (.iaload, 1) := zd02dec2_78.2.2.2.2.2.2.2.2.2.2.2
theorem zd02dec2_79 : decode cX5_cell 44 = .ok (.if_icmp .lt 6, 3) ∧ decode cX5_cell 47 = .ok (.bipush (-12), 2) ∧ decode cX5_cell 49 = .ok (.ireturn, 1) ∧ decode cX5_cell 50 = .ok (.aload_n 0, 1) ∧ decode cX5_cell 51 = .ok (.getfield 41, 3) ∧ decode cX5_cell 54 = .ok (.iload_n 1, 1) ∧ decode cX5_cell 55 = .ok (.iload_n 2, 1) ∧ decode cX5_cell 56 = .ok (.iload_n 3, 1) ∧ decode cX5_cell 57 = .ok (.invokevirtual 203, 3) ∧ decode cX5_cell 60 = .ok (.iconst 1, 1) ∧ decode cX5_cell 61 = .ok (.ireturn, 1) := by decide +kernel
theorem dX5_cell_44 : decode cX5_cell 44 = .ok (.if_icmp .lt 6, 3) := zd02dec2_79.1
theorem dX5_cell_47 : decode cX5_cell 47 = .ok (.bipush (-12), 2) := zd02dec2_79.2.1
theorem dX5_cell_49 : decode cX5_cell 49 = .ok (.ireturn, 1) := zd02dec2_79.2.2.1
theorem dX5_cell_50 : decode cX5_cell 50 = .ok (.aload_n 0, 1) := zd02dec2_79.2.2.2.1
theorem dX5_cell_51 : decode cX5_cell 51 = .ok (.getfield 41, 3) := zd02dec2_79.2.2.2.2.1
theorem dX5_cell_54 : decode cX5_cell 54 = .ok (.iload_n 1, 1) := zd02dec2_79.2.2.2.2.2.1
theorem dX5_cell_55 : decode cX5_cell 55 = .ok (.iload_n 2, 1) := zd02dec2_79.2.2.2.2.2.2.1
theorem dX5_cell_56 : decode cX5_cell 56 = .ok (.iload_n 3, 1) := zd02dec2_79.2.2.2.2.2.2.2.1
theorem dX5_cell_57 : decode cX5_cell 57 = .ok (.invokevirtual 203, 3) := zd02dec2_79.2.2.2.2.2.2.2.2.1
theorem dX5_cell_60 : decode cX5_cell 60 = .ok (.iconst 1, 1) := zd02dec2_79.2.2.2.2.2.2.2.2.2.1
theorem dX5_cell_61 : decode cX5_cell 61 = .ok (.ireturn, 1) := zd02dec2_79.2.2.2.2.2.2.2.2.2.2
theorem zd02dec2_80 : decode cX5_copy 0 = .ok (.aload_n 0, 1) ∧ decode cX5_copy 1 = .ok (.getfield 41, 3) ∧ decode cX5_copy 4 = .ok (.iload_n 1, 1) ∧ decode cX5_copy 5 = .ok (.invokevirtual 196, 3) ∧ decode cX5_copy 8 = .ok (.ifCond .eq 14, 3) ∧ decode cX5_copy 11 = .ok (.aload_n 0, 1) ∧ decode cX5_copy 12 = .ok (.getfield 41, 3) ∧ decode cX5_copy 15 = .ok (.iload_n 3, 1) ∧ decode cX5_copy 16 = .ok (.invokevirtual 196, 3) ∧ decode cX5_copy 19 = .ok (.ifCond .ne 6, 3) ∧ decode cX5_copy 22 = .ok (.bipush (-2), 2) ∧ decode cX5_copy 24 = .ok (.ireturn, 1) := by decide +kernel
theorem dX5_copy_0 : decode cX5_copy 0 = .ok (.aload_n 0, 1) := zd02dec2_80.1
theorem dX5_copy_1 : decode cX5_copy 1 = .ok (.getfield 41, 3) := zd02dec2_80.2.1
theorem dX5_copy_4 : decode cX5_copy 4 = .ok (.iload_n 1, 1) := zd02dec2_80.2.2.1
theorem dX5_copy_5 : decode cX5_copy 5 = .ok (.invokevirtual 196, 3) := zd02dec2_80.2.2.2.1
theorem dX5_copy_8 : decode cX5_copy 8 = .ok (.ifCond .eq 14, 3) := zd02dec2_80.2.2.2.2.1
theorem dX5_copy_11 : decode cX5_copy 11 = .ok (.aload_n 0, 1) := zd02dec2_80.2.2.2.2.2.1
theorem dX5_copy_12 : decode cX5_copy 12 = .ok (.getfield 41, 3) := zd02dec2_80.2.2.2.2.2.2.1
theorem dX5_copy_15 : decode cX5_copy 15 = .ok (.iload_n 3, 1) := zd02dec2_80.2.2.2.2.2.2.2.1
theorem dX5_copy_16 : decode cX5_copy 16 = .ok (.invokevirtual 196, 3) := zd02dec2_80.2.2.2.2.2.2.2.2.1
theorem dX5_copy_19 : decode cX5_copy 19 = .ok (.ifCond .ne 6, 3) := zd02dec2_80.2.2.2.2.2.2.2.2.2.1
theorem dX5_copy_22 : decode cX5_copy 22 = .ok (.bipush (-2), 2) := zd02dec2_80.2.2.2.2.2.2.2.2.2.2.1
theorem dX5_copy_24 : decode cX5_copy 24 = .ok (.ireturn, 1) := zd02dec2_80.2.2.2.2.2.2.2.2.2.2.2
theorem zd02dec2_81 : decode cX5_copy 25 = .ok (.aload_n 0, 1) ∧ decode cX5_copy 26 = .ok (.getfield 41, 3) ∧ decode cX5_copy 29 = .ok (.getfield 225, 3) ∧ decode cX5_copy 32 = .ok (.iload_n 1, 1) ∧ decode cX5_copy 33 = .ok (.iaload, 1) ∧ decode cX5_copy 34 = .ok (.iconst (-1), 1) ∧ decode cX5_copy 35 = .ok (.if_icmp .eq 16, 3) ∧ decode cX5_copy 38 = .ok (.aload_n 0, 1) ∧ decode cX5_copy 39 = .ok (.getfield 41, 3) ∧ decode cX5_copy 42 = .ok (.getfield 225, 3) ∧ decode cX5_copy 45 = .ok (.iload_n 3, 1) ∧ decode cX5_copy 46 = .ok (.iaload, 1) := by decide +kernel
theorem dX5_copy_25 : decode cX5_copy 25 = .ok (.aload_n 0, 1) := zd02dec2_81.1
theorem dX5_copy_26 : decode cX5_copy 26 = .ok (.getfield 41, 3) := zd02dec2_81.2.1
theorem dX5_copy_29 : decode cX5_copy 29 = .ok (.getfield 225, 3) := zd02dec2_81.2.2.1
theorem dX5_copy_32 : decode cX5_copy 32 = .ok (.iload_n 1, 1) := zd02dec2_81.2.2.2.1
theorem dX5_copy_33 : decode cX5_copy 33 = .ok (.iaload, 1) := zd02dec2_81.2.2.2.2.1
theorem dX5_copy_34 : decode cX5_copy 34 = .ok (.iconst (-1), 1) := zd02dec2_81.2.2.2.2.2.1
theorem dX5_copy_35 : decode cX5_copy 35 = .ok (.if_icmp .eq 16, 3) := zd02dec2_81.2.2.2.2.2.2.1
theorem dX5_copy_38 : decode cX5_copy 38 = .ok (.aload_n 0, 1) := zd02dec2_81.2.2.2.2.2.2.2.1
theorem dX5_copy_39 : decode cX5_copy 39 = .ok (.getfield 41, 3) := zd02dec2_81.2.2.2.2.2.2.2.2.1
theorem dX5_copy_42 : decode cX5_copy 42 = .ok (.getfield 225, 3) := zd02dec2_81.2.2.2.2.2.2.2.2.2.1
theorem dX5_copy_45 : decode cX5_copy 45 = .ok (.iload_n 3, 1) := zd02dec2_81.2.2.2.2.2.2.2.2.2.2.1
theorem dX5_copy_46 : decode cX5_copy 46 = .ok (.iaload, 1) := zd02dec2_81.2.2.2.2.2.2.2.2.2.2.2
theorem zd02dec2_82 : decode cX5_copy 47 = .ok (.iconst (-1), 1) ∧ decode cX5_copy 48 = .ok (.if_icmp .ne 6, 3) ∧ decode cX5_copy 51 = .ok (.bipush (-11), 2) ∧ decode cX5_copy 53 = .ok (.ireturn, 1) ∧ decode cX5_copy 54 = .ok (.aload_n 0, 1) ∧ decode cX5_copy 55 = .ok (.getfield 41, 3) ∧ decode cX5_copy 58 = .ok (.getfield 225, 3) ∧ decode cX5_copy 61 = .ok (.iload_n 1, 1) ∧ decode cX5_copy 62 = .ok (.iaload, 1) ∧ decode cX5_copy 63 = .ok (.aload_n 0, 1) ∧ decode cX5_copy 64 = .ok (.getfield 41, 3) ∧ decode cX5_copy 67 = .ok (.getfield 225, 3) := by decide +kernel
theorem dX5_copy_47 : decode cX5_copy 47 = .ok (.iconst (-1), 1) := zd02dec2_82.1
theorem dX5_copy_48 : decode cX5_copy 48 = .ok (.if_icmp .ne 6, 3) := zd02dec2_82.2.1
theorem dX5_copy_51 : decode cX5_copy 51 = .ok (.bipush (-11), 2) := zd02dec2_82.2.2.1
theorem dX5_copy_53 : decode cX5_copy 53 = .ok (.ireturn, 1) := zd02dec2_82.2.2.2.1
theorem dX5_copy_54 : decode cX5_copy 54 = .ok (.aload_n 0, 1) := zd02dec2_82.2.2.2.2.1
theorem dX5_copy_55 : decode cX5_copy 55 = .ok (.getfield 41, 3) := zd02dec2_82.2.2.2.2.2.1
theorem dX5_copy_58 : decode cX5_copy 58 = .ok (.getfield 225, 3) := zd02dec2_82.2.2.2.2.2.2.1
theorem dX5_copy_61 : decode cX5_copy 61 = .ok (.iload_n 1, 1) := zd02dec2_82.2.2.2.2.2.2.2.1
theorem dX5_copy_62 : decode cX5_copy 62 = .ok (.iaload, 1) := zd02dec2_82.2.2.2.2.2.2.2.2.1
theorem dX5_copy_63 : decode cX5_copy 63 = .ok (.aload_n 0, 1) := zd02dec2_82.2.2.2.2.2.2.2.2.2.1
theorem dX5_copy_64 : decode cX5_copy 64 = .ok (.getfield 41, 3) := zd02dec2_82.2.2.2.2.2.2.2.2.2.2.1
theorem dX5_copy_67 : decode cX5_copy 67 = .ok (.getfield 225, 3) := zd02dec2_82.2.2.2.2.2.2.2.2.2.2.2
theorem zd02dec2_83 : decode cX5_copy 70 = .ok (.iload_n 3, 1) ∧ decode cX5_copy 71 = .ok (.iaload, 1) ∧ decode cX5_copy 72 = .ok (.if_icmp .eq 6, 3) ∧ decode cX5_copy 75 = .ok (.bipush (-13), 2) ∧ decode cX5_copy 77 = .ok (.ireturn, 1) ∧ decode cX5_copy 78 = .ok (.aload_n 0, 1) ∧ decode cX5_copy 79 = .ok (.getfield 41, 3) ∧ decode cX5_copy 82 = .ok (.iload_n 1, 1) ∧ decode cX5_copy 83 = .ok (.iload_n 2, 1) ∧ decode cX5_copy 84 = .ok (.iload 5, 2) ∧ decode cX5_copy 86 = .ok (.invokevirtual 231, 3) ∧ decode cX5_copy 89 = .ok (.ifCond .eq 18, 3) := by decide +kernel
theorem dX5_copy_70 : decode cX5_copy 70 = .ok (.iload_n 3, 1) := zd02dec2_83.1
theorem dX5_copy_71 : decode cX5_copy 71 = .ok (.iaload, 1) := zd02dec2_83.2.1
theorem dX5_copy_72 : decode cX5_copy 72 = .ok (.if_icmp .eq 6, 3) := zd02dec2_83.2.2.1
theorem dX5_copy_75 : decode cX5_copy 75 = .ok (.bipush (-13), 2) := zd02dec2_83.2.2.2.1
theorem dX5_copy_77 : decode cX5_copy 77 = .ok (.ireturn, 1) := zd02dec2_83.2.2.2.2.1
theorem dX5_copy_78 : decode cX5_copy 78 = .ok (.aload_n 0, 1) := zd02dec2_83.2.2.2.2.2.1
theorem dX5_copy_79 : decode cX5_copy 79 = .ok (.getfield 41, 3) := zd02dec2_83.2.2.2.2.2.2.1
theorem dX5_copy_82 : decode cX5_copy 82 = .ok (.iload_n 1, 1) := zd02dec2_83.2.2.2.2.2.2.2.1
theorem dX5_copy_83 : decode cX5_copy 83 = .ok (.iload_n 2, 1) := zd02dec2_83.2.2.2.2.2.2.2.2.1
theorem dX5_copy_84 : decode cX5_copy 84 = .ok (.iload 5, 2) := zd02dec2_83.2.2.2.2.2.2.2.2.2.1
theorem dX5_copy_86 : decode cX5_copy 86 = .ok (.invokevirtual 231, 3) := zd02dec2_83.2.2.2.2.2.2.2.2.2.2.1
theorem dX5_copy_89 : decode cX5_copy 89 = .ok (.ifCond .eq 18, 3) := zd02dec2_83.2.2.2.2.2.2.2.2.2.2.2
theorem zd02dec2_84 : decode cX5_copy 92 = .ok (.aload_n 0, 1) ∧ decode cX5_copy 93 = .ok (.getfield 41, 3) ∧ decode cX5_copy 96 = .ok (.iload_n 3, 1) ∧ decode cX5_copy 97 = .ok (.iload 4, 2) ∧ decode cX5_copy 99 = .ok (.iload 5, 2) ∧ decode cX5_copy 101 = .ok (.invokevirtual 231, 3) ∧ decode cX5_copy 104 = .ok (.ifCond .ne 6, 3) ∧ decode cX5_copy 107 = .ok (.bipush (-12), 2) ∧ decode cX5_copy 109 = .ok (.ireturn, 1) ∧ decode cX5_copy 110 = .ok (.aload_n 0, 1) ∧ decode cX5_copy 111 = .ok (.getfield 41, 3) ∧ decode cX5_copy 114 = .ok (.getfield 235, 3) := by decide +kernel
theorem dX5_copy_92 : decode cX5_copy 92 = .ok (.aload_n 0, 1) := zd02dec2_84.1
theorem dX5_copy_93 : decode cX5_copy 93 = .ok (.getfield 41, 3) := zd02dec2_84.2.1
theorem dX5_copy_96 : decode cX5_copy 96 = .ok (.iload_n 3, 1) := zd02dec2_84.2.2.1
theorem dX5_copy_97 : decode cX5_copy 97 = .ok (.iload 4, 2) := zd02dec2_84.2.2.2.1
theorem dX5_copy_99 : decode cX5_copy 99 = .ok (.iload 5, 2) := zd02dec2_84.2.2.2.2.1
theorem dX5_copy_101 : decode cX5_copy 101 = .ok (.invokevirtual 231, 3) := zd02dec2_84.2.2.2.2.2.1
theorem dX5_copy_104 : decode cX5_copy 104 = .ok (.ifCond .ne 6, 3) := zd02dec2_84.2.2.2.2.2.2.1
theorem dX5_copy_107 : decode cX5_copy 107 = .ok (.bipush (-12), 2) := zd02dec2_84.2.2.2.2.2.2.2.1
theorem dX5_copy_109 : decode cX5_copy 109 = .ok (.ireturn, 1) := zd02dec2_84.2.2.2.2.2.2.2.2.1
theorem dX5_copy_110 : decode cX5_copy 110 = .ok (.aload_n 0, 1) := zd02dec2_84.2.2.2.2.2.2.2.2.2.1
theorem dX5_copy_111 : decode cX5_copy 111 = .ok (.getfield 41, 3) := zd02dec2_84.2.2.2.2.2.2.2.2.2.2.1
theorem dX5_copy_114 : decode cX5_copy 114 = .ok (.getfield 235, 3) := zd02dec2_84.2.2.2.2.2.2.2.2.2.2.2
theorem zd02dec2_85 : decode cX5_copy 117 = .ok (.iload_n 1, 1) ∧ decode cX5_copy 118 = .ok (.aaload, 1) ∧ decode cX5_copy 119 = .ok (.iload_n 2, 1) ∧ decode cX5_copy 120 = .ok (.aload_n 0, 1) ∧ decode cX5_copy 121 = .ok (.getfield 41, 3) ∧ decode cX5_copy 124 = .ok (.getfield 235, 3) ∧ decode cX5_copy 127 = .ok (.iload_n 3, 1) ∧ decode cX5_copy 128 = .ok (.aaload, 1) ∧ decode cX5_copy 129 = .ok (.iload 4, 2) ∧ decode cX5_copy 131 = .ok (.iload 5, 2) ∧ decode cX5_copy 133 = .ok (.invokestatic 239, 3) ∧ decode cX5_copy 136 = .ok (.iload 5, 2) := by decide +kernel
theorem dX5_copy_117 : decode cX5_copy 117 = .ok (.iload_n 1, 1) := zd02dec2_85.1
theorem dX5_copy_118 : decode cX5_copy 118 = .ok (.aaload, 1) := zd02dec2_85.2.1
theorem dX5_copy_119 : decode cX5_copy 119 = .ok (.iload_n 2, 1) := zd02dec2_85.2.2.1
theorem dX5_copy_120 : decode cX5_copy 120 = .ok (.aload_n 0, 1) := zd02dec2_85.2.2.2.1
theorem dX5_copy_121 : decode cX5_copy 121 = .ok (.getfield 41, 3) := zd02dec2_85.2.2.2.2.1
theorem dX5_copy_124 : decode cX5_copy 124 = .ok (.getfield 235, 3) := zd02dec2_85.2.2.2.2.2.1
theorem dX5_copy_127 : decode cX5_copy 127 = .ok (.iload_n 3, 1) := zd02dec2_85.2.2.2.2.2.2.1
theorem dX5_copy_128 : decode cX5_copy 128 = .ok (.aaload, 1) := zd02dec2_85.2.2.2.2.2.2.2.1
theorem dX5_copy_129 : decode cX5_copy 129 = .ok (.iload 4, 2) := zd02dec2_85.2.2.2.2.2.2.2.2.1
theorem dX5_copy_131 : decode cX5_copy 131 = .ok (.iload 5, 2) := zd02dec2_85.2.2.2.2.2.2.2.2.2.1
theorem dX5_copy_133 : decode cX5_copy 133 = .ok (.invokestatic 239, 3) := zd02dec2_85.2.2.2.2.2.2.2.2.2.2.1
theorem dX5_copy_136 : decode cX5_copy 136 = .ok (.iload 5, 2) := zd02dec2_85.2.2.2.2.2.2.2.2.2.2.2
theorem dX5_copy_138 : decode cX5_copy 138 = .ok (.ireturn, 1) := by decide +kernel
theorem zd02dec2_86 : decode cX5_pebblesBy 0 = .ok (.aload_n 0, 1) ∧ decode cX5_pebblesBy 1 = .ok (.getfield 41, 3) ∧ decode cX5_pebblesBy 4 = .ok (.iload_n 1, 1) ∧ decode cX5_pebblesBy 5 = .ok (.invokevirtual 196, 3) ∧ decode cX5_pebblesBy 8 = .ok (.ifCond .eq 21, 3) ∧ decode cX5_pebblesBy 11 = .ok (.iload_n 2, 1) ∧ decode cX5_pebblesBy 12 = .ok (.iconst 2, 1) ∧ decode cX5_pebblesBy 13 = .ok (.invokestatic 86, 3) ∧ decode cX5_pebblesBy 16 = .ok (.ifCond .eq 13, 3) ∧ decode cX5_pebblesBy 19 = .ok (.iload 4, 2) ∧ decode cX5_pebblesBy 21 = .ok (.bipush 6, 2) ∧ decode cX5_pebblesBy 23 = .ok (.invokestatic 86, 3) := by decide +kernel
theorem dX5_pebblesBy_0 : decode cX5_pebblesBy 0 = .ok (.aload_n 0, 1) := zd02dec2_86.1
theorem dX5_pebblesBy_1 : decode cX5_pebblesBy 1 = .ok (.getfield 41, 3) := zd02dec2_86.2.1
theorem dX5_pebblesBy_4 : decode cX5_pebblesBy 4 = .ok (.iload_n 1, 1) := zd02dec2_86.2.2.1
theorem dX5_pebblesBy_5 : decode cX5_pebblesBy 5 = .ok (.invokevirtual 196, 3) := zd02dec2_86.2.2.2.1
theorem dX5_pebblesBy_8 : decode cX5_pebblesBy 8 = .ok (.ifCond .eq 21, 3) := zd02dec2_86.2.2.2.2.1
theorem dX5_pebblesBy_11 : decode cX5_pebblesBy 11 = .ok (.iload_n 2, 1) := zd02dec2_86.2.2.2.2.2.1
theorem dX5_pebblesBy_12 : decode cX5_pebblesBy 12 = .ok (.iconst 2, 1) := zd02dec2_86.2.2.2.2.2.2.1
theorem dX5_pebblesBy_13 : decode cX5_pebblesBy 13 = .ok (.invokestatic 86, 3) := zd02dec2_86.2.2.2.2.2.2.2.1
theorem dX5_pebblesBy_16 : decode cX5_pebblesBy 16 = .ok (.ifCond .eq 13, 3) := zd02dec2_86.2.2.2.2.2.2.2.2.1
theorem dX5_pebblesBy_19 : decode cX5_pebblesBy 19 = .ok (.iload 4, 2) := zd02dec2_86.2.2.2.2.2.2.2.2.2.1
theorem dX5_pebblesBy_21 : decode cX5_pebblesBy 21 = .ok (.bipush 6, 2) := zd02dec2_86.2.2.2.2.2.2.2.2.2.2.1
theorem dX5_pebblesBy_23 : decode cX5_pebblesBy 23 = .ok (.invokestatic 86, 3) := zd02dec2_86.2.2.2.2.2.2.2.2.2.2.2
theorem zd02dec2_87 : decode cX5_pebblesBy 26 = .ok (.ifCond .ne 6, 3) ∧ decode cX5_pebblesBy 29 = .ok (.bipush (-2), 2) ∧ decode cX5_pebblesBy 31 = .ok (.ireturn, 1) ∧ decode cX5_pebblesBy 32 = .ok (.aload_n 0, 1) ∧ decode cX5_pebblesBy 33 = .ok (.getfield 41, 3) ∧ decode cX5_pebblesBy 36 = .ok (.getfield 225, 3) ∧ decode cX5_pebblesBy 39 = .ok (.iload_n 1, 1) ∧ decode cX5_pebblesBy 40 = .ok (.iaload, 1) ∧ decode cX5_pebblesBy 41 = .ok (.iconst (-1), 1) ∧ decode cX5_pebblesBy 42 = .ok (.if_icmp .ne 6, 3) ∧ decode cX5_pebblesBy 45 = .ok (.bipush (-11), 2) ∧ decode cX5_pebblesBy 47 = .ok (.ireturn, 1) := by decide +kernel
theorem dX5_pebblesBy_26 : decode cX5_pebblesBy 26 = .ok (.ifCond .ne 6, 3) := zd02dec2_87.1
theorem dX5_pebblesBy_29 : decode cX5_pebblesBy 29 = .ok (.bipush (-2), 2) := zd02dec2_87.2.1
theorem dX5_pebblesBy_31 : decode cX5_pebblesBy 31 = .ok (.ireturn, 1) := zd02dec2_87.2.2.1
theorem dX5_pebblesBy_32 : decode cX5_pebblesBy 32 = .ok (.aload_n 0, 1) := zd02dec2_87.2.2.2.1
theorem dX5_pebblesBy_33 : decode cX5_pebblesBy 33 = .ok (.getfield 41, 3) := zd02dec2_87.2.2.2.2.1
theorem dX5_pebblesBy_36 : decode cX5_pebblesBy 36 = .ok (.getfield 225, 3) := zd02dec2_87.2.2.2.2.2.1
theorem dX5_pebblesBy_39 : decode cX5_pebblesBy 39 = .ok (.iload_n 1, 1) := zd02dec2_87.2.2.2.2.2.2.1
theorem dX5_pebblesBy_40 : decode cX5_pebblesBy 40 = .ok (.iaload, 1) := zd02dec2_87.2.2.2.2.2.2.2.1
theorem dX5_pebblesBy_41 : decode cX5_pebblesBy 41 = .ok (.iconst (-1), 1) := zd02dec2_87.2.2.2.2.2.2.2.2.1
theorem dX5_pebblesBy_42 : decode cX5_pebblesBy 42 = .ok (.if_icmp .ne 6, 3) := zd02dec2_87.2.2.2.2.2.2.2.2.2.1
theorem dX5_pebblesBy_45 : decode cX5_pebblesBy 45 = .ok (.bipush (-11), 2) := zd02dec2_87.2.2.2.2.2.2.2.2.2.2.1
theorem dX5_pebblesBy_47 : decode cX5_pebblesBy 47 = .ok (.ireturn, 1) := zd02dec2_87.2.2.2.2.2.2.2.2.2.2.2
theorem zd02dec2_88 : decode cX5_pebblesBy 48 = .ok (.aload_n 0, 1) ∧ decode cX5_pebblesBy 49 = .ok (.getfield 41, 3) ∧ decode cX5_pebblesBy 52 = .ok (.getfield 225, 3) ∧ decode cX5_pebblesBy 55 = .ok (.iload_n 1, 1) ∧ decode cX5_pebblesBy 56 = .ok (.iaload, 1) ∧ decode cX5_pebblesBy 57 = .ok (.iload_n 2, 1) ∧ decode cX5_pebblesBy 58 = .ok (.if_icmp .eq 6, 3) ∧ decode cX5_pebblesBy 61 = .ok (.bipush (-13), 2) ∧ decode cX5_pebblesBy 63 = .ok (.ireturn, 1) ∧ decode cX5_pebblesBy 64 = .ok (.iconst 0, 1) ∧ decode cX5_pebblesBy 65 = .ok (.istore 5, 2) ∧ decode cX5_pebblesBy 67 = .ok (.iconst 0, 1) := by decide +kernel
theorem dX5_pebblesBy_48 : decode cX5_pebblesBy 48 = .ok (.aload_n 0, 1) := zd02dec2_88.1
theorem dX5_pebblesBy_49 : decode cX5_pebblesBy 49 = .ok (.getfield 41, 3) := zd02dec2_88.2.1
theorem dX5_pebblesBy_52 : decode cX5_pebblesBy 52 = .ok (.getfield 225, 3) := zd02dec2_88.2.2.1
theorem dX5_pebblesBy_55 : decode cX5_pebblesBy 55 = .ok (.iload_n 1, 1) := zd02dec2_88.2.2.2.1
theorem dX5_pebblesBy_56 : decode cX5_pebblesBy 56 = .ok (.iaload, 1) := zd02dec2_88.2.2.2.2.1
theorem dX5_pebblesBy_57 : decode cX5_pebblesBy 57 = .ok (.iload_n 2, 1) := zd02dec2_88.2.2.2.2.2.1
theorem dX5_pebblesBy_58 : decode cX5_pebblesBy 58 = .ok (.if_icmp .eq 6, 3) := zd02dec2_88.2.2.2.2.2.2.1
theorem dX5_pebblesBy_61 : decode cX5_pebblesBy 61 = .ok (.bipush (-13), 2) := zd02dec2_88.2.2.2.2.2.2.2.1
theorem dX5_pebblesBy_63 : decode cX5_pebblesBy 63 = .ok (.ireturn, 1) := zd02dec2_88.2.2.2.2.2.2.2.2.1
theorem dX5_pebblesBy_64 : decode cX5_pebblesBy 64 = .ok (.iconst 0, 1) := zd02dec2_88.2.2.2.2.2.2.2.2.2.1
theorem dX5_pebblesBy_65 : decode cX5_pebblesBy 65 = .ok (.istore 5, 2) := zd02dec2_88.2.2.2.2.2.2.2.2.2.2.1
theorem dX5_pebblesBy_67 : decode cX5_pebblesBy 67 = .ok (.iconst 0, 1) := zd02dec2_88.2.2.2.2.2.2.2.2.2.2.2
theorem zd02dec2_89 : decode cX5_pebblesBy 68 = .ok (.istore 6, 2) ∧ decode cX5_pebblesBy 70 = .ok (.iload 6, 2) ∧ decode cX5_pebblesBy 72 = .ok (.iload 4, 2) ∧ decode cX5_pebblesBy 74 = .ok (.if_icmp .ge 70, 3) ∧ decode cX5_pebblesBy 77 = .ok (.iload_n 3, 1) ∧ decode cX5_pebblesBy 78 = .ok (.iconst 2, 1) ∧ decode cX5_pebblesBy 79 = .ok (.iload 6, 2) ∧ decode cX5_pebblesBy 81 = .ok (.imul, 1) ∧ decode cX5_pebblesBy 82 = .ok (.iadd, 1) ∧ decode cX5_pebblesBy 83 = .ok (.istore 7, 2) ∧ decode cX5_pebblesBy 85 = .ok (.aload_n 0, 1) ∧ decode cX5_pebblesBy 86 = .ok (.getfield 41, 3) := by decide +kernel
theorem dX5_pebblesBy_68 : decode cX5_pebblesBy 68 = .ok (.istore 6, 2) := zd02dec2_89.1
theorem dX5_pebblesBy_70 : decode cX5_pebblesBy 70 = .ok (.iload 6, 2) := zd02dec2_89.2.1
theorem dX5_pebblesBy_72 : decode cX5_pebblesBy 72 = .ok (.iload 4, 2) := zd02dec2_89.2.2.1
theorem dX5_pebblesBy_74 : decode cX5_pebblesBy 74 = .ok (.if_icmp .ge 70, 3) := zd02dec2_89.2.2.2.1
theorem dX5_pebblesBy_77 : decode cX5_pebblesBy 77 = .ok (.iload_n 3, 1) := zd02dec2_89.2.2.2.2.1
theorem dX5_pebblesBy_78 : decode cX5_pebblesBy 78 = .ok (.iconst 2, 1) := zd02dec2_89.2.2.2.2.2.1
theorem dX5_pebblesBy_79 : decode cX5_pebblesBy 79 = .ok (.iload 6, 2) := zd02dec2_89.2.2.2.2.2.2.1
theorem dX5_pebblesBy_81 : decode cX5_pebblesBy 81 = .ok (.imul, 1) := zd02dec2_89.2.2.2.2.2.2.2.1
theorem dX5_pebblesBy_82 : decode cX5_pebblesBy 82 = .ok (.iadd, 1) := zd02dec2_89.2.2.2.2.2.2.2.2.1
theorem dX5_pebblesBy_83 : decode cX5_pebblesBy 83 = .ok (.istore 7, 2) := zd02dec2_89.2.2.2.2.2.2.2.2.2.1
theorem dX5_pebblesBy_85 : decode cX5_pebblesBy 85 = .ok (.aload_n 0, 1) := zd02dec2_89.2.2.2.2.2.2.2.2.2.2.1
theorem dX5_pebblesBy_86 : decode cX5_pebblesBy 86 = .ok (.getfield 41, 3) := zd02dec2_89.2.2.2.2.2.2.2.2.2.2.2
theorem zd02dec2_90 : decode cX5_pebblesBy 89 = .ok (.iload_n 1, 1) ∧ decode cX5_pebblesBy 90 = .ok (.iload 7, 2) ∧ decode cX5_pebblesBy 92 = .ok (.iconst 2, 1) ∧ decode cX5_pebblesBy 93 = .ok (.invokevirtual 231, 3) ∧ decode cX5_pebblesBy 96 = .ok (.ifCond .ne 6, 3) ∧ decode cX5_pebblesBy 99 = .ok (.bipush (-12), 2) ∧ decode cX5_pebblesBy 101 = .ok (.ireturn, 1) ∧ decode cX5_pebblesBy 102 = .ok (.aload_n 0, 1) ∧ decode cX5_pebblesBy 103 = .ok (.aload_n 0, 1) ∧ decode cX5_pebblesBy 104 = .ok (.getfield 41, 3) ∧ decode cX5_pebblesBy 107 = .ok (.getfield 235, 3) ∧ decode cX5_pebblesBy 110 = .ok (.iload_n 1, 1) := by decide +kernel
theorem dX5_pebblesBy_89 : decode cX5_pebblesBy 89 = .ok (.iload_n 1, 1) := zd02dec2_90.1
theorem dX5_pebblesBy_90 : decode cX5_pebblesBy 90 = .ok (.iload 7, 2) := zd02dec2_90.2.1
theorem dX5_pebblesBy_92 : decode cX5_pebblesBy 92 = .ok (.iconst 2, 1) := zd02dec2_90.2.2.1
theorem dX5_pebblesBy_93 : decode cX5_pebblesBy 93 = .ok (.invokevirtual 231, 3) := zd02dec2_90.2.2.2.1
theorem dX5_pebblesBy_96 : decode cX5_pebblesBy 96 = .ok (.ifCond .ne 6, 3) := zd02dec2_90.2.2.2.2.1
theorem dX5_pebblesBy_99 : decode cX5_pebblesBy 99 = .ok (.bipush (-12), 2) := zd02dec2_90.2.2.2.2.2.1
theorem dX5_pebblesBy_101 : decode cX5_pebblesBy 101 = .ok (.ireturn, 1) := zd02dec2_90.2.2.2.2.2.2.1
theorem dX5_pebblesBy_102 : decode cX5_pebblesBy 102 = .ok (.aload_n 0, 1) := zd02dec2_90.2.2.2.2.2.2.2.1
theorem dX5_pebblesBy_103 : decode cX5_pebblesBy 103 = .ok (.aload_n 0, 1) := zd02dec2_90.2.2.2.2.2.2.2.2.1
theorem dX5_pebblesBy_104 : decode cX5_pebblesBy 104 = .ok (.getfield 41, 3) := zd02dec2_90.2.2.2.2.2.2.2.2.2.1
theorem dX5_pebblesBy_107 : decode cX5_pebblesBy 107 = .ok (.getfield 235, 3) := zd02dec2_90.2.2.2.2.2.2.2.2.2.2.1
theorem dX5_pebblesBy_110 : decode cX5_pebblesBy 110 = .ok (.iload_n 1, 1) := zd02dec2_90.2.2.2.2.2.2.2.2.2.2.2
theorem zd02dec2_91 : decode cX5_pebblesBy 111 = .ok (.aaload, 1) ∧ decode cX5_pebblesBy 112 = .ok (.iload 7, 2) ∧ decode cX5_pebblesBy 114 = .ok (.iaload, 1) ∧ decode cX5_pebblesBy 115 = .ok (.aload_n 0, 1) ∧ decode cX5_pebblesBy 116 = .ok (.getfield 41, 3) ∧ decode cX5_pebblesBy 119 = .ok (.getfield 235, 3) ∧ decode cX5_pebblesBy 122 = .ok (.iload_n 1, 1) ∧ decode cX5_pebblesBy 123 = .ok (.aaload, 1) ∧ decode cX5_pebblesBy 124 = .ok (.iload 7, 2) ∧ decode cX5_pebblesBy 126 = .ok (.iconst 1, 1) ∧ decode cX5_pebblesBy 127 = .ok (.iadd, 1) ∧ decode cX5_pebblesBy 128 = .ok (.iaload, 1) := by decide +kernel
theorem dX5_pebblesBy_111 : decode cX5_pebblesBy 111 = .ok (.aaload, 1) := zd02dec2_91.1
theorem dX5_pebblesBy_112 : decode cX5_pebblesBy 112 = .ok (.iload 7, 2) := zd02dec2_91.2.1
theorem dX5_pebblesBy_114 : decode cX5_pebblesBy 114 = .ok (.iaload, 1) := zd02dec2_91.2.2.1
theorem dX5_pebblesBy_115 : decode cX5_pebblesBy 115 = .ok (.aload_n 0, 1) := zd02dec2_91.2.2.2.1
theorem dX5_pebblesBy_116 : decode cX5_pebblesBy 116 = .ok (.getfield 41, 3) := zd02dec2_91.2.2.2.2.1
theorem dX5_pebblesBy_119 : decode cX5_pebblesBy 119 = .ok (.getfield 235, 3) := zd02dec2_91.2.2.2.2.2.1
theorem dX5_pebblesBy_122 : decode cX5_pebblesBy 122 = .ok (.iload_n 1, 1) := zd02dec2_91.2.2.2.2.2.2.1
theorem dX5_pebblesBy_123 : decode cX5_pebblesBy 123 = .ok (.aaload, 1) := zd02dec2_91.2.2.2.2.2.2.2.1
theorem dX5_pebblesBy_124 : decode cX5_pebblesBy 124 = .ok (.iload 7, 2) := zd02dec2_91.2.2.2.2.2.2.2.2.1
theorem dX5_pebblesBy_126 : decode cX5_pebblesBy 126 = .ok (.iconst 1, 1) := zd02dec2_91.2.2.2.2.2.2.2.2.2.1
theorem dX5_pebblesBy_127 : decode cX5_pebblesBy 127 = .ok (.iadd, 1) := zd02dec2_91.2.2.2.2.2.2.2.2.2.2.1
theorem dX5_pebblesBy_128 : decode cX5_pebblesBy 128 = .ok (.iaload, 1) := zd02dec2_91.2.2.2.2.2.2.2.2.2.2.2
theorem zd02dec2_92 : decode cX5_pebblesBy 129 = .ok (.invokevirtual 245, 3) ∧ decode cX5_pebblesBy 132 = .ok (.ifCond .lt 6, 3) ∧ decode cX5_pebblesBy 135 = .ok (.iinc 5 1, 3) ∧ decode cX5_pebblesBy 138 = .ok (.iinc 6 1, 3) ∧ decode cX5_pebblesBy 141 = .ok (.goto (-71), 3) ∧ decode cX5_pebblesBy 144 = .ok (.iload 5, 2) ∧ decode cX5_pebblesBy 146 = .ok (.ireturn, 1) := by decide +kernel
theorem dX5_pebblesBy_129 : decode cX5_pebblesBy 129 = .ok (.invokevirtual 245, 3) := zd02dec2_92.1
theorem dX5_pebblesBy_132 : decode cX5_pebblesBy 132 = .ok (.ifCond .lt 6, 3) := zd02dec2_92.2.1
theorem dX5_pebblesBy_135 : decode cX5_pebblesBy 135 = .ok (.iinc 5 1, 3) := zd02dec2_92.2.2.1
theorem dX5_pebblesBy_138 : decode cX5_pebblesBy 138 = .ok (.iinc 6 1, 3) := zd02dec2_92.2.2.2.1
theorem dX5_pebblesBy_141 : decode cX5_pebblesBy 141 = .ok (.goto (-71), 3) := zd02dec2_92.2.2.2.2.1
theorem dX5_pebblesBy_144 : decode cX5_pebblesBy 144 = .ok (.iload 5, 2) := zd02dec2_92.2.2.2.2.2.1
theorem dX5_pebblesBy_146 : decode cX5_pebblesBy 146 = .ok (.ireturn, 1) := zd02dec2_92.2.2.2.2.2.2
theorem zd02dec2_93 : decode cX5_taken 0 = .ok (.iload_n 2, 1) ∧ decode cX5_taken 1 = .ok (.bipush 6, 2) ∧ decode cX5_taken 3 = .ok (.invokestatic 86, 3) ∧ decode cX5_taken 6 = .ok (.ifCond .ne 7, 3) ∧ decode cX5_taken 9 = .ok (.ldc2_w 248, 3) ∧ decode cX5_taken 12 = .ok (.lreturn, 1) ∧ decode cX5_taken 13 = .ok (.iload_n 1, 1) ∧ decode cX5_taken 14 = .ok (.bipush 9, 2) ∧ decode cX5_taken 16 = .ok (.invokestatic 86, 3) ∧ decode cX5_taken 19 = .ok (.ifCond .ne 7, 3) ∧ decode cX5_taken 22 = .ok (.ldc2_w 250, 3) ∧ decode cX5_taken 25 = .ok (.lreturn, 1) := by decide +kernel
theorem dX5_taken_0 : decode cX5_taken 0 = .ok (.iload_n 2, 1) := zd02dec2_93.1
theorem dX5_taken_1 : decode cX5_taken 1 = .ok (.bipush 6, 2) := zd02dec2_93.2.1
theorem dX5_taken_3 : decode cX5_taken 3 = .ok (.invokestatic 86, 3) := zd02dec2_93.2.2.1
theorem dX5_taken_6 : decode cX5_taken 6 = .ok (.ifCond .ne 7, 3) := zd02dec2_93.2.2.2.1
theorem dX5_taken_9 : decode cX5_taken 9 = .ok (.ldc2_w 248, 3) := zd02dec2_93.2.2.2.2.1
theorem dX5_taken_12 : decode cX5_taken 12 = .ok (.lreturn, 1) := zd02dec2_93.2.2.2.2.2.1
theorem dX5_taken_13 : decode cX5_taken 13 = .ok (.iload_n 1, 1) := zd02dec2_93.2.2.2.2.2.2.1
theorem dX5_taken_14 : decode cX5_taken 14 = .ok (.bipush 9, 2) := zd02dec2_93.2.2.2.2.2.2.2.1
theorem dX5_taken_16 : decode cX5_taken 16 = .ok (.invokestatic 86, 3) := zd02dec2_93.2.2.2.2.2.2.2.2.1
theorem dX5_taken_19 : decode cX5_taken 19 = .ok (.ifCond .ne 7, 3) := zd02dec2_93.2.2.2.2.2.2.2.2.2.1
theorem dX5_taken_22 : decode cX5_taken 22 = .ok (.ldc2_w 250, 3) := zd02dec2_93.2.2.2.2.2.2.2.2.2.2.1
theorem dX5_taken_25 : decode cX5_taken 25 = .ok (.lreturn, 1) := zd02dec2_93.2.2.2.2.2.2.2.2.2.2.2
theorem zd02dec2_94 : decode cX5_taken 26 = .ok (.iload_n 1, 1) ∧ decode cX5_taken 27 = .ok (.bipush 6, 2) ∧ decode cX5_taken 29 = .ok (.if_icmp .lt 46, 3) ∧ decode cX5_taken 32 = .ok (.iload_n 1, 1) ∧ decode cX5_taken 33 = .ok (.bipush 6, 2) ∧ decode cX5_taken 35 = .ok (.isub, 1) ∧ decode cX5_taken 36 = .ok (.istore_n 3, 1) ∧ decode cX5_taken 37 = .ok (.aload_n 0, 1) ∧ decode cX5_taken 38 = .ok (.getfield 28, 3) ∧ decode cX5_taken 41 = .ok (.iload_n 3, 1) ∧ decode cX5_taken 42 = .ok (.invokevirtual 94, 3) ∧ decode cX5_taken 45 = .ok (.ifCond .ne 7, 3) := by decide +kernel
theorem dX5_taken_26 : decode cX5_taken 26 = .ok (.iload_n 1, 1) := zd02dec2_94.1
theorem dX5_taken_27 : decode cX5_taken 27 = .ok (.bipush 6, 2) := zd02dec2_94.2.1
theorem dX5_taken_29 : decode cX5_taken 29 = .ok (.if_icmp .lt 46, 3) := zd02dec2_94.2.2.1
theorem dX5_taken_32 : decode cX5_taken 32 = .ok (.iload_n 1, 1) := zd02dec2_94.2.2.2.1
theorem dX5_taken_33 : decode cX5_taken 33 = .ok (.bipush 6, 2) := zd02dec2_94.2.2.2.2.1
theorem dX5_taken_35 : decode cX5_taken 35 = .ok (.isub, 1) := zd02dec2_94.2.2.2.2.2.1
theorem dX5_taken_36 : decode cX5_taken 36 = .ok (.istore_n 3, 1) := zd02dec2_94.2.2.2.2.2.2.1
theorem dX5_taken_37 : decode cX5_taken 37 = .ok (.aload_n 0, 1) := zd02dec2_94.2.2.2.2.2.2.2.1
theorem dX5_taken_38 : decode cX5_taken 38 = .ok (.getfield 28, 3) := zd02dec2_94.2.2.2.2.2.2.2.2.1
theorem dX5_taken_41 : decode cX5_taken 41 = .ok (.iload_n 3, 1) := zd02dec2_94.2.2.2.2.2.2.2.2.2.1
theorem dX5_taken_42 : decode cX5_taken 42 = .ok (.invokevirtual 94, 3) := zd02dec2_94.2.2.2.2.2.2.2.2.2.2.1
theorem dX5_taken_45 : decode cX5_taken 45 = .ok (.ifCond .ne 7, 3) := zd02dec2_94.2.2.2.2.2.2.2.2.2.2.2
theorem zd02dec2_95 : decode cX5_taken 48 = .ok (.ldc2_w 252, 3) ∧ decode cX5_taken 51 = .ok (.lreturn, 1) ∧ decode cX5_taken 52 = .ok (.iload_n 2, 1) ∧ decode cX5_taken 53 = .ok (.bipush 6, 2) ∧ decode cX5_taken 55 = .ok (.if_icmp .ne 16, 3) ∧ decode cX5_taken 58 = .ok (.aload_n 0, 1) ∧ decode cX5_taken 59 = .ok (.getfield 28, 3) ∧ decode cX5_taken 62 = .ok (.getfield 105, 3) ∧ decode cX5_taken 65 = .ok (.iload_n 3, 1) ∧ decode cX5_taken 66 = .ok (.iaload, 1) ∧ decode cX5_taken 67 = .ok (.i2l, 1) ∧ decode cX5_taken 68 = .ok (.goto 6, 3) := by decide +kernel
theorem dX5_taken_48 : decode cX5_taken 48 = .ok (.ldc2_w 252, 3) := zd02dec2_95.1
theorem dX5_taken_51 : decode cX5_taken 51 = .ok (.lreturn, 1) := zd02dec2_95.2.1
theorem dX5_taken_52 : decode cX5_taken 52 = .ok (.iload_n 2, 1) := zd02dec2_95.2.2.1
theorem dX5_taken_53 : decode cX5_taken 53 = .ok (.bipush 6, 2) := zd02dec2_95.2.2.2.1
theorem dX5_taken_55 : decode cX5_taken 55 = .ok (.if_icmp .ne 16, 3) := zd02dec2_95.2.2.2.2.1
theorem dX5_taken_58 : decode cX5_taken 58 = .ok (.aload_n 0, 1) := zd02dec2_95.2.2.2.2.2.1
theorem dX5_taken_59 : decode cX5_taken 59 = .ok (.getfield 28, 3) := zd02dec2_95.2.2.2.2.2.2.1
theorem dX5_taken_62 : decode cX5_taken 62 = .ok (.getfield 105, 3) := zd02dec2_95.2.2.2.2.2.2.2.1
theorem dX5_taken_65 : decode cX5_taken 65 = .ok (.iload_n 3, 1) := zd02dec2_95.2.2.2.2.2.2.2.2.1
theorem dX5_taken_66 : decode cX5_taken 66 = .ok (.iaload, 1) := zd02dec2_95.2.2.2.2.2.2.2.2.2.1
theorem dX5_taken_67 : decode cX5_taken 67 = .ok (.i2l, 1) := zd02dec2_95.2.2.2.2.2.2.2.2.2.2.1
theorem dX5_taken_68 : decode cX5_taken 68 = .ok (.goto 6, 3) := zd02dec2_95.2.2.2.2.2.2.2.2.2.2.2
theorem zd02dec2_96 : decode cX5_taken 71 = .ok (.ldc2_w 254, 3) ∧ decode cX5_taken 74 = .ok (.lreturn, 1) ∧ decode cX5_taken 75 = .ok (.aload_n 0, 1) ∧ decode cX5_taken 76 = .ok (.getfield 28, 3) ∧ decode cX5_taken 79 = .ok (.iload_n 1, 1) ∧ decode cX5_taken 80 = .ok (.invokevirtual 111, 3) ∧ decode cX5_taken 83 = .ok (.ifCond .ne 7, 3) ∧ decode cX5_taken 86 = .ok (.ldc2_w 252, 3) ∧ decode cX5_taken 89 = .ok (.lreturn, 1) ∧ decode cX5_taken 90 = .ok (.aload_n 0, 1) ∧ decode cX5_taken 91 = .ok (.getfield 28, 3) ∧ decode cX5_taken 94 = .ok (.getfield 128, 3) := by decide +kernel
theorem dX5_taken_71 : decode cX5_taken 71 = .ok (.ldc2_w 254, 3) := zd02dec2_96.1
theorem dX5_taken_74 : decode cX5_taken 74 = .ok (.lreturn, 1) := zd02dec2_96.2.1
theorem dX5_taken_75 : decode cX5_taken 75 = .ok (.aload_n 0, 1) := zd02dec2_96.2.2.1
theorem dX5_taken_76 : decode cX5_taken 76 = .ok (.getfield 28, 3) := zd02dec2_96.2.2.2.1
theorem dX5_taken_79 : decode cX5_taken 79 = .ok (.iload_n 1, 1) := zd02dec2_96.2.2.2.2.1
theorem dX5_taken_80 : decode cX5_taken 80 = .ok (.invokevirtual 111, 3) := zd02dec2_96.2.2.2.2.2.1
theorem dX5_taken_83 : decode cX5_taken 83 = .ok (.ifCond .ne 7, 3) := zd02dec2_96.2.2.2.2.2.2.1
theorem dX5_taken_86 : decode cX5_taken 86 = .ok (.ldc2_w 252, 3) := zd02dec2_96.2.2.2.2.2.2.2.1
theorem dX5_taken_89 : decode cX5_taken 89 = .ok (.lreturn, 1) := zd02dec2_96.2.2.2.2.2.2.2.2.1
theorem dX5_taken_90 : decode cX5_taken 90 = .ok (.aload_n 0, 1) := zd02dec2_96.2.2.2.2.2.2.2.2.2.1
theorem dX5_taken_91 : decode cX5_taken 91 = .ok (.getfield 28, 3) := zd02dec2_96.2.2.2.2.2.2.2.2.2.2.1
theorem dX5_taken_94 : decode cX5_taken 94 = .ok (.getfield 128, 3) := zd02dec2_96.2.2.2.2.2.2.2.2.2.2.2
theorem zd02dec2_97 : decode cX5_taken 97 = .ok (.iload_n 1, 1) ∧ decode cX5_taken 98 = .ok (.iaload, 1) ∧ decode cX5_taken 99 = .ok (.iload_n 2, 1) ∧ decode cX5_taken 100 = .ok (.invokestatic 256, 3) ∧ decode cX5_taken 103 = .ok (.ifCond .eq 8, 3) ∧ decode cX5_taken 106 = .ok (.iload_n 1, 1) ∧ decode cX5_taken 107 = .ok (.i2l, 1) ∧ decode cX5_taken 108 = .ok (.goto 6, 3) ∧ decode cX5_taken 111 = .ok (.ldc2_w 254, 3) ∧ decode cX5_taken 114 = .ok (.lreturn, 1) := by decide +kernel
theorem dX5_taken_97 : decode cX5_taken 97 = .ok (.iload_n 1, 1) := zd02dec2_97.1
theorem dX5_taken_98 : decode cX5_taken 98 = .ok (.iaload, 1) := zd02dec2_97.2.1
theorem dX5_taken_99 : decode cX5_taken 99 = .ok (.iload_n 2, 1) := zd02dec2_97.2.2.1
theorem dX5_taken_100 : decode cX5_taken 100 = .ok (.invokestatic 256, 3) := zd02dec2_97.2.2.2.1
theorem dX5_taken_103 : decode cX5_taken 103 = .ok (.ifCond .eq 8, 3) := zd02dec2_97.2.2.2.2.1
theorem dX5_taken_106 : decode cX5_taken 106 = .ok (.iload_n 1, 1) := zd02dec2_97.2.2.2.2.2.1
theorem dX5_taken_107 : decode cX5_taken 107 = .ok (.i2l, 1) := zd02dec2_97.2.2.2.2.2.2.1
theorem dX5_taken_108 : decode cX5_taken 108 = .ok (.goto 6, 3) := zd02dec2_97.2.2.2.2.2.2.2.1
theorem dX5_taken_111 : decode cX5_taken 111 = .ok (.ldc2_w 254, 3) := zd02dec2_97.2.2.2.2.2.2.2.2.1
theorem dX5_taken_114 : decode cX5_taken 114 = .ok (.lreturn, 1) := zd02dec2_97.2.2.2.2.2.2.2.2.2
theorem zd02dec2_98 : decode cX5_within 0 = .ok (.iload_n 0, 1) ∧ decode cX5_within 1 = .ok (.ifCond .lt 12, 3) ∧ decode cX5_within 4 = .ok (.iload_n 0, 1) ∧ decode cX5_within 5 = .ok (.iload_n 1, 1) ∧ decode cX5_within 6 = .ok (.if_icmp .gt 7, 3) ∧ decode cX5_within 9 = .ok (.iconst 1, 1) ∧ decode cX5_within 10 = .ok (.goto 4, 3) ∧ decode cX5_within 13 = .ok (.iconst 0, 1) ∧ decode cX5_within 14 = .ok (.ireturn, 1) := by decide +kernel
theorem dX5_within_0 : decode cX5_within 0 = .ok (.iload_n 0, 1) := zd02dec2_98.1
theorem dX5_within_1 : decode cX5_within 1 = .ok (.ifCond .lt 12, 3) := zd02dec2_98.2.1
theorem dX5_within_4 : decode cX5_within 4 = .ok (.iload_n 0, 1) := zd02dec2_98.2.2.1
theorem dX5_within_5 : decode cX5_within 5 = .ok (.iload_n 1, 1) := zd02dec2_98.2.2.2.1
theorem dX5_within_6 : decode cX5_within 6 = .ok (.if_icmp .gt 7, 3) := zd02dec2_98.2.2.2.2.1
theorem dX5_within_9 : decode cX5_within 9 = .ok (.iconst 1, 1) := zd02dec2_98.2.2.2.2.2.1
theorem dX5_within_10 : decode cX5_within 10 = .ok (.goto 4, 3) := zd02dec2_98.2.2.2.2.2.2.1
theorem dX5_within_13 : decode cX5_within 13 = .ok (.iconst 0, 1) := zd02dec2_98.2.2.2.2.2.2.2.1
theorem dX5_within_14 : decode cX5_within 14 = .ok (.ireturn, 1) := zd02dec2_98.2.2.2.2.2.2.2.2
theorem zd02dec2_99 : decode cX5_isByte 0 = .ok (.iload_n 0, 1) ∧ decode cX5_isByte 1 = .ok (.sipush 255, 3) ∧ decode cX5_isByte 4 = .ok (.invokestatic 86, 3) ∧ decode cX5_isByte 7 = .ok (.ireturn, 1) := by decide +kernel
theorem dX5_isByte_0 : decode cX5_isByte 0 = .ok (.iload_n 0, 1) := zd02dec2_99.1
theorem dX5_isByte_1 : decode cX5_isByte 1 = .ok (.sipush 255, 3) := zd02dec2_99.2.1
theorem dX5_isByte_4 : decode cX5_isByte 4 = .ok (.invokestatic 86, 3) := zd02dec2_99.2.2.1
theorem dX5_isByte_7 : decode cX5_isByte 7 = .ok (.ireturn, 1) := zd02dec2_99.2.2.2
theorem zd02dec2_100 : decode cX5_isPairOfBits 0 = .ok (.iload_n 0, 1) ∧ decode cX5_isPairOfBits 1 = .ok (.bipush 11, 2) ∧ decode cX5_isPairOfBits 3 = .ok (.invokestatic 86, 3) ∧ decode cX5_isPairOfBits 6 = .ok (.ifCond .eq 15, 3) ∧ decode cX5_isPairOfBits 9 = .ok (.iload_n 0, 1) ∧ decode cX5_isPairOfBits 10 = .ok (.bipush 10, 2) ∧ decode cX5_isPairOfBits 12 = .ok (.irem, 1) ∧ decode cX5_isPairOfBits 13 = .ok (.iconst 1, 1) ∧ decode cX5_isPairOfBits 14 = .ok (.if_icmp .gt 7, 3) ∧ decode cX5_isPairOfBits 17 = .ok (.iconst 1, 1) ∧ decode cX5_isPairOfBits 18 = .ok (.goto 4, 3) ∧ decode cX5_isPairOfBits 21 = .ok (.iconst 0, 1) := by decide +kernel
theorem dX5_isPairOfBits_0 : decode cX5_isPairOfBits 0 = .ok (.iload_n 0, 1) := zd02dec2_100.1
theorem dX5_isPairOfBits_1 : decode cX5_isPairOfBits 1 = .ok (.bipush 11, 2) := zd02dec2_100.2.1
theorem dX5_isPairOfBits_3 : decode cX5_isPairOfBits 3 = .ok (.invokestatic 86, 3) := zd02dec2_100.2.2.1
theorem dX5_isPairOfBits_6 : decode cX5_isPairOfBits 6 = .ok (.ifCond .eq 15, 3) := zd02dec2_100.2.2.2.1
theorem dX5_isPairOfBits_9 : decode cX5_isPairOfBits 9 = .ok (.iload_n 0, 1) := zd02dec2_100.2.2.2.2.1
theorem dX5_isPairOfBits_10 : decode cX5_isPairOfBits 10 = .ok (.bipush 10, 2) := zd02dec2_100.2.2.2.2.2.1
theorem dX5_isPairOfBits_12 : decode cX5_isPairOfBits 12 = .ok (.irem, 1) := zd02dec2_100.2.2.2.2.2.2.1
theorem dX5_isPairOfBits_13 : decode cX5_isPairOfBits 13 = .ok (.iconst 1, 1) := zd02dec2_100.2.2.2.2.2.2.2.1
theorem dX5_isPairOfBits_14 : decode cX5_isPairOfBits 14 = .ok (.if_icmp .gt 7, 3) := zd02dec2_100.2.2.2.2.2.2.2.2.1
theorem dX5_isPairOfBits_17 : decode cX5_isPairOfBits 17 = .ok (.iconst 1, 1) := zd02dec2_100.2.2.2.2.2.2.2.2.2.1
theorem dX5_isPairOfBits_18 : decode cX5_isPairOfBits 18 = .ok (.goto 4, 3) := zd02dec2_100.2.2.2.2.2.2.2.2.2.2.1
theorem dX5_isPairOfBits_21 : decode cX5_isPairOfBits 21 = .ok (.iconst 0, 1) := zd02dec2_100.2.2.2.2.2.2.2.2.2.2.2
theorem dX5_isPairOfBits_22 : decode cX5_isPairOfBits 22 = .ok (.ireturn, 1) := by decide +kernel
theorem zd02dec2_101 : decode cX5_isMoreMiles 0 = .ok (.iload_n 0, 1) ∧ decode cX5_isMoreMiles 1 = .ok (.sipush 960, 3) ∧ decode cX5_isMoreMiles 4 = .ok (.invokestatic 86, 3) ∧ decode cX5_isMoreMiles 7 = .ok (.ifCond .eq 16, 3) ∧ decode cX5_isMoreMiles 10 = .ok (.iload_n 0, 1) ∧ decode cX5_isMoreMiles 11 = .ok (.bipush 100, 2) ∧ decode cX5_isMoreMiles 13 = .ok (.irem, 1) ∧ decode cX5_isMoreMiles 14 = .ok (.bipush 60, 2) ∧ decode cX5_isMoreMiles 16 = .ok (.if_icmp .gt 7, 3) ∧ decode cX5_isMoreMiles 19 = .ok (.iconst 1, 1) ∧ decode cX5_isMoreMiles 20 = .ok (.goto 4, 3) ∧ decode cX5_isMoreMiles 23 = .ok (.iconst 0, 1) := by decide +kernel
theorem dX5_isMoreMiles_0 : decode cX5_isMoreMiles 0 = .ok (.iload_n 0, 1) := zd02dec2_101.1
theorem dX5_isMoreMiles_1 : decode cX5_isMoreMiles 1 = .ok (.sipush 960, 3) := zd02dec2_101.2.1
theorem dX5_isMoreMiles_4 : decode cX5_isMoreMiles 4 = .ok (.invokestatic 86, 3) := zd02dec2_101.2.2.1
theorem dX5_isMoreMiles_7 : decode cX5_isMoreMiles 7 = .ok (.ifCond .eq 16, 3) := zd02dec2_101.2.2.2.1
theorem dX5_isMoreMiles_10 : decode cX5_isMoreMiles 10 = .ok (.iload_n 0, 1) := zd02dec2_101.2.2.2.2.1
theorem dX5_isMoreMiles_11 : decode cX5_isMoreMiles 11 = .ok (.bipush 100, 2) := zd02dec2_101.2.2.2.2.2.1
theorem dX5_isMoreMiles_13 : decode cX5_isMoreMiles 13 = .ok (.irem, 1) := zd02dec2_101.2.2.2.2.2.2.1
theorem dX5_isMoreMiles_14 : decode cX5_isMoreMiles 14 = .ok (.bipush 60, 2) := zd02dec2_101.2.2.2.2.2.2.2.1
theorem dX5_isMoreMiles_16 : decode cX5_isMoreMiles 16 = .ok (.if_icmp .gt 7, 3) := zd02dec2_101.2.2.2.2.2.2.2.2.1
theorem dX5_isMoreMiles_19 : decode cX5_isMoreMiles 19 = .ok (.iconst 1, 1) := zd02dec2_101.2.2.2.2.2.2.2.2.2.1
theorem dX5_isMoreMiles_20 : decode cX5_isMoreMiles 20 = .ok (.goto 4, 3) := zd02dec2_101.2.2.2.2.2.2.2.2.2.2.1
theorem dX5_isMoreMiles_23 : decode cX5_isMoreMiles 23 = .ok (.iconst 0, 1) := zd02dec2_101.2.2.2.2.2.2.2.2.2.2.2
theorem dX5_isMoreMiles_24 : decode cX5_isMoreMiles 24 = .ok (.ireturn, 1) := by decide +kernel
theorem zd02dec2_102 : decode cX5_isOfKind 0 = .ok (.iload_n 0, 1) ∧ decode cX5_isOfKind 1 = .ok (.iload_n 1, 1) ∧ decode cX5_isOfKind 2 = .ok (.if_icmp .eq 27, 3) ∧ decode cX5_isOfKind 5 = .ok (.iload_n 1, 1) ∧ decode cX5_isOfKind 6 = .ok (.ifCond .eq 23, 3) ∧ decode cX5_isOfKind 9 = .ok (.iload_n 0, 1) ∧ decode cX5_isOfKind 10 = .ok (.iconst 3, 1) ∧ decode cX5_isOfKind 11 = .ok (.if_icmp .ne 8, 3) ∧ decode cX5_isOfKind 14 = .ok (.iload_n 1, 1) ∧ decode cX5_isOfKind 15 = .ok (.iconst 1, 1) ∧ decode cX5_isOfKind 16 = .ok (.if_icmp .eq 13, 3) ∧ decode cX5_isOfKind 19 = .ok (.iload_n 0, 1) := by decide +kernel
theorem dX5_isOfKind_0 : decode cX5_isOfKind 0 = .ok (.iload_n 0, 1) := zd02dec2_102.1
theorem dX5_isOfKind_1 : decode cX5_isOfKind 1 = .ok (.iload_n 1, 1) := zd02dec2_102.2.1
theorem dX5_isOfKind_2 : decode cX5_isOfKind 2 = .ok (.if_icmp .eq 27, 3) := zd02dec2_102.2.2.1
theorem dX5_isOfKind_5 : decode cX5_isOfKind 5 = .ok (.iload_n 1, 1) := zd02dec2_102.2.2.2.1
theorem dX5_isOfKind_6 : decode cX5_isOfKind 6 = .ok (.ifCond .eq 23, 3) := zd02dec2_102.2.2.2.2.1
theorem dX5_isOfKind_9 : decode cX5_isOfKind 9 = .ok (.iload_n 0, 1) := zd02dec2_102.2.2.2.2.2.1
theorem dX5_isOfKind_10 : decode cX5_isOfKind 10 = .ok (.iconst 3, 1) := zd02dec2_102.2.2.2.2.2.2.1
theorem dX5_isOfKind_11 : decode cX5_isOfKind 11 = .ok (.if_icmp .ne 8, 3) := zd02dec2_102.2.2.2.2.2.2.2.1
theorem dX5_isOfKind_14 : decode cX5_isOfKind 14 = .ok (.iload_n 1, 1) := zd02dec2_102.2.2.2.2.2.2.2.2.1
theorem dX5_isOfKind_15 : decode cX5_isOfKind 15 = .ok (.iconst 1, 1) := zd02dec2_102.2.2.2.2.2.2.2.2.2.1
theorem dX5_isOfKind_16 : decode cX5_isOfKind 16 = .ok (.if_icmp .eq 13, 3) := zd02dec2_102.2.2.2.2.2.2.2.2.2.2.1
theorem dX5_isOfKind_19 : decode cX5_isOfKind 19 = .ok (.iload_n 0, 1) := zd02dec2_102.2.2.2.2.2.2.2.2.2.2.2
theorem zd02dec2_103 : decode cX5_isOfKind 20 = .ok (.iconst 4, 1) ∧ decode cX5_isOfKind 21 = .ok (.if_icmp .ne 12, 3) ∧ decode cX5_isOfKind 24 = .ok (.iload_n 1, 1) ∧ decode cX5_isOfKind 25 = .ok (.iconst 2, 1) ∧ decode cX5_isOfKind 26 = .ok (.if_icmp .ne 7, 3) ∧ decode cX5_isOfKind 29 = .ok (.iconst 1, 1) ∧ decode cX5_isOfKind 30 = .ok (.goto 4, 3) ∧ decode cX5_isOfKind 33 = .ok (.iconst 0, 1) ∧ decode cX5_isOfKind 34 = .ok (.ireturn, 1) := by decide +kernel
theorem dX5_isOfKind_20 : decode cX5_isOfKind 20 = .ok (.iconst 4, 1) := zd02dec2_103.1
theorem dX5_isOfKind_21 : decode cX5_isOfKind 21 = .ok (.if_icmp .ne 12, 3) := zd02dec2_103.2.1
theorem dX5_isOfKind_24 : decode cX5_isOfKind 24 = .ok (.iload_n 1, 1) := zd02dec2_103.2.2.1
theorem dX5_isOfKind_25 : decode cX5_isOfKind 25 = .ok (.iconst 2, 1) := zd02dec2_103.2.2.2.1
theorem dX5_isOfKind_26 : decode cX5_isOfKind 26 = .ok (.if_icmp .ne 7, 3) := zd02dec2_103.2.2.2.2.1
theorem dX5_isOfKind_29 : decode cX5_isOfKind 29 = .ok (.iconst 1, 1) := zd02dec2_103.2.2.2.2.2.1
theorem dX5_isOfKind_30 : decode cX5_isOfKind 30 = .ok (.goto 4, 3) := zd02dec2_103.2.2.2.2.2.2.1
theorem dX5_isOfKind_33 : decode cX5_isOfKind 33 = .ok (.iconst 0, 1) := zd02dec2_103.2.2.2.2.2.2.2.1
theorem dX5_isOfKind_34 : decode cX5_isOfKind 34 = .ok (.ireturn, 1) := zd02dec2_103.2.2.2.2.2.2.2.2
theorem zd02dec2_104 : decode cX5_commonDivisor 0 = .ok (.iload_n 0, 1) ∧ decode cX5_commonDivisor 1 = .ok (.istore_n 2, 1) ∧ decode cX5_commonDivisor 2 = .ok (.iload_n 1, 1) ∧ decode cX5_commonDivisor 3 = .ok (.istore_n 3, 1) ∧ decode cX5_commonDivisor 4 = .ok (.iconst 0, 1) ∧ decode cX5_commonDivisor 5 = .ok (.istore 4, 2) ∧ decode cX5_commonDivisor 7 = .ok (.iload 4, 2) ∧ decode cX5_commonDivisor 9 = .ok (.bipush 64, 2) ∧ decode cX5_commonDivisor 11 = .ok (.if_icmp .ge 23, 3) ∧ decode cX5_commonDivisor 14 = .ok (.iload_n 3, 1) ∧ decode cX5_commonDivisor 15 = .ok (.ifCond .eq 19, 3) ∧ decode cX5_commonDivisor 18 = .ok (.iload_n 2, 1) := by decide +kernel
theorem dX5_commonDivisor_0 : decode cX5_commonDivisor 0 = .ok (.iload_n 0, 1) := zd02dec2_104.1
theorem dX5_commonDivisor_1 : decode cX5_commonDivisor 1 = .ok (.istore_n 2, 1) := zd02dec2_104.2.1
theorem dX5_commonDivisor_2 : decode cX5_commonDivisor 2 = .ok (.iload_n 1, 1) := zd02dec2_104.2.2.1
theorem dX5_commonDivisor_3 : decode cX5_commonDivisor 3 = .ok (.istore_n 3, 1) := zd02dec2_104.2.2.2.1
theorem dX5_commonDivisor_4 : decode cX5_commonDivisor 4 = .ok (.iconst 0, 1) := zd02dec2_104.2.2.2.2.1
theorem dX5_commonDivisor_5 : decode cX5_commonDivisor 5 = .ok (.istore 4, 2) := zd02dec2_104.2.2.2.2.2.1
theorem dX5_commonDivisor_7 : decode cX5_commonDivisor 7 = .ok (.iload 4, 2) := zd02dec2_104.2.2.2.2.2.2.1
theorem dX5_commonDivisor_9 : decode cX5_commonDivisor 9 = .ok (.bipush 64, 2) := zd02dec2_104.2.2.2.2.2.2.2.1
theorem dX5_commonDivisor_11 : decode cX5_commonDivisor 11 = .ok (.if_icmp .ge 23, 3) := zd02dec2_104.2.2.2.2.2.2.2.2.1
theorem dX5_commonDivisor_14 : decode cX5_commonDivisor 14 = .ok (.iload_n 3, 1) := zd02dec2_104.2.2.2.2.2.2.2.2.2.1
theorem dX5_commonDivisor_15 : decode cX5_commonDivisor 15 = .ok (.ifCond .eq 19, 3) := zd02dec2_104.2.2.2.2.2.2.2.2.2.2.1
theorem dX5_commonDivisor_18 : decode cX5_commonDivisor 18 = .ok (.iload_n 2, 1) := zd02dec2_104.2.2.2.2.2.2.2.2.2.2.2
theorem zd02dec2_105 : decode cX5_commonDivisor 19 = .ok (.iload_n 3, 1) ∧ decode cX5_commonDivisor 20 = .ok (.irem, 1) ∧ decode cX5_commonDivisor 21 = .ok (.istore 5, 2) ∧ decode cX5_commonDivisor 23 = .ok (.iload_n 3, 1) ∧ decode cX5_commonDivisor 24 = .ok (.istore_n 2, 1) ∧ decode cX5_commonDivisor 25 = .ok (.iload 5, 2) ∧ decode cX5_commonDivisor 27 = .ok (.istore_n 3, 1) ∧ decode cX5_commonDivisor 28 = .ok (.iinc 4 1, 3) ∧ decode cX5_commonDivisor 31 = .ok (.goto (-24), 3) ∧ decode cX5_commonDivisor 34 = .ok (.iconst 1, 1) ∧ decode cX5_commonDivisor 35 = .ok (.iload_n 2, 1) ∧ decode cX5_commonDivisor 36 = .ok (.invokestatic 259, 3) := by decide +kernel
theorem dX5_commonDivisor_19 : decode cX5_commonDivisor 19 = .ok (.iload_n 3, 1) := zd02dec2_105.1
theorem dX5_commonDivisor_20 : decode cX5_commonDivisor 20 = .ok (.irem, 1) := zd02dec2_105.2.1
theorem dX5_commonDivisor_21 : decode cX5_commonDivisor 21 = .ok (.istore 5, 2) := zd02dec2_105.2.2.1
theorem dX5_commonDivisor_23 : decode cX5_commonDivisor 23 = .ok (.iload_n 3, 1) := zd02dec2_105.2.2.2.1
theorem dX5_commonDivisor_24 : decode cX5_commonDivisor 24 = .ok (.istore_n 2, 1) := zd02dec2_105.2.2.2.2.1
theorem dX5_commonDivisor_25 : decode cX5_commonDivisor 25 = .ok (.iload 5, 2) := zd02dec2_105.2.2.2.2.2.1
theorem dX5_commonDivisor_27 : decode cX5_commonDivisor 27 = .ok (.istore_n 3, 1) := zd02dec2_105.2.2.2.2.2.2.1
theorem dX5_commonDivisor_28 : decode cX5_commonDivisor 28 = .ok (.iinc 4 1, 3) := zd02dec2_105.2.2.2.2.2.2.2.1
theorem dX5_commonDivisor_31 : decode cX5_commonDivisor 31 = .ok (.goto (-24), 3) := zd02dec2_105.2.2.2.2.2.2.2.2.1
theorem dX5_commonDivisor_34 : decode cX5_commonDivisor 34 = .ok (.iconst 1, 1) := zd02dec2_105.2.2.2.2.2.2.2.2.2.1
theorem dX5_commonDivisor_35 : decode cX5_commonDivisor 35 = .ok (.iload_n 2, 1) := zd02dec2_105.2.2.2.2.2.2.2.2.2.2.1
theorem dX5_commonDivisor_36 : decode cX5_commonDivisor 36 = .ok (.invokestatic 259, 3) := zd02dec2_105.2.2.2.2.2.2.2.2.2.2.2
theorem dX5_commonDivisor_39 : decode cX5_commonDivisor 39 = .ok (.ireturn, 1) := by decide +kernel
theorem zd02dec2_106 : decode cX5_leastBit 0 = .ok (.iconst 0, 1) ∧ decode cX5_leastBit 1 = .ok (.istore_n 2, 1) ∧ decode cX5_leastBit 2 = .ok (.iload_n 2, 1) ∧ decode cX5_leastBit 3 = .ok (.bipush 60, 2) ∧ decode cX5_leastBit 5 = .ok (.if_icmp .gt 21, 3) ∧ decode cX5_leastBit 8 = .ok (.lload_n 0, 1) ∧ decode cX5_leastBit 9 = .ok (.iload_n 2, 1) ∧ decode cX5_leastBit 10 = .ok (.lshr, 1) ∧ decode cX5_leastBit 11 = .ok (.lconst 1, 1) ∧ decode cX5_leastBit 12 = .ok (.land, 1) ∧ decode cX5_leastBit 13 = .ok (.lconst 1, 1) ∧ decode cX5_leastBit 14 = .ok (.lcmp, 1) := by decide +kernel
theorem dX5_leastBit_0 : decode cX5_leastBit 0 = .ok (.iconst 0, 1) := zd02dec2_106.1
theorem dX5_leastBit_1 : decode cX5_leastBit 1 = .ok (.istore_n 2, 1) := zd02dec2_106.2.1
theorem dX5_leastBit_2 : decode cX5_leastBit 2 = .ok (.iload_n 2, 1) := zd02dec2_106.2.2.1
theorem dX5_leastBit_3 : decode cX5_leastBit 3 = .ok (.bipush 60, 2) := zd02dec2_106.2.2.2.1
theorem dX5_leastBit_5 : decode cX5_leastBit 5 = .ok (.if_icmp .gt 21, 3) := zd02dec2_106.2.2.2.2.1
theorem dX5_leastBit_8 : decode cX5_leastBit 8 = .ok (.lload_n 0, 1) := zd02dec2_106.2.2.2.2.2.1
theorem dX5_leastBit_9 : decode cX5_leastBit 9 = .ok (.iload_n 2, 1) := zd02dec2_106.2.2.2.2.2.2.1
theorem dX5_leastBit_10 : decode cX5_leastBit 10 = .ok (.lshr, 1) := zd02dec2_106.2.2.2.2.2.2.2.1
theorem dX5_leastBit_11 : decode cX5_leastBit 11 = .ok (.lconst 1, 1) := zd02dec2_106.2.2.2.2.2.2.2.2.1
theorem dX5_leastBit_12 : decode cX5_leastBit 12 = .ok (.land, 1) := zd02dec2_106.2.2.2.2.2.2.2.2.2.1
theorem dX5_leastBit_13 : decode cX5_leastBit 13 = .ok (.lconst 1, 1) := zd02dec2_106.2.2.2.2.2.2.2.2.2.2.1
theorem dX5_leastBit_14 : decode cX5_leastBit 14 = .ok (.lcmp, 1) := zd02dec2_106.2.2.2.2.2.2.2.2.2.2.2
theorem zd02dec2_107 : decode cX5_leastBit 15 = .ok (.ifCond .ne 5, 3) ∧ decode cX5_leastBit 18 = .ok (.iload_n 2, 1) ∧ decode cX5_leastBit 19 = .ok (.ireturn, 1) ∧ decode cX5_leastBit 20 = .ok (.iinc 2 1, 3) ∧ decode cX5_leastBit 23 = .ok (.goto (-21), 3) ∧ decode cX5_leastBit 26 = .ok (.iconst (-1), 1) ∧ decode cX5_leastBit 27 = .ok (.ireturn, 1) := by decide +kernel
theorem dX5_leastBit_15 : decode cX5_leastBit 15 = .ok (.ifCond .ne 5, 3) := zd02dec2_107.1
theorem dX5_leastBit_18 : decode cX5_leastBit 18 = .ok (.iload_n 2, 1) := zd02dec2_107.2.1
theorem dX5_leastBit_19 : decode cX5_leastBit 19 = .ok (.ireturn, 1) := zd02dec2_107.2.2.1
theorem dX5_leastBit_20 : decode cX5_leastBit 20 = .ok (.iinc 2 1, 3) := zd02dec2_107.2.2.2.1
theorem dX5_leastBit_23 : decode cX5_leastBit 23 = .ok (.goto (-21), 3) := zd02dec2_107.2.2.2.2.1
theorem dX5_leastBit_26 : decode cX5_leastBit 26 = .ok (.iconst (-1), 1) := zd02dec2_107.2.2.2.2.2.1
theorem dX5_leastBit_27 : decode cX5_leastBit 27 = .ok (.ireturn, 1) := zd02dec2_107.2.2.2.2.2.2
theorem zd02dec2_108 : decode cX5_think 0 = .ok (.aload_n 0, 1) ∧ decode cX5_think 1 = .ok (.getfield 32, 3) ∧ decode cX5_think 4 = .ok (.aload_n 0, 1) ∧ decode cX5_think 5 = .ok (.getfield 28, 3) ∧ decode cX5_think 8 = .ok (.invokevirtual 218, 3) ∧ decode cX5_think 11 = .ok (.return_, 1) := by decide +kernel
theorem dX5_think_0 : decode cX5_think 0 = .ok (.aload_n 0, 1) := zd02dec2_108.1
theorem dX5_think_1 : decode cX5_think 1 = .ok (.getfield 32, 3) := zd02dec2_108.2.1
theorem dX5_think_4 : decode cX5_think 4 = .ok (.aload_n 0, 1) := zd02dec2_108.2.2.1
theorem dX5_think_5 : decode cX5_think 5 = .ok (.getfield 28, 3) := zd02dec2_108.2.2.2.1
theorem dX5_think_8 : decode cX5_think 8 = .ok (.invokevirtual 218, 3) := zd02dec2_108.2.2.2.2.1
theorem dX5_think_11 : decode cX5_think 11 = .ok (.return_, 1) := zd02dec2_108.2.2.2.2.2
theorem zd02dec2_109 : decode cX5_outcome 0 = .ok (.iload 4, 2) ∧ decode cX5_outcome 2 = .ok (.lookupswitch 38 #[(0, 26), (1, 28)], 26) ∧ decode cX5_outcome 28 = .ok (.iload_n 3, 1) ∧ decode cX5_outcome 29 = .ok (.ireturn, 1) ∧ decode cX5_outcome 30 = .ok (.aload_n 0, 1) ∧ decode cX5_outcome 31 = .ok (.getfield 32, 3) ∧ decode cX5_outcome 34 = .ok (.getfield 122, 3) ∧ decode cX5_outcome 37 = .ok (.iload_n 2, 1) ∧ decode cX5_outcome 38 = .ok (.iaload, 1) ∧ decode cX5_outcome 39 = .ok (.ireturn, 1) ∧ decode cX5_outcome 40 = .ok (.aload_n 0, 1) ∧ decode cX5_outcome 41 = .ok (.getfield 32, 3) := by decide +kernel
theorem dX5_outcome_0 : decode cX5_outcome 0 = .ok (.iload 4, 2) := zd02dec2_109.1
theorem dX5_outcome_2 : decode cX5_outcome 2 = .ok (.lookupswitch 38 #[(0, 26), (1, 28)], 26) := zd02dec2_109.2.1
theorem dX5_outcome_28 : decode cX5_outcome 28 = .ok (.iload_n 3, 1) := zd02dec2_109.2.2.1
theorem dX5_outcome_29 : decode cX5_outcome 29 = .ok (.ireturn, 1) := zd02dec2_109.2.2.2.1
theorem dX5_outcome_30 : decode cX5_outcome 30 = .ok (.aload_n 0, 1) := zd02dec2_109.2.2.2.2.1
theorem dX5_outcome_31 : decode cX5_outcome 31 = .ok (.getfield 32, 3) := zd02dec2_109.2.2.2.2.2.1
theorem dX5_outcome_34 : decode cX5_outcome 34 = .ok (.getfield 122, 3) := zd02dec2_109.2.2.2.2.2.2.1
theorem dX5_outcome_37 : decode cX5_outcome 37 = .ok (.iload_n 2, 1) := zd02dec2_109.2.2.2.2.2.2.2.1
theorem dX5_outcome_38 : decode cX5_outcome 38 = .ok (.iaload, 1) := zd02dec2_109.2.2.2.2.2.2.2.2.1
theorem dX5_outcome_39 : decode cX5_outcome 39 = .ok (.ireturn, 1) := zd02dec2_109.2.2.2.2.2.2.2.2.2.1
theorem dX5_outcome_40 : decode cX5_outcome 40 = .ok (.aload_n 0, 1) := zd02dec2_109.2.2.2.2.2.2.2.2.2.2.1
theorem dX5_outcome_41 : decode cX5_outcome 41 = .ok (.getfield 32, 3) := zd02dec2_109.2.2.2.2.2.2.2.2.2.2.2
theorem zd02dec2_110 : decode cX5_outcome 44 = .ok (.iload_n 1, 1) ∧ decode cX5_outcome 45 = .ok (.iload_n 2, 1) ∧ decode cX5_outcome 46 = .ok (.iload_n 3, 1) ∧ decode cX5_outcome 47 = .ok (.invokevirtual 164, 3) ∧ decode cX5_outcome 50 = .ok (.ireturn, 1) := by decide +kernel
theorem dX5_outcome_44 : decode cX5_outcome 44 = .ok (.iload_n 1, 1) := zd02dec2_110.1
theorem dX5_outcome_45 : decode cX5_outcome 45 = .ok (.iload_n 2, 1) := zd02dec2_110.2.1
theorem dX5_outcome_46 : decode cX5_outcome 46 = .ok (.iload_n 3, 1) := zd02dec2_110.2.2.1
theorem dX5_outcome_47 : decode cX5_outcome 47 = .ok (.invokevirtual 164, 3) := zd02dec2_110.2.2.2.1
theorem dX5_outcome_50 : decode cX5_outcome 50 = .ok (.ireturn, 1) := zd02dec2_110.2.2.2.2
theorem zd02dec2_111 : decode cX5_guiltyBits 0 = .ok (.aload_n 0, 1) ∧ decode cX5_guiltyBits 1 = .ok (.invokevirtual 143, 3) ∧ decode cX5_guiltyBits 4 = .ok (.lconst 0, 1) ∧ decode cX5_guiltyBits 5 = .ok (.lstore_n 3, 1) ∧ decode cX5_guiltyBits 6 = .ok (.iconst 0, 1) ∧ decode cX5_guiltyBits 7 = .ok (.istore 5, 2) ∧ decode cX5_guiltyBits 9 = .ok (.iconst 0, 1) ∧ decode cX5_guiltyBits 10 = .ok (.istore 6, 2) ∧ decode cX5_guiltyBits 12 = .ok (.iload 6, 2) ∧ decode cX5_guiltyBits 14 = .ok (.bipush 60, 2) ∧ decode cX5_guiltyBits 16 = .ok (.if_icmp .gt 42, 3) ∧ decode cX5_guiltyBits 19 = .ok (.lload_n 3, 1) := by decide +kernel
theorem dX5_guiltyBits_0 : decode cX5_guiltyBits 0 = .ok (.aload_n 0, 1) := zd02dec2_111.1
theorem dX5_guiltyBits_1 : decode cX5_guiltyBits 1 = .ok (.invokevirtual 143, 3) := zd02dec2_111.2.1
theorem dX5_guiltyBits_4 : decode cX5_guiltyBits 4 = .ok (.lconst 0, 1) := zd02dec2_111.2.2.1
theorem dX5_guiltyBits_5 : decode cX5_guiltyBits 5 = .ok (.lstore_n 3, 1) := zd02dec2_111.2.2.2.1
theorem dX5_guiltyBits_6 : decode cX5_guiltyBits 6 = .ok (.iconst 0, 1) := zd02dec2_111.2.2.2.2.1
theorem dX5_guiltyBits_7 : decode cX5_guiltyBits 7 = .ok (.istore 5, 2) := zd02dec2_111.2.2.2.2.2.1
theorem dX5_guiltyBits_9 : decode cX5_guiltyBits 9 = .ok (.iconst 0, 1) := zd02dec2_111.2.2.2.2.2.2.1
theorem dX5_guiltyBits_10 : decode cX5_guiltyBits 10 = .ok (.istore 6, 2) := zd02dec2_111.2.2.2.2.2.2.2.1
theorem dX5_guiltyBits_12 : decode cX5_guiltyBits 12 = .ok (.iload 6, 2) := zd02dec2_111.2.2.2.2.2.2.2.2.1
theorem dX5_guiltyBits_14 : decode cX5_guiltyBits 14 = .ok (.bipush 60, 2) := zd02dec2_111.2.2.2.2.2.2.2.2.2.1
theorem dX5_guiltyBits_16 : decode cX5_guiltyBits 16 = .ok (.if_icmp .gt 42, 3) := zd02dec2_111.2.2.2.2.2.2.2.2.2.2.1
theorem dX5_guiltyBits_19 : decode cX5_guiltyBits 19 = .ok (.lload_n 3, 1) := zd02dec2_111.2.2.2.2.2.2.2.2.2.2.2
theorem zd02dec2_112 : decode cX5_guiltyBits 20 = .ok (.aload_n 0, 1) ∧ decode cX5_guiltyBits 21 = .ok (.getfield 32, 3) ∧ decode cX5_guiltyBits 24 = .ok (.iload_n 1, 1) ∧ decode cX5_guiltyBits 25 = .ok (.iload_n 2, 1) ∧ decode cX5_guiltyBits 26 = .ok (.iload 5, 2) ∧ decode cX5_guiltyBits 28 = .ok (.invokevirtual 164, 3) ∧ decode cX5_guiltyBits 31 = .ok (.i2l, 1) ∧ decode cX5_guiltyBits 32 = .ok (.iload 6, 2) ∧ decode cX5_guiltyBits 34 = .ok (.lshl, 1) ∧ decode cX5_guiltyBits 35 = .ok (.lor, 1) ∧ decode cX5_guiltyBits 36 = .ok (.lstore_n 3, 1) ∧ decode cX5_guiltyBits 37 = .ok (.iload 5, 2) := by decide +kernel
theorem dX5_guiltyBits_20 : decode cX5_guiltyBits 20 = .ok (.aload_n 0, 1) := zd02dec2_112.1
theorem dX5_guiltyBits_21 : decode cX5_guiltyBits 21 = .ok (.getfield 32, 3) := zd02dec2_112.2.1
theorem dX5_guiltyBits_24 : decode cX5_guiltyBits 24 = .ok (.iload_n 1, 1) := zd02dec2_112.2.2.1
theorem dX5_guiltyBits_25 : decode cX5_guiltyBits 25 = .ok (.iload_n 2, 1) := zd02dec2_112.2.2.2.1
theorem dX5_guiltyBits_26 : decode cX5_guiltyBits 26 = .ok (.iload 5, 2) := zd02dec2_112.2.2.2.2.1
theorem dX5_guiltyBits_28 : decode cX5_guiltyBits 28 = .ok (.invokevirtual 164, 3) := zd02dec2_112.2.2.2.2.2.1
theorem dX5_guiltyBits_31 : decode cX5_guiltyBits 31 = .ok (.i2l, 1) := zd02dec2_112.2.2.2.2.2.2.1
theorem dX5_guiltyBits_32 : decode cX5_guiltyBits 32 = .ok (.iload 6, 2) := zd02dec2_112.2.2.2.2.2.2.2.1
theorem dX5_guiltyBits_34 : decode cX5_guiltyBits 34 = .ok (.lshl, 1) := zd02dec2_112.2.2.2.2.2.2.2.2.1
theorem dX5_guiltyBits_35 : decode cX5_guiltyBits 35 = .ok (.lor, 1) := zd02dec2_112.2.2.2.2.2.2.2.2.2.1
theorem dX5_guiltyBits_36 : decode cX5_guiltyBits 36 = .ok (.lstore_n 3, 1) := zd02dec2_112.2.2.2.2.2.2.2.2.2.2.1
theorem dX5_guiltyBits_37 : decode cX5_guiltyBits 37 = .ok (.iload 5, 2) := zd02dec2_112.2.2.2.2.2.2.2.2.2.2.2
theorem zd02dec2_113 : decode cX5_guiltyBits 39 = .ok (.aload_n 0, 1) ∧ decode cX5_guiltyBits 40 = .ok (.getfield 32, 3) ∧ decode cX5_guiltyBits 43 = .ok (.iload_n 1, 1) ∧ decode cX5_guiltyBits 44 = .ok (.iload_n 2, 1) ∧ decode cX5_guiltyBits 45 = .ok (.iconst 0, 1) ∧ decode cX5_guiltyBits 46 = .ok (.invokevirtual 158, 3) ∧ decode cX5_guiltyBits 49 = .ok (.iadd, 1) ∧ decode cX5_guiltyBits 50 = .ok (.istore 5, 2) ∧ decode cX5_guiltyBits 52 = .ok (.iinc 6 1, 3) ∧ decode cX5_guiltyBits 55 = .ok (.goto (-43), 3) ∧ decode cX5_guiltyBits 58 = .ok (.lload_n 3, 1) ∧ decode cX5_guiltyBits 59 = .ok (.lreturn, 1) := by decide +kernel
theorem dX5_guiltyBits_39 : decode cX5_guiltyBits 39 = .ok (.aload_n 0, 1) := zd02dec2_113.1
theorem dX5_guiltyBits_40 : decode cX5_guiltyBits 40 = .ok (.getfield 32, 3) := zd02dec2_113.2.1
theorem dX5_guiltyBits_43 : decode cX5_guiltyBits 43 = .ok (.iload_n 1, 1) := zd02dec2_113.2.2.1
theorem dX5_guiltyBits_44 : decode cX5_guiltyBits 44 = .ok (.iload_n 2, 1) := zd02dec2_113.2.2.2.1
theorem dX5_guiltyBits_45 : decode cX5_guiltyBits 45 = .ok (.iconst 0, 1) := zd02dec2_113.2.2.2.2.1
theorem dX5_guiltyBits_46 : decode cX5_guiltyBits 46 = .ok (.invokevirtual 158, 3) := zd02dec2_113.2.2.2.2.2.1
theorem dX5_guiltyBits_49 : decode cX5_guiltyBits 49 = .ok (.iadd, 1) := zd02dec2_113.2.2.2.2.2.2.1
theorem dX5_guiltyBits_50 : decode cX5_guiltyBits 50 = .ok (.istore 5, 2) := zd02dec2_113.2.2.2.2.2.2.2.1
theorem dX5_guiltyBits_52 : decode cX5_guiltyBits 52 = .ok (.iinc 6 1, 3) := zd02dec2_113.2.2.2.2.2.2.2.2.1
theorem dX5_guiltyBits_55 : decode cX5_guiltyBits 55 = .ok (.goto (-43), 3) := zd02dec2_113.2.2.2.2.2.2.2.2.2.1
theorem dX5_guiltyBits_58 : decode cX5_guiltyBits 58 = .ok (.lload_n 3, 1) := zd02dec2_113.2.2.2.2.2.2.2.2.2.2.1
theorem dX5_guiltyBits_59 : decode cX5_guiltyBits 59 = .ok (.lreturn, 1) := zd02dec2_113.2.2.2.2.2.2.2.2.2.2.2
theorem zd02dec2_114 : decode cX5_guiltyOfAll 0 = .ok (.iconst 0, 1) ∧ decode cX5_guiltyOfAll 1 = .ok (.istore_n 3, 1) ∧ decode cX5_guiltyOfAll 2 = .ok (.iconst 0, 1) ∧ decode cX5_guiltyOfAll 3 = .ok (.istore 4, 2) ∧ decode cX5_guiltyOfAll 5 = .ok (.iload 4, 2) ∧ decode cX5_guiltyOfAll 7 = .ok (.aload_n 0, 1) ∧ decode cX5_guiltyOfAll 8 = .ok (.getfield 28, 3) ∧ decode cX5_guiltyOfAll 11 = .ok (.getfield 71, 3) ∧ decode cX5_guiltyOfAll 14 = .ok (.if_icmp .ge 37, 3) ∧ decode cX5_guiltyOfAll 17 = .ok (.aload_n 0, 1) ∧ decode cX5_guiltyOfAll 18 = .ok (.invokevirtual 143, 3) ∧ decode cX5_guiltyOfAll 21 = .ok (.iload_n 3, 1) := by decide +kernel
theorem dX5_guiltyOfAll_0 : decode cX5_guiltyOfAll 0 = .ok (.iconst 0, 1) := zd02dec2_114.1
theorem dX5_guiltyOfAll_1 : decode cX5_guiltyOfAll 1 = .ok (.istore_n 3, 1) := zd02dec2_114.2.1
theorem dX5_guiltyOfAll_2 : decode cX5_guiltyOfAll 2 = .ok (.iconst 0, 1) := zd02dec2_114.2.2.1
theorem dX5_guiltyOfAll_3 : decode cX5_guiltyOfAll 3 = .ok (.istore 4, 2) := zd02dec2_114.2.2.2.1
theorem dX5_guiltyOfAll_5 : decode cX5_guiltyOfAll 5 = .ok (.iload 4, 2) := zd02dec2_114.2.2.2.2.1
theorem dX5_guiltyOfAll_7 : decode cX5_guiltyOfAll 7 = .ok (.aload_n 0, 1) := zd02dec2_114.2.2.2.2.2.1
theorem dX5_guiltyOfAll_8 : decode cX5_guiltyOfAll 8 = .ok (.getfield 28, 3) := zd02dec2_114.2.2.2.2.2.2.1
theorem dX5_guiltyOfAll_11 : decode cX5_guiltyOfAll 11 = .ok (.getfield 71, 3) := zd02dec2_114.2.2.2.2.2.2.2.1
theorem dX5_guiltyOfAll_14 : decode cX5_guiltyOfAll 14 = .ok (.if_icmp .ge 37, 3) := zd02dec2_114.2.2.2.2.2.2.2.2.1
theorem dX5_guiltyOfAll_17 : decode cX5_guiltyOfAll 17 = .ok (.aload_n 0, 1) := zd02dec2_114.2.2.2.2.2.2.2.2.2.1
theorem dX5_guiltyOfAll_18 : decode cX5_guiltyOfAll 18 = .ok (.invokevirtual 143, 3) := zd02dec2_114.2.2.2.2.2.2.2.2.2.2.1
theorem dX5_guiltyOfAll_21 : decode cX5_guiltyOfAll 21 = .ok (.iload_n 3, 1) := zd02dec2_114.2.2.2.2.2.2.2.2.2.2.2
theorem zd02dec2_115 : decode cX5_guiltyOfAll 22 = .ok (.aload_n 0, 1) ∧ decode cX5_guiltyOfAll 23 = .ok (.getfield 32, 3) ∧ decode cX5_guiltyOfAll 26 = .ok (.iload_n 1, 1) ∧ decode cX5_guiltyOfAll 27 = .ok (.iload 4, 2) ∧ decode cX5_guiltyOfAll 29 = .ok (.aload_n 0, 1) ∧ decode cX5_guiltyOfAll 30 = .ok (.getfield 32, 3) ∧ decode cX5_guiltyOfAll 33 = .ok (.iload_n 1, 1) ∧ decode cX5_guiltyOfAll 34 = .ok (.iload 4, 2) ∧ decode cX5_guiltyOfAll 36 = .ok (.iload_n 2, 1) ∧ decode cX5_guiltyOfAll 37 = .ok (.invokevirtual 140, 3) ∧ decode cX5_guiltyOfAll 40 = .ok (.invokevirtual 164, 3) ∧ decode cX5_guiltyOfAll 43 = .ok (.iadd, 1) := by decide +kernel
theorem dX5_guiltyOfAll_22 : decode cX5_guiltyOfAll 22 = .ok (.aload_n 0, 1) := zd02dec2_115.1
theorem dX5_guiltyOfAll_23 : decode cX5_guiltyOfAll 23 = .ok (.getfield 32, 3) := zd02dec2_115.2.1
theorem dX5_guiltyOfAll_26 : decode cX5_guiltyOfAll 26 = .ok (.iload_n 1, 1) := zd02dec2_115.2.2.1
theorem dX5_guiltyOfAll_27 : decode cX5_guiltyOfAll 27 = .ok (.iload 4, 2) := zd02dec2_115.2.2.2.1
theorem dX5_guiltyOfAll_29 : decode cX5_guiltyOfAll 29 = .ok (.aload_n 0, 1) := zd02dec2_115.2.2.2.2.1
theorem dX5_guiltyOfAll_30 : decode cX5_guiltyOfAll 30 = .ok (.getfield 32, 3) := zd02dec2_115.2.2.2.2.2.1
theorem dX5_guiltyOfAll_33 : decode cX5_guiltyOfAll 33 = .ok (.iload_n 1, 1) := zd02dec2_115.2.2.2.2.2.2.1
theorem dX5_guiltyOfAll_34 : decode cX5_guiltyOfAll 34 = .ok (.iload 4, 2) := zd02dec2_115.2.2.2.2.2.2.2.1
theorem dX5_guiltyOfAll_36 : decode cX5_guiltyOfAll 36 = .ok (.iload_n 2, 1) := zd02dec2_115.2.2.2.2.2.2.2.2.1
theorem dX5_guiltyOfAll_37 : decode cX5_guiltyOfAll 37 = .ok (.invokevirtual 140, 3) := zd02dec2_115.2.2.2.2.2.2.2.2.2.1
theorem dX5_guiltyOfAll_40 : decode cX5_guiltyOfAll 40 = .ok (.invokevirtual 164, 3) := zd02dec2_115.2.2.2.2.2.2.2.2.2.2.1
theorem dX5_guiltyOfAll_43 : decode cX5_guiltyOfAll 43 = .ok (.iadd, 1) := zd02dec2_115.2.2.2.2.2.2.2.2.2.2.2
theorem zd02dec2_116 : decode cX5_guiltyOfAll 44 = .ok (.istore_n 3, 1) ∧ decode cX5_guiltyOfAll 45 = .ok (.iinc 4 1, 3) ∧ decode cX5_guiltyOfAll 48 = .ok (.goto (-43), 3) ∧ decode cX5_guiltyOfAll 51 = .ok (.iload_n 3, 1) ∧ decode cX5_guiltyOfAll 52 = .ok (.ireturn, 1) := by decide +kernel
theorem dX5_guiltyOfAll_44 : decode cX5_guiltyOfAll 44 = .ok (.istore_n 3, 1) := zd02dec2_116.1
theorem dX5_guiltyOfAll_45 : decode cX5_guiltyOfAll 45 = .ok (.iinc 4 1, 3) := zd02dec2_116.2.1
theorem dX5_guiltyOfAll_48 : decode cX5_guiltyOfAll 48 = .ok (.goto (-43), 3) := zd02dec2_116.2.2.1
theorem dX5_guiltyOfAll_51 : decode cX5_guiltyOfAll 51 = .ok (.iload_n 3, 1) := zd02dec2_116.2.2.2.1
theorem dX5_guiltyOfAll_52 : decode cX5_guiltyOfAll 52 = .ok (.ireturn, 1) := zd02dec2_116.2.2.2.2
theorem zd02dec2_117 : decode cX5_weighCases 0 = .ok (.iconst 0, 1) ∧ decode cX5_weighCases 1 = .ok (.istore 4, 2) ∧ decode cX5_weighCases 3 = .ok (.iload 4, 2) ∧ decode cX5_weighCases 5 = .ok (.aload_n 0, 1) ∧ decode cX5_weighCases 6 = .ok (.getfield 28, 3) ∧ decode cX5_weighCases 9 = .ok (.getfield 71, 3) ∧ decode cX5_weighCases 12 = .ok (.if_icmp .ge 107, 3) ∧ decode cX5_weighCases 15 = .ok (.iconst 0, 1) ∧ decode cX5_weighCases 16 = .ok (.istore 5, 2) ∧ decode cX5_weighCases 18 = .ok (.iload 5, 2) ∧ decode cX5_weighCases 20 = .ok (.aload_n 0, 1) ∧ decode cX5_weighCases 21 = .ok (.getfield 28, 3) := by decide +kernel
theorem dX5_weighCases_0 : decode cX5_weighCases 0 = .ok (.iconst 0, 1) := zd02dec2_117.1
theorem dX5_weighCases_1 : decode cX5_weighCases 1 = .ok (.istore 4, 2) := zd02dec2_117.2.1
theorem dX5_weighCases_3 : decode cX5_weighCases 3 = .ok (.iload 4, 2) := zd02dec2_117.2.2.1
theorem dX5_weighCases_5 : decode cX5_weighCases 5 = .ok (.aload_n 0, 1) := zd02dec2_117.2.2.2.1
theorem dX5_weighCases_6 : decode cX5_weighCases 6 = .ok (.getfield 28, 3) := zd02dec2_117.2.2.2.2.1
theorem dX5_weighCases_9 : decode cX5_weighCases 9 = .ok (.getfield 71, 3) := zd02dec2_117.2.2.2.2.2.1
theorem dX5_weighCases_12 : decode cX5_weighCases 12 = .ok (.if_icmp .ge 107, 3) := zd02dec2_117.2.2.2.2.2.2.1
theorem dX5_weighCases_15 : decode cX5_weighCases 15 = .ok (.iconst 0, 1) := zd02dec2_117.2.2.2.2.2.2.2.1
theorem dX5_weighCases_16 : decode cX5_weighCases 16 = .ok (.istore 5, 2) := zd02dec2_117.2.2.2.2.2.2.2.2.1
theorem dX5_weighCases_18 : decode cX5_weighCases 18 = .ok (.iload 5, 2) := zd02dec2_117.2.2.2.2.2.2.2.2.2.1
theorem dX5_weighCases_20 : decode cX5_weighCases 20 = .ok (.aload_n 0, 1) := zd02dec2_117.2.2.2.2.2.2.2.2.2.2.1
theorem dX5_weighCases_21 : decode cX5_weighCases 21 = .ok (.getfield 28, 3) := zd02dec2_117.2.2.2.2.2.2.2.2.2.2.2
theorem zd02dec2_118 : decode cX5_weighCases 24 = .ok (.getfield 71, 3) ∧ decode cX5_weighCases 27 = .ok (.if_icmp .ge 86, 3) ∧ decode cX5_weighCases 30 = .ok (.aload_n 0, 1) ∧ decode cX5_weighCases 31 = .ok (.invokevirtual 143, 3) ∧ decode cX5_weighCases 34 = .ok (.iconst 0, 1) ∧ decode cX5_weighCases 35 = .ok (.istore 6, 2) ∧ decode cX5_weighCases 37 = .ok (.iload 6, 2) ∧ decode cX5_weighCases 39 = .ok (.iload 4, 2) ∧ decode cX5_weighCases 41 = .ok (.iload_n 2, 1) ∧ decode cX5_weighCases 42 = .ok (.imul, 1) ∧ decode cX5_weighCases 43 = .ok (.if_icmp .ge 17, 3) ∧ decode cX5_weighCases 46 = .ok (.aload_n 0, 1) := by decide +kernel
theorem dX5_weighCases_24 : decode cX5_weighCases 24 = .ok (.getfield 71, 3) := zd02dec2_118.1
theorem dX5_weighCases_27 : decode cX5_weighCases 27 = .ok (.if_icmp .ge 86, 3) := zd02dec2_118.2.1
theorem dX5_weighCases_30 : decode cX5_weighCases 30 = .ok (.aload_n 0, 1) := zd02dec2_118.2.2.1
theorem dX5_weighCases_31 : decode cX5_weighCases 31 = .ok (.invokevirtual 143, 3) := zd02dec2_118.2.2.2.1
theorem dX5_weighCases_34 : decode cX5_weighCases 34 = .ok (.iconst 0, 1) := zd02dec2_118.2.2.2.2.1
theorem dX5_weighCases_35 : decode cX5_weighCases 35 = .ok (.istore 6, 2) := zd02dec2_118.2.2.2.2.2.1
theorem dX5_weighCases_37 : decode cX5_weighCases 37 = .ok (.iload 6, 2) := zd02dec2_118.2.2.2.2.2.2.1
theorem dX5_weighCases_39 : decode cX5_weighCases 39 = .ok (.iload 4, 2) := zd02dec2_118.2.2.2.2.2.2.2.1
theorem dX5_weighCases_41 : decode cX5_weighCases 41 = .ok (.iload_n 2, 1) := zd02dec2_118.2.2.2.2.2.2.2.2.1
theorem dX5_weighCases_42 : decode cX5_weighCases 42 = .ok (.imul, 1) := zd02dec2_118.2.2.2.2.2.2.2.2.2.1
theorem dX5_weighCases_43 : decode cX5_weighCases 43 = .ok (.if_icmp .ge 17, 3) := zd02dec2_118.2.2.2.2.2.2.2.2.2.2.1
theorem dX5_weighCases_46 : decode cX5_weighCases 46 = .ok (.aload_n 0, 1) := zd02dec2_118.2.2.2.2.2.2.2.2.2.2.2
theorem zd02dec2_119 : decode cX5_weighCases 47 = .ok (.getfield 32, 3) ∧ decode cX5_weighCases 50 = .ok (.iload_n 1, 1) ∧ decode cX5_weighCases 51 = .ok (.invokevirtual 264, 3) ∧ decode cX5_weighCases 54 = .ok (.iinc 6 1, 3) ∧ decode cX5_weighCases 57 = .ok (.goto (-20), 3) ∧ decode cX5_weighCases 60 = .ok (.aload_n 0, 1) ∧ decode cX5_weighCases 61 = .ok (.getfield 32, 3) ∧ decode cX5_weighCases 64 = .ok (.iload_n 1, 1) ∧ decode cX5_weighCases 65 = .ok (.iload 5, 2) ∧ decode cX5_weighCases 67 = .ok (.iload_n 2, 1) ∧ decode cX5_weighCases 68 = .ok (.invokevirtual 140, 3) ∧ decode cX5_weighCases 71 = .ok (.istore 6, 2) := by decide +kernel
theorem dX5_weighCases_47 : decode cX5_weighCases 47 = .ok (.getfield 32, 3) := zd02dec2_119.1
theorem dX5_weighCases_50 : decode cX5_weighCases 50 = .ok (.iload_n 1, 1) := zd02dec2_119.2.1
theorem dX5_weighCases_51 : decode cX5_weighCases 51 = .ok (.invokevirtual 264, 3) := zd02dec2_119.2.2.1
theorem dX5_weighCases_54 : decode cX5_weighCases 54 = .ok (.iinc 6 1, 3) := zd02dec2_119.2.2.2.1
theorem dX5_weighCases_57 : decode cX5_weighCases 57 = .ok (.goto (-20), 3) := zd02dec2_119.2.2.2.2.1
theorem dX5_weighCases_60 : decode cX5_weighCases 60 = .ok (.aload_n 0, 1) := zd02dec2_119.2.2.2.2.2.1
theorem dX5_weighCases_61 : decode cX5_weighCases 61 = .ok (.getfield 32, 3) := zd02dec2_119.2.2.2.2.2.2.1
theorem dX5_weighCases_64 : decode cX5_weighCases 64 = .ok (.iload_n 1, 1) := zd02dec2_119.2.2.2.2.2.2.2.1
theorem dX5_weighCases_65 : decode cX5_weighCases 65 = .ok (.iload 5, 2) := zd02dec2_119.2.2.2.2.2.2.2.2.1
theorem dX5_weighCases_67 : decode cX5_weighCases 67 = .ok (.iload_n 2, 1) := zd02dec2_119.2.2.2.2.2.2.2.2.2.1
theorem dX5_weighCases_68 : decode cX5_weighCases 68 = .ok (.invokevirtual 140, 3) := zd02dec2_119.2.2.2.2.2.2.2.2.2.2.1
theorem dX5_weighCases_71 : decode cX5_weighCases 71 = .ok (.istore 6, 2) := zd02dec2_119.2.2.2.2.2.2.2.2.2.2.2
theorem zd02dec2_120 : decode cX5_weighCases 73 = .ok (.aload_n 0, 1) ∧ decode cX5_weighCases 74 = .ok (.getfield 48, 3) ∧ decode cX5_weighCases 77 = .ok (.getfield 267, 3) ∧ decode cX5_weighCases 80 = .ok (.iload 4, 2) ∧ decode cX5_weighCases 82 = .ok (.aaload, 1) ∧ decode cX5_weighCases 83 = .ok (.iload 5, 2) ∧ decode cX5_weighCases 85 = .ok (.iload_n 3, 1) ∧ decode cX5_weighCases 86 = .ok (.ifCond .eq 18, 3) ∧ decode cX5_weighCases 89 = .ok (.aload_n 0, 1) ∧ decode cX5_weighCases 90 = .ok (.getfield 32, 3) ∧ decode cX5_weighCases 93 = .ok (.iload_n 1, 1) ∧ decode cX5_weighCases 94 = .ok (.iload 5, 2) := by decide +kernel
theorem dX5_weighCases_73 : decode cX5_weighCases 73 = .ok (.aload_n 0, 1) := zd02dec2_120.1
theorem dX5_weighCases_74 : decode cX5_weighCases 74 = .ok (.getfield 48, 3) := zd02dec2_120.2.1
theorem dX5_weighCases_77 : decode cX5_weighCases 77 = .ok (.getfield 267, 3) := zd02dec2_120.2.2.1
theorem dX5_weighCases_80 : decode cX5_weighCases 80 = .ok (.iload 4, 2) := zd02dec2_120.2.2.2.1
theorem dX5_weighCases_82 : decode cX5_weighCases 82 = .ok (.aaload, 1) := zd02dec2_120.2.2.2.2.1
theorem dX5_weighCases_83 : decode cX5_weighCases 83 = .ok (.iload 5, 2) := zd02dec2_120.2.2.2.2.2.1
theorem dX5_weighCases_85 : decode cX5_weighCases 85 = .ok (.iload_n 3, 1) := zd02dec2_120.2.2.2.2.2.2.1
theorem dX5_weighCases_86 : decode cX5_weighCases 86 = .ok (.ifCond .eq 18, 3) := zd02dec2_120.2.2.2.2.2.2.2.1
theorem dX5_weighCases_89 : decode cX5_weighCases 89 = .ok (.aload_n 0, 1) := zd02dec2_120.2.2.2.2.2.2.2.2.1
theorem dX5_weighCases_90 : decode cX5_weighCases 90 = .ok (.getfield 32, 3) := zd02dec2_120.2.2.2.2.2.2.2.2.2.1
theorem dX5_weighCases_93 : decode cX5_weighCases 93 = .ok (.iload_n 1, 1) := zd02dec2_120.2.2.2.2.2.2.2.2.2.2.1
theorem dX5_weighCases_94 : decode cX5_weighCases 94 = .ok (.iload 5, 2) := zd02dec2_120.2.2.2.2.2.2.2.2.2.2.2
theorem zd02dec2_121 : decode cX5_weighCases 96 = .ok (.iload 6, 2) ∧ decode cX5_weighCases 98 = .ok (.invokevirtual 164, 3) ∧ decode cX5_weighCases 101 = .ok (.goto 5, 3) ∧ decode cX5_weighCases 104 = .ok (.iload 6, 2) ∧ decode cX5_weighCases 106 = .ok (.iastore, 1) ∧ decode cX5_weighCases 107 = .ok (.iinc 5 1, 3) ∧ decode cX5_weighCases 110 = .ok (.goto (-92), 3) ∧ decode cX5_weighCases 113 = .ok (.iinc 4 1, 3) ∧ decode cX5_weighCases 116 = .ok (.goto (-113), 3) ∧ decode cX5_weighCases 119 = .ok (.return_, 1) := by decide +kernel
theorem dX5_weighCases_96 : decode cX5_weighCases 96 = .ok (.iload 6, 2) := zd02dec2_121.1
theorem dX5_weighCases_98 : decode cX5_weighCases 98 = .ok (.invokevirtual 164, 3) := zd02dec2_121.2.1
theorem dX5_weighCases_101 : decode cX5_weighCases 101 = .ok (.goto 5, 3) := zd02dec2_121.2.2.1
theorem dX5_weighCases_104 : decode cX5_weighCases 104 = .ok (.iload 6, 2) := zd02dec2_121.2.2.2.1
theorem dX5_weighCases_106 : decode cX5_weighCases 106 = .ok (.iastore, 1) := zd02dec2_121.2.2.2.2.1
theorem dX5_weighCases_107 : decode cX5_weighCases 107 = .ok (.iinc 5 1, 3) := zd02dec2_121.2.2.2.2.2.1
theorem dX5_weighCases_110 : decode cX5_weighCases 110 = .ok (.goto (-92), 3) := zd02dec2_121.2.2.2.2.2.2.1
theorem dX5_weighCases_113 : decode cX5_weighCases 113 = .ok (.iinc 4 1, 3) := zd02dec2_121.2.2.2.2.2.2.2.1
theorem dX5_weighCases_116 : decode cX5_weighCases 116 = .ok (.goto (-113), 3) := zd02dec2_121.2.2.2.2.2.2.2.2.1
theorem dX5_weighCases_119 : decode cX5_weighCases 119 = .ok (.return_, 1) := zd02dec2_121.2.2.2.2.2.2.2.2.2
theorem zd02dec2_122 : decode cX5_refusalOfSheet 0 = .ok (.aload_n 0, 1) ∧ decode cX5_refusalOfSheet 1 = .ok (.getfield 41, 3) ∧ decode cX5_refusalOfSheet 4 = .ok (.iload_n 1, 1) ∧ decode cX5_refusalOfSheet 5 = .ok (.invokevirtual 196, 3) ∧ decode cX5_refusalOfSheet 8 = .ok (.ifCond .ne 6, 3) ∧ decode cX5_refusalOfSheet 11 = .ok (.bipush (-2), 2) ∧ decode cX5_refusalOfSheet 13 = .ok (.ireturn, 1) ∧ decode cX5_refusalOfSheet 14 = .ok (.aload_n 0, 1) ∧ decode cX5_refusalOfSheet 15 = .ok (.getfield 41, 3) ∧ decode cX5_refusalOfSheet 18 = .ok (.getfield 225, 3) ∧ decode cX5_refusalOfSheet 21 = .ok (.iload_n 1, 1) ∧ decode cX5_refusalOfSheet 22 = .ok (.iaload, 1) := by decide +kernel
theorem dX5_refusalOfSheet_0 : decode cX5_refusalOfSheet 0 = .ok (.aload_n 0, 1) := zd02dec2_122.1
theorem dX5_refusalOfSheet_1 : decode cX5_refusalOfSheet 1 = .ok (.getfield 41, 3) := zd02dec2_122.2.1
theorem dX5_refusalOfSheet_4 : decode cX5_refusalOfSheet 4 = .ok (.iload_n 1, 1) := zd02dec2_122.2.2.1
theorem dX5_refusalOfSheet_5 : decode cX5_refusalOfSheet 5 = .ok (.invokevirtual 196, 3) := zd02dec2_122.2.2.2.1
theorem dX5_refusalOfSheet_8 : decode cX5_refusalOfSheet 8 = .ok (.ifCond .ne 6, 3) := zd02dec2_122.2.2.2.2.1
theorem dX5_refusalOfSheet_11 : decode cX5_refusalOfSheet 11 = .ok (.bipush (-2), 2) := zd02dec2_122.2.2.2.2.2.1
theorem dX5_refusalOfSheet_13 : decode cX5_refusalOfSheet 13 = .ok (.ireturn, 1) := zd02dec2_122.2.2.2.2.2.2.1
theorem dX5_refusalOfSheet_14 : decode cX5_refusalOfSheet 14 = .ok (.aload_n 0, 1) := zd02dec2_122.2.2.2.2.2.2.2.1
theorem dX5_refusalOfSheet_15 : decode cX5_refusalOfSheet 15 = .ok (.getfield 41, 3) := zd02dec2_122.2.2.2.2.2.2.2.2.1
theorem dX5_refusalOfSheet_18 : decode cX5_refusalOfSheet 18 = .ok (.getfield 225, 3) := zd02dec2_122.2.2.2.2.2.2.2.2.2.1
theorem dX5_refusalOfSheet_21 : decode cX5_refusalOfSheet 21 = .ok (.iload_n 1, 1) := zd02dec2_122.2.2.2.2.2.2.2.2.2.2.1
theorem dX5_refusalOfSheet_22 : decode cX5_refusalOfSheet 22 = .ok (.iaload, 1) := zd02dec2_122.2.2.2.2.2.2.2.2.2.2.2
theorem zd02dec2_123 : decode cX5_refusalOfSheet 23 = .ok (.iconst (-1), 1) ∧ decode cX5_refusalOfSheet 24 = .ok (.if_icmp .ne 6, 3) ∧ decode cX5_refusalOfSheet 27 = .ok (.bipush (-11), 2) ∧ decode cX5_refusalOfSheet 29 = .ok (.ireturn, 1) ∧ decode cX5_refusalOfSheet 30 = .ok (.aload_n 0, 1) ∧ decode cX5_refusalOfSheet 31 = .ok (.getfield 41, 3) ∧ decode cX5_refusalOfSheet 34 = .ok (.getfield 228, 3) ∧ decode cX5_refusalOfSheet 37 = .ok (.iload_n 1, 1) ∧ decode cX5_refusalOfSheet 38 = .ok (.iaload, 1) ∧ decode cX5_refusalOfSheet 39 = .ok (.istore_n 2, 1) ∧ decode cX5_refusalOfSheet 40 = .ok (.iload_n 2, 1) ∧ decode cX5_refusalOfSheet 41 = .ok (.iconst 3, 1) := by decide +kernel
theorem dX5_refusalOfSheet_23 : decode cX5_refusalOfSheet 23 = .ok (.iconst (-1), 1) := zd02dec2_123.1
theorem dX5_refusalOfSheet_24 : decode cX5_refusalOfSheet 24 = .ok (.if_icmp .ne 6, 3) := zd02dec2_123.2.1
theorem dX5_refusalOfSheet_27 : decode cX5_refusalOfSheet 27 = .ok (.bipush (-11), 2) := zd02dec2_123.2.2.1
theorem dX5_refusalOfSheet_29 : decode cX5_refusalOfSheet 29 = .ok (.ireturn, 1) := zd02dec2_123.2.2.2.1
theorem dX5_refusalOfSheet_30 : decode cX5_refusalOfSheet 30 = .ok (.aload_n 0, 1) := zd02dec2_123.2.2.2.2.1
theorem dX5_refusalOfSheet_31 : decode cX5_refusalOfSheet 31 = .ok (.getfield 41, 3) := zd02dec2_123.2.2.2.2.2.1
theorem dX5_refusalOfSheet_34 : decode cX5_refusalOfSheet 34 = .ok (.getfield 228, 3) := zd02dec2_123.2.2.2.2.2.2.1
theorem dX5_refusalOfSheet_37 : decode cX5_refusalOfSheet 37 = .ok (.iload_n 1, 1) := zd02dec2_123.2.2.2.2.2.2.2.1
theorem dX5_refusalOfSheet_38 : decode cX5_refusalOfSheet 38 = .ok (.iaload, 1) := zd02dec2_123.2.2.2.2.2.2.2.2.1
theorem dX5_refusalOfSheet_39 : decode cX5_refusalOfSheet 39 = .ok (.istore_n 2, 1) := zd02dec2_123.2.2.2.2.2.2.2.2.2.1
theorem dX5_refusalOfSheet_40 : decode cX5_refusalOfSheet 40 = .ok (.iload_n 2, 1) := zd02dec2_123.2.2.2.2.2.2.2.2.2.2.1
theorem dX5_refusalOfSheet_41 : decode cX5_refusalOfSheet 41 = .ok (.iconst 3, 1) := zd02dec2_123.2.2.2.2.2.2.2.2.2.2.2
theorem zd02dec2_124 : decode cX5_refusalOfSheet 42 = .ok (.irem, 1) ∧ decode cX5_refusalOfSheet 43 = .ok (.ifCond .eq 6, 3) ∧ decode cX5_refusalOfSheet 46 = .ok (.bipush (-2), 2) ∧ decode cX5_refusalOfSheet 48 = .ok (.ireturn, 1) ∧ decode cX5_refusalOfSheet 49 = .ok (.aload_n 0, 1) ∧ decode cX5_refusalOfSheet 50 = .ok (.getfield 41, 3) ∧ decode cX5_refusalOfSheet 53 = .ok (.getfield 235, 3) ∧ decode cX5_refusalOfSheet 56 = .ok (.iload_n 1, 1) ∧ decode cX5_refusalOfSheet 57 = .ok (.aaload, 1) ∧ decode cX5_refusalOfSheet 58 = .ok (.astore_n 3, 1) ∧ decode cX5_refusalOfSheet 59 = .ok (.iconst 0, 1) ∧ decode cX5_refusalOfSheet 60 = .ok (.istore 4, 2) := by decide +kernel
theorem dX5_refusalOfSheet_42 : decode cX5_refusalOfSheet 42 = .ok (.irem, 1) := zd02dec2_124.1
theorem dX5_refusalOfSheet_43 : decode cX5_refusalOfSheet 43 = .ok (.ifCond .eq 6, 3) := zd02dec2_124.2.1
theorem dX5_refusalOfSheet_46 : decode cX5_refusalOfSheet 46 = .ok (.bipush (-2), 2) := zd02dec2_124.2.2.1
theorem dX5_refusalOfSheet_48 : decode cX5_refusalOfSheet 48 = .ok (.ireturn, 1) := zd02dec2_124.2.2.2.1
theorem dX5_refusalOfSheet_49 : decode cX5_refusalOfSheet 49 = .ok (.aload_n 0, 1) := zd02dec2_124.2.2.2.2.1
theorem dX5_refusalOfSheet_50 : decode cX5_refusalOfSheet 50 = .ok (.getfield 41, 3) := zd02dec2_124.2.2.2.2.2.1
theorem dX5_refusalOfSheet_53 : decode cX5_refusalOfSheet 53 = .ok (.getfield 235, 3) := zd02dec2_124.2.2.2.2.2.2.1
theorem dX5_refusalOfSheet_56 : decode cX5_refusalOfSheet 56 = .ok (.iload_n 1, 1) := zd02dec2_124.2.2.2.2.2.2.2.1
theorem dX5_refusalOfSheet_57 : decode cX5_refusalOfSheet 57 = .ok (.aaload, 1) := zd02dec2_124.2.2.2.2.2.2.2.2.1
theorem dX5_refusalOfSheet_58 : decode cX5_refusalOfSheet 58 = .ok (.astore_n 3, 1) := zd02dec2_124.2.2.2.2.2.2.2.2.2.1
theorem dX5_refusalOfSheet_59 : decode cX5_refusalOfSheet 59 = .ok (.iconst 0, 1) := zd02dec2_124.2.2.2.2.2.2.2.2.2.2.1
theorem dX5_refusalOfSheet_60 : decode cX5_refusalOfSheet 60 = .ok (.istore 4, 2) := zd02dec2_124.2.2.2.2.2.2.2.2.2.2.2
theorem zd02dec2_125 : decode cX5_refusalOfSheet 62 = .ok (.iload 4, 2) ∧ decode cX5_refusalOfSheet 64 = .ok (.iconst 2, 1) ∧ decode cX5_refusalOfSheet 65 = .ok (.iadd, 1) ∧ decode cX5_refusalOfSheet 66 = .ok (.iload_n 2, 1) ∧ decode cX5_refusalOfSheet 67 = .ok (.if_icmp .ge 53, 3) ∧ decode cX5_refusalOfSheet 70 = .ok (.aload_n 0, 1) ∧ decode cX5_refusalOfSheet 71 = .ok (.getfield 28, 3) ∧ decode cX5_refusalOfSheet 74 = .ok (.aload_n 3, 1) ∧ decode cX5_refusalOfSheet 75 = .ok (.iload 4, 2) ∧ decode cX5_refusalOfSheet 77 = .ok (.iaload, 1) ∧ decode cX5_refusalOfSheet 78 = .ok (.invokevirtual 111, 3) ∧ decode cX5_refusalOfSheet 81 = .ok (.ifCond .eq 30, 3) := by decide +kernel
theorem dX5_refusalOfSheet_62 : decode cX5_refusalOfSheet 62 = .ok (.iload 4, 2) := zd02dec2_125.1
theorem dX5_refusalOfSheet_64 : decode cX5_refusalOfSheet 64 = .ok (.iconst 2, 1) := zd02dec2_125.2.1
theorem dX5_refusalOfSheet_65 : decode cX5_refusalOfSheet 65 = .ok (.iadd, 1) := zd02dec2_125.2.2.1
theorem dX5_refusalOfSheet_66 : decode cX5_refusalOfSheet 66 = .ok (.iload_n 2, 1) := zd02dec2_125.2.2.2.1
theorem dX5_refusalOfSheet_67 : decode cX5_refusalOfSheet 67 = .ok (.if_icmp .ge 53, 3) := zd02dec2_125.2.2.2.2.1
theorem dX5_refusalOfSheet_70 : decode cX5_refusalOfSheet 70 = .ok (.aload_n 0, 1) := zd02dec2_125.2.2.2.2.2.1
theorem dX5_refusalOfSheet_71 : decode cX5_refusalOfSheet 71 = .ok (.getfield 28, 3) := zd02dec2_125.2.2.2.2.2.2.1
theorem dX5_refusalOfSheet_74 : decode cX5_refusalOfSheet 74 = .ok (.aload_n 3, 1) := zd02dec2_125.2.2.2.2.2.2.2.1
theorem dX5_refusalOfSheet_75 : decode cX5_refusalOfSheet 75 = .ok (.iload 4, 2) := zd02dec2_125.2.2.2.2.2.2.2.2.1
theorem dX5_refusalOfSheet_77 : decode cX5_refusalOfSheet 77 = .ok (.iaload, 1) := zd02dec2_125.2.2.2.2.2.2.2.2.2.1
theorem dX5_refusalOfSheet_78 : decode cX5_refusalOfSheet 78 = .ok (.invokevirtual 111, 3) := zd02dec2_125.2.2.2.2.2.2.2.2.2.2.1
theorem dX5_refusalOfSheet_81 : decode cX5_refusalOfSheet 81 = .ok (.ifCond .eq 30, 3) := zd02dec2_125.2.2.2.2.2.2.2.2.2.2.2
theorem zd02dec2_126 : decode cX5_refusalOfSheet 84 = .ok (.aload_n 3, 1) ∧ decode cX5_refusalOfSheet 85 = .ok (.iload 4, 2) ∧ decode cX5_refusalOfSheet 87 = .ok (.iconst 1, 1) ∧ decode cX5_refusalOfSheet 88 = .ok (.iadd, 1) ∧ decode cX5_refusalOfSheet 89 = .ok (.iaload, 1) ∧ decode cX5_refusalOfSheet 90 = .ok (.bipush 60, 2) ∧ decode cX5_refusalOfSheet 92 = .ok (.invokestatic 86, 3) ∧ decode cX5_refusalOfSheet 95 = .ok (.ifCond .eq 16, 3) ∧ decode cX5_refusalOfSheet 98 = .ok (.aload_n 3, 1) ∧ decode cX5_refusalOfSheet 99 = .ok (.iload 4, 2) ∧ decode cX5_refusalOfSheet 101 = .ok (.iconst 2, 1) ∧ decode cX5_refusalOfSheet 102 = .ok (.iadd, 1) := by decide +kernel
theorem dX5_refusalOfSheet_84 : decode cX5_refusalOfSheet 84 = .ok (.aload_n 3, 1) := zd02dec2_126.1
theorem dX5_refusalOfSheet_85 : decode cX5_refusalOfSheet 85 = .ok (.iload 4, 2) := zd02dec2_126.2.1
theorem dX5_refusalOfSheet_87 : decode cX5_refusalOfSheet 87 = .ok (.iconst 1, 1) := zd02dec2_126.2.2.1
theorem dX5_refusalOfSheet_88 : decode cX5_refusalOfSheet 88 = .ok (.iadd, 1) := zd02dec2_126.2.2.2.1
theorem dX5_refusalOfSheet_89 : decode cX5_refusalOfSheet 89 = .ok (.iaload, 1) := zd02dec2_126.2.2.2.2.1
theorem dX5_refusalOfSheet_90 : decode cX5_refusalOfSheet 90 = .ok (.bipush 60, 2) := zd02dec2_126.2.2.2.2.2.1
theorem dX5_refusalOfSheet_92 : decode cX5_refusalOfSheet 92 = .ok (.invokestatic 86, 3) := zd02dec2_126.2.2.2.2.2.2.1
theorem dX5_refusalOfSheet_95 : decode cX5_refusalOfSheet 95 = .ok (.ifCond .eq 16, 3) := zd02dec2_126.2.2.2.2.2.2.2.1
theorem dX5_refusalOfSheet_98 : decode cX5_refusalOfSheet 98 = .ok (.aload_n 3, 1) := zd02dec2_126.2.2.2.2.2.2.2.2.1
theorem dX5_refusalOfSheet_99 : decode cX5_refusalOfSheet 99 = .ok (.iload 4, 2) := zd02dec2_126.2.2.2.2.2.2.2.2.2.1
theorem dX5_refusalOfSheet_101 : decode cX5_refusalOfSheet 101 = .ok (.iconst 2, 1) := zd02dec2_126.2.2.2.2.2.2.2.2.2.2.1
theorem dX5_refusalOfSheet_102 : decode cX5_refusalOfSheet 102 = .ok (.iadd, 1) := zd02dec2_126.2.2.2.2.2.2.2.2.2.2.2
theorem zd02dec2_127 : decode cX5_refusalOfSheet 103 = .ok (.iaload, 1) ∧ decode cX5_refusalOfSheet 104 = .ok (.iconst 1, 1) ∧ decode cX5_refusalOfSheet 105 = .ok (.invokestatic 86, 3) ∧ decode cX5_refusalOfSheet 108 = .ok (.ifCond .ne 6, 3) ∧ decode cX5_refusalOfSheet 111 = .ok (.bipush (-2), 2) ∧ decode cX5_refusalOfSheet 113 = .ok (.ireturn, 1) ∧ decode cX5_refusalOfSheet 114 = .ok (.iinc 4 3, 3) ∧ decode cX5_refusalOfSheet 117 = .ok (.goto (-55), 3) ∧ decode cX5_refusalOfSheet 120 = .ok (.iconst 0, 1) ∧ decode cX5_refusalOfSheet 121 = .ok (.ireturn, 1) := by decide +kernel
theorem dX5_refusalOfSheet_103 : decode cX5_refusalOfSheet 103 = .ok (.iaload, 1) := zd02dec2_127.1
theorem dX5_refusalOfSheet_104 : decode cX5_refusalOfSheet 104 = .ok (.iconst 1, 1) := zd02dec2_127.2.1
theorem dX5_refusalOfSheet_105 : decode cX5_refusalOfSheet 105 = .ok (.invokestatic 86, 3) := zd02dec2_127.2.2.1
theorem dX5_refusalOfSheet_108 : decode cX5_refusalOfSheet 108 = .ok (.ifCond .ne 6, 3) := zd02dec2_127.2.2.2.1
theorem dX5_refusalOfSheet_111 : decode cX5_refusalOfSheet 111 = .ok (.bipush (-2), 2) := zd02dec2_127.2.2.2.2.1
theorem dX5_refusalOfSheet_113 : decode cX5_refusalOfSheet 113 = .ok (.ireturn, 1) := zd02dec2_127.2.2.2.2.2.1
theorem dX5_refusalOfSheet_114 : decode cX5_refusalOfSheet 114 = .ok (.iinc 4 3, 3) := zd02dec2_127.2.2.2.2.2.2.1
theorem dX5_refusalOfSheet_117 : decode cX5_refusalOfSheet 117 = .ok (.goto (-55), 3) := zd02dec2_127.2.2.2.2.2.2.2.1
theorem dX5_refusalOfSheet_120 : decode cX5_refusalOfSheet 120 = .ok (.iconst 0, 1) := zd02dec2_127.2.2.2.2.2.2.2.2.1
theorem dX5_refusalOfSheet_121 : decode cX5_refusalOfSheet 121 = .ok (.ireturn, 1) := zd02dec2_127.2.2.2.2.2.2.2.2.2
theorem zd02dec2_128 : decode cX5_refusalOf 0 = .ok (.aload_n 0, 1) ∧ decode cX5_refusalOf 1 = .ok (.iload_n 1, 1) ∧ decode cX5_refusalOf 2 = .ok (.invokevirtual 193, 3) ∧ decode cX5_refusalOf 5 = .ok (.istore_n 3, 1) ∧ decode cX5_refusalOf 6 = .ok (.iload_n 3, 1) ∧ decode cX5_refusalOf 7 = .ok (.ifCond .eq 5, 3) ∧ decode cX5_refusalOf 10 = .ok (.iload_n 3, 1) ∧ decode cX5_refusalOf 11 = .ok (.ireturn, 1) ∧ decode cX5_refusalOf 12 = .ok (.aload_n 0, 1) ∧ decode cX5_refusalOf 13 = .ok (.getfield 28, 3) ∧ decode cX5_refusalOf 16 = .ok (.iload_n 2, 1) ∧ decode cX5_refusalOf 17 = .ok (.invokevirtual 94, 3) := by decide +kernel
theorem dX5_refusalOf_0 : decode cX5_refusalOf 0 = .ok (.aload_n 0, 1) := zd02dec2_128.1
theorem dX5_refusalOf_1 : decode cX5_refusalOf 1 = .ok (.iload_n 1, 1) := zd02dec2_128.2.1
theorem dX5_refusalOf_2 : decode cX5_refusalOf 2 = .ok (.invokevirtual 193, 3) := zd02dec2_128.2.2.1
theorem dX5_refusalOf_5 : decode cX5_refusalOf 5 = .ok (.istore_n 3, 1) := zd02dec2_128.2.2.2.1
theorem dX5_refusalOf_6 : decode cX5_refusalOf 6 = .ok (.iload_n 3, 1) := zd02dec2_128.2.2.2.2.1
theorem dX5_refusalOf_7 : decode cX5_refusalOf 7 = .ok (.ifCond .eq 5, 3) := zd02dec2_128.2.2.2.2.2.1
theorem dX5_refusalOf_10 : decode cX5_refusalOf 10 = .ok (.iload_n 3, 1) := zd02dec2_128.2.2.2.2.2.2.1
theorem dX5_refusalOf_11 : decode cX5_refusalOf 11 = .ok (.ireturn, 1) := zd02dec2_128.2.2.2.2.2.2.2.1
theorem dX5_refusalOf_12 : decode cX5_refusalOf 12 = .ok (.aload_n 0, 1) := zd02dec2_128.2.2.2.2.2.2.2.2.1
theorem dX5_refusalOf_13 : decode cX5_refusalOf 13 = .ok (.getfield 28, 3) := zd02dec2_128.2.2.2.2.2.2.2.2.2.1
theorem dX5_refusalOf_16 : decode cX5_refusalOf 16 = .ok (.iload_n 2, 1) := zd02dec2_128.2.2.2.2.2.2.2.2.2.2.1
theorem dX5_refusalOf_17 : decode cX5_refusalOf 17 = .ok (.invokevirtual 94, 3) := zd02dec2_128.2.2.2.2.2.2.2.2.2.2.2
theorem zd02dec2_129 : decode cX5_refusalOf 20 = .ok (.ifCond .eq 7, 3) ∧ decode cX5_refusalOf 23 = .ok (.iconst 0, 1) ∧ decode cX5_refusalOf 24 = .ok (.goto 5, 3) ∧ decode cX5_refusalOf 27 = .ok (.bipush (-5), 2) ∧ decode cX5_refusalOf 29 = .ok (.ireturn, 1) := by decide +kernel
theorem dX5_refusalOf_20 : decode cX5_refusalOf 20 = .ok (.ifCond .eq 7, 3) := zd02dec2_129.1
theorem dX5_refusalOf_23 : decode cX5_refusalOf 23 = .ok (.iconst 0, 1) := zd02dec2_129.2.1
theorem dX5_refusalOf_24 : decode cX5_refusalOf 24 = .ok (.goto 5, 3) := zd02dec2_129.2.2.1
theorem dX5_refusalOf_27 : decode cX5_refusalOf 27 = .ok (.bipush (-5), 2) := zd02dec2_129.2.2.2.1
theorem dX5_refusalOf_29 : decode cX5_refusalOf 29 = .ok (.ireturn, 1) := zd02dec2_129.2.2.2.2
theorem zd02dec2_130 : decode cX5_firstOtherwise 0 = .ok (.aload_n 0, 1) ∧ decode cX5_firstOtherwise 1 = .ok (.getfield 41, 3) ∧ decode cX5_firstOtherwise 4 = .ok (.getfield 235, 3) ∧ decode cX5_firstOtherwise 7 = .ok (.iload_n 1, 1) ∧ decode cX5_firstOtherwise 8 = .ok (.aaload, 1) ∧ decode cX5_firstOtherwise 9 = .ok (.astore_n 3, 1) ∧ decode cX5_firstOtherwise 10 = .ok (.iconst 0, 1) ∧ decode cX5_firstOtherwise 11 = .ok (.istore 4, 2) ∧ decode cX5_firstOtherwise 13 = .ok (.iload 4, 2) ∧ decode cX5_firstOtherwise 15 = .ok (.iconst 2, 1) ∧ decode cX5_firstOtherwise 16 = .ok (.iadd, 1) ∧ decode cX5_firstOtherwise 17 = .ok (.aload_n 0, 1) := by decide +kernel
theorem dX5_firstOtherwise_0 : decode cX5_firstOtherwise 0 = .ok (.aload_n 0, 1) := zd02dec2_130.1
theorem dX5_firstOtherwise_1 : decode cX5_firstOtherwise 1 = .ok (.getfield 41, 3) := zd02dec2_130.2.1
theorem dX5_firstOtherwise_4 : decode cX5_firstOtherwise 4 = .ok (.getfield 235, 3) := zd02dec2_130.2.2.1
theorem dX5_firstOtherwise_7 : decode cX5_firstOtherwise 7 = .ok (.iload_n 1, 1) := zd02dec2_130.2.2.2.1
theorem dX5_firstOtherwise_8 : decode cX5_firstOtherwise 8 = .ok (.aaload, 1) := zd02dec2_130.2.2.2.2.1
theorem dX5_firstOtherwise_9 : decode cX5_firstOtherwise 9 = .ok (.astore_n 3, 1) := zd02dec2_130.2.2.2.2.2.1
theorem dX5_firstOtherwise_10 : decode cX5_firstOtherwise 10 = .ok (.iconst 0, 1) := zd02dec2_130.2.2.2.2.2.2.1
theorem dX5_firstOtherwise_11 : decode cX5_firstOtherwise 11 = .ok (.istore 4, 2) := zd02dec2_130.2.2.2.2.2.2.2.1
theorem dX5_firstOtherwise_13 : decode cX5_firstOtherwise 13 = .ok (.iload 4, 2) := zd02dec2_130.2.2.2.2.2.2.2.2.1
theorem dX5_firstOtherwise_15 : decode cX5_firstOtherwise 15 = .ok (.iconst 2, 1) := zd02dec2_130.2.2.2.2.2.2.2.2.2.1
theorem dX5_firstOtherwise_16 : decode cX5_firstOtherwise 16 = .ok (.iadd, 1) := zd02dec2_130.2.2.2.2.2.2.2.2.2.2.1
theorem dX5_firstOtherwise_17 : decode cX5_firstOtherwise 17 = .ok (.aload_n 0, 1) := zd02dec2_130.2.2.2.2.2.2.2.2.2.2.2
theorem zd02dec2_131 : decode cX5_firstOtherwise 18 = .ok (.getfield 41, 3) ∧ decode cX5_firstOtherwise 21 = .ok (.getfield 228, 3) ∧ decode cX5_firstOtherwise 24 = .ok (.iload_n 1, 1) ∧ decode cX5_firstOtherwise 25 = .ok (.iaload, 1) ∧ decode cX5_firstOtherwise 26 = .ok (.if_icmp .ge 57, 3) ∧ decode cX5_firstOtherwise 29 = .ok (.aload_n 0, 1) ∧ decode cX5_firstOtherwise 30 = .ok (.getfield 32, 3) ∧ decode cX5_firstOtherwise 33 = .ok (.iload_n 2, 1) ∧ decode cX5_firstOtherwise 34 = .ok (.aload_n 3, 1) ∧ decode cX5_firstOtherwise 35 = .ok (.iload 4, 2) ∧ decode cX5_firstOtherwise 37 = .ok (.iaload, 1) ∧ decode cX5_firstOtherwise 38 = .ok (.aload_n 3, 1) := by decide +kernel
theorem dX5_firstOtherwise_18 : decode cX5_firstOtherwise 18 = .ok (.getfield 41, 3) := zd02dec2_131.1
theorem dX5_firstOtherwise_21 : decode cX5_firstOtherwise 21 = .ok (.getfield 228, 3) := zd02dec2_131.2.1
theorem dX5_firstOtherwise_24 : decode cX5_firstOtherwise 24 = .ok (.iload_n 1, 1) := zd02dec2_131.2.2.1
theorem dX5_firstOtherwise_25 : decode cX5_firstOtherwise 25 = .ok (.iaload, 1) := zd02dec2_131.2.2.2.1
theorem dX5_firstOtherwise_26 : decode cX5_firstOtherwise 26 = .ok (.if_icmp .ge 57, 3) := zd02dec2_131.2.2.2.2.1
theorem dX5_firstOtherwise_29 : decode cX5_firstOtherwise 29 = .ok (.aload_n 0, 1) := zd02dec2_131.2.2.2.2.2.1
theorem dX5_firstOtherwise_30 : decode cX5_firstOtherwise 30 = .ok (.getfield 32, 3) := zd02dec2_131.2.2.2.2.2.2.1
theorem dX5_firstOtherwise_33 : decode cX5_firstOtherwise 33 = .ok (.iload_n 2, 1) := zd02dec2_131.2.2.2.2.2.2.2.1
theorem dX5_firstOtherwise_34 : decode cX5_firstOtherwise 34 = .ok (.aload_n 3, 1) := zd02dec2_131.2.2.2.2.2.2.2.2.1
theorem dX5_firstOtherwise_35 : decode cX5_firstOtherwise 35 = .ok (.iload 4, 2) := zd02dec2_131.2.2.2.2.2.2.2.2.2.1
theorem dX5_firstOtherwise_37 : decode cX5_firstOtherwise 37 = .ok (.iaload, 1) := zd02dec2_131.2.2.2.2.2.2.2.2.2.2.1
theorem dX5_firstOtherwise_38 : decode cX5_firstOtherwise 38 = .ok (.aload_n 3, 1) := zd02dec2_131.2.2.2.2.2.2.2.2.2.2.2
theorem zd02dec2_132 : decode cX5_firstOtherwise 39 = .ok (.iload 4, 2) ∧ decode cX5_firstOtherwise 41 = .ok (.iconst 1, 1) ∧ decode cX5_firstOtherwise 42 = .ok (.iadd, 1) ∧ decode cX5_firstOtherwise 43 = .ok (.iaload, 1) ∧ decode cX5_firstOtherwise 44 = .ok (.invokevirtual 140, 3) ∧ decode cX5_firstOtherwise 47 = .ok (.istore 5, 2) ∧ decode cX5_firstOtherwise 49 = .ok (.aload_n 0, 1) ∧ decode cX5_firstOtherwise 50 = .ok (.getfield 32, 3) ∧ decode cX5_firstOtherwise 53 = .ok (.iload_n 2, 1) ∧ decode cX5_firstOtherwise 54 = .ok (.aload_n 3, 1) ∧ decode cX5_firstOtherwise 55 = .ok (.iload 4, 2) ∧ decode cX5_firstOtherwise 57 = .ok (.iaload, 1) := by decide +kernel
theorem dX5_firstOtherwise_39 : decode cX5_firstOtherwise 39 = .ok (.iload 4, 2) := zd02dec2_132.1
theorem dX5_firstOtherwise_41 : decode cX5_firstOtherwise 41 = .ok (.iconst 1, 1) := zd02dec2_132.2.1
theorem dX5_firstOtherwise_42 : decode cX5_firstOtherwise 42 = .ok (.iadd, 1) := zd02dec2_132.2.2.1
theorem dX5_firstOtherwise_43 : decode cX5_firstOtherwise 43 = .ok (.iaload, 1) := zd02dec2_132.2.2.2.1
theorem dX5_firstOtherwise_44 : decode cX5_firstOtherwise 44 = .ok (.invokevirtual 140, 3) := zd02dec2_132.2.2.2.2.1
theorem dX5_firstOtherwise_47 : decode cX5_firstOtherwise 47 = .ok (.istore 5, 2) := zd02dec2_132.2.2.2.2.2.1
theorem dX5_firstOtherwise_49 : decode cX5_firstOtherwise 49 = .ok (.aload_n 0, 1) := zd02dec2_132.2.2.2.2.2.2.1
theorem dX5_firstOtherwise_50 : decode cX5_firstOtherwise 50 = .ok (.getfield 32, 3) := zd02dec2_132.2.2.2.2.2.2.2.1
theorem dX5_firstOtherwise_53 : decode cX5_firstOtherwise 53 = .ok (.iload_n 2, 1) := zd02dec2_132.2.2.2.2.2.2.2.2.1
theorem dX5_firstOtherwise_54 : decode cX5_firstOtherwise 54 = .ok (.aload_n 3, 1) := zd02dec2_132.2.2.2.2.2.2.2.2.2.1
theorem dX5_firstOtherwise_55 : decode cX5_firstOtherwise 55 = .ok (.iload 4, 2) := zd02dec2_132.2.2.2.2.2.2.2.2.2.2.1
theorem dX5_firstOtherwise_57 : decode cX5_firstOtherwise 57 = .ok (.iaload, 1) := zd02dec2_132.2.2.2.2.2.2.2.2.2.2.2
theorem zd02dec2_133 : decode cX5_firstOtherwise 58 = .ok (.iload 5, 2) ∧ decode cX5_firstOtherwise 60 = .ok (.invokevirtual 164, 3) ∧ decode cX5_firstOtherwise 63 = .ok (.aload_n 3, 1) ∧ decode cX5_firstOtherwise 64 = .ok (.iload 4, 2) ∧ decode cX5_firstOtherwise 66 = .ok (.iconst 2, 1) ∧ decode cX5_firstOtherwise 67 = .ok (.iadd, 1) ∧ decode cX5_firstOtherwise 68 = .ok (.iaload, 1) ∧ decode cX5_firstOtherwise 69 = .ok (.if_icmp .eq 8, 3) ∧ decode cX5_firstOtherwise 72 = .ok (.iload 4, 2) ∧ decode cX5_firstOtherwise 74 = .ok (.iconst 3, 1) ∧ decode cX5_firstOtherwise 75 = .ok (.idiv, 1) ∧ decode cX5_firstOtherwise 76 = .ok (.ireturn, 1) := by decide +kernel
theorem dX5_firstOtherwise_58 : decode cX5_firstOtherwise 58 = .ok (.iload 5, 2) := zd02dec2_133.1
theorem dX5_firstOtherwise_60 : decode cX5_firstOtherwise 60 = .ok (.invokevirtual 164, 3) := zd02dec2_133.2.1
theorem dX5_firstOtherwise_63 : decode cX5_firstOtherwise 63 = .ok (.aload_n 3, 1) := zd02dec2_133.2.2.1
theorem dX5_firstOtherwise_64 : decode cX5_firstOtherwise 64 = .ok (.iload 4, 2) := zd02dec2_133.2.2.2.1
theorem dX5_firstOtherwise_66 : decode cX5_firstOtherwise 66 = .ok (.iconst 2, 1) := zd02dec2_133.2.2.2.2.1
theorem dX5_firstOtherwise_67 : decode cX5_firstOtherwise 67 = .ok (.iadd, 1) := zd02dec2_133.2.2.2.2.2.1
theorem dX5_firstOtherwise_68 : decode cX5_firstOtherwise 68 = .ok (.iaload, 1) := zd02dec2_133.2.2.2.2.2.2.1
theorem dX5_firstOtherwise_69 : decode cX5_firstOtherwise 69 = .ok (.if_icmp .eq 8, 3) := zd02dec2_133.2.2.2.2.2.2.2.1
theorem dX5_firstOtherwise_72 : decode cX5_firstOtherwise 72 = .ok (.iload 4, 2) := zd02dec2_133.2.2.2.2.2.2.2.2.1
theorem dX5_firstOtherwise_74 : decode cX5_firstOtherwise 74 = .ok (.iconst 3, 1) := zd02dec2_133.2.2.2.2.2.2.2.2.2.1
theorem dX5_firstOtherwise_75 : decode cX5_firstOtherwise 75 = .ok (.idiv, 1) := zd02dec2_133.2.2.2.2.2.2.2.2.2.2.1
theorem dX5_firstOtherwise_76 : decode cX5_firstOtherwise 76 = .ok (.ireturn, 1) := zd02dec2_133.2.2.2.2.2.2.2.2.2.2.2
theorem zd02dec2_134 : decode cX5_firstOtherwise 77 = .ok (.iinc 4 3, 3) ∧ decode cX5_firstOtherwise 80 = .ok (.goto (-67), 3) ∧ decode cX5_firstOtherwise 83 = .ok (.iconst (-1), 1) ∧ decode cX5_firstOtherwise 84 = .ok (.ireturn, 1) := by decide +kernel
theorem dX5_firstOtherwise_77 : decode cX5_firstOtherwise 77 = .ok (.iinc 4 3, 3) := zd02dec2_134.1
theorem dX5_firstOtherwise_80 : decode cX5_firstOtherwise 80 = .ok (.goto (-67), 3) := zd02dec2_134.2.1
theorem dX5_firstOtherwise_83 : decode cX5_firstOtherwise 83 = .ok (.iconst (-1), 1) := zd02dec2_134.2.2.1
theorem dX5_firstOtherwise_84 : decode cX5_firstOtherwise 84 = .ok (.ireturn, 1) := zd02dec2_134.2.2.2
theorem zd02dec2_135 : decode cX6_init 0 = .ok (.aload_n 0, 1) ∧ decode cX6_init 1 = .ok (.invokespecial 1, 3) ∧ decode cX6_init 4 = .ok (.aload_n 0, 1) ∧ decode cX6_init 5 = .ok (.bipush 6, 2) ∧ decode cX6_init 7 = .ok (.newarray .int, 2) ∧ decode cX6_init 9 = .ok (.putfield 7, 3) ∧ decode cX6_init 12 = .ok (.aload_n 0, 1) ∧ decode cX6_init 13 = .ok (.bipush 6, 2) ∧ decode cX6_init 15 = .ok (.newarray .int, 2) ∧ decode cX6_init 17 = .ok (.putfield 13, 3) ∧ decode cX6_init 20 = .ok (.aload_n 0, 1) ∧ decode cX6_init 21 = .ok (.bipush 12, 2) := by decide +kernel
theorem dX6_init_0 : decode cX6_init 0 = .ok (.aload_n 0, 1) := zd02dec2_135.1
theorem dX6_init_1 : decode cX6_init 1 = .ok (.invokespecial 1, 3) := zd02dec2_135.2.1
theorem dX6_init_4 : decode cX6_init 4 = .ok (.aload_n 0, 1) := zd02dec2_135.2.2.1
theorem dX6_init_5 : decode cX6_init 5 = .ok (.bipush 6, 2) := zd02dec2_135.2.2.2.1
theorem dX6_init_7 : decode cX6_init 7 = .ok (.newarray .int, 2) := zd02dec2_135.2.2.2.2.1
theorem dX6_init_9 : decode cX6_init 9 = .ok (.putfield 7, 3) := zd02dec2_135.2.2.2.2.2.1
theorem dX6_init_12 : decode cX6_init 12 = .ok (.aload_n 0, 1) := zd02dec2_135.2.2.2.2.2.2.1
theorem dX6_init_13 : decode cX6_init 13 = .ok (.bipush 6, 2) := zd02dec2_135.2.2.2.2.2.2.2.1
theorem dX6_init_15 : decode cX6_init 15 = .ok (.newarray .int, 2) := zd02dec2_135.2.2.2.2.2.2.2.2.1
theorem dX6_init_17 : decode cX6_init 17 = .ok (.putfield 13, 3) := zd02dec2_135.2.2.2.2.2.2.2.2.2.1
theorem dX6_init_20 : decode cX6_init 20 = .ok (.aload_n 0, 1) := zd02dec2_135.2.2.2.2.2.2.2.2.2.2.1
theorem dX6_init_21 : decode cX6_init 21 = .ok (.bipush 12, 2) := zd02dec2_135.2.2.2.2.2.2.2.2.2.2.2
theorem zd02dec2_136 : decode cX6_init 23 = .ok (.newarray .int, 2) ∧ decode cX6_init 25 = .ok (.putfield 16, 3) ∧ decode cX6_init 28 = .ok (.aload_n 0, 1) ∧ decode cX6_init 29 = .ok (.bipush 12, 2) ∧ decode cX6_init 31 = .ok (.newarray .int, 2) ∧ decode cX6_init 33 = .ok (.putfield 19, 3) ∧ decode cX6_init 36 = .ok (.aload_n 0, 1) ∧ decode cX6_init 37 = .ok (.sipush 160, 3) ∧ decode cX6_init 40 = .ok (.newarray .int, 2) ∧ decode cX6_init 42 = .ok (.putfield 22, 3) ∧ decode cX6_init 45 = .ok (.aload_n 0, 1) ∧ decode cX6_init 46 = .ok (.sipush 1200, 3) := by decide +kernel
theorem dX6_init_23 : decode cX6_init 23 = .ok (.newarray .int, 2) := zd02dec2_136.1
theorem dX6_init_25 : decode cX6_init 25 = .ok (.putfield 16, 3) := zd02dec2_136.2.1
theorem dX6_init_28 : decode cX6_init 28 = .ok (.aload_n 0, 1) := zd02dec2_136.2.2.1
theorem dX6_init_29 : decode cX6_init 29 = .ok (.bipush 12, 2) := zd02dec2_136.2.2.2.1
theorem dX6_init_31 : decode cX6_init 31 = .ok (.newarray .int, 2) := zd02dec2_136.2.2.2.2.1
theorem dX6_init_33 : decode cX6_init 33 = .ok (.putfield 19, 3) := zd02dec2_136.2.2.2.2.2.1
theorem dX6_init_36 : decode cX6_init 36 = .ok (.aload_n 0, 1) := zd02dec2_136.2.2.2.2.2.2.1
theorem dX6_init_37 : decode cX6_init 37 = .ok (.sipush 160, 3) := zd02dec2_136.2.2.2.2.2.2.2.1
theorem dX6_init_40 : decode cX6_init 40 = .ok (.newarray .int, 2) := zd02dec2_136.2.2.2.2.2.2.2.2.1
theorem dX6_init_42 : decode cX6_init 42 = .ok (.putfield 22, 3) := zd02dec2_136.2.2.2.2.2.2.2.2.2.1
theorem dX6_init_45 : decode cX6_init 45 = .ok (.aload_n 0, 1) := zd02dec2_136.2.2.2.2.2.2.2.2.2.2.1
theorem dX6_init_46 : decode cX6_init 46 = .ok (.sipush 1200, 3) := zd02dec2_136.2.2.2.2.2.2.2.2.2.2.2
theorem zd02dec2_137 : decode cX6_init 49 = .ok (.newarray .int, 2) ∧ decode cX6_init 51 = .ok (.putfield 25, 3) ∧ decode cX6_init 54 = .ok (.aload_n 0, 1) ∧ decode cX6_init 55 = .ok (.bipush 24, 2) ∧ decode cX6_init 57 = .ok (.newarray .int, 2) ∧ decode cX6_init 59 = .ok (.putfield 28, 3) ∧ decode cX6_init 62 = .ok (.aload_n 0, 1) ∧ decode cX6_init 63 = .ok (.bipush 24, 2) ∧ decode cX6_init 65 = .ok (.newarray .int, 2) ∧ decode cX6_init 67 = .ok (.putfield 31, 3) ∧ decode cX6_init 70 = .ok (.aload_n 0, 1) ∧ decode cX6_init 71 = .ok (.iconst 3, 1) := by decide +kernel
theorem dX6_init_49 : decode cX6_init 49 = .ok (.newarray .int, 2) := zd02dec2_137.1
theorem dX6_init_51 : decode cX6_init 51 = .ok (.putfield 25, 3) := zd02dec2_137.2.1
theorem dX6_init_54 : decode cX6_init 54 = .ok (.aload_n 0, 1) := zd02dec2_137.2.2.1
theorem dX6_init_55 : decode cX6_init 55 = .ok (.bipush 24, 2) := zd02dec2_137.2.2.2.1
theorem dX6_init_57 : decode cX6_init 57 = .ok (.newarray .int, 2) := zd02dec2_137.2.2.2.2.1
theorem dX6_init_59 : decode cX6_init 59 = .ok (.putfield 28, 3) := zd02dec2_137.2.2.2.2.2.1
theorem dX6_init_62 : decode cX6_init 62 = .ok (.aload_n 0, 1) := zd02dec2_137.2.2.2.2.2.2.1
theorem dX6_init_63 : decode cX6_init 63 = .ok (.bipush 24, 2) := zd02dec2_137.2.2.2.2.2.2.2.1
theorem dX6_init_65 : decode cX6_init 65 = .ok (.newarray .int, 2) := zd02dec2_137.2.2.2.2.2.2.2.2.1
theorem dX6_init_67 : decode cX6_init 67 = .ok (.putfield 31, 3) := zd02dec2_137.2.2.2.2.2.2.2.2.2.1
theorem dX6_init_70 : decode cX6_init 70 = .ok (.aload_n 0, 1) := zd02dec2_137.2.2.2.2.2.2.2.2.2.2.1
theorem dX6_init_71 : decode cX6_init 71 = .ok (.iconst 3, 1) := zd02dec2_137.2.2.2.2.2.2.2.2.2.2.2
theorem zd02dec2_138 : decode cX6_init 72 = .ok (.newarray .int, 2) ∧ decode cX6_init 74 = .ok (.putfield 34, 3) ∧ decode cX6_init 77 = .ok (.aload_n 0, 1) ∧ decode cX6_init 78 = .ok (.iconst 4, 1) ∧ decode cX6_init 79 = .ok (.newarray .int, 2) ∧ decode cX6_init 81 = .ok (.dup, 1) ∧ decode cX6_init 82 = .ok (.iconst 0, 1) ∧ decode cX6_init 83 = .ok (.iconst (-1), 1) ∧ decode cX6_init 84 = .ok (.iastore, 1) ∧ decode cX6_init 85 = .ok (.dup, 1) ∧ decode cX6_init 86 = .ok (.iconst 1, 1) ∧ decode cX6_init 87 = .ok (.iconst (-1), 1) := by decide +kernel
theorem dX6_init_72 : decode cX6_init 72 = .ok (.newarray .int, 2) := zd02dec2_138.1
theorem dX6_init_74 : decode cX6_init 74 = .ok (.putfield 34, 3) := zd02dec2_138.2.1
theorem dX6_init_77 : decode cX6_init 77 = .ok (.aload_n 0, 1) := zd02dec2_138.2.2.1
theorem dX6_init_78 : decode cX6_init 78 = .ok (.iconst 4, 1) := zd02dec2_138.2.2.2.1
theorem dX6_init_79 : decode cX6_init 79 = .ok (.newarray .int, 2) := zd02dec2_138.2.2.2.2.1
theorem dX6_init_81 : decode cX6_init 81 = .ok (.dup, 1) := zd02dec2_138.2.2.2.2.2.1
theorem dX6_init_82 : decode cX6_init 82 = .ok (.iconst 0, 1) := zd02dec2_138.2.2.2.2.2.2.1
theorem dX6_init_83 : decode cX6_init 83 = .ok (.iconst (-1), 1) := zd02dec2_138.2.2.2.2.2.2.2.1
theorem dX6_init_84 : decode cX6_init 84 = .ok (.iastore, 1) := zd02dec2_138.2.2.2.2.2.2.2.2.1
theorem dX6_init_85 : decode cX6_init 85 = .ok (.dup, 1) := zd02dec2_138.2.2.2.2.2.2.2.2.2.1
theorem dX6_init_86 : decode cX6_init 86 = .ok (.iconst 1, 1) := zd02dec2_138.2.2.2.2.2.2.2.2.2.2.1
theorem dX6_init_87 : decode cX6_init 87 = .ok (.iconst (-1), 1) := zd02dec2_138.2.2.2.2.2.2.2.2.2.2.2
theorem zd02dec2_139 : decode cX6_init 88 = .ok (.iastore, 1) ∧ decode cX6_init 89 = .ok (.dup, 1) ∧ decode cX6_init 90 = .ok (.iconst 2, 1) ∧ decode cX6_init 91 = .ok (.iconst (-1), 1) ∧ decode cX6_init 92 = .ok (.iastore, 1) ∧ decode cX6_init 93 = .ok (.dup, 1) ∧ decode cX6_init 94 = .ok (.iconst 3, 1) ∧ decode cX6_init 95 = .ok (.iconst (-1), 1) ∧ decode cX6_init 96 = .ok (.iastore, 1) ∧ decode cX6_init 97 = .ok (.putfield 37, 3) ∧ decode cX6_init 100 = .ok (.aload_n 0, 1) ∧ decode cX6_init 101 = .ok (.iconst 4, 1) := by decide +kernel
theorem dX6_init_88 : decode cX6_init 88 = .ok (.iastore, 1) := zd02dec2_139.1
theorem dX6_init_89 : decode cX6_init 89 = .ok (.dup, 1) := zd02dec2_139.2.1
theorem dX6_init_90 : decode cX6_init 90 = .ok (.iconst 2, 1) := zd02dec2_139.2.2.1
theorem dX6_init_91 : decode cX6_init 91 = .ok (.iconst (-1), 1) := zd02dec2_139.2.2.2.1
theorem dX6_init_92 : decode cX6_init 92 = .ok (.iastore, 1) := zd02dec2_139.2.2.2.2.1
theorem dX6_init_93 : decode cX6_init 93 = .ok (.dup, 1) := zd02dec2_139.2.2.2.2.2.1
theorem dX6_init_94 : decode cX6_init 94 = .ok (.iconst 3, 1) := zd02dec2_139.2.2.2.2.2.2.1
theorem dX6_init_95 : decode cX6_init 95 = .ok (.iconst (-1), 1) := zd02dec2_139.2.2.2.2.2.2.2.1
theorem dX6_init_96 : decode cX6_init 96 = .ok (.iastore, 1) := zd02dec2_139.2.2.2.2.2.2.2.2.1
theorem dX6_init_97 : decode cX6_init 97 = .ok (.putfield 37, 3) := zd02dec2_139.2.2.2.2.2.2.2.2.2.1
theorem dX6_init_100 : decode cX6_init 100 = .ok (.aload_n 0, 1) := zd02dec2_139.2.2.2.2.2.2.2.2.2.2.1
theorem dX6_init_101 : decode cX6_init 101 = .ok (.iconst 4, 1) := zd02dec2_139.2.2.2.2.2.2.2.2.2.2.2
theorem zd02dec2_140 : decode cX6_init 102 = .ok (.newarray .int, 2) ∧ decode cX6_init 104 = .ok (.putfield 40, 3) ∧ decode cX6_init 107 = .ok (.aload_n 0, 1) ∧ decode cX6_init 108 = .ok (.sipush 160, 3) ∧ decode cX6_init 111 = .ok (.newarray .int, 2) ∧ decode cX6_init 113 = .ok (.putfield 43, 3) ∧ decode cX6_init 116 = .ok (.aload_n 0, 1) ∧ decode cX6_init 117 = .ok (.bipush 40, 2) ∧ decode cX6_init 119 = .ok (.newarray .int, 2) ∧ decode cX6_init 121 = .ok (.dup, 1) ∧ decode cX6_init 122 = .ok (.iconst 0, 1) ∧ decode cX6_init 123 = .ok (.bipush 102, 2) := by decide +kernel
theorem dX6_init_102 : decode cX6_init 102 = .ok (.newarray .int, 2) := zd02dec2_140.1
theorem dX6_init_104 : decode cX6_init 104 = .ok (.putfield 40, 3) := zd02dec2_140.2.1
theorem dX6_init_107 : decode cX6_init 107 = .ok (.aload_n 0, 1) := zd02dec2_140.2.2.1
theorem dX6_init_108 : decode cX6_init 108 = .ok (.sipush 160, 3) := zd02dec2_140.2.2.2.1
theorem dX6_init_111 : decode cX6_init 111 = .ok (.newarray .int, 2) := zd02dec2_140.2.2.2.2.1
theorem dX6_init_113 : decode cX6_init 113 = .ok (.putfield 43, 3) := zd02dec2_140.2.2.2.2.2.1
theorem dX6_init_116 : decode cX6_init 116 = .ok (.aload_n 0, 1) := zd02dec2_140.2.2.2.2.2.2.1
theorem dX6_init_117 : decode cX6_init 117 = .ok (.bipush 40, 2) := zd02dec2_140.2.2.2.2.2.2.2.1
theorem dX6_init_119 : decode cX6_init 119 = .ok (.newarray .int, 2) := zd02dec2_140.2.2.2.2.2.2.2.2.1
theorem dX6_init_121 : decode cX6_init 121 = .ok (.dup, 1) := zd02dec2_140.2.2.2.2.2.2.2.2.2.1
theorem dX6_init_122 : decode cX6_init 122 = .ok (.iconst 0, 1) := zd02dec2_140.2.2.2.2.2.2.2.2.2.2.1
theorem dX6_init_123 : decode cX6_init 123 = .ok (.bipush 102, 2) := zd02dec2_140.2.2.2.2.2.2.2.2.2.2.2
theorem zd02dec2_141 : decode cX6_init 125 = .ok (.iastore, 1) ∧ decode cX6_init 126 = .ok (.dup, 1) ∧ decode cX6_init 127 = .ok (.iconst 1, 1) ∧ decode cX6_init 128 = .ok (.bipush 101, 2) ∧ decode cX6_init 130 = .ok (.iastore, 1) ∧ decode cX6_init 131 = .ok (.dup, 1) ∧ decode cX6_init 132 = .ok (.iconst 2, 1) ∧ decode cX6_init 133 = .ok (.bipush 101, 2) ∧ decode cX6_init 135 = .ok (.iastore, 1) ∧ decode cX6_init 136 = .ok (.dup, 1) ∧ decode cX6_init 137 = .ok (.iconst 3, 1) ∧ decode cX6_init 138 = .ok (.bipush 108, 2) := by decide +kernel
theorem dX6_init_125 : decode cX6_init 125 = .ok (.iastore, 1) := zd02dec2_141.1
theorem dX6_init_126 : decode cX6_init 126 = .ok (.dup, 1) := zd02dec2_141.2.1
theorem dX6_init_127 : decode cX6_init 127 = .ok (.iconst 1, 1) := zd02dec2_141.2.2.1
theorem dX6_init_128 : decode cX6_init 128 = .ok (.bipush 101, 2) := zd02dec2_141.2.2.2.1
theorem dX6_init_130 : decode cX6_init 130 = .ok (.iastore, 1) := zd02dec2_141.2.2.2.2.1
theorem dX6_init_131 : decode cX6_init 131 = .ok (.dup, 1) := zd02dec2_141.2.2.2.2.2.1
theorem dX6_init_132 : decode cX6_init 132 = .ok (.iconst 2, 1) := zd02dec2_141.2.2.2.2.2.2.1
theorem dX6_init_133 : decode cX6_init 133 = .ok (.bipush 101, 2) := zd02dec2_141.2.2.2.2.2.2.2.1
theorem dX6_init_135 : decode cX6_init 135 = .ok (.iastore, 1) := zd02dec2_141.2.2.2.2.2.2.2.2.1
theorem dX6_init_136 : decode cX6_init 136 = .ok (.dup, 1) := zd02dec2_141.2.2.2.2.2.2.2.2.2.1
theorem dX6_init_137 : decode cX6_init 137 = .ok (.iconst 3, 1) := zd02dec2_141.2.2.2.2.2.2.2.2.2.2.1
theorem dX6_init_138 : decode cX6_init 138 = .ok (.bipush 108, 2) := zd02dec2_141.2.2.2.2.2.2.2.2.2.2.2
theorem zd02dec2_142 : decode cX6_init 140 = .ok (.iastore, 1) ∧ decode cX6_init 141 = .ok (.dup, 1) ∧ decode cX6_init 142 = .ok (.iconst 4, 1) ∧ decode cX6_init 143 = .ok (.bipush 115, 2) ∧ decode cX6_init 145 = .ok (.iastore, 1) ∧ decode cX6_init 146 = .ok (.dup, 1) ∧ decode cX6_init 147 = .ok (.iconst 5, 1) ∧ decode cX6_init 148 = .ok (.bipush 32, 2) ∧ decode cX6_init 150 = .ok (.iastore, 1) ∧ decode cX6_init 151 = .ok (.dup, 1) ∧ decode cX6_init 152 = .ok (.bipush 6, 2) ∧ decode cX6_init 154 = .ok (.bipush 115, 2) := by decide +kernel
theorem dX6_init_140 : decode cX6_init 140 = .ok (.iastore, 1) := zd02dec2_142.1
theorem dX6_init_141 : decode cX6_init 141 = .ok (.dup, 1) := zd02dec2_142.2.1
theorem dX6_init_142 : decode cX6_init 142 = .ok (.iconst 4, 1) := zd02dec2_142.2.2.1
theorem dX6_init_143 : decode cX6_init 143 = .ok (.bipush 115, 2) := zd02dec2_142.2.2.2.1
theorem dX6_init_145 : decode cX6_init 145 = .ok (.iastore, 1) := zd02dec2_142.2.2.2.2.1
theorem dX6_init_146 : decode cX6_init 146 = .ok (.dup, 1) := zd02dec2_142.2.2.2.2.2.1
theorem dX6_init_147 : decode cX6_init 147 = .ok (.iconst 5, 1) := zd02dec2_142.2.2.2.2.2.2.1
theorem dX6_init_148 : decode cX6_init 148 = .ok (.bipush 32, 2) := zd02dec2_142.2.2.2.2.2.2.2.1
theorem dX6_init_150 : decode cX6_init 150 = .ok (.iastore, 1) := zd02dec2_142.2.2.2.2.2.2.2.2.1
theorem dX6_init_151 : decode cX6_init 151 = .ok (.dup, 1) := zd02dec2_142.2.2.2.2.2.2.2.2.2.1
theorem dX6_init_152 : decode cX6_init 152 = .ok (.bipush 6, 2) := zd02dec2_142.2.2.2.2.2.2.2.2.2.2.1
theorem dX6_init_154 : decode cX6_init 154 = .ok (.bipush 115, 2) := zd02dec2_142.2.2.2.2.2.2.2.2.2.2.2
theorem zd02dec2_143 : decode cX6_init 156 = .ok (.iastore, 1) ∧ decode cX6_init 157 = .ok (.dup, 1) ∧ decode cX6_init 158 = .ok (.bipush 7, 2) ∧ decode cX6_init 160 = .ok (.bipush 105, 2) ∧ decode cX6_init 162 = .ok (.iastore, 1) ∧ decode cX6_init 163 = .ok (.dup, 1) ∧ decode cX6_init 164 = .ok (.bipush 8, 2) ∧ decode cX6_init 166 = .ok (.bipush 122, 2) ∧ decode cX6_init 168 = .ok (.iastore, 1) ∧ decode cX6_init 169 = .ok (.dup, 1) ∧ decode cX6_init 170 = .ok (.bipush 9, 2) ∧ decode cX6_init 172 = .ok (.bipush 101, 2) := by decide +kernel
theorem dX6_init_156 : decode cX6_init 156 = .ok (.iastore, 1) := zd02dec2_143.1
theorem dX6_init_157 : decode cX6_init 157 = .ok (.dup, 1) := zd02dec2_143.2.1
theorem dX6_init_158 : decode cX6_init 158 = .ok (.bipush 7, 2) := zd02dec2_143.2.2.1
theorem dX6_init_160 : decode cX6_init 160 = .ok (.bipush 105, 2) := zd02dec2_143.2.2.2.1
theorem dX6_init_162 : decode cX6_init 162 = .ok (.iastore, 1) := zd02dec2_143.2.2.2.2.1
theorem dX6_init_163 : decode cX6_init 163 = .ok (.dup, 1) := zd02dec2_143.2.2.2.2.2.1
theorem dX6_init_164 : decode cX6_init 164 = .ok (.bipush 8, 2) := zd02dec2_143.2.2.2.2.2.2.1
theorem dX6_init_166 : decode cX6_init 166 = .ok (.bipush 122, 2) := zd02dec2_143.2.2.2.2.2.2.2.1
theorem dX6_init_168 : decode cX6_init 168 = .ok (.iastore, 1) := zd02dec2_143.2.2.2.2.2.2.2.2.1
theorem dX6_init_169 : decode cX6_init 169 = .ok (.dup, 1) := zd02dec2_143.2.2.2.2.2.2.2.2.2.1
theorem dX6_init_170 : decode cX6_init 170 = .ok (.bipush 9, 2) := zd02dec2_143.2.2.2.2.2.2.2.2.2.2.1
theorem dX6_init_172 : decode cX6_init 172 = .ok (.bipush 101, 2) := zd02dec2_143.2.2.2.2.2.2.2.2.2.2.2
theorem zd02dec2_144 : decode cX6_init 174 = .ok (.iastore, 1) ∧ decode cX6_init 175 = .ok (.dup, 1) ∧ decode cX6_init 176 = .ok (.bipush 10, 2) ∧ decode cX6_init 178 = .ok (.bipush 32, 2) ∧ decode cX6_init 180 = .ok (.iastore, 1) ∧ decode cX6_init 181 = .ok (.dup, 1) ∧ decode cX6_init 182 = .ok (.bipush 11, 2) ∧ decode cX6_init 184 = .ok (.bipush 45, 2) ∧ decode cX6_init 186 = .ok (.iastore, 1) ∧ decode cX6_init 187 = .ok (.dup, 1) ∧ decode cX6_init 188 = .ok (.bipush 12, 2) ∧ decode cX6_init 190 = .ok (.bipush 32, 2) := by decide +kernel
theorem dX6_init_174 : decode cX6_init 174 = .ok (.iastore, 1) := zd02dec2_144.1
theorem dX6_init_175 : decode cX6_init 175 = .ok (.dup, 1) := zd02dec2_144.2.1
theorem dX6_init_176 : decode cX6_init 176 = .ok (.bipush 10, 2) := zd02dec2_144.2.2.1
theorem dX6_init_178 : decode cX6_init 178 = .ok (.bipush 32, 2) := zd02dec2_144.2.2.2.1
theorem dX6_init_180 : decode cX6_init 180 = .ok (.iastore, 1) := zd02dec2_144.2.2.2.2.1
theorem dX6_init_181 : decode cX6_init 181 = .ok (.dup, 1) := zd02dec2_144.2.2.2.2.2.1
theorem dX6_init_182 : decode cX6_init 182 = .ok (.bipush 11, 2) := zd02dec2_144.2.2.2.2.2.2.1
theorem dX6_init_184 : decode cX6_init 184 = .ok (.bipush 45, 2) := zd02dec2_144.2.2.2.2.2.2.2.1
theorem dX6_init_186 : decode cX6_init 186 = .ok (.iastore, 1) := zd02dec2_144.2.2.2.2.2.2.2.2.1
theorem dX6_init_187 : decode cX6_init 187 = .ok (.dup, 1) := zd02dec2_144.2.2.2.2.2.2.2.2.2.1
theorem dX6_init_188 : decode cX6_init 188 = .ok (.bipush 12, 2) := zd02dec2_144.2.2.2.2.2.2.2.2.2.2.1
theorem dX6_init_190 : decode cX6_init 190 = .ok (.bipush 32, 2) := zd02dec2_144.2.2.2.2.2.2.2.2.2.2.2
theorem zd02dec2_145 : decode cX6_init 192 = .ok (.iastore, 1) ∧ decode cX6_init 193 = .ok (.dup, 1) ∧ decode cX6_init 194 = .ok (.bipush 13, 2) ∧ decode cX6_init 196 = .ok (.bipush 114, 2) ∧ decode cX6_init 198 = .ok (.iastore, 1) ∧ decode cX6_init 199 = .ok (.dup, 1) ∧ decode cX6_init 200 = .ok (.bipush 14, 2) ∧ decode cX6_init 202 = .ok (.bipush 111, 2) ∧ decode cX6_init 204 = .ok (.iastore, 1) ∧ decode cX6_init 205 = .ok (.dup, 1) ∧ decode cX6_init 206 = .ok (.bipush 15, 2) ∧ decode cX6_init 208 = .ok (.bipush 117, 2) := by decide +kernel
theorem dX6_init_192 : decode cX6_init 192 = .ok (.iastore, 1) := zd02dec2_145.1
theorem dX6_init_193 : decode cX6_init 193 = .ok (.dup, 1) := zd02dec2_145.2.1
theorem dX6_init_194 : decode cX6_init 194 = .ok (.bipush 13, 2) := zd02dec2_145.2.2.1
theorem dX6_init_196 : decode cX6_init 196 = .ok (.bipush 114, 2) := zd02dec2_145.2.2.2.1
theorem dX6_init_198 : decode cX6_init 198 = .ok (.iastore, 1) := zd02dec2_145.2.2.2.2.1
theorem dX6_init_199 : decode cX6_init 199 = .ok (.dup, 1) := zd02dec2_145.2.2.2.2.2.1
theorem dX6_init_200 : decode cX6_init 200 = .ok (.bipush 14, 2) := zd02dec2_145.2.2.2.2.2.2.1
theorem dX6_init_202 : decode cX6_init 202 = .ok (.bipush 111, 2) := zd02dec2_145.2.2.2.2.2.2.2.1
theorem dX6_init_204 : decode cX6_init 204 = .ok (.iastore, 1) := zd02dec2_145.2.2.2.2.2.2.2.2.1
theorem dX6_init_205 : decode cX6_init 205 = .ok (.dup, 1) := zd02dec2_145.2.2.2.2.2.2.2.2.2.1
theorem dX6_init_206 : decode cX6_init 206 = .ok (.bipush 15, 2) := zd02dec2_145.2.2.2.2.2.2.2.2.2.2.1
theorem dX6_init_208 : decode cX6_init 208 = .ok (.bipush 117, 2) := zd02dec2_145.2.2.2.2.2.2.2.2.2.2.2
theorem zd02dec2_146 : decode cX6_init 210 = .ok (.iastore, 1) ∧ decode cX6_init 211 = .ok (.dup, 1) ∧ decode cX6_init 212 = .ok (.bipush 16, 2) ∧ decode cX6_init 214 = .ok (.bipush 110, 2) ∧ decode cX6_init 216 = .ok (.iastore, 1) ∧ decode cX6_init 217 = .ok (.dup, 1) ∧ decode cX6_init 218 = .ok (.bipush 17, 2) ∧ decode cX6_init 220 = .ok (.bipush 100, 2) ∧ decode cX6_init 222 = .ok (.iastore, 1) ∧ decode cX6_init 223 = .ok (.dup, 1) ∧ decode cX6_init 224 = .ok (.bipush 18, 2) ∧ decode cX6_init 226 = .ok (.bipush 32, 2) := by decide +kernel
theorem dX6_init_210 : decode cX6_init 210 = .ok (.iastore, 1) := zd02dec2_146.1
theorem dX6_init_211 : decode cX6_init 211 = .ok (.dup, 1) := zd02dec2_146.2.1
theorem dX6_init_212 : decode cX6_init 212 = .ok (.bipush 16, 2) := zd02dec2_146.2.2.1
theorem dX6_init_214 : decode cX6_init 214 = .ok (.bipush 110, 2) := zd02dec2_146.2.2.2.1
theorem dX6_init_216 : decode cX6_init 216 = .ok (.iastore, 1) := zd02dec2_146.2.2.2.2.1
theorem dX6_init_217 : decode cX6_init 217 = .ok (.dup, 1) := zd02dec2_146.2.2.2.2.2.1
theorem dX6_init_218 : decode cX6_init 218 = .ok (.bipush 17, 2) := zd02dec2_146.2.2.2.2.2.2.1
theorem dX6_init_220 : decode cX6_init 220 = .ok (.bipush 100, 2) := zd02dec2_146.2.2.2.2.2.2.2.1
theorem dX6_init_222 : decode cX6_init 222 = .ok (.iastore, 1) := zd02dec2_146.2.2.2.2.2.2.2.2.1
theorem dX6_init_223 : decode cX6_init 223 = .ok (.dup, 1) := zd02dec2_146.2.2.2.2.2.2.2.2.2.1
theorem dX6_init_224 : decode cX6_init 224 = .ok (.bipush 18, 2) := zd02dec2_146.2.2.2.2.2.2.2.2.2.2.1
theorem dX6_init_226 : decode cX6_init 226 = .ok (.bipush 32, 2) := zd02dec2_146.2.2.2.2.2.2.2.2.2.2.2
theorem zd02dec2_147 : decode cX6_init 228 = .ok (.iastore, 1) ∧ decode cX6_init 229 = .ok (.dup, 1) ∧ decode cX6_init 230 = .ok (.bipush 19, 2) ∧ decode cX6_init 232 = .ok (.bipush 59, 2) ∧ decode cX6_init 234 = .ok (.iastore, 1) ∧ decode cX6_init 235 = .ok (.dup, 1) ∧ decode cX6_init 236 = .ok (.bipush 20, 2) ∧ decode cX6_init 238 = .ok (.bipush 32, 2) ∧ decode cX6_init 240 = .ok (.iastore, 1) ∧ decode cX6_init 241 = .ok (.dup, 1) ∧ decode cX6_init 242 = .ok (.bipush 21, 2) ∧ decode cX6_init 244 = .ok (.bipush 119, 2) := by decide +kernel
theorem dX6_init_228 : decode cX6_init 228 = .ok (.iastore, 1) := zd02dec2_147.1
theorem dX6_init_229 : decode cX6_init 229 = .ok (.dup, 1) := zd02dec2_147.2.1
theorem dX6_init_230 : decode cX6_init 230 = .ok (.bipush 19, 2) := zd02dec2_147.2.2.1
theorem dX6_init_232 : decode cX6_init 232 = .ok (.bipush 59, 2) := zd02dec2_147.2.2.2.1
theorem dX6_init_234 : decode cX6_init 234 = .ok (.iastore, 1) := zd02dec2_147.2.2.2.2.1
theorem dX6_init_235 : decode cX6_init 235 = .ok (.dup, 1) := zd02dec2_147.2.2.2.2.2.1
theorem dX6_init_236 : decode cX6_init 236 = .ok (.bipush 20, 2) := zd02dec2_147.2.2.2.2.2.2.1
theorem dX6_init_238 : decode cX6_init 238 = .ok (.bipush 32, 2) := zd02dec2_147.2.2.2.2.2.2.2.1
theorem dX6_init_240 : decode cX6_init 240 = .ok (.iastore, 1) := zd02dec2_147.2.2.2.2.2.2.2.2.1
theorem dX6_init_241 : decode cX6_init 241 = .ok (.dup, 1) := zd02dec2_147.2.2.2.2.2.2.2.2.2.1
theorem dX6_init_242 : decode cX6_init 242 = .ok (.bipush 21, 2) := zd02dec2_147.2.2.2.2.2.2.2.2.2.2.1
theorem dX6_init_244 : decode cX6_init 244 = .ok (.bipush 119, 2) := zd02dec2_147.2.2.2.2.2.2.2.2.2.2.2
theorem zd02dec2_148 : decode cX6_init 246 = .ok (.iastore, 1) ∧ decode cX6_init 247 = .ok (.dup, 1) ∧ decode cX6_init 248 = .ok (.bipush 22, 2) ∧ decode cX6_init 250 = .ok (.bipush 101, 2) ∧ decode cX6_init 252 = .ok (.iastore, 1) ∧ decode cX6_init 253 = .ok (.dup, 1) ∧ decode cX6_init 254 = .ok (.bipush 23, 2) ∧ decode cX6_init 256 = .ok (.bipush 97, 2) ∧ decode cX6_init 258 = .ok (.iastore, 1) ∧ decode cX6_init 259 = .ok (.dup, 1) ∧ decode cX6_init 260 = .ok (.bipush 24, 2) ∧ decode cX6_init 262 = .ok (.bipush 114, 2) := by decide +kernel
theorem dX6_init_246 : decode cX6_init 246 = .ok (.iastore, 1) := zd02dec2_148.1
theorem dX6_init_247 : decode cX6_init 247 = .ok (.dup, 1) := zd02dec2_148.2.1
theorem dX6_init_248 : decode cX6_init 248 = .ok (.bipush 22, 2) := zd02dec2_148.2.2.1
theorem dX6_init_250 : decode cX6_init 250 = .ok (.bipush 101, 2) := zd02dec2_148.2.2.2.1
theorem dX6_init_252 : decode cX6_init 252 = .ok (.iastore, 1) := zd02dec2_148.2.2.2.2.1
theorem dX6_init_253 : decode cX6_init 253 = .ok (.dup, 1) := zd02dec2_148.2.2.2.2.2.1
theorem dX6_init_254 : decode cX6_init 254 = .ok (.bipush 23, 2) := zd02dec2_148.2.2.2.2.2.2.1
theorem dX6_init_256 : decode cX6_init 256 = .ok (.bipush 97, 2) := zd02dec2_148.2.2.2.2.2.2.2.1
theorem dX6_init_258 : decode cX6_init 258 = .ok (.iastore, 1) := zd02dec2_148.2.2.2.2.2.2.2.2.1
theorem dX6_init_259 : decode cX6_init 259 = .ok (.dup, 1) := zd02dec2_148.2.2.2.2.2.2.2.2.2.1
theorem dX6_init_260 : decode cX6_init 260 = .ok (.bipush 24, 2) := zd02dec2_148.2.2.2.2.2.2.2.2.2.2.1
theorem dX6_init_262 : decode cX6_init 262 = .ok (.bipush 114, 2) := zd02dec2_148.2.2.2.2.2.2.2.2.2.2.2
theorem zd02dec2_149 : decode cX6_init 264 = .ok (.iastore, 1) ∧ decode cX6_init 265 = .ok (.dup, 1) ∧ decode cX6_init 266 = .ok (.bipush 25, 2) ∧ decode cX6_init 268 = .ok (.bipush 115, 2) ∧ decode cX6_init 270 = .ok (.iastore, 1) ∧ decode cX6_init 271 = .ok (.dup, 1) ∧ decode cX6_init 272 = .ok (.bipush 26, 2) ∧ decode cX6_init 274 = .ok (.bipush 32, 2) ∧ decode cX6_init 276 = .ok (.iastore, 1) ∧ decode cX6_init 277 = .ok (.dup, 1) ∧ decode cX6_init 278 = .ok (.bipush 27, 2) ∧ decode cX6_init 280 = .ok (.bipush 49, 2) := by decide +kernel
theorem dX6_init_264 : decode cX6_init 264 = .ok (.iastore, 1) := zd02dec2_149.1
theorem dX6_init_265 : decode cX6_init 265 = .ok (.dup, 1) := zd02dec2_149.2.1
theorem dX6_init_266 : decode cX6_init 266 = .ok (.bipush 25, 2) := zd02dec2_149.2.2.1
theorem dX6_init_268 : decode cX6_init 268 = .ok (.bipush 115, 2) := zd02dec2_149.2.2.2.1
theorem dX6_init_270 : decode cX6_init 270 = .ok (.iastore, 1) := zd02dec2_149.2.2.2.2.1
theorem dX6_init_271 : decode cX6_init 271 = .ok (.dup, 1) := zd02dec2_149.2.2.2.2.2.1
theorem dX6_init_272 : decode cX6_init 272 = .ok (.bipush 26, 2) := zd02dec2_149.2.2.2.2.2.2.1
theorem dX6_init_274 : decode cX6_init 274 = .ok (.bipush 32, 2) := zd02dec2_149.2.2.2.2.2.2.2.1
theorem dX6_init_276 : decode cX6_init 276 = .ok (.iastore, 1) := zd02dec2_149.2.2.2.2.2.2.2.2.1
theorem dX6_init_277 : decode cX6_init 277 = .ok (.dup, 1) := zd02dec2_149.2.2.2.2.2.2.2.2.2.1
theorem dX6_init_278 : decode cX6_init 278 = .ok (.bipush 27, 2) := zd02dec2_149.2.2.2.2.2.2.2.2.2.2.1
theorem dX6_init_280 : decode cX6_init 280 = .ok (.bipush 49, 2) := zd02dec2_149.2.2.2.2.2.2.2.2.2.2.2
theorem zd02dec2_150 : decode cX6_init 282 = .ok (.iastore, 1) ∧ decode cX6_init 283 = .ok (.dup, 1) ∧ decode cX6_init 284 = .ok (.bipush 28, 2) ∧ decode cX6_init 286 = .ok (.bipush 32, 2) ∧ decode cX6_init 288 = .ok (.iastore, 1) ∧ decode cX6_init 289 = .ok (.dup, 1) ∧ decode cX6_init 290 = .ok (.bipush 29, 2) ∧ decode cX6_init 292 = .ok (.bipush 59, 2) ∧ decode cX6_init 294 = .ok (.iastore, 1) ∧ decode cX6_init 295 = .ok (.dup, 1) ∧ decode cX6_init 296 = .ok (.bipush 30, 2) ∧ decode cX6_init 298 = .ok (.bipush 32, 2) := by decide +kernel
theorem dX6_init_282 : decode cX6_init 282 = .ok (.iastore, 1) := zd02dec2_150.1
theorem dX6_init_283 : decode cX6_init 283 = .ok (.dup, 1) := zd02dec2_150.2.1
theorem dX6_init_284 : decode cX6_init 284 = .ok (.bipush 28, 2) := zd02dec2_150.2.2.1
theorem dX6_init_286 : decode cX6_init 286 = .ok (.bipush 32, 2) := zd02dec2_150.2.2.2.1
theorem dX6_init_288 : decode cX6_init 288 = .ok (.iastore, 1) := zd02dec2_150.2.2.2.2.1
theorem dX6_init_289 : decode cX6_init 289 = .ok (.dup, 1) := zd02dec2_150.2.2.2.2.2.1
theorem dX6_init_290 : decode cX6_init 290 = .ok (.bipush 29, 2) := zd02dec2_150.2.2.2.2.2.2.1
theorem dX6_init_292 : decode cX6_init 292 = .ok (.bipush 59, 2) := zd02dec2_150.2.2.2.2.2.2.2.1
theorem dX6_init_294 : decode cX6_init 294 = .ok (.iastore, 1) := zd02dec2_150.2.2.2.2.2.2.2.2.1
theorem dX6_init_295 : decode cX6_init 295 = .ok (.dup, 1) := zd02dec2_150.2.2.2.2.2.2.2.2.2.1
theorem dX6_init_296 : decode cX6_init 296 = .ok (.bipush 30, 2) := zd02dec2_150.2.2.2.2.2.2.2.2.2.2.1
theorem dX6_init_298 : decode cX6_init 298 = .ok (.bipush 32, 2) := zd02dec2_150.2.2.2.2.2.2.2.2.2.2.2
theorem zd02dec2_151 : decode cX6_init 300 = .ok (.iastore, 1) ∧ decode cX6_init 301 = .ok (.dup, 1) ∧ decode cX6_init 302 = .ok (.bipush 31, 2) ∧ decode cX6_init 304 = .ok (.bipush 98, 2) ∧ decode cX6_init 306 = .ok (.iastore, 1) ∧ decode cX6_init 307 = .ok (.dup, 1) ∧ decode cX6_init 308 = .ok (.bipush 32, 2) ∧ decode cX6_init 310 = .ok (.bipush 97, 2) ∧ decode cX6_init 312 = .ok (.iastore, 1) ∧ decode cX6_init 313 = .ok (.dup, 1) ∧ decode cX6_init 314 = .ok (.bipush 33, 2) ∧ decode cX6_init 316 = .ok (.bipush 114, 2) := by decide +kernel
theorem dX6_init_300 : decode cX6_init 300 = .ok (.iastore, 1) := zd02dec2_151.1
theorem dX6_init_301 : decode cX6_init 301 = .ok (.dup, 1) := zd02dec2_151.2.1
theorem dX6_init_302 : decode cX6_init 302 = .ok (.bipush 31, 2) := zd02dec2_151.2.2.1
theorem dX6_init_304 : decode cX6_init 304 = .ok (.bipush 98, 2) := zd02dec2_151.2.2.2.1
theorem dX6_init_306 : decode cX6_init 306 = .ok (.iastore, 1) := zd02dec2_151.2.2.2.2.1
theorem dX6_init_307 : decode cX6_init 307 = .ok (.dup, 1) := zd02dec2_151.2.2.2.2.2.1
theorem dX6_init_308 : decode cX6_init 308 = .ok (.bipush 32, 2) := zd02dec2_151.2.2.2.2.2.2.1
theorem dX6_init_310 : decode cX6_init 310 = .ok (.bipush 97, 2) := zd02dec2_151.2.2.2.2.2.2.2.1
theorem dX6_init_312 : decode cX6_init 312 = .ok (.iastore, 1) := zd02dec2_151.2.2.2.2.2.2.2.2.1
theorem dX6_init_313 : decode cX6_init 313 = .ok (.dup, 1) := zd02dec2_151.2.2.2.2.2.2.2.2.2.1
theorem dX6_init_314 : decode cX6_init 314 = .ok (.bipush 33, 2) := zd02dec2_151.2.2.2.2.2.2.2.2.2.2.1
theorem dX6_init_316 : decode cX6_init 316 = .ok (.bipush 114, 2) := zd02dec2_151.2.2.2.2.2.2.2.2.2.2.2
theorem zd02dec2_152 : decode cX6_init 318 = .ok (.iastore, 1) ∧ decode cX6_init 319 = .ok (.dup, 1) ∧ decode cX6_init 320 = .ok (.bipush 34, 2) ∧ decode cX6_init 322 = .ok (.bipush 115, 2) ∧ decode cX6_init 324 = .ok (.iastore, 1) ∧ decode cX6_init 325 = .ok (.dup, 1) ∧ decode cX6_init 326 = .ok (.bipush 35, 2) ∧ decode cX6_init 328 = .ok (.bipush 32, 2) ∧ decode cX6_init 330 = .ok (.iastore, 1) ∧ decode cX6_init 331 = .ok (.dup, 1) ∧ decode cX6_init 332 = .ok (.bipush 36, 2) ∧ decode cX6_init 334 = .ok (.bipush 51, 2) := by decide +kernel
theorem dX6_init_318 : decode cX6_init 318 = .ok (.iastore, 1) := zd02dec2_152.1
theorem dX6_init_319 : decode cX6_init 319 = .ok (.dup, 1) := zd02dec2_152.2.1
theorem dX6_init_320 : decode cX6_init 320 = .ok (.bipush 34, 2) := zd02dec2_152.2.2.1
theorem dX6_init_322 : decode cX6_init 322 = .ok (.bipush 115, 2) := zd02dec2_152.2.2.2.1
theorem dX6_init_324 : decode cX6_init 324 = .ok (.iastore, 1) := zd02dec2_152.2.2.2.2.1
theorem dX6_init_325 : decode cX6_init 325 = .ok (.dup, 1) := zd02dec2_152.2.2.2.2.2.1
theorem dX6_init_326 : decode cX6_init 326 = .ok (.bipush 35, 2) := zd02dec2_152.2.2.2.2.2.2.1
theorem dX6_init_328 : decode cX6_init 328 = .ok (.bipush 32, 2) := zd02dec2_152.2.2.2.2.2.2.2.1
theorem dX6_init_330 : decode cX6_init 330 = .ok (.iastore, 1) := zd02dec2_152.2.2.2.2.2.2.2.2.1
theorem dX6_init_331 : decode cX6_init 331 = .ok (.dup, 1) := zd02dec2_152.2.2.2.2.2.2.2.2.2.1
theorem dX6_init_332 : decode cX6_init 332 = .ok (.bipush 36, 2) := zd02dec2_152.2.2.2.2.2.2.2.2.2.2.1
theorem dX6_init_334 : decode cX6_init 334 = .ok (.bipush 51, 2) := zd02dec2_152.2.2.2.2.2.2.2.2.2.2.2
theorem zd02dec2_153 : decode cX6_init 336 = .ok (.iastore, 1) ∧ decode cX6_init 337 = .ok (.dup, 1) ∧ decode cX6_init 338 = .ok (.bipush 37, 2) ∧ decode cX6_init 340 = .ok (.bipush 48, 2) ∧ decode cX6_init 342 = .ok (.iastore, 1) ∧ decode cX6_init 343 = .ok (.dup, 1) ∧ decode cX6_init 344 = .ok (.bipush 38, 2) ∧ decode cX6_init 346 = .ok (.bipush 32, 2) ∧ decode cX6_init 348 = .ok (.iastore, 1) ∧ decode cX6_init 349 = .ok (.dup, 1) ∧ decode cX6_init 350 = .ok (.bipush 39, 2) ∧ decode cX6_init 352 = .ok (.bipush 59, 2) := by decide +kernel
theorem dX6_init_336 : decode cX6_init 336 = .ok (.iastore, 1) := zd02dec2_153.1
theorem dX6_init_337 : decode cX6_init 337 = .ok (.dup, 1) := zd02dec2_153.2.1
theorem dX6_init_338 : decode cX6_init 338 = .ok (.bipush 37, 2) := zd02dec2_153.2.2.1
theorem dX6_init_340 : decode cX6_init 340 = .ok (.bipush 48, 2) := zd02dec2_153.2.2.2.1
theorem dX6_init_342 : decode cX6_init 342 = .ok (.iastore, 1) := zd02dec2_153.2.2.2.2.1
theorem dX6_init_343 : decode cX6_init 343 = .ok (.dup, 1) := zd02dec2_153.2.2.2.2.2.1
theorem dX6_init_344 : decode cX6_init 344 = .ok (.bipush 38, 2) := zd02dec2_153.2.2.2.2.2.2.1
theorem dX6_init_346 : decode cX6_init 346 = .ok (.bipush 32, 2) := zd02dec2_153.2.2.2.2.2.2.2.1
theorem dX6_init_348 : decode cX6_init 348 = .ok (.iastore, 1) := zd02dec2_153.2.2.2.2.2.2.2.2.1
theorem dX6_init_349 : decode cX6_init 349 = .ok (.dup, 1) := zd02dec2_153.2.2.2.2.2.2.2.2.2.1
theorem dX6_init_350 : decode cX6_init 350 = .ok (.bipush 39, 2) := zd02dec2_153.2.2.2.2.2.2.2.2.2.2.1
theorem dX6_init_352 : decode cX6_init 352 = .ok (.bipush 59, 2) := zd02dec2_153.2.2.2.2.2.2.2.2.2.2.2
theorem zd02dec2_154 : decode cX6_init 354 = .ok (.iastore, 1) ∧ decode cX6_init 355 = .ok (.putfield 46, 3) ∧ decode cX6_init 358 = .ok (.aload_n 0, 1) ∧ decode cX6_init 359 = .ok (.bipush 96, 2) ∧ decode cX6_init 361 = .ok (.newarray .int, 2) ∧ decode cX6_init 363 = .ok (.dup, 1) ∧ decode cX6_init 364 = .ok (.iconst 0, 1) ∧ decode cX6_init 365 = .ok (.bipush 102, 2) ∧ decode cX6_init 367 = .ok (.iastore, 1) ∧ decode cX6_init 368 = .ok (.dup, 1) ∧ decode cX6_init 369 = .ok (.iconst 1, 1) ∧ decode cX6_init 370 = .ok (.bipush 101, 2) := by decide +kernel
theorem dX6_init_354 : decode cX6_init 354 = .ok (.iastore, 1) := zd02dec2_154.1
theorem dX6_init_355 : decode cX6_init 355 = .ok (.putfield 46, 3) := zd02dec2_154.2.1
theorem dX6_init_358 : decode cX6_init 358 = .ok (.aload_n 0, 1) := zd02dec2_154.2.2.1
theorem dX6_init_359 : decode cX6_init 359 = .ok (.bipush 96, 2) := zd02dec2_154.2.2.2.1
theorem dX6_init_361 : decode cX6_init 361 = .ok (.newarray .int, 2) := zd02dec2_154.2.2.2.2.1
theorem dX6_init_363 : decode cX6_init 363 = .ok (.dup, 1) := zd02dec2_154.2.2.2.2.2.1
theorem dX6_init_364 : decode cX6_init 364 = .ok (.iconst 0, 1) := zd02dec2_154.2.2.2.2.2.2.1
theorem dX6_init_365 : decode cX6_init 365 = .ok (.bipush 102, 2) := zd02dec2_154.2.2.2.2.2.2.2.1
theorem dX6_init_367 : decode cX6_init 367 = .ok (.iastore, 1) := zd02dec2_154.2.2.2.2.2.2.2.2.1
theorem dX6_init_368 : decode cX6_init 368 = .ok (.dup, 1) := zd02dec2_154.2.2.2.2.2.2.2.2.2.1
theorem dX6_init_369 : decode cX6_init 369 = .ok (.iconst 1, 1) := zd02dec2_154.2.2.2.2.2.2.2.2.2.2.1
theorem dX6_init_370 : decode cX6_init 370 = .ok (.bipush 101, 2) := zd02dec2_154.2.2.2.2.2.2.2.2.2.2.2
theorem zd02dec2_155 : decode cX6_init 372 = .ok (.iastore, 1) ∧ decode cX6_init 373 = .ok (.dup, 1) ∧ decode cX6_init 374 = .ok (.iconst 2, 1) ∧ decode cX6_init 375 = .ok (.bipush 101, 2) ∧ decode cX6_init 377 = .ok (.iastore, 1) ∧ decode cX6_init 378 = .ok (.dup, 1) ∧ decode cX6_init 379 = .ok (.iconst 3, 1) ∧ decode cX6_init 380 = .ok (.bipush 108, 2) ∧ decode cX6_init 382 = .ok (.iastore, 1) ∧ decode cX6_init 383 = .ok (.dup, 1) ∧ decode cX6_init 384 = .ok (.iconst 4, 1) ∧ decode cX6_init 385 = .ok (.bipush 115, 2) := by decide +kernel
theorem dX6_init_372 : decode cX6_init 372 = .ok (.iastore, 1) := zd02dec2_155.1
theorem dX6_init_373 : decode cX6_init 373 = .ok (.dup, 1) := zd02dec2_155.2.1
theorem dX6_init_374 : decode cX6_init 374 = .ok (.iconst 2, 1) := zd02dec2_155.2.2.1
theorem dX6_init_375 : decode cX6_init 375 = .ok (.bipush 101, 2) := zd02dec2_155.2.2.2.1
theorem dX6_init_377 : decode cX6_init 377 = .ok (.iastore, 1) := zd02dec2_155.2.2.2.2.1
theorem dX6_init_378 : decode cX6_init 378 = .ok (.dup, 1) := zd02dec2_155.2.2.2.2.2.1
theorem dX6_init_379 : decode cX6_init 379 = .ok (.iconst 3, 1) := zd02dec2_155.2.2.2.2.2.2.1
theorem dX6_init_380 : decode cX6_init 380 = .ok (.bipush 108, 2) := zd02dec2_155.2.2.2.2.2.2.2.1
theorem dX6_init_382 : decode cX6_init 382 = .ok (.iastore, 1) := zd02dec2_155.2.2.2.2.2.2.2.2.1
theorem dX6_init_383 : decode cX6_init 383 = .ok (.dup, 1) := zd02dec2_155.2.2.2.2.2.2.2.2.2.1
theorem dX6_init_384 : decode cX6_init 384 = .ok (.iconst 4, 1) := zd02dec2_155.2.2.2.2.2.2.2.2.2.2.1
theorem dX6_init_385 : decode cX6_init 385 = .ok (.bipush 115, 2) := zd02dec2_155.2.2.2.2.2.2.2.2.2.2.2
theorem zd02dec2_156 : decode cX6_init 387 = .ok (.iastore, 1) ∧ decode cX6_init 388 = .ok (.dup, 1) ∧ decode cX6_init 389 = .ok (.iconst 5, 1) ∧ decode cX6_init 390 = .ok (.bipush 32, 2) ∧ decode cX6_init 392 = .ok (.iastore, 1) ∧ decode cX6_init 393 = .ok (.dup, 1) ∧ decode cX6_init 394 = .ok (.bipush 6, 2) ∧ decode cX6_init 396 = .ok (.bipush 32, 2) ∧ decode cX6_init 398 = .ok (.iastore, 1) ∧ decode cX6_init 399 = .ok (.dup, 1) ∧ decode cX6_init 400 = .ok (.bipush 7, 2) ∧ decode cX6_init 402 = .ok (.bipush 32, 2) := by decide +kernel
theorem dX6_init_387 : decode cX6_init 387 = .ok (.iastore, 1) := zd02dec2_156.1
theorem dX6_init_388 : decode cX6_init 388 = .ok (.dup, 1) := zd02dec2_156.2.1
theorem dX6_init_389 : decode cX6_init 389 = .ok (.iconst 5, 1) := zd02dec2_156.2.2.1
theorem dX6_init_390 : decode cX6_init 390 = .ok (.bipush 32, 2) := zd02dec2_156.2.2.2.1
theorem dX6_init_392 : decode cX6_init 392 = .ok (.iastore, 1) := zd02dec2_156.2.2.2.2.1
theorem dX6_init_393 : decode cX6_init 393 = .ok (.dup, 1) := zd02dec2_156.2.2.2.2.2.1
theorem dX6_init_394 : decode cX6_init 394 = .ok (.bipush 6, 2) := zd02dec2_156.2.2.2.2.2.2.1
theorem dX6_init_396 : decode cX6_init 396 = .ok (.bipush 32, 2) := zd02dec2_156.2.2.2.2.2.2.2.1
theorem dX6_init_398 : decode cX6_init 398 = .ok (.iastore, 1) := zd02dec2_156.2.2.2.2.2.2.2.2.1
theorem dX6_init_399 : decode cX6_init 399 = .ok (.dup, 1) := zd02dec2_156.2.2.2.2.2.2.2.2.2.1
theorem dX6_init_400 : decode cX6_init 400 = .ok (.bipush 7, 2) := zd02dec2_156.2.2.2.2.2.2.2.2.2.2.1
theorem dX6_init_402 : decode cX6_init 402 = .ok (.bipush 32, 2) := zd02dec2_156.2.2.2.2.2.2.2.2.2.2.2
theorem zd02dec2_157 : decode cX6_init 404 = .ok (.iastore, 1) ∧ decode cX6_init 405 = .ok (.dup, 1) ∧ decode cX6_init 406 = .ok (.bipush 8, 2) ∧ decode cX6_init 408 = .ok (.bipush 119, 2) ∧ decode cX6_init 410 = .ok (.iastore, 1) ∧ decode cX6_init 411 = .ok (.dup, 1) ∧ decode cX6_init 412 = .ok (.bipush 9, 2) ∧ decode cX6_init 414 = .ok (.bipush 101, 2) ∧ decode cX6_init 416 = .ok (.iastore, 1) ∧ decode cX6_init 417 = .ok (.dup, 1) ∧ decode cX6_init 418 = .ok (.bipush 10, 2) ∧ decode cX6_init 420 = .ok (.bipush 97, 2) := by decide +kernel
theorem dX6_init_404 : decode cX6_init 404 = .ok (.iastore, 1) := zd02dec2_157.1
theorem dX6_init_405 : decode cX6_init 405 = .ok (.dup, 1) := zd02dec2_157.2.1
theorem dX6_init_406 : decode cX6_init 406 = .ok (.bipush 8, 2) := zd02dec2_157.2.2.1
theorem dX6_init_408 : decode cX6_init 408 = .ok (.bipush 119, 2) := zd02dec2_157.2.2.2.1
theorem dX6_init_410 : decode cX6_init 410 = .ok (.iastore, 1) := zd02dec2_157.2.2.2.2.1
theorem dX6_init_411 : decode cX6_init 411 = .ok (.dup, 1) := zd02dec2_157.2.2.2.2.2.1
theorem dX6_init_412 : decode cX6_init 412 = .ok (.bipush 9, 2) := zd02dec2_157.2.2.2.2.2.2.1
theorem dX6_init_414 : decode cX6_init 414 = .ok (.bipush 101, 2) := zd02dec2_157.2.2.2.2.2.2.2.1
theorem dX6_init_416 : decode cX6_init 416 = .ok (.iastore, 1) := zd02dec2_157.2.2.2.2.2.2.2.2.1
theorem dX6_init_417 : decode cX6_init 417 = .ok (.dup, 1) := zd02dec2_157.2.2.2.2.2.2.2.2.2.1
theorem dX6_init_418 : decode cX6_init 418 = .ok (.bipush 10, 2) := zd02dec2_157.2.2.2.2.2.2.2.2.2.2.1
theorem dX6_init_420 : decode cX6_init 420 = .ok (.bipush 97, 2) := zd02dec2_157.2.2.2.2.2.2.2.2.2.2.2
theorem zd02dec2_158 : decode cX6_init 422 = .ok (.iastore, 1) ∧ decode cX6_init 423 = .ok (.dup, 1) ∧ decode cX6_init 424 = .ok (.bipush 11, 2) ∧ decode cX6_init 426 = .ok (.bipush 114, 2) ∧ decode cX6_init 428 = .ok (.iastore, 1) ∧ decode cX6_init 429 = .ok (.dup, 1) ∧ decode cX6_init 430 = .ok (.bipush 12, 2) ∧ decode cX6_init 432 = .ok (.bipush 115, 2) ∧ decode cX6_init 434 = .ok (.iastore, 1) ∧ decode cX6_init 435 = .ok (.dup, 1) ∧ decode cX6_init 436 = .ok (.bipush 13, 2) ∧ decode cX6_init 438 = .ok (.bipush 32, 2) := by decide +kernel
theorem dX6_init_422 : decode cX6_init 422 = .ok (.iastore, 1) := zd02dec2_158.1
theorem dX6_init_423 : decode cX6_init 423 = .ok (.dup, 1) := zd02dec2_158.2.1
theorem dX6_init_424 : decode cX6_init 424 = .ok (.bipush 11, 2) := zd02dec2_158.2.2.1
theorem dX6_init_426 : decode cX6_init 426 = .ok (.bipush 114, 2) := zd02dec2_158.2.2.2.1
theorem dX6_init_428 : decode cX6_init 428 = .ok (.iastore, 1) := zd02dec2_158.2.2.2.2.1
theorem dX6_init_429 : decode cX6_init 429 = .ok (.dup, 1) := zd02dec2_158.2.2.2.2.2.1
theorem dX6_init_430 : decode cX6_init 430 = .ok (.bipush 12, 2) := zd02dec2_158.2.2.2.2.2.2.1
theorem dX6_init_432 : decode cX6_init 432 = .ok (.bipush 115, 2) := zd02dec2_158.2.2.2.2.2.2.2.1
theorem dX6_init_434 : decode cX6_init 434 = .ok (.iastore, 1) := zd02dec2_158.2.2.2.2.2.2.2.2.1
theorem dX6_init_435 : decode cX6_init 435 = .ok (.dup, 1) := zd02dec2_158.2.2.2.2.2.2.2.2.2.1
theorem dX6_init_436 : decode cX6_init 436 = .ok (.bipush 13, 2) := zd02dec2_158.2.2.2.2.2.2.2.2.2.2.1
theorem dX6_init_438 : decode cX6_init 438 = .ok (.bipush 32, 2) := zd02dec2_158.2.2.2.2.2.2.2.2.2.2.2
theorem zd02dec2_159 : decode cX6_init 440 = .ok (.iastore, 1) ∧ decode cX6_init 441 = .ok (.dup, 1) ∧ decode cX6_init 442 = .ok (.bipush 14, 2) ∧ decode cX6_init 444 = .ok (.bipush 32, 2) ∧ decode cX6_init 446 = .ok (.iastore, 1) ∧ decode cX6_init 447 = .ok (.dup, 1) ∧ decode cX6_init 448 = .ok (.bipush 15, 2) ∧ decode cX6_init 450 = .ok (.bipush 32, 2) ∧ decode cX6_init 452 = .ok (.iastore, 1) ∧ decode cX6_init 453 = .ok (.dup, 1) ∧ decode cX6_init 454 = .ok (.bipush 16, 2) ∧ decode cX6_init 456 = .ok (.bipush 98, 2) := by decide +kernel
theorem dX6_init_440 : decode cX6_init 440 = .ok (.iastore, 1) := zd02dec2_159.1
theorem dX6_init_441 : decode cX6_init 441 = .ok (.dup, 1) := zd02dec2_159.2.1
theorem dX6_init_442 : decode cX6_init 442 = .ok (.bipush 14, 2) := zd02dec2_159.2.2.1
theorem dX6_init_444 : decode cX6_init 444 = .ok (.bipush 32, 2) := zd02dec2_159.2.2.2.1
theorem dX6_init_446 : decode cX6_init 446 = .ok (.iastore, 1) := zd02dec2_159.2.2.2.2.1
theorem dX6_init_447 : decode cX6_init 447 = .ok (.dup, 1) := zd02dec2_159.2.2.2.2.2.1
theorem dX6_init_448 : decode cX6_init 448 = .ok (.bipush 15, 2) := zd02dec2_159.2.2.2.2.2.2.1
theorem dX6_init_450 : decode cX6_init 450 = .ok (.bipush 32, 2) := zd02dec2_159.2.2.2.2.2.2.2.1
theorem dX6_init_452 : decode cX6_init 452 = .ok (.iastore, 1) := zd02dec2_159.2.2.2.2.2.2.2.2.1
theorem dX6_init_453 : decode cX6_init 453 = .ok (.dup, 1) := zd02dec2_159.2.2.2.2.2.2.2.2.2.1
theorem dX6_init_454 : decode cX6_init 454 = .ok (.bipush 16, 2) := zd02dec2_159.2.2.2.2.2.2.2.2.2.2.1
theorem dX6_init_456 : decode cX6_init 456 = .ok (.bipush 98, 2) := zd02dec2_159.2.2.2.2.2.2.2.2.2.2.2
theorem zd02dec2_160 : decode cX6_init 458 = .ok (.iastore, 1) ∧ decode cX6_init 459 = .ok (.dup, 1) ∧ decode cX6_init 460 = .ok (.bipush 17, 2) ∧ decode cX6_init 462 = .ok (.bipush 97, 2) ∧ decode cX6_init 464 = .ok (.iastore, 1) ∧ decode cX6_init 465 = .ok (.dup, 1) ∧ decode cX6_init 466 = .ok (.bipush 18, 2) ∧ decode cX6_init 468 = .ok (.bipush 114, 2) ∧ decode cX6_init 470 = .ok (.iastore, 1) ∧ decode cX6_init 471 = .ok (.dup, 1) ∧ decode cX6_init 472 = .ok (.bipush 19, 2) ∧ decode cX6_init 474 = .ok (.bipush 115, 2) := by decide +kernel
theorem dX6_init_458 : decode cX6_init 458 = .ok (.iastore, 1) := zd02dec2_160.1
theorem dX6_init_459 : decode cX6_init 459 = .ok (.dup, 1) := zd02dec2_160.2.1
theorem dX6_init_460 : decode cX6_init 460 = .ok (.bipush 17, 2) := zd02dec2_160.2.2.1
theorem dX6_init_462 : decode cX6_init 462 = .ok (.bipush 97, 2) := zd02dec2_160.2.2.2.1
theorem dX6_init_464 : decode cX6_init 464 = .ok (.iastore, 1) := zd02dec2_160.2.2.2.2.1
theorem dX6_init_465 : decode cX6_init 465 = .ok (.dup, 1) := zd02dec2_160.2.2.2.2.2.1
theorem dX6_init_466 : decode cX6_init 466 = .ok (.bipush 18, 2) := zd02dec2_160.2.2.2.2.2.2.1
theorem dX6_init_468 : decode cX6_init 468 = .ok (.bipush 114, 2) := zd02dec2_160.2.2.2.2.2.2.2.1
theorem dX6_init_470 : decode cX6_init 470 = .ok (.iastore, 1) := zd02dec2_160.2.2.2.2.2.2.2.2.1
theorem dX6_init_471 : decode cX6_init 471 = .ok (.dup, 1) := zd02dec2_160.2.2.2.2.2.2.2.2.2.1
theorem dX6_init_472 : decode cX6_init 472 = .ok (.bipush 19, 2) := zd02dec2_160.2.2.2.2.2.2.2.2.2.2.1
theorem dX6_init_474 : decode cX6_init 474 = .ok (.bipush 115, 2) := zd02dec2_160.2.2.2.2.2.2.2.2.2.2.2
theorem zd02dec2_161 : decode cX6_init 476 = .ok (.iastore, 1) ∧ decode cX6_init 477 = .ok (.dup, 1) ∧ decode cX6_init 478 = .ok (.bipush 20, 2) ∧ decode cX6_init 480 = .ok (.bipush 32, 2) ∧ decode cX6_init 482 = .ok (.iastore, 1) ∧ decode cX6_init 483 = .ok (.dup, 1) ∧ decode cX6_init 484 = .ok (.bipush 21, 2) ∧ decode cX6_init 486 = .ok (.bipush 32, 2) ∧ decode cX6_init 488 = .ok (.iastore, 1) ∧ decode cX6_init 489 = .ok (.dup, 1) ∧ decode cX6_init 490 = .ok (.bipush 22, 2) ∧ decode cX6_init 492 = .ok (.bipush 32, 2) := by decide +kernel
theorem dX6_init_476 : decode cX6_init 476 = .ok (.iastore, 1) := zd02dec2_161.1
theorem dX6_init_477 : decode cX6_init 477 = .ok (.dup, 1) := zd02dec2_161.2.1
theorem dX6_init_478 : decode cX6_init 478 = .ok (.bipush 20, 2) := zd02dec2_161.2.2.1
theorem dX6_init_480 : decode cX6_init 480 = .ok (.bipush 32, 2) := zd02dec2_161.2.2.2.1
theorem dX6_init_482 : decode cX6_init 482 = .ok (.iastore, 1) := zd02dec2_161.2.2.2.2.1
theorem dX6_init_483 : decode cX6_init 483 = .ok (.dup, 1) := zd02dec2_161.2.2.2.2.2.1
theorem dX6_init_484 : decode cX6_init 484 = .ok (.bipush 21, 2) := zd02dec2_161.2.2.2.2.2.2.1
theorem dX6_init_486 : decode cX6_init 486 = .ok (.bipush 32, 2) := zd02dec2_161.2.2.2.2.2.2.2.1
theorem dX6_init_488 : decode cX6_init 488 = .ok (.iastore, 1) := zd02dec2_161.2.2.2.2.2.2.2.2.1
theorem dX6_init_489 : decode cX6_init 489 = .ok (.dup, 1) := zd02dec2_161.2.2.2.2.2.2.2.2.2.1
theorem dX6_init_490 : decode cX6_init 490 = .ok (.bipush 22, 2) := zd02dec2_161.2.2.2.2.2.2.2.2.2.2.1
theorem dX6_init_492 : decode cX6_init 492 = .ok (.bipush 32, 2) := zd02dec2_161.2.2.2.2.2.2.2.2.2.2.2
theorem zd02dec2_162 : decode cX6_init 494 = .ok (.iastore, 1) ∧ decode cX6_init 495 = .ok (.dup, 1) ∧ decode cX6_init 496 = .ok (.bipush 23, 2) ∧ decode cX6_init 498 = .ok (.bipush 32, 2) ∧ decode cX6_init 500 = .ok (.iastore, 1) ∧ decode cX6_init 501 = .ok (.dup, 1) ∧ decode cX6_init 502 = .ok (.bipush 24, 2) ∧ decode cX6_init 504 = .ok (.bipush 115, 2) ∧ decode cX6_init 506 = .ok (.iastore, 1) ∧ decode cX6_init 507 = .ok (.dup, 1) ∧ decode cX6_init 508 = .ok (.bipush 25, 2) ∧ decode cX6_init 510 = .ok (.bipush 105, 2) := by decide +kernel
theorem dX6_init_494 : decode cX6_init 494 = .ok (.iastore, 1) := zd02dec2_162.1
theorem dX6_init_495 : decode cX6_init 495 = .ok (.dup, 1) := zd02dec2_162.2.1
theorem dX6_init_496 : decode cX6_init 496 = .ok (.bipush 23, 2) := zd02dec2_162.2.2.1
theorem dX6_init_498 : decode cX6_init 498 = .ok (.bipush 32, 2) := zd02dec2_162.2.2.2.1
theorem dX6_init_500 : decode cX6_init 500 = .ok (.iastore, 1) := zd02dec2_162.2.2.2.2.1
theorem dX6_init_501 : decode cX6_init 501 = .ok (.dup, 1) := zd02dec2_162.2.2.2.2.2.1
theorem dX6_init_502 : decode cX6_init 502 = .ok (.bipush 24, 2) := zd02dec2_162.2.2.2.2.2.2.1
theorem dX6_init_504 : decode cX6_init 504 = .ok (.bipush 115, 2) := zd02dec2_162.2.2.2.2.2.2.2.1
theorem dX6_init_506 : decode cX6_init 506 = .ok (.iastore, 1) := zd02dec2_162.2.2.2.2.2.2.2.2.1
theorem dX6_init_507 : decode cX6_init 507 = .ok (.dup, 1) := zd02dec2_162.2.2.2.2.2.2.2.2.2.1
theorem dX6_init_508 : decode cX6_init 508 = .ok (.bipush 25, 2) := zd02dec2_162.2.2.2.2.2.2.2.2.2.2.1
theorem dX6_init_510 : decode cX6_init 510 = .ok (.bipush 105, 2) := zd02dec2_162.2.2.2.2.2.2.2.2.2.2.2
theorem zd02dec2_163 : decode cX6_init 512 = .ok (.iastore, 1) ∧ decode cX6_init 513 = .ok (.dup, 1) ∧ decode cX6_init 514 = .ok (.bipush 26, 2) ∧ decode cX6_init 516 = .ok (.bipush 122, 2) ∧ decode cX6_init 518 = .ok (.iastore, 1) ∧ decode cX6_init 519 = .ok (.dup, 1) ∧ decode cX6_init 520 = .ok (.bipush 27, 2) ∧ decode cX6_init 522 = .ok (.bipush 101, 2) ∧ decode cX6_init 524 = .ok (.iastore, 1) ∧ decode cX6_init 525 = .ok (.dup, 1) ∧ decode cX6_init 526 = .ok (.bipush 28, 2) ∧ decode cX6_init 528 = .ok (.bipush 32, 2) := by decide +kernel
theorem dX6_init_512 : decode cX6_init 512 = .ok (.iastore, 1) := zd02dec2_163.1
theorem dX6_init_513 : decode cX6_init 513 = .ok (.dup, 1) := zd02dec2_163.2.1
theorem dX6_init_514 : decode cX6_init 514 = .ok (.bipush 26, 2) := zd02dec2_163.2.2.1
theorem dX6_init_516 : decode cX6_init 516 = .ok (.bipush 122, 2) := zd02dec2_163.2.2.2.1
theorem dX6_init_518 : decode cX6_init 518 = .ok (.iastore, 1) := zd02dec2_163.2.2.2.2.1
theorem dX6_init_519 : decode cX6_init 519 = .ok (.dup, 1) := zd02dec2_163.2.2.2.2.2.1
theorem dX6_init_520 : decode cX6_init 520 = .ok (.bipush 27, 2) := zd02dec2_163.2.2.2.2.2.2.1
theorem dX6_init_522 : decode cX6_init 522 = .ok (.bipush 101, 2) := zd02dec2_163.2.2.2.2.2.2.2.1
theorem dX6_init_524 : decode cX6_init 524 = .ok (.iastore, 1) := zd02dec2_163.2.2.2.2.2.2.2.2.1
theorem dX6_init_525 : decode cX6_init 525 = .ok (.dup, 1) := zd02dec2_163.2.2.2.2.2.2.2.2.2.1
theorem dX6_init_526 : decode cX6_init 526 = .ok (.bipush 28, 2) := zd02dec2_163.2.2.2.2.2.2.2.2.2.2.1
theorem dX6_init_528 : decode cX6_init 528 = .ok (.bipush 32, 2) := zd02dec2_163.2.2.2.2.2.2.2.2.2.2.2
theorem zd02dec2_164 : decode cX6_init 530 = .ok (.iastore, 1) ∧ decode cX6_init 531 = .ok (.dup, 1) ∧ decode cX6_init 532 = .ok (.bipush 29, 2) ∧ decode cX6_init 534 = .ok (.bipush 32, 2) ∧ decode cX6_init 536 = .ok (.iastore, 1) ∧ decode cX6_init 537 = .ok (.dup, 1) ∧ decode cX6_init 538 = .ok (.bipush 30, 2) ∧ decode cX6_init 540 = .ok (.bipush 32, 2) ∧ decode cX6_init 542 = .ok (.iastore, 1) ∧ decode cX6_init 543 = .ok (.dup, 1) ∧ decode cX6_init 544 = .ok (.bipush 31, 2) ∧ decode cX6_init 546 = .ok (.bipush 32, 2) := by decide +kernel
theorem dX6_init_530 : decode cX6_init 530 = .ok (.iastore, 1) := zd02dec2_164.1
theorem dX6_init_531 : decode cX6_init 531 = .ok (.dup, 1) := zd02dec2_164.2.1
theorem dX6_init_532 : decode cX6_init 532 = .ok (.bipush 29, 2) := zd02dec2_164.2.2.1
theorem dX6_init_534 : decode cX6_init 534 = .ok (.bipush 32, 2) := zd02dec2_164.2.2.2.1
theorem dX6_init_536 : decode cX6_init 536 = .ok (.iastore, 1) := zd02dec2_164.2.2.2.2.1
theorem dX6_init_537 : decode cX6_init 537 = .ok (.dup, 1) := zd02dec2_164.2.2.2.2.2.1
theorem dX6_init_538 : decode cX6_init 538 = .ok (.bipush 30, 2) := zd02dec2_164.2.2.2.2.2.2.1
theorem dX6_init_540 : decode cX6_init 540 = .ok (.bipush 32, 2) := zd02dec2_164.2.2.2.2.2.2.2.1
theorem dX6_init_542 : decode cX6_init 542 = .ok (.iastore, 1) := zd02dec2_164.2.2.2.2.2.2.2.2.1
theorem dX6_init_543 : decode cX6_init 543 = .ok (.dup, 1) := zd02dec2_164.2.2.2.2.2.2.2.2.2.1
theorem dX6_init_544 : decode cX6_init 544 = .ok (.bipush 31, 2) := zd02dec2_164.2.2.2.2.2.2.2.2.2.2.1
theorem dX6_init_546 : decode cX6_init 546 = .ok (.bipush 32, 2) := zd02dec2_164.2.2.2.2.2.2.2.2.2.2.2
theorem zd02dec2_165 : decode cX6_init 548 = .ok (.iastore, 1) ∧ decode cX6_init 549 = .ok (.dup, 1) ∧ decode cX6_init 550 = .ok (.bipush 32, 2) ∧ decode cX6_init 552 = .ok (.bipush 114, 2) ∧ decode cX6_init 554 = .ok (.iastore, 1) ∧ decode cX6_init 555 = .ok (.dup, 1) ∧ decode cX6_init 556 = .ok (.bipush 33, 2) ∧ decode cX6_init 558 = .ok (.bipush 111, 2) ∧ decode cX6_init 560 = .ok (.iastore, 1) ∧ decode cX6_init 561 = .ok (.dup, 1) ∧ decode cX6_init 562 = .ok (.bipush 34, 2) ∧ decode cX6_init 564 = .ok (.bipush 117, 2) := by decide +kernel
theorem dX6_init_548 : decode cX6_init 548 = .ok (.iastore, 1) := zd02dec2_165.1
theorem dX6_init_549 : decode cX6_init 549 = .ok (.dup, 1) := zd02dec2_165.2.1
theorem dX6_init_550 : decode cX6_init 550 = .ok (.bipush 32, 2) := zd02dec2_165.2.2.1
theorem dX6_init_552 : decode cX6_init 552 = .ok (.bipush 114, 2) := zd02dec2_165.2.2.2.1
theorem dX6_init_554 : decode cX6_init 554 = .ok (.iastore, 1) := zd02dec2_165.2.2.2.2.1
theorem dX6_init_555 : decode cX6_init 555 = .ok (.dup, 1) := zd02dec2_165.2.2.2.2.2.1
theorem dX6_init_556 : decode cX6_init 556 = .ok (.bipush 33, 2) := zd02dec2_165.2.2.2.2.2.2.1
theorem dX6_init_558 : decode cX6_init 558 = .ok (.bipush 111, 2) := zd02dec2_165.2.2.2.2.2.2.2.1
theorem dX6_init_560 : decode cX6_init 560 = .ok (.iastore, 1) := zd02dec2_165.2.2.2.2.2.2.2.2.1
theorem dX6_init_561 : decode cX6_init 561 = .ok (.dup, 1) := zd02dec2_165.2.2.2.2.2.2.2.2.2.1
theorem dX6_init_562 : decode cX6_init 562 = .ok (.bipush 34, 2) := zd02dec2_165.2.2.2.2.2.2.2.2.2.2.1
theorem dX6_init_564 : decode cX6_init 564 = .ok (.bipush 117, 2) := zd02dec2_165.2.2.2.2.2.2.2.2.2.2.2
theorem zd02dec2_166 : decode cX6_init 566 = .ok (.iastore, 1) ∧ decode cX6_init 567 = .ok (.dup, 1) ∧ decode cX6_init 568 = .ok (.bipush 35, 2) ∧ decode cX6_init 570 = .ok (.bipush 110, 2) ∧ decode cX6_init 572 = .ok (.iastore, 1) ∧ decode cX6_init 573 = .ok (.dup, 1) ∧ decode cX6_init 574 = .ok (.bipush 36, 2) ∧ decode cX6_init 576 = .ok (.bipush 100, 2) ∧ decode cX6_init 578 = .ok (.iastore, 1) ∧ decode cX6_init 579 = .ok (.dup, 1) ∧ decode cX6_init 580 = .ok (.bipush 37, 2) ∧ decode cX6_init 582 = .ok (.bipush 32, 2) := by decide +kernel
theorem dX6_init_566 : decode cX6_init 566 = .ok (.iastore, 1) := zd02dec2_166.1
theorem dX6_init_567 : decode cX6_init 567 = .ok (.dup, 1) := zd02dec2_166.2.1
theorem dX6_init_568 : decode cX6_init 568 = .ok (.bipush 35, 2) := zd02dec2_166.2.2.1
theorem dX6_init_570 : decode cX6_init 570 = .ok (.bipush 110, 2) := zd02dec2_166.2.2.2.1
theorem dX6_init_572 : decode cX6_init 572 = .ok (.iastore, 1) := zd02dec2_166.2.2.2.2.1
theorem dX6_init_573 : decode cX6_init 573 = .ok (.dup, 1) := zd02dec2_166.2.2.2.2.2.1
theorem dX6_init_574 : decode cX6_init 574 = .ok (.bipush 36, 2) := zd02dec2_166.2.2.2.2.2.2.1
theorem dX6_init_576 : decode cX6_init 576 = .ok (.bipush 100, 2) := zd02dec2_166.2.2.2.2.2.2.2.1
theorem dX6_init_578 : decode cX6_init 578 = .ok (.iastore, 1) := zd02dec2_166.2.2.2.2.2.2.2.2.1
theorem dX6_init_579 : decode cX6_init 579 = .ok (.dup, 1) := zd02dec2_166.2.2.2.2.2.2.2.2.2.1
theorem dX6_init_580 : decode cX6_init 580 = .ok (.bipush 37, 2) := zd02dec2_166.2.2.2.2.2.2.2.2.2.2.1
theorem dX6_init_582 : decode cX6_init 582 = .ok (.bipush 32, 2) := zd02dec2_166.2.2.2.2.2.2.2.2.2.2.2
theorem zd02dec2_167 : decode cX6_init 584 = .ok (.iastore, 1) ∧ decode cX6_init 585 = .ok (.dup, 1) ∧ decode cX6_init 586 = .ok (.bipush 38, 2) ∧ decode cX6_init 588 = .ok (.bipush 32, 2) ∧ decode cX6_init 590 = .ok (.iastore, 1) ∧ decode cX6_init 591 = .ok (.dup, 1) ∧ decode cX6_init 592 = .ok (.bipush 39, 2) ∧ decode cX6_init 594 = .ok (.bipush 32, 2) ∧ decode cX6_init 596 = .ok (.iastore, 1) ∧ decode cX6_init 597 = .ok (.dup, 1) ∧ decode cX6_init 598 = .ok (.bipush 40, 2) ∧ decode cX6_init 600 = .ok (.bipush 115, 2) := by decide +kernel
theorem dX6_init_584 : decode cX6_init 584 = .ok (.iastore, 1) := zd02dec2_167.1
theorem dX6_init_585 : decode cX6_init 585 = .ok (.dup, 1) := zd02dec2_167.2.1
theorem dX6_init_586 : decode cX6_init 586 = .ok (.bipush 38, 2) := zd02dec2_167.2.2.1
theorem dX6_init_588 : decode cX6_init 588 = .ok (.bipush 32, 2) := zd02dec2_167.2.2.2.1
theorem dX6_init_590 : decode cX6_init 590 = .ok (.iastore, 1) := zd02dec2_167.2.2.2.2.1
theorem dX6_init_591 : decode cX6_init 591 = .ok (.dup, 1) := zd02dec2_167.2.2.2.2.2.1
theorem dX6_init_592 : decode cX6_init 592 = .ok (.bipush 39, 2) := zd02dec2_167.2.2.2.2.2.2.1
theorem dX6_init_594 : decode cX6_init 594 = .ok (.bipush 32, 2) := zd02dec2_167.2.2.2.2.2.2.2.1
theorem dX6_init_596 : decode cX6_init 596 = .ok (.iastore, 1) := zd02dec2_167.2.2.2.2.2.2.2.2.1
theorem dX6_init_597 : decode cX6_init 597 = .ok (.dup, 1) := zd02dec2_167.2.2.2.2.2.2.2.2.2.1
theorem dX6_init_598 : decode cX6_init 598 = .ok (.bipush 40, 2) := zd02dec2_167.2.2.2.2.2.2.2.2.2.2.1
theorem dX6_init_600 : decode cX6_init 600 = .ok (.bipush 115, 2) := zd02dec2_167.2.2.2.2.2.2.2.2.2.2.2
theorem zd02dec2_168 : decode cX6_init 602 = .ok (.iastore, 1) ∧ decode cX6_init 603 = .ok (.dup, 1) ∧ decode cX6_init 604 = .ok (.bipush 41, 2) ∧ decode cX6_init 606 = .ok (.bipush 111, 2) ∧ decode cX6_init 608 = .ok (.iastore, 1) ∧ decode cX6_init 609 = .ok (.dup, 1) ∧ decode cX6_init 610 = .ok (.bipush 42, 2) ∧ decode cX6_init 612 = .ok (.bipush 108, 2) ∧ decode cX6_init 614 = .ok (.iastore, 1) ∧ decode cX6_init 615 = .ok (.dup, 1) ∧ decode cX6_init 616 = .ok (.bipush 43, 2) ∧ decode cX6_init 618 = .ok (.bipush 101, 2) := by decide +kernel
theorem dX6_init_602 : decode cX6_init 602 = .ok (.iastore, 1) := zd02dec2_168.1
theorem dX6_init_603 : decode cX6_init 603 = .ok (.dup, 1) := zd02dec2_168.2.1
theorem dX6_init_604 : decode cX6_init 604 = .ok (.bipush 41, 2) := zd02dec2_168.2.2.1
theorem dX6_init_606 : decode cX6_init 606 = .ok (.bipush 111, 2) := zd02dec2_168.2.2.2.1
theorem dX6_init_608 : decode cX6_init 608 = .ok (.iastore, 1) := zd02dec2_168.2.2.2.2.1
theorem dX6_init_609 : decode cX6_init 609 = .ok (.dup, 1) := zd02dec2_168.2.2.2.2.2.1
theorem dX6_init_610 : decode cX6_init 610 = .ok (.bipush 42, 2) := zd02dec2_168.2.2.2.2.2.2.1
theorem dX6_init_612 : decode cX6_init 612 = .ok (.bipush 108, 2) := zd02dec2_168.2.2.2.2.2.2.2.1
theorem dX6_init_614 : decode cX6_init 614 = .ok (.iastore, 1) := zd02dec2_168.2.2.2.2.2.2.2.2.1
theorem dX6_init_615 : decode cX6_init 615 = .ok (.dup, 1) := zd02dec2_168.2.2.2.2.2.2.2.2.2.1
theorem dX6_init_616 : decode cX6_init 616 = .ok (.bipush 43, 2) := zd02dec2_168.2.2.2.2.2.2.2.2.2.2.1
theorem dX6_init_618 : decode cX6_init 618 = .ok (.bipush 101, 2) := zd02dec2_168.2.2.2.2.2.2.2.2.2.2.2
theorem zd02dec2_169 : decode cX6_init 620 = .ok (.iastore, 1) ∧ decode cX6_init 621 = .ok (.dup, 1) ∧ decode cX6_init 622 = .ok (.bipush 44, 2) ∧ decode cX6_init 624 = .ok (.bipush 115, 2) ∧ decode cX6_init 626 = .ok (.iastore, 1) ∧ decode cX6_init 627 = .ok (.dup, 1) ∧ decode cX6_init 628 = .ok (.bipush 45, 2) ∧ decode cX6_init 630 = .ok (.bipush 32, 2) ∧ decode cX6_init 632 = .ok (.iastore, 1) ∧ decode cX6_init 633 = .ok (.dup, 1) ∧ decode cX6_init 634 = .ok (.bipush 46, 2) ∧ decode cX6_init 636 = .ok (.bipush 32, 2) := by decide +kernel
theorem dX6_init_620 : decode cX6_init 620 = .ok (.iastore, 1) := zd02dec2_169.1
theorem dX6_init_621 : decode cX6_init 621 = .ok (.dup, 1) := zd02dec2_169.2.1
theorem dX6_init_622 : decode cX6_init 622 = .ok (.bipush 44, 2) := zd02dec2_169.2.2.1
theorem dX6_init_624 : decode cX6_init 624 = .ok (.bipush 115, 2) := zd02dec2_169.2.2.2.1
theorem dX6_init_626 : decode cX6_init 626 = .ok (.iastore, 1) := zd02dec2_169.2.2.2.2.1
theorem dX6_init_627 : decode cX6_init 627 = .ok (.dup, 1) := zd02dec2_169.2.2.2.2.2.1
theorem dX6_init_628 : decode cX6_init 628 = .ok (.bipush 45, 2) := zd02dec2_169.2.2.2.2.2.2.1
theorem dX6_init_630 : decode cX6_init 630 = .ok (.bipush 32, 2) := zd02dec2_169.2.2.2.2.2.2.2.1
theorem dX6_init_632 : decode cX6_init 632 = .ok (.iastore, 1) := zd02dec2_169.2.2.2.2.2.2.2.2.1
theorem dX6_init_633 : decode cX6_init 633 = .ok (.dup, 1) := zd02dec2_169.2.2.2.2.2.2.2.2.2.1
theorem dX6_init_634 : decode cX6_init 634 = .ok (.bipush 46, 2) := zd02dec2_169.2.2.2.2.2.2.2.2.2.2.1
theorem dX6_init_636 : decode cX6_init 636 = .ok (.bipush 32, 2) := zd02dec2_169.2.2.2.2.2.2.2.2.2.2.2
theorem zd02dec2_170 : decode cX6_init 638 = .ok (.iastore, 1) ∧ decode cX6_init 639 = .ok (.dup, 1) ∧ decode cX6_init 640 = .ok (.bipush 47, 2) ∧ decode cX6_init 642 = .ok (.bipush 32, 2) ∧ decode cX6_init 644 = .ok (.iastore, 1) ∧ decode cX6_init 645 = .ok (.dup, 1) ∧ decode cX6_init 646 = .ok (.bipush 48, 2) ∧ decode cX6_init 648 = .ok (.bipush 109, 2) ∧ decode cX6_init 650 = .ok (.iastore, 1) ∧ decode cX6_init 651 = .ok (.dup, 1) ∧ decode cX6_init 652 = .ok (.bipush 49, 2) ∧ decode cX6_init 654 = .ok (.bipush 105, 2) := by decide +kernel
theorem dX6_init_638 : decode cX6_init 638 = .ok (.iastore, 1) := zd02dec2_170.1
theorem dX6_init_639 : decode cX6_init 639 = .ok (.dup, 1) := zd02dec2_170.2.1
theorem dX6_init_640 : decode cX6_init 640 = .ok (.bipush 47, 2) := zd02dec2_170.2.2.1
theorem dX6_init_642 : decode cX6_init 642 = .ok (.bipush 32, 2) := zd02dec2_170.2.2.2.1
theorem dX6_init_644 : decode cX6_init 644 = .ok (.iastore, 1) := zd02dec2_170.2.2.2.2.1
theorem dX6_init_645 : decode cX6_init 645 = .ok (.dup, 1) := zd02dec2_170.2.2.2.2.2.1
theorem dX6_init_646 : decode cX6_init 646 = .ok (.bipush 48, 2) := zd02dec2_170.2.2.2.2.2.2.1
theorem dX6_init_648 : decode cX6_init 648 = .ok (.bipush 109, 2) := zd02dec2_170.2.2.2.2.2.2.2.1
theorem dX6_init_650 : decode cX6_init 650 = .ok (.iastore, 1) := zd02dec2_170.2.2.2.2.2.2.2.2.1
theorem dX6_init_651 : decode cX6_init 651 = .ok (.dup, 1) := zd02dec2_170.2.2.2.2.2.2.2.2.2.1
theorem dX6_init_652 : decode cX6_init 652 = .ok (.bipush 49, 2) := zd02dec2_170.2.2.2.2.2.2.2.2.2.2.1
theorem dX6_init_654 : decode cX6_init 654 = .ok (.bipush 105, 2) := zd02dec2_170.2.2.2.2.2.2.2.2.2.2.2
theorem zd02dec2_171 : decode cX6_init 656 = .ok (.iastore, 1) ∧ decode cX6_init 657 = .ok (.dup, 1) ∧ decode cX6_init 658 = .ok (.bipush 50, 2) ∧ decode cX6_init 660 = .ok (.bipush 108, 2) ∧ decode cX6_init 662 = .ok (.iastore, 1) ∧ decode cX6_init 663 = .ok (.dup, 1) ∧ decode cX6_init 664 = .ok (.bipush 51, 2) ∧ decode cX6_init 666 = .ok (.bipush 101, 2) ∧ decode cX6_init 668 = .ok (.iastore, 1) ∧ decode cX6_init 669 = .ok (.dup, 1) ∧ decode cX6_init 670 = .ok (.bipush 52, 2) ∧ decode cX6_init 672 = .ok (.bipush 115, 2) := by decide +kernel
theorem dX6_init_656 : decode cX6_init 656 = .ok (.iastore, 1) := zd02dec2_171.1
theorem dX6_init_657 : decode cX6_init 657 = .ok (.dup, 1) := zd02dec2_171.2.1
theorem dX6_init_658 : decode cX6_init 658 = .ok (.bipush 50, 2) := zd02dec2_171.2.2.1
theorem dX6_init_660 : decode cX6_init 660 = .ok (.bipush 108, 2) := zd02dec2_171.2.2.2.1
theorem dX6_init_662 : decode cX6_init 662 = .ok (.iastore, 1) := zd02dec2_171.2.2.2.2.1
theorem dX6_init_663 : decode cX6_init 663 = .ok (.dup, 1) := zd02dec2_171.2.2.2.2.2.1
theorem dX6_init_664 : decode cX6_init 664 = .ok (.bipush 51, 2) := zd02dec2_171.2.2.2.2.2.2.1
theorem dX6_init_666 : decode cX6_init 666 = .ok (.bipush 101, 2) := zd02dec2_171.2.2.2.2.2.2.2.1
theorem dX6_init_668 : decode cX6_init 668 = .ok (.iastore, 1) := zd02dec2_171.2.2.2.2.2.2.2.2.1
theorem dX6_init_669 : decode cX6_init 669 = .ok (.dup, 1) := zd02dec2_171.2.2.2.2.2.2.2.2.2.1
theorem dX6_init_670 : decode cX6_init 670 = .ok (.bipush 52, 2) := zd02dec2_171.2.2.2.2.2.2.2.2.2.2.1
theorem dX6_init_672 : decode cX6_init 672 = .ok (.bipush 115, 2) := zd02dec2_171.2.2.2.2.2.2.2.2.2.2.2
theorem zd02dec2_172 : decode cX6_init 674 = .ok (.iastore, 1) ∧ decode cX6_init 675 = .ok (.dup, 1) ∧ decode cX6_init 676 = .ok (.bipush 53, 2) ∧ decode cX6_init 678 = .ok (.bipush 32, 2) ∧ decode cX6_init 680 = .ok (.iastore, 1) ∧ decode cX6_init 681 = .ok (.dup, 1) ∧ decode cX6_init 682 = .ok (.bipush 54, 2) ∧ decode cX6_init 684 = .ok (.bipush 32, 2) ∧ decode cX6_init 686 = .ok (.iastore, 1) ∧ decode cX6_init 687 = .ok (.dup, 1) ∧ decode cX6_init 688 = .ok (.bipush 55, 2) ∧ decode cX6_init 690 = .ok (.bipush 32, 2) := by decide +kernel
theorem dX6_init_674 : decode cX6_init 674 = .ok (.iastore, 1) := zd02dec2_172.1
theorem dX6_init_675 : decode cX6_init 675 = .ok (.dup, 1) := zd02dec2_172.2.1
theorem dX6_init_676 : decode cX6_init 676 = .ok (.bipush 53, 2) := zd02dec2_172.2.2.1
theorem dX6_init_678 : decode cX6_init 678 = .ok (.bipush 32, 2) := zd02dec2_172.2.2.2.1
theorem dX6_init_680 : decode cX6_init 680 = .ok (.iastore, 1) := zd02dec2_172.2.2.2.2.1
theorem dX6_init_681 : decode cX6_init 681 = .ok (.dup, 1) := zd02dec2_172.2.2.2.2.2.1
theorem dX6_init_682 : decode cX6_init 682 = .ok (.bipush 54, 2) := zd02dec2_172.2.2.2.2.2.2.1
theorem dX6_init_684 : decode cX6_init 684 = .ok (.bipush 32, 2) := zd02dec2_172.2.2.2.2.2.2.2.1
theorem dX6_init_686 : decode cX6_init 686 = .ok (.iastore, 1) := zd02dec2_172.2.2.2.2.2.2.2.2.1
theorem dX6_init_687 : decode cX6_init 687 = .ok (.dup, 1) := zd02dec2_172.2.2.2.2.2.2.2.2.2.1
theorem dX6_init_688 : decode cX6_init 688 = .ok (.bipush 55, 2) := zd02dec2_172.2.2.2.2.2.2.2.2.2.2.1
theorem dX6_init_690 : decode cX6_init 690 = .ok (.bipush 32, 2) := zd02dec2_172.2.2.2.2.2.2.2.2.2.2.2
theorem zd02dec2_173 : decode cX6_init 692 = .ok (.iastore, 1) ∧ decode cX6_init 693 = .ok (.dup, 1) ∧ decode cX6_init 694 = .ok (.bipush 56, 2) ∧ decode cX6_init 696 = .ok (.bipush 109, 2) ∧ decode cX6_init 698 = .ok (.iastore, 1) ∧ decode cX6_init 699 = .ok (.dup, 1) ∧ decode cX6_init 700 = .ok (.bipush 57, 2) ∧ decode cX6_init 702 = .ok (.bipush 111, 2) ∧ decode cX6_init 704 = .ok (.iastore, 1) ∧ decode cX6_init 705 = .ok (.dup, 1) ∧ decode cX6_init 706 = .ok (.bipush 58, 2) ∧ decode cX6_init 708 = .ok (.bipush 114, 2) := by decide +kernel
theorem dX6_init_692 : decode cX6_init 692 = .ok (.iastore, 1) := zd02dec2_173.1
theorem dX6_init_693 : decode cX6_init 693 = .ok (.dup, 1) := zd02dec2_173.2.1
theorem dX6_init_694 : decode cX6_init 694 = .ok (.bipush 56, 2) := zd02dec2_173.2.2.1
theorem dX6_init_696 : decode cX6_init 696 = .ok (.bipush 109, 2) := zd02dec2_173.2.2.2.1
theorem dX6_init_698 : decode cX6_init 698 = .ok (.iastore, 1) := zd02dec2_173.2.2.2.2.1
theorem dX6_init_699 : decode cX6_init 699 = .ok (.dup, 1) := zd02dec2_173.2.2.2.2.2.1
theorem dX6_init_700 : decode cX6_init 700 = .ok (.bipush 57, 2) := zd02dec2_173.2.2.2.2.2.2.1
theorem dX6_init_702 : decode cX6_init 702 = .ok (.bipush 111, 2) := zd02dec2_173.2.2.2.2.2.2.2.1
theorem dX6_init_704 : decode cX6_init 704 = .ok (.iastore, 1) := zd02dec2_173.2.2.2.2.2.2.2.2.1
theorem dX6_init_705 : decode cX6_init 705 = .ok (.dup, 1) := zd02dec2_173.2.2.2.2.2.2.2.2.2.1
theorem dX6_init_706 : decode cX6_init 706 = .ok (.bipush 58, 2) := zd02dec2_173.2.2.2.2.2.2.2.2.2.2.1
theorem dX6_init_708 : decode cX6_init 708 = .ok (.bipush 114, 2) := zd02dec2_173.2.2.2.2.2.2.2.2.2.2.2
theorem zd02dec2_174 : decode cX6_init 710 = .ok (.iastore, 1) ∧ decode cX6_init 711 = .ok (.dup, 1) ∧ decode cX6_init 712 = .ok (.bipush 59, 2) ∧ decode cX6_init 714 = .ok (.bipush 101, 2) ∧ decode cX6_init 716 = .ok (.iastore, 1) ∧ decode cX6_init 717 = .ok (.dup, 1) ∧ decode cX6_init 718 = .ok (.bipush 60, 2) ∧ decode cX6_init 720 = .ok (.bipush 32, 2) ∧ decode cX6_init 722 = .ok (.iastore, 1) ∧ decode cX6_init 723 = .ok (.dup, 1) ∧ decode cX6_init 724 = .ok (.bipush 61, 2) ∧ decode cX6_init 726 = .ok (.bipush 32, 2) := by decide +kernel
theorem dX6_init_710 : decode cX6_init 710 = .ok (.iastore, 1) := zd02dec2_174.1
theorem dX6_init_711 : decode cX6_init 711 = .ok (.dup, 1) := zd02dec2_174.2.1
theorem dX6_init_712 : decode cX6_init 712 = .ok (.bipush 59, 2) := zd02dec2_174.2.2.1
theorem dX6_init_714 : decode cX6_init 714 = .ok (.bipush 101, 2) := zd02dec2_174.2.2.2.1
theorem dX6_init_716 : decode cX6_init 716 = .ok (.iastore, 1) := zd02dec2_174.2.2.2.2.1
theorem dX6_init_717 : decode cX6_init 717 = .ok (.dup, 1) := zd02dec2_174.2.2.2.2.2.1
theorem dX6_init_718 : decode cX6_init 718 = .ok (.bipush 60, 2) := zd02dec2_174.2.2.2.2.2.2.1
theorem dX6_init_720 : decode cX6_init 720 = .ok (.bipush 32, 2) := zd02dec2_174.2.2.2.2.2.2.2.1
theorem dX6_init_722 : decode cX6_init 722 = .ok (.iastore, 1) := zd02dec2_174.2.2.2.2.2.2.2.2.1
theorem dX6_init_723 : decode cX6_init 723 = .ok (.dup, 1) := zd02dec2_174.2.2.2.2.2.2.2.2.2.1
theorem dX6_init_724 : decode cX6_init 724 = .ok (.bipush 61, 2) := zd02dec2_174.2.2.2.2.2.2.2.2.2.2.1
theorem dX6_init_726 : decode cX6_init 726 = .ok (.bipush 32, 2) := zd02dec2_174.2.2.2.2.2.2.2.2.2.2.2
theorem zd02dec2_175 : decode cX6_init 728 = .ok (.iastore, 1) ∧ decode cX6_init 729 = .ok (.dup, 1) ∧ decode cX6_init 730 = .ok (.bipush 62, 2) ∧ decode cX6_init 732 = .ok (.bipush 32, 2) ∧ decode cX6_init 734 = .ok (.iastore, 1) ∧ decode cX6_init 735 = .ok (.dup, 1) ∧ decode cX6_init 736 = .ok (.bipush 63, 2) ∧ decode cX6_init 738 = .ok (.bipush 32, 2) ∧ decode cX6_init 740 = .ok (.iastore, 1) ∧ decode cX6_init 741 = .ok (.dup, 1) ∧ decode cX6_init 742 = .ok (.bipush 64, 2) ∧ decode cX6_init 744 = .ok (.bipush 106, 2) := by decide +kernel
theorem dX6_init_728 : decode cX6_init 728 = .ok (.iastore, 1) := zd02dec2_175.1
theorem dX6_init_729 : decode cX6_init 729 = .ok (.dup, 1) := zd02dec2_175.2.1
theorem dX6_init_730 : decode cX6_init 730 = .ok (.bipush 62, 2) := zd02dec2_175.2.2.1
theorem dX6_init_732 : decode cX6_init 732 = .ok (.bipush 32, 2) := zd02dec2_175.2.2.2.1
theorem dX6_init_734 : decode cX6_init 734 = .ok (.iastore, 1) := zd02dec2_175.2.2.2.2.1
theorem dX6_init_735 : decode cX6_init 735 = .ok (.dup, 1) := zd02dec2_175.2.2.2.2.2.1
theorem dX6_init_736 : decode cX6_init 736 = .ok (.bipush 63, 2) := zd02dec2_175.2.2.2.2.2.2.1
theorem dX6_init_738 : decode cX6_init 738 = .ok (.bipush 32, 2) := zd02dec2_175.2.2.2.2.2.2.2.1
theorem dX6_init_740 : decode cX6_init 740 = .ok (.iastore, 1) := zd02dec2_175.2.2.2.2.2.2.2.2.1
theorem dX6_init_741 : decode cX6_init 741 = .ok (.dup, 1) := zd02dec2_175.2.2.2.2.2.2.2.2.2.1
theorem dX6_init_742 : decode cX6_init 742 = .ok (.bipush 64, 2) := zd02dec2_175.2.2.2.2.2.2.2.2.2.2.1
theorem dX6_init_744 : decode cX6_init 744 = .ok (.bipush 106, 2) := zd02dec2_175.2.2.2.2.2.2.2.2.2.2.2
theorem zd02dec2_176 : decode cX6_init 746 = .ok (.iastore, 1) ∧ decode cX6_init 747 = .ok (.dup, 1) ∧ decode cX6_init 748 = .ok (.bipush 65, 2) ∧ decode cX6_init 750 = .ok (.bipush 117, 2) ∧ decode cX6_init 752 = .ok (.iastore, 1) ∧ decode cX6_init 753 = .ok (.dup, 1) ∧ decode cX6_init 754 = .ok (.bipush 66, 2) ∧ decode cX6_init 756 = .ok (.bipush 100, 2) ∧ decode cX6_init 758 = .ok (.iastore, 1) ∧ decode cX6_init 759 = .ok (.dup, 1) ∧ decode cX6_init 760 = .ok (.bipush 67, 2) ∧ decode cX6_init 762 = .ok (.bipush 103, 2) := by decide +kernel
theorem dX6_init_746 : decode cX6_init 746 = .ok (.iastore, 1) := zd02dec2_176.1
theorem dX6_init_747 : decode cX6_init 747 = .ok (.dup, 1) := zd02dec2_176.2.1
theorem dX6_init_748 : decode cX6_init 748 = .ok (.bipush 65, 2) := zd02dec2_176.2.2.1
theorem dX6_init_750 : decode cX6_init 750 = .ok (.bipush 117, 2) := zd02dec2_176.2.2.2.1
theorem dX6_init_752 : decode cX6_init 752 = .ok (.iastore, 1) := zd02dec2_176.2.2.2.2.1
theorem dX6_init_753 : decode cX6_init 753 = .ok (.dup, 1) := zd02dec2_176.2.2.2.2.2.1
theorem dX6_init_754 : decode cX6_init 754 = .ok (.bipush 66, 2) := zd02dec2_176.2.2.2.2.2.2.1
theorem dX6_init_756 : decode cX6_init 756 = .ok (.bipush 100, 2) := zd02dec2_176.2.2.2.2.2.2.2.1
theorem dX6_init_758 : decode cX6_init 758 = .ok (.iastore, 1) := zd02dec2_176.2.2.2.2.2.2.2.2.1
theorem dX6_init_759 : decode cX6_init 759 = .ok (.dup, 1) := zd02dec2_176.2.2.2.2.2.2.2.2.2.1
theorem dX6_init_760 : decode cX6_init 760 = .ok (.bipush 67, 2) := zd02dec2_176.2.2.2.2.2.2.2.2.2.2.1
theorem dX6_init_762 : decode cX6_init 762 = .ok (.bipush 103, 2) := zd02dec2_176.2.2.2.2.2.2.2.2.2.2.2
theorem zd02dec2_177 : decode cX6_init 764 = .ok (.iastore, 1) ∧ decode cX6_init 765 = .ok (.dup, 1) ∧ decode cX6_init 766 = .ok (.bipush 68, 2) ∧ decode cX6_init 768 = .ok (.bipush 101, 2) ∧ decode cX6_init 770 = .ok (.iastore, 1) ∧ decode cX6_init 771 = .ok (.dup, 1) ∧ decode cX6_init 772 = .ok (.bipush 69, 2) ∧ decode cX6_init 774 = .ok (.bipush 32, 2) ∧ decode cX6_init 776 = .ok (.iastore, 1) ∧ decode cX6_init 777 = .ok (.dup, 1) ∧ decode cX6_init 778 = .ok (.bipush 70, 2) ∧ decode cX6_init 780 = .ok (.bipush 32, 2) := by decide +kernel
theorem dX6_init_764 : decode cX6_init 764 = .ok (.iastore, 1) := zd02dec2_177.1
theorem dX6_init_765 : decode cX6_init 765 = .ok (.dup, 1) := zd02dec2_177.2.1
theorem dX6_init_766 : decode cX6_init 766 = .ok (.bipush 68, 2) := zd02dec2_177.2.2.1
theorem dX6_init_768 : decode cX6_init 768 = .ok (.bipush 101, 2) := zd02dec2_177.2.2.2.1
theorem dX6_init_770 : decode cX6_init 770 = .ok (.iastore, 1) := zd02dec2_177.2.2.2.2.1
theorem dX6_init_771 : decode cX6_init 771 = .ok (.dup, 1) := zd02dec2_177.2.2.2.2.2.1
theorem dX6_init_772 : decode cX6_init 772 = .ok (.bipush 69, 2) := zd02dec2_177.2.2.2.2.2.2.1
theorem dX6_init_774 : decode cX6_init 774 = .ok (.bipush 32, 2) := zd02dec2_177.2.2.2.2.2.2.2.1
theorem dX6_init_776 : decode cX6_init 776 = .ok (.iastore, 1) := zd02dec2_177.2.2.2.2.2.2.2.2.1
theorem dX6_init_777 : decode cX6_init 777 = .ok (.dup, 1) := zd02dec2_177.2.2.2.2.2.2.2.2.2.1
theorem dX6_init_778 : decode cX6_init 778 = .ok (.bipush 70, 2) := zd02dec2_177.2.2.2.2.2.2.2.2.2.2.1
theorem dX6_init_780 : decode cX6_init 780 = .ok (.bipush 32, 2) := zd02dec2_177.2.2.2.2.2.2.2.2.2.2.2
theorem zd02dec2_178 : decode cX6_init 782 = .ok (.iastore, 1) ∧ decode cX6_init 783 = .ok (.dup, 1) ∧ decode cX6_init 784 = .ok (.bipush 71, 2) ∧ decode cX6_init 786 = .ok (.bipush 32, 2) ∧ decode cX6_init 788 = .ok (.iastore, 1) ∧ decode cX6_init 789 = .ok (.dup, 1) ∧ decode cX6_init 790 = .ok (.bipush 72, 2) ∧ decode cX6_init 792 = .ok (.bipush 111, 2) ∧ decode cX6_init 794 = .ok (.iastore, 1) ∧ decode cX6_init 795 = .ok (.dup, 1) ∧ decode cX6_init 796 = .ok (.bipush 73, 2) ∧ decode cX6_init 798 = .ok (.bipush 114, 2) := by decide +kernel
theorem dX6_init_782 : decode cX6_init 782 = .ok (.iastore, 1) := zd02dec2_178.1
theorem dX6_init_783 : decode cX6_init 783 = .ok (.dup, 1) := zd02dec2_178.2.1
theorem dX6_init_784 : decode cX6_init 784 = .ok (.bipush 71, 2) := zd02dec2_178.2.2.1
theorem dX6_init_786 : decode cX6_init 786 = .ok (.bipush 32, 2) := zd02dec2_178.2.2.2.1
theorem dX6_init_788 : decode cX6_init 788 = .ok (.iastore, 1) := zd02dec2_178.2.2.2.2.1
theorem dX6_init_789 : decode cX6_init 789 = .ok (.dup, 1) := zd02dec2_178.2.2.2.2.2.1
theorem dX6_init_790 : decode cX6_init 790 = .ok (.bipush 72, 2) := zd02dec2_178.2.2.2.2.2.2.1
theorem dX6_init_792 : decode cX6_init 792 = .ok (.bipush 111, 2) := zd02dec2_178.2.2.2.2.2.2.2.1
theorem dX6_init_794 : decode cX6_init 794 = .ok (.iastore, 1) := zd02dec2_178.2.2.2.2.2.2.2.2.1
theorem dX6_init_795 : decode cX6_init 795 = .ok (.dup, 1) := zd02dec2_178.2.2.2.2.2.2.2.2.2.1
theorem dX6_init_796 : decode cX6_init 796 = .ok (.bipush 73, 2) := zd02dec2_178.2.2.2.2.2.2.2.2.2.2.1
theorem dX6_init_798 : decode cX6_init 798 = .ok (.bipush 114, 2) := zd02dec2_178.2.2.2.2.2.2.2.2.2.2.2
theorem zd02dec2_179 : decode cX6_init 800 = .ok (.iastore, 1) ∧ decode cX6_init 801 = .ok (.dup, 1) ∧ decode cX6_init 802 = .ok (.bipush 74, 2) ∧ decode cX6_init 804 = .ok (.bipush 32, 2) ∧ decode cX6_init 806 = .ok (.iastore, 1) ∧ decode cX6_init 807 = .ok (.dup, 1) ∧ decode cX6_init 808 = .ok (.bipush 75, 2) ∧ decode cX6_init 810 = .ok (.bipush 32, 2) ∧ decode cX6_init 812 = .ok (.iastore, 1) ∧ decode cX6_init 813 = .ok (.dup, 1) ∧ decode cX6_init 814 = .ok (.bipush 76, 2) ∧ decode cX6_init 816 = .ok (.bipush 32, 2) := by decide +kernel
theorem dX6_init_800 : decode cX6_init 800 = .ok (.iastore, 1) := zd02dec2_179.1
theorem dX6_init_801 : decode cX6_init 801 = .ok (.dup, 1) := zd02dec2_179.2.1
theorem dX6_init_802 : decode cX6_init 802 = .ok (.bipush 74, 2) := zd02dec2_179.2.2.1
theorem dX6_init_804 : decode cX6_init 804 = .ok (.bipush 32, 2) := zd02dec2_179.2.2.2.1
theorem dX6_init_806 : decode cX6_init 806 = .ok (.iastore, 1) := zd02dec2_179.2.2.2.2.1
theorem dX6_init_807 : decode cX6_init 807 = .ok (.dup, 1) := zd02dec2_179.2.2.2.2.2.1
theorem dX6_init_808 : decode cX6_init 808 = .ok (.bipush 75, 2) := zd02dec2_179.2.2.2.2.2.2.1
theorem dX6_init_810 : decode cX6_init 810 = .ok (.bipush 32, 2) := zd02dec2_179.2.2.2.2.2.2.2.1
theorem dX6_init_812 : decode cX6_init 812 = .ok (.iastore, 1) := zd02dec2_179.2.2.2.2.2.2.2.2.1
theorem dX6_init_813 : decode cX6_init 813 = .ok (.dup, 1) := zd02dec2_179.2.2.2.2.2.2.2.2.2.1
theorem dX6_init_814 : decode cX6_init 814 = .ok (.bipush 76, 2) := zd02dec2_179.2.2.2.2.2.2.2.2.2.2.1
theorem dX6_init_816 : decode cX6_init 816 = .ok (.bipush 32, 2) := zd02dec2_179.2.2.2.2.2.2.2.2.2.2.2
theorem zd02dec2_180 : decode cX6_init 818 = .ok (.iastore, 1) ∧ decode cX6_init 819 = .ok (.dup, 1) ∧ decode cX6_init 820 = .ok (.bipush 77, 2) ∧ decode cX6_init 822 = .ok (.bipush 32, 2) ∧ decode cX6_init 824 = .ok (.iastore, 1) ∧ decode cX6_init 825 = .ok (.dup, 1) ∧ decode cX6_init 826 = .ok (.bipush 78, 2) ∧ decode cX6_init 828 = .ok (.bipush 32, 2) ∧ decode cX6_init 830 = .ok (.iastore, 1) ∧ decode cX6_init 831 = .ok (.dup, 1) ∧ decode cX6_init 832 = .ok (.bipush 79, 2) ∧ decode cX6_init 834 = .ok (.bipush 32, 2) := by decide +kernel
theorem dX6_init_818 : decode cX6_init 818 = .ok (.iastore, 1) := zd02dec2_180.1
theorem dX6_init_819 : decode cX6_init 819 = .ok (.dup, 1) := zd02dec2_180.2.1
theorem dX6_init_820 : decode cX6_init 820 = .ok (.bipush 77, 2) := zd02dec2_180.2.2.1
theorem dX6_init_822 : decode cX6_init 822 = .ok (.bipush 32, 2) := zd02dec2_180.2.2.2.1
theorem dX6_init_824 : decode cX6_init 824 = .ok (.iastore, 1) := zd02dec2_180.2.2.2.2.1
theorem dX6_init_825 : decode cX6_init 825 = .ok (.dup, 1) := zd02dec2_180.2.2.2.2.2.1
theorem dX6_init_826 : decode cX6_init 826 = .ok (.bipush 78, 2) := zd02dec2_180.2.2.2.2.2.2.1
theorem dX6_init_828 : decode cX6_init 828 = .ok (.bipush 32, 2) := zd02dec2_180.2.2.2.2.2.2.2.1
theorem dX6_init_830 : decode cX6_init 830 = .ok (.iastore, 1) := zd02dec2_180.2.2.2.2.2.2.2.2.1
theorem dX6_init_831 : decode cX6_init 831 = .ok (.dup, 1) := zd02dec2_180.2.2.2.2.2.2.2.2.2.1
theorem dX6_init_832 : decode cX6_init 832 = .ok (.bipush 79, 2) := zd02dec2_180.2.2.2.2.2.2.2.2.2.2.1
theorem dX6_init_834 : decode cX6_init 834 = .ok (.bipush 32, 2) := zd02dec2_180.2.2.2.2.2.2.2.2.2.2.2
theorem zd02dec2_181 : decode cX6_init 836 = .ok (.iastore, 1) ∧ decode cX6_init 837 = .ok (.dup, 1) ∧ decode cX6_init 838 = .ok (.bipush 80, 2) ∧ decode cX6_init 840 = .ok (.bipush 97, 2) ∧ decode cX6_init 842 = .ok (.iastore, 1) ∧ decode cX6_init 843 = .ok (.dup, 1) ∧ decode cX6_init 844 = .ok (.bipush 81, 2) ∧ decode cX6_init 846 = .ok (.bipush 110, 2) ∧ decode cX6_init 848 = .ok (.iastore, 1) ∧ decode cX6_init 849 = .ok (.dup, 1) ∧ decode cX6_init 850 = .ok (.bipush 82, 2) ∧ decode cX6_init 852 = .ok (.bipush 100, 2) := by decide +kernel
theorem dX6_init_836 : decode cX6_init 836 = .ok (.iastore, 1) := zd02dec2_181.1
theorem dX6_init_837 : decode cX6_init 837 = .ok (.dup, 1) := zd02dec2_181.2.1
theorem dX6_init_838 : decode cX6_init 838 = .ok (.bipush 80, 2) := zd02dec2_181.2.2.1
theorem dX6_init_840 : decode cX6_init 840 = .ok (.bipush 97, 2) := zd02dec2_181.2.2.2.1
theorem dX6_init_842 : decode cX6_init 842 = .ok (.iastore, 1) := zd02dec2_181.2.2.2.2.1
theorem dX6_init_843 : decode cX6_init 843 = .ok (.dup, 1) := zd02dec2_181.2.2.2.2.2.1
theorem dX6_init_844 : decode cX6_init 844 = .ok (.bipush 81, 2) := zd02dec2_181.2.2.2.2.2.2.1
theorem dX6_init_846 : decode cX6_init 846 = .ok (.bipush 110, 2) := zd02dec2_181.2.2.2.2.2.2.2.1
theorem dX6_init_848 : decode cX6_init 848 = .ok (.iastore, 1) := zd02dec2_181.2.2.2.2.2.2.2.2.1
theorem dX6_init_849 : decode cX6_init 849 = .ok (.dup, 1) := zd02dec2_181.2.2.2.2.2.2.2.2.2.1
theorem dX6_init_850 : decode cX6_init 850 = .ok (.bipush 82, 2) := zd02dec2_181.2.2.2.2.2.2.2.2.2.2.1
theorem dX6_init_852 : decode cX6_init 852 = .ok (.bipush 100, 2) := zd02dec2_181.2.2.2.2.2.2.2.2.2.2.2
theorem zd02dec2_182 : decode cX6_init 854 = .ok (.iastore, 1) ∧ decode cX6_init 855 = .ok (.dup, 1) ∧ decode cX6_init 856 = .ok (.bipush 83, 2) ∧ decode cX6_init 858 = .ok (.bipush 32, 2) ∧ decode cX6_init 860 = .ok (.iastore, 1) ∧ decode cX6_init 861 = .ok (.dup, 1) ∧ decode cX6_init 862 = .ok (.bipush 84, 2) ∧ decode cX6_init 864 = .ok (.bipush 32, 2) ∧ decode cX6_init 866 = .ok (.iastore, 1) ∧ decode cX6_init 867 = .ok (.dup, 1) ∧ decode cX6_init 868 = .ok (.bipush 85, 2) ∧ decode cX6_init 870 = .ok (.bipush 32, 2) := by decide +kernel
theorem dX6_init_854 : decode cX6_init 854 = .ok (.iastore, 1) := zd02dec2_182.1
theorem dX6_init_855 : decode cX6_init 855 = .ok (.dup, 1) := zd02dec2_182.2.1
theorem dX6_init_856 : decode cX6_init 856 = .ok (.bipush 83, 2) := zd02dec2_182.2.2.1
theorem dX6_init_858 : decode cX6_init 858 = .ok (.bipush 32, 2) := zd02dec2_182.2.2.2.1
theorem dX6_init_860 : decode cX6_init 860 = .ok (.iastore, 1) := zd02dec2_182.2.2.2.2.1
theorem dX6_init_861 : decode cX6_init 861 = .ok (.dup, 1) := zd02dec2_182.2.2.2.2.2.1
theorem dX6_init_862 : decode cX6_init 862 = .ok (.bipush 84, 2) := zd02dec2_182.2.2.2.2.2.2.1
theorem dX6_init_864 : decode cX6_init 864 = .ok (.bipush 32, 2) := zd02dec2_182.2.2.2.2.2.2.2.1
theorem dX6_init_866 : decode cX6_init 866 = .ok (.iastore, 1) := zd02dec2_182.2.2.2.2.2.2.2.2.1
theorem dX6_init_867 : decode cX6_init 867 = .ok (.dup, 1) := zd02dec2_182.2.2.2.2.2.2.2.2.2.1
theorem dX6_init_868 : decode cX6_init 868 = .ok (.bipush 85, 2) := zd02dec2_182.2.2.2.2.2.2.2.2.2.2.1
theorem dX6_init_870 : decode cX6_init 870 = .ok (.bipush 32, 2) := zd02dec2_182.2.2.2.2.2.2.2.2.2.2.2
theorem zd02dec2_183 : decode cX6_init 872 = .ok (.iastore, 1) ∧ decode cX6_init 873 = .ok (.dup, 1) ∧ decode cX6_init 874 = .ok (.bipush 86, 2) ∧ decode cX6_init 876 = .ok (.bipush 32, 2) ∧ decode cX6_init 878 = .ok (.iastore, 1) ∧ decode cX6_init 879 = .ok (.dup, 1) ∧ decode cX6_init 880 = .ok (.bipush 87, 2) ∧ decode cX6_init 882 = .ok (.bipush 32, 2) ∧ decode cX6_init 884 = .ok (.iastore, 1) ∧ decode cX6_init 885 = .ok (.dup, 1) ∧ decode cX6_init 886 = .ok (.bipush 88, 2) ∧ decode cX6_init 888 = .ok (.bipush 110, 2) := by decide +kernel
theorem dX6_init_872 : decode cX6_init 872 = .ok (.iastore, 1) := zd02dec2_183.1
theorem dX6_init_873 : decode cX6_init 873 = .ok (.dup, 1) := zd02dec2_183.2.1
theorem dX6_init_874 : decode cX6_init 874 = .ok (.bipush 86, 2) := zd02dec2_183.2.2.1
theorem dX6_init_876 : decode cX6_init 876 = .ok (.bipush 32, 2) := zd02dec2_183.2.2.2.1
theorem dX6_init_878 : decode cX6_init 878 = .ok (.iastore, 1) := zd02dec2_183.2.2.2.2.1
theorem dX6_init_879 : decode cX6_init 879 = .ok (.dup, 1) := zd02dec2_183.2.2.2.2.2.1
theorem dX6_init_880 : decode cX6_init 880 = .ok (.bipush 87, 2) := zd02dec2_183.2.2.2.2.2.2.1
theorem dX6_init_882 : decode cX6_init 882 = .ok (.bipush 32, 2) := zd02dec2_183.2.2.2.2.2.2.2.1
theorem dX6_init_884 : decode cX6_init 884 = .ok (.iastore, 1) := zd02dec2_183.2.2.2.2.2.2.2.2.1
theorem dX6_init_885 : decode cX6_init 885 = .ok (.dup, 1) := zd02dec2_183.2.2.2.2.2.2.2.2.2.1
theorem dX6_init_886 : decode cX6_init 886 = .ok (.bipush 88, 2) := zd02dec2_183.2.2.2.2.2.2.2.2.2.2.1
theorem dX6_init_888 : decode cX6_init 888 = .ok (.bipush 110, 2) := zd02dec2_183.2.2.2.2.2.2.2.2.2.2.2
theorem zd02dec2_184 : decode cX6_init 890 = .ok (.iastore, 1) ∧ decode cX6_init 891 = .ok (.dup, 1) ∧ decode cX6_init 892 = .ok (.bipush 89, 2) ∧ decode cX6_init 894 = .ok (.bipush 111, 2) ∧ decode cX6_init 896 = .ok (.iastore, 1) ∧ decode cX6_init 897 = .ok (.dup, 1) ∧ decode cX6_init 898 = .ok (.bipush 90, 2) ∧ decode cX6_init 900 = .ok (.bipush 116, 2) ∧ decode cX6_init 902 = .ok (.iastore, 1) ∧ decode cX6_init 903 = .ok (.dup, 1) ∧ decode cX6_init 904 = .ok (.bipush 91, 2) ∧ decode cX6_init 906 = .ok (.bipush 32, 2) := by decide +kernel
theorem dX6_init_890 : decode cX6_init 890 = .ok (.iastore, 1) := zd02dec2_184.1
theorem dX6_init_891 : decode cX6_init 891 = .ok (.dup, 1) := zd02dec2_184.2.1
theorem dX6_init_892 : decode cX6_init 892 = .ok (.bipush 89, 2) := zd02dec2_184.2.2.1
theorem dX6_init_894 : decode cX6_init 894 = .ok (.bipush 111, 2) := zd02dec2_184.2.2.2.1
theorem dX6_init_896 : decode cX6_init 896 = .ok (.iastore, 1) := zd02dec2_184.2.2.2.2.1
theorem dX6_init_897 : decode cX6_init 897 = .ok (.dup, 1) := zd02dec2_184.2.2.2.2.2.1
theorem dX6_init_898 : decode cX6_init 898 = .ok (.bipush 90, 2) := zd02dec2_184.2.2.2.2.2.2.1
theorem dX6_init_900 : decode cX6_init 900 = .ok (.bipush 116, 2) := zd02dec2_184.2.2.2.2.2.2.2.1
theorem dX6_init_902 : decode cX6_init 902 = .ok (.iastore, 1) := zd02dec2_184.2.2.2.2.2.2.2.2.1
theorem dX6_init_903 : decode cX6_init 903 = .ok (.dup, 1) := zd02dec2_184.2.2.2.2.2.2.2.2.2.1
theorem dX6_init_904 : decode cX6_init 904 = .ok (.bipush 91, 2) := zd02dec2_184.2.2.2.2.2.2.2.2.2.2.1
theorem dX6_init_906 : decode cX6_init 906 = .ok (.bipush 32, 2) := zd02dec2_184.2.2.2.2.2.2.2.2.2.2.2
theorem zd02dec2_185 : decode cX6_init 908 = .ok (.iastore, 1) ∧ decode cX6_init 909 = .ok (.dup, 1) ∧ decode cX6_init 910 = .ok (.bipush 92, 2) ∧ decode cX6_init 912 = .ok (.bipush 32, 2) ∧ decode cX6_init 914 = .ok (.iastore, 1) ∧ decode cX6_init 915 = .ok (.dup, 1) ∧ decode cX6_init 916 = .ok (.bipush 93, 2) ∧ decode cX6_init 918 = .ok (.bipush 32, 2) ∧ decode cX6_init 920 = .ok (.iastore, 1) ∧ decode cX6_init 921 = .ok (.dup, 1) ∧ decode cX6_init 922 = .ok (.bipush 94, 2) ∧ decode cX6_init 924 = .ok (.bipush 32, 2) := by decide +kernel
theorem dX6_init_908 : decode cX6_init 908 = .ok (.iastore, 1) := zd02dec2_185.1
theorem dX6_init_909 : decode cX6_init 909 = .ok (.dup, 1) := zd02dec2_185.2.1
theorem dX6_init_910 : decode cX6_init 910 = .ok (.bipush 92, 2) := zd02dec2_185.2.2.1
theorem dX6_init_912 : decode cX6_init 912 = .ok (.bipush 32, 2) := zd02dec2_185.2.2.2.1
theorem dX6_init_914 : decode cX6_init 914 = .ok (.iastore, 1) := zd02dec2_185.2.2.2.2.1
theorem dX6_init_915 : decode cX6_init 915 = .ok (.dup, 1) := zd02dec2_185.2.2.2.2.2.1
theorem dX6_init_916 : decode cX6_init 916 = .ok (.bipush 93, 2) := zd02dec2_185.2.2.2.2.2.2.1
theorem dX6_init_918 : decode cX6_init 918 = .ok (.bipush 32, 2) := zd02dec2_185.2.2.2.2.2.2.2.1
theorem dX6_init_920 : decode cX6_init 920 = .ok (.iastore, 1) := zd02dec2_185.2.2.2.2.2.2.2.2.1
theorem dX6_init_921 : decode cX6_init 921 = .ok (.dup, 1) := zd02dec2_185.2.2.2.2.2.2.2.2.2.1
theorem dX6_init_922 : decode cX6_init 922 = .ok (.bipush 94, 2) := zd02dec2_185.2.2.2.2.2.2.2.2.2.2.1
theorem dX6_init_924 : decode cX6_init 924 = .ok (.bipush 32, 2) := zd02dec2_185.2.2.2.2.2.2.2.2.2.2.2
theorem zd02dec2_186 : decode cX6_init 926 = .ok (.iastore, 1) ∧ decode cX6_init 927 = .ok (.dup, 1) ∧ decode cX6_init 928 = .ok (.bipush 95, 2) ∧ decode cX6_init 930 = .ok (.bipush 32, 2) ∧ decode cX6_init 932 = .ok (.iastore, 1) ∧ decode cX6_init 933 = .ok (.putfield 49, 3) ∧ decode cX6_init 936 = .ok (.aload_n 0, 1) ∧ decode cX6_init 937 = .ok (.sipush 200, 3) ∧ decode cX6_init 940 = .ok (.newarray .int, 2) ∧ decode cX6_init 942 = .ok (.putfield 52, 3) ∧ decode cX6_init 945 = .ok (.aload_n 0, 1) ∧ decode cX6_init 946 = .ok (.sipush 200, 3) := by decide +kernel
theorem dX6_init_926 : decode cX6_init 926 = .ok (.iastore, 1) := zd02dec2_186.1
theorem dX6_init_927 : decode cX6_init 927 = .ok (.dup, 1) := zd02dec2_186.2.1
theorem dX6_init_928 : decode cX6_init 928 = .ok (.bipush 95, 2) := zd02dec2_186.2.2.1
theorem dX6_init_930 : decode cX6_init 930 = .ok (.bipush 32, 2) := zd02dec2_186.2.2.2.1
theorem dX6_init_932 : decode cX6_init 932 = .ok (.iastore, 1) := zd02dec2_186.2.2.2.2.1
theorem dX6_init_933 : decode cX6_init 933 = .ok (.putfield 49, 3) := zd02dec2_186.2.2.2.2.2.1
theorem dX6_init_936 : decode cX6_init 936 = .ok (.aload_n 0, 1) := zd02dec2_186.2.2.2.2.2.2.1
theorem dX6_init_937 : decode cX6_init 937 = .ok (.sipush 200, 3) := zd02dec2_186.2.2.2.2.2.2.2.1
theorem dX6_init_940 : decode cX6_init 940 = .ok (.newarray .int, 2) := zd02dec2_186.2.2.2.2.2.2.2.2.1
theorem dX6_init_942 : decode cX6_init 942 = .ok (.putfield 52, 3) := zd02dec2_186.2.2.2.2.2.2.2.2.2.1
theorem dX6_init_945 : decode cX6_init 945 = .ok (.aload_n 0, 1) := zd02dec2_186.2.2.2.2.2.2.2.2.2.2.1
theorem dX6_init_946 : decode cX6_init 946 = .ok (.sipush 200, 3) := zd02dec2_186.2.2.2.2.2.2.2.2.2.2.2
theorem zd02dec2_187 : decode cX6_init 949 = .ok (.newarray .int, 2) ∧ decode cX6_init 951 = .ok (.putfield 55, 3) ∧ decode cX6_init 954 = .ok (.aload_n 0, 1) ∧ decode cX6_init 955 = .ok (.bipush 6, 2) ∧ decode cX6_init 957 = .ok (.newarray .int, 2) ∧ decode cX6_init 959 = .ok (.putfield 58, 3) ∧ decode cX6_init 962 = .ok (.aload_n 0, 1) ∧ decode cX6_init 963 = .ok (.bipush 24, 2) ∧ decode cX6_init 965 = .ok (.newarray .int, 2) ∧ decode cX6_init 967 = .ok (.putfield 61, 3) ∧ decode cX6_init 970 = .ok (.aload_n 0, 1) ∧ decode cX6_init 971 = .ok (.bipush 61, 2) := by decide +kernel
theorem dX6_init_949 : decode cX6_init 949 = .ok (.newarray .int, 2) := zd02dec2_187.1
theorem dX6_init_951 : decode cX6_init 951 = .ok (.putfield 55, 3) := zd02dec2_187.2.1
theorem dX6_init_954 : decode cX6_init 954 = .ok (.aload_n 0, 1) := zd02dec2_187.2.2.1
theorem dX6_init_955 : decode cX6_init 955 = .ok (.bipush 6, 2) := zd02dec2_187.2.2.2.1
theorem dX6_init_957 : decode cX6_init 957 = .ok (.newarray .int, 2) := zd02dec2_187.2.2.2.2.1
theorem dX6_init_959 : decode cX6_init 959 = .ok (.putfield 58, 3) := zd02dec2_187.2.2.2.2.2.1
theorem dX6_init_962 : decode cX6_init 962 = .ok (.aload_n 0, 1) := zd02dec2_187.2.2.2.2.2.2.1
theorem dX6_init_963 : decode cX6_init 963 = .ok (.bipush 24, 2) := zd02dec2_187.2.2.2.2.2.2.2.1
theorem dX6_init_965 : decode cX6_init 965 = .ok (.newarray .int, 2) := zd02dec2_187.2.2.2.2.2.2.2.2.1
theorem dX6_init_967 : decode cX6_init 967 = .ok (.putfield 61, 3) := zd02dec2_187.2.2.2.2.2.2.2.2.2.1
theorem dX6_init_970 : decode cX6_init 970 = .ok (.aload_n 0, 1) := zd02dec2_187.2.2.2.2.2.2.2.2.2.2.1
theorem dX6_init_971 : decode cX6_init 971 = .ok (.bipush 61, 2) := zd02dec2_187.2.2.2.2.2.2.2.2.2.2.2
theorem zd02dec2_188 : decode cX6_init 973 = .ok (.newarray .boolean, 2) ∧ decode cX6_init 975 = .ok (.putfield 64, 3) ∧ decode cX6_init 978 = .ok (.aload_n 0, 1) ∧ decode cX6_init 979 = .ok (.bipush 61, 2) ∧ decode cX6_init 981 = .ok (.newarray .boolean, 2) ∧ decode cX6_init 983 = .ok (.putfield 68, 3) ∧ decode cX6_init 986 = .ok (.aload_n 0, 1) ∧ decode cX6_init 987 = .ok (.bipush 36, 2) ∧ decode cX6_init 989 = .ok (.newarray .int, 2) ∧ decode cX6_init 991 = .ok (.putfield 71, 3) ∧ decode cX6_init 994 = .ok (.aload_n 0, 1) ∧ decode cX6_init 995 = .ok (.bipush 36, 2) := by decide +kernel
theorem dX6_init_973 : decode cX6_init 973 = .ok (.newarray .boolean, 2) := zd02dec2_188.1
theorem dX6_init_975 : decode cX6_init 975 = .ok (.putfield 64, 3) := zd02dec2_188.2.1
theorem dX6_init_978 : decode cX6_init 978 = .ok (.aload_n 0, 1) := zd02dec2_188.2.2.1
theorem dX6_init_979 : decode cX6_init 979 = .ok (.bipush 61, 2) := zd02dec2_188.2.2.2.1
theorem dX6_init_981 : decode cX6_init 981 = .ok (.newarray .boolean, 2) := zd02dec2_188.2.2.2.2.1
theorem dX6_init_983 : decode cX6_init 983 = .ok (.putfield 68, 3) := zd02dec2_188.2.2.2.2.2.1
theorem dX6_init_986 : decode cX6_init 986 = .ok (.aload_n 0, 1) := zd02dec2_188.2.2.2.2.2.2.1
theorem dX6_init_987 : decode cX6_init 987 = .ok (.bipush 36, 2) := zd02dec2_188.2.2.2.2.2.2.2.1
theorem dX6_init_989 : decode cX6_init 989 = .ok (.newarray .int, 2) := zd02dec2_188.2.2.2.2.2.2.2.2.1
theorem dX6_init_991 : decode cX6_init 991 = .ok (.putfield 71, 3) := zd02dec2_188.2.2.2.2.2.2.2.2.2.1
theorem dX6_init_994 : decode cX6_init 994 = .ok (.aload_n 0, 1) := zd02dec2_188.2.2.2.2.2.2.2.2.2.2.1
theorem dX6_init_995 : decode cX6_init 995 = .ok (.bipush 36, 2) := zd02dec2_188.2.2.2.2.2.2.2.2.2.2.2
theorem zd02dec2_189 : decode cX6_init 997 = .ok (.newarray .int, 2) ∧ decode cX6_init 999 = .ok (.putfield 74, 3) ∧ decode cX6_init 1002 = .ok (.aload_n 0, 1) ∧ decode cX6_init 1003 = .ok (.bipush 64, 2) ∧ decode cX6_init 1005 = .ok (.newarray .int, 2) ∧ decode cX6_init 1007 = .ok (.putfield 77, 3) ∧ decode cX6_init 1010 = .ok (.iconst 0, 1) ∧ decode cX6_init 1011 = .ok (.istore_n 1, 1) ∧ decode cX6_init 1012 = .ok (.iload_n 1, 1) ∧ decode cX6_init 1013 = .ok (.bipush 40, 2) ∧ decode cX6_init 1015 = .ok (.if_icmp .ge 21, 3) ∧ decode cX6_init 1018 = .ok (.aload_n 0, 1) := by decide +kernel
theorem dX6_init_997 : decode cX6_init 997 = .ok (.newarray .int, 2) := zd02dec2_189.1
theorem dX6_init_999 : decode cX6_init 999 = .ok (.putfield 74, 3) := zd02dec2_189.2.1
theorem dX6_init_1002 : decode cX6_init 1002 = .ok (.aload_n 0, 1) := zd02dec2_189.2.2.1
theorem dX6_init_1003 : decode cX6_init 1003 = .ok (.bipush 64, 2) := zd02dec2_189.2.2.2.1
theorem dX6_init_1005 : decode cX6_init 1005 = .ok (.newarray .int, 2) := zd02dec2_189.2.2.2.2.1
theorem dX6_init_1007 : decode cX6_init 1007 = .ok (.putfield 77, 3) := zd02dec2_189.2.2.2.2.2.1
theorem dX6_init_1010 : decode cX6_init 1010 = .ok (.iconst 0, 1) := zd02dec2_189.2.2.2.2.2.2.1
theorem dX6_init_1011 : decode cX6_init 1011 = .ok (.istore_n 1, 1) := zd02dec2_189.2.2.2.2.2.2.2.1
theorem dX6_init_1012 : decode cX6_init 1012 = .ok (.iload_n 1, 1) := zd02dec2_189.2.2.2.2.2.2.2.2.1
theorem dX6_init_1013 : decode cX6_init 1013 = .ok (.bipush 40, 2) := zd02dec2_189.2.2.2.2.2.2.2.2.2.1
theorem dX6_init_1015 : decode cX6_init 1015 = .ok (.if_icmp .ge 21, 3) := zd02dec2_189.2.2.2.2.2.2.2.2.2.2.1
theorem dX6_init_1018 : decode cX6_init 1018 = .ok (.aload_n 0, 1) := zd02dec2_189.2.2.2.2.2.2.2.2.2.2.2
theorem zd02dec2_190 : decode cX6_init 1019 = .ok (.getfield 22, 3) ∧ decode cX6_init 1022 = .ok (.iload_n 1, 1) ∧ decode cX6_init 1023 = .ok (.aload_n 0, 1) ∧ decode cX6_init 1024 = .ok (.getfield 46, 3) ∧ decode cX6_init 1027 = .ok (.iload_n 1, 1) ∧ decode cX6_init 1028 = .ok (.iaload, 1) ∧ decode cX6_init 1029 = .ok (.iastore, 1) ∧ decode cX6_init 1030 = .ok (.iinc 1 1, 3) ∧ decode cX6_init 1033 = .ok (.goto (-21), 3) ∧ decode cX6_init 1036 = .ok (.aload_n 0, 1) ∧ decode cX6_init 1037 = .ok (.bipush 40, 2) ∧ decode cX6_init 1039 = .ok (.putfield 80, 3) := by decide +kernel
theorem dX6_init_1019 : decode cX6_init 1019 = .ok (.getfield 22, 3) := zd02dec2_190.1
theorem dX6_init_1022 : decode cX6_init 1022 = .ok (.iload_n 1, 1) := zd02dec2_190.2.1
theorem dX6_init_1023 : decode cX6_init 1023 = .ok (.aload_n 0, 1) := zd02dec2_190.2.2.1
theorem dX6_init_1024 : decode cX6_init 1024 = .ok (.getfield 46, 3) := zd02dec2_190.2.2.2.1
theorem dX6_init_1027 : decode cX6_init 1027 = .ok (.iload_n 1, 1) := zd02dec2_190.2.2.2.2.1
theorem dX6_init_1028 : decode cX6_init 1028 = .ok (.iaload, 1) := zd02dec2_190.2.2.2.2.2.1
theorem dX6_init_1029 : decode cX6_init 1029 = .ok (.iastore, 1) := zd02dec2_190.2.2.2.2.2.2.1
theorem dX6_init_1030 : decode cX6_init 1030 = .ok (.iinc 1 1, 3) := zd02dec2_190.2.2.2.2.2.2.2.1
theorem dX6_init_1033 : decode cX6_init 1033 = .ok (.goto (-21), 3) := zd02dec2_190.2.2.2.2.2.2.2.2.1
theorem dX6_init_1036 : decode cX6_init 1036 = .ok (.aload_n 0, 1) := zd02dec2_190.2.2.2.2.2.2.2.2.2.1
theorem dX6_init_1037 : decode cX6_init 1037 = .ok (.bipush 40, 2) := zd02dec2_190.2.2.2.2.2.2.2.2.2.2.1
theorem dX6_init_1039 : decode cX6_init 1039 = .ok (.putfield 80, 3) := zd02dec2_190.2.2.2.2.2.2.2.2.2.2.2
theorem zd02dec2_191 : decode cX6_init 1042 = .ok (.aload_n 0, 1) ∧ decode cX6_init 1043 = .ok (.invokevirtual 84, 3) ∧ decode cX6_init 1046 = .ok (.pop, 1) ∧ decode cX6_init 1047 = .ok (.return_, 1) := by decide +kernel
theorem dX6_init_1042 : decode cX6_init 1042 = .ok (.aload_n 0, 1) := zd02dec2_191.1
theorem dX6_init_1043 : decode cX6_init 1043 = .ok (.invokevirtual 84, 3) := zd02dec2_191.2.1
theorem dX6_init_1046 : decode cX6_init 1046 = .ok (.pop, 1) := zd02dec2_191.2.2.1
theorem dX6_init_1047 : decode cX6_init 1047 = .ok (.return_, 1) := zd02dec2_191.2.2.2
theorem zd02dec2_192 : decode cX6_in 0 = .ok (.iload_n 0, 1) ∧ decode cX6_in 1 = .ok (.iload_n 1, 1) ∧ decode cX6_in 2 = .ok (.if_icmp .lt 12, 3) ∧ decode cX6_in 5 = .ok (.iload_n 0, 1) ∧ decode cX6_in 6 = .ok (.iload_n 2, 1) ∧ decode cX6_in 7 = .ok (.if_icmp .gt 7, 3) ∧ decode cX6_in 10 = .ok (.iconst 1, 1) ∧ decode cX6_in 11 = .ok (.goto 4, 3) ∧ decode cX6_in 14 = .ok (.iconst 0, 1) ∧ decode cX6_in 15 = .ok (.ireturn, 1) := by decide +kernel
theorem dX6_in_0 : decode cX6_in 0 = .ok (.iload_n 0, 1) := zd02dec2_192.1
theorem dX6_in_1 : decode cX6_in 1 = .ok (.iload_n 1, 1) := zd02dec2_192.2.1
theorem dX6_in_2 : decode cX6_in 2 = .ok (.if_icmp .lt 12, 3) := zd02dec2_192.2.2.1
theorem dX6_in_5 : decode cX6_in 5 = .ok (.iload_n 0, 1) := zd02dec2_192.2.2.2.1
theorem dX6_in_6 : decode cX6_in 6 = .ok (.iload_n 2, 1) := zd02dec2_192.2.2.2.2.1
theorem dX6_in_7 : decode cX6_in 7 = .ok (.if_icmp .gt 7, 3) := zd02dec2_192.2.2.2.2.2.1
theorem dX6_in_10 : decode cX6_in 10 = .ok (.iconst 1, 1) := zd02dec2_192.2.2.2.2.2.2.1
theorem dX6_in_11 : decode cX6_in 11 = .ok (.goto 4, 3) := zd02dec2_192.2.2.2.2.2.2.2.1
theorem dX6_in_14 : decode cX6_in 14 = .ok (.iconst 0, 1) := zd02dec2_192.2.2.2.2.2.2.2.2.1
theorem dX6_in_15 : decode cX6_in 15 = .ok (.ireturn, 1) := zd02dec2_192.2.2.2.2.2.2.2.2.2
theorem zd02dec2_193 : decode cX6_within 0 = .ok (.iload_n 0, 1) ∧ decode cX6_within 1 = .ok (.iload_n 1, 1) ∧ decode cX6_within 2 = .ok (.if_icmp .ge 7, 3) ∧ decode cX6_within 5 = .ok (.iload_n 1, 1) ∧ decode cX6_within 6 = .ok (.goto 13, 3) ∧ decode cX6_within 9 = .ok (.iload_n 0, 1) ∧ decode cX6_within 10 = .ok (.iload_n 2, 1) ∧ decode cX6_within 11 = .ok (.if_icmp .le 7, 3) ∧ decode cX6_within 14 = .ok (.iload_n 2, 1) ∧ decode cX6_within 15 = .ok (.goto 4, 3) ∧ decode cX6_within 18 = .ok (.iload_n 0, 1) ∧ decode cX6_within 19 = .ok (.ireturn, 1) := by decide +kernel
theorem dX6_within_0 : decode cX6_within 0 = .ok (.iload_n 0, 1) := zd02dec2_193.1
theorem dX6_within_1 : decode cX6_within 1 = .ok (.iload_n 1, 1) := zd02dec2_193.2.1
theorem dX6_within_2 : decode cX6_within 2 = .ok (.if_icmp .ge 7, 3) := zd02dec2_193.2.2.1
theorem dX6_within_5 : decode cX6_within 5 = .ok (.iload_n 1, 1) := zd02dec2_193.2.2.2.1
theorem dX6_within_6 : decode cX6_within 6 = .ok (.goto 13, 3) := zd02dec2_193.2.2.2.2.1
theorem dX6_within_9 : decode cX6_within 9 = .ok (.iload_n 0, 1) := zd02dec2_193.2.2.2.2.2.1
theorem dX6_within_10 : decode cX6_within 10 = .ok (.iload_n 2, 1) := zd02dec2_193.2.2.2.2.2.2.1
theorem dX6_within_11 : decode cX6_within 11 = .ok (.if_icmp .le 7, 3) := zd02dec2_193.2.2.2.2.2.2.2.1
theorem dX6_within_14 : decode cX6_within 14 = .ok (.iload_n 2, 1) := zd02dec2_193.2.2.2.2.2.2.2.2.1
theorem dX6_within_15 : decode cX6_within 15 = .ok (.goto 4, 3) := zd02dec2_193.2.2.2.2.2.2.2.2.2.1
theorem dX6_within_18 : decode cX6_within 18 = .ok (.iload_n 0, 1) := zd02dec2_193.2.2.2.2.2.2.2.2.2.2.1
theorem dX6_within_19 : decode cX6_within 19 = .ok (.ireturn, 1) := zd02dec2_193.2.2.2.2.2.2.2.2.2.2.2
theorem zd02dec2_194 : decode cX6_isPebble 0 = .ok (.iload_n 1, 1) ∧ decode cX6_isPebble 1 = .ok (.iconst 0, 1) ∧ decode cX6_isPebble 2 = .ok (.aload_n 0, 1) ∧ decode cX6_isPebble 3 = .ok (.getfield 88, 3) ∧ decode cX6_isPebble 6 = .ok (.iconst 1, 1) ∧ decode cX6_isPebble 7 = .ok (.isub, 1) ∧ decode cX6_isPebble 8 = .ok (.invokestatic 91, 3) ∧ decode cX6_isPebble 11 = .ok (.ireturn, 1) := by decide +kernel
theorem dX6_isPebble_0 : decode cX6_isPebble 0 = .ok (.iload_n 1, 1) := zd02dec2_194.1
theorem dX6_isPebble_1 : decode cX6_isPebble 1 = .ok (.iconst 0, 1) := zd02dec2_194.2.1
theorem dX6_isPebble_2 : decode cX6_isPebble 2 = .ok (.aload_n 0, 1) := zd02dec2_194.2.2.1
theorem dX6_isPebble_3 : decode cX6_isPebble 3 = .ok (.getfield 88, 3) := zd02dec2_194.2.2.2.1
theorem dX6_isPebble_6 : decode cX6_isPebble 6 = .ok (.iconst 1, 1) := zd02dec2_194.2.2.2.2.1
theorem dX6_isPebble_7 : decode cX6_isPebble 7 = .ok (.isub, 1) := zd02dec2_194.2.2.2.2.2.1
theorem dX6_isPebble_8 : decode cX6_isPebble 8 = .ok (.invokestatic 91, 3) := zd02dec2_194.2.2.2.2.2.2.1
theorem dX6_isPebble_11 : decode cX6_isPebble 11 = .ok (.ireturn, 1) := zd02dec2_194.2.2.2.2.2.2.2
theorem zd02dec2_195 : decode cX6_isJudge 0 = .ok (.iload_n 1, 1) ∧ decode cX6_isJudge 1 = .ok (.iconst 0, 1) ∧ decode cX6_isJudge 2 = .ok (.aload_n 0, 1) ∧ decode cX6_isJudge 3 = .ok (.getfield 95, 3) ∧ decode cX6_isJudge 6 = .ok (.iconst 1, 1) ∧ decode cX6_isJudge 7 = .ok (.isub, 1) ∧ decode cX6_isJudge 8 = .ok (.invokestatic 91, 3) ∧ decode cX6_isJudge 11 = .ok (.ireturn, 1) := by decide +kernel
theorem dX6_isJudge_0 : decode cX6_isJudge 0 = .ok (.iload_n 1, 1) := zd02dec2_195.1
theorem dX6_isJudge_1 : decode cX6_isJudge 1 = .ok (.iconst 0, 1) := zd02dec2_195.2.1
theorem dX6_isJudge_2 : decode cX6_isJudge 2 = .ok (.aload_n 0, 1) := zd02dec2_195.2.2.1
theorem dX6_isJudge_3 : decode cX6_isJudge 3 = .ok (.getfield 95, 3) := zd02dec2_195.2.2.2.1
theorem dX6_isJudge_6 : decode cX6_isJudge 6 = .ok (.iconst 1, 1) := zd02dec2_195.2.2.2.2.1
theorem dX6_isJudge_7 : decode cX6_isJudge 7 = .ok (.isub, 1) := zd02dec2_195.2.2.2.2.2.1
theorem dX6_isJudge_8 : decode cX6_isJudge 8 = .ok (.invokestatic 91, 3) := zd02dec2_195.2.2.2.2.2.2.1
theorem dX6_isJudge_11 : decode cX6_isJudge 11 = .ok (.ireturn, 1) := zd02dec2_195.2.2.2.2.2.2.2
theorem zd02dec2_196 : decode cX6_isCase 0 = .ok (.iload_n 0, 1) ∧ decode cX6_isCase 1 = .ok (.iconst 0, 1) ∧ decode cX6_isCase 2 = .ok (.bipush 60, 2) ∧ decode cX6_isCase 4 = .ok (.invokestatic 91, 3) ∧ decode cX6_isCase 7 = .ok (.ireturn, 1) := by decide +kernel
theorem dX6_isCase_0 : decode cX6_isCase 0 = .ok (.iload_n 0, 1) := zd02dec2_196.1
theorem dX6_isCase_1 : decode cX6_isCase 1 = .ok (.iconst 0, 1) := zd02dec2_196.2.1
theorem dX6_isCase_2 : decode cX6_isCase 2 = .ok (.bipush 60, 2) := zd02dec2_196.2.2.1
theorem dX6_isCase_4 : decode cX6_isCase 4 = .ok (.invokestatic 91, 3) := zd02dec2_196.2.2.2.1
theorem dX6_isCase_7 : decode cX6_isCase 7 = .ok (.ireturn, 1) := zd02dec2_196.2.2.2.2
