theorem zd02dec1_0 : decode cX0_init 0 = .ok (.aload_n 0, 1) ∧ decode cX0_init 1 = .ok (.invokespecial 3, 3) ∧ decode cX0_init 4 = .ok (.aload_n 0, 1) ∧ decode cX0_init 5 = .ok (.bipush 6, 2) ∧ decode cX0_init 7 = .ok (.newarray .int, 2) ∧ decode cX0_init 9 = .ok (.putfield 11, 3) ∧ decode cX0_init 12 = .ok (.aload_n 0, 1) ∧ decode cX0_init 13 = .ok (.iconst 4, 1) ∧ decode cX0_init 14 = .ok (.newarray .int, 2) ∧ decode cX0_init 16 = .ok (.putfield 17, 3) ∧ decode cX0_init 19 = .ok (.aload_n 0, 1) ∧ decode cX0_init 20 = .ok (.iconst 4, 1) := by decide +kernel
theorem dX0_init_0 : decode cX0_init 0 = .ok (.aload_n 0, 1) := zd02dec1_0.1
theorem dX0_init_1 : decode cX0_init 1 = .ok (.invokespecial 3, 3) := zd02dec1_0.2.1
theorem dX0_init_4 : decode cX0_init 4 = .ok (.aload_n 0, 1) := zd02dec1_0.2.2.1
theorem dX0_init_5 : decode cX0_init 5 = .ok (.bipush 6, 2) := zd02dec1_0.2.2.2.1
theorem dX0_init_7 : decode cX0_init 7 = .ok (.newarray .int, 2) := zd02dec1_0.2.2.2.2.1
theorem dX0_init_9 : decode cX0_init 9 = .ok (.putfield 11, 3) := zd02dec1_0.2.2.2.2.2.1
theorem dX0_init_12 : decode cX0_init 12 = .ok (.aload_n 0, 1) := zd02dec1_0.2.2.2.2.2.2.1
theorem dX0_init_13 : decode cX0_init 13 = .ok (.iconst 4, 1) := zd02dec1_0.2.2.2.2.2.2.2.1
theorem dX0_init_14 : decode cX0_init 14 = .ok (.newarray .int, 2) := zd02dec1_0.2.2.2.2.2.2.2.2.1
theorem dX0_init_16 : decode cX0_init 16 = .ok (.putfield 17, 3) := zd02dec1_0.2.2.2.2.2.2.2.2.2.1
theorem dX0_init_19 : decode cX0_init 19 = .ok (.aload_n 0, 1) := zd02dec1_0.2.2.2.2.2.2.2.2.2.2.1
theorem dX0_init_20 : decode cX0_init 20 = .ok (.iconst 4, 1) := zd02dec1_0.2.2.2.2.2.2.2.2.2.2.2
theorem zd02dec1_1 : decode cX0_init 21 = .ok (.newarray .int, 2) ∧ decode cX0_init 23 = .ok (.putfield 20, 3) ∧ decode cX0_init 26 = .ok (.aload_n 0, 1) ∧ decode cX0_init 27 = .ok (.iconst 4, 1) ∧ decode cX0_init 28 = .ok (.newarray .int, 2) ∧ decode cX0_init 30 = .ok (.putfield 23, 3) ∧ decode cX0_init 33 = .ok (.aload_n 0, 1) ∧ decode cX0_init 34 = .ok (.bipush 6, 2) ∧ decode cX0_init 36 = .ok (.newarray .int, 2) ∧ decode cX0_init 38 = .ok (.putfield 26, 3) ∧ decode cX0_init 41 = .ok (.aload_n 0, 1) ∧ decode cX0_init 42 = .ok (.bipush 6, 2) := by decide +kernel
theorem dX0_init_21 : decode cX0_init 21 = .ok (.newarray .int, 2) := zd02dec1_1.1
theorem dX0_init_23 : decode cX0_init 23 = .ok (.putfield 20, 3) := zd02dec1_1.2.1
theorem dX0_init_26 : decode cX0_init 26 = .ok (.aload_n 0, 1) := zd02dec1_1.2.2.1
theorem dX0_init_27 : decode cX0_init 27 = .ok (.iconst 4, 1) := zd02dec1_1.2.2.2.1
theorem dX0_init_28 : decode cX0_init 28 = .ok (.newarray .int, 2) := zd02dec1_1.2.2.2.2.1
theorem dX0_init_30 : decode cX0_init 30 = .ok (.putfield 23, 3) := zd02dec1_1.2.2.2.2.2.1
theorem dX0_init_33 : decode cX0_init 33 = .ok (.aload_n 0, 1) := zd02dec1_1.2.2.2.2.2.2.1
theorem dX0_init_34 : decode cX0_init 34 = .ok (.bipush 6, 2) := zd02dec1_1.2.2.2.2.2.2.2.1
theorem dX0_init_36 : decode cX0_init 36 = .ok (.newarray .int, 2) := zd02dec1_1.2.2.2.2.2.2.2.2.1
theorem dX0_init_38 : decode cX0_init 38 = .ok (.putfield 26, 3) := zd02dec1_1.2.2.2.2.2.2.2.2.2.1
theorem dX0_init_41 : decode cX0_init 41 = .ok (.aload_n 0, 1) := zd02dec1_1.2.2.2.2.2.2.2.2.2.2.1
theorem dX0_init_42 : decode cX0_init 42 = .ok (.bipush 6, 2) := zd02dec1_1.2.2.2.2.2.2.2.2.2.2.2
theorem zd02dec1_2 : decode cX0_init 44 = .ok (.newarray .int, 2) ∧ decode cX0_init 46 = .ok (.putfield 29, 3) ∧ decode cX0_init 49 = .ok (.aload_n 0, 1) ∧ decode cX0_init 50 = .ok (.bipush 6, 2) ∧ decode cX0_init 52 = .ok (.newarray .int, 2) ∧ decode cX0_init 54 = .ok (.putfield 32, 3) ∧ decode cX0_init 57 = .ok (.aload_n 0, 1) ∧ decode cX0_init 58 = .ok (.bipush 6, 2) ∧ decode cX0_init 60 = .ok (.newarray .int, 2) ∧ decode cX0_init 62 = .ok (.putfield 35, 3) ∧ decode cX0_init 65 = .ok (.aload_n 0, 1) ∧ decode cX0_init 66 = .ok (.aload_n 1, 1) := by decide +kernel
theorem dX0_init_44 : decode cX0_init 44 = .ok (.newarray .int, 2) := zd02dec1_2.1
theorem dX0_init_46 : decode cX0_init 46 = .ok (.putfield 29, 3) := zd02dec1_2.2.1
theorem dX0_init_49 : decode cX0_init 49 = .ok (.aload_n 0, 1) := zd02dec1_2.2.2.1
theorem dX0_init_50 : decode cX0_init 50 = .ok (.bipush 6, 2) := zd02dec1_2.2.2.2.1
theorem dX0_init_52 : decode cX0_init 52 = .ok (.newarray .int, 2) := zd02dec1_2.2.2.2.2.1
theorem dX0_init_54 : decode cX0_init 54 = .ok (.putfield 32, 3) := zd02dec1_2.2.2.2.2.2.1
theorem dX0_init_57 : decode cX0_init 57 = .ok (.aload_n 0, 1) := zd02dec1_2.2.2.2.2.2.2.1
theorem dX0_init_58 : decode cX0_init 58 = .ok (.bipush 6, 2) := zd02dec1_2.2.2.2.2.2.2.2.1
theorem dX0_init_60 : decode cX0_init 60 = .ok (.newarray .int, 2) := zd02dec1_2.2.2.2.2.2.2.2.2.1
theorem dX0_init_62 : decode cX0_init 62 = .ok (.putfield 35, 3) := zd02dec1_2.2.2.2.2.2.2.2.2.2.1
theorem dX0_init_65 : decode cX0_init 65 = .ok (.aload_n 0, 1) := zd02dec1_2.2.2.2.2.2.2.2.2.2.2.1
theorem dX0_init_66 : decode cX0_init 66 = .ok (.aload_n 1, 1) := zd02dec1_2.2.2.2.2.2.2.2.2.2.2.2
theorem zd02dec1_3 : decode cX0_init 67 = .ok (.putfield 38, 3) ∧ decode cX0_init 70 = .ok (.return_, 1) := by decide +kernel
theorem dX0_init_67 : decode cX0_init 67 = .ok (.putfield 38, 3) := zd02dec1_3.1
theorem dX0_init_70 : decode cX0_init 70 = .ok (.return_, 1) := zd02dec1_3.2
theorem zd02dec1_4 : decode cX0_become 0 = .ok (.aload_n 1, 1) ∧ decode cX0_become 1 = .ok (.getfield 17, 3) ∧ decode cX0_become 4 = .ok (.iconst 0, 1) ∧ decode cX0_become 5 = .ok (.aload_n 0, 1) ∧ decode cX0_become 6 = .ok (.getfield 17, 3) ∧ decode cX0_become 9 = .ok (.iconst 0, 1) ∧ decode cX0_become 10 = .ok (.iconst 4, 1) ∧ decode cX0_become 11 = .ok (.invokestatic 42, 3) ∧ decode cX0_become 14 = .ok (.aload_n 1, 1) ∧ decode cX0_become 15 = .ok (.getfield 20, 3) ∧ decode cX0_become 18 = .ok (.iconst 0, 1) ∧ decode cX0_become 19 = .ok (.aload_n 0, 1) := by decide +kernel
theorem dX0_become_0 : decode cX0_become 0 = .ok (.aload_n 1, 1) := zd02dec1_4.1
theorem dX0_become_1 : decode cX0_become 1 = .ok (.getfield 17, 3) := zd02dec1_4.2.1
theorem dX0_become_4 : decode cX0_become 4 = .ok (.iconst 0, 1) := zd02dec1_4.2.2.1
theorem dX0_become_5 : decode cX0_become 5 = .ok (.aload_n 0, 1) := zd02dec1_4.2.2.2.1
theorem dX0_become_6 : decode cX0_become 6 = .ok (.getfield 17, 3) := zd02dec1_4.2.2.2.2.1
theorem dX0_become_9 : decode cX0_become 9 = .ok (.iconst 0, 1) := zd02dec1_4.2.2.2.2.2.1
theorem dX0_become_10 : decode cX0_become 10 = .ok (.iconst 4, 1) := zd02dec1_4.2.2.2.2.2.2.1
theorem dX0_become_11 : decode cX0_become 11 = .ok (.invokestatic 42, 3) := zd02dec1_4.2.2.2.2.2.2.2.1
theorem dX0_become_14 : decode cX0_become 14 = .ok (.aload_n 1, 1) := zd02dec1_4.2.2.2.2.2.2.2.2.1
theorem dX0_become_15 : decode cX0_become 15 = .ok (.getfield 20, 3) := zd02dec1_4.2.2.2.2.2.2.2.2.2.1
theorem dX0_become_18 : decode cX0_become 18 = .ok (.iconst 0, 1) := zd02dec1_4.2.2.2.2.2.2.2.2.2.2.1
theorem dX0_become_19 : decode cX0_become 19 = .ok (.aload_n 0, 1) := zd02dec1_4.2.2.2.2.2.2.2.2.2.2.2
theorem zd02dec1_5 : decode cX0_become 20 = .ok (.getfield 20, 3) ∧ decode cX0_become 23 = .ok (.iconst 0, 1) ∧ decode cX0_become 24 = .ok (.iconst 4, 1) ∧ decode cX0_become 25 = .ok (.invokestatic 42, 3) ∧ decode cX0_become 28 = .ok (.aload_n 1, 1) ∧ decode cX0_become 29 = .ok (.getfield 23, 3) ∧ decode cX0_become 32 = .ok (.iconst 0, 1) ∧ decode cX0_become 33 = .ok (.aload_n 0, 1) ∧ decode cX0_become 34 = .ok (.getfield 23, 3) ∧ decode cX0_become 37 = .ok (.iconst 0, 1) ∧ decode cX0_become 38 = .ok (.iconst 4, 1) ∧ decode cX0_become 39 = .ok (.invokestatic 42, 3) := by decide +kernel
theorem dX0_become_20 : decode cX0_become 20 = .ok (.getfield 20, 3) := zd02dec1_5.1
theorem dX0_become_23 : decode cX0_become 23 = .ok (.iconst 0, 1) := zd02dec1_5.2.1
theorem dX0_become_24 : decode cX0_become 24 = .ok (.iconst 4, 1) := zd02dec1_5.2.2.1
theorem dX0_become_25 : decode cX0_become 25 = .ok (.invokestatic 42, 3) := zd02dec1_5.2.2.2.1
theorem dX0_become_28 : decode cX0_become 28 = .ok (.aload_n 1, 1) := zd02dec1_5.2.2.2.2.1
theorem dX0_become_29 : decode cX0_become 29 = .ok (.getfield 23, 3) := zd02dec1_5.2.2.2.2.2.1
theorem dX0_become_32 : decode cX0_become 32 = .ok (.iconst 0, 1) := zd02dec1_5.2.2.2.2.2.2.1
theorem dX0_become_33 : decode cX0_become 33 = .ok (.aload_n 0, 1) := zd02dec1_5.2.2.2.2.2.2.2.1
theorem dX0_become_34 : decode cX0_become 34 = .ok (.getfield 23, 3) := zd02dec1_5.2.2.2.2.2.2.2.2.1
theorem dX0_become_37 : decode cX0_become 37 = .ok (.iconst 0, 1) := zd02dec1_5.2.2.2.2.2.2.2.2.2.1
theorem dX0_become_38 : decode cX0_become 38 = .ok (.iconst 4, 1) := zd02dec1_5.2.2.2.2.2.2.2.2.2.2.1
theorem dX0_become_39 : decode cX0_become 39 = .ok (.invokestatic 42, 3) := zd02dec1_5.2.2.2.2.2.2.2.2.2.2.2
theorem zd02dec1_6 : decode cX0_become 42 = .ok (.aload_n 1, 1) ∧ decode cX0_become 43 = .ok (.getfield 26, 3) ∧ decode cX0_become 46 = .ok (.iconst 0, 1) ∧ decode cX0_become 47 = .ok (.aload_n 0, 1) ∧ decode cX0_become 48 = .ok (.getfield 26, 3) ∧ decode cX0_become 51 = .ok (.iconst 0, 1) ∧ decode cX0_become 52 = .ok (.bipush 6, 2) ∧ decode cX0_become 54 = .ok (.invokestatic 42, 3) ∧ decode cX0_become 57 = .ok (.aload_n 1, 1) ∧ decode cX0_become 58 = .ok (.getfield 29, 3) ∧ decode cX0_become 61 = .ok (.iconst 0, 1) ∧ decode cX0_become 62 = .ok (.aload_n 0, 1) := by decide +kernel
theorem dX0_become_42 : decode cX0_become 42 = .ok (.aload_n 1, 1) := zd02dec1_6.1
theorem dX0_become_43 : decode cX0_become 43 = .ok (.getfield 26, 3) := zd02dec1_6.2.1
theorem dX0_become_46 : decode cX0_become 46 = .ok (.iconst 0, 1) := zd02dec1_6.2.2.1
theorem dX0_become_47 : decode cX0_become 47 = .ok (.aload_n 0, 1) := zd02dec1_6.2.2.2.1
theorem dX0_become_48 : decode cX0_become 48 = .ok (.getfield 26, 3) := zd02dec1_6.2.2.2.2.1
theorem dX0_become_51 : decode cX0_become 51 = .ok (.iconst 0, 1) := zd02dec1_6.2.2.2.2.2.1
theorem dX0_become_52 : decode cX0_become 52 = .ok (.bipush 6, 2) := zd02dec1_6.2.2.2.2.2.2.1
theorem dX0_become_54 : decode cX0_become 54 = .ok (.invokestatic 42, 3) := zd02dec1_6.2.2.2.2.2.2.2.1
theorem dX0_become_57 : decode cX0_become 57 = .ok (.aload_n 1, 1) := zd02dec1_6.2.2.2.2.2.2.2.2.1
theorem dX0_become_58 : decode cX0_become 58 = .ok (.getfield 29, 3) := zd02dec1_6.2.2.2.2.2.2.2.2.2.1
theorem dX0_become_61 : decode cX0_become 61 = .ok (.iconst 0, 1) := zd02dec1_6.2.2.2.2.2.2.2.2.2.2.1
theorem dX0_become_62 : decode cX0_become 62 = .ok (.aload_n 0, 1) := zd02dec1_6.2.2.2.2.2.2.2.2.2.2.2
theorem zd02dec1_7 : decode cX0_become 63 = .ok (.getfield 29, 3) ∧ decode cX0_become 66 = .ok (.iconst 0, 1) ∧ decode cX0_become 67 = .ok (.bipush 6, 2) ∧ decode cX0_become 69 = .ok (.invokestatic 42, 3) ∧ decode cX0_become 72 = .ok (.aload_n 1, 1) ∧ decode cX0_become 73 = .ok (.getfield 32, 3) ∧ decode cX0_become 76 = .ok (.iconst 0, 1) ∧ decode cX0_become 77 = .ok (.aload_n 0, 1) ∧ decode cX0_become 78 = .ok (.getfield 32, 3) ∧ decode cX0_become 81 = .ok (.iconst 0, 1) ∧ decode cX0_become 82 = .ok (.bipush 6, 2) ∧ decode cX0_become 84 = .ok (.invokestatic 42, 3) := by decide +kernel
theorem dX0_become_63 : decode cX0_become 63 = .ok (.getfield 29, 3) := zd02dec1_7.1
theorem dX0_become_66 : decode cX0_become 66 = .ok (.iconst 0, 1) := zd02dec1_7.2.1
theorem dX0_become_67 : decode cX0_become 67 = .ok (.bipush 6, 2) := zd02dec1_7.2.2.1
theorem dX0_become_69 : decode cX0_become 69 = .ok (.invokestatic 42, 3) := zd02dec1_7.2.2.2.1
theorem dX0_become_72 : decode cX0_become 72 = .ok (.aload_n 1, 1) := zd02dec1_7.2.2.2.2.1
theorem dX0_become_73 : decode cX0_become 73 = .ok (.getfield 32, 3) := zd02dec1_7.2.2.2.2.2.1
theorem dX0_become_76 : decode cX0_become 76 = .ok (.iconst 0, 1) := zd02dec1_7.2.2.2.2.2.2.1
theorem dX0_become_77 : decode cX0_become 77 = .ok (.aload_n 0, 1) := zd02dec1_7.2.2.2.2.2.2.2.1
theorem dX0_become_78 : decode cX0_become 78 = .ok (.getfield 32, 3) := zd02dec1_7.2.2.2.2.2.2.2.2.1
theorem dX0_become_81 : decode cX0_become 81 = .ok (.iconst 0, 1) := zd02dec1_7.2.2.2.2.2.2.2.2.2.1
theorem dX0_become_82 : decode cX0_become 82 = .ok (.bipush 6, 2) := zd02dec1_7.2.2.2.2.2.2.2.2.2.2.1
theorem dX0_become_84 : decode cX0_become 84 = .ok (.invokestatic 42, 3) := zd02dec1_7.2.2.2.2.2.2.2.2.2.2.2
theorem zd02dec1_8 : decode cX0_become 87 = .ok (.aload_n 1, 1) ∧ decode cX0_become 88 = .ok (.getfield 35, 3) ∧ decode cX0_become 91 = .ok (.iconst 0, 1) ∧ decode cX0_become 92 = .ok (.aload_n 0, 1) ∧ decode cX0_become 93 = .ok (.getfield 35, 3) ∧ decode cX0_become 96 = .ok (.iconst 0, 1) ∧ decode cX0_become 97 = .ok (.bipush 6, 2) ∧ decode cX0_become 99 = .ok (.invokestatic 42, 3) ∧ decode cX0_become 102 = .ok (.aload_n 0, 1) ∧ decode cX0_become 103 = .ok (.aload_n 1, 1) ∧ decode cX0_become 104 = .ok (.getfield 48, 3) ∧ decode cX0_become 107 = .ok (.putfield 48, 3) := by decide +kernel
theorem dX0_become_87 : decode cX0_become 87 = .ok (.aload_n 1, 1) := zd02dec1_8.1
theorem dX0_become_88 : decode cX0_become 88 = .ok (.getfield 35, 3) := zd02dec1_8.2.1
theorem dX0_become_91 : decode cX0_become 91 = .ok (.iconst 0, 1) := zd02dec1_8.2.2.1
theorem dX0_become_92 : decode cX0_become 92 = .ok (.aload_n 0, 1) := zd02dec1_8.2.2.2.1
theorem dX0_become_93 : decode cX0_become 93 = .ok (.getfield 35, 3) := zd02dec1_8.2.2.2.2.1
theorem dX0_become_96 : decode cX0_become 96 = .ok (.iconst 0, 1) := zd02dec1_8.2.2.2.2.2.1
theorem dX0_become_97 : decode cX0_become 97 = .ok (.bipush 6, 2) := zd02dec1_8.2.2.2.2.2.2.1
theorem dX0_become_99 : decode cX0_become 99 = .ok (.invokestatic 42, 3) := zd02dec1_8.2.2.2.2.2.2.2.1
theorem dX0_become_102 : decode cX0_become 102 = .ok (.aload_n 0, 1) := zd02dec1_8.2.2.2.2.2.2.2.2.1
theorem dX0_become_103 : decode cX0_become 103 = .ok (.aload_n 1, 1) := zd02dec1_8.2.2.2.2.2.2.2.2.2.1
theorem dX0_become_104 : decode cX0_become 104 = .ok (.getfield 48, 3) := zd02dec1_8.2.2.2.2.2.2.2.2.2.2.1
theorem dX0_become_107 : decode cX0_become 107 = .ok (.putfield 48, 3) := zd02dec1_8.2.2.2.2.2.2.2.2.2.2.2
theorem zd02dec1_9 : decode cX0_become 110 = .ok (.aload_n 0, 1) ∧ decode cX0_become 111 = .ok (.aload_n 1, 1) ∧ decode cX0_become 112 = .ok (.getfield 52, 3) ∧ decode cX0_become 115 = .ok (.putfield 52, 3) ∧ decode cX0_become 118 = .ok (.aload_n 0, 1) ∧ decode cX0_become 119 = .ok (.aload_n 1, 1) ∧ decode cX0_become 120 = .ok (.getfield 55, 3) ∧ decode cX0_become 123 = .ok (.putfield 55, 3) ∧ decode cX0_become 126 = .ok (.return_, 1) := by decide +kernel
theorem dX0_become_110 : decode cX0_become 110 = .ok (.aload_n 0, 1) := zd02dec1_9.1
theorem dX0_become_111 : decode cX0_become 111 = .ok (.aload_n 1, 1) := zd02dec1_9.2.1
theorem dX0_become_112 : decode cX0_become 112 = .ok (.getfield 52, 3) := zd02dec1_9.2.2.1
theorem dX0_become_115 : decode cX0_become 115 = .ok (.putfield 52, 3) := zd02dec1_9.2.2.2.1
theorem dX0_become_118 : decode cX0_become 118 = .ok (.aload_n 0, 1) := zd02dec1_9.2.2.2.2.1
theorem dX0_become_119 : decode cX0_become 119 = .ok (.aload_n 1, 1) := zd02dec1_9.2.2.2.2.2.1
theorem dX0_become_120 : decode cX0_become 120 = .ok (.getfield 55, 3) := zd02dec1_9.2.2.2.2.2.2.1
theorem dX0_become_123 : decode cX0_become 123 = .ok (.putfield 55, 3) := zd02dec1_9.2.2.2.2.2.2.2.1
theorem dX0_become_126 : decode cX0_become 126 = .ok (.return_, 1) := zd02dec1_9.2.2.2.2.2.2.2.2
theorem zd02dec1_10 : decode cX0_hasJudge 0 = .ok (.iload_n 1, 1) ∧ decode cX0_hasJudge 1 = .ok (.ifCond .lt 15, 3) ∧ decode cX0_hasJudge 4 = .ok (.iload_n 1, 1) ∧ decode cX0_hasJudge 5 = .ok (.aload_n 0, 1) ∧ decode cX0_hasJudge 6 = .ok (.getfield 48, 3) ∧ decode cX0_hasJudge 9 = .ok (.if_icmp .ge 7, 3) ∧ decode cX0_hasJudge 12 = .ok (.iconst 1, 1) ∧ decode cX0_hasJudge 13 = .ok (.goto 4, 3) ∧ decode cX0_hasJudge 16 = .ok (.iconst 0, 1) ∧ decode cX0_hasJudge 17 = .ok (.ireturn, 1) := by decide +kernel
theorem dX0_hasJudge_0 : decode cX0_hasJudge 0 = .ok (.iload_n 1, 1) := zd02dec1_10.1
theorem dX0_hasJudge_1 : decode cX0_hasJudge 1 = .ok (.ifCond .lt 15, 3) := zd02dec1_10.2.1
theorem dX0_hasJudge_4 : decode cX0_hasJudge 4 = .ok (.iload_n 1, 1) := zd02dec1_10.2.2.1
theorem dX0_hasJudge_5 : decode cX0_hasJudge 5 = .ok (.aload_n 0, 1) := zd02dec1_10.2.2.2.1
theorem dX0_hasJudge_6 : decode cX0_hasJudge 6 = .ok (.getfield 48, 3) := zd02dec1_10.2.2.2.2.1
theorem dX0_hasJudge_9 : decode cX0_hasJudge 9 = .ok (.if_icmp .ge 7, 3) := zd02dec1_10.2.2.2.2.2.1
theorem dX0_hasJudge_12 : decode cX0_hasJudge 12 = .ok (.iconst 1, 1) := zd02dec1_10.2.2.2.2.2.2.1
theorem dX0_hasJudge_13 : decode cX0_hasJudge 13 = .ok (.goto 4, 3) := zd02dec1_10.2.2.2.2.2.2.2.1
theorem dX0_hasJudge_16 : decode cX0_hasJudge 16 = .ok (.iconst 0, 1) := zd02dec1_10.2.2.2.2.2.2.2.2.1
theorem dX0_hasJudge_17 : decode cX0_hasJudge 17 = .ok (.ireturn, 1) := zd02dec1_10.2.2.2.2.2.2.2.2.2
theorem zd02dec1_11 : decode cX0_hasPebble 0 = .ok (.iload_n 1, 1) ∧ decode cX0_hasPebble 1 = .ok (.ifCond .lt 15, 3) ∧ decode cX0_hasPebble 4 = .ok (.iload_n 1, 1) ∧ decode cX0_hasPebble 5 = .ok (.aload_n 0, 1) ∧ decode cX0_hasPebble 6 = .ok (.getfield 52, 3) ∧ decode cX0_hasPebble 9 = .ok (.if_icmp .ge 7, 3) ∧ decode cX0_hasPebble 12 = .ok (.iconst 1, 1) ∧ decode cX0_hasPebble 13 = .ok (.goto 4, 3) ∧ decode cX0_hasPebble 16 = .ok (.iconst 0, 1) ∧ decode cX0_hasPebble 17 = .ok (.ireturn, 1) := by decide +kernel
theorem dX0_hasPebble_0 : decode cX0_hasPebble 0 = .ok (.iload_n 1, 1) := zd02dec1_11.1
theorem dX0_hasPebble_1 : decode cX0_hasPebble 1 = .ok (.ifCond .lt 15, 3) := zd02dec1_11.2.1
theorem dX0_hasPebble_4 : decode cX0_hasPebble 4 = .ok (.iload_n 1, 1) := zd02dec1_11.2.2.1
theorem dX0_hasPebble_5 : decode cX0_hasPebble 5 = .ok (.aload_n 0, 1) := zd02dec1_11.2.2.2.1
theorem dX0_hasPebble_6 : decode cX0_hasPebble 6 = .ok (.getfield 52, 3) := zd02dec1_11.2.2.2.2.1
theorem dX0_hasPebble_9 : decode cX0_hasPebble 9 = .ok (.if_icmp .ge 7, 3) := zd02dec1_11.2.2.2.2.2.1
theorem dX0_hasPebble_12 : decode cX0_hasPebble 12 = .ok (.iconst 1, 1) := zd02dec1_11.2.2.2.2.2.2.1
theorem dX0_hasPebble_13 : decode cX0_hasPebble 13 = .ok (.goto 4, 3) := zd02dec1_11.2.2.2.2.2.2.2.1
theorem dX0_hasPebble_16 : decode cX0_hasPebble 16 = .ok (.iconst 0, 1) := zd02dec1_11.2.2.2.2.2.2.2.2.1
theorem dX0_hasPebble_17 : decode cX0_hasPebble 17 = .ok (.ireturn, 1) := zd02dec1_11.2.2.2.2.2.2.2.2.2
theorem zd02dec1_12 : decode cX0_hasBoth 0 = .ok (.aload_n 0, 1) ∧ decode cX0_hasBoth 1 = .ok (.iload_n 1, 1) ∧ decode cX0_hasBoth 2 = .ok (.invokevirtual 58, 3) ∧ decode cX0_hasBoth 5 = .ok (.ifCond .eq 15, 3) ∧ decode cX0_hasBoth 8 = .ok (.aload_n 0, 1) ∧ decode cX0_hasBoth 9 = .ok (.iload_n 2, 1) ∧ decode cX0_hasBoth 10 = .ok (.invokevirtual 62, 3) ∧ decode cX0_hasBoth 13 = .ok (.ifCond .eq 7, 3) ∧ decode cX0_hasBoth 16 = .ok (.iconst 1, 1) ∧ decode cX0_hasBoth 17 = .ok (.goto 4, 3) ∧ decode cX0_hasBoth 20 = .ok (.iconst 0, 1) ∧ decode cX0_hasBoth 21 = .ok (.ireturn, 1) := by decide +kernel
theorem dX0_hasBoth_0 : decode cX0_hasBoth 0 = .ok (.aload_n 0, 1) := zd02dec1_12.1
theorem dX0_hasBoth_1 : decode cX0_hasBoth 1 = .ok (.iload_n 1, 1) := zd02dec1_12.2.1
theorem dX0_hasBoth_2 : decode cX0_hasBoth 2 = .ok (.invokevirtual 58, 3) := zd02dec1_12.2.2.1
theorem dX0_hasBoth_5 : decode cX0_hasBoth 5 = .ok (.ifCond .eq 15, 3) := zd02dec1_12.2.2.2.1
theorem dX0_hasBoth_8 : decode cX0_hasBoth 8 = .ok (.aload_n 0, 1) := zd02dec1_12.2.2.2.2.1
theorem dX0_hasBoth_9 : decode cX0_hasBoth 9 = .ok (.iload_n 2, 1) := zd02dec1_12.2.2.2.2.2.1
theorem dX0_hasBoth_10 : decode cX0_hasBoth 10 = .ok (.invokevirtual 62, 3) := zd02dec1_12.2.2.2.2.2.2.1
theorem dX0_hasBoth_13 : decode cX0_hasBoth 13 = .ok (.ifCond .eq 7, 3) := zd02dec1_12.2.2.2.2.2.2.2.1
theorem dX0_hasBoth_16 : decode cX0_hasBoth 16 = .ok (.iconst 1, 1) := zd02dec1_12.2.2.2.2.2.2.2.2.1
theorem dX0_hasBoth_17 : decode cX0_hasBoth 17 = .ok (.goto 4, 3) := zd02dec1_12.2.2.2.2.2.2.2.2.2.1
theorem dX0_hasBoth_20 : decode cX0_hasBoth 20 = .ok (.iconst 0, 1) := zd02dec1_12.2.2.2.2.2.2.2.2.2.2.1
theorem dX0_hasBoth_21 : decode cX0_hasBoth 21 = .ok (.ireturn, 1) := zd02dec1_12.2.2.2.2.2.2.2.2.2.2.2
theorem zd02dec1_13 : decode cX0_addJudge 0 = .ok (.aload_n 0, 1) ∧ decode cX0_addJudge 1 = .ok (.getfield 48, 3) ∧ decode cX0_addJudge 4 = .ok (.iconst 4, 1) ∧ decode cX0_addJudge 5 = .ok (.if_icmp .lt 6, 3) ∧ decode cX0_addJudge 8 = .ok (.bipush (-4), 2) ∧ decode cX0_addJudge 10 = .ok (.ireturn, 1) ∧ decode cX0_addJudge 11 = .ok (.aload_n 0, 1) ∧ decode cX0_addJudge 12 = .ok (.getfield 48, 3) ∧ decode cX0_addJudge 15 = .ok (.istore_n 2, 1) ∧ decode cX0_addJudge 16 = .ok (.aload_n 0, 1) ∧ decode cX0_addJudge 17 = .ok (.getfield 17, 3) ∧ decode cX0_addJudge 20 = .ok (.iload_n 2, 1) := by decide +kernel
theorem dX0_addJudge_0 : decode cX0_addJudge 0 = .ok (.aload_n 0, 1) := zd02dec1_13.1
theorem dX0_addJudge_1 : decode cX0_addJudge 1 = .ok (.getfield 48, 3) := zd02dec1_13.2.1
theorem dX0_addJudge_4 : decode cX0_addJudge 4 = .ok (.iconst 4, 1) := zd02dec1_13.2.2.1
theorem dX0_addJudge_5 : decode cX0_addJudge 5 = .ok (.if_icmp .lt 6, 3) := zd02dec1_13.2.2.2.1
theorem dX0_addJudge_8 : decode cX0_addJudge 8 = .ok (.bipush (-4), 2) := zd02dec1_13.2.2.2.2.1
theorem dX0_addJudge_10 : decode cX0_addJudge 10 = .ok (.ireturn, 1) := zd02dec1_13.2.2.2.2.2.1
theorem dX0_addJudge_11 : decode cX0_addJudge 11 = .ok (.aload_n 0, 1) := zd02dec1_13.2.2.2.2.2.2.1
theorem dX0_addJudge_12 : decode cX0_addJudge 12 = .ok (.getfield 48, 3) := zd02dec1_13.2.2.2.2.2.2.2.1
theorem dX0_addJudge_15 : decode cX0_addJudge 15 = .ok (.istore_n 2, 1) := zd02dec1_13.2.2.2.2.2.2.2.2.1
theorem dX0_addJudge_16 : decode cX0_addJudge 16 = .ok (.aload_n 0, 1) := zd02dec1_13.2.2.2.2.2.2.2.2.2.1
theorem dX0_addJudge_17 : decode cX0_addJudge 17 = .ok (.getfield 17, 3) := zd02dec1_13.2.2.2.2.2.2.2.2.2.2.1
theorem dX0_addJudge_20 : decode cX0_addJudge 20 = .ok (.iload_n 2, 1) := zd02dec1_13.2.2.2.2.2.2.2.2.2.2.2
theorem zd02dec1_14 : decode cX0_addJudge 21 = .ok (.iload_n 1, 1) ∧ decode cX0_addJudge 22 = .ok (.iastore, 1) ∧ decode cX0_addJudge 23 = .ok (.aload_n 0, 1) ∧ decode cX0_addJudge 24 = .ok (.getfield 20, 3) ∧ decode cX0_addJudge 27 = .ok (.iload_n 2, 1) ∧ decode cX0_addJudge 28 = .ok (.iconst 0, 1) ∧ decode cX0_addJudge 29 = .ok (.iastore, 1) ∧ decode cX0_addJudge 30 = .ok (.aload_n 0, 1) ∧ decode cX0_addJudge 31 = .ok (.getfield 23, 3) ∧ decode cX0_addJudge 34 = .ok (.iload_n 2, 1) ∧ decode cX0_addJudge 35 = .ok (.iconst 0, 1) ∧ decode cX0_addJudge 36 = .ok (.iastore, 1) := by decide +kernel
theorem dX0_addJudge_21 : decode cX0_addJudge 21 = .ok (.iload_n 1, 1) := zd02dec1_14.1
theorem dX0_addJudge_22 : decode cX0_addJudge 22 = .ok (.iastore, 1) := zd02dec1_14.2.1
theorem dX0_addJudge_23 : decode cX0_addJudge 23 = .ok (.aload_n 0, 1) := zd02dec1_14.2.2.1
theorem dX0_addJudge_24 : decode cX0_addJudge 24 = .ok (.getfield 20, 3) := zd02dec1_14.2.2.2.1
theorem dX0_addJudge_27 : decode cX0_addJudge 27 = .ok (.iload_n 2, 1) := zd02dec1_14.2.2.2.2.1
theorem dX0_addJudge_28 : decode cX0_addJudge 28 = .ok (.iconst 0, 1) := zd02dec1_14.2.2.2.2.2.1
theorem dX0_addJudge_29 : decode cX0_addJudge 29 = .ok (.iastore, 1) := zd02dec1_14.2.2.2.2.2.2.1
theorem dX0_addJudge_30 : decode cX0_addJudge 30 = .ok (.aload_n 0, 1) := zd02dec1_14.2.2.2.2.2.2.2.1
theorem dX0_addJudge_31 : decode cX0_addJudge 31 = .ok (.getfield 23, 3) := zd02dec1_14.2.2.2.2.2.2.2.2.1
theorem dX0_addJudge_34 : decode cX0_addJudge 34 = .ok (.iload_n 2, 1) := zd02dec1_14.2.2.2.2.2.2.2.2.2.1
theorem dX0_addJudge_35 : decode cX0_addJudge 35 = .ok (.iconst 0, 1) := zd02dec1_14.2.2.2.2.2.2.2.2.2.2.1
theorem dX0_addJudge_36 : decode cX0_addJudge 36 = .ok (.iastore, 1) := zd02dec1_14.2.2.2.2.2.2.2.2.2.2.2
theorem zd02dec1_15 : decode cX0_addJudge 37 = .ok (.aload_n 0, 1) ∧ decode cX0_addJudge 38 = .ok (.dup, 1) ∧ decode cX0_addJudge 39 = .ok (.getfield 48, 3) ∧ decode cX0_addJudge 42 = .ok (.iconst 1, 1) ∧ decode cX0_addJudge 43 = .ok (.iadd, 1) ∧ decode cX0_addJudge 44 = .ok (.putfield 48, 3) ∧ decode cX0_addJudge 47 = .ok (.iload_n 2, 1) ∧ decode cX0_addJudge 48 = .ok (.ireturn, 1) := by decide +kernel
theorem dX0_addJudge_37 : decode cX0_addJudge 37 = .ok (.aload_n 0, 1) := zd02dec1_15.1
theorem dX0_addJudge_38 : decode cX0_addJudge 38 = .ok (.dup, 1) := zd02dec1_15.2.1
theorem dX0_addJudge_39 : decode cX0_addJudge 39 = .ok (.getfield 48, 3) := zd02dec1_15.2.2.1
theorem dX0_addJudge_42 : decode cX0_addJudge 42 = .ok (.iconst 1, 1) := zd02dec1_15.2.2.2.1
theorem dX0_addJudge_43 : decode cX0_addJudge 43 = .ok (.iadd, 1) := zd02dec1_15.2.2.2.2.1
theorem dX0_addJudge_44 : decode cX0_addJudge 44 = .ok (.putfield 48, 3) := zd02dec1_15.2.2.2.2.2.1
theorem dX0_addJudge_47 : decode cX0_addJudge 47 = .ok (.iload_n 2, 1) := zd02dec1_15.2.2.2.2.2.2.1
theorem dX0_addJudge_48 : decode cX0_addJudge 48 = .ok (.ireturn, 1) := zd02dec1_15.2.2.2.2.2.2.2
theorem zd02dec1_16 : decode cX0_addPebble 0 = .ok (.aload_n 0, 1) ∧ decode cX0_addPebble 1 = .ok (.getfield 52, 3) ∧ decode cX0_addPebble 4 = .ok (.bipush 6, 2) ∧ decode cX0_addPebble 6 = .ok (.if_icmp .lt 6, 3) ∧ decode cX0_addPebble 9 = .ok (.bipush (-4), 2) ∧ decode cX0_addPebble 11 = .ok (.ireturn, 1) ∧ decode cX0_addPebble 12 = .ok (.aload_n 0, 1) ∧ decode cX0_addPebble 13 = .ok (.getfield 52, 3) ∧ decode cX0_addPebble 16 = .ok (.istore_n 3, 1) ∧ decode cX0_addPebble 17 = .ok (.aload_n 0, 1) ∧ decode cX0_addPebble 18 = .ok (.getfield 26, 3) ∧ decode cX0_addPebble 21 = .ok (.iload_n 3, 1) := by decide +kernel
theorem dX0_addPebble_0 : decode cX0_addPebble 0 = .ok (.aload_n 0, 1) := zd02dec1_16.1
theorem dX0_addPebble_1 : decode cX0_addPebble 1 = .ok (.getfield 52, 3) := zd02dec1_16.2.1
theorem dX0_addPebble_4 : decode cX0_addPebble 4 = .ok (.bipush 6, 2) := zd02dec1_16.2.2.1
theorem dX0_addPebble_6 : decode cX0_addPebble 6 = .ok (.if_icmp .lt 6, 3) := zd02dec1_16.2.2.2.1
theorem dX0_addPebble_9 : decode cX0_addPebble 9 = .ok (.bipush (-4), 2) := zd02dec1_16.2.2.2.2.1
theorem dX0_addPebble_11 : decode cX0_addPebble 11 = .ok (.ireturn, 1) := zd02dec1_16.2.2.2.2.2.1
theorem dX0_addPebble_12 : decode cX0_addPebble 12 = .ok (.aload_n 0, 1) := zd02dec1_16.2.2.2.2.2.2.1
theorem dX0_addPebble_13 : decode cX0_addPebble 13 = .ok (.getfield 52, 3) := zd02dec1_16.2.2.2.2.2.2.2.1
theorem dX0_addPebble_16 : decode cX0_addPebble 16 = .ok (.istore_n 3, 1) := zd02dec1_16.2.2.2.2.2.2.2.2.1
theorem dX0_addPebble_17 : decode cX0_addPebble 17 = .ok (.aload_n 0, 1) := zd02dec1_16.2.2.2.2.2.2.2.2.2.1
theorem dX0_addPebble_18 : decode cX0_addPebble 18 = .ok (.getfield 26, 3) := zd02dec1_16.2.2.2.2.2.2.2.2.2.2.1
theorem dX0_addPebble_21 : decode cX0_addPebble 21 = .ok (.iload_n 3, 1) := zd02dec1_16.2.2.2.2.2.2.2.2.2.2.2
theorem zd02dec1_17 : decode cX0_addPebble 22 = .ok (.iload_n 1, 1) ∧ decode cX0_addPebble 23 = .ok (.bipush 10, 2) ∧ decode cX0_addPebble 25 = .ok (.idiv, 1) ∧ decode cX0_addPebble 26 = .ok (.iastore, 1) ∧ decode cX0_addPebble 27 = .ok (.aload_n 0, 1) ∧ decode cX0_addPebble 28 = .ok (.getfield 29, 3) ∧ decode cX0_addPebble 31 = .ok (.iload_n 3, 1) ∧ decode cX0_addPebble 32 = .ok (.iload_n 1, 1) ∧ decode cX0_addPebble 33 = .ok (.bipush 10, 2) ∧ decode cX0_addPebble 35 = .ok (.irem, 1) ∧ decode cX0_addPebble 36 = .ok (.iastore, 1) ∧ decode cX0_addPebble 37 = .ok (.aload_n 0, 1) := by decide +kernel
theorem dX0_addPebble_22 : decode cX0_addPebble 22 = .ok (.iload_n 1, 1) := zd02dec1_17.1
theorem dX0_addPebble_23 : decode cX0_addPebble 23 = .ok (.bipush 10, 2) := zd02dec1_17.2.1
theorem dX0_addPebble_25 : decode cX0_addPebble 25 = .ok (.idiv, 1) := zd02dec1_17.2.2.1
theorem dX0_addPebble_26 : decode cX0_addPebble 26 = .ok (.iastore, 1) := zd02dec1_17.2.2.2.1
theorem dX0_addPebble_27 : decode cX0_addPebble 27 = .ok (.aload_n 0, 1) := zd02dec1_17.2.2.2.2.1
theorem dX0_addPebble_28 : decode cX0_addPebble 28 = .ok (.getfield 29, 3) := zd02dec1_17.2.2.2.2.2.1
theorem dX0_addPebble_31 : decode cX0_addPebble 31 = .ok (.iload_n 3, 1) := zd02dec1_17.2.2.2.2.2.2.1
theorem dX0_addPebble_32 : decode cX0_addPebble 32 = .ok (.iload_n 1, 1) := zd02dec1_17.2.2.2.2.2.2.2.1
theorem dX0_addPebble_33 : decode cX0_addPebble 33 = .ok (.bipush 10, 2) := zd02dec1_17.2.2.2.2.2.2.2.2.1
theorem dX0_addPebble_35 : decode cX0_addPebble 35 = .ok (.irem, 1) := zd02dec1_17.2.2.2.2.2.2.2.2.2.1
theorem dX0_addPebble_36 : decode cX0_addPebble 36 = .ok (.iastore, 1) := zd02dec1_17.2.2.2.2.2.2.2.2.2.2.1
theorem dX0_addPebble_37 : decode cX0_addPebble 37 = .ok (.aload_n 0, 1) := zd02dec1_17.2.2.2.2.2.2.2.2.2.2.2
theorem zd02dec1_18 : decode cX0_addPebble 38 = .ok (.getfield 32, 3) ∧ decode cX0_addPebble 41 = .ok (.iload_n 3, 1) ∧ decode cX0_addPebble 42 = .ok (.iload_n 2, 1) ∧ decode cX0_addPebble 43 = .ok (.bipush 100, 2) ∧ decode cX0_addPebble 45 = .ok (.idiv, 1) ∧ decode cX0_addPebble 46 = .ok (.iastore, 1) ∧ decode cX0_addPebble 47 = .ok (.aload_n 0, 1) ∧ decode cX0_addPebble 48 = .ok (.getfield 35, 3) ∧ decode cX0_addPebble 51 = .ok (.iload_n 3, 1) ∧ decode cX0_addPebble 52 = .ok (.iload_n 2, 1) ∧ decode cX0_addPebble 53 = .ok (.bipush 100, 2) ∧ decode cX0_addPebble 55 = .ok (.irem, 1) := by decide +kernel
theorem dX0_addPebble_38 : decode cX0_addPebble 38 = .ok (.getfield 32, 3) := zd02dec1_18.1
theorem dX0_addPebble_41 : decode cX0_addPebble 41 = .ok (.iload_n 3, 1) := zd02dec1_18.2.1
theorem dX0_addPebble_42 : decode cX0_addPebble 42 = .ok (.iload_n 2, 1) := zd02dec1_18.2.2.1
theorem dX0_addPebble_43 : decode cX0_addPebble 43 = .ok (.bipush 100, 2) := zd02dec1_18.2.2.2.1
theorem dX0_addPebble_45 : decode cX0_addPebble 45 = .ok (.idiv, 1) := zd02dec1_18.2.2.2.2.1
theorem dX0_addPebble_46 : decode cX0_addPebble 46 = .ok (.iastore, 1) := zd02dec1_18.2.2.2.2.2.1
theorem dX0_addPebble_47 : decode cX0_addPebble 47 = .ok (.aload_n 0, 1) := zd02dec1_18.2.2.2.2.2.2.1
theorem dX0_addPebble_48 : decode cX0_addPebble 48 = .ok (.getfield 35, 3) := zd02dec1_18.2.2.2.2.2.2.2.1
theorem dX0_addPebble_51 : decode cX0_addPebble 51 = .ok (.iload_n 3, 1) := zd02dec1_18.2.2.2.2.2.2.2.2.1
theorem dX0_addPebble_52 : decode cX0_addPebble 52 = .ok (.iload_n 2, 1) := zd02dec1_18.2.2.2.2.2.2.2.2.2.1
theorem dX0_addPebble_53 : decode cX0_addPebble 53 = .ok (.bipush 100, 2) := zd02dec1_18.2.2.2.2.2.2.2.2.2.2.1
theorem dX0_addPebble_55 : decode cX0_addPebble 55 = .ok (.irem, 1) := zd02dec1_18.2.2.2.2.2.2.2.2.2.2.2
theorem zd02dec1_19 : decode cX0_addPebble 56 = .ok (.iastore, 1) ∧ decode cX0_addPebble 57 = .ok (.aload_n 0, 1) ∧ decode cX0_addPebble 58 = .ok (.dup, 1) ∧ decode cX0_addPebble 59 = .ok (.getfield 52, 3) ∧ decode cX0_addPebble 62 = .ok (.iconst 1, 1) ∧ decode cX0_addPebble 63 = .ok (.iadd, 1) ∧ decode cX0_addPebble 64 = .ok (.putfield 52, 3) ∧ decode cX0_addPebble 67 = .ok (.iload_n 3, 1) ∧ decode cX0_addPebble 68 = .ok (.ireturn, 1) := by decide +kernel
theorem dX0_addPebble_56 : decode cX0_addPebble 56 = .ok (.iastore, 1) := zd02dec1_19.1
theorem dX0_addPebble_57 : decode cX0_addPebble 57 = .ok (.aload_n 0, 1) := zd02dec1_19.2.1
theorem dX0_addPebble_58 : decode cX0_addPebble 58 = .ok (.dup, 1) := zd02dec1_19.2.2.1
theorem dX0_addPebble_59 : decode cX0_addPebble 59 = .ok (.getfield 52, 3) := zd02dec1_19.2.2.2.1
theorem dX0_addPebble_62 : decode cX0_addPebble 62 = .ok (.iconst 1, 1) := zd02dec1_19.2.2.2.2.1
theorem dX0_addPebble_63 : decode cX0_addPebble 63 = .ok (.iadd, 1) := zd02dec1_19.2.2.2.2.2.1
theorem dX0_addPebble_64 : decode cX0_addPebble 64 = .ok (.putfield 52, 3) := zd02dec1_19.2.2.2.2.2.2.1
theorem dX0_addPebble_67 : decode cX0_addPebble 67 = .ok (.iload_n 3, 1) := zd02dec1_19.2.2.2.2.2.2.2.1
theorem dX0_addPebble_68 : decode cX0_addPebble 68 = .ok (.ireturn, 1) := zd02dec1_19.2.2.2.2.2.2.2.2
theorem zd02dec1_20 : decode cX0_says 0 = .ok (.aload_n 0, 1) ∧ decode cX0_says 1 = .ok (.getfield 11, 3) ∧ decode cX0_says 4 = .ok (.iconst 0, 1) ∧ decode cX0_says 5 = .ok (.aload_n 0, 1) ∧ decode cX0_says 6 = .ok (.getfield 32, 3) ∧ decode cX0_says 9 = .ok (.iload_n 3, 1) ∧ decode cX0_says 10 = .ok (.iaload, 1) ∧ decode cX0_says 11 = .ok (.iastore, 1) ∧ decode cX0_says 12 = .ok (.aload_n 0, 1) ∧ decode cX0_says 13 = .ok (.getfield 11, 3) ∧ decode cX0_says 16 = .ok (.iconst 1, 1) ∧ decode cX0_says 17 = .ok (.aload_n 0, 1) := by decide +kernel
theorem dX0_says_0 : decode cX0_says 0 = .ok (.aload_n 0, 1) := zd02dec1_20.1
theorem dX0_says_1 : decode cX0_says 1 = .ok (.getfield 11, 3) := zd02dec1_20.2.1
theorem dX0_says_4 : decode cX0_says 4 = .ok (.iconst 0, 1) := zd02dec1_20.2.2.1
theorem dX0_says_5 : decode cX0_says 5 = .ok (.aload_n 0, 1) := zd02dec1_20.2.2.2.1
theorem dX0_says_6 : decode cX0_says 6 = .ok (.getfield 32, 3) := zd02dec1_20.2.2.2.2.1
theorem dX0_says_9 : decode cX0_says 9 = .ok (.iload_n 3, 1) := zd02dec1_20.2.2.2.2.2.1
theorem dX0_says_10 : decode cX0_says 10 = .ok (.iaload, 1) := zd02dec1_20.2.2.2.2.2.2.1
theorem dX0_says_11 : decode cX0_says 11 = .ok (.iastore, 1) := zd02dec1_20.2.2.2.2.2.2.2.1
theorem dX0_says_12 : decode cX0_says 12 = .ok (.aload_n 0, 1) := zd02dec1_20.2.2.2.2.2.2.2.2.1
theorem dX0_says_13 : decode cX0_says 13 = .ok (.getfield 11, 3) := zd02dec1_20.2.2.2.2.2.2.2.2.2.1
theorem dX0_says_16 : decode cX0_says 16 = .ok (.iconst 1, 1) := zd02dec1_20.2.2.2.2.2.2.2.2.2.2.1
theorem dX0_says_17 : decode cX0_says 17 = .ok (.aload_n 0, 1) := zd02dec1_20.2.2.2.2.2.2.2.2.2.2.2
theorem zd02dec1_21 : decode cX0_says 18 = .ok (.getfield 35, 3) ∧ decode cX0_says 21 = .ok (.iload_n 3, 1) ∧ decode cX0_says 22 = .ok (.iaload, 1) ∧ decode cX0_says 23 = .ok (.iastore, 1) ∧ decode cX0_says 24 = .ok (.aload_n 0, 1) ∧ decode cX0_says 25 = .ok (.getfield 11, 3) ∧ decode cX0_says 28 = .ok (.iconst 2, 1) ∧ decode cX0_says 29 = .ok (.aload_n 0, 1) ∧ decode cX0_says 30 = .ok (.getfield 17, 3) ∧ decode cX0_says 33 = .ok (.iload_n 2, 1) ∧ decode cX0_says 34 = .ok (.iaload, 1) ∧ decode cX0_says 35 = .ok (.iastore, 1) := by decide +kernel
theorem dX0_says_18 : decode cX0_says 18 = .ok (.getfield 35, 3) := zd02dec1_21.1
theorem dX0_says_21 : decode cX0_says 21 = .ok (.iload_n 3, 1) := zd02dec1_21.2.1
theorem dX0_says_22 : decode cX0_says 22 = .ok (.iaload, 1) := zd02dec1_21.2.2.1
theorem dX0_says_23 : decode cX0_says 23 = .ok (.iastore, 1) := zd02dec1_21.2.2.2.1
theorem dX0_says_24 : decode cX0_says 24 = .ok (.aload_n 0, 1) := zd02dec1_21.2.2.2.2.1
theorem dX0_says_25 : decode cX0_says 25 = .ok (.getfield 11, 3) := zd02dec1_21.2.2.2.2.2.1
theorem dX0_says_28 : decode cX0_says 28 = .ok (.iconst 2, 1) := zd02dec1_21.2.2.2.2.2.2.1
theorem dX0_says_29 : decode cX0_says 29 = .ok (.aload_n 0, 1) := zd02dec1_21.2.2.2.2.2.2.2.1
theorem dX0_says_30 : decode cX0_says 30 = .ok (.getfield 17, 3) := zd02dec1_21.2.2.2.2.2.2.2.2.1
theorem dX0_says_33 : decode cX0_says 33 = .ok (.iload_n 2, 1) := zd02dec1_21.2.2.2.2.2.2.2.2.2.1
theorem dX0_says_34 : decode cX0_says 34 = .ok (.iaload, 1) := zd02dec1_21.2.2.2.2.2.2.2.2.2.2.1
theorem dX0_says_35 : decode cX0_says 35 = .ok (.iastore, 1) := zd02dec1_21.2.2.2.2.2.2.2.2.2.2.2
theorem zd02dec1_22 : decode cX0_says 36 = .ok (.aload_n 0, 1) ∧ decode cX0_says 37 = .ok (.getfield 11, 3) ∧ decode cX0_says 40 = .ok (.iconst 3, 1) ∧ decode cX0_says 41 = .ok (.aload_n 0, 1) ∧ decode cX0_says 42 = .ok (.getfield 20, 3) ∧ decode cX0_says 45 = .ok (.iload_n 2, 1) ∧ decode cX0_says 46 = .ok (.iaload, 1) ∧ decode cX0_says 47 = .ok (.iastore, 1) ∧ decode cX0_says 48 = .ok (.aload_n 0, 1) ∧ decode cX0_says 49 = .ok (.getfield 11, 3) ∧ decode cX0_says 52 = .ok (.iconst 4, 1) ∧ decode cX0_says 53 = .ok (.aload_n 0, 1) := by decide +kernel
theorem dX0_says_36 : decode cX0_says 36 = .ok (.aload_n 0, 1) := zd02dec1_22.1
theorem dX0_says_37 : decode cX0_says 37 = .ok (.getfield 11, 3) := zd02dec1_22.2.1
theorem dX0_says_40 : decode cX0_says 40 = .ok (.iconst 3, 1) := zd02dec1_22.2.2.1
theorem dX0_says_41 : decode cX0_says 41 = .ok (.aload_n 0, 1) := zd02dec1_22.2.2.2.1
theorem dX0_says_42 : decode cX0_says 42 = .ok (.getfield 20, 3) := zd02dec1_22.2.2.2.2.1
theorem dX0_says_45 : decode cX0_says 45 = .ok (.iload_n 2, 1) := zd02dec1_22.2.2.2.2.2.1
theorem dX0_says_46 : decode cX0_says 46 = .ok (.iaload, 1) := zd02dec1_22.2.2.2.2.2.2.1
theorem dX0_says_47 : decode cX0_says 47 = .ok (.iastore, 1) := zd02dec1_22.2.2.2.2.2.2.2.1
theorem dX0_says_48 : decode cX0_says 48 = .ok (.aload_n 0, 1) := zd02dec1_22.2.2.2.2.2.2.2.2.1
theorem dX0_says_49 : decode cX0_says 49 = .ok (.getfield 11, 3) := zd02dec1_22.2.2.2.2.2.2.2.2.2.1
theorem dX0_says_52 : decode cX0_says 52 = .ok (.iconst 4, 1) := zd02dec1_22.2.2.2.2.2.2.2.2.2.2.1
theorem dX0_says_53 : decode cX0_says 53 = .ok (.aload_n 0, 1) := zd02dec1_22.2.2.2.2.2.2.2.2.2.2.2
theorem zd02dec1_23 : decode cX0_says 54 = .ok (.getfield 29, 3) ∧ decode cX0_says 57 = .ok (.iload_n 3, 1) ∧ decode cX0_says 58 = .ok (.iaload, 1) ∧ decode cX0_says 59 = .ok (.iastore, 1) ∧ decode cX0_says 60 = .ok (.aload_n 0, 1) ∧ decode cX0_says 61 = .ok (.getfield 11, 3) ∧ decode cX0_says 64 = .ok (.iconst 5, 1) ∧ decode cX0_says 65 = .ok (.iload_n 2, 1) ∧ decode cX0_says 66 = .ok (.iastore, 1) ∧ decode cX0_says 67 = .ok (.iload_n 1, 1) ∧ decode cX0_says 68 = .ok (.ifCond .ne 8, 3) ∧ decode cX0_says 71 = .ok (.bipush 99, 2) := by decide +kernel
theorem dX0_says_54 : decode cX0_says 54 = .ok (.getfield 29, 3) := zd02dec1_23.1
theorem dX0_says_57 : decode cX0_says 57 = .ok (.iload_n 3, 1) := zd02dec1_23.2.1
theorem dX0_says_58 : decode cX0_says 58 = .ok (.iaload, 1) := zd02dec1_23.2.2.1
theorem dX0_says_59 : decode cX0_says 59 = .ok (.iastore, 1) := zd02dec1_23.2.2.2.1
theorem dX0_says_60 : decode cX0_says 60 = .ok (.aload_n 0, 1) := zd02dec1_23.2.2.2.2.1
theorem dX0_says_61 : decode cX0_says 61 = .ok (.getfield 11, 3) := zd02dec1_23.2.2.2.2.2.1
theorem dX0_says_64 : decode cX0_says 64 = .ok (.iconst 5, 1) := zd02dec1_23.2.2.2.2.2.2.1
theorem dX0_says_65 : decode cX0_says 65 = .ok (.iload_n 2, 1) := zd02dec1_23.2.2.2.2.2.2.2.1
theorem dX0_says_66 : decode cX0_says 66 = .ok (.iastore, 1) := zd02dec1_23.2.2.2.2.2.2.2.2.1
theorem dX0_says_67 : decode cX0_says 67 = .ok (.iload_n 1, 1) := zd02dec1_23.2.2.2.2.2.2.2.2.2.1
theorem dX0_says_68 : decode cX0_says 68 = .ok (.ifCond .ne 8, 3) := zd02dec1_23.2.2.2.2.2.2.2.2.2.2.1
theorem dX0_says_71 : decode cX0_says 71 = .ok (.bipush 99, 2) := zd02dec1_23.2.2.2.2.2.2.2.2.2.2.2
theorem zd02dec1_24 : decode cX0_says 73 = .ok (.goto 16, 3) ∧ decode cX0_says 76 = .ok (.iload_n 1, 1) ∧ decode cX0_says 77 = .ok (.iconst 1, 1) ∧ decode cX0_says 78 = .ok (.if_icmp .ne 8, 3) ∧ decode cX0_says 81 = .ok (.bipush 20, 2) ∧ decode cX0_says 83 = .ok (.goto 6, 3) ∧ decode cX0_says 86 = .ok (.sipush 9999, 3) ∧ decode cX0_says 89 = .ok (.istore 4, 2) ∧ decode cX0_says 91 = .ok (.iconst 0, 1) ∧ decode cX0_says 92 = .ok (.iload 4, 2) ∧ decode cX0_says 94 = .ok (.aload_n 0, 1) ∧ decode cX0_says 95 = .ok (.getfield 38, 3) := by decide +kernel
theorem dX0_says_73 : decode cX0_says 73 = .ok (.goto 16, 3) := zd02dec1_24.1
theorem dX0_says_76 : decode cX0_says 76 = .ok (.iload_n 1, 1) := zd02dec1_24.2.1
theorem dX0_says_77 : decode cX0_says 77 = .ok (.iconst 1, 1) := zd02dec1_24.2.2.1
theorem dX0_says_78 : decode cX0_says 78 = .ok (.if_icmp .ne 8, 3) := zd02dec1_24.2.2.2.1
theorem dX0_says_81 : decode cX0_says 81 = .ok (.bipush 20, 2) := zd02dec1_24.2.2.2.2.1
theorem dX0_says_83 : decode cX0_says 83 = .ok (.goto 6, 3) := zd02dec1_24.2.2.2.2.2.1
theorem dX0_says_86 : decode cX0_says 86 = .ok (.sipush 9999, 3) := zd02dec1_24.2.2.2.2.2.2.1
theorem dX0_says_89 : decode cX0_says 89 = .ok (.istore 4, 2) := zd02dec1_24.2.2.2.2.2.2.2.1
theorem dX0_says_91 : decode cX0_says 91 = .ok (.iconst 0, 1) := zd02dec1_24.2.2.2.2.2.2.2.2.1
theorem dX0_says_92 : decode cX0_says 92 = .ok (.iload 4, 2) := zd02dec1_24.2.2.2.2.2.2.2.2.2.1
theorem dX0_says_94 : decode cX0_says 94 = .ok (.aload_n 0, 1) := zd02dec1_24.2.2.2.2.2.2.2.2.2.2.1
theorem dX0_says_95 : decode cX0_says 95 = .ok (.getfield 38, 3) := zd02dec1_24.2.2.2.2.2.2.2.2.2.2.2
theorem zd02dec1_25 : decode cX0_says 98 = .ok (.aload_n 0, 1) ∧ decode cX0_says 99 = .ok (.getfield 55, 3) ∧ decode cX0_says 102 = .ok (.iload_n 1, 1) ∧ decode cX0_says 103 = .ok (.aload_n 0, 1) ∧ decode cX0_says 104 = .ok (.getfield 11, 3) ∧ decode cX0_says 107 = .ok (.invokevirtual 65, 3) ∧ decode cX0_says 110 = .ok (.invokestatic 71, 3) ∧ decode cX0_says 113 = .ok (.invokestatic 77, 3) ∧ decode cX0_says 116 = .ok (.ireturn, 1) := by decide +kernel
theorem dX0_says_98 : decode cX0_says 98 = .ok (.aload_n 0, 1) := zd02dec1_25.1
theorem dX0_says_99 : decode cX0_says 99 = .ok (.getfield 55, 3) := zd02dec1_25.2.1
theorem dX0_says_102 : decode cX0_says 102 = .ok (.iload_n 1, 1) := zd02dec1_25.2.2.1
theorem dX0_says_103 : decode cX0_says 103 = .ok (.aload_n 0, 1) := zd02dec1_25.2.2.2.1
theorem dX0_says_104 : decode cX0_says 104 = .ok (.getfield 11, 3) := zd02dec1_25.2.2.2.2.1
theorem dX0_says_107 : decode cX0_says 107 = .ok (.invokevirtual 65, 3) := zd02dec1_25.2.2.2.2.2.1
theorem dX0_says_110 : decode cX0_says 110 = .ok (.invokestatic 71, 3) := zd02dec1_25.2.2.2.2.2.2.1
theorem dX0_says_113 : decode cX0_says 113 = .ok (.invokestatic 77, 3) := zd02dec1_25.2.2.2.2.2.2.2.1
theorem dX0_says_116 : decode cX0_says 116 = .ok (.ireturn, 1) := zd02dec1_25.2.2.2.2.2.2.2.2
theorem zd02dec1_26 : decode cX0_isSand 0 = .ok (.aload_n 0, 1) ∧ decode cX0_isSand 1 = .ok (.getfield 26, 3) ∧ decode cX0_isSand 4 = .ok (.iload_n 1, 1) ∧ decode cX0_isSand 5 = .ok (.iaload, 1) ∧ decode cX0_isSand 6 = .ok (.tableswitch 67 2 5 #[30, 67, 30, 51], 30) ∧ decode cX0_isSand 36 = .ok (.aload_n 0, 1) ∧ decode cX0_isSand 37 = .ok (.getfield 32, 3) ∧ decode cX0_isSand 40 = .ok (.iload_n 1, 1) ∧ decode cX0_isSand 41 = .ok (.iaload, 1) ∧ decode cX0_isSand 42 = .ok (.aload_n 0, 1) ∧ decode cX0_isSand 43 = .ok (.getfield 29, 3) ∧ decode cX0_isSand 46 = .ok (.iload_n 1, 1) := by decide +kernel
theorem dX0_isSand_0 : decode cX0_isSand 0 = .ok (.aload_n 0, 1) := zd02dec1_26.1
theorem dX0_isSand_1 : decode cX0_isSand 1 = .ok (.getfield 26, 3) := zd02dec1_26.2.1
theorem dX0_isSand_4 : decode cX0_isSand 4 = .ok (.iload_n 1, 1) := zd02dec1_26.2.2.1
theorem dX0_isSand_5 : decode cX0_isSand 5 = .ok (.iaload, 1) := zd02dec1_26.2.2.2.1
theorem dX0_isSand_6 : decode cX0_isSand 6 = .ok (.tableswitch 67 2 5 #[30, 67, 30, 51], 30) := zd02dec1_26.2.2.2.2.1
theorem dX0_isSand_36 : decode cX0_isSand 36 = .ok (.aload_n 0, 1) := zd02dec1_26.2.2.2.2.2.1
theorem dX0_isSand_37 : decode cX0_isSand 37 = .ok (.getfield 32, 3) := zd02dec1_26.2.2.2.2.2.2.1
theorem dX0_isSand_40 : decode cX0_isSand 40 = .ok (.iload_n 1, 1) := zd02dec1_26.2.2.2.2.2.2.2.1
theorem dX0_isSand_41 : decode cX0_isSand 41 = .ok (.iaload, 1) := zd02dec1_26.2.2.2.2.2.2.2.2.1
theorem dX0_isSand_42 : decode cX0_isSand 42 = .ok (.aload_n 0, 1) := zd02dec1_26.2.2.2.2.2.2.2.2.2.1
theorem dX0_isSand_43 : decode cX0_isSand 43 = .ok (.getfield 29, 3) := zd02dec1_26.2.2.2.2.2.2.2.2.2.2.1
theorem dX0_isSand_46 : decode cX0_isSand 46 = .ok (.iload_n 1, 1) := zd02dec1_26.2.2.2.2.2.2.2.2.2.2.2
theorem zd02dec1_27 : decode cX0_isSand 47 = .ok (.iaload, 1) ∧ decode cX0_isSand 48 = .ok (.if_icmp .gt 7, 3) ∧ decode cX0_isSand 51 = .ok (.iconst 1, 1) ∧ decode cX0_isSand 52 = .ok (.goto 4, 3) ∧ decode cX0_isSand 55 = .ok (.iconst 0, 1) ∧ decode cX0_isSand 56 = .ok (.ireturn, 1) ∧ decode cX0_isSand 57 = .ok (.aload_n 0, 1) ∧ decode cX0_isSand 58 = .ok (.getfield 32, 3) ∧ decode cX0_isSand 61 = .ok (.iload_n 1, 1) ∧ decode cX0_isSand 62 = .ok (.iaload, 1) ∧ decode cX0_isSand 63 = .ok (.iconst 5, 1) ∧ decode cX0_isSand 64 = .ok (.if_icmp .ge 7, 3) := by decide +kernel
theorem dX0_isSand_47 : decode cX0_isSand 47 = .ok (.iaload, 1) := zd02dec1_27.1
theorem dX0_isSand_48 : decode cX0_isSand 48 = .ok (.if_icmp .gt 7, 3) := zd02dec1_27.2.1
theorem dX0_isSand_51 : decode cX0_isSand 51 = .ok (.iconst 1, 1) := zd02dec1_27.2.2.1
theorem dX0_isSand_52 : decode cX0_isSand 52 = .ok (.goto 4, 3) := zd02dec1_27.2.2.2.1
theorem dX0_isSand_55 : decode cX0_isSand 55 = .ok (.iconst 0, 1) := zd02dec1_27.2.2.2.2.1
theorem dX0_isSand_56 : decode cX0_isSand 56 = .ok (.ireturn, 1) := zd02dec1_27.2.2.2.2.2.1
theorem dX0_isSand_57 : decode cX0_isSand 57 = .ok (.aload_n 0, 1) := zd02dec1_27.2.2.2.2.2.2.1
theorem dX0_isSand_58 : decode cX0_isSand 58 = .ok (.getfield 32, 3) := zd02dec1_27.2.2.2.2.2.2.2.1
theorem dX0_isSand_61 : decode cX0_isSand 61 = .ok (.iload_n 1, 1) := zd02dec1_27.2.2.2.2.2.2.2.2.1
theorem dX0_isSand_62 : decode cX0_isSand 62 = .ok (.iaload, 1) := zd02dec1_27.2.2.2.2.2.2.2.2.2.1
theorem dX0_isSand_63 : decode cX0_isSand 63 = .ok (.iconst 5, 1) := zd02dec1_27.2.2.2.2.2.2.2.2.2.2.1
theorem dX0_isSand_64 : decode cX0_isSand 64 = .ok (.if_icmp .ge 7, 3) := zd02dec1_27.2.2.2.2.2.2.2.2.2.2.2
theorem zd02dec1_28 : decode cX0_isSand 67 = .ok (.iconst 1, 1) ∧ decode cX0_isSand 68 = .ok (.goto 4, 3) ∧ decode cX0_isSand 71 = .ok (.iconst 0, 1) ∧ decode cX0_isSand 72 = .ok (.ireturn, 1) ∧ decode cX0_isSand 73 = .ok (.aload_n 0, 1) ∧ decode cX0_isSand 74 = .ok (.getfield 32, 3) ∧ decode cX0_isSand 77 = .ok (.iload_n 1, 1) ∧ decode cX0_isSand 78 = .ok (.iaload, 1) ∧ decode cX0_isSand 79 = .ok (.ifCond .ne 7, 3) ∧ decode cX0_isSand 82 = .ok (.iconst 1, 1) ∧ decode cX0_isSand 83 = .ok (.goto 4, 3) ∧ decode cX0_isSand 86 = .ok (.iconst 0, 1) := by decide +kernel
theorem dX0_isSand_67 : decode cX0_isSand 67 = .ok (.iconst 1, 1) := zd02dec1_28.1
theorem dX0_isSand_68 : decode cX0_isSand 68 = .ok (.goto 4, 3) := zd02dec1_28.2.1
theorem dX0_isSand_71 : decode cX0_isSand 71 = .ok (.iconst 0, 1) := zd02dec1_28.2.2.1
theorem dX0_isSand_72 : decode cX0_isSand 72 = .ok (.ireturn, 1) := zd02dec1_28.2.2.2.1
theorem dX0_isSand_73 : decode cX0_isSand 73 = .ok (.aload_n 0, 1) := zd02dec1_28.2.2.2.2.1
theorem dX0_isSand_74 : decode cX0_isSand 74 = .ok (.getfield 32, 3) := zd02dec1_28.2.2.2.2.2.1
theorem dX0_isSand_77 : decode cX0_isSand 77 = .ok (.iload_n 1, 1) := zd02dec1_28.2.2.2.2.2.2.1
theorem dX0_isSand_78 : decode cX0_isSand 78 = .ok (.iaload, 1) := zd02dec1_28.2.2.2.2.2.2.2.1
theorem dX0_isSand_79 : decode cX0_isSand 79 = .ok (.ifCond .ne 7, 3) := zd02dec1_28.2.2.2.2.2.2.2.2.1
theorem dX0_isSand_82 : decode cX0_isSand 82 = .ok (.iconst 1, 1) := zd02dec1_28.2.2.2.2.2.2.2.2.2.1
theorem dX0_isSand_83 : decode cX0_isSand 83 = .ok (.goto 4, 3) := zd02dec1_28.2.2.2.2.2.2.2.2.2.2.1
theorem dX0_isSand_86 : decode cX0_isSand 86 = .ok (.iconst 0, 1) := zd02dec1_28.2.2.2.2.2.2.2.2.2.2.2
theorem dX0_isSand_87 : decode cX0_isSand 87 = .ok (.ireturn, 1) := by decide +kernel
theorem zd02dec1_29 : decode cX0_hurts 0 = .ok (.iload_n 1, 1) ∧ decode cX0_hurts 1 = .ok (.aload_n 0, 1) ∧ decode cX0_hurts 2 = .ok (.getfield 17, 3) ∧ decode cX0_hurts 5 = .ok (.iload_n 2, 1) ∧ decode cX0_hurts 6 = .ok (.iaload, 1) ∧ decode cX0_hurts 7 = .ok (.isub, 1) ∧ decode cX0_hurts 8 = .ok (.istore 4, 2) ∧ decode cX0_hurts 10 = .ok (.iload 4, 2) ∧ decode cX0_hurts 12 = .ok (.aload_n 0, 1) ∧ decode cX0_hurts 13 = .ok (.getfield 29, 3) ∧ decode cX0_hurts 16 = .ok (.iload_n 3, 1) ∧ decode cX0_hurts 17 = .ok (.iaload, 1) := by decide +kernel
theorem dX0_hurts_0 : decode cX0_hurts 0 = .ok (.iload_n 1, 1) := zd02dec1_29.1
theorem dX0_hurts_1 : decode cX0_hurts 1 = .ok (.aload_n 0, 1) := zd02dec1_29.2.1
theorem dX0_hurts_2 : decode cX0_hurts 2 = .ok (.getfield 17, 3) := zd02dec1_29.2.2.1
theorem dX0_hurts_5 : decode cX0_hurts 5 = .ok (.iload_n 2, 1) := zd02dec1_29.2.2.2.1
theorem dX0_hurts_6 : decode cX0_hurts 6 = .ok (.iaload, 1) := zd02dec1_29.2.2.2.2.1
theorem dX0_hurts_7 : decode cX0_hurts 7 = .ok (.isub, 1) := zd02dec1_29.2.2.2.2.2.1
theorem dX0_hurts_8 : decode cX0_hurts 8 = .ok (.istore 4, 2) := zd02dec1_29.2.2.2.2.2.2.1
theorem dX0_hurts_10 : decode cX0_hurts 10 = .ok (.iload 4, 2) := zd02dec1_29.2.2.2.2.2.2.2.1
theorem dX0_hurts_12 : decode cX0_hurts 12 = .ok (.aload_n 0, 1) := zd02dec1_29.2.2.2.2.2.2.2.2.1
theorem dX0_hurts_13 : decode cX0_hurts 13 = .ok (.getfield 29, 3) := zd02dec1_29.2.2.2.2.2.2.2.2.2.1
theorem dX0_hurts_16 : decode cX0_hurts 16 = .ok (.iload_n 3, 1) := zd02dec1_29.2.2.2.2.2.2.2.2.2.2.1
theorem dX0_hurts_17 : decode cX0_hurts 17 = .ok (.iaload, 1) := zd02dec1_29.2.2.2.2.2.2.2.2.2.2.2
theorem zd02dec1_30 : decode cX0_hurts 18 = .ok (.iadd, 1) ∧ decode cX0_hurts 19 = .ok (.istore 5, 2) ∧ decode cX0_hurts 21 = .ok (.aload_n 0, 1) ∧ decode cX0_hurts 22 = .ok (.getfield 26, 3) ∧ decode cX0_hurts 25 = .ok (.iload_n 3, 1) ∧ decode cX0_hurts 26 = .ok (.iaload, 1) ∧ decode cX0_hurts 27 = .ok (.tableswitch 95 1 5 #[33, 95, 40, 64, 73], 33) ∧ decode cX0_hurts 60 = .ok (.iconst 0, 1) ∧ decode cX0_hurts 61 = .ok (.iload 5, 2) ∧ decode cX0_hurts 63 = .ok (.invokestatic 77, 3) ∧ decode cX0_hurts 66 = .ok (.ireturn, 1) ∧ decode cX0_hurts 67 = .ok (.iconst 0, 1) := by decide +kernel
theorem dX0_hurts_18 : decode cX0_hurts 18 = .ok (.iadd, 1) := zd02dec1_30.1
theorem dX0_hurts_19 : decode cX0_hurts 19 = .ok (.istore 5, 2) := zd02dec1_30.2.1
theorem dX0_hurts_21 : decode cX0_hurts 21 = .ok (.aload_n 0, 1) := zd02dec1_30.2.2.1
theorem dX0_hurts_22 : decode cX0_hurts 22 = .ok (.getfield 26, 3) := zd02dec1_30.2.2.2.1
theorem dX0_hurts_25 : decode cX0_hurts 25 = .ok (.iload_n 3, 1) := zd02dec1_30.2.2.2.2.1
theorem dX0_hurts_26 : decode cX0_hurts 26 = .ok (.iaload, 1) := zd02dec1_30.2.2.2.2.2.1
theorem dX0_hurts_27 : decode cX0_hurts 27 = .ok (.tableswitch 95 1 5 #[33, 95, 40, 64, 73], 33) := zd02dec1_30.2.2.2.2.2.2.1
theorem dX0_hurts_60 : decode cX0_hurts 60 = .ok (.iconst 0, 1) := zd02dec1_30.2.2.2.2.2.2.2.1
theorem dX0_hurts_61 : decode cX0_hurts 61 = .ok (.iload 5, 2) := zd02dec1_30.2.2.2.2.2.2.2.2.1
theorem dX0_hurts_63 : decode cX0_hurts 63 = .ok (.invokestatic 77, 3) := zd02dec1_30.2.2.2.2.2.2.2.2.2.1
theorem dX0_hurts_66 : decode cX0_hurts 66 = .ok (.ireturn, 1) := zd02dec1_30.2.2.2.2.2.2.2.2.2.2.1
theorem dX0_hurts_67 : decode cX0_hurts 67 = .ok (.iconst 0, 1) := zd02dec1_30.2.2.2.2.2.2.2.2.2.2.2
theorem zd02dec1_31 : decode cX0_hurts 68 = .ok (.aload_n 0, 1) ∧ decode cX0_hurts 69 = .ok (.getfield 17, 3) ∧ decode cX0_hurts 72 = .ok (.iload_n 2, 1) ∧ decode cX0_hurts 73 = .ok (.iaload, 1) ∧ decode cX0_hurts 74 = .ok (.iconst 5, 1) ∧ decode cX0_hurts 75 = .ok (.if_icmp .ge 10, 3) ∧ decode cX0_hurts 78 = .ok (.iconst 2, 1) ∧ decode cX0_hurts 79 = .ok (.iload 5, 2) ∧ decode cX0_hurts 81 = .ok (.imul, 1) ∧ decode cX0_hurts 82 = .ok (.goto 5, 3) ∧ decode cX0_hurts 85 = .ok (.iload 5, 2) ∧ decode cX0_hurts 87 = .ok (.invokestatic 77, 3) := by decide +kernel
theorem dX0_hurts_68 : decode cX0_hurts 68 = .ok (.aload_n 0, 1) := zd02dec1_31.1
theorem dX0_hurts_69 : decode cX0_hurts 69 = .ok (.getfield 17, 3) := zd02dec1_31.2.1
theorem dX0_hurts_72 : decode cX0_hurts 72 = .ok (.iload_n 2, 1) := zd02dec1_31.2.2.1
theorem dX0_hurts_73 : decode cX0_hurts 73 = .ok (.iaload, 1) := zd02dec1_31.2.2.2.1
theorem dX0_hurts_74 : decode cX0_hurts 74 = .ok (.iconst 5, 1) := zd02dec1_31.2.2.2.2.1
theorem dX0_hurts_75 : decode cX0_hurts 75 = .ok (.if_icmp .ge 10, 3) := zd02dec1_31.2.2.2.2.2.1
theorem dX0_hurts_78 : decode cX0_hurts 78 = .ok (.iconst 2, 1) := zd02dec1_31.2.2.2.2.2.2.1
theorem dX0_hurts_79 : decode cX0_hurts 79 = .ok (.iload 5, 2) := zd02dec1_31.2.2.2.2.2.2.2.1
theorem dX0_hurts_81 : decode cX0_hurts 81 = .ok (.imul, 1) := zd02dec1_31.2.2.2.2.2.2.2.2.1
theorem dX0_hurts_82 : decode cX0_hurts 82 = .ok (.goto 5, 3) := zd02dec1_31.2.2.2.2.2.2.2.2.2.1
theorem dX0_hurts_85 : decode cX0_hurts 85 = .ok (.iload 5, 2) := zd02dec1_31.2.2.2.2.2.2.2.2.2.2.1
theorem dX0_hurts_87 : decode cX0_hurts 87 = .ok (.invokestatic 77, 3) := zd02dec1_31.2.2.2.2.2.2.2.2.2.2.2
theorem zd02dec1_32 : decode cX0_hurts 90 = .ok (.ireturn, 1) ∧ decode cX0_hurts 91 = .ok (.iconst 0, 1) ∧ decode cX0_hurts 92 = .ok (.iload 4, 2) ∧ decode cX0_hurts 94 = .ok (.iconst 2, 1) ∧ decode cX0_hurts 95 = .ok (.idiv, 1) ∧ decode cX0_hurts 96 = .ok (.invokestatic 77, 3) ∧ decode cX0_hurts 99 = .ok (.ireturn, 1) ∧ decode cX0_hurts 100 = .ok (.iconst 0, 1) ∧ decode cX0_hurts 101 = .ok (.iload_n 1, 1) ∧ decode cX0_hurts 102 = .ok (.aload_n 0, 1) ∧ decode cX0_hurts 103 = .ok (.getfield 17, 3) ∧ decode cX0_hurts 106 = .ok (.iload_n 2, 1) := by decide +kernel
theorem dX0_hurts_90 : decode cX0_hurts 90 = .ok (.ireturn, 1) := zd02dec1_32.1
theorem dX0_hurts_91 : decode cX0_hurts 91 = .ok (.iconst 0, 1) := zd02dec1_32.2.1
theorem dX0_hurts_92 : decode cX0_hurts 92 = .ok (.iload 4, 2) := zd02dec1_32.2.2.1
theorem dX0_hurts_94 : decode cX0_hurts 94 = .ok (.iconst 2, 1) := zd02dec1_32.2.2.2.1
theorem dX0_hurts_95 : decode cX0_hurts 95 = .ok (.idiv, 1) := zd02dec1_32.2.2.2.2.1
theorem dX0_hurts_96 : decode cX0_hurts 96 = .ok (.invokestatic 77, 3) := zd02dec1_32.2.2.2.2.2.1
theorem dX0_hurts_99 : decode cX0_hurts 99 = .ok (.ireturn, 1) := zd02dec1_32.2.2.2.2.2.2.1
theorem dX0_hurts_100 : decode cX0_hurts 100 = .ok (.iconst 0, 1) := zd02dec1_32.2.2.2.2.2.2.2.1
theorem dX0_hurts_101 : decode cX0_hurts 101 = .ok (.iload_n 1, 1) := zd02dec1_32.2.2.2.2.2.2.2.2.1
theorem dX0_hurts_102 : decode cX0_hurts 102 = .ok (.aload_n 0, 1) := zd02dec1_32.2.2.2.2.2.2.2.2.2.1
theorem dX0_hurts_103 : decode cX0_hurts 103 = .ok (.getfield 17, 3) := zd02dec1_32.2.2.2.2.2.2.2.2.2.2.1
theorem dX0_hurts_106 : decode cX0_hurts 106 = .ok (.iload_n 2, 1) := zd02dec1_32.2.2.2.2.2.2.2.2.2.2.2
theorem zd02dec1_33 : decode cX0_hurts 107 = .ok (.iaload, 1) ∧ decode cX0_hurts 108 = .ok (.aload_n 0, 1) ∧ decode cX0_hurts 109 = .ok (.getfield 29, 3) ∧ decode cX0_hurts 112 = .ok (.iload_n 3, 1) ∧ decode cX0_hurts 113 = .ok (.iaload, 1) ∧ decode cX0_hurts 114 = .ok (.imul, 1) ∧ decode cX0_hurts 115 = .ok (.iconst 4, 1) ∧ decode cX0_hurts 116 = .ok (.idiv, 1) ∧ decode cX0_hurts 117 = .ok (.isub, 1) ∧ decode cX0_hurts 118 = .ok (.invokestatic 77, 3) ∧ decode cX0_hurts 121 = .ok (.ireturn, 1) ∧ decode cX0_hurts 122 = .ok (.iconst 0, 1) := by decide +kernel
theorem dX0_hurts_107 : decode cX0_hurts 107 = .ok (.iaload, 1) := zd02dec1_33.1
theorem dX0_hurts_108 : decode cX0_hurts 108 = .ok (.aload_n 0, 1) := zd02dec1_33.2.1
theorem dX0_hurts_109 : decode cX0_hurts 109 = .ok (.getfield 29, 3) := zd02dec1_33.2.2.1
theorem dX0_hurts_112 : decode cX0_hurts 112 = .ok (.iload_n 3, 1) := zd02dec1_33.2.2.2.1
theorem dX0_hurts_113 : decode cX0_hurts 113 = .ok (.iaload, 1) := zd02dec1_33.2.2.2.2.1
theorem dX0_hurts_114 : decode cX0_hurts 114 = .ok (.imul, 1) := zd02dec1_33.2.2.2.2.2.1
theorem dX0_hurts_115 : decode cX0_hurts 115 = .ok (.iconst 4, 1) := zd02dec1_33.2.2.2.2.2.2.1
theorem dX0_hurts_116 : decode cX0_hurts 116 = .ok (.idiv, 1) := zd02dec1_33.2.2.2.2.2.2.2.1
theorem dX0_hurts_117 : decode cX0_hurts 117 = .ok (.isub, 1) := zd02dec1_33.2.2.2.2.2.2.2.2.1
theorem dX0_hurts_118 : decode cX0_hurts 118 = .ok (.invokestatic 77, 3) := zd02dec1_33.2.2.2.2.2.2.2.2.2.1
theorem dX0_hurts_121 : decode cX0_hurts 121 = .ok (.ireturn, 1) := zd02dec1_33.2.2.2.2.2.2.2.2.2.2.1
theorem dX0_hurts_122 : decode cX0_hurts 122 = .ok (.iconst 0, 1) := zd02dec1_33.2.2.2.2.2.2.2.2.2.2.2
theorem zd02dec1_34 : decode cX0_hurts 123 = .ok (.iload 4, 2) ∧ decode cX0_hurts 125 = .ok (.invokestatic 77, 3) ∧ decode cX0_hurts 128 = .ok (.ireturn, 1) := by decide +kernel
theorem dX0_hurts_123 : decode cX0_hurts 123 = .ok (.iload 4, 2) := zd02dec1_34.1
theorem dX0_hurts_125 : decode cX0_hurts 125 = .ok (.invokestatic 77, 3) := zd02dec1_34.2.1
theorem dX0_hurts_128 : decode cX0_hurts 128 = .ok (.ireturn, 1) := zd02dec1_34.2.2
theorem zd02dec1_35 : decode cX0_wears 0 = .ok (.aload_n 0, 1) ∧ decode cX0_wears 1 = .ok (.getfield 26, 3) ∧ decode cX0_wears 4 = .ok (.iload_n 2, 1) ∧ decode cX0_wears 5 = .ok (.iaload, 1) ∧ decode cX0_wears 6 = .ok (.tableswitch 47 2 4 #[26, 30, 34], 26) ∧ decode cX0_wears 32 = .ok (.iconst 2, 1) ∧ decode cX0_wears 33 = .ok (.iload_n 1, 1) ∧ decode cX0_wears 34 = .ok (.imul, 1) ∧ decode cX0_wears 35 = .ok (.ireturn, 1) ∧ decode cX0_wears 36 = .ok (.iload_n 1, 1) ∧ decode cX0_wears 37 = .ok (.iconst 2, 1) ∧ decode cX0_wears 38 = .ok (.idiv, 1) := by decide +kernel
theorem dX0_wears_0 : decode cX0_wears 0 = .ok (.aload_n 0, 1) := zd02dec1_35.1
theorem dX0_wears_1 : decode cX0_wears 1 = .ok (.getfield 26, 3) := zd02dec1_35.2.1
theorem dX0_wears_4 : decode cX0_wears 4 = .ok (.iload_n 2, 1) := zd02dec1_35.2.2.1
theorem dX0_wears_5 : decode cX0_wears 5 = .ok (.iaload, 1) := zd02dec1_35.2.2.2.1
theorem dX0_wears_6 : decode cX0_wears 6 = .ok (.tableswitch 47 2 4 #[26, 30, 34], 26) := zd02dec1_35.2.2.2.2.1
theorem dX0_wears_32 : decode cX0_wears 32 = .ok (.iconst 2, 1) := zd02dec1_35.2.2.2.2.2.1
theorem dX0_wears_33 : decode cX0_wears 33 = .ok (.iload_n 1, 1) := zd02dec1_35.2.2.2.2.2.2.1
theorem dX0_wears_34 : decode cX0_wears 34 = .ok (.imul, 1) := zd02dec1_35.2.2.2.2.2.2.2.1
theorem dX0_wears_35 : decode cX0_wears 35 = .ok (.ireturn, 1) := zd02dec1_35.2.2.2.2.2.2.2.2.1
theorem dX0_wears_36 : decode cX0_wears 36 = .ok (.iload_n 1, 1) := zd02dec1_35.2.2.2.2.2.2.2.2.2.1
theorem dX0_wears_37 : decode cX0_wears 37 = .ok (.iconst 2, 1) := zd02dec1_35.2.2.2.2.2.2.2.2.2.2.1
theorem dX0_wears_38 : decode cX0_wears 38 = .ok (.idiv, 1) := zd02dec1_35.2.2.2.2.2.2.2.2.2.2.2
theorem zd02dec1_36 : decode cX0_wears 39 = .ok (.ireturn, 1) ∧ decode cX0_wears 40 = .ok (.iload_n 1, 1) ∧ decode cX0_wears 41 = .ok (.iconst 5, 1) ∧ decode cX0_wears 42 = .ok (.if_icmp .gt 7, 3) ∧ decode cX0_wears 45 = .ok (.iconst 0, 1) ∧ decode cX0_wears 46 = .ok (.goto 6, 3) ∧ decode cX0_wears 49 = .ok (.iconst 2, 1) ∧ decode cX0_wears 50 = .ok (.iload_n 1, 1) ∧ decode cX0_wears 51 = .ok (.imul, 1) ∧ decode cX0_wears 52 = .ok (.ireturn, 1) ∧ decode cX0_wears 53 = .ok (.iload_n 1, 1) ∧ decode cX0_wears 54 = .ok (.ireturn, 1) := by decide +kernel
theorem dX0_wears_39 : decode cX0_wears 39 = .ok (.ireturn, 1) := zd02dec1_36.1
theorem dX0_wears_40 : decode cX0_wears 40 = .ok (.iload_n 1, 1) := zd02dec1_36.2.1
theorem dX0_wears_41 : decode cX0_wears 41 = .ok (.iconst 5, 1) := zd02dec1_36.2.2.1
theorem dX0_wears_42 : decode cX0_wears 42 = .ok (.if_icmp .gt 7, 3) := zd02dec1_36.2.2.2.1
theorem dX0_wears_45 : decode cX0_wears 45 = .ok (.iconst 0, 1) := zd02dec1_36.2.2.2.2.1
theorem dX0_wears_46 : decode cX0_wears 46 = .ok (.goto 6, 3) := zd02dec1_36.2.2.2.2.2.1
theorem dX0_wears_49 : decode cX0_wears 49 = .ok (.iconst 2, 1) := zd02dec1_36.2.2.2.2.2.2.1
theorem dX0_wears_50 : decode cX0_wears 50 = .ok (.iload_n 1, 1) := zd02dec1_36.2.2.2.2.2.2.2.1
theorem dX0_wears_51 : decode cX0_wears 51 = .ok (.imul, 1) := zd02dec1_36.2.2.2.2.2.2.2.2.1
theorem dX0_wears_52 : decode cX0_wears 52 = .ok (.ireturn, 1) := zd02dec1_36.2.2.2.2.2.2.2.2.2.1
theorem dX0_wears_53 : decode cX0_wears 53 = .ok (.iload_n 1, 1) := zd02dec1_36.2.2.2.2.2.2.2.2.2.2.1
theorem dX0_wears_54 : decode cX0_wears 54 = .ok (.ireturn, 1) := zd02dec1_36.2.2.2.2.2.2.2.2.2.2.2
theorem zd02dec1_37 : decode cX0_tread 0 = .ok (.aload_n 0, 1) ∧ decode cX0_tread 1 = .ok (.getfield 20, 3) ∧ decode cX0_tread 4 = .ok (.iload_n 1, 1) ∧ decode cX0_tread 5 = .ok (.dup2, 1) ∧ decode cX0_tread 6 = .ok (.iaload, 1) ∧ decode cX0_tread 7 = .ok (.iconst 1, 1) ∧ decode cX0_tread 8 = .ok (.iadd, 1) ∧ decode cX0_tread 9 = .ok (.iastore, 1) ∧ decode cX0_tread 10 = .ok (.aload_n 0, 1) ∧ decode cX0_tread 11 = .ok (.getfield 20, 3) ∧ decode cX0_tread 14 = .ok (.iload_n 1, 1) ∧ decode cX0_tread 15 = .ok (.iaload, 1) := by decide +kernel
theorem dX0_tread_0 : decode cX0_tread 0 = .ok (.aload_n 0, 1) := zd02dec1_37.1
theorem dX0_tread_1 : decode cX0_tread 1 = .ok (.getfield 20, 3) := zd02dec1_37.2.1
theorem dX0_tread_4 : decode cX0_tread 4 = .ok (.iload_n 1, 1) := zd02dec1_37.2.2.1
theorem dX0_tread_5 : decode cX0_tread 5 = .ok (.dup2, 1) := zd02dec1_37.2.2.2.1
theorem dX0_tread_6 : decode cX0_tread 6 = .ok (.iaload, 1) := zd02dec1_37.2.2.2.2.1
theorem dX0_tread_7 : decode cX0_tread 7 = .ok (.iconst 1, 1) := zd02dec1_37.2.2.2.2.2.1
theorem dX0_tread_8 : decode cX0_tread 8 = .ok (.iadd, 1) := zd02dec1_37.2.2.2.2.2.2.1
theorem dX0_tread_9 : decode cX0_tread 9 = .ok (.iastore, 1) := zd02dec1_37.2.2.2.2.2.2.2.1
theorem dX0_tread_10 : decode cX0_tread 10 = .ok (.aload_n 0, 1) := zd02dec1_37.2.2.2.2.2.2.2.2.1
theorem dX0_tread_11 : decode cX0_tread 11 = .ok (.getfield 20, 3) := zd02dec1_37.2.2.2.2.2.2.2.2.2.1
theorem dX0_tread_14 : decode cX0_tread 14 = .ok (.iload_n 1, 1) := zd02dec1_37.2.2.2.2.2.2.2.2.2.2.1
theorem dX0_tread_15 : decode cX0_tread 15 = .ok (.iaload, 1) := zd02dec1_37.2.2.2.2.2.2.2.2.2.2.2
theorem zd02dec1_38 : decode cX0_tread 16 = .ok (.bipush 10, 2) ∧ decode cX0_tread 18 = .ok (.irem, 1) ∧ decode cX0_tread 19 = .ok (.ifCond .ne 22, 3) ∧ decode cX0_tread 22 = .ok (.aload_n 0, 1) ∧ decode cX0_tread 23 = .ok (.getfield 17, 3) ∧ decode cX0_tread 26 = .ok (.iload_n 1, 1) ∧ decode cX0_tread 27 = .ok (.bipush 20, 2) ∧ decode cX0_tread 29 = .ok (.aload_n 0, 1) ∧ decode cX0_tread 30 = .ok (.getfield 17, 3) ∧ decode cX0_tread 33 = .ok (.iload_n 1, 1) ∧ decode cX0_tread 34 = .ok (.iaload, 1) ∧ decode cX0_tread 35 = .ok (.iconst 1, 1) := by decide +kernel
theorem dX0_tread_16 : decode cX0_tread 16 = .ok (.bipush 10, 2) := zd02dec1_38.1
theorem dX0_tread_18 : decode cX0_tread 18 = .ok (.irem, 1) := zd02dec1_38.2.1
theorem dX0_tread_19 : decode cX0_tread 19 = .ok (.ifCond .ne 22, 3) := zd02dec1_38.2.2.1
theorem dX0_tread_22 : decode cX0_tread 22 = .ok (.aload_n 0, 1) := zd02dec1_38.2.2.2.1
theorem dX0_tread_23 : decode cX0_tread 23 = .ok (.getfield 17, 3) := zd02dec1_38.2.2.2.2.1
theorem dX0_tread_26 : decode cX0_tread 26 = .ok (.iload_n 1, 1) := zd02dec1_38.2.2.2.2.2.1
theorem dX0_tread_27 : decode cX0_tread 27 = .ok (.bipush 20, 2) := zd02dec1_38.2.2.2.2.2.2.1
theorem dX0_tread_29 : decode cX0_tread 29 = .ok (.aload_n 0, 1) := zd02dec1_38.2.2.2.2.2.2.2.1
theorem dX0_tread_30 : decode cX0_tread 30 = .ok (.getfield 17, 3) := zd02dec1_38.2.2.2.2.2.2.2.2.1
theorem dX0_tread_33 : decode cX0_tread 33 = .ok (.iload_n 1, 1) := zd02dec1_38.2.2.2.2.2.2.2.2.2.1
theorem dX0_tread_34 : decode cX0_tread 34 = .ok (.iaload, 1) := zd02dec1_38.2.2.2.2.2.2.2.2.2.2.1
theorem dX0_tread_35 : decode cX0_tread 35 = .ok (.iconst 1, 1) := zd02dec1_38.2.2.2.2.2.2.2.2.2.2.2
theorem zd02dec1_39 : decode cX0_tread 36 = .ok (.iadd, 1) ∧ decode cX0_tread 37 = .ok (.invokestatic 71, 3) ∧ decode cX0_tread 40 = .ok (.iastore, 1) ∧ decode cX0_tread 41 = .ok (.return_, 1) := by decide +kernel
theorem dX0_tread_36 : decode cX0_tread 36 = .ok (.iadd, 1) := zd02dec1_39.1
theorem dX0_tread_37 : decode cX0_tread 37 = .ok (.invokestatic 71, 3) := zd02dec1_39.2.1
theorem dX0_tread_40 : decode cX0_tread 40 = .ok (.iastore, 1) := zd02dec1_39.2.2.1
theorem dX0_tread_41 : decode cX0_tread 41 = .ok (.return_, 1) := zd02dec1_39.2.2.2
theorem zd02dec1_40 : decode cX0_mile 0 = .ok (.iconst 0, 1) ∧ decode cX0_mile 1 = .ok (.istore 4, 2) ∧ decode cX0_mile 3 = .ok (.aload_n 0, 1) ∧ decode cX0_mile 4 = .ok (.iload_n 2, 1) ∧ decode cX0_mile 5 = .ok (.invokevirtual 80, 3) ∧ decode cX0_mile 8 = .ok (.ifCond .ne 73, 3) ∧ decode cX0_mile 11 = .ok (.aload_n 0, 1) ∧ decode cX0_mile 12 = .ok (.aload_n 0, 1) ∧ decode cX0_mile 13 = .ok (.iconst 0, 1) ∧ decode cX0_mile 14 = .ok (.iload_n 1, 1) ∧ decode cX0_mile 15 = .ok (.iload_n 2, 1) ∧ decode cX0_mile 16 = .ok (.invokevirtual 83, 3) := by decide +kernel
theorem dX0_mile_0 : decode cX0_mile 0 = .ok (.iconst 0, 1) := zd02dec1_40.1
theorem dX0_mile_1 : decode cX0_mile 1 = .ok (.istore 4, 2) := zd02dec1_40.2.1
theorem dX0_mile_3 : decode cX0_mile 3 = .ok (.aload_n 0, 1) := zd02dec1_40.2.2.1
theorem dX0_mile_4 : decode cX0_mile 4 = .ok (.iload_n 2, 1) := zd02dec1_40.2.2.2.1
theorem dX0_mile_5 : decode cX0_mile 5 = .ok (.invokevirtual 80, 3) := zd02dec1_40.2.2.2.2.1
theorem dX0_mile_8 : decode cX0_mile 8 = .ok (.ifCond .ne 73, 3) := zd02dec1_40.2.2.2.2.2.1
theorem dX0_mile_11 : decode cX0_mile 11 = .ok (.aload_n 0, 1) := zd02dec1_40.2.2.2.2.2.2.1
theorem dX0_mile_12 : decode cX0_mile 12 = .ok (.aload_n 0, 1) := zd02dec1_40.2.2.2.2.2.2.2.1
theorem dX0_mile_13 : decode cX0_mile 13 = .ok (.iconst 0, 1) := zd02dec1_40.2.2.2.2.2.2.2.2.1
theorem dX0_mile_14 : decode cX0_mile 14 = .ok (.iload_n 1, 1) := zd02dec1_40.2.2.2.2.2.2.2.2.2.1
theorem dX0_mile_15 : decode cX0_mile 15 = .ok (.iload_n 2, 1) := zd02dec1_40.2.2.2.2.2.2.2.2.2.2.1
theorem dX0_mile_16 : decode cX0_mile 16 = .ok (.invokevirtual 83, 3) := zd02dec1_40.2.2.2.2.2.2.2.2.2.2.2
theorem zd02dec1_41 : decode cX0_mile 19 = .ok (.iload_n 1, 1) ∧ decode cX0_mile 20 = .ok (.iload_n 2, 1) ∧ decode cX0_mile 21 = .ok (.invokevirtual 87, 3) ∧ decode cX0_mile 24 = .ok (.istore 4, 2) ∧ decode cX0_mile 26 = .ok (.aload_n 0, 1) ∧ decode cX0_mile 27 = .ok (.aload_n 0, 1) ∧ decode cX0_mile 28 = .ok (.iconst 1, 1) ∧ decode cX0_mile 29 = .ok (.iload_n 1, 1) ∧ decode cX0_mile 30 = .ok (.iload_n 2, 1) ∧ decode cX0_mile 31 = .ok (.invokevirtual 83, 3) ∧ decode cX0_mile 34 = .ok (.iload_n 2, 1) ∧ decode cX0_mile 35 = .ok (.invokevirtual 90, 3) := by decide +kernel
theorem dX0_mile_19 : decode cX0_mile 19 = .ok (.iload_n 1, 1) := zd02dec1_41.1
theorem dX0_mile_20 : decode cX0_mile 20 = .ok (.iload_n 2, 1) := zd02dec1_41.2.1
theorem dX0_mile_21 : decode cX0_mile 21 = .ok (.invokevirtual 87, 3) := zd02dec1_41.2.2.1
theorem dX0_mile_24 : decode cX0_mile 24 = .ok (.istore 4, 2) := zd02dec1_41.2.2.2.1
theorem dX0_mile_26 : decode cX0_mile 26 = .ok (.aload_n 0, 1) := zd02dec1_41.2.2.2.2.1
theorem dX0_mile_27 : decode cX0_mile 27 = .ok (.aload_n 0, 1) := zd02dec1_41.2.2.2.2.2.1
theorem dX0_mile_28 : decode cX0_mile 28 = .ok (.iconst 1, 1) := zd02dec1_41.2.2.2.2.2.2.1
theorem dX0_mile_29 : decode cX0_mile 29 = .ok (.iload_n 1, 1) := zd02dec1_41.2.2.2.2.2.2.2.1
theorem dX0_mile_30 : decode cX0_mile 30 = .ok (.iload_n 2, 1) := zd02dec1_41.2.2.2.2.2.2.2.2.1
theorem dX0_mile_31 : decode cX0_mile 31 = .ok (.invokevirtual 83, 3) := zd02dec1_41.2.2.2.2.2.2.2.2.2.1
theorem dX0_mile_34 : decode cX0_mile 34 = .ok (.iload_n 2, 1) := zd02dec1_41.2.2.2.2.2.2.2.2.2.2.1
theorem dX0_mile_35 : decode cX0_mile 35 = .ok (.invokevirtual 90, 3) := zd02dec1_41.2.2.2.2.2.2.2.2.2.2.2
theorem zd02dec1_42 : decode cX0_mile 38 = .ok (.iload_n 3, 1) ∧ decode cX0_mile 39 = .ok (.iadd, 1) ∧ decode cX0_mile 40 = .ok (.istore 5, 2) ∧ decode cX0_mile 42 = .ok (.aload_n 0, 1) ∧ decode cX0_mile 43 = .ok (.getfield 23, 3) ∧ decode cX0_mile 46 = .ok (.iload_n 1, 1) ∧ decode cX0_mile 47 = .ok (.ldc 93, 2) ∧ decode cX0_mile 49 = .ok (.aload_n 0, 1) ∧ decode cX0_mile 50 = .ok (.getfield 23, 3) ∧ decode cX0_mile 53 = .ok (.iload_n 1, 1) ∧ decode cX0_mile 54 = .ok (.iaload, 1) ∧ decode cX0_mile 55 = .ok (.iload 4, 2) := by decide +kernel
theorem dX0_mile_38 : decode cX0_mile 38 = .ok (.iload_n 3, 1) := zd02dec1_42.1
theorem dX0_mile_39 : decode cX0_mile 39 = .ok (.iadd, 1) := zd02dec1_42.2.1
theorem dX0_mile_40 : decode cX0_mile 40 = .ok (.istore 5, 2) := zd02dec1_42.2.2.1
theorem dX0_mile_42 : decode cX0_mile 42 = .ok (.aload_n 0, 1) := zd02dec1_42.2.2.2.1
theorem dX0_mile_43 : decode cX0_mile 43 = .ok (.getfield 23, 3) := zd02dec1_42.2.2.2.2.1
theorem dX0_mile_46 : decode cX0_mile 46 = .ok (.iload_n 1, 1) := zd02dec1_42.2.2.2.2.2.1
theorem dX0_mile_47 : decode cX0_mile 47 = .ok (.ldc 93, 2) := zd02dec1_42.2.2.2.2.2.2.1
theorem dX0_mile_49 : decode cX0_mile 49 = .ok (.aload_n 0, 1) := zd02dec1_42.2.2.2.2.2.2.2.1
theorem dX0_mile_50 : decode cX0_mile 50 = .ok (.getfield 23, 3) := zd02dec1_42.2.2.2.2.2.2.2.2.1
theorem dX0_mile_53 : decode cX0_mile 53 = .ok (.iload_n 1, 1) := zd02dec1_42.2.2.2.2.2.2.2.2.2.1
theorem dX0_mile_54 : decode cX0_mile 54 = .ok (.iaload, 1) := zd02dec1_42.2.2.2.2.2.2.2.2.2.2.1
theorem dX0_mile_55 : decode cX0_mile 55 = .ok (.iload 4, 2) := zd02dec1_42.2.2.2.2.2.2.2.2.2.2.2
theorem zd02dec1_43 : decode cX0_mile 57 = .ok (.iadd, 1) ∧ decode cX0_mile 58 = .ok (.invokestatic 71, 3) ∧ decode cX0_mile 61 = .ok (.iastore, 1) ∧ decode cX0_mile 62 = .ok (.aload_n 0, 1) ∧ decode cX0_mile 63 = .ok (.getfield 32, 3) ∧ decode cX0_mile 66 = .ok (.iload_n 2, 1) ∧ decode cX0_mile 67 = .ok (.iconst 0, 1) ∧ decode cX0_mile 68 = .ok (.aload_n 0, 1) ∧ decode cX0_mile 69 = .ok (.getfield 32, 3) ∧ decode cX0_mile 72 = .ok (.iload_n 2, 1) ∧ decode cX0_mile 73 = .ok (.iaload, 1) ∧ decode cX0_mile 74 = .ok (.iload 5, 2) := by decide +kernel
theorem dX0_mile_57 : decode cX0_mile 57 = .ok (.iadd, 1) := zd02dec1_43.1
theorem dX0_mile_58 : decode cX0_mile 58 = .ok (.invokestatic 71, 3) := zd02dec1_43.2.1
theorem dX0_mile_61 : decode cX0_mile 61 = .ok (.iastore, 1) := zd02dec1_43.2.2.1
theorem dX0_mile_62 : decode cX0_mile 62 = .ok (.aload_n 0, 1) := zd02dec1_43.2.2.2.1
theorem dX0_mile_63 : decode cX0_mile 63 = .ok (.getfield 32, 3) := zd02dec1_43.2.2.2.2.1
theorem dX0_mile_66 : decode cX0_mile 66 = .ok (.iload_n 2, 1) := zd02dec1_43.2.2.2.2.2.1
theorem dX0_mile_67 : decode cX0_mile 67 = .ok (.iconst 0, 1) := zd02dec1_43.2.2.2.2.2.2.1
theorem dX0_mile_68 : decode cX0_mile 68 = .ok (.aload_n 0, 1) := zd02dec1_43.2.2.2.2.2.2.2.1
theorem dX0_mile_69 : decode cX0_mile 69 = .ok (.getfield 32, 3) := zd02dec1_43.2.2.2.2.2.2.2.2.1
theorem dX0_mile_72 : decode cX0_mile 72 = .ok (.iload_n 2, 1) := zd02dec1_43.2.2.2.2.2.2.2.2.2.1
theorem dX0_mile_73 : decode cX0_mile 73 = .ok (.iaload, 1) := zd02dec1_43.2.2.2.2.2.2.2.2.2.2.1
theorem dX0_mile_74 : decode cX0_mile 74 = .ok (.iload 5, 2) := zd02dec1_43.2.2.2.2.2.2.2.2.2.2.2
theorem zd02dec1_44 : decode cX0_mile 76 = .ok (.isub, 1) ∧ decode cX0_mile 77 = .ok (.invokestatic 77, 3) ∧ decode cX0_mile 80 = .ok (.iastore, 1) ∧ decode cX0_mile 81 = .ok (.aload_n 0, 1) ∧ decode cX0_mile 82 = .ok (.iload_n 1, 1) ∧ decode cX0_mile 83 = .ok (.invokevirtual 94, 3) ∧ decode cX0_mile 86 = .ok (.iload 4, 2) ∧ decode cX0_mile 88 = .ok (.ireturn, 1) := by decide +kernel
theorem dX0_mile_76 : decode cX0_mile 76 = .ok (.isub, 1) := zd02dec1_44.1
theorem dX0_mile_77 : decode cX0_mile 77 = .ok (.invokestatic 77, 3) := zd02dec1_44.2.1
theorem dX0_mile_80 : decode cX0_mile 80 = .ok (.iastore, 1) := zd02dec1_44.2.2.1
theorem dX0_mile_81 : decode cX0_mile 81 = .ok (.aload_n 0, 1) := zd02dec1_44.2.2.2.1
theorem dX0_mile_82 : decode cX0_mile 82 = .ok (.iload_n 1, 1) := zd02dec1_44.2.2.2.2.1
theorem dX0_mile_83 : decode cX0_mile 83 = .ok (.invokevirtual 94, 3) := zd02dec1_44.2.2.2.2.2.1
theorem dX0_mile_86 : decode cX0_mile 86 = .ok (.iload 4, 2) := zd02dec1_44.2.2.2.2.2.2.1
theorem dX0_mile_88 : decode cX0_mile 88 = .ok (.ireturn, 1) := zd02dec1_44.2.2.2.2.2.2.2
theorem zd02dec1_45 : decode cX0_go 0 = .ok (.iconst 0, 1) ∧ decode cX0_go 1 = .ok (.istore 4, 2) ∧ decode cX0_go 3 = .ok (.iconst 0, 1) ∧ decode cX0_go 4 = .ok (.istore 5, 2) ∧ decode cX0_go 6 = .ok (.iload 5, 2) ∧ decode cX0_go 8 = .ok (.iload_n 3, 1) ∧ decode cX0_go 9 = .ok (.if_icmp .ge 21, 3) ∧ decode cX0_go 12 = .ok (.iload 4, 2) ∧ decode cX0_go 14 = .ok (.aload_n 0, 1) ∧ decode cX0_go 15 = .ok (.iload_n 1, 1) ∧ decode cX0_go 16 = .ok (.iload_n 2, 1) ∧ decode cX0_go 17 = .ok (.iconst 0, 1) := by decide +kernel
theorem dX0_go_0 : decode cX0_go 0 = .ok (.iconst 0, 1) := zd02dec1_45.1
theorem dX0_go_1 : decode cX0_go 1 = .ok (.istore 4, 2) := zd02dec1_45.2.1
theorem dX0_go_3 : decode cX0_go 3 = .ok (.iconst 0, 1) := zd02dec1_45.2.2.1
theorem dX0_go_4 : decode cX0_go 4 = .ok (.istore 5, 2) := zd02dec1_45.2.2.2.1
theorem dX0_go_6 : decode cX0_go 6 = .ok (.iload 5, 2) := zd02dec1_45.2.2.2.2.1
theorem dX0_go_8 : decode cX0_go 8 = .ok (.iload_n 3, 1) := zd02dec1_45.2.2.2.2.2.1
theorem dX0_go_9 : decode cX0_go 9 = .ok (.if_icmp .ge 21, 3) := zd02dec1_45.2.2.2.2.2.2.1
theorem dX0_go_12 : decode cX0_go 12 = .ok (.iload 4, 2) := zd02dec1_45.2.2.2.2.2.2.2.1
theorem dX0_go_14 : decode cX0_go 14 = .ok (.aload_n 0, 1) := zd02dec1_45.2.2.2.2.2.2.2.2.1
theorem dX0_go_15 : decode cX0_go 15 = .ok (.iload_n 1, 1) := zd02dec1_45.2.2.2.2.2.2.2.2.2.1
theorem dX0_go_16 : decode cX0_go 16 = .ok (.iload_n 2, 1) := zd02dec1_45.2.2.2.2.2.2.2.2.2.2.1
theorem dX0_go_17 : decode cX0_go 17 = .ok (.iconst 0, 1) := zd02dec1_45.2.2.2.2.2.2.2.2.2.2.2
theorem zd02dec1_46 : decode cX0_go 18 = .ok (.invokevirtual 98, 3) ∧ decode cX0_go 21 = .ok (.iadd, 1) ∧ decode cX0_go 22 = .ok (.istore 4, 2) ∧ decode cX0_go 24 = .ok (.iinc 5 1, 3) ∧ decode cX0_go 27 = .ok (.goto (-21), 3) ∧ decode cX0_go 30 = .ok (.iload 4, 2) ∧ decode cX0_go 32 = .ok (.ireturn, 1) := by decide +kernel
theorem dX0_go_18 : decode cX0_go 18 = .ok (.invokevirtual 98, 3) := zd02dec1_46.1
theorem dX0_go_21 : decode cX0_go 21 = .ok (.iadd, 1) := zd02dec1_46.2.1
theorem dX0_go_22 : decode cX0_go 22 = .ok (.istore 4, 2) := zd02dec1_46.2.2.1
theorem dX0_go_24 : decode cX0_go 24 = .ok (.iinc 5 1, 3) := zd02dec1_46.2.2.2.1
theorem dX0_go_27 : decode cX0_go 27 = .ok (.goto (-21), 3) := zd02dec1_46.2.2.2.2.1
theorem dX0_go_30 : decode cX0_go 30 = .ok (.iload 4, 2) := zd02dec1_46.2.2.2.2.2.1
theorem dX0_go_32 : decode cX0_go 32 = .ok (.ireturn, 1) := zd02dec1_46.2.2.2.2.2.2
theorem zd02dec1_47 : decode cX0_goByLots 0 = .ok (.iload 4, 2) ∧ decode cX0_goByLots 2 = .ok (.bipush 100, 2) ∧ decode cX0_goByLots 4 = .ok (.idiv, 1) ∧ decode cX0_goByLots 5 = .ok (.iconst 1, 1) ∧ decode cX0_goByLots 6 = .ok (.iadd, 1) ∧ decode cX0_goByLots 7 = .ok (.istore 5, 2) ∧ decode cX0_goByLots 9 = .ok (.iconst 0, 1) ∧ decode cX0_goByLots 10 = .ok (.istore 6, 2) ∧ decode cX0_goByLots 12 = .ok (.iload_n 1, 1) ∧ decode cX0_goByLots 13 = .ok (.i2l, 1) ∧ decode cX0_goByLots 14 = .ok (.lconst 1, 1) ∧ decode cX0_goByLots 15 = .ok (.ladd, 1) := by decide +kernel
theorem dX0_goByLots_0 : decode cX0_goByLots 0 = .ok (.iload 4, 2) := zd02dec1_47.1
theorem dX0_goByLots_2 : decode cX0_goByLots 2 = .ok (.bipush 100, 2) := zd02dec1_47.2.1
theorem dX0_goByLots_4 : decode cX0_goByLots 4 = .ok (.idiv, 1) := zd02dec1_47.2.2.1
theorem dX0_goByLots_5 : decode cX0_goByLots 5 = .ok (.iconst 1, 1) := zd02dec1_47.2.2.2.1
theorem dX0_goByLots_6 : decode cX0_goByLots 6 = .ok (.iadd, 1) := zd02dec1_47.2.2.2.2.1
theorem dX0_goByLots_7 : decode cX0_goByLots 7 = .ok (.istore 5, 2) := zd02dec1_47.2.2.2.2.2.1
theorem dX0_goByLots_9 : decode cX0_goByLots 9 = .ok (.iconst 0, 1) := zd02dec1_47.2.2.2.2.2.2.1
theorem dX0_goByLots_10 : decode cX0_goByLots 10 = .ok (.istore 6, 2) := zd02dec1_47.2.2.2.2.2.2.2.1
theorem dX0_goByLots_12 : decode cX0_goByLots 12 = .ok (.iload_n 1, 1) := zd02dec1_47.2.2.2.2.2.2.2.2.1
theorem dX0_goByLots_13 : decode cX0_goByLots 13 = .ok (.i2l, 1) := zd02dec1_47.2.2.2.2.2.2.2.2.2.1
theorem dX0_goByLots_14 : decode cX0_goByLots 14 = .ok (.lconst 1, 1) := zd02dec1_47.2.2.2.2.2.2.2.2.2.2.1
theorem dX0_goByLots_15 : decode cX0_goByLots 15 = .ok (.ladd, 1) := zd02dec1_47.2.2.2.2.2.2.2.2.2.2.2
theorem zd02dec1_48 : decode cX0_goByLots 16 = .ok (.lstore 7, 2) ∧ decode cX0_goByLots 18 = .ok (.iconst 0, 1) ∧ decode cX0_goByLots 19 = .ok (.istore 9, 2) ∧ decode cX0_goByLots 21 = .ok (.iload 9, 2) ∧ decode cX0_goByLots 23 = .ok (.iload 4, 2) ∧ decode cX0_goByLots 25 = .ok (.bipush 100, 2) ∧ decode cX0_goByLots 27 = .ok (.irem, 1) ∧ decode cX0_goByLots 28 = .ok (.if_icmp .ge 39, 3) ∧ decode cX0_goByLots 31 = .ok (.lload 7, 2) ∧ decode cX0_goByLots 33 = .ok (.ldc2_w 101, 3) ∧ decode cX0_goByLots 36 = .ok (.lmul, 1) ∧ decode cX0_goByLots 37 = .ok (.ldc2_w 103, 3) := by decide +kernel
theorem dX0_goByLots_16 : decode cX0_goByLots 16 = .ok (.lstore 7, 2) := zd02dec1_48.1
theorem dX0_goByLots_18 : decode cX0_goByLots 18 = .ok (.iconst 0, 1) := zd02dec1_48.2.1
theorem dX0_goByLots_19 : decode cX0_goByLots 19 = .ok (.istore 9, 2) := zd02dec1_48.2.2.1
theorem dX0_goByLots_21 : decode cX0_goByLots 21 = .ok (.iload 9, 2) := zd02dec1_48.2.2.2.1
theorem dX0_goByLots_23 : decode cX0_goByLots 23 = .ok (.iload 4, 2) := zd02dec1_48.2.2.2.2.1
theorem dX0_goByLots_25 : decode cX0_goByLots 25 = .ok (.bipush 100, 2) := zd02dec1_48.2.2.2.2.2.1
theorem dX0_goByLots_27 : decode cX0_goByLots 27 = .ok (.irem, 1) := zd02dec1_48.2.2.2.2.2.2.1
theorem dX0_goByLots_28 : decode cX0_goByLots 28 = .ok (.if_icmp .ge 39, 3) := zd02dec1_48.2.2.2.2.2.2.2.1
theorem dX0_goByLots_31 : decode cX0_goByLots 31 = .ok (.lload 7, 2) := zd02dec1_48.2.2.2.2.2.2.2.2.1
theorem dX0_goByLots_33 : decode cX0_goByLots 33 = .ok (.ldc2_w 101, 3) := zd02dec1_48.2.2.2.2.2.2.2.2.2.1
theorem dX0_goByLots_36 : decode cX0_goByLots 36 = .ok (.lmul, 1) := zd02dec1_48.2.2.2.2.2.2.2.2.2.2.1
theorem dX0_goByLots_37 : decode cX0_goByLots 37 = .ok (.ldc2_w 103, 3) := zd02dec1_48.2.2.2.2.2.2.2.2.2.2.2
theorem zd02dec1_49 : decode cX0_goByLots 40 = .ok (.lrem, 1) ∧ decode cX0_goByLots 41 = .ok (.lstore 7, 2) ∧ decode cX0_goByLots 43 = .ok (.iload 6, 2) ∧ decode cX0_goByLots 45 = .ok (.aload_n 0, 1) ∧ decode cX0_goByLots 46 = .ok (.iload_n 2, 1) ∧ decode cX0_goByLots 47 = .ok (.iload_n 3, 1) ∧ decode cX0_goByLots 48 = .ok (.lload 7, 2) ∧ decode cX0_goByLots 50 = .ok (.iload 5, 2) ∧ decode cX0_goByLots 52 = .ok (.i2l, 1) ∧ decode cX0_goByLots 53 = .ok (.lrem, 1) ∧ decode cX0_goByLots 54 = .ok (.l2i, 1) ∧ decode cX0_goByLots 55 = .ok (.invokevirtual 98, 3) := by decide +kernel
theorem dX0_goByLots_40 : decode cX0_goByLots 40 = .ok (.lrem, 1) := zd02dec1_49.1
theorem dX0_goByLots_41 : decode cX0_goByLots 41 = .ok (.lstore 7, 2) := zd02dec1_49.2.1
theorem dX0_goByLots_43 : decode cX0_goByLots 43 = .ok (.iload 6, 2) := zd02dec1_49.2.2.1
theorem dX0_goByLots_45 : decode cX0_goByLots 45 = .ok (.aload_n 0, 1) := zd02dec1_49.2.2.2.1
theorem dX0_goByLots_46 : decode cX0_goByLots 46 = .ok (.iload_n 2, 1) := zd02dec1_49.2.2.2.2.1
theorem dX0_goByLots_47 : decode cX0_goByLots 47 = .ok (.iload_n 3, 1) := zd02dec1_49.2.2.2.2.2.1
theorem dX0_goByLots_48 : decode cX0_goByLots 48 = .ok (.lload 7, 2) := zd02dec1_49.2.2.2.2.2.2.1
theorem dX0_goByLots_50 : decode cX0_goByLots 50 = .ok (.iload 5, 2) := zd02dec1_49.2.2.2.2.2.2.2.1
theorem dX0_goByLots_52 : decode cX0_goByLots 52 = .ok (.i2l, 1) := zd02dec1_49.2.2.2.2.2.2.2.2.1
theorem dX0_goByLots_53 : decode cX0_goByLots 53 = .ok (.lrem, 1) := zd02dec1_49.2.2.2.2.2.2.2.2.2.1
theorem dX0_goByLots_54 : decode cX0_goByLots 54 = .ok (.l2i, 1) := zd02dec1_49.2.2.2.2.2.2.2.2.2.2.1
theorem dX0_goByLots_55 : decode cX0_goByLots 55 = .ok (.invokevirtual 98, 3) := zd02dec1_49.2.2.2.2.2.2.2.2.2.2.2
theorem zd02dec1_50 : decode cX0_goByLots 58 = .ok (.iadd, 1) ∧ decode cX0_goByLots 59 = .ok (.istore 6, 2) ∧ decode cX0_goByLots 61 = .ok (.iinc 9 1, 3) ∧ decode cX0_goByLots 64 = .ok (.goto (-43), 3) ∧ decode cX0_goByLots 67 = .ok (.iload 6, 2) ∧ decode cX0_goByLots 69 = .ok (.ireturn, 1) := by decide +kernel
theorem dX0_goByLots_58 : decode cX0_goByLots 58 = .ok (.iadd, 1) := zd02dec1_50.1
theorem dX0_goByLots_59 : decode cX0_goByLots 59 = .ok (.istore 6, 2) := zd02dec1_50.2.1
theorem dX0_goByLots_61 : decode cX0_goByLots 61 = .ok (.iinc 9 1, 3) := zd02dec1_50.2.2.1
theorem dX0_goByLots_64 : decode cX0_goByLots 64 = .ok (.goto (-43), 3) := zd02dec1_50.2.2.2.1
theorem dX0_goByLots_67 : decode cX0_goByLots 67 = .ok (.iload 6, 2) := zd02dec1_50.2.2.2.2.1
theorem dX0_goByLots_69 : decode cX0_goByLots 69 = .ok (.ireturn, 1) := zd02dec1_50.2.2.2.2.2
theorem zd02dec1_51 : decode cX0_verdict 0 = .ok (.iload_n 3, 1) ∧ decode cX0_verdict 1 = .ok (.aload_n 0, 1) ∧ decode cX0_verdict 2 = .ok (.iconst 2, 1) ∧ decode cX0_verdict 3 = .ok (.iload_n 1, 1) ∧ decode cX0_verdict 4 = .ok (.iload_n 2, 1) ∧ decode cX0_verdict 5 = .ok (.invokevirtual 83, 3) ∧ decode cX0_verdict 8 = .ok (.if_icmp .lt 7, 3) ∧ decode cX0_verdict 11 = .ok (.iconst 1, 1) ∧ decode cX0_verdict 12 = .ok (.goto 4, 3) ∧ decode cX0_verdict 15 = .ok (.iconst 0, 1) ∧ decode cX0_verdict 16 = .ok (.ireturn, 1) := by decide +kernel
theorem dX0_verdict_0 : decode cX0_verdict 0 = .ok (.iload_n 3, 1) := zd02dec1_51.1
theorem dX0_verdict_1 : decode cX0_verdict 1 = .ok (.aload_n 0, 1) := zd02dec1_51.2.1
theorem dX0_verdict_2 : decode cX0_verdict 2 = .ok (.iconst 2, 1) := zd02dec1_51.2.2.1
theorem dX0_verdict_3 : decode cX0_verdict 3 = .ok (.iload_n 1, 1) := zd02dec1_51.2.2.2.1
theorem dX0_verdict_4 : decode cX0_verdict 4 = .ok (.iload_n 2, 1) := zd02dec1_51.2.2.2.2.1
theorem dX0_verdict_5 : decode cX0_verdict 5 = .ok (.invokevirtual 83, 3) := zd02dec1_51.2.2.2.2.2.1
theorem dX0_verdict_8 : decode cX0_verdict 8 = .ok (.if_icmp .lt 7, 3) := zd02dec1_51.2.2.2.2.2.2.1
theorem dX0_verdict_11 : decode cX0_verdict 11 = .ok (.iconst 1, 1) := zd02dec1_51.2.2.2.2.2.2.2.1
theorem dX0_verdict_12 : decode cX0_verdict 12 = .ok (.goto 4, 3) := zd02dec1_51.2.2.2.2.2.2.2.2.1
theorem dX0_verdict_15 : decode cX0_verdict 15 = .ok (.iconst 0, 1) := zd02dec1_51.2.2.2.2.2.2.2.2.2.1
theorem dX0_verdict_16 : decode cX0_verdict 16 = .ok (.ireturn, 1) := zd02dec1_51.2.2.2.2.2.2.2.2.2.2
theorem zd02dec1_52 : decode cX1_init 0 = .ok (.aload_n 0, 1) ∧ decode cX1_init 1 = .ok (.invokespecial 3, 3) ∧ decode cX1_init 4 = .ok (.aload_n 0, 1) ∧ decode cX1_init 5 = .ok (.sipush 160, 3) ∧ decode cX1_init 8 = .ok (.newarray .int, 2) ∧ decode cX1_init 10 = .ok (.putfield 9, 3) ∧ decode cX1_init 13 = .ok (.aload_n 0, 1) ∧ decode cX1_init 14 = .ok (.aload_n 1, 1) ∧ decode cX1_init 15 = .ok (.putfield 15, 3) ∧ decode cX1_init 18 = .ok (.return_, 1) := by decide +kernel
theorem dX1_init_0 : decode cX1_init 0 = .ok (.aload_n 0, 1) := zd02dec1_52.1
theorem dX1_init_1 : decode cX1_init 1 = .ok (.invokespecial 3, 3) := zd02dec1_52.2.1
theorem dX1_init_4 : decode cX1_init 4 = .ok (.aload_n 0, 1) := zd02dec1_52.2.2.1
theorem dX1_init_5 : decode cX1_init 5 = .ok (.sipush 160, 3) := zd02dec1_52.2.2.2.1
theorem dX1_init_8 : decode cX1_init 8 = .ok (.newarray .int, 2) := zd02dec1_52.2.2.2.2.1
theorem dX1_init_10 : decode cX1_init 10 = .ok (.putfield 9, 3) := zd02dec1_52.2.2.2.2.2.1
theorem dX1_init_13 : decode cX1_init 13 = .ok (.aload_n 0, 1) := zd02dec1_52.2.2.2.2.2.2.1
theorem dX1_init_14 : decode cX1_init 14 = .ok (.aload_n 1, 1) := zd02dec1_52.2.2.2.2.2.2.2.1
theorem dX1_init_15 : decode cX1_init 15 = .ok (.putfield 15, 3) := zd02dec1_52.2.2.2.2.2.2.2.2.1
theorem dX1_init_18 : decode cX1_init 18 = .ok (.return_, 1) := zd02dec1_52.2.2.2.2.2.2.2.2.2
theorem zd02dec1_53 : decode cX1_add 0 = .ok (.aload_n 0, 1) ∧ decode cX1_add 1 = .ok (.getfield 19, 3) ∧ decode cX1_add 4 = .ok (.sipush 160, 3) ∧ decode cX1_add 7 = .ok (.if_icmp .ge 23, 3) ∧ decode cX1_add 10 = .ok (.aload_n 0, 1) ∧ decode cX1_add 11 = .ok (.getfield 9, 3) ∧ decode cX1_add 14 = .ok (.aload_n 0, 1) ∧ decode cX1_add 15 = .ok (.getfield 19, 3) ∧ decode cX1_add 18 = .ok (.iload_n 1, 1) ∧ decode cX1_add 19 = .ok (.iastore, 1) ∧ decode cX1_add 20 = .ok (.aload_n 0, 1) ∧ decode cX1_add 21 = .ok (.dup, 1) := by decide +kernel
theorem dX1_add_0 : decode cX1_add 0 = .ok (.aload_n 0, 1) := zd02dec1_53.1
theorem dX1_add_1 : decode cX1_add 1 = .ok (.getfield 19, 3) := zd02dec1_53.2.1
theorem dX1_add_4 : decode cX1_add 4 = .ok (.sipush 160, 3) := zd02dec1_53.2.2.1
theorem dX1_add_7 : decode cX1_add 7 = .ok (.if_icmp .ge 23, 3) := zd02dec1_53.2.2.2.1
theorem dX1_add_10 : decode cX1_add 10 = .ok (.aload_n 0, 1) := zd02dec1_53.2.2.2.2.1
theorem dX1_add_11 : decode cX1_add 11 = .ok (.getfield 9, 3) := zd02dec1_53.2.2.2.2.2.1
theorem dX1_add_14 : decode cX1_add 14 = .ok (.aload_n 0, 1) := zd02dec1_53.2.2.2.2.2.2.1
theorem dX1_add_15 : decode cX1_add 15 = .ok (.getfield 19, 3) := zd02dec1_53.2.2.2.2.2.2.2.1
theorem dX1_add_18 : decode cX1_add 18 = .ok (.iload_n 1, 1) := zd02dec1_53.2.2.2.2.2.2.2.2.1
theorem dX1_add_19 : decode cX1_add 19 = .ok (.iastore, 1) := zd02dec1_53.2.2.2.2.2.2.2.2.2.1
theorem dX1_add_20 : decode cX1_add 20 = .ok (.aload_n 0, 1) := zd02dec1_53.2.2.2.2.2.2.2.2.2.2.1
theorem dX1_add_21 : decode cX1_add 21 = .ok (.dup, 1) := zd02dec1_53.2.2.2.2.2.2.2.2.2.2.2
theorem zd02dec1_54 : decode cX1_add 22 = .ok (.getfield 19, 3) ∧ decode cX1_add 25 = .ok (.iconst 1, 1) ∧ decode cX1_add 26 = .ok (.iadd, 1) ∧ decode cX1_add 27 = .ok (.putfield 19, 3) ∧ decode cX1_add 30 = .ok (.return_, 1) := by decide +kernel
theorem dX1_add_22 : decode cX1_add 22 = .ok (.getfield 19, 3) := zd02dec1_54.1
theorem dX1_add_25 : decode cX1_add 25 = .ok (.iconst 1, 1) := zd02dec1_54.2.1
theorem dX1_add_26 : decode cX1_add 26 = .ok (.iadd, 1) := zd02dec1_54.2.2.1
theorem dX1_add_27 : decode cX1_add 27 = .ok (.putfield 19, 3) := zd02dec1_54.2.2.2.1
theorem dX1_add_30 : decode cX1_add 30 = .ok (.return_, 1) := zd02dec1_54.2.2.2.2
theorem zd02dec1_55 : decode cX1_read 0 = .ok (.aload_n 0, 1) ∧ decode cX1_read 1 = .ok (.iconst 0, 1) ∧ decode cX1_read 2 = .ok (.putfield 23, 3) ∧ decode cX1_read 5 = .ok (.aload_n 0, 1) ∧ decode cX1_read 6 = .ok (.getfield 15, 3) ∧ decode cX1_read 9 = .ok (.invokevirtual 26, 3) ∧ decode cX1_read 12 = .ok (.aload_n 0, 1) ∧ decode cX1_read 13 = .ok (.invokevirtual 31, 3) ∧ decode cX1_read 16 = .ok (.istore_n 1, 1) ∧ decode cX1_read 17 = .ok (.aload_n 0, 1) ∧ decode cX1_read 18 = .ok (.iconst 0, 1) ∧ decode cX1_read 19 = .ok (.putfield 19, 3) := by decide +kernel
theorem dX1_read_0 : decode cX1_read 0 = .ok (.aload_n 0, 1) := zd02dec1_55.1
theorem dX1_read_1 : decode cX1_read 1 = .ok (.iconst 0, 1) := zd02dec1_55.2.1
theorem dX1_read_2 : decode cX1_read 2 = .ok (.putfield 23, 3) := zd02dec1_55.2.2.1
theorem dX1_read_5 : decode cX1_read 5 = .ok (.aload_n 0, 1) := zd02dec1_55.2.2.2.1
theorem dX1_read_6 : decode cX1_read 6 = .ok (.getfield 15, 3) := zd02dec1_55.2.2.2.2.1
theorem dX1_read_9 : decode cX1_read 9 = .ok (.invokevirtual 26, 3) := zd02dec1_55.2.2.2.2.2.1
theorem dX1_read_12 : decode cX1_read 12 = .ok (.aload_n 0, 1) := zd02dec1_55.2.2.2.2.2.2.1
theorem dX1_read_13 : decode cX1_read 13 = .ok (.invokevirtual 31, 3) := zd02dec1_55.2.2.2.2.2.2.2.1
theorem dX1_read_16 : decode cX1_read 16 = .ok (.istore_n 1, 1) := zd02dec1_55.2.2.2.2.2.2.2.2.1
theorem dX1_read_17 : decode cX1_read 17 = .ok (.aload_n 0, 1) := zd02dec1_55.2.2.2.2.2.2.2.2.2.1
theorem dX1_read_18 : decode cX1_read 18 = .ok (.iconst 0, 1) := zd02dec1_55.2.2.2.2.2.2.2.2.2.2.1
theorem dX1_read_19 : decode cX1_read 19 = .ok (.putfield 19, 3) := zd02dec1_55.2.2.2.2.2.2.2.2.2.2.2
theorem zd02dec1_56 : decode cX1_read 22 = .ok (.iload_n 1, 1) ∧ decode cX1_read 23 = .ok (.ifCond .eq 13, 3) ∧ decode cX1_read 26 = .ok (.aload_n 0, 1) ∧ decode cX1_read 27 = .ok (.getfield 15, 3) ∧ decode cX1_read 30 = .ok (.invokevirtual 35, 3) ∧ decode cX1_read 33 = .ok (.goto 10, 3) ∧ decode cX1_read 36 = .ok (.bipush (-100), 2) ∧ decode cX1_read 38 = .ok (.aload_n 0, 1) ∧ decode cX1_read 39 = .ok (.getfield 39, 3) ∧ decode cX1_read 42 = .ok (.isub, 1) ∧ decode cX1_read 43 = .ok (.ireturn, 1) := by decide +kernel
theorem dX1_read_22 : decode cX1_read 22 = .ok (.iload_n 1, 1) := zd02dec1_56.1
theorem dX1_read_23 : decode cX1_read 23 = .ok (.ifCond .eq 13, 3) := zd02dec1_56.2.1
theorem dX1_read_26 : decode cX1_read 26 = .ok (.aload_n 0, 1) := zd02dec1_56.2.2.1
theorem dX1_read_27 : decode cX1_read 27 = .ok (.getfield 15, 3) := zd02dec1_56.2.2.2.1
theorem dX1_read_30 : decode cX1_read 30 = .ok (.invokevirtual 35, 3) := zd02dec1_56.2.2.2.2.1
theorem dX1_read_33 : decode cX1_read 33 = .ok (.goto 10, 3) := zd02dec1_56.2.2.2.2.2.1
theorem dX1_read_36 : decode cX1_read 36 = .ok (.bipush (-100), 2) := zd02dec1_56.2.2.2.2.2.2.1
theorem dX1_read_38 : decode cX1_read 38 = .ok (.aload_n 0, 1) := zd02dec1_56.2.2.2.2.2.2.2.1
theorem dX1_read_39 : decode cX1_read 39 = .ok (.getfield 39, 3) := zd02dec1_56.2.2.2.2.2.2.2.2.1
theorem dX1_read_42 : decode cX1_read 42 = .ok (.isub, 1) := zd02dec1_56.2.2.2.2.2.2.2.2.2.1
theorem dX1_read_43 : decode cX1_read 43 = .ok (.ireturn, 1) := zd02dec1_56.2.2.2.2.2.2.2.2.2.2
theorem zd02dec1_57 : decode cX1_readParts 0 = .ok (.aload_n 0, 1) ∧ decode cX1_readParts 1 = .ok (.invokevirtual 42, 3) ∧ decode cX1_readParts 4 = .ok (.iconst 0, 1) ∧ decode cX1_readParts 5 = .ok (.istore_n 1, 1) ∧ decode cX1_readParts 6 = .ok (.iload_n 1, 1) ∧ decode cX1_readParts 7 = .ok (.iconst 2, 1) ∧ decode cX1_readParts 8 = .ok (.if_icmp .gt 57, 3) ∧ decode cX1_readParts 11 = .ok (.aload_n 0, 1) ∧ decode cX1_readParts 12 = .ok (.getfield 45, 3) ∧ decode cX1_readParts 15 = .ok (.bipush 100, 2) ∧ decode cX1_readParts 17 = .ok (.iload_n 1, 1) ∧ decode cX1_readParts 18 = .ok (.iadd, 1) := by decide +kernel
theorem dX1_readParts_0 : decode cX1_readParts 0 = .ok (.aload_n 0, 1) := zd02dec1_57.1
theorem dX1_readParts_1 : decode cX1_readParts 1 = .ok (.invokevirtual 42, 3) := zd02dec1_57.2.1
theorem dX1_readParts_4 : decode cX1_readParts 4 = .ok (.iconst 0, 1) := zd02dec1_57.2.2.1
theorem dX1_readParts_5 : decode cX1_readParts 5 = .ok (.istore_n 1, 1) := zd02dec1_57.2.2.2.1
theorem dX1_readParts_6 : decode cX1_readParts 6 = .ok (.iload_n 1, 1) := zd02dec1_57.2.2.2.2.1
theorem dX1_readParts_7 : decode cX1_readParts 7 = .ok (.iconst 2, 1) := zd02dec1_57.2.2.2.2.2.1
theorem dX1_readParts_8 : decode cX1_readParts 8 = .ok (.if_icmp .gt 57, 3) := zd02dec1_57.2.2.2.2.2.2.1
theorem dX1_readParts_11 : decode cX1_readParts 11 = .ok (.aload_n 0, 1) := zd02dec1_57.2.2.2.2.2.2.2.1
theorem dX1_readParts_12 : decode cX1_readParts 12 = .ok (.getfield 45, 3) := zd02dec1_57.2.2.2.2.2.2.2.2.1
theorem dX1_readParts_15 : decode cX1_readParts 15 = .ok (.bipush 100, 2) := zd02dec1_57.2.2.2.2.2.2.2.2.2.1
theorem dX1_readParts_17 : decode cX1_readParts 17 = .ok (.iload_n 1, 1) := zd02dec1_57.2.2.2.2.2.2.2.2.2.2.1
theorem dX1_readParts_18 : decode cX1_readParts 18 = .ok (.iadd, 1) := zd02dec1_57.2.2.2.2.2.2.2.2.2.2.2
theorem zd02dec1_58 : decode cX1_readParts 19 = .ok (.if_icmp .eq 5, 3) ∧ decode cX1_readParts 22 = .ok (.iconst 0, 1) ∧ decode cX1_readParts 23 = .ok (.ireturn, 1) ∧ decode cX1_readParts 24 = .ok (.aload_n 0, 1) ∧ decode cX1_readParts 25 = .ok (.invokevirtual 42, 3) ∧ decode cX1_readParts 28 = .ok (.aload_n 0, 1) ∧ decode cX1_readParts 29 = .ok (.iconst 0, 1) ∧ decode cX1_readParts 30 = .ok (.invokevirtual 48, 3) ∧ decode cX1_readParts 33 = .ok (.ifCond .eq 12, 3) ∧ decode cX1_readParts 36 = .ok (.aload_n 0, 1) ∧ decode cX1_readParts 37 = .ok (.getfield 45, 3) ∧ decode cX1_readParts 40 = .ok (.bipush 59, 2) := by decide +kernel
theorem dX1_readParts_19 : decode cX1_readParts 19 = .ok (.if_icmp .eq 5, 3) := zd02dec1_58.1
theorem dX1_readParts_22 : decode cX1_readParts 22 = .ok (.iconst 0, 1) := zd02dec1_58.2.1
theorem dX1_readParts_23 : decode cX1_readParts 23 = .ok (.ireturn, 1) := zd02dec1_58.2.2.1
theorem dX1_readParts_24 : decode cX1_readParts 24 = .ok (.aload_n 0, 1) := zd02dec1_58.2.2.2.1
theorem dX1_readParts_25 : decode cX1_readParts 25 = .ok (.invokevirtual 42, 3) := zd02dec1_58.2.2.2.2.1
theorem dX1_readParts_28 : decode cX1_readParts 28 = .ok (.aload_n 0, 1) := zd02dec1_58.2.2.2.2.2.1
theorem dX1_readParts_29 : decode cX1_readParts 29 = .ok (.iconst 0, 1) := zd02dec1_58.2.2.2.2.2.2.1
theorem dX1_readParts_30 : decode cX1_readParts 30 = .ok (.invokevirtual 48, 3) := zd02dec1_58.2.2.2.2.2.2.2.1
theorem dX1_readParts_33 : decode cX1_readParts 33 = .ok (.ifCond .eq 12, 3) := zd02dec1_58.2.2.2.2.2.2.2.2.1
theorem dX1_readParts_36 : decode cX1_readParts 36 = .ok (.aload_n 0, 1) := zd02dec1_58.2.2.2.2.2.2.2.2.2.1
theorem dX1_readParts_37 : decode cX1_readParts 37 = .ok (.getfield 45, 3) := zd02dec1_58.2.2.2.2.2.2.2.2.2.2.1
theorem dX1_readParts_40 : decode cX1_readParts 40 = .ok (.bipush 59, 2) := zd02dec1_58.2.2.2.2.2.2.2.2.2.2.2
theorem zd02dec1_59 : decode cX1_readParts 42 = .ok (.if_icmp .eq 5, 3) ∧ decode cX1_readParts 45 = .ok (.iconst 0, 1) ∧ decode cX1_readParts 46 = .ok (.ireturn, 1) ∧ decode cX1_readParts 47 = .ok (.aload_n 0, 1) ∧ decode cX1_readParts 48 = .ok (.getfield 15, 3) ∧ decode cX1_readParts 51 = .ok (.iload_n 1, 1) ∧ decode cX1_readParts 52 = .ok (.invokevirtual 52, 3) ∧ decode cX1_readParts 55 = .ok (.aload_n 0, 1) ∧ decode cX1_readParts 56 = .ok (.invokevirtual 42, 3) ∧ decode cX1_readParts 59 = .ok (.iinc 1 1, 3) ∧ decode cX1_readParts 62 = .ok (.goto (-56), 3) ∧ decode cX1_readParts 65 = .ok (.aload_n 0, 1) := by decide +kernel
theorem dX1_readParts_42 : decode cX1_readParts 42 = .ok (.if_icmp .eq 5, 3) := zd02dec1_59.1
theorem dX1_readParts_45 : decode cX1_readParts 45 = .ok (.iconst 0, 1) := zd02dec1_59.2.1
theorem dX1_readParts_46 : decode cX1_readParts 46 = .ok (.ireturn, 1) := zd02dec1_59.2.2.1
theorem dX1_readParts_47 : decode cX1_readParts 47 = .ok (.aload_n 0, 1) := zd02dec1_59.2.2.2.1
theorem dX1_readParts_48 : decode cX1_readParts 48 = .ok (.getfield 15, 3) := zd02dec1_59.2.2.2.2.1
theorem dX1_readParts_51 : decode cX1_readParts 51 = .ok (.iload_n 1, 1) := zd02dec1_59.2.2.2.2.2.1
theorem dX1_readParts_52 : decode cX1_readParts 52 = .ok (.invokevirtual 52, 3) := zd02dec1_59.2.2.2.2.2.2.1
theorem dX1_readParts_55 : decode cX1_readParts 55 = .ok (.aload_n 0, 1) := zd02dec1_59.2.2.2.2.2.2.2.1
theorem dX1_readParts_56 : decode cX1_readParts 56 = .ok (.invokevirtual 42, 3) := zd02dec1_59.2.2.2.2.2.2.2.2.1
theorem dX1_readParts_59 : decode cX1_readParts 59 = .ok (.iinc 1 1, 3) := zd02dec1_59.2.2.2.2.2.2.2.2.2.1
theorem dX1_readParts_62 : decode cX1_readParts 62 = .ok (.goto (-56), 3) := zd02dec1_59.2.2.2.2.2.2.2.2.2.2.1
theorem dX1_readParts_65 : decode cX1_readParts 65 = .ok (.aload_n 0, 1) := zd02dec1_59.2.2.2.2.2.2.2.2.2.2.2
theorem zd02dec1_60 : decode cX1_readParts 66 = .ok (.getfield 45, 3) ∧ decode cX1_readParts 69 = .ok (.ifCond .ne 7, 3) ∧ decode cX1_readParts 72 = .ok (.iconst 1, 1) ∧ decode cX1_readParts 73 = .ok (.goto 4, 3) ∧ decode cX1_readParts 76 = .ok (.iconst 0, 1) ∧ decode cX1_readParts 77 = .ok (.ireturn, 1) := by decide +kernel
theorem dX1_readParts_66 : decode cX1_readParts 66 = .ok (.getfield 45, 3) := zd02dec1_60.1
theorem dX1_readParts_69 : decode cX1_readParts 69 = .ok (.ifCond .ne 7, 3) := zd02dec1_60.2.1
theorem dX1_readParts_72 : decode cX1_readParts 72 = .ok (.iconst 1, 1) := zd02dec1_60.2.2.1
theorem dX1_readParts_73 : decode cX1_readParts 73 = .ok (.goto 4, 3) := zd02dec1_60.2.2.2.1
theorem dX1_readParts_76 : decode cX1_readParts 76 = .ok (.iconst 0, 1) := zd02dec1_60.2.2.2.2.1
theorem dX1_readParts_77 : decode cX1_readParts 77 = .ok (.ireturn, 1) := zd02dec1_60.2.2.2.2.2
theorem zd02dec1_61 : decode cX1_readOr 0 = .ok (.aload_n 0, 1) ∧ decode cX1_readOr 1 = .ok (.iload_n 1, 1) ∧ decode cX1_readOr 2 = .ok (.invokevirtual 56, 3) ∧ decode cX1_readOr 5 = .ok (.ifCond .ne 5, 3) ∧ decode cX1_readOr 8 = .ok (.iconst 0, 1) ∧ decode cX1_readOr 9 = .ok (.ireturn, 1) ∧ decode cX1_readOr 10 = .ok (.iconst 0, 1) ∧ decode cX1_readOr 11 = .ok (.istore_n 2, 1) ∧ decode cX1_readOr 12 = .ok (.iload_n 2, 1) ∧ decode cX1_readOr 13 = .ok (.sipush 160, 3) ∧ decode cX1_readOr 16 = .ok (.if_icmp .ge 42, 3) ∧ decode cX1_readOr 19 = .ok (.aload_n 0, 1) := by decide +kernel
theorem dX1_readOr_0 : decode cX1_readOr 0 = .ok (.aload_n 0, 1) := zd02dec1_61.1
theorem dX1_readOr_1 : decode cX1_readOr 1 = .ok (.iload_n 1, 1) := zd02dec1_61.2.1
theorem dX1_readOr_2 : decode cX1_readOr 2 = .ok (.invokevirtual 56, 3) := zd02dec1_61.2.2.1
theorem dX1_readOr_5 : decode cX1_readOr 5 = .ok (.ifCond .ne 5, 3) := zd02dec1_61.2.2.2.1
theorem dX1_readOr_8 : decode cX1_readOr 8 = .ok (.iconst 0, 1) := zd02dec1_61.2.2.2.2.1
theorem dX1_readOr_9 : decode cX1_readOr 9 = .ok (.ireturn, 1) := zd02dec1_61.2.2.2.2.2.1
theorem dX1_readOr_10 : decode cX1_readOr 10 = .ok (.iconst 0, 1) := zd02dec1_61.2.2.2.2.2.2.1
theorem dX1_readOr_11 : decode cX1_readOr 11 = .ok (.istore_n 2, 1) := zd02dec1_61.2.2.2.2.2.2.2.1
theorem dX1_readOr_12 : decode cX1_readOr 12 = .ok (.iload_n 2, 1) := zd02dec1_61.2.2.2.2.2.2.2.2.1
theorem dX1_readOr_13 : decode cX1_readOr 13 = .ok (.sipush 160, 3) := zd02dec1_61.2.2.2.2.2.2.2.2.2.1
theorem dX1_readOr_16 : decode cX1_readOr 16 = .ok (.if_icmp .ge 42, 3) := zd02dec1_61.2.2.2.2.2.2.2.2.2.2.1
theorem dX1_readOr_19 : decode cX1_readOr 19 = .ok (.aload_n 0, 1) := zd02dec1_61.2.2.2.2.2.2.2.2.2.2.2
theorem zd02dec1_62 : decode cX1_readOr 20 = .ok (.getfield 45, 3) ∧ decode cX1_readOr 23 = .ok (.bipush 103, 2) ∧ decode cX1_readOr 25 = .ok (.if_icmp .ne 33, 3) ∧ decode cX1_readOr 28 = .ok (.aload_n 0, 1) ∧ decode cX1_readOr 29 = .ok (.invokevirtual 42, 3) ∧ decode cX1_readOr 32 = .ok (.aload_n 0, 1) ∧ decode cX1_readOr 33 = .ok (.iload_n 1, 1) ∧ decode cX1_readOr 34 = .ok (.invokevirtual 56, 3) ∧ decode cX1_readOr 37 = .ok (.ifCond .ne 5, 3) ∧ decode cX1_readOr 40 = .ok (.iconst 0, 1) ∧ decode cX1_readOr 41 = .ok (.ireturn, 1) ∧ decode cX1_readOr 42 = .ok (.aload_n 0, 1) := by decide +kernel
theorem dX1_readOr_20 : decode cX1_readOr 20 = .ok (.getfield 45, 3) := zd02dec1_62.1
theorem dX1_readOr_23 : decode cX1_readOr 23 = .ok (.bipush 103, 2) := zd02dec1_62.2.1
theorem dX1_readOr_25 : decode cX1_readOr 25 = .ok (.if_icmp .ne 33, 3) := zd02dec1_62.2.2.1
theorem dX1_readOr_28 : decode cX1_readOr 28 = .ok (.aload_n 0, 1) := zd02dec1_62.2.2.2.1
theorem dX1_readOr_29 : decode cX1_readOr 29 = .ok (.invokevirtual 42, 3) := zd02dec1_62.2.2.2.2.1
theorem dX1_readOr_32 : decode cX1_readOr 32 = .ok (.aload_n 0, 1) := zd02dec1_62.2.2.2.2.2.1
theorem dX1_readOr_33 : decode cX1_readOr 33 = .ok (.iload_n 1, 1) := zd02dec1_62.2.2.2.2.2.2.1
theorem dX1_readOr_34 : decode cX1_readOr 34 = .ok (.invokevirtual 56, 3) := zd02dec1_62.2.2.2.2.2.2.2.1
theorem dX1_readOr_37 : decode cX1_readOr 37 = .ok (.ifCond .ne 5, 3) := zd02dec1_62.2.2.2.2.2.2.2.2.1
theorem dX1_readOr_40 : decode cX1_readOr 40 = .ok (.iconst 0, 1) := zd02dec1_62.2.2.2.2.2.2.2.2.2.1
theorem dX1_readOr_41 : decode cX1_readOr 41 = .ok (.ireturn, 1) := zd02dec1_62.2.2.2.2.2.2.2.2.2.2.1
theorem dX1_readOr_42 : decode cX1_readOr 42 = .ok (.aload_n 0, 1) := zd02dec1_62.2.2.2.2.2.2.2.2.2.2.2
theorem zd02dec1_63 : decode cX1_readOr 43 = .ok (.getfield 15, 3) ∧ decode cX1_readOr 46 = .ok (.sipush 20103, 3) ∧ decode cX1_readOr 49 = .ok (.invokevirtual 59, 3) ∧ decode cX1_readOr 52 = .ok (.iinc 2 1, 3) ∧ decode cX1_readOr 55 = .ok (.goto (-43), 3) ∧ decode cX1_readOr 58 = .ok (.iconst 1, 1) ∧ decode cX1_readOr 59 = .ok (.ireturn, 1) := by decide +kernel
theorem dX1_readOr_43 : decode cX1_readOr 43 = .ok (.getfield 15, 3) := zd02dec1_63.1
theorem dX1_readOr_46 : decode cX1_readOr 46 = .ok (.sipush 20103, 3) := zd02dec1_63.2.1
theorem dX1_readOr_49 : decode cX1_readOr 49 = .ok (.invokevirtual 59, 3) := zd02dec1_63.2.2.1
theorem dX1_readOr_52 : decode cX1_readOr 52 = .ok (.iinc 2 1, 3) := zd02dec1_63.2.2.2.1
theorem dX1_readOr_55 : decode cX1_readOr 55 = .ok (.goto (-43), 3) := zd02dec1_63.2.2.2.2.1
theorem dX1_readOr_58 : decode cX1_readOr 58 = .ok (.iconst 1, 1) := zd02dec1_63.2.2.2.2.2.1
theorem dX1_readOr_59 : decode cX1_readOr 59 = .ok (.ireturn, 1) := zd02dec1_63.2.2.2.2.2.2
theorem zd02dec1_64 : decode cX1_readAnd 0 = .ok (.aload_n 0, 1) ∧ decode cX1_readAnd 1 = .ok (.iload_n 1, 1) ∧ decode cX1_readAnd 2 = .ok (.invokevirtual 62, 3) ∧ decode cX1_readAnd 5 = .ok (.ifCond .ne 5, 3) ∧ decode cX1_readAnd 8 = .ok (.iconst 0, 1) ∧ decode cX1_readAnd 9 = .ok (.ireturn, 1) ∧ decode cX1_readAnd 10 = .ok (.iconst 0, 1) ∧ decode cX1_readAnd 11 = .ok (.istore_n 2, 1) ∧ decode cX1_readAnd 12 = .ok (.iload_n 2, 1) ∧ decode cX1_readAnd 13 = .ok (.sipush 160, 3) ∧ decode cX1_readAnd 16 = .ok (.if_icmp .ge 42, 3) ∧ decode cX1_readAnd 19 = .ok (.aload_n 0, 1) := by decide +kernel
theorem dX1_readAnd_0 : decode cX1_readAnd 0 = .ok (.aload_n 0, 1) := zd02dec1_64.1
theorem dX1_readAnd_1 : decode cX1_readAnd 1 = .ok (.iload_n 1, 1) := zd02dec1_64.2.1
theorem dX1_readAnd_2 : decode cX1_readAnd 2 = .ok (.invokevirtual 62, 3) := zd02dec1_64.2.2.1
theorem dX1_readAnd_5 : decode cX1_readAnd 5 = .ok (.ifCond .ne 5, 3) := zd02dec1_64.2.2.2.1
theorem dX1_readAnd_8 : decode cX1_readAnd 8 = .ok (.iconst 0, 1) := zd02dec1_64.2.2.2.2.1
theorem dX1_readAnd_9 : decode cX1_readAnd 9 = .ok (.ireturn, 1) := zd02dec1_64.2.2.2.2.2.1
theorem dX1_readAnd_10 : decode cX1_readAnd 10 = .ok (.iconst 0, 1) := zd02dec1_64.2.2.2.2.2.2.1
theorem dX1_readAnd_11 : decode cX1_readAnd 11 = .ok (.istore_n 2, 1) := zd02dec1_64.2.2.2.2.2.2.2.1
theorem dX1_readAnd_12 : decode cX1_readAnd 12 = .ok (.iload_n 2, 1) := zd02dec1_64.2.2.2.2.2.2.2.2.1
theorem dX1_readAnd_13 : decode cX1_readAnd 13 = .ok (.sipush 160, 3) := zd02dec1_64.2.2.2.2.2.2.2.2.2.1
theorem dX1_readAnd_16 : decode cX1_readAnd 16 = .ok (.if_icmp .ge 42, 3) := zd02dec1_64.2.2.2.2.2.2.2.2.2.2.1
theorem dX1_readAnd_19 : decode cX1_readAnd 19 = .ok (.aload_n 0, 1) := zd02dec1_64.2.2.2.2.2.2.2.2.2.2.2
theorem zd02dec1_65 : decode cX1_readAnd 20 = .ok (.getfield 45, 3) ∧ decode cX1_readAnd 23 = .ok (.bipush 104, 2) ∧ decode cX1_readAnd 25 = .ok (.if_icmp .ne 33, 3) ∧ decode cX1_readAnd 28 = .ok (.aload_n 0, 1) ∧ decode cX1_readAnd 29 = .ok (.invokevirtual 42, 3) ∧ decode cX1_readAnd 32 = .ok (.aload_n 0, 1) ∧ decode cX1_readAnd 33 = .ok (.iload_n 1, 1) ∧ decode cX1_readAnd 34 = .ok (.invokevirtual 62, 3) ∧ decode cX1_readAnd 37 = .ok (.ifCond .ne 5, 3) ∧ decode cX1_readAnd 40 = .ok (.iconst 0, 1) ∧ decode cX1_readAnd 41 = .ok (.ireturn, 1) ∧ decode cX1_readAnd 42 = .ok (.aload_n 0, 1) := by decide +kernel
theorem dX1_readAnd_20 : decode cX1_readAnd 20 = .ok (.getfield 45, 3) := zd02dec1_65.1
theorem dX1_readAnd_23 : decode cX1_readAnd 23 = .ok (.bipush 104, 2) := zd02dec1_65.2.1
theorem dX1_readAnd_25 : decode cX1_readAnd 25 = .ok (.if_icmp .ne 33, 3) := zd02dec1_65.2.2.1
theorem dX1_readAnd_28 : decode cX1_readAnd 28 = .ok (.aload_n 0, 1) := zd02dec1_65.2.2.2.1
theorem dX1_readAnd_29 : decode cX1_readAnd 29 = .ok (.invokevirtual 42, 3) := zd02dec1_65.2.2.2.2.1
theorem dX1_readAnd_32 : decode cX1_readAnd 32 = .ok (.aload_n 0, 1) := zd02dec1_65.2.2.2.2.2.1
theorem dX1_readAnd_33 : decode cX1_readAnd 33 = .ok (.iload_n 1, 1) := zd02dec1_65.2.2.2.2.2.2.1
theorem dX1_readAnd_34 : decode cX1_readAnd 34 = .ok (.invokevirtual 62, 3) := zd02dec1_65.2.2.2.2.2.2.2.1
theorem dX1_readAnd_37 : decode cX1_readAnd 37 = .ok (.ifCond .ne 5, 3) := zd02dec1_65.2.2.2.2.2.2.2.2.1
theorem dX1_readAnd_40 : decode cX1_readAnd 40 = .ok (.iconst 0, 1) := zd02dec1_65.2.2.2.2.2.2.2.2.2.1
theorem dX1_readAnd_41 : decode cX1_readAnd 41 = .ok (.ireturn, 1) := zd02dec1_65.2.2.2.2.2.2.2.2.2.2.1
theorem dX1_readAnd_42 : decode cX1_readAnd 42 = .ok (.aload_n 0, 1) := zd02dec1_65.2.2.2.2.2.2.2.2.2.2.2
theorem zd02dec1_66 : decode cX1_readAnd 43 = .ok (.getfield 15, 3) ∧ decode cX1_readAnd 46 = .ok (.sipush 20104, 3) ∧ decode cX1_readAnd 49 = .ok (.invokevirtual 59, 3) ∧ decode cX1_readAnd 52 = .ok (.iinc 2 1, 3) ∧ decode cX1_readAnd 55 = .ok (.goto (-43), 3) ∧ decode cX1_readAnd 58 = .ok (.iconst 1, 1) ∧ decode cX1_readAnd 59 = .ok (.ireturn, 1) := by decide +kernel
theorem dX1_readAnd_43 : decode cX1_readAnd 43 = .ok (.getfield 15, 3) := zd02dec1_66.1
theorem dX1_readAnd_46 : decode cX1_readAnd 46 = .ok (.sipush 20104, 3) := zd02dec1_66.2.1
theorem dX1_readAnd_49 : decode cX1_readAnd 49 = .ok (.invokevirtual 59, 3) := zd02dec1_66.2.2.1
theorem dX1_readAnd_52 : decode cX1_readAnd 52 = .ok (.iinc 2 1, 3) := zd02dec1_66.2.2.2.1
theorem dX1_readAnd_55 : decode cX1_readAnd 55 = .ok (.goto (-43), 3) := zd02dec1_66.2.2.2.2.1
theorem dX1_readAnd_58 : decode cX1_readAnd 58 = .ok (.iconst 1, 1) := zd02dec1_66.2.2.2.2.2.1
theorem dX1_readAnd_59 : decode cX1_readAnd 59 = .ok (.ireturn, 1) := zd02dec1_66.2.2.2.2.2.2
theorem zd02dec1_67 : decode cX1_readNot 0 = .ok (.aload_n 0, 1) ∧ decode cX1_readNot 1 = .ok (.getfield 45, 3) ∧ decode cX1_readNot 4 = .ok (.bipush 105, 2) ∧ decode cX1_readNot 6 = .ok (.if_icmp .ne 38, 3) ∧ decode cX1_readNot 9 = .ok (.iload_n 1, 1) ∧ decode cX1_readNot 10 = .ok (.iconst 5, 1) ∧ decode cX1_readNot 11 = .ok (.if_icmp .lt 5, 3) ∧ decode cX1_readNot 14 = .ok (.iconst 0, 1) ∧ decode cX1_readNot 15 = .ok (.ireturn, 1) ∧ decode cX1_readNot 16 = .ok (.aload_n 0, 1) ∧ decode cX1_readNot 17 = .ok (.invokevirtual 42, 3) ∧ decode cX1_readNot 20 = .ok (.aload_n 0, 1) := by decide +kernel
theorem dX1_readNot_0 : decode cX1_readNot 0 = .ok (.aload_n 0, 1) := zd02dec1_67.1
theorem dX1_readNot_1 : decode cX1_readNot 1 = .ok (.getfield 45, 3) := zd02dec1_67.2.1
theorem dX1_readNot_4 : decode cX1_readNot 4 = .ok (.bipush 105, 2) := zd02dec1_67.2.2.1
theorem dX1_readNot_6 : decode cX1_readNot 6 = .ok (.if_icmp .ne 38, 3) := zd02dec1_67.2.2.2.1
theorem dX1_readNot_9 : decode cX1_readNot 9 = .ok (.iload_n 1, 1) := zd02dec1_67.2.2.2.2.1
theorem dX1_readNot_10 : decode cX1_readNot 10 = .ok (.iconst 5, 1) := zd02dec1_67.2.2.2.2.2.1
theorem dX1_readNot_11 : decode cX1_readNot 11 = .ok (.if_icmp .lt 5, 3) := zd02dec1_67.2.2.2.2.2.2.1
theorem dX1_readNot_14 : decode cX1_readNot 14 = .ok (.iconst 0, 1) := zd02dec1_67.2.2.2.2.2.2.2.1
theorem dX1_readNot_15 : decode cX1_readNot 15 = .ok (.ireturn, 1) := zd02dec1_67.2.2.2.2.2.2.2.2.1
theorem dX1_readNot_16 : decode cX1_readNot 16 = .ok (.aload_n 0, 1) := zd02dec1_67.2.2.2.2.2.2.2.2.2.1
theorem dX1_readNot_17 : decode cX1_readNot 17 = .ok (.invokevirtual 42, 3) := zd02dec1_67.2.2.2.2.2.2.2.2.2.2.1
theorem dX1_readNot_20 : decode cX1_readNot 20 = .ok (.aload_n 0, 1) := zd02dec1_67.2.2.2.2.2.2.2.2.2.2.2
theorem zd02dec1_68 : decode cX1_readNot 21 = .ok (.iload_n 1, 1) ∧ decode cX1_readNot 22 = .ok (.iconst 1, 1) ∧ decode cX1_readNot 23 = .ok (.iadd, 1) ∧ decode cX1_readNot 24 = .ok (.invokevirtual 62, 3) ∧ decode cX1_readNot 27 = .ok (.ifCond .ne 5, 3) ∧ decode cX1_readNot 30 = .ok (.iconst 0, 1) ∧ decode cX1_readNot 31 = .ok (.ireturn, 1) ∧ decode cX1_readNot 32 = .ok (.aload_n 0, 1) ∧ decode cX1_readNot 33 = .ok (.getfield 15, 3) ∧ decode cX1_readNot 36 = .ok (.sipush 20105, 3) ∧ decode cX1_readNot 39 = .ok (.invokevirtual 59, 3) ∧ decode cX1_readNot 42 = .ok (.iconst 1, 1) := by decide +kernel
theorem dX1_readNot_21 : decode cX1_readNot 21 = .ok (.iload_n 1, 1) := zd02dec1_68.1
theorem dX1_readNot_22 : decode cX1_readNot 22 = .ok (.iconst 1, 1) := zd02dec1_68.2.1
theorem dX1_readNot_23 : decode cX1_readNot 23 = .ok (.iadd, 1) := zd02dec1_68.2.2.1
theorem dX1_readNot_24 : decode cX1_readNot 24 = .ok (.invokevirtual 62, 3) := zd02dec1_68.2.2.2.1
theorem dX1_readNot_27 : decode cX1_readNot 27 = .ok (.ifCond .ne 5, 3) := zd02dec1_68.2.2.2.2.1
theorem dX1_readNot_30 : decode cX1_readNot 30 = .ok (.iconst 0, 1) := zd02dec1_68.2.2.2.2.2.1
theorem dX1_readNot_31 : decode cX1_readNot 31 = .ok (.ireturn, 1) := zd02dec1_68.2.2.2.2.2.2.1
theorem dX1_readNot_32 : decode cX1_readNot 32 = .ok (.aload_n 0, 1) := zd02dec1_68.2.2.2.2.2.2.2.1
theorem dX1_readNot_33 : decode cX1_readNot 33 = .ok (.getfield 15, 3) := zd02dec1_68.2.2.2.2.2.2.2.2.1
theorem dX1_readNot_36 : decode cX1_readNot 36 = .ok (.sipush 20105, 3) := zd02dec1_68.2.2.2.2.2.2.2.2.2.1
theorem dX1_readNot_39 : decode cX1_readNot 39 = .ok (.invokevirtual 59, 3) := zd02dec1_68.2.2.2.2.2.2.2.2.2.2.1
theorem dX1_readNot_42 : decode cX1_readNot 42 = .ok (.iconst 1, 1) := zd02dec1_68.2.2.2.2.2.2.2.2.2.2.2
theorem zd02dec1_69 : decode cX1_readNot 43 = .ok (.ireturn, 1) ∧ decode cX1_readNot 44 = .ok (.aload_n 0, 1) ∧ decode cX1_readNot 45 = .ok (.iload_n 1, 1) ∧ decode cX1_readNot 46 = .ok (.invokevirtual 65, 3) ∧ decode cX1_readNot 49 = .ok (.ifCond .ne 5, 3) ∧ decode cX1_readNot 52 = .ok (.iconst 0, 1) ∧ decode cX1_readNot 53 = .ok (.ireturn, 1) ∧ decode cX1_readNot 54 = .ok (.aload_n 0, 1) ∧ decode cX1_readNot 55 = .ok (.getfield 45, 3) ∧ decode cX1_readNot 58 = .ok (.bipush 60, 2) ∧ decode cX1_readNot 60 = .ok (.if_icmp .eq 14, 3) ∧ decode cX1_readNot 63 = .ok (.aload_n 0, 1) := by decide +kernel
theorem dX1_readNot_43 : decode cX1_readNot 43 = .ok (.ireturn, 1) := zd02dec1_69.1
theorem dX1_readNot_44 : decode cX1_readNot 44 = .ok (.aload_n 0, 1) := zd02dec1_69.2.1
theorem dX1_readNot_45 : decode cX1_readNot 45 = .ok (.iload_n 1, 1) := zd02dec1_69.2.2.1
theorem dX1_readNot_46 : decode cX1_readNot 46 = .ok (.invokevirtual 65, 3) := zd02dec1_69.2.2.2.1
theorem dX1_readNot_49 : decode cX1_readNot 49 = .ok (.ifCond .ne 5, 3) := zd02dec1_69.2.2.2.2.1
theorem dX1_readNot_52 : decode cX1_readNot 52 = .ok (.iconst 0, 1) := zd02dec1_69.2.2.2.2.2.1
theorem dX1_readNot_53 : decode cX1_readNot 53 = .ok (.ireturn, 1) := zd02dec1_69.2.2.2.2.2.2.1
theorem dX1_readNot_54 : decode cX1_readNot 54 = .ok (.aload_n 0, 1) := zd02dec1_69.2.2.2.2.2.2.2.1
theorem dX1_readNot_55 : decode cX1_readNot 55 = .ok (.getfield 45, 3) := zd02dec1_69.2.2.2.2.2.2.2.2.1
theorem dX1_readNot_58 : decode cX1_readNot 58 = .ok (.bipush 60, 2) := zd02dec1_69.2.2.2.2.2.2.2.2.2.1
theorem dX1_readNot_60 : decode cX1_readNot 60 = .ok (.if_icmp .eq 14, 3) := zd02dec1_69.2.2.2.2.2.2.2.2.2.2.1
theorem dX1_readNot_63 : decode cX1_readNot 63 = .ok (.aload_n 0, 1) := zd02dec1_69.2.2.2.2.2.2.2.2.2.2.2
theorem zd02dec1_70 : decode cX1_readNot 64 = .ok (.getfield 45, 3) ∧ decode cX1_readNot 67 = .ok (.bipush 61, 2) ∧ decode cX1_readNot 69 = .ok (.if_icmp .eq 5, 3) ∧ decode cX1_readNot 72 = .ok (.iconst 1, 1) ∧ decode cX1_readNot 73 = .ok (.ireturn, 1) ∧ decode cX1_readNot 74 = .ok (.aload_n 0, 1) ∧ decode cX1_readNot 75 = .ok (.getfield 45, 3) ∧ decode cX1_readNot 78 = .ok (.istore_n 2, 1) ∧ decode cX1_readNot 79 = .ok (.aload_n 0, 1) ∧ decode cX1_readNot 80 = .ok (.invokevirtual 42, 3) ∧ decode cX1_readNot 83 = .ok (.aload_n 0, 1) ∧ decode cX1_readNot 84 = .ok (.iload_n 1, 1) := by decide +kernel
theorem dX1_readNot_64 : decode cX1_readNot 64 = .ok (.getfield 45, 3) := zd02dec1_70.1
theorem dX1_readNot_67 : decode cX1_readNot 67 = .ok (.bipush 61, 2) := zd02dec1_70.2.1
theorem dX1_readNot_69 : decode cX1_readNot 69 = .ok (.if_icmp .eq 5, 3) := zd02dec1_70.2.2.1
theorem dX1_readNot_72 : decode cX1_readNot 72 = .ok (.iconst 1, 1) := zd02dec1_70.2.2.2.1
theorem dX1_readNot_73 : decode cX1_readNot 73 = .ok (.ireturn, 1) := zd02dec1_70.2.2.2.2.1
theorem dX1_readNot_74 : decode cX1_readNot 74 = .ok (.aload_n 0, 1) := zd02dec1_70.2.2.2.2.2.1
theorem dX1_readNot_75 : decode cX1_readNot 75 = .ok (.getfield 45, 3) := zd02dec1_70.2.2.2.2.2.2.1
theorem dX1_readNot_78 : decode cX1_readNot 78 = .ok (.istore_n 2, 1) := zd02dec1_70.2.2.2.2.2.2.2.1
theorem dX1_readNot_79 : decode cX1_readNot 79 = .ok (.aload_n 0, 1) := zd02dec1_70.2.2.2.2.2.2.2.2.1
theorem dX1_readNot_80 : decode cX1_readNot 80 = .ok (.invokevirtual 42, 3) := zd02dec1_70.2.2.2.2.2.2.2.2.2.1
theorem dX1_readNot_83 : decode cX1_readNot 83 = .ok (.aload_n 0, 1) := zd02dec1_70.2.2.2.2.2.2.2.2.2.2.1
theorem dX1_readNot_84 : decode cX1_readNot 84 = .ok (.iload_n 1, 1) := zd02dec1_70.2.2.2.2.2.2.2.2.2.2.2
theorem zd02dec1_71 : decode cX1_readNot 85 = .ok (.invokevirtual 65, 3) ∧ decode cX1_readNot 88 = .ok (.ifCond .ne 5, 3) ∧ decode cX1_readNot 91 = .ok (.iconst 0, 1) ∧ decode cX1_readNot 92 = .ok (.ireturn, 1) ∧ decode cX1_readNot 93 = .ok (.aload_n 0, 1) ∧ decode cX1_readNot 94 = .ok (.getfield 15, 3) ∧ decode cX1_readNot 97 = .ok (.sipush 20000, 3) ∧ decode cX1_readNot 100 = .ok (.iload_n 2, 1) ∧ decode cX1_readNot 101 = .ok (.iadd, 1) ∧ decode cX1_readNot 102 = .ok (.invokevirtual 59, 3) ∧ decode cX1_readNot 105 = .ok (.iconst 1, 1) ∧ decode cX1_readNot 106 = .ok (.ireturn, 1) := by decide +kernel
theorem dX1_readNot_85 : decode cX1_readNot 85 = .ok (.invokevirtual 65, 3) := zd02dec1_71.1
theorem dX1_readNot_88 : decode cX1_readNot 88 = .ok (.ifCond .ne 5, 3) := zd02dec1_71.2.1
theorem dX1_readNot_91 : decode cX1_readNot 91 = .ok (.iconst 0, 1) := zd02dec1_71.2.2.1
theorem dX1_readNot_92 : decode cX1_readNot 92 = .ok (.ireturn, 1) := zd02dec1_71.2.2.2.1
theorem dX1_readNot_93 : decode cX1_readNot 93 = .ok (.aload_n 0, 1) := zd02dec1_71.2.2.2.2.1
theorem dX1_readNot_94 : decode cX1_readNot 94 = .ok (.getfield 15, 3) := zd02dec1_71.2.2.2.2.2.1
theorem dX1_readNot_97 : decode cX1_readNot 97 = .ok (.sipush 20000, 3) := zd02dec1_71.2.2.2.2.2.2.1
theorem dX1_readNot_100 : decode cX1_readNot 100 = .ok (.iload_n 2, 1) := zd02dec1_71.2.2.2.2.2.2.2.1
theorem dX1_readNot_101 : decode cX1_readNot 101 = .ok (.iadd, 1) := zd02dec1_71.2.2.2.2.2.2.2.2.1
theorem dX1_readNot_102 : decode cX1_readNot 102 = .ok (.invokevirtual 59, 3) := zd02dec1_71.2.2.2.2.2.2.2.2.2.1
theorem dX1_readNot_105 : decode cX1_readNot 105 = .ok (.iconst 1, 1) := zd02dec1_71.2.2.2.2.2.2.2.2.2.2.1
theorem dX1_readNot_106 : decode cX1_readNot 106 = .ok (.ireturn, 1) := zd02dec1_71.2.2.2.2.2.2.2.2.2.2.2
theorem zd02dec1_72 : decode cX1_readSum 0 = .ok (.aload_n 0, 1) ∧ decode cX1_readSum 1 = .ok (.iload_n 1, 1) ∧ decode cX1_readSum 2 = .ok (.invokevirtual 68, 3) ∧ decode cX1_readSum 5 = .ok (.ifCond .ne 5, 3) ∧ decode cX1_readSum 8 = .ok (.iconst 0, 1) ∧ decode cX1_readSum 9 = .ok (.ireturn, 1) ∧ decode cX1_readSum 10 = .ok (.iconst 0, 1) ∧ decode cX1_readSum 11 = .ok (.istore_n 2, 1) ∧ decode cX1_readSum 12 = .ok (.iload_n 2, 1) ∧ decode cX1_readSum 13 = .ok (.sipush 160, 3) ∧ decode cX1_readSum 16 = .ok (.if_icmp .ge 58, 3) ∧ decode cX1_readSum 19 = .ok (.aload_n 0, 1) := by decide +kernel
theorem dX1_readSum_0 : decode cX1_readSum 0 = .ok (.aload_n 0, 1) := zd02dec1_72.1
theorem dX1_readSum_1 : decode cX1_readSum 1 = .ok (.iload_n 1, 1) := zd02dec1_72.2.1
theorem dX1_readSum_2 : decode cX1_readSum 2 = .ok (.invokevirtual 68, 3) := zd02dec1_72.2.2.1
theorem dX1_readSum_5 : decode cX1_readSum 5 = .ok (.ifCond .ne 5, 3) := zd02dec1_72.2.2.2.1
theorem dX1_readSum_8 : decode cX1_readSum 8 = .ok (.iconst 0, 1) := zd02dec1_72.2.2.2.2.1
theorem dX1_readSum_9 : decode cX1_readSum 9 = .ok (.ireturn, 1) := zd02dec1_72.2.2.2.2.2.1
theorem dX1_readSum_10 : decode cX1_readSum 10 = .ok (.iconst 0, 1) := zd02dec1_72.2.2.2.2.2.2.1
theorem dX1_readSum_11 : decode cX1_readSum 11 = .ok (.istore_n 2, 1) := zd02dec1_72.2.2.2.2.2.2.2.1
theorem dX1_readSum_12 : decode cX1_readSum 12 = .ok (.iload_n 2, 1) := zd02dec1_72.2.2.2.2.2.2.2.2.1
theorem dX1_readSum_13 : decode cX1_readSum 13 = .ok (.sipush 160, 3) := zd02dec1_72.2.2.2.2.2.2.2.2.2.1
theorem dX1_readSum_16 : decode cX1_readSum 16 = .ok (.if_icmp .ge 58, 3) := zd02dec1_72.2.2.2.2.2.2.2.2.2.2.1
theorem dX1_readSum_19 : decode cX1_readSum 19 = .ok (.aload_n 0, 1) := zd02dec1_72.2.2.2.2.2.2.2.2.2.2.2
theorem zd02dec1_73 : decode cX1_readSum 20 = .ok (.getfield 45, 3) ∧ decode cX1_readSum 23 = .ok (.bipush 43, 2) ∧ decode cX1_readSum 25 = .ok (.if_icmp .eq 12, 3) ∧ decode cX1_readSum 28 = .ok (.aload_n 0, 1) ∧ decode cX1_readSum 29 = .ok (.getfield 45, 3) ∧ decode cX1_readSum 32 = .ok (.bipush 45, 2) ∧ decode cX1_readSum 34 = .ok (.if_icmp .ne 40, 3) ∧ decode cX1_readSum 37 = .ok (.aload_n 0, 1) ∧ decode cX1_readSum 38 = .ok (.getfield 45, 3) ∧ decode cX1_readSum 41 = .ok (.istore_n 3, 1) ∧ decode cX1_readSum 42 = .ok (.aload_n 0, 1) ∧ decode cX1_readSum 43 = .ok (.invokevirtual 42, 3) := by decide +kernel
theorem dX1_readSum_20 : decode cX1_readSum 20 = .ok (.getfield 45, 3) := zd02dec1_73.1
theorem dX1_readSum_23 : decode cX1_readSum 23 = .ok (.bipush 43, 2) := zd02dec1_73.2.1
theorem dX1_readSum_25 : decode cX1_readSum 25 = .ok (.if_icmp .eq 12, 3) := zd02dec1_73.2.2.1
theorem dX1_readSum_28 : decode cX1_readSum 28 = .ok (.aload_n 0, 1) := zd02dec1_73.2.2.2.1
theorem dX1_readSum_29 : decode cX1_readSum 29 = .ok (.getfield 45, 3) := zd02dec1_73.2.2.2.2.1
theorem dX1_readSum_32 : decode cX1_readSum 32 = .ok (.bipush 45, 2) := zd02dec1_73.2.2.2.2.2.1
theorem dX1_readSum_34 : decode cX1_readSum 34 = .ok (.if_icmp .ne 40, 3) := zd02dec1_73.2.2.2.2.2.2.1
theorem dX1_readSum_37 : decode cX1_readSum 37 = .ok (.aload_n 0, 1) := zd02dec1_73.2.2.2.2.2.2.2.1
theorem dX1_readSum_38 : decode cX1_readSum 38 = .ok (.getfield 45, 3) := zd02dec1_73.2.2.2.2.2.2.2.2.1
theorem dX1_readSum_41 : decode cX1_readSum 41 = .ok (.istore_n 3, 1) := zd02dec1_73.2.2.2.2.2.2.2.2.2.1
theorem dX1_readSum_42 : decode cX1_readSum 42 = .ok (.aload_n 0, 1) := zd02dec1_73.2.2.2.2.2.2.2.2.2.2.1
theorem dX1_readSum_43 : decode cX1_readSum 43 = .ok (.invokevirtual 42, 3) := zd02dec1_73.2.2.2.2.2.2.2.2.2.2.2
theorem zd02dec1_74 : decode cX1_readSum 46 = .ok (.aload_n 0, 1) ∧ decode cX1_readSum 47 = .ok (.iload_n 1, 1) ∧ decode cX1_readSum 48 = .ok (.invokevirtual 68, 3) ∧ decode cX1_readSum 51 = .ok (.ifCond .ne 5, 3) ∧ decode cX1_readSum 54 = .ok (.iconst 0, 1) ∧ decode cX1_readSum 55 = .ok (.ireturn, 1) ∧ decode cX1_readSum 56 = .ok (.aload_n 0, 1) ∧ decode cX1_readSum 57 = .ok (.getfield 15, 3) ∧ decode cX1_readSum 60 = .ok (.sipush 20000, 3) ∧ decode cX1_readSum 63 = .ok (.iload_n 3, 1) ∧ decode cX1_readSum 64 = .ok (.iadd, 1) ∧ decode cX1_readSum 65 = .ok (.invokevirtual 59, 3) := by decide +kernel
theorem dX1_readSum_46 : decode cX1_readSum 46 = .ok (.aload_n 0, 1) := zd02dec1_74.1
theorem dX1_readSum_47 : decode cX1_readSum 47 = .ok (.iload_n 1, 1) := zd02dec1_74.2.1
theorem dX1_readSum_48 : decode cX1_readSum 48 = .ok (.invokevirtual 68, 3) := zd02dec1_74.2.2.1
theorem dX1_readSum_51 : decode cX1_readSum 51 = .ok (.ifCond .ne 5, 3) := zd02dec1_74.2.2.2.1
theorem dX1_readSum_54 : decode cX1_readSum 54 = .ok (.iconst 0, 1) := zd02dec1_74.2.2.2.2.1
theorem dX1_readSum_55 : decode cX1_readSum 55 = .ok (.ireturn, 1) := zd02dec1_74.2.2.2.2.2.1
theorem dX1_readSum_56 : decode cX1_readSum 56 = .ok (.aload_n 0, 1) := zd02dec1_74.2.2.2.2.2.2.1
theorem dX1_readSum_57 : decode cX1_readSum 57 = .ok (.getfield 15, 3) := zd02dec1_74.2.2.2.2.2.2.2.1
theorem dX1_readSum_60 : decode cX1_readSum 60 = .ok (.sipush 20000, 3) := zd02dec1_74.2.2.2.2.2.2.2.2.1
theorem dX1_readSum_63 : decode cX1_readSum 63 = .ok (.iload_n 3, 1) := zd02dec1_74.2.2.2.2.2.2.2.2.2.1
theorem dX1_readSum_64 : decode cX1_readSum 64 = .ok (.iadd, 1) := zd02dec1_74.2.2.2.2.2.2.2.2.2.2.1
theorem dX1_readSum_65 : decode cX1_readSum 65 = .ok (.invokevirtual 59, 3) := zd02dec1_74.2.2.2.2.2.2.2.2.2.2.2
theorem zd02dec1_75 : decode cX1_readSum 68 = .ok (.iinc 2 1, 3) ∧ decode cX1_readSum 71 = .ok (.goto (-59), 3) ∧ decode cX1_readSum 74 = .ok (.iconst 1, 1) ∧ decode cX1_readSum 75 = .ok (.ireturn, 1) := by decide +kernel
theorem dX1_readSum_68 : decode cX1_readSum 68 = .ok (.iinc 2 1, 3) := zd02dec1_75.1
theorem dX1_readSum_71 : decode cX1_readSum 71 = .ok (.goto (-59), 3) := zd02dec1_75.2.1
theorem dX1_readSum_74 : decode cX1_readSum 74 = .ok (.iconst 1, 1) := zd02dec1_75.2.2.1
theorem dX1_readSum_75 : decode cX1_readSum 75 = .ok (.ireturn, 1) := zd02dec1_75.2.2.2
theorem zd02dec1_76 : decode cX1_readTerm 0 = .ok (.aload_n 0, 1) ∧ decode cX1_readTerm 1 = .ok (.iload_n 1, 1) ∧ decode cX1_readTerm 2 = .ok (.invokevirtual 71, 3) ∧ decode cX1_readTerm 5 = .ok (.ifCond .ne 5, 3) ∧ decode cX1_readTerm 8 = .ok (.iconst 0, 1) ∧ decode cX1_readTerm 9 = .ok (.ireturn, 1) ∧ decode cX1_readTerm 10 = .ok (.iconst 0, 1) ∧ decode cX1_readTerm 11 = .ok (.istore_n 2, 1) ∧ decode cX1_readTerm 12 = .ok (.iload_n 2, 1) ∧ decode cX1_readTerm 13 = .ok (.sipush 160, 3) ∧ decode cX1_readTerm 16 = .ok (.if_icmp .ge 42, 3) ∧ decode cX1_readTerm 19 = .ok (.aload_n 0, 1) := by decide +kernel
theorem dX1_readTerm_0 : decode cX1_readTerm 0 = .ok (.aload_n 0, 1) := zd02dec1_76.1
theorem dX1_readTerm_1 : decode cX1_readTerm 1 = .ok (.iload_n 1, 1) := zd02dec1_76.2.1
theorem dX1_readTerm_2 : decode cX1_readTerm 2 = .ok (.invokevirtual 71, 3) := zd02dec1_76.2.2.1
theorem dX1_readTerm_5 : decode cX1_readTerm 5 = .ok (.ifCond .ne 5, 3) := zd02dec1_76.2.2.2.1
theorem dX1_readTerm_8 : decode cX1_readTerm 8 = .ok (.iconst 0, 1) := zd02dec1_76.2.2.2.2.1
theorem dX1_readTerm_9 : decode cX1_readTerm 9 = .ok (.ireturn, 1) := zd02dec1_76.2.2.2.2.2.1
theorem dX1_readTerm_10 : decode cX1_readTerm 10 = .ok (.iconst 0, 1) := zd02dec1_76.2.2.2.2.2.2.1
theorem dX1_readTerm_11 : decode cX1_readTerm 11 = .ok (.istore_n 2, 1) := zd02dec1_76.2.2.2.2.2.2.2.1
theorem dX1_readTerm_12 : decode cX1_readTerm 12 = .ok (.iload_n 2, 1) := zd02dec1_76.2.2.2.2.2.2.2.2.1
theorem dX1_readTerm_13 : decode cX1_readTerm 13 = .ok (.sipush 160, 3) := zd02dec1_76.2.2.2.2.2.2.2.2.2.1
theorem dX1_readTerm_16 : decode cX1_readTerm 16 = .ok (.if_icmp .ge 42, 3) := zd02dec1_76.2.2.2.2.2.2.2.2.2.2.1
theorem dX1_readTerm_19 : decode cX1_readTerm 19 = .ok (.aload_n 0, 1) := zd02dec1_76.2.2.2.2.2.2.2.2.2.2.2
theorem zd02dec1_77 : decode cX1_readTerm 20 = .ok (.getfield 45, 3) ∧ decode cX1_readTerm 23 = .ok (.bipush 42, 2) ∧ decode cX1_readTerm 25 = .ok (.if_icmp .ne 33, 3) ∧ decode cX1_readTerm 28 = .ok (.aload_n 0, 1) ∧ decode cX1_readTerm 29 = .ok (.invokevirtual 42, 3) ∧ decode cX1_readTerm 32 = .ok (.aload_n 0, 1) ∧ decode cX1_readTerm 33 = .ok (.iload_n 1, 1) ∧ decode cX1_readTerm 34 = .ok (.invokevirtual 71, 3) ∧ decode cX1_readTerm 37 = .ok (.ifCond .ne 5, 3) ∧ decode cX1_readTerm 40 = .ok (.iconst 0, 1) ∧ decode cX1_readTerm 41 = .ok (.ireturn, 1) ∧ decode cX1_readTerm 42 = .ok (.aload_n 0, 1) := by decide +kernel
theorem dX1_readTerm_20 : decode cX1_readTerm 20 = .ok (.getfield 45, 3) := zd02dec1_77.1
theorem dX1_readTerm_23 : decode cX1_readTerm 23 = .ok (.bipush 42, 2) := zd02dec1_77.2.1
theorem dX1_readTerm_25 : decode cX1_readTerm 25 = .ok (.if_icmp .ne 33, 3) := zd02dec1_77.2.2.1
theorem dX1_readTerm_28 : decode cX1_readTerm 28 = .ok (.aload_n 0, 1) := zd02dec1_77.2.2.2.1
theorem dX1_readTerm_29 : decode cX1_readTerm 29 = .ok (.invokevirtual 42, 3) := zd02dec1_77.2.2.2.2.1
theorem dX1_readTerm_32 : decode cX1_readTerm 32 = .ok (.aload_n 0, 1) := zd02dec1_77.2.2.2.2.2.1
theorem dX1_readTerm_33 : decode cX1_readTerm 33 = .ok (.iload_n 1, 1) := zd02dec1_77.2.2.2.2.2.2.1
theorem dX1_readTerm_34 : decode cX1_readTerm 34 = .ok (.invokevirtual 71, 3) := zd02dec1_77.2.2.2.2.2.2.2.1
theorem dX1_readTerm_37 : decode cX1_readTerm 37 = .ok (.ifCond .ne 5, 3) := zd02dec1_77.2.2.2.2.2.2.2.2.1
theorem dX1_readTerm_40 : decode cX1_readTerm 40 = .ok (.iconst 0, 1) := zd02dec1_77.2.2.2.2.2.2.2.2.2.1
theorem dX1_readTerm_41 : decode cX1_readTerm 41 = .ok (.ireturn, 1) := zd02dec1_77.2.2.2.2.2.2.2.2.2.2.1
theorem dX1_readTerm_42 : decode cX1_readTerm 42 = .ok (.aload_n 0, 1) := zd02dec1_77.2.2.2.2.2.2.2.2.2.2.2
theorem zd02dec1_78 : decode cX1_readTerm 43 = .ok (.getfield 15, 3) ∧ decode cX1_readTerm 46 = .ok (.sipush 20042, 3) ∧ decode cX1_readTerm 49 = .ok (.invokevirtual 59, 3) ∧ decode cX1_readTerm 52 = .ok (.iinc 2 1, 3) ∧ decode cX1_readTerm 55 = .ok (.goto (-43), 3) ∧ decode cX1_readTerm 58 = .ok (.iconst 1, 1) ∧ decode cX1_readTerm 59 = .ok (.ireturn, 1) := by decide +kernel
theorem dX1_readTerm_43 : decode cX1_readTerm 43 = .ok (.getfield 15, 3) := zd02dec1_78.1
theorem dX1_readTerm_46 : decode cX1_readTerm 46 = .ok (.sipush 20042, 3) := zd02dec1_78.2.1
theorem dX1_readTerm_49 : decode cX1_readTerm 49 = .ok (.invokevirtual 59, 3) := zd02dec1_78.2.2.1
theorem dX1_readTerm_52 : decode cX1_readTerm 52 = .ok (.iinc 2 1, 3) := zd02dec1_78.2.2.2.1
theorem dX1_readTerm_55 : decode cX1_readTerm 55 = .ok (.goto (-43), 3) := zd02dec1_78.2.2.2.2.1
theorem dX1_readTerm_58 : decode cX1_readTerm 58 = .ok (.iconst 1, 1) := zd02dec1_78.2.2.2.2.2.1
theorem dX1_readTerm_59 : decode cX1_readTerm 59 = .ok (.ireturn, 1) := zd02dec1_78.2.2.2.2.2.2
theorem zd02dec1_79 : decode cX1_readOne 0 = .ok (.aload_n 0, 1) ∧ decode cX1_readOne 1 = .ok (.getfield 45, 3) ∧ decode cX1_readOne 4 = .ok (.iconst 2, 1) ∧ decode cX1_readOne 5 = .ok (.if_icmp .eq 11, 3) ∧ decode cX1_readOne 8 = .ok (.aload_n 0, 1) ∧ decode cX1_readOne 9 = .ok (.getfield 45, 3) ∧ decode cX1_readOne 12 = .ok (.iconst 3, 1) ∧ decode cX1_readOne 13 = .ok (.if_icmp .ne 39, 3) ∧ decode cX1_readOne 16 = .ok (.aload_n 0, 1) ∧ decode cX1_readOne 17 = .ok (.getfield 15, 3) ∧ decode cX1_readOne 20 = .ok (.aload_n 0, 1) ∧ decode cX1_readOne 21 = .ok (.getfield 45, 3) := by decide +kernel
theorem dX1_readOne_0 : decode cX1_readOne 0 = .ok (.aload_n 0, 1) := zd02dec1_79.1
theorem dX1_readOne_1 : decode cX1_readOne 1 = .ok (.getfield 45, 3) := zd02dec1_79.2.1
theorem dX1_readOne_4 : decode cX1_readOne 4 = .ok (.iconst 2, 1) := zd02dec1_79.2.2.1
theorem dX1_readOne_5 : decode cX1_readOne 5 = .ok (.if_icmp .eq 11, 3) := zd02dec1_79.2.2.2.1
theorem dX1_readOne_8 : decode cX1_readOne 8 = .ok (.aload_n 0, 1) := zd02dec1_79.2.2.2.2.1
theorem dX1_readOne_9 : decode cX1_readOne 9 = .ok (.getfield 45, 3) := zd02dec1_79.2.2.2.2.2.1
theorem dX1_readOne_12 : decode cX1_readOne 12 = .ok (.iconst 3, 1) := zd02dec1_79.2.2.2.2.2.2.1
theorem dX1_readOne_13 : decode cX1_readOne 13 = .ok (.if_icmp .ne 39, 3) := zd02dec1_79.2.2.2.2.2.2.2.1
theorem dX1_readOne_16 : decode cX1_readOne 16 = .ok (.aload_n 0, 1) := zd02dec1_79.2.2.2.2.2.2.2.2.1
theorem dX1_readOne_17 : decode cX1_readOne 17 = .ok (.getfield 15, 3) := zd02dec1_79.2.2.2.2.2.2.2.2.2.1
theorem dX1_readOne_20 : decode cX1_readOne 20 = .ok (.aload_n 0, 1) := zd02dec1_79.2.2.2.2.2.2.2.2.2.2.1
theorem dX1_readOne_21 : decode cX1_readOne 21 = .ok (.getfield 45, 3) := zd02dec1_79.2.2.2.2.2.2.2.2.2.2.2
theorem zd02dec1_80 : decode cX1_readOne 24 = .ok (.iconst 2, 1) ∧ decode cX1_readOne 25 = .ok (.if_icmp .ne 10, 3) ∧ decode cX1_readOne 28 = .ok (.aload_n 0, 1) ∧ decode cX1_readOne 29 = .ok (.getfield 74, 3) ∧ decode cX1_readOne 32 = .ok (.goto 11, 3) ∧ decode cX1_readOne 35 = .ok (.sipush 10000, 3) ∧ decode cX1_readOne 38 = .ok (.aload_n 0, 1) ∧ decode cX1_readOne 39 = .ok (.getfield 74, 3) ∧ decode cX1_readOne 42 = .ok (.iadd, 1) ∧ decode cX1_readOne 43 = .ok (.invokevirtual 59, 3) ∧ decode cX1_readOne 46 = .ok (.aload_n 0, 1) ∧ decode cX1_readOne 47 = .ok (.invokevirtual 42, 3) := by decide +kernel
theorem dX1_readOne_24 : decode cX1_readOne 24 = .ok (.iconst 2, 1) := zd02dec1_80.1
theorem dX1_readOne_25 : decode cX1_readOne 25 = .ok (.if_icmp .ne 10, 3) := zd02dec1_80.2.1
theorem dX1_readOne_28 : decode cX1_readOne 28 = .ok (.aload_n 0, 1) := zd02dec1_80.2.2.1
theorem dX1_readOne_29 : decode cX1_readOne 29 = .ok (.getfield 74, 3) := zd02dec1_80.2.2.2.1
theorem dX1_readOne_32 : decode cX1_readOne 32 = .ok (.goto 11, 3) := zd02dec1_80.2.2.2.2.1
theorem dX1_readOne_35 : decode cX1_readOne 35 = .ok (.sipush 10000, 3) := zd02dec1_80.2.2.2.2.2.1
theorem dX1_readOne_38 : decode cX1_readOne 38 = .ok (.aload_n 0, 1) := zd02dec1_80.2.2.2.2.2.2.1
theorem dX1_readOne_39 : decode cX1_readOne 39 = .ok (.getfield 74, 3) := zd02dec1_80.2.2.2.2.2.2.2.1
theorem dX1_readOne_42 : decode cX1_readOne 42 = .ok (.iadd, 1) := zd02dec1_80.2.2.2.2.2.2.2.2.1
theorem dX1_readOne_43 : decode cX1_readOne 43 = .ok (.invokevirtual 59, 3) := zd02dec1_80.2.2.2.2.2.2.2.2.2.1
theorem dX1_readOne_46 : decode cX1_readOne 46 = .ok (.aload_n 0, 1) := zd02dec1_80.2.2.2.2.2.2.2.2.2.2.1
theorem dX1_readOne_47 : decode cX1_readOne 47 = .ok (.invokevirtual 42, 3) := zd02dec1_80.2.2.2.2.2.2.2.2.2.2.2
theorem zd02dec1_81 : decode cX1_readOne 50 = .ok (.iconst 1, 1) ∧ decode cX1_readOne 51 = .ok (.ireturn, 1) ∧ decode cX1_readOne 52 = .ok (.aload_n 0, 1) ∧ decode cX1_readOne 53 = .ok (.getfield 45, 3) ∧ decode cX1_readOne 56 = .ok (.bipush 45, 2) ∧ decode cX1_readOne 58 = .ok (.if_icmp .eq 12, 3) ∧ decode cX1_readOne 61 = .ok (.aload_n 0, 1) ∧ decode cX1_readOne 62 = .ok (.getfield 45, 3) ∧ decode cX1_readOne 65 = .ok (.bipush 40, 2) ∧ decode cX1_readOne 67 = .ok (.if_icmp .ne 8, 3) ∧ decode cX1_readOne 70 = .ok (.iload_n 1, 1) ∧ decode cX1_readOne 71 = .ok (.iconst 5, 1) := by decide +kernel
theorem dX1_readOne_50 : decode cX1_readOne 50 = .ok (.iconst 1, 1) := zd02dec1_81.1
theorem dX1_readOne_51 : decode cX1_readOne 51 = .ok (.ireturn, 1) := zd02dec1_81.2.1
theorem dX1_readOne_52 : decode cX1_readOne 52 = .ok (.aload_n 0, 1) := zd02dec1_81.2.2.1
theorem dX1_readOne_53 : decode cX1_readOne 53 = .ok (.getfield 45, 3) := zd02dec1_81.2.2.2.1
theorem dX1_readOne_56 : decode cX1_readOne 56 = .ok (.bipush 45, 2) := zd02dec1_81.2.2.2.2.1
theorem dX1_readOne_58 : decode cX1_readOne 58 = .ok (.if_icmp .eq 12, 3) := zd02dec1_81.2.2.2.2.2.1
theorem dX1_readOne_61 : decode cX1_readOne 61 = .ok (.aload_n 0, 1) := zd02dec1_81.2.2.2.2.2.2.1
theorem dX1_readOne_62 : decode cX1_readOne 62 = .ok (.getfield 45, 3) := zd02dec1_81.2.2.2.2.2.2.2.1
theorem dX1_readOne_65 : decode cX1_readOne 65 = .ok (.bipush 40, 2) := zd02dec1_81.2.2.2.2.2.2.2.2.1
theorem dX1_readOne_67 : decode cX1_readOne 67 = .ok (.if_icmp .ne 8, 3) := zd02dec1_81.2.2.2.2.2.2.2.2.2.1
theorem dX1_readOne_70 : decode cX1_readOne 70 = .ok (.iload_n 1, 1) := zd02dec1_81.2.2.2.2.2.2.2.2.2.2.1
theorem dX1_readOne_71 : decode cX1_readOne 71 = .ok (.iconst 5, 1) := zd02dec1_81.2.2.2.2.2.2.2.2.2.2.2
theorem zd02dec1_82 : decode cX1_readOne 72 = .ok (.if_icmp .lt 5, 3) ∧ decode cX1_readOne 75 = .ok (.iconst 0, 1) ∧ decode cX1_readOne 76 = .ok (.ireturn, 1) ∧ decode cX1_readOne 77 = .ok (.aload_n 0, 1) ∧ decode cX1_readOne 78 = .ok (.getfield 45, 3) ∧ decode cX1_readOne 81 = .ok (.bipush 45, 2) ∧ decode cX1_readOne 83 = .ok (.if_icmp .ne 31, 3) ∧ decode cX1_readOne 86 = .ok (.aload_n 0, 1) ∧ decode cX1_readOne 87 = .ok (.invokevirtual 42, 3) ∧ decode cX1_readOne 90 = .ok (.aload_n 0, 1) ∧ decode cX1_readOne 91 = .ok (.iload_n 1, 1) ∧ decode cX1_readOne 92 = .ok (.iconst 1, 1) := by decide +kernel
theorem dX1_readOne_72 : decode cX1_readOne 72 = .ok (.if_icmp .lt 5, 3) := zd02dec1_82.1
theorem dX1_readOne_75 : decode cX1_readOne 75 = .ok (.iconst 0, 1) := zd02dec1_82.2.1
theorem dX1_readOne_76 : decode cX1_readOne 76 = .ok (.ireturn, 1) := zd02dec1_82.2.2.1
theorem dX1_readOne_77 : decode cX1_readOne 77 = .ok (.aload_n 0, 1) := zd02dec1_82.2.2.2.1
theorem dX1_readOne_78 : decode cX1_readOne 78 = .ok (.getfield 45, 3) := zd02dec1_82.2.2.2.2.1
theorem dX1_readOne_81 : decode cX1_readOne 81 = .ok (.bipush 45, 2) := zd02dec1_82.2.2.2.2.2.1
theorem dX1_readOne_83 : decode cX1_readOne 83 = .ok (.if_icmp .ne 31, 3) := zd02dec1_82.2.2.2.2.2.2.1
theorem dX1_readOne_86 : decode cX1_readOne 86 = .ok (.aload_n 0, 1) := zd02dec1_82.2.2.2.2.2.2.2.1
theorem dX1_readOne_87 : decode cX1_readOne 87 = .ok (.invokevirtual 42, 3) := zd02dec1_82.2.2.2.2.2.2.2.2.1
theorem dX1_readOne_90 : decode cX1_readOne 90 = .ok (.aload_n 0, 1) := zd02dec1_82.2.2.2.2.2.2.2.2.2.1
theorem dX1_readOne_91 : decode cX1_readOne 91 = .ok (.iload_n 1, 1) := zd02dec1_82.2.2.2.2.2.2.2.2.2.2.1
theorem dX1_readOne_92 : decode cX1_readOne 92 = .ok (.iconst 1, 1) := zd02dec1_82.2.2.2.2.2.2.2.2.2.2.2
theorem zd02dec1_83 : decode cX1_readOne 93 = .ok (.iadd, 1) ∧ decode cX1_readOne 94 = .ok (.invokevirtual 71, 3) ∧ decode cX1_readOne 97 = .ok (.ifCond .ne 5, 3) ∧ decode cX1_readOne 100 = .ok (.iconst 0, 1) ∧ decode cX1_readOne 101 = .ok (.ireturn, 1) ∧ decode cX1_readOne 102 = .ok (.aload_n 0, 1) ∧ decode cX1_readOne 103 = .ok (.getfield 15, 3) ∧ decode cX1_readOne 106 = .ok (.sipush 20106, 3) ∧ decode cX1_readOne 109 = .ok (.invokevirtual 59, 3) ∧ decode cX1_readOne 112 = .ok (.iconst 1, 1) ∧ decode cX1_readOne 113 = .ok (.ireturn, 1) ∧ decode cX1_readOne 114 = .ok (.aload_n 0, 1) := by decide +kernel
theorem dX1_readOne_93 : decode cX1_readOne 93 = .ok (.iadd, 1) := zd02dec1_83.1
theorem dX1_readOne_94 : decode cX1_readOne 94 = .ok (.invokevirtual 71, 3) := zd02dec1_83.2.1
theorem dX1_readOne_97 : decode cX1_readOne 97 = .ok (.ifCond .ne 5, 3) := zd02dec1_83.2.2.1
theorem dX1_readOne_100 : decode cX1_readOne 100 = .ok (.iconst 0, 1) := zd02dec1_83.2.2.2.1
theorem dX1_readOne_101 : decode cX1_readOne 101 = .ok (.ireturn, 1) := zd02dec1_83.2.2.2.2.1
theorem dX1_readOne_102 : decode cX1_readOne 102 = .ok (.aload_n 0, 1) := zd02dec1_83.2.2.2.2.2.1
theorem dX1_readOne_103 : decode cX1_readOne 103 = .ok (.getfield 15, 3) := zd02dec1_83.2.2.2.2.2.2.1
theorem dX1_readOne_106 : decode cX1_readOne 106 = .ok (.sipush 20106, 3) := zd02dec1_83.2.2.2.2.2.2.2.1
theorem dX1_readOne_109 : decode cX1_readOne 109 = .ok (.invokevirtual 59, 3) := zd02dec1_83.2.2.2.2.2.2.2.2.1
theorem dX1_readOne_112 : decode cX1_readOne 112 = .ok (.iconst 1, 1) := zd02dec1_83.2.2.2.2.2.2.2.2.2.1
theorem dX1_readOne_113 : decode cX1_readOne 113 = .ok (.ireturn, 1) := zd02dec1_83.2.2.2.2.2.2.2.2.2.2.1
theorem dX1_readOne_114 : decode cX1_readOne 114 = .ok (.aload_n 0, 1) := zd02dec1_83.2.2.2.2.2.2.2.2.2.2.2
theorem zd02dec1_84 : decode cX1_readOne 115 = .ok (.invokevirtual 42, 3) ∧ decode cX1_readOne 118 = .ok (.aload_n 0, 1) ∧ decode cX1_readOne 119 = .ok (.iload_n 1, 1) ∧ decode cX1_readOne 120 = .ok (.iconst 1, 1) ∧ decode cX1_readOne 121 = .ok (.iadd, 1) ∧ decode cX1_readOne 122 = .ok (.invokevirtual 48, 3) ∧ decode cX1_readOne 125 = .ok (.ifCond .eq 12, 3) ∧ decode cX1_readOne 128 = .ok (.aload_n 0, 1) ∧ decode cX1_readOne 129 = .ok (.getfield 45, 3) ∧ decode cX1_readOne 132 = .ok (.bipush 41, 2) ∧ decode cX1_readOne 134 = .ok (.if_icmp .eq 5, 3) ∧ decode cX1_readOne 137 = .ok (.iconst 0, 1) := by decide +kernel
theorem dX1_readOne_115 : decode cX1_readOne 115 = .ok (.invokevirtual 42, 3) := zd02dec1_84.1
theorem dX1_readOne_118 : decode cX1_readOne 118 = .ok (.aload_n 0, 1) := zd02dec1_84.2.1
theorem dX1_readOne_119 : decode cX1_readOne 119 = .ok (.iload_n 1, 1) := zd02dec1_84.2.2.1
theorem dX1_readOne_120 : decode cX1_readOne 120 = .ok (.iconst 1, 1) := zd02dec1_84.2.2.2.1
theorem dX1_readOne_121 : decode cX1_readOne 121 = .ok (.iadd, 1) := zd02dec1_84.2.2.2.2.1
theorem dX1_readOne_122 : decode cX1_readOne 122 = .ok (.invokevirtual 48, 3) := zd02dec1_84.2.2.2.2.2.1
theorem dX1_readOne_125 : decode cX1_readOne 125 = .ok (.ifCond .eq 12, 3) := zd02dec1_84.2.2.2.2.2.2.1
theorem dX1_readOne_128 : decode cX1_readOne 128 = .ok (.aload_n 0, 1) := zd02dec1_84.2.2.2.2.2.2.2.1
theorem dX1_readOne_129 : decode cX1_readOne 129 = .ok (.getfield 45, 3) := zd02dec1_84.2.2.2.2.2.2.2.2.1
theorem dX1_readOne_132 : decode cX1_readOne 132 = .ok (.bipush 41, 2) := zd02dec1_84.2.2.2.2.2.2.2.2.2.1
theorem dX1_readOne_134 : decode cX1_readOne 134 = .ok (.if_icmp .eq 5, 3) := zd02dec1_84.2.2.2.2.2.2.2.2.2.2.1
theorem dX1_readOne_137 : decode cX1_readOne 137 = .ok (.iconst 0, 1) := zd02dec1_84.2.2.2.2.2.2.2.2.2.2.2
theorem zd02dec1_85 : decode cX1_readOne 138 = .ok (.ireturn, 1) ∧ decode cX1_readOne 139 = .ok (.aload_n 0, 1) ∧ decode cX1_readOne 140 = .ok (.invokevirtual 42, 3) ∧ decode cX1_readOne 143 = .ok (.iconst 1, 1) ∧ decode cX1_readOne 144 = .ok (.ireturn, 1) := by decide +kernel
theorem dX1_readOne_138 : decode cX1_readOne 138 = .ok (.ireturn, 1) := zd02dec1_85.1
theorem dX1_readOne_139 : decode cX1_readOne 139 = .ok (.aload_n 0, 1) := zd02dec1_85.2.1
theorem dX1_readOne_140 : decode cX1_readOne 140 = .ok (.invokevirtual 42, 3) := zd02dec1_85.2.2.1
theorem dX1_readOne_143 : decode cX1_readOne 143 = .ok (.iconst 1, 1) := zd02dec1_85.2.2.2.1
theorem dX1_readOne_144 : decode cX1_readOne 144 = .ok (.ireturn, 1) := zd02dec1_85.2.2.2.2
theorem zd02dec1_86 : decode cX1_next 0 = .ok (.aload_n 0, 1) ∧ decode cX1_next 1 = .ok (.getfield 23, 3) ∧ decode cX1_next 4 = .ok (.aload_n 0, 1) ∧ decode cX1_next 5 = .ok (.getfield 19, 3) ∧ decode cX1_next 8 = .ok (.if_icmp .ge 44, 3) ∧ decode cX1_next 11 = .ok (.aload_n 0, 1) ∧ decode cX1_next 12 = .ok (.getfield 9, 3) ∧ decode cX1_next 15 = .ok (.aload_n 0, 1) ∧ decode cX1_next 16 = .ok (.getfield 23, 3) ∧ decode cX1_next 19 = .ok (.iaload, 1) ∧ decode cX1_next 20 = .ok (.bipush 32, 2) ∧ decode cX1_next 22 = .ok (.if_icmp .eq 17, 3) := by decide +kernel
theorem dX1_next_0 : decode cX1_next 0 = .ok (.aload_n 0, 1) := zd02dec1_86.1
theorem dX1_next_1 : decode cX1_next 1 = .ok (.getfield 23, 3) := zd02dec1_86.2.1
theorem dX1_next_4 : decode cX1_next 4 = .ok (.aload_n 0, 1) := zd02dec1_86.2.2.1
theorem dX1_next_5 : decode cX1_next 5 = .ok (.getfield 19, 3) := zd02dec1_86.2.2.2.1
theorem dX1_next_8 : decode cX1_next 8 = .ok (.if_icmp .ge 44, 3) := zd02dec1_86.2.2.2.2.1
theorem dX1_next_11 : decode cX1_next 11 = .ok (.aload_n 0, 1) := zd02dec1_86.2.2.2.2.2.1
theorem dX1_next_12 : decode cX1_next 12 = .ok (.getfield 9, 3) := zd02dec1_86.2.2.2.2.2.2.1
theorem dX1_next_15 : decode cX1_next 15 = .ok (.aload_n 0, 1) := zd02dec1_86.2.2.2.2.2.2.2.1
theorem dX1_next_16 : decode cX1_next 16 = .ok (.getfield 23, 3) := zd02dec1_86.2.2.2.2.2.2.2.2.1
theorem dX1_next_19 : decode cX1_next 19 = .ok (.iaload, 1) := zd02dec1_86.2.2.2.2.2.2.2.2.2.1
theorem dX1_next_20 : decode cX1_next 20 = .ok (.bipush 32, 2) := zd02dec1_86.2.2.2.2.2.2.2.2.2.2.1
theorem dX1_next_22 : decode cX1_next 22 = .ok (.if_icmp .eq 17, 3) := zd02dec1_86.2.2.2.2.2.2.2.2.2.2.2
theorem zd02dec1_87 : decode cX1_next 25 = .ok (.aload_n 0, 1) ∧ decode cX1_next 26 = .ok (.getfield 9, 3) ∧ decode cX1_next 29 = .ok (.aload_n 0, 1) ∧ decode cX1_next 30 = .ok (.getfield 23, 3) ∧ decode cX1_next 33 = .ok (.iaload, 1) ∧ decode cX1_next 34 = .ok (.bipush 10, 2) ∧ decode cX1_next 36 = .ok (.if_icmp .ne 16, 3) ∧ decode cX1_next 39 = .ok (.aload_n 0, 1) ∧ decode cX1_next 40 = .ok (.dup, 1) ∧ decode cX1_next 41 = .ok (.getfield 23, 3) ∧ decode cX1_next 44 = .ok (.iconst 1, 1) ∧ decode cX1_next 45 = .ok (.iadd, 1) := by decide +kernel
theorem dX1_next_25 : decode cX1_next 25 = .ok (.aload_n 0, 1) := zd02dec1_87.1
theorem dX1_next_26 : decode cX1_next 26 = .ok (.getfield 9, 3) := zd02dec1_87.2.1
theorem dX1_next_29 : decode cX1_next 29 = .ok (.aload_n 0, 1) := zd02dec1_87.2.2.1
theorem dX1_next_30 : decode cX1_next 30 = .ok (.getfield 23, 3) := zd02dec1_87.2.2.2.1
theorem dX1_next_33 : decode cX1_next 33 = .ok (.iaload, 1) := zd02dec1_87.2.2.2.2.1
theorem dX1_next_34 : decode cX1_next 34 = .ok (.bipush 10, 2) := zd02dec1_87.2.2.2.2.2.1
theorem dX1_next_36 : decode cX1_next 36 = .ok (.if_icmp .ne 16, 3) := zd02dec1_87.2.2.2.2.2.2.1
theorem dX1_next_39 : decode cX1_next 39 = .ok (.aload_n 0, 1) := zd02dec1_87.2.2.2.2.2.2.2.1
theorem dX1_next_40 : decode cX1_next 40 = .ok (.dup, 1) := zd02dec1_87.2.2.2.2.2.2.2.2.1
theorem dX1_next_41 : decode cX1_next 41 = .ok (.getfield 23, 3) := zd02dec1_87.2.2.2.2.2.2.2.2.2.1
theorem dX1_next_44 : decode cX1_next 44 = .ok (.iconst 1, 1) := zd02dec1_87.2.2.2.2.2.2.2.2.2.2.1
theorem dX1_next_45 : decode cX1_next 45 = .ok (.iadd, 1) := zd02dec1_87.2.2.2.2.2.2.2.2.2.2.2
theorem zd02dec1_88 : decode cX1_next 46 = .ok (.putfield 23, 3) ∧ decode cX1_next 49 = .ok (.goto (-49), 3) ∧ decode cX1_next 52 = .ok (.aload_n 0, 1) ∧ decode cX1_next 53 = .ok (.aload_n 0, 1) ∧ decode cX1_next 54 = .ok (.getfield 23, 3) ∧ decode cX1_next 57 = .ok (.putfield 39, 3) ∧ decode cX1_next 60 = .ok (.aload_n 0, 1) ∧ decode cX1_next 61 = .ok (.getfield 23, 3) ∧ decode cX1_next 64 = .ok (.aload_n 0, 1) ∧ decode cX1_next 65 = .ok (.getfield 19, 3) ∧ decode cX1_next 68 = .ok (.if_icmp .lt 11, 3) ∧ decode cX1_next 71 = .ok (.aload_n 0, 1) := by decide +kernel
theorem dX1_next_46 : decode cX1_next 46 = .ok (.putfield 23, 3) := zd02dec1_88.1
theorem dX1_next_49 : decode cX1_next 49 = .ok (.goto (-49), 3) := zd02dec1_88.2.1
theorem dX1_next_52 : decode cX1_next 52 = .ok (.aload_n 0, 1) := zd02dec1_88.2.2.1
theorem dX1_next_53 : decode cX1_next 53 = .ok (.aload_n 0, 1) := zd02dec1_88.2.2.2.1
theorem dX1_next_54 : decode cX1_next 54 = .ok (.getfield 23, 3) := zd02dec1_88.2.2.2.2.1
theorem dX1_next_57 : decode cX1_next 57 = .ok (.putfield 39, 3) := zd02dec1_88.2.2.2.2.2.1
theorem dX1_next_60 : decode cX1_next 60 = .ok (.aload_n 0, 1) := zd02dec1_88.2.2.2.2.2.2.1
theorem dX1_next_61 : decode cX1_next 61 = .ok (.getfield 23, 3) := zd02dec1_88.2.2.2.2.2.2.2.1
theorem dX1_next_64 : decode cX1_next 64 = .ok (.aload_n 0, 1) := zd02dec1_88.2.2.2.2.2.2.2.2.1
theorem dX1_next_65 : decode cX1_next 65 = .ok (.getfield 19, 3) := zd02dec1_88.2.2.2.2.2.2.2.2.2.1
theorem dX1_next_68 : decode cX1_next 68 = .ok (.if_icmp .lt 11, 3) := zd02dec1_88.2.2.2.2.2.2.2.2.2.2.1
theorem dX1_next_71 : decode cX1_next 71 = .ok (.aload_n 0, 1) := zd02dec1_88.2.2.2.2.2.2.2.2.2.2.2
theorem zd02dec1_89 : decode cX1_next 72 = .ok (.iconst 0, 1) ∧ decode cX1_next 73 = .ok (.putfield 45, 3) ∧ decode cX1_next 76 = .ok (.goto 84, 3) ∧ decode cX1_next 79 = .ok (.aload_n 0, 1) ∧ decode cX1_next 80 = .ok (.aload_n 0, 1) ∧ decode cX1_next 81 = .ok (.getfield 23, 3) ∧ decode cX1_next 84 = .ok (.invokevirtual 77, 3) ∧ decode cX1_next 87 = .ok (.ifCond .eq 10, 3) ∧ decode cX1_next 90 = .ok (.aload_n 0, 1) ∧ decode cX1_next 91 = .ok (.invokevirtual 80, 3) ∧ decode cX1_next 94 = .ok (.goto 66, 3) ∧ decode cX1_next 97 = .ok (.aload_n 0, 1) := by decide +kernel
theorem dX1_next_72 : decode cX1_next 72 = .ok (.iconst 0, 1) := zd02dec1_89.1
theorem dX1_next_73 : decode cX1_next 73 = .ok (.putfield 45, 3) := zd02dec1_89.2.1
theorem dX1_next_76 : decode cX1_next 76 = .ok (.goto 84, 3) := zd02dec1_89.2.2.1
theorem dX1_next_79 : decode cX1_next 79 = .ok (.aload_n 0, 1) := zd02dec1_89.2.2.2.1
theorem dX1_next_80 : decode cX1_next 80 = .ok (.aload_n 0, 1) := zd02dec1_89.2.2.2.2.1
theorem dX1_next_81 : decode cX1_next 81 = .ok (.getfield 23, 3) := zd02dec1_89.2.2.2.2.2.1
theorem dX1_next_84 : decode cX1_next 84 = .ok (.invokevirtual 77, 3) := zd02dec1_89.2.2.2.2.2.2.1
theorem dX1_next_87 : decode cX1_next 87 = .ok (.ifCond .eq 10, 3) := zd02dec1_89.2.2.2.2.2.2.2.1
theorem dX1_next_90 : decode cX1_next 90 = .ok (.aload_n 0, 1) := zd02dec1_89.2.2.2.2.2.2.2.2.1
theorem dX1_next_91 : decode cX1_next 91 = .ok (.invokevirtual 80, 3) := zd02dec1_89.2.2.2.2.2.2.2.2.2.1
theorem dX1_next_94 : decode cX1_next 94 = .ok (.goto 66, 3) := zd02dec1_89.2.2.2.2.2.2.2.2.2.2.1
theorem dX1_next_97 : decode cX1_next 97 = .ok (.aload_n 0, 1) := zd02dec1_89.2.2.2.2.2.2.2.2.2.2.2
theorem zd02dec1_90 : decode cX1_next 98 = .ok (.aload_n 0, 1) ∧ decode cX1_next 99 = .ok (.getfield 23, 3) ∧ decode cX1_next 102 = .ok (.invokevirtual 83, 3) ∧ decode cX1_next 105 = .ok (.ifCond .eq 10, 3) ∧ decode cX1_next 108 = .ok (.aload_n 0, 1) ∧ decode cX1_next 109 = .ok (.invokevirtual 86, 3) ∧ decode cX1_next 112 = .ok (.goto 48, 3) ∧ decode cX1_next 115 = .ok (.aload_n 0, 1) ∧ decode cX1_next 116 = .ok (.ldc 89, 2) ∧ decode cX1_next 118 = .ok (.aload_n 0, 1) ∧ decode cX1_next 119 = .ok (.getfield 9, 3) ∧ decode cX1_next 122 = .ok (.aload_n 0, 1) := by decide +kernel
theorem dX1_next_98 : decode cX1_next 98 = .ok (.aload_n 0, 1) := zd02dec1_90.1
theorem dX1_next_99 : decode cX1_next 99 = .ok (.getfield 23, 3) := zd02dec1_90.2.1
theorem dX1_next_102 : decode cX1_next 102 = .ok (.invokevirtual 83, 3) := zd02dec1_90.2.2.1
theorem dX1_next_105 : decode cX1_next 105 = .ok (.ifCond .eq 10, 3) := zd02dec1_90.2.2.2.1
theorem dX1_next_108 : decode cX1_next 108 = .ok (.aload_n 0, 1) := zd02dec1_90.2.2.2.2.1
theorem dX1_next_109 : decode cX1_next 109 = .ok (.invokevirtual 86, 3) := zd02dec1_90.2.2.2.2.2.1
theorem dX1_next_112 : decode cX1_next 112 = .ok (.goto 48, 3) := zd02dec1_90.2.2.2.2.2.2.1
theorem dX1_next_115 : decode cX1_next 115 = .ok (.aload_n 0, 1) := zd02dec1_90.2.2.2.2.2.2.2.1
theorem dX1_next_116 : decode cX1_next 116 = .ok (.ldc 89, 2) := zd02dec1_90.2.2.2.2.2.2.2.2.1
theorem dX1_next_118 : decode cX1_next 118 = .ok (.aload_n 0, 1) := zd02dec1_90.2.2.2.2.2.2.2.2.2.1
theorem dX1_next_119 : decode cX1_next 119 = .ok (.getfield 9, 3) := zd02dec1_90.2.2.2.2.2.2.2.2.2.2.1
theorem dX1_next_122 : decode cX1_next 122 = .ok (.aload_n 0, 1) := zd02dec1_90.2.2.2.2.2.2.2.2.2.2.2
theorem zd02dec1_91 : decode cX1_next 123 = .ok (.getfield 23, 3) ∧ decode cX1_next 126 = .ok (.iaload, 1) ∧ decode cX1_next 127 = .ok (.i2c, 1) ∧ decode cX1_next 128 = .ok (.invokevirtual 91, 3) ∧ decode cX1_next 131 = .ok (.ifCond .lt 15, 3) ∧ decode cX1_next 134 = .ok (.aload_n 0, 1) ∧ decode cX1_next 135 = .ok (.getfield 9, 3) ∧ decode cX1_next 138 = .ok (.aload_n 0, 1) ∧ decode cX1_next 139 = .ok (.getfield 23, 3) ∧ decode cX1_next 142 = .ok (.iaload, 1) ∧ decode cX1_next 143 = .ok (.goto 4, 3) ∧ decode cX1_next 146 = .ok (.iconst 1, 1) := by decide +kernel
theorem dX1_next_123 : decode cX1_next 123 = .ok (.getfield 23, 3) := zd02dec1_91.1
theorem dX1_next_126 : decode cX1_next 126 = .ok (.iaload, 1) := zd02dec1_91.2.1
theorem dX1_next_127 : decode cX1_next 127 = .ok (.i2c, 1) := zd02dec1_91.2.2.1
theorem dX1_next_128 : decode cX1_next 128 = .ok (.invokevirtual 91, 3) := zd02dec1_91.2.2.2.1
theorem dX1_next_131 : decode cX1_next 131 = .ok (.ifCond .lt 15, 3) := zd02dec1_91.2.2.2.2.1
theorem dX1_next_134 : decode cX1_next 134 = .ok (.aload_n 0, 1) := zd02dec1_91.2.2.2.2.2.1
theorem dX1_next_135 : decode cX1_next 135 = .ok (.getfield 9, 3) := zd02dec1_91.2.2.2.2.2.2.1
theorem dX1_next_138 : decode cX1_next 138 = .ok (.aload_n 0, 1) := zd02dec1_91.2.2.2.2.2.2.2.1
theorem dX1_next_139 : decode cX1_next 139 = .ok (.getfield 23, 3) := zd02dec1_91.2.2.2.2.2.2.2.2.1
theorem dX1_next_142 : decode cX1_next 142 = .ok (.iaload, 1) := zd02dec1_91.2.2.2.2.2.2.2.2.2.1
theorem dX1_next_143 : decode cX1_next 143 = .ok (.goto 4, 3) := zd02dec1_91.2.2.2.2.2.2.2.2.2.2.1
theorem dX1_next_146 : decode cX1_next 146 = .ok (.iconst 1, 1) := zd02dec1_91.2.2.2.2.2.2.2.2.2.2.2
theorem zd02dec1_92 : decode cX1_next 147 = .ok (.putfield 45, 3) ∧ decode cX1_next 150 = .ok (.aload_n 0, 1) ∧ decode cX1_next 151 = .ok (.dup, 1) ∧ decode cX1_next 152 = .ok (.getfield 23, 3) ∧ decode cX1_next 155 = .ok (.iconst 1, 1) ∧ decode cX1_next 156 = .ok (.iadd, 1) ∧ decode cX1_next 157 = .ok (.putfield 23, 3) ∧ decode cX1_next 160 = .ok (.return_, 1) := by decide +kernel
theorem dX1_next_147 : decode cX1_next 147 = .ok (.putfield 45, 3) := zd02dec1_92.1
theorem dX1_next_150 : decode cX1_next 150 = .ok (.aload_n 0, 1) := zd02dec1_92.2.1
theorem dX1_next_151 : decode cX1_next 151 = .ok (.dup, 1) := zd02dec1_92.2.2.1
theorem dX1_next_152 : decode cX1_next 152 = .ok (.getfield 23, 3) := zd02dec1_92.2.2.2.1
theorem dX1_next_155 : decode cX1_next 155 = .ok (.iconst 1, 1) := zd02dec1_92.2.2.2.2.1
theorem dX1_next_156 : decode cX1_next 156 = .ok (.iadd, 1) := zd02dec1_92.2.2.2.2.2.1
theorem dX1_next_157 : decode cX1_next 157 = .ok (.putfield 23, 3) := zd02dec1_92.2.2.2.2.2.2.1
theorem dX1_next_160 : decode cX1_next 160 = .ok (.return_, 1) := zd02dec1_92.2.2.2.2.2.2.2
theorem zd02dec1_93 : decode cX1_nextWord 0 = .ok (.aload_n 0, 1) ∧ decode cX1_nextWord 1 = .ok (.getfield 23, 3) ∧ decode cX1_nextWord 4 = .ok (.aload_n 0, 1) ∧ decode cX1_nextWord 5 = .ok (.getfield 19, 3) ∧ decode cX1_nextWord 8 = .ok (.if_icmp .ge 27, 3) ∧ decode cX1_nextWord 11 = .ok (.aload_n 0, 1) ∧ decode cX1_nextWord 12 = .ok (.aload_n 0, 1) ∧ decode cX1_nextWord 13 = .ok (.getfield 23, 3) ∧ decode cX1_nextWord 16 = .ok (.invokevirtual 77, 3) ∧ decode cX1_nextWord 19 = .ok (.ifCond .eq 16, 3) ∧ decode cX1_nextWord 22 = .ok (.aload_n 0, 1) ∧ decode cX1_nextWord 23 = .ok (.dup, 1) := by decide +kernel
theorem dX1_nextWord_0 : decode cX1_nextWord 0 = .ok (.aload_n 0, 1) := zd02dec1_93.1
theorem dX1_nextWord_1 : decode cX1_nextWord 1 = .ok (.getfield 23, 3) := zd02dec1_93.2.1
theorem dX1_nextWord_4 : decode cX1_nextWord 4 = .ok (.aload_n 0, 1) := zd02dec1_93.2.2.1
theorem dX1_nextWord_5 : decode cX1_nextWord 5 = .ok (.getfield 19, 3) := zd02dec1_93.2.2.2.1
theorem dX1_nextWord_8 : decode cX1_nextWord 8 = .ok (.if_icmp .ge 27, 3) := zd02dec1_93.2.2.2.2.1
theorem dX1_nextWord_11 : decode cX1_nextWord 11 = .ok (.aload_n 0, 1) := zd02dec1_93.2.2.2.2.2.1
theorem dX1_nextWord_12 : decode cX1_nextWord 12 = .ok (.aload_n 0, 1) := zd02dec1_93.2.2.2.2.2.2.1
theorem dX1_nextWord_13 : decode cX1_nextWord 13 = .ok (.getfield 23, 3) := zd02dec1_93.2.2.2.2.2.2.2.1
theorem dX1_nextWord_16 : decode cX1_nextWord 16 = .ok (.invokevirtual 77, 3) := zd02dec1_93.2.2.2.2.2.2.2.2.1
theorem dX1_nextWord_19 : decode cX1_nextWord 19 = .ok (.ifCond .eq 16, 3) := zd02dec1_93.2.2.2.2.2.2.2.2.2.1
theorem dX1_nextWord_22 : decode cX1_nextWord 22 = .ok (.aload_n 0, 1) := zd02dec1_93.2.2.2.2.2.2.2.2.2.2.1
theorem dX1_nextWord_23 : decode cX1_nextWord 23 = .ok (.dup, 1) := zd02dec1_93.2.2.2.2.2.2.2.2.2.2.2
theorem zd02dec1_94 : decode cX1_nextWord 24 = .ok (.getfield 23, 3) ∧ decode cX1_nextWord 27 = .ok (.iconst 1, 1) ∧ decode cX1_nextWord 28 = .ok (.iadd, 1) ∧ decode cX1_nextWord 29 = .ok (.putfield 23, 3) ∧ decode cX1_nextWord 32 = .ok (.goto (-32), 3) ∧ decode cX1_nextWord 35 = .ok (.aload_n 0, 1) ∧ decode cX1_nextWord 36 = .ok (.iconst 1, 1) ∧ decode cX1_nextWord 37 = .ok (.putfield 45, 3) ∧ decode cX1_nextWord 40 = .ok (.iconst 0, 1) ∧ decode cX1_nextWord 41 = .ok (.istore_n 1, 1) ∧ decode cX1_nextWord 42 = .ok (.iload_n 1, 1) ∧ decode cX1_nextWord 43 = .ok (.bipush 12, 2) := by decide +kernel
theorem dX1_nextWord_24 : decode cX1_nextWord 24 = .ok (.getfield 23, 3) := zd02dec1_94.1
theorem dX1_nextWord_27 : decode cX1_nextWord 27 = .ok (.iconst 1, 1) := zd02dec1_94.2.1
theorem dX1_nextWord_28 : decode cX1_nextWord 28 = .ok (.iadd, 1) := zd02dec1_94.2.2.1
theorem dX1_nextWord_29 : decode cX1_nextWord 29 = .ok (.putfield 23, 3) := zd02dec1_94.2.2.2.1
theorem dX1_nextWord_32 : decode cX1_nextWord 32 = .ok (.goto (-32), 3) := zd02dec1_94.2.2.2.2.1
theorem dX1_nextWord_35 : decode cX1_nextWord 35 = .ok (.aload_n 0, 1) := zd02dec1_94.2.2.2.2.2.1
theorem dX1_nextWord_36 : decode cX1_nextWord 36 = .ok (.iconst 1, 1) := zd02dec1_94.2.2.2.2.2.2.1
theorem dX1_nextWord_37 : decode cX1_nextWord 37 = .ok (.putfield 45, 3) := zd02dec1_94.2.2.2.2.2.2.2.1
theorem dX1_nextWord_40 : decode cX1_nextWord 40 = .ok (.iconst 0, 1) := zd02dec1_94.2.2.2.2.2.2.2.2.1
theorem dX1_nextWord_41 : decode cX1_nextWord 41 = .ok (.istore_n 1, 1) := zd02dec1_94.2.2.2.2.2.2.2.2.2.1
theorem dX1_nextWord_42 : decode cX1_nextWord 42 = .ok (.iload_n 1, 1) := zd02dec1_94.2.2.2.2.2.2.2.2.2.2.1
theorem dX1_nextWord_43 : decode cX1_nextWord 43 = .ok (.bipush 12, 2) := zd02dec1_94.2.2.2.2.2.2.2.2.2.2.2
theorem zd02dec1_95 : decode cX1_nextWord 45 = .ok (.if_icmp .ge 46, 3) ∧ decode cX1_nextWord 48 = .ok (.aload_n 0, 1) ∧ decode cX1_nextWord 49 = .ok (.iload_n 1, 1) ∧ decode cX1_nextWord 50 = .ok (.invokestatic 97, 3) ∧ decode cX1_nextWord 53 = .ok (.invokevirtual 101, 3) ∧ decode cX1_nextWord 56 = .ok (.ifCond .eq 29, 3) ∧ decode cX1_nextWord 59 = .ok (.aload_n 0, 1) ∧ decode cX1_nextWord 60 = .ok (.iload_n 1, 1) ∧ decode cX1_nextWord 61 = .ok (.bipush 6, 2) ∧ decode cX1_nextWord 63 = .ok (.if_icmp .ge 10, 3) ∧ decode cX1_nextWord 66 = .ok (.bipush 100, 2) ∧ decode cX1_nextWord 68 = .ok (.iload_n 1, 1) := by decide +kernel
theorem dX1_nextWord_45 : decode cX1_nextWord 45 = .ok (.if_icmp .ge 46, 3) := zd02dec1_95.1
theorem dX1_nextWord_48 : decode cX1_nextWord 48 = .ok (.aload_n 0, 1) := zd02dec1_95.2.1
theorem dX1_nextWord_49 : decode cX1_nextWord 49 = .ok (.iload_n 1, 1) := zd02dec1_95.2.2.1
theorem dX1_nextWord_50 : decode cX1_nextWord 50 = .ok (.invokestatic 97, 3) := zd02dec1_95.2.2.2.1
theorem dX1_nextWord_53 : decode cX1_nextWord 53 = .ok (.invokevirtual 101, 3) := zd02dec1_95.2.2.2.2.1
theorem dX1_nextWord_56 : decode cX1_nextWord 56 = .ok (.ifCond .eq 29, 3) := zd02dec1_95.2.2.2.2.2.1
theorem dX1_nextWord_59 : decode cX1_nextWord 59 = .ok (.aload_n 0, 1) := zd02dec1_95.2.2.2.2.2.2.1
theorem dX1_nextWord_60 : decode cX1_nextWord 60 = .ok (.iload_n 1, 1) := zd02dec1_95.2.2.2.2.2.2.2.1
theorem dX1_nextWord_61 : decode cX1_nextWord 61 = .ok (.bipush 6, 2) := zd02dec1_95.2.2.2.2.2.2.2.2.1
theorem dX1_nextWord_63 : decode cX1_nextWord 63 = .ok (.if_icmp .ge 10, 3) := zd02dec1_95.2.2.2.2.2.2.2.2.2.1
theorem dX1_nextWord_66 : decode cX1_nextWord 66 = .ok (.bipush 100, 2) := zd02dec1_95.2.2.2.2.2.2.2.2.2.2.1
theorem dX1_nextWord_68 : decode cX1_nextWord 68 = .ok (.iload_n 1, 1) := zd02dec1_95.2.2.2.2.2.2.2.2.2.2.2
theorem zd02dec1_96 : decode cX1_nextWord 69 = .ok (.iadd, 1) ∧ decode cX1_nextWord 70 = .ok (.goto 4, 3) ∧ decode cX1_nextWord 73 = .ok (.iconst 3, 1) ∧ decode cX1_nextWord 74 = .ok (.putfield 45, 3) ∧ decode cX1_nextWord 77 = .ok (.aload_n 0, 1) ∧ decode cX1_nextWord 78 = .ok (.iload_n 1, 1) ∧ decode cX1_nextWord 79 = .ok (.bipush 6, 2) ∧ decode cX1_nextWord 81 = .ok (.isub, 1) ∧ decode cX1_nextWord 82 = .ok (.putfield 74, 3) ∧ decode cX1_nextWord 85 = .ok (.iinc 1 1, 3) ∧ decode cX1_nextWord 88 = .ok (.goto (-46), 3) ∧ decode cX1_nextWord 91 = .ok (.return_, 1) := by decide +kernel
theorem dX1_nextWord_69 : decode cX1_nextWord 69 = .ok (.iadd, 1) := zd02dec1_96.1
theorem dX1_nextWord_70 : decode cX1_nextWord 70 = .ok (.goto 4, 3) := zd02dec1_96.2.1
theorem dX1_nextWord_73 : decode cX1_nextWord 73 = .ok (.iconst 3, 1) := zd02dec1_96.2.2.1
theorem dX1_nextWord_74 : decode cX1_nextWord 74 = .ok (.putfield 45, 3) := zd02dec1_96.2.2.2.1
theorem dX1_nextWord_77 : decode cX1_nextWord 77 = .ok (.aload_n 0, 1) := zd02dec1_96.2.2.2.2.1
theorem dX1_nextWord_78 : decode cX1_nextWord 78 = .ok (.iload_n 1, 1) := zd02dec1_96.2.2.2.2.2.1
theorem dX1_nextWord_79 : decode cX1_nextWord 79 = .ok (.bipush 6, 2) := zd02dec1_96.2.2.2.2.2.2.1
theorem dX1_nextWord_81 : decode cX1_nextWord 81 = .ok (.isub, 1) := zd02dec1_96.2.2.2.2.2.2.2.1
theorem dX1_nextWord_82 : decode cX1_nextWord 82 = .ok (.putfield 74, 3) := zd02dec1_96.2.2.2.2.2.2.2.2.1
theorem dX1_nextWord_85 : decode cX1_nextWord 85 = .ok (.iinc 1 1, 3) := zd02dec1_96.2.2.2.2.2.2.2.2.2.1
theorem dX1_nextWord_88 : decode cX1_nextWord 88 = .ok (.goto (-46), 3) := zd02dec1_96.2.2.2.2.2.2.2.2.2.2.1
theorem dX1_nextWord_91 : decode cX1_nextWord 91 = .ok (.return_, 1) := zd02dec1_96.2.2.2.2.2.2.2.2.2.2.2
theorem zd02dec1_97 : decode cX1_nextNumber 0 = .ok (.aload_n 0, 1) ∧ decode cX1_nextNumber 1 = .ok (.iconst 0, 1) ∧ decode cX1_nextNumber 2 = .ok (.putfield 74, 3) ∧ decode cX1_nextNumber 5 = .ok (.aload_n 0, 1) ∧ decode cX1_nextNumber 6 = .ok (.getfield 23, 3) ∧ decode cX1_nextNumber 9 = .ok (.aload_n 0, 1) ∧ decode cX1_nextNumber 10 = .ok (.getfield 19, 3) ∧ decode cX1_nextNumber 13 = .ok (.if_icmp .ge 51, 3) ∧ decode cX1_nextNumber 16 = .ok (.aload_n 0, 1) ∧ decode cX1_nextNumber 17 = .ok (.aload_n 0, 1) ∧ decode cX1_nextNumber 18 = .ok (.getfield 23, 3) ∧ decode cX1_nextNumber 21 = .ok (.invokevirtual 83, 3) := by decide +kernel
theorem dX1_nextNumber_0 : decode cX1_nextNumber 0 = .ok (.aload_n 0, 1) := zd02dec1_97.1
theorem dX1_nextNumber_1 : decode cX1_nextNumber 1 = .ok (.iconst 0, 1) := zd02dec1_97.2.1
theorem dX1_nextNumber_2 : decode cX1_nextNumber 2 = .ok (.putfield 74, 3) := zd02dec1_97.2.2.1
theorem dX1_nextNumber_5 : decode cX1_nextNumber 5 = .ok (.aload_n 0, 1) := zd02dec1_97.2.2.2.1
theorem dX1_nextNumber_6 : decode cX1_nextNumber 6 = .ok (.getfield 23, 3) := zd02dec1_97.2.2.2.2.1
theorem dX1_nextNumber_9 : decode cX1_nextNumber 9 = .ok (.aload_n 0, 1) := zd02dec1_97.2.2.2.2.2.1
theorem dX1_nextNumber_10 : decode cX1_nextNumber 10 = .ok (.getfield 19, 3) := zd02dec1_97.2.2.2.2.2.2.1
theorem dX1_nextNumber_13 : decode cX1_nextNumber 13 = .ok (.if_icmp .ge 51, 3) := zd02dec1_97.2.2.2.2.2.2.2.1
theorem dX1_nextNumber_16 : decode cX1_nextNumber 16 = .ok (.aload_n 0, 1) := zd02dec1_97.2.2.2.2.2.2.2.2.1
theorem dX1_nextNumber_17 : decode cX1_nextNumber 17 = .ok (.aload_n 0, 1) := zd02dec1_97.2.2.2.2.2.2.2.2.2.1
theorem dX1_nextNumber_18 : decode cX1_nextNumber 18 = .ok (.getfield 23, 3) := zd02dec1_97.2.2.2.2.2.2.2.2.2.2.1
theorem dX1_nextNumber_21 : decode cX1_nextNumber 21 = .ok (.invokevirtual 83, 3) := zd02dec1_97.2.2.2.2.2.2.2.2.2.2.2
theorem zd02dec1_98 : decode cX1_nextNumber 24 = .ok (.ifCond .eq 40, 3) ∧ decode cX1_nextNumber 27 = .ok (.aload_n 0, 1) ∧ decode cX1_nextNumber 28 = .ok (.bipush 10, 2) ∧ decode cX1_nextNumber 30 = .ok (.aload_n 0, 1) ∧ decode cX1_nextNumber 31 = .ok (.getfield 74, 3) ∧ decode cX1_nextNumber 34 = .ok (.imul, 1) ∧ decode cX1_nextNumber 35 = .ok (.aload_n 0, 1) ∧ decode cX1_nextNumber 36 = .ok (.getfield 9, 3) ∧ decode cX1_nextNumber 39 = .ok (.aload_n 0, 1) ∧ decode cX1_nextNumber 40 = .ok (.getfield 23, 3) ∧ decode cX1_nextNumber 43 = .ok (.iaload, 1) ∧ decode cX1_nextNumber 44 = .ok (.bipush 48, 2) := by decide +kernel
theorem dX1_nextNumber_24 : decode cX1_nextNumber 24 = .ok (.ifCond .eq 40, 3) := zd02dec1_98.1
theorem dX1_nextNumber_27 : decode cX1_nextNumber 27 = .ok (.aload_n 0, 1) := zd02dec1_98.2.1
theorem dX1_nextNumber_28 : decode cX1_nextNumber 28 = .ok (.bipush 10, 2) := zd02dec1_98.2.2.1
theorem dX1_nextNumber_30 : decode cX1_nextNumber 30 = .ok (.aload_n 0, 1) := zd02dec1_98.2.2.2.1
theorem dX1_nextNumber_31 : decode cX1_nextNumber 31 = .ok (.getfield 74, 3) := zd02dec1_98.2.2.2.2.1
theorem dX1_nextNumber_34 : decode cX1_nextNumber 34 = .ok (.imul, 1) := zd02dec1_98.2.2.2.2.2.1
theorem dX1_nextNumber_35 : decode cX1_nextNumber 35 = .ok (.aload_n 0, 1) := zd02dec1_98.2.2.2.2.2.2.1
theorem dX1_nextNumber_36 : decode cX1_nextNumber 36 = .ok (.getfield 9, 3) := zd02dec1_98.2.2.2.2.2.2.2.1
theorem dX1_nextNumber_39 : decode cX1_nextNumber 39 = .ok (.aload_n 0, 1) := zd02dec1_98.2.2.2.2.2.2.2.2.1
theorem dX1_nextNumber_40 : decode cX1_nextNumber 40 = .ok (.getfield 23, 3) := zd02dec1_98.2.2.2.2.2.2.2.2.2.1
theorem dX1_nextNumber_43 : decode cX1_nextNumber 43 = .ok (.iaload, 1) := zd02dec1_98.2.2.2.2.2.2.2.2.2.2.1
theorem dX1_nextNumber_44 : decode cX1_nextNumber 44 = .ok (.bipush 48, 2) := zd02dec1_98.2.2.2.2.2.2.2.2.2.2.2
theorem zd02dec1_99 : decode cX1_nextNumber 46 = .ok (.isub, 1) ∧ decode cX1_nextNumber 47 = .ok (.iadd, 1) ∧ decode cX1_nextNumber 48 = .ok (.putfield 74, 3) ∧ decode cX1_nextNumber 51 = .ok (.aload_n 0, 1) ∧ decode cX1_nextNumber 52 = .ok (.dup, 1) ∧ decode cX1_nextNumber 53 = .ok (.getfield 23, 3) ∧ decode cX1_nextNumber 56 = .ok (.iconst 1, 1) ∧ decode cX1_nextNumber 57 = .ok (.iadd, 1) ∧ decode cX1_nextNumber 58 = .ok (.putfield 23, 3) ∧ decode cX1_nextNumber 61 = .ok (.goto (-56), 3) ∧ decode cX1_nextNumber 64 = .ok (.aload_n 0, 1) ∧ decode cX1_nextNumber 65 = .ok (.aload_n 0, 1) := by decide +kernel
theorem dX1_nextNumber_46 : decode cX1_nextNumber 46 = .ok (.isub, 1) := zd02dec1_99.1
theorem dX1_nextNumber_47 : decode cX1_nextNumber 47 = .ok (.iadd, 1) := zd02dec1_99.2.1
theorem dX1_nextNumber_48 : decode cX1_nextNumber 48 = .ok (.putfield 74, 3) := zd02dec1_99.2.2.1
theorem dX1_nextNumber_51 : decode cX1_nextNumber 51 = .ok (.aload_n 0, 1) := zd02dec1_99.2.2.2.1
theorem dX1_nextNumber_52 : decode cX1_nextNumber 52 = .ok (.dup, 1) := zd02dec1_99.2.2.2.2.1
theorem dX1_nextNumber_53 : decode cX1_nextNumber 53 = .ok (.getfield 23, 3) := zd02dec1_99.2.2.2.2.2.1
theorem dX1_nextNumber_56 : decode cX1_nextNumber 56 = .ok (.iconst 1, 1) := zd02dec1_99.2.2.2.2.2.2.1
theorem dX1_nextNumber_57 : decode cX1_nextNumber 57 = .ok (.iadd, 1) := zd02dec1_99.2.2.2.2.2.2.2.1
theorem dX1_nextNumber_58 : decode cX1_nextNumber 58 = .ok (.putfield 23, 3) := zd02dec1_99.2.2.2.2.2.2.2.2.1
theorem dX1_nextNumber_61 : decode cX1_nextNumber 61 = .ok (.goto (-56), 3) := zd02dec1_99.2.2.2.2.2.2.2.2.2.1
theorem dX1_nextNumber_64 : decode cX1_nextNumber 64 = .ok (.aload_n 0, 1) := zd02dec1_99.2.2.2.2.2.2.2.2.2.2.1
theorem dX1_nextNumber_65 : decode cX1_nextNumber 65 = .ok (.aload_n 0, 1) := zd02dec1_99.2.2.2.2.2.2.2.2.2.2.2
theorem zd02dec1_100 : decode cX1_nextNumber 66 = .ok (.getfield 23, 3) ∧ decode cX1_nextNumber 69 = .ok (.aload_n 0, 1) ∧ decode cX1_nextNumber 70 = .ok (.getfield 39, 3) ∧ decode cX1_nextNumber 73 = .ok (.isub, 1) ∧ decode cX1_nextNumber 74 = .ok (.iconst 4, 1) ∧ decode cX1_nextNumber 75 = .ok (.if_icmp .le 7, 3) ∧ decode cX1_nextNumber 78 = .ok (.iconst 1, 1) ∧ decode cX1_nextNumber 79 = .ok (.goto 4, 3) ∧ decode cX1_nextNumber 82 = .ok (.iconst 2, 1) ∧ decode cX1_nextNumber 83 = .ok (.putfield 45, 3) ∧ decode cX1_nextNumber 86 = .ok (.return_, 1) := by decide +kernel
theorem dX1_nextNumber_66 : decode cX1_nextNumber 66 = .ok (.getfield 23, 3) := zd02dec1_100.1
theorem dX1_nextNumber_69 : decode cX1_nextNumber 69 = .ok (.aload_n 0, 1) := zd02dec1_100.2.1
theorem dX1_nextNumber_70 : decode cX1_nextNumber 70 = .ok (.getfield 39, 3) := zd02dec1_100.2.2.1
theorem dX1_nextNumber_73 : decode cX1_nextNumber 73 = .ok (.isub, 1) := zd02dec1_100.2.2.2.1
theorem dX1_nextNumber_74 : decode cX1_nextNumber 74 = .ok (.iconst 4, 1) := zd02dec1_100.2.2.2.2.1
theorem dX1_nextNumber_75 : decode cX1_nextNumber 75 = .ok (.if_icmp .le 7, 3) := zd02dec1_100.2.2.2.2.2.1
theorem dX1_nextNumber_78 : decode cX1_nextNumber 78 = .ok (.iconst 1, 1) := zd02dec1_100.2.2.2.2.2.2.1
theorem dX1_nextNumber_79 : decode cX1_nextNumber 79 = .ok (.goto 4, 3) := zd02dec1_100.2.2.2.2.2.2.2.1
theorem dX1_nextNumber_82 : decode cX1_nextNumber 82 = .ok (.iconst 2, 1) := zd02dec1_100.2.2.2.2.2.2.2.2.1
theorem dX1_nextNumber_83 : decode cX1_nextNumber 83 = .ok (.putfield 45, 3) := zd02dec1_100.2.2.2.2.2.2.2.2.2.1
theorem dX1_nextNumber_86 : decode cX1_nextNumber 86 = .ok (.return_, 1) := zd02dec1_100.2.2.2.2.2.2.2.2.2.2
theorem zd02dec1_101 : decode cX1_isLetter 0 = .ok (.aload_n 0, 1) ∧ decode cX1_isLetter 1 = .ok (.getfield 9, 3) ∧ decode cX1_isLetter 4 = .ok (.iload_n 1, 1) ∧ decode cX1_isLetter 5 = .ok (.iaload, 1) ∧ decode cX1_isLetter 6 = .ok (.bipush 97, 2) ∧ decode cX1_isLetter 8 = .ok (.if_icmp .lt 18, 3) ∧ decode cX1_isLetter 11 = .ok (.aload_n 0, 1) ∧ decode cX1_isLetter 12 = .ok (.getfield 9, 3) ∧ decode cX1_isLetter 15 = .ok (.iload_n 1, 1) ∧ decode cX1_isLetter 16 = .ok (.iaload, 1) ∧ decode cX1_isLetter 17 = .ok (.bipush 122, 2) ∧ decode cX1_isLetter 19 = .ok (.if_icmp .gt 7, 3) := by decide +kernel
theorem dX1_isLetter_0 : decode cX1_isLetter 0 = .ok (.aload_n 0, 1) := zd02dec1_101.1
theorem dX1_isLetter_1 : decode cX1_isLetter 1 = .ok (.getfield 9, 3) := zd02dec1_101.2.1
theorem dX1_isLetter_4 : decode cX1_isLetter 4 = .ok (.iload_n 1, 1) := zd02dec1_101.2.2.1
theorem dX1_isLetter_5 : decode cX1_isLetter 5 = .ok (.iaload, 1) := zd02dec1_101.2.2.2.1
theorem dX1_isLetter_6 : decode cX1_isLetter 6 = .ok (.bipush 97, 2) := zd02dec1_101.2.2.2.2.1
theorem dX1_isLetter_8 : decode cX1_isLetter 8 = .ok (.if_icmp .lt 18, 3) := zd02dec1_101.2.2.2.2.2.1
theorem dX1_isLetter_11 : decode cX1_isLetter 11 = .ok (.aload_n 0, 1) := zd02dec1_101.2.2.2.2.2.2.1
theorem dX1_isLetter_12 : decode cX1_isLetter 12 = .ok (.getfield 9, 3) := zd02dec1_101.2.2.2.2.2.2.2.1
theorem dX1_isLetter_15 : decode cX1_isLetter 15 = .ok (.iload_n 1, 1) := zd02dec1_101.2.2.2.2.2.2.2.2.1
theorem dX1_isLetter_16 : decode cX1_isLetter 16 = .ok (.iaload, 1) := zd02dec1_101.2.2.2.2.2.2.2.2.2.1
theorem dX1_isLetter_17 : decode cX1_isLetter 17 = .ok (.bipush 122, 2) := zd02dec1_101.2.2.2.2.2.2.2.2.2.2.1
theorem dX1_isLetter_19 : decode cX1_isLetter 19 = .ok (.if_icmp .gt 7, 3) := zd02dec1_101.2.2.2.2.2.2.2.2.2.2.2
theorem zd02dec1_102 : decode cX1_isLetter 22 = .ok (.iconst 1, 1) ∧ decode cX1_isLetter 23 = .ok (.goto 4, 3) ∧ decode cX1_isLetter 26 = .ok (.iconst 0, 1) ∧ decode cX1_isLetter 27 = .ok (.ireturn, 1) := by decide +kernel
theorem dX1_isLetter_22 : decode cX1_isLetter 22 = .ok (.iconst 1, 1) := zd02dec1_102.1
theorem dX1_isLetter_23 : decode cX1_isLetter 23 = .ok (.goto 4, 3) := zd02dec1_102.2.1
theorem dX1_isLetter_26 : decode cX1_isLetter 26 = .ok (.iconst 0, 1) := zd02dec1_102.2.2.1
theorem dX1_isLetter_27 : decode cX1_isLetter 27 = .ok (.ireturn, 1) := zd02dec1_102.2.2.2
theorem zd02dec1_103 : decode cX1_isDigit 0 = .ok (.aload_n 0, 1) ∧ decode cX1_isDigit 1 = .ok (.getfield 9, 3) ∧ decode cX1_isDigit 4 = .ok (.iload_n 1, 1) ∧ decode cX1_isDigit 5 = .ok (.iaload, 1) ∧ decode cX1_isDigit 6 = .ok (.bipush 48, 2) ∧ decode cX1_isDigit 8 = .ok (.if_icmp .lt 18, 3) ∧ decode cX1_isDigit 11 = .ok (.aload_n 0, 1) ∧ decode cX1_isDigit 12 = .ok (.getfield 9, 3) ∧ decode cX1_isDigit 15 = .ok (.iload_n 1, 1) ∧ decode cX1_isDigit 16 = .ok (.iaload, 1) ∧ decode cX1_isDigit 17 = .ok (.bipush 57, 2) ∧ decode cX1_isDigit 19 = .ok (.if_icmp .gt 7, 3) := by decide +kernel
theorem dX1_isDigit_0 : decode cX1_isDigit 0 = .ok (.aload_n 0, 1) := zd02dec1_103.1
theorem dX1_isDigit_1 : decode cX1_isDigit 1 = .ok (.getfield 9, 3) := zd02dec1_103.2.1
theorem dX1_isDigit_4 : decode cX1_isDigit 4 = .ok (.iload_n 1, 1) := zd02dec1_103.2.2.1
theorem dX1_isDigit_5 : decode cX1_isDigit 5 = .ok (.iaload, 1) := zd02dec1_103.2.2.2.1
theorem dX1_isDigit_6 : decode cX1_isDigit 6 = .ok (.bipush 48, 2) := zd02dec1_103.2.2.2.2.1
theorem dX1_isDigit_8 : decode cX1_isDigit 8 = .ok (.if_icmp .lt 18, 3) := zd02dec1_103.2.2.2.2.2.1
theorem dX1_isDigit_11 : decode cX1_isDigit 11 = .ok (.aload_n 0, 1) := zd02dec1_103.2.2.2.2.2.2.1
theorem dX1_isDigit_12 : decode cX1_isDigit 12 = .ok (.getfield 9, 3) := zd02dec1_103.2.2.2.2.2.2.2.1
theorem dX1_isDigit_15 : decode cX1_isDigit 15 = .ok (.iload_n 1, 1) := zd02dec1_103.2.2.2.2.2.2.2.2.1
theorem dX1_isDigit_16 : decode cX1_isDigit 16 = .ok (.iaload, 1) := zd02dec1_103.2.2.2.2.2.2.2.2.2.1
theorem dX1_isDigit_17 : decode cX1_isDigit 17 = .ok (.bipush 57, 2) := zd02dec1_103.2.2.2.2.2.2.2.2.2.2.1
theorem dX1_isDigit_19 : decode cX1_isDigit 19 = .ok (.if_icmp .gt 7, 3) := zd02dec1_103.2.2.2.2.2.2.2.2.2.2.2
theorem zd02dec1_104 : decode cX1_isDigit 22 = .ok (.iconst 1, 1) ∧ decode cX1_isDigit 23 = .ok (.goto 4, 3) ∧ decode cX1_isDigit 26 = .ok (.iconst 0, 1) ∧ decode cX1_isDigit 27 = .ok (.ireturn, 1) := by decide +kernel
theorem dX1_isDigit_22 : decode cX1_isDigit 22 = .ok (.iconst 1, 1) := zd02dec1_104.1
theorem dX1_isDigit_23 : decode cX1_isDigit 23 = .ok (.goto 4, 3) := zd02dec1_104.2.1
theorem dX1_isDigit_26 : decode cX1_isDigit 26 = .ok (.iconst 0, 1) := zd02dec1_104.2.2.1
theorem dX1_isDigit_27 : decode cX1_isDigit 27 = .ok (.ireturn, 1) := zd02dec1_104.2.2.2
theorem zd02dec1_105 : decode cX1_isSpelled 0 = .ok (.aload_n 0, 1) ∧ decode cX1_isSpelled 1 = .ok (.getfield 23, 3) ∧ decode cX1_isSpelled 4 = .ok (.aload_n 0, 1) ∧ decode cX1_isSpelled 5 = .ok (.getfield 39, 3) ∧ decode cX1_isSpelled 8 = .ok (.isub, 1) ∧ decode cX1_isSpelled 9 = .ok (.aload_n 1, 1) ∧ decode cX1_isSpelled 10 = .ok (.invokevirtual 105, 3) ∧ decode cX1_isSpelled 13 = .ok (.if_icmp .eq 5, 3) ∧ decode cX1_isSpelled 16 = .ok (.iconst 0, 1) ∧ decode cX1_isSpelled 17 = .ok (.ireturn, 1) ∧ decode cX1_isSpelled 18 = .ok (.iconst 0, 1) ∧ decode cX1_isSpelled 19 = .ok (.istore_n 2, 1) := by decide +kernel
theorem dX1_isSpelled_0 : decode cX1_isSpelled 0 = .ok (.aload_n 0, 1) := zd02dec1_105.1
theorem dX1_isSpelled_1 : decode cX1_isSpelled 1 = .ok (.getfield 23, 3) := zd02dec1_105.2.1
theorem dX1_isSpelled_4 : decode cX1_isSpelled 4 = .ok (.aload_n 0, 1) := zd02dec1_105.2.2.1
theorem dX1_isSpelled_5 : decode cX1_isSpelled 5 = .ok (.getfield 39, 3) := zd02dec1_105.2.2.2.1
theorem dX1_isSpelled_8 : decode cX1_isSpelled 8 = .ok (.isub, 1) := zd02dec1_105.2.2.2.2.1
theorem dX1_isSpelled_9 : decode cX1_isSpelled 9 = .ok (.aload_n 1, 1) := zd02dec1_105.2.2.2.2.2.1
theorem dX1_isSpelled_10 : decode cX1_isSpelled 10 = .ok (.invokevirtual 105, 3) := zd02dec1_105.2.2.2.2.2.2.1
theorem dX1_isSpelled_13 : decode cX1_isSpelled 13 = .ok (.if_icmp .eq 5, 3) := zd02dec1_105.2.2.2.2.2.2.2.1
theorem dX1_isSpelled_16 : decode cX1_isSpelled 16 = .ok (.iconst 0, 1) := zd02dec1_105.2.2.2.2.2.2.2.2.1
theorem dX1_isSpelled_17 : decode cX1_isSpelled 17 = .ok (.ireturn, 1) := zd02dec1_105.2.2.2.2.2.2.2.2.2.1
theorem dX1_isSpelled_18 : decode cX1_isSpelled 18 = .ok (.iconst 0, 1) := zd02dec1_105.2.2.2.2.2.2.2.2.2.2.1
theorem dX1_isSpelled_19 : decode cX1_isSpelled 19 = .ok (.istore_n 2, 1) := zd02dec1_105.2.2.2.2.2.2.2.2.2.2.2
theorem zd02dec1_106 : decode cX1_isSpelled 20 = .ok (.iload_n 2, 1) ∧ decode cX1_isSpelled 21 = .ok (.aload_n 1, 1) ∧ decode cX1_isSpelled 22 = .ok (.invokevirtual 105, 3) ∧ decode cX1_isSpelled 25 = .ok (.if_icmp .ge 30, 3) ∧ decode cX1_isSpelled 28 = .ok (.aload_n 0, 1) ∧ decode cX1_isSpelled 29 = .ok (.getfield 9, 3) ∧ decode cX1_isSpelled 32 = .ok (.aload_n 0, 1) ∧ decode cX1_isSpelled 33 = .ok (.getfield 39, 3) ∧ decode cX1_isSpelled 36 = .ok (.iload_n 2, 1) ∧ decode cX1_isSpelled 37 = .ok (.iadd, 1) ∧ decode cX1_isSpelled 38 = .ok (.iaload, 1) ∧ decode cX1_isSpelled 39 = .ok (.aload_n 1, 1) := by decide +kernel
theorem dX1_isSpelled_20 : decode cX1_isSpelled 20 = .ok (.iload_n 2, 1) := zd02dec1_106.1
theorem dX1_isSpelled_21 : decode cX1_isSpelled 21 = .ok (.aload_n 1, 1) := zd02dec1_106.2.1
theorem dX1_isSpelled_22 : decode cX1_isSpelled 22 = .ok (.invokevirtual 105, 3) := zd02dec1_106.2.2.1
theorem dX1_isSpelled_25 : decode cX1_isSpelled 25 = .ok (.if_icmp .ge 30, 3) := zd02dec1_106.2.2.2.1
theorem dX1_isSpelled_28 : decode cX1_isSpelled 28 = .ok (.aload_n 0, 1) := zd02dec1_106.2.2.2.2.1
theorem dX1_isSpelled_29 : decode cX1_isSpelled 29 = .ok (.getfield 9, 3) := zd02dec1_106.2.2.2.2.2.1
theorem dX1_isSpelled_32 : decode cX1_isSpelled 32 = .ok (.aload_n 0, 1) := zd02dec1_106.2.2.2.2.2.2.1
theorem dX1_isSpelled_33 : decode cX1_isSpelled 33 = .ok (.getfield 39, 3) := zd02dec1_106.2.2.2.2.2.2.2.1
theorem dX1_isSpelled_36 : decode cX1_isSpelled 36 = .ok (.iload_n 2, 1) := zd02dec1_106.2.2.2.2.2.2.2.2.1
theorem dX1_isSpelled_37 : decode cX1_isSpelled 37 = .ok (.iadd, 1) := zd02dec1_106.2.2.2.2.2.2.2.2.2.1
theorem dX1_isSpelled_38 : decode cX1_isSpelled 38 = .ok (.iaload, 1) := zd02dec1_106.2.2.2.2.2.2.2.2.2.2.1
theorem dX1_isSpelled_39 : decode cX1_isSpelled 39 = .ok (.aload_n 1, 1) := zd02dec1_106.2.2.2.2.2.2.2.2.2.2.2
theorem zd02dec1_107 : decode cX1_isSpelled 40 = .ok (.iload_n 2, 1) ∧ decode cX1_isSpelled 41 = .ok (.invokevirtual 107, 3) ∧ decode cX1_isSpelled 44 = .ok (.if_icmp .eq 5, 3) ∧ decode cX1_isSpelled 47 = .ok (.iconst 0, 1) ∧ decode cX1_isSpelled 48 = .ok (.ireturn, 1) ∧ decode cX1_isSpelled 49 = .ok (.iinc 2 1, 3) ∧ decode cX1_isSpelled 52 = .ok (.goto (-32), 3) ∧ decode cX1_isSpelled 55 = .ok (.iconst 1, 1) ∧ decode cX1_isSpelled 56 = .ok (.ireturn, 1) := by decide +kernel
theorem dX1_isSpelled_40 : decode cX1_isSpelled 40 = .ok (.iload_n 2, 1) := zd02dec1_107.1
theorem dX1_isSpelled_41 : decode cX1_isSpelled 41 = .ok (.invokevirtual 107, 3) := zd02dec1_107.2.1
theorem dX1_isSpelled_44 : decode cX1_isSpelled 44 = .ok (.if_icmp .eq 5, 3) := zd02dec1_107.2.2.1
theorem dX1_isSpelled_47 : decode cX1_isSpelled 47 = .ok (.iconst 0, 1) := zd02dec1_107.2.2.2.1
theorem dX1_isSpelled_48 : decode cX1_isSpelled 48 = .ok (.ireturn, 1) := zd02dec1_107.2.2.2.2.1
theorem dX1_isSpelled_49 : decode cX1_isSpelled 49 = .ok (.iinc 2 1, 3) := zd02dec1_107.2.2.2.2.2.1
theorem dX1_isSpelled_52 : decode cX1_isSpelled 52 = .ok (.goto (-32), 3) := zd02dec1_107.2.2.2.2.2.2.1
theorem dX1_isSpelled_55 : decode cX1_isSpelled 55 = .ok (.iconst 1, 1) := zd02dec1_107.2.2.2.2.2.2.2.1
theorem dX1_isSpelled_56 : decode cX1_isSpelled 56 = .ok (.ireturn, 1) := zd02dec1_107.2.2.2.2.2.2.2.2
theorem zd02dec1_108 : decode cX1_word 0 = .ok (.iload_n 0, 1) ∧ decode cX1_word 1 = .ok (.tableswitch 92 0 10 #[59, 62, 65, 68, 71, 74, 77, 80, 83, 86, 89], 59) ∧ decode cX1_word 60 = .ok (.ldc 111, 2) ∧ decode cX1_word 62 = .ok (.areturn, 1) ∧ decode cX1_word 63 = .ok (.ldc 113, 2) ∧ decode cX1_word 65 = .ok (.areturn, 1) ∧ decode cX1_word 66 = .ok (.ldc 115, 2) ∧ decode cX1_word 68 = .ok (.areturn, 1) ∧ decode cX1_word 69 = .ok (.ldc 117, 2) ∧ decode cX1_word 71 = .ok (.areturn, 1) ∧ decode cX1_word 72 = .ok (.ldc 119, 2) ∧ decode cX1_word 74 = .ok (.areturn, 1) := by decide +kernel
theorem dX1_word_0 : decode cX1_word 0 = .ok (.iload_n 0, 1) := zd02dec1_108.1
theorem dX1_word_1 : decode cX1_word 1 = .ok (.tableswitch 92 0 10 #[59, 62, 65, 68, 71, 74, 77, 80, 83, 86, 89], 59) := zd02dec1_108.2.1
theorem dX1_word_60 : decode cX1_word 60 = .ok (.ldc 111, 2) := zd02dec1_108.2.2.1
theorem dX1_word_62 : decode cX1_word 62 = .ok (.areturn, 1) := zd02dec1_108.2.2.2.1
theorem dX1_word_63 : decode cX1_word 63 = .ok (.ldc 113, 2) := zd02dec1_108.2.2.2.2.1
theorem dX1_word_65 : decode cX1_word 65 = .ok (.areturn, 1) := zd02dec1_108.2.2.2.2.2.1
theorem dX1_word_66 : decode cX1_word 66 = .ok (.ldc 115, 2) := zd02dec1_108.2.2.2.2.2.2.1
theorem dX1_word_68 : decode cX1_word 68 = .ok (.areturn, 1) := zd02dec1_108.2.2.2.2.2.2.2.1
theorem dX1_word_69 : decode cX1_word 69 = .ok (.ldc 117, 2) := zd02dec1_108.2.2.2.2.2.2.2.2.1
theorem dX1_word_71 : decode cX1_word 71 = .ok (.areturn, 1) := zd02dec1_108.2.2.2.2.2.2.2.2.2.1
theorem dX1_word_72 : decode cX1_word 72 = .ok (.ldc 119, 2) := zd02dec1_108.2.2.2.2.2.2.2.2.2.2.1
theorem dX1_word_74 : decode cX1_word 74 = .ok (.areturn, 1) := zd02dec1_108.2.2.2.2.2.2.2.2.2.2.2
theorem zd02dec1_109 : decode cX1_word 75 = .ok (.ldc 121, 2) ∧ decode cX1_word 77 = .ok (.areturn, 1) ∧ decode cX1_word 78 = .ok (.ldc 123, 2) ∧ decode cX1_word 80 = .ok (.areturn, 1) ∧ decode cX1_word 81 = .ok (.ldc 125, 2) ∧ decode cX1_word 83 = .ok (.areturn, 1) ∧ decode cX1_word 84 = .ok (.ldc 127, 2) ∧ decode cX1_word 86 = .ok (.areturn, 1) ∧ decode cX1_word 87 = .ok (.ldc 129, 2) ∧ decode cX1_word 89 = .ok (.areturn, 1) ∧ decode cX1_word 90 = .ok (.ldc 131, 2) ∧ decode cX1_word 92 = .ok (.areturn, 1) := by decide +kernel
theorem dX1_word_75 : decode cX1_word 75 = .ok (.ldc 121, 2) := zd02dec1_109.1
theorem dX1_word_77 : decode cX1_word 77 = .ok (.areturn, 1) := zd02dec1_109.2.1
theorem dX1_word_78 : decode cX1_word 78 = .ok (.ldc 123, 2) := zd02dec1_109.2.2.1
theorem dX1_word_80 : decode cX1_word 80 = .ok (.areturn, 1) := zd02dec1_109.2.2.2.1
theorem dX1_word_81 : decode cX1_word 81 = .ok (.ldc 125, 2) := zd02dec1_109.2.2.2.2.1
theorem dX1_word_83 : decode cX1_word 83 = .ok (.areturn, 1) := zd02dec1_109.2.2.2.2.2.1
theorem dX1_word_84 : decode cX1_word 84 = .ok (.ldc 127, 2) := zd02dec1_109.2.2.2.2.2.2.1
theorem dX1_word_86 : decode cX1_word 86 = .ok (.areturn, 1) := zd02dec1_109.2.2.2.2.2.2.2.1
theorem dX1_word_87 : decode cX1_word 87 = .ok (.ldc 129, 2) := zd02dec1_109.2.2.2.2.2.2.2.2.1
theorem dX1_word_89 : decode cX1_word 89 = .ok (.areturn, 1) := zd02dec1_109.2.2.2.2.2.2.2.2.2.1
theorem dX1_word_90 : decode cX1_word 90 = .ok (.ldc 131, 2) := zd02dec1_109.2.2.2.2.2.2.2.2.2.2.1
theorem dX1_word_92 : decode cX1_word 92 = .ok (.areturn, 1) := zd02dec1_109.2.2.2.2.2.2.2.2.2.2.2
theorem zd02dec1_110 : decode cX1_word 93 = .ok (.ldc 133, 2) ∧ decode cX1_word 95 = .ok (.areturn, 1) := by decide +kernel
theorem dX1_word_93 : decode cX1_word 93 = .ok (.ldc 133, 2) := zd02dec1_110.1
theorem dX1_word_95 : decode cX1_word 95 = .ok (.areturn, 1) := zd02dec1_110.2
theorem zd02dec1_111 : decode cX2_init 0 = .ok (.aload_n 0, 1) ∧ decode cX2_init 1 = .ok (.invokespecial 3, 3) ∧ decode cX2_init 4 = .ok (.aload_n 0, 1) ∧ decode cX2_init 5 = .ok (.iconst 4, 1) ∧ decode cX2_init 6 = .ok (.bipush 40, 2) ∧ decode cX2_init 8 = .ok (.multianewarray 9 2, 4) ∧ decode cX2_init 12 = .ok (.putfield 11, 3) ∧ decode cX2_init 15 = .ok (.aload_n 0, 1) ∧ decode cX2_init 16 = .ok (.iconst 4, 1) ∧ decode cX2_init 17 = .ok (.newarray .int, 2) ∧ decode cX2_init 19 = .ok (.putfield 16, 3) ∧ decode cX2_init 22 = .ok (.aload_n 0, 1) := by decide +kernel
theorem dX2_init_0 : decode cX2_init 0 = .ok (.aload_n 0, 1) := zd02dec1_111.1
theorem dX2_init_1 : decode cX2_init 1 = .ok (.invokespecial 3, 3) := zd02dec1_111.2.1
theorem dX2_init_4 : decode cX2_init 4 = .ok (.aload_n 0, 1) := zd02dec1_111.2.2.1
theorem dX2_init_5 : decode cX2_init 5 = .ok (.iconst 4, 1) := zd02dec1_111.2.2.2.1
theorem dX2_init_6 : decode cX2_init 6 = .ok (.bipush 40, 2) := zd02dec1_111.2.2.2.2.1
theorem dX2_init_8 : decode cX2_init 8 = .ok (.multianewarray 9 2, 4) := zd02dec1_111.2.2.2.2.2.1
theorem dX2_init_12 : decode cX2_init 12 = .ok (.putfield 11, 3) := zd02dec1_111.2.2.2.2.2.2.1
theorem dX2_init_15 : decode cX2_init 15 = .ok (.aload_n 0, 1) := zd02dec1_111.2.2.2.2.2.2.2.1
theorem dX2_init_16 : decode cX2_init 16 = .ok (.iconst 4, 1) := zd02dec1_111.2.2.2.2.2.2.2.2.1
theorem dX2_init_17 : decode cX2_init 17 = .ok (.newarray .int, 2) := zd02dec1_111.2.2.2.2.2.2.2.2.2.1
theorem dX2_init_19 : decode cX2_init 19 = .ok (.putfield 16, 3) := zd02dec1_111.2.2.2.2.2.2.2.2.2.2.1
theorem dX2_init_22 : decode cX2_init 22 = .ok (.aload_n 0, 1) := zd02dec1_111.2.2.2.2.2.2.2.2.2.2.2
theorem zd02dec1_112 : decode cX2_init 23 = .ok (.iconst 4, 1) ∧ decode cX2_init 24 = .ok (.newarray .int, 2) ∧ decode cX2_init 26 = .ok (.putfield 20, 3) ∧ decode cX2_init 29 = .ok (.aload_n 0, 1) ∧ decode cX2_init 30 = .ok (.getfield 16, 3) ∧ decode cX2_init 33 = .ok (.iconst (-1), 1) ∧ decode cX2_init 34 = .ok (.invokestatic 23, 3) ∧ decode cX2_init 37 = .ok (.return_, 1) := by decide +kernel
theorem dX2_init_23 : decode cX2_init 23 = .ok (.iconst 4, 1) := zd02dec1_112.1
theorem dX2_init_24 : decode cX2_init 24 = .ok (.newarray .int, 2) := zd02dec1_112.2.1
theorem dX2_init_26 : decode cX2_init 26 = .ok (.putfield 20, 3) := zd02dec1_112.2.2.1
theorem dX2_init_29 : decode cX2_init 29 = .ok (.aload_n 0, 1) := zd02dec1_112.2.2.2.1
theorem dX2_init_30 : decode cX2_init 30 = .ok (.getfield 16, 3) := zd02dec1_112.2.2.2.2.1
theorem dX2_init_33 : decode cX2_init 33 = .ok (.iconst (-1), 1) := zd02dec1_112.2.2.2.2.2.1
theorem dX2_init_34 : decode cX2_init 34 = .ok (.invokestatic 23, 3) := zd02dec1_112.2.2.2.2.2.2.1
theorem dX2_init_37 : decode cX2_init 37 = .ok (.return_, 1) := zd02dec1_112.2.2.2.2.2.2.2
theorem zd02dec1_113 : decode cX2_isSheet 0 = .ok (.iload_n 1, 1) ∧ decode cX2_isSheet 1 = .ok (.iconst 3, 1) ∧ decode cX2_isSheet 2 = .ok (.invokestatic 29, 3) ∧ decode cX2_isSheet 5 = .ok (.ireturn, 1) := by decide +kernel
theorem dX2_isSheet_0 : decode cX2_isSheet 0 = .ok (.iload_n 1, 1) := zd02dec1_113.1
theorem dX2_isSheet_1 : decode cX2_isSheet 1 = .ok (.iconst 3, 1) := zd02dec1_113.2.1
theorem dX2_isSheet_2 : decode cX2_isSheet 2 = .ok (.invokestatic 29, 3) := zd02dec1_113.2.2.1
theorem dX2_isSheet_5 : decode cX2_isSheet 5 = .ok (.ireturn, 1) := zd02dec1_113.2.2.2
theorem zd02dec1_114 : decode cX2_become 0 = .ok (.aload_n 0, 1) ∧ decode cX2_become 1 = .ok (.getfield 16, 3) ∧ decode cX2_become 4 = .ok (.iload_n 1, 1) ∧ decode cX2_become 5 = .ok (.iload_n 2, 1) ∧ decode cX2_become 6 = .ok (.iastore, 1) ∧ decode cX2_become 7 = .ok (.aload_n 0, 1) ∧ decode cX2_become 8 = .ok (.getfield 20, 3) ∧ decode cX2_become 11 = .ok (.iload_n 1, 1) ∧ decode cX2_become 12 = .ok (.iload_n 3, 1) ∧ decode cX2_become 13 = .ok (.iastore, 1) ∧ decode cX2_become 14 = .ok (.aload_n 0, 1) ∧ decode cX2_become 15 = .ok (.getfield 11, 3) := by decide +kernel
theorem dX2_become_0 : decode cX2_become 0 = .ok (.aload_n 0, 1) := zd02dec1_114.1
theorem dX2_become_1 : decode cX2_become 1 = .ok (.getfield 16, 3) := zd02dec1_114.2.1
theorem dX2_become_4 : decode cX2_become 4 = .ok (.iload_n 1, 1) := zd02dec1_114.2.2.1
theorem dX2_become_5 : decode cX2_become 5 = .ok (.iload_n 2, 1) := zd02dec1_114.2.2.2.1
theorem dX2_become_6 : decode cX2_become 6 = .ok (.iastore, 1) := zd02dec1_114.2.2.2.2.1
theorem dX2_become_7 : decode cX2_become 7 = .ok (.aload_n 0, 1) := zd02dec1_114.2.2.2.2.2.1
theorem dX2_become_8 : decode cX2_become 8 = .ok (.getfield 20, 3) := zd02dec1_114.2.2.2.2.2.2.1
theorem dX2_become_11 : decode cX2_become 11 = .ok (.iload_n 1, 1) := zd02dec1_114.2.2.2.2.2.2.2.1
theorem dX2_become_12 : decode cX2_become 12 = .ok (.iload_n 3, 1) := zd02dec1_114.2.2.2.2.2.2.2.2.1
theorem dX2_become_13 : decode cX2_become 13 = .ok (.iastore, 1) := zd02dec1_114.2.2.2.2.2.2.2.2.2.1
theorem dX2_become_14 : decode cX2_become 14 = .ok (.aload_n 0, 1) := zd02dec1_114.2.2.2.2.2.2.2.2.2.2.1
theorem dX2_become_15 : decode cX2_become 15 = .ok (.getfield 11, 3) := zd02dec1_114.2.2.2.2.2.2.2.2.2.2.2
theorem zd02dec1_115 : decode cX2_become 18 = .ok (.iload_n 1, 1) ∧ decode cX2_become 19 = .ok (.aaload, 1) ∧ decode cX2_become 20 = .ok (.iconst 0, 1) ∧ decode cX2_become 21 = .ok (.invokestatic 23, 3) ∧ decode cX2_become 24 = .ok (.return_, 1) := by decide +kernel
theorem dX2_become_18 : decode cX2_become 18 = .ok (.iload_n 1, 1) := zd02dec1_115.1
theorem dX2_become_19 : decode cX2_become 19 = .ok (.aaload, 1) := zd02dec1_115.2.1
theorem dX2_become_20 : decode cX2_become 20 = .ok (.iconst 0, 1) := zd02dec1_115.2.2.1
theorem dX2_become_21 : decode cX2_become 21 = .ok (.invokestatic 23, 3) := zd02dec1_115.2.2.2.1
theorem dX2_become_24 : decode cX2_become 24 = .ok (.return_, 1) := zd02dec1_115.2.2.2.2
theorem zd02dec1_116 : decode cX2_store 0 = .ok (.aload_n 0, 1) ∧ decode cX2_store 1 = .ok (.getfield 11, 3) ∧ decode cX2_store 4 = .ok (.iload_n 1, 1) ∧ decode cX2_store 5 = .ok (.aaload, 1) ∧ decode cX2_store 6 = .ok (.iload_n 2, 1) ∧ decode cX2_store 7 = .ok (.aload_n 0, 1) ∧ decode cX2_store 8 = .ok (.getfield 16, 3) ∧ decode cX2_store 11 = .ok (.iload_n 1, 1) ∧ decode cX2_store 12 = .ok (.iaload, 1) ∧ decode cX2_store 13 = .ok (.ifCond .ne 8, 3) ∧ decode cX2_store 16 = .ok (.iload_n 3, 1) ∧ decode cX2_store 17 = .ok (.i2b, 1) := by decide +kernel
theorem dX2_store_0 : decode cX2_store 0 = .ok (.aload_n 0, 1) := zd02dec1_116.1
theorem dX2_store_1 : decode cX2_store 1 = .ok (.getfield 11, 3) := zd02dec1_116.2.1
theorem dX2_store_4 : decode cX2_store 4 = .ok (.iload_n 1, 1) := zd02dec1_116.2.2.1
theorem dX2_store_5 : decode cX2_store 5 = .ok (.aaload, 1) := zd02dec1_116.2.2.2.1
theorem dX2_store_6 : decode cX2_store 6 = .ok (.iload_n 2, 1) := zd02dec1_116.2.2.2.2.1
theorem dX2_store_7 : decode cX2_store 7 = .ok (.aload_n 0, 1) := zd02dec1_116.2.2.2.2.2.1
theorem dX2_store_8 : decode cX2_store 8 = .ok (.getfield 16, 3) := zd02dec1_116.2.2.2.2.2.2.1
theorem dX2_store_11 : decode cX2_store 11 = .ok (.iload_n 1, 1) := zd02dec1_116.2.2.2.2.2.2.2.1
theorem dX2_store_12 : decode cX2_store 12 = .ok (.iaload, 1) := zd02dec1_116.2.2.2.2.2.2.2.2.1
theorem dX2_store_13 : decode cX2_store 13 = .ok (.ifCond .ne 8, 3) := zd02dec1_116.2.2.2.2.2.2.2.2.2.1
theorem dX2_store_16 : decode cX2_store 16 = .ok (.iload_n 3, 1) := zd02dec1_116.2.2.2.2.2.2.2.2.2.2.1
theorem dX2_store_17 : decode cX2_store 17 = .ok (.i2b, 1) := zd02dec1_116.2.2.2.2.2.2.2.2.2.2.2
theorem zd02dec1_117 : decode cX2_store 18 = .ok (.goto 19, 3) ∧ decode cX2_store 21 = .ok (.aload_n 0, 1) ∧ decode cX2_store 22 = .ok (.getfield 16, 3) ∧ decode cX2_store 25 = .ok (.iload_n 1, 1) ∧ decode cX2_store 26 = .ok (.iaload, 1) ∧ decode cX2_store 27 = .ok (.iconst 1, 1) ∧ decode cX2_store 28 = .ok (.if_icmp .ne 8, 3) ∧ decode cX2_store 31 = .ok (.iload_n 3, 1) ∧ decode cX2_store 32 = .ok (.i2s, 1) ∧ decode cX2_store 33 = .ok (.goto 4, 3) ∧ decode cX2_store 36 = .ok (.iload_n 3, 1) ∧ decode cX2_store 37 = .ok (.iastore, 1) := by decide +kernel
theorem dX2_store_18 : decode cX2_store 18 = .ok (.goto 19, 3) := zd02dec1_117.1
theorem dX2_store_21 : decode cX2_store 21 = .ok (.aload_n 0, 1) := zd02dec1_117.2.1
theorem dX2_store_22 : decode cX2_store 22 = .ok (.getfield 16, 3) := zd02dec1_117.2.2.1
theorem dX2_store_25 : decode cX2_store 25 = .ok (.iload_n 1, 1) := zd02dec1_117.2.2.2.1
theorem dX2_store_26 : decode cX2_store 26 = .ok (.iaload, 1) := zd02dec1_117.2.2.2.2.1
theorem dX2_store_27 : decode cX2_store 27 = .ok (.iconst 1, 1) := zd02dec1_117.2.2.2.2.2.1
theorem dX2_store_28 : decode cX2_store 28 = .ok (.if_icmp .ne 8, 3) := zd02dec1_117.2.2.2.2.2.2.1
theorem dX2_store_31 : decode cX2_store 31 = .ok (.iload_n 3, 1) := zd02dec1_117.2.2.2.2.2.2.2.1
theorem dX2_store_32 : decode cX2_store 32 = .ok (.i2s, 1) := zd02dec1_117.2.2.2.2.2.2.2.2.1
theorem dX2_store_33 : decode cX2_store 33 = .ok (.goto 4, 3) := zd02dec1_117.2.2.2.2.2.2.2.2.2.1
theorem dX2_store_36 : decode cX2_store 36 = .ok (.iload_n 3, 1) := zd02dec1_117.2.2.2.2.2.2.2.2.2.2.1
theorem dX2_store_37 : decode cX2_store 37 = .ok (.iastore, 1) := zd02dec1_117.2.2.2.2.2.2.2.2.2.2.2
theorem dX2_store_38 : decode cX2_store 38 = .ok (.return_, 1) := by decide +kernel
theorem zd02dec1_118 : decode cX2_holds 0 = .ok (.iload_n 3, 1) ∧ decode cX2_holds 1 = .ok (.ifCond .lt 23, 3) ∧ decode cX2_holds 4 = .ok (.iload_n 2, 1) ∧ decode cX2_holds 5 = .ok (.ifCond .lt 19, 3) ∧ decode cX2_holds 8 = .ok (.iload_n 2, 1) ∧ decode cX2_holds 9 = .ok (.aload_n 0, 1) ∧ decode cX2_holds 10 = .ok (.getfield 20, 3) ∧ decode cX2_holds 13 = .ok (.iload_n 1, 1) ∧ decode cX2_holds 14 = .ok (.iaload, 1) ∧ decode cX2_holds 15 = .ok (.iload_n 3, 1) ∧ decode cX2_holds 16 = .ok (.isub, 1) ∧ decode cX2_holds 17 = .ok (.if_icmp .gt 7, 3) := by decide +kernel
theorem dX2_holds_0 : decode cX2_holds 0 = .ok (.iload_n 3, 1) := zd02dec1_118.1
theorem dX2_holds_1 : decode cX2_holds 1 = .ok (.ifCond .lt 23, 3) := zd02dec1_118.2.1
theorem dX2_holds_4 : decode cX2_holds 4 = .ok (.iload_n 2, 1) := zd02dec1_118.2.2.1
theorem dX2_holds_5 : decode cX2_holds 5 = .ok (.ifCond .lt 19, 3) := zd02dec1_118.2.2.2.1
theorem dX2_holds_8 : decode cX2_holds 8 = .ok (.iload_n 2, 1) := zd02dec1_118.2.2.2.2.1
theorem dX2_holds_9 : decode cX2_holds 9 = .ok (.aload_n 0, 1) := zd02dec1_118.2.2.2.2.2.1
theorem dX2_holds_10 : decode cX2_holds 10 = .ok (.getfield 20, 3) := zd02dec1_118.2.2.2.2.2.2.1
theorem dX2_holds_13 : decode cX2_holds 13 = .ok (.iload_n 1, 1) := zd02dec1_118.2.2.2.2.2.2.2.1
theorem dX2_holds_14 : decode cX2_holds 14 = .ok (.iaload, 1) := zd02dec1_118.2.2.2.2.2.2.2.2.1
theorem dX2_holds_15 : decode cX2_holds 15 = .ok (.iload_n 3, 1) := zd02dec1_118.2.2.2.2.2.2.2.2.2.1
theorem dX2_holds_16 : decode cX2_holds 16 = .ok (.isub, 1) := zd02dec1_118.2.2.2.2.2.2.2.2.2.2.1
theorem dX2_holds_17 : decode cX2_holds 17 = .ok (.if_icmp .gt 7, 3) := zd02dec1_118.2.2.2.2.2.2.2.2.2.2.2
theorem zd02dec1_119 : decode cX2_holds 20 = .ok (.iconst 1, 1) ∧ decode cX2_holds 21 = .ok (.goto 4, 3) ∧ decode cX2_holds 24 = .ok (.iconst 0, 1) ∧ decode cX2_holds 25 = .ok (.ireturn, 1) := by decide +kernel
theorem dX2_holds_20 : decode cX2_holds 20 = .ok (.iconst 1, 1) := zd02dec1_119.1
theorem dX2_holds_21 : decode cX2_holds 21 = .ok (.goto 4, 3) := zd02dec1_119.2.1
theorem dX2_holds_24 : decode cX2_holds 24 = .ok (.iconst 0, 1) := zd02dec1_119.2.2.1
theorem dX2_holds_25 : decode cX2_holds 25 = .ok (.ireturn, 1) := zd02dec1_119.2.2.2
theorem zd02dec1_120 : decode cX3_init 0 = .ok (.aload_n 0, 1) ∧ decode cX3_init 1 = .ok (.invokespecial 3, 3) ∧ decode cX3_init 4 = .ok (.aload_n 0, 1) ∧ decode cX3_init 5 = .ok (.bipush 6, 2) ∧ decode cX3_init 7 = .ok (.sipush 160, 3) ∧ decode cX3_init 10 = .ok (.multianewarray 9 2, 4) ∧ decode cX3_init 14 = .ok (.putfield 11, 3) ∧ decode cX3_init 17 = .ok (.aload_n 0, 1) ∧ decode cX3_init 18 = .ok (.bipush 6, 2) ∧ decode cX3_init 20 = .ok (.iconst 3, 1) ∧ decode cX3_init 21 = .ok (.multianewarray 9 2, 4) ∧ decode cX3_init 25 = .ok (.putfield 16, 3) := by decide +kernel
theorem dX3_init_0 : decode cX3_init 0 = .ok (.aload_n 0, 1) := zd02dec1_120.1
theorem dX3_init_1 : decode cX3_init 1 = .ok (.invokespecial 3, 3) := zd02dec1_120.2.1
theorem dX3_init_4 : decode cX3_init 4 = .ok (.aload_n 0, 1) := zd02dec1_120.2.2.1
theorem dX3_init_5 : decode cX3_init 5 = .ok (.bipush 6, 2) := zd02dec1_120.2.2.2.1
theorem dX3_init_7 : decode cX3_init 7 = .ok (.sipush 160, 3) := zd02dec1_120.2.2.2.2.1
theorem dX3_init_10 : decode cX3_init 10 = .ok (.multianewarray 9 2, 4) := zd02dec1_120.2.2.2.2.2.1
theorem dX3_init_14 : decode cX3_init 14 = .ok (.putfield 11, 3) := zd02dec1_120.2.2.2.2.2.2.1
theorem dX3_init_17 : decode cX3_init 17 = .ok (.aload_n 0, 1) := zd02dec1_120.2.2.2.2.2.2.2.1
theorem dX3_init_18 : decode cX3_init 18 = .ok (.bipush 6, 2) := zd02dec1_120.2.2.2.2.2.2.2.2.1
theorem dX3_init_20 : decode cX3_init 20 = .ok (.iconst 3, 1) := zd02dec1_120.2.2.2.2.2.2.2.2.2.1
theorem dX3_init_21 : decode cX3_init 21 = .ok (.multianewarray 9 2, 4) := zd02dec1_120.2.2.2.2.2.2.2.2.2.2.1
theorem dX3_init_25 : decode cX3_init 25 = .ok (.putfield 16, 3) := zd02dec1_120.2.2.2.2.2.2.2.2.2.2.2
theorem zd02dec1_121 : decode cX3_init 28 = .ok (.aload_n 0, 1) ∧ decode cX3_init 29 = .ok (.bipush 32, 2) ∧ decode cX3_init 31 = .ok (.newarray .int, 2) ∧ decode cX3_init 33 = .ok (.putfield 19, 3) ∧ decode cX3_init 36 = .ok (.return_, 1) := by decide +kernel
theorem dX3_init_28 : decode cX3_init 28 = .ok (.aload_n 0, 1) := zd02dec1_121.1
theorem dX3_init_29 : decode cX3_init 29 = .ok (.bipush 32, 2) := zd02dec1_121.2.1
theorem dX3_init_31 : decode cX3_init 31 = .ok (.newarray .int, 2) := zd02dec1_121.2.2.1
theorem dX3_init_33 : decode cX3_init 33 = .ok (.putfield 19, 3) := zd02dec1_121.2.2.2.1
theorem dX3_init_36 : decode cX3_init 36 = .ok (.return_, 1) := zd02dec1_121.2.2.2.2
theorem zd02dec1_122 : decode cX3_begin 0 = .ok (.aload_n 0, 1) ∧ decode cX3_begin 1 = .ok (.iconst 0, 1) ∧ decode cX3_begin 2 = .ok (.putfield 23, 3) ∧ decode cX3_begin 5 = .ok (.return_, 1) := by decide +kernel
theorem dX3_begin_0 : decode cX3_begin 0 = .ok (.aload_n 0, 1) := zd02dec1_122.1
theorem dX3_begin_1 : decode cX3_begin 1 = .ok (.iconst 0, 1) := zd02dec1_122.2.1
theorem dX3_begin_2 : decode cX3_begin 2 = .ok (.putfield 23, 3) := zd02dec1_122.2.2.1
theorem dX3_begin_5 : decode cX3_begin 5 = .ok (.return_, 1) := zd02dec1_122.2.2.2
theorem zd02dec1_123 : decode cX3_write 0 = .ok (.aload_n 0, 1) ∧ decode cX3_write 1 = .ok (.getfield 27, 3) ∧ decode cX3_write 4 = .ok (.bipush 6, 2) ∧ decode cX3_write 6 = .ok (.if_icmp .ge 38, 3) ∧ decode cX3_write 9 = .ok (.aload_n 0, 1) ∧ decode cX3_write 10 = .ok (.getfield 23, 3) ∧ decode cX3_write 13 = .ok (.sipush 160, 3) ∧ decode cX3_write 16 = .ok (.if_icmp .ge 28, 3) ∧ decode cX3_write 19 = .ok (.aload_n 0, 1) ∧ decode cX3_write 20 = .ok (.getfield 11, 3) ∧ decode cX3_write 23 = .ok (.aload_n 0, 1) ∧ decode cX3_write 24 = .ok (.getfield 27, 3) := by decide +kernel
theorem dX3_write_0 : decode cX3_write 0 = .ok (.aload_n 0, 1) := zd02dec1_123.1
theorem dX3_write_1 : decode cX3_write 1 = .ok (.getfield 27, 3) := zd02dec1_123.2.1
theorem dX3_write_4 : decode cX3_write 4 = .ok (.bipush 6, 2) := zd02dec1_123.2.2.1
theorem dX3_write_6 : decode cX3_write 6 = .ok (.if_icmp .ge 38, 3) := zd02dec1_123.2.2.2.1
theorem dX3_write_9 : decode cX3_write 9 = .ok (.aload_n 0, 1) := zd02dec1_123.2.2.2.2.1
theorem dX3_write_10 : decode cX3_write 10 = .ok (.getfield 23, 3) := zd02dec1_123.2.2.2.2.2.1
theorem dX3_write_13 : decode cX3_write 13 = .ok (.sipush 160, 3) := zd02dec1_123.2.2.2.2.2.2.1
theorem dX3_write_16 : decode cX3_write 16 = .ok (.if_icmp .ge 28, 3) := zd02dec1_123.2.2.2.2.2.2.2.1
theorem dX3_write_19 : decode cX3_write 19 = .ok (.aload_n 0, 1) := zd02dec1_123.2.2.2.2.2.2.2.2.1
theorem dX3_write_20 : decode cX3_write 20 = .ok (.getfield 11, 3) := zd02dec1_123.2.2.2.2.2.2.2.2.2.1
theorem dX3_write_23 : decode cX3_write 23 = .ok (.aload_n 0, 1) := zd02dec1_123.2.2.2.2.2.2.2.2.2.2.1
theorem dX3_write_24 : decode cX3_write 24 = .ok (.getfield 27, 3) := zd02dec1_123.2.2.2.2.2.2.2.2.2.2.2
theorem zd02dec1_124 : decode cX3_write 27 = .ok (.aaload, 1) ∧ decode cX3_write 28 = .ok (.aload_n 0, 1) ∧ decode cX3_write 29 = .ok (.getfield 23, 3) ∧ decode cX3_write 32 = .ok (.iload_n 1, 1) ∧ decode cX3_write 33 = .ok (.iastore, 1) ∧ decode cX3_write 34 = .ok (.aload_n 0, 1) ∧ decode cX3_write 35 = .ok (.dup, 1) ∧ decode cX3_write 36 = .ok (.getfield 23, 3) ∧ decode cX3_write 39 = .ok (.iconst 1, 1) ∧ decode cX3_write 40 = .ok (.iadd, 1) ∧ decode cX3_write 41 = .ok (.putfield 23, 3) ∧ decode cX3_write 44 = .ok (.return_, 1) := by decide +kernel
theorem dX3_write_27 : decode cX3_write 27 = .ok (.aaload, 1) := zd02dec1_124.1
theorem dX3_write_28 : decode cX3_write 28 = .ok (.aload_n 0, 1) := zd02dec1_124.2.1
theorem dX3_write_29 : decode cX3_write 29 = .ok (.getfield 23, 3) := zd02dec1_124.2.2.1
theorem dX3_write_32 : decode cX3_write 32 = .ok (.iload_n 1, 1) := zd02dec1_124.2.2.2.1
theorem dX3_write_33 : decode cX3_write 33 = .ok (.iastore, 1) := zd02dec1_124.2.2.2.2.1
theorem dX3_write_34 : decode cX3_write 34 = .ok (.aload_n 0, 1) := zd02dec1_124.2.2.2.2.2.1
theorem dX3_write_35 : decode cX3_write 35 = .ok (.dup, 1) := zd02dec1_124.2.2.2.2.2.2.1
theorem dX3_write_36 : decode cX3_write 36 = .ok (.getfield 23, 3) := zd02dec1_124.2.2.2.2.2.2.2.1
theorem dX3_write_39 : decode cX3_write 39 = .ok (.iconst 1, 1) := zd02dec1_124.2.2.2.2.2.2.2.2.1
theorem dX3_write_40 : decode cX3_write 40 = .ok (.iadd, 1) := zd02dec1_124.2.2.2.2.2.2.2.2.2.1
theorem dX3_write_41 : decode cX3_write 41 = .ok (.putfield 23, 3) := zd02dec1_124.2.2.2.2.2.2.2.2.2.2.1
theorem dX3_write_44 : decode cX3_write 44 = .ok (.return_, 1) := zd02dec1_124.2.2.2.2.2.2.2.2.2.2.2
theorem zd02dec1_125 : decode cX3_endPart 0 = .ok (.aload_n 0, 1) ∧ decode cX3_endPart 1 = .ok (.getfield 27, 3) ∧ decode cX3_endPart 4 = .ok (.bipush 6, 2) ∧ decode cX3_endPart 6 = .ok (.if_icmp .ge 18, 3) ∧ decode cX3_endPart 9 = .ok (.aload_n 0, 1) ∧ decode cX3_endPart 10 = .ok (.getfield 16, 3) ∧ decode cX3_endPart 13 = .ok (.aload_n 0, 1) ∧ decode cX3_endPart 14 = .ok (.getfield 27, 3) ∧ decode cX3_endPart 17 = .ok (.aaload, 1) ∧ decode cX3_endPart 18 = .ok (.iload_n 1, 1) ∧ decode cX3_endPart 19 = .ok (.aload_n 0, 1) ∧ decode cX3_endPart 20 = .ok (.getfield 23, 3) := by decide +kernel
theorem dX3_endPart_0 : decode cX3_endPart 0 = .ok (.aload_n 0, 1) := zd02dec1_125.1
theorem dX3_endPart_1 : decode cX3_endPart 1 = .ok (.getfield 27, 3) := zd02dec1_125.2.1
theorem dX3_endPart_4 : decode cX3_endPart 4 = .ok (.bipush 6, 2) := zd02dec1_125.2.2.1
theorem dX3_endPart_6 : decode cX3_endPart 6 = .ok (.if_icmp .ge 18, 3) := zd02dec1_125.2.2.2.1
theorem dX3_endPart_9 : decode cX3_endPart 9 = .ok (.aload_n 0, 1) := zd02dec1_125.2.2.2.2.1
theorem dX3_endPart_10 : decode cX3_endPart 10 = .ok (.getfield 16, 3) := zd02dec1_125.2.2.2.2.2.1
theorem dX3_endPart_13 : decode cX3_endPart 13 = .ok (.aload_n 0, 1) := zd02dec1_125.2.2.2.2.2.2.1
theorem dX3_endPart_14 : decode cX3_endPart 14 = .ok (.getfield 27, 3) := zd02dec1_125.2.2.2.2.2.2.2.1
theorem dX3_endPart_17 : decode cX3_endPart 17 = .ok (.aaload, 1) := zd02dec1_125.2.2.2.2.2.2.2.2.1
theorem dX3_endPart_18 : decode cX3_endPart 18 = .ok (.iload_n 1, 1) := zd02dec1_125.2.2.2.2.2.2.2.2.2.1
theorem dX3_endPart_19 : decode cX3_endPart 19 = .ok (.aload_n 0, 1) := zd02dec1_125.2.2.2.2.2.2.2.2.2.2.1
theorem dX3_endPart_20 : decode cX3_endPart 20 = .ok (.getfield 23, 3) := zd02dec1_125.2.2.2.2.2.2.2.2.2.2.2
theorem zd02dec1_126 : decode cX3_endPart 23 = .ok (.iastore, 1) ∧ decode cX3_endPart 24 = .ok (.return_, 1) := by decide +kernel
theorem dX3_endPart_23 : decode cX3_endPart 23 = .ok (.iastore, 1) := zd02dec1_126.1
theorem dX3_endPart_24 : decode cX3_endPart 24 = .ok (.return_, 1) := zd02dec1_126.2
theorem zd02dec1_127 : decode cX3_keep 0 = .ok (.aload_n 0, 1) ∧ decode cX3_keep 1 = .ok (.getfield 27, 3) ∧ decode cX3_keep 4 = .ok (.istore_n 1, 1) ∧ decode cX3_keep 5 = .ok (.aload_n 0, 1) ∧ decode cX3_keep 6 = .ok (.getfield 27, 3) ∧ decode cX3_keep 9 = .ok (.bipush 6, 2) ∧ decode cX3_keep 11 = .ok (.if_icmp .ge 13, 3) ∧ decode cX3_keep 14 = .ok (.aload_n 0, 1) ∧ decode cX3_keep 15 = .ok (.dup, 1) ∧ decode cX3_keep 16 = .ok (.getfield 27, 3) ∧ decode cX3_keep 19 = .ok (.iconst 1, 1) ∧ decode cX3_keep 20 = .ok (.iadd, 1) := by decide +kernel
theorem dX3_keep_0 : decode cX3_keep 0 = .ok (.aload_n 0, 1) := zd02dec1_127.1
theorem dX3_keep_1 : decode cX3_keep 1 = .ok (.getfield 27, 3) := zd02dec1_127.2.1
theorem dX3_keep_4 : decode cX3_keep 4 = .ok (.istore_n 1, 1) := zd02dec1_127.2.2.1
theorem dX3_keep_5 : decode cX3_keep 5 = .ok (.aload_n 0, 1) := zd02dec1_127.2.2.2.1
theorem dX3_keep_6 : decode cX3_keep 6 = .ok (.getfield 27, 3) := zd02dec1_127.2.2.2.2.1
theorem dX3_keep_9 : decode cX3_keep 9 = .ok (.bipush 6, 2) := zd02dec1_127.2.2.2.2.2.1
theorem dX3_keep_11 : decode cX3_keep 11 = .ok (.if_icmp .ge 13, 3) := zd02dec1_127.2.2.2.2.2.2.1
theorem dX3_keep_14 : decode cX3_keep 14 = .ok (.aload_n 0, 1) := zd02dec1_127.2.2.2.2.2.2.2.1
theorem dX3_keep_15 : decode cX3_keep 15 = .ok (.dup, 1) := zd02dec1_127.2.2.2.2.2.2.2.2.1
theorem dX3_keep_16 : decode cX3_keep 16 = .ok (.getfield 27, 3) := zd02dec1_127.2.2.2.2.2.2.2.2.2.1
theorem dX3_keep_19 : decode cX3_keep 19 = .ok (.iconst 1, 1) := zd02dec1_127.2.2.2.2.2.2.2.2.2.2.1
theorem dX3_keep_20 : decode cX3_keep 20 = .ok (.iadd, 1) := zd02dec1_127.2.2.2.2.2.2.2.2.2.2.2
theorem zd02dec1_128 : decode cX3_keep 21 = .ok (.putfield 27, 3) ∧ decode cX3_keep 24 = .ok (.iload_n 1, 1) ∧ decode cX3_keep 25 = .ok (.ireturn, 1) := by decide +kernel
theorem dX3_keep_21 : decode cX3_keep 21 = .ok (.putfield 27, 3) := zd02dec1_128.1
theorem dX3_keep_24 : decode cX3_keep 24 = .ok (.iload_n 1, 1) := zd02dec1_128.2.1
theorem dX3_keep_25 : decode cX3_keep 25 = .ok (.ireturn, 1) := zd02dec1_128.2.2
theorem zd02dec1_129 : decode cX3_value 0 = .ok (.iload_n 1, 1) ∧ decode cX3_value 1 = .ok (.ifCond .lt 11, 3) ∧ decode cX3_value 4 = .ok (.iload_n 1, 1) ∧ decode cX3_value 5 = .ok (.aload_n 0, 1) ∧ decode cX3_value 6 = .ok (.getfield 27, 3) ∧ decode cX3_value 9 = .ok (.if_icmp .lt 5, 3) ∧ decode cX3_value 12 = .ok (.iconst 0, 1) ∧ decode cX3_value 13 = .ok (.ireturn, 1) ∧ decode cX3_value 14 = .ok (.iload_n 2, 1) ∧ decode cX3_value 15 = .ok (.ifCond .ne 7, 3) ∧ decode cX3_value 18 = .ok (.iconst 0, 1) ∧ decode cX3_value 19 = .ok (.goto 13, 3) := by decide +kernel
theorem dX3_value_0 : decode cX3_value 0 = .ok (.iload_n 1, 1) := zd02dec1_129.1
theorem dX3_value_1 : decode cX3_value 1 = .ok (.ifCond .lt 11, 3) := zd02dec1_129.2.1
theorem dX3_value_4 : decode cX3_value 4 = .ok (.iload_n 1, 1) := zd02dec1_129.2.2.1
theorem dX3_value_5 : decode cX3_value 5 = .ok (.aload_n 0, 1) := zd02dec1_129.2.2.2.1
theorem dX3_value_6 : decode cX3_value 6 = .ok (.getfield 27, 3) := zd02dec1_129.2.2.2.2.1
theorem dX3_value_9 : decode cX3_value 9 = .ok (.if_icmp .lt 5, 3) := zd02dec1_129.2.2.2.2.2.1
theorem dX3_value_12 : decode cX3_value 12 = .ok (.iconst 0, 1) := zd02dec1_129.2.2.2.2.2.2.1
theorem dX3_value_13 : decode cX3_value 13 = .ok (.ireturn, 1) := zd02dec1_129.2.2.2.2.2.2.2.1
theorem dX3_value_14 : decode cX3_value 14 = .ok (.iload_n 2, 1) := zd02dec1_129.2.2.2.2.2.2.2.2.1
theorem dX3_value_15 : decode cX3_value 15 = .ok (.ifCond .ne 7, 3) := zd02dec1_129.2.2.2.2.2.2.2.2.2.1
theorem dX3_value_18 : decode cX3_value 18 = .ok (.iconst 0, 1) := zd02dec1_129.2.2.2.2.2.2.2.2.2.2.1
theorem dX3_value_19 : decode cX3_value 19 = .ok (.goto 13, 3) := zd02dec1_129.2.2.2.2.2.2.2.2.2.2.2
theorem zd02dec1_130 : decode cX3_value 22 = .ok (.aload_n 0, 1) ∧ decode cX3_value 23 = .ok (.getfield 16, 3) ∧ decode cX3_value 26 = .ok (.iload_n 1, 1) ∧ decode cX3_value 27 = .ok (.aaload, 1) ∧ decode cX3_value 28 = .ok (.iload_n 2, 1) ∧ decode cX3_value 29 = .ok (.iconst 1, 1) ∧ decode cX3_value 30 = .ok (.isub, 1) ∧ decode cX3_value 31 = .ok (.iaload, 1) ∧ decode cX3_value 32 = .ok (.istore 4, 2) ∧ decode cX3_value 34 = .ok (.iconst 0, 1) ∧ decode cX3_value 35 = .ok (.istore 5, 2) ∧ decode cX3_value 37 = .ok (.iload 4, 2) := by decide +kernel
theorem dX3_value_22 : decode cX3_value 22 = .ok (.aload_n 0, 1) := zd02dec1_130.1
theorem dX3_value_23 : decode cX3_value 23 = .ok (.getfield 16, 3) := zd02dec1_130.2.1
theorem dX3_value_26 : decode cX3_value 26 = .ok (.iload_n 1, 1) := zd02dec1_130.2.2.1
theorem dX3_value_27 : decode cX3_value 27 = .ok (.aaload, 1) := zd02dec1_130.2.2.2.1
theorem dX3_value_28 : decode cX3_value 28 = .ok (.iload_n 2, 1) := zd02dec1_130.2.2.2.2.1
theorem dX3_value_29 : decode cX3_value 29 = .ok (.iconst 1, 1) := zd02dec1_130.2.2.2.2.2.1
theorem dX3_value_30 : decode cX3_value 30 = .ok (.isub, 1) := zd02dec1_130.2.2.2.2.2.2.1
theorem dX3_value_31 : decode cX3_value 31 = .ok (.iaload, 1) := zd02dec1_130.2.2.2.2.2.2.2.1
theorem dX3_value_32 : decode cX3_value 32 = .ok (.istore 4, 2) := zd02dec1_130.2.2.2.2.2.2.2.2.1
theorem dX3_value_34 : decode cX3_value 34 = .ok (.iconst 0, 1) := zd02dec1_130.2.2.2.2.2.2.2.2.2.1
theorem dX3_value_35 : decode cX3_value 35 = .ok (.istore 5, 2) := zd02dec1_130.2.2.2.2.2.2.2.2.2.2.1
theorem dX3_value_37 : decode cX3_value 37 = .ok (.iload 4, 2) := zd02dec1_130.2.2.2.2.2.2.2.2.2.2.2
theorem zd02dec1_131 : decode cX3_value 39 = .ok (.istore 6, 2) ∧ decode cX3_value 41 = .ok (.iload 6, 2) ∧ decode cX3_value 43 = .ok (.aload_n 0, 1) ∧ decode cX3_value 44 = .ok (.getfield 16, 3) ∧ decode cX3_value 47 = .ok (.iload_n 1, 1) ∧ decode cX3_value 48 = .ok (.aaload, 1) ∧ decode cX3_value 49 = .ok (.iload_n 2, 1) ∧ decode cX3_value 50 = .ok (.iaload, 1) ∧ decode cX3_value 51 = .ok (.if_icmp .ge 161, 3) ∧ decode cX3_value 54 = .ok (.aload_n 0, 1) ∧ decode cX3_value 55 = .ok (.getfield 11, 3) ∧ decode cX3_value 58 = .ok (.iload_n 1, 1) := by decide +kernel
theorem dX3_value_39 : decode cX3_value 39 = .ok (.istore 6, 2) := zd02dec1_131.1
theorem dX3_value_41 : decode cX3_value 41 = .ok (.iload 6, 2) := zd02dec1_131.2.1
theorem dX3_value_43 : decode cX3_value 43 = .ok (.aload_n 0, 1) := zd02dec1_131.2.2.1
theorem dX3_value_44 : decode cX3_value 44 = .ok (.getfield 16, 3) := zd02dec1_131.2.2.2.1
theorem dX3_value_47 : decode cX3_value 47 = .ok (.iload_n 1, 1) := zd02dec1_131.2.2.2.2.1
theorem dX3_value_48 : decode cX3_value 48 = .ok (.aaload, 1) := zd02dec1_131.2.2.2.2.2.1
theorem dX3_value_49 : decode cX3_value 49 = .ok (.iload_n 2, 1) := zd02dec1_131.2.2.2.2.2.2.1
theorem dX3_value_50 : decode cX3_value 50 = .ok (.iaload, 1) := zd02dec1_131.2.2.2.2.2.2.2.1
theorem dX3_value_51 : decode cX3_value 51 = .ok (.if_icmp .ge 161, 3) := zd02dec1_131.2.2.2.2.2.2.2.2.1
theorem dX3_value_54 : decode cX3_value 54 = .ok (.aload_n 0, 1) := zd02dec1_131.2.2.2.2.2.2.2.2.2.1
theorem dX3_value_55 : decode cX3_value 55 = .ok (.getfield 11, 3) := zd02dec1_131.2.2.2.2.2.2.2.2.2.2.1
theorem dX3_value_58 : decode cX3_value 58 = .ok (.iload_n 1, 1) := zd02dec1_131.2.2.2.2.2.2.2.2.2.2.2
theorem zd02dec1_132 : decode cX3_value 59 = .ok (.aaload, 1) ∧ decode cX3_value 60 = .ok (.iload 6, 2) ∧ decode cX3_value 62 = .ok (.iaload, 1) ∧ decode cX3_value 63 = .ok (.istore 7, 2) ∧ decode cX3_value 65 = .ok (.iload 7, 2) ∧ decode cX3_value 67 = .ok (.sipush 20000, 3) ∧ decode cX3_value 70 = .ok (.isub, 1) ∧ decode cX3_value 71 = .ok (.istore 8, 2) ∧ decode cX3_value 73 = .ok (.iload 8, 2) ∧ decode cX3_value 75 = .ok (.ifCond .ge 44, 3) ∧ decode cX3_value 78 = .ok (.iload 5, 2) ∧ decode cX3_value 80 = .ok (.bipush 32, 2) := by decide +kernel
theorem dX3_value_59 : decode cX3_value 59 = .ok (.aaload, 1) := zd02dec1_132.1
theorem dX3_value_60 : decode cX3_value 60 = .ok (.iload 6, 2) := zd02dec1_132.2.1
theorem dX3_value_62 : decode cX3_value 62 = .ok (.iaload, 1) := zd02dec1_132.2.2.1
theorem dX3_value_63 : decode cX3_value 63 = .ok (.istore 7, 2) := zd02dec1_132.2.2.2.1
theorem dX3_value_65 : decode cX3_value 65 = .ok (.iload 7, 2) := zd02dec1_132.2.2.2.2.1
theorem dX3_value_67 : decode cX3_value 67 = .ok (.sipush 20000, 3) := zd02dec1_132.2.2.2.2.2.1
theorem dX3_value_70 : decode cX3_value 70 = .ok (.isub, 1) := zd02dec1_132.2.2.2.2.2.2.1
theorem dX3_value_71 : decode cX3_value 71 = .ok (.istore 8, 2) := zd02dec1_132.2.2.2.2.2.2.2.1
theorem dX3_value_73 : decode cX3_value 73 = .ok (.iload 8, 2) := zd02dec1_132.2.2.2.2.2.2.2.2.1
theorem dX3_value_75 : decode cX3_value 75 = .ok (.ifCond .ge 44, 3) := zd02dec1_132.2.2.2.2.2.2.2.2.2.1
theorem dX3_value_78 : decode cX3_value 78 = .ok (.iload 5, 2) := zd02dec1_132.2.2.2.2.2.2.2.2.2.2.1
theorem dX3_value_80 : decode cX3_value 80 = .ok (.bipush 32, 2) := zd02dec1_132.2.2.2.2.2.2.2.2.2.2.2
theorem zd02dec1_133 : decode cX3_value 82 = .ok (.if_icmp .ge 124, 3) ∧ decode cX3_value 85 = .ok (.aload_n 0, 1) ∧ decode cX3_value 86 = .ok (.getfield 19, 3) ∧ decode cX3_value 89 = .ok (.iload 5, 2) ∧ decode cX3_value 91 = .ok (.iload 7, 2) ∧ decode cX3_value 93 = .ok (.sipush 10000, 3) ∧ decode cX3_value 96 = .ok (.if_icmp .ge 8, 3) ∧ decode cX3_value 99 = .ok (.iload 7, 2) ∧ decode cX3_value 101 = .ok (.goto 11, 3) ∧ decode cX3_value 104 = .ok (.aload_n 3, 1) ∧ decode cX3_value 105 = .ok (.iload 7, 2) ∧ decode cX3_value 107 = .ok (.sipush 10000, 3) := by decide +kernel
theorem dX3_value_82 : decode cX3_value 82 = .ok (.if_icmp .ge 124, 3) := zd02dec1_133.1
theorem dX3_value_85 : decode cX3_value 85 = .ok (.aload_n 0, 1) := zd02dec1_133.2.1
theorem dX3_value_86 : decode cX3_value 86 = .ok (.getfield 19, 3) := zd02dec1_133.2.2.1
theorem dX3_value_89 : decode cX3_value 89 = .ok (.iload 5, 2) := zd02dec1_133.2.2.2.1
theorem dX3_value_91 : decode cX3_value 91 = .ok (.iload 7, 2) := zd02dec1_133.2.2.2.2.1
theorem dX3_value_93 : decode cX3_value 93 = .ok (.sipush 10000, 3) := zd02dec1_133.2.2.2.2.2.1
theorem dX3_value_96 : decode cX3_value 96 = .ok (.if_icmp .ge 8, 3) := zd02dec1_133.2.2.2.2.2.2.1
theorem dX3_value_99 : decode cX3_value 99 = .ok (.iload 7, 2) := zd02dec1_133.2.2.2.2.2.2.2.1
theorem dX3_value_101 : decode cX3_value 101 = .ok (.goto 11, 3) := zd02dec1_133.2.2.2.2.2.2.2.2.1
theorem dX3_value_104 : decode cX3_value 104 = .ok (.aload_n 3, 1) := zd02dec1_133.2.2.2.2.2.2.2.2.2.1
theorem dX3_value_105 : decode cX3_value 105 = .ok (.iload 7, 2) := zd02dec1_133.2.2.2.2.2.2.2.2.2.2.1
theorem dX3_value_107 : decode cX3_value 107 = .ok (.sipush 10000, 3) := zd02dec1_133.2.2.2.2.2.2.2.2.2.2.2
theorem zd02dec1_134 : decode cX3_value 110 = .ok (.isub, 1) ∧ decode cX3_value 111 = .ok (.iaload, 1) ∧ decode cX3_value 112 = .ok (.iastore, 1) ∧ decode cX3_value 113 = .ok (.iinc 5 1, 3) ∧ decode cX3_value 116 = .ok (.goto 90, 3) ∧ decode cX3_value 119 = .ok (.iload 8, 2) ∧ decode cX3_value 121 = .ok (.bipush 105, 2) ∧ decode cX3_value 123 = .ok (.if_icmp .eq 10, 3) ∧ decode cX3_value 126 = .ok (.iload 8, 2) ∧ decode cX3_value 128 = .ok (.bipush 106, 2) ∧ decode cX3_value 130 = .ok (.if_icmp .ne 35, 3) ∧ decode cX3_value 133 = .ok (.iload 5, 2) := by decide +kernel
theorem dX3_value_110 : decode cX3_value 110 = .ok (.isub, 1) := zd02dec1_134.1
theorem dX3_value_111 : decode cX3_value 111 = .ok (.iaload, 1) := zd02dec1_134.2.1
theorem dX3_value_112 : decode cX3_value 112 = .ok (.iastore, 1) := zd02dec1_134.2.2.1
theorem dX3_value_113 : decode cX3_value 113 = .ok (.iinc 5 1, 3) := zd02dec1_134.2.2.2.1
theorem dX3_value_116 : decode cX3_value 116 = .ok (.goto 90, 3) := zd02dec1_134.2.2.2.2.1
theorem dX3_value_119 : decode cX3_value 119 = .ok (.iload 8, 2) := zd02dec1_134.2.2.2.2.2.1
theorem dX3_value_121 : decode cX3_value 121 = .ok (.bipush 105, 2) := zd02dec1_134.2.2.2.2.2.2.1
theorem dX3_value_123 : decode cX3_value 123 = .ok (.if_icmp .eq 10, 3) := zd02dec1_134.2.2.2.2.2.2.2.1
theorem dX3_value_126 : decode cX3_value 126 = .ok (.iload 8, 2) := zd02dec1_134.2.2.2.2.2.2.2.2.1
theorem dX3_value_128 : decode cX3_value 128 = .ok (.bipush 106, 2) := zd02dec1_134.2.2.2.2.2.2.2.2.2.1
theorem dX3_value_130 : decode cX3_value 130 = .ok (.if_icmp .ne 35, 3) := zd02dec1_134.2.2.2.2.2.2.2.2.2.2.1
theorem dX3_value_133 : decode cX3_value 133 = .ok (.iload 5, 2) := zd02dec1_134.2.2.2.2.2.2.2.2.2.2.2
theorem zd02dec1_135 : decode cX3_value 135 = .ok (.iconst 1, 1) ∧ decode cX3_value 136 = .ok (.if_icmp .lt 70, 3) ∧ decode cX3_value 139 = .ok (.aload_n 0, 1) ∧ decode cX3_value 140 = .ok (.getfield 19, 3) ∧ decode cX3_value 143 = .ok (.iload 5, 2) ∧ decode cX3_value 145 = .ok (.iconst 1, 1) ∧ decode cX3_value 146 = .ok (.isub, 1) ∧ decode cX3_value 147 = .ok (.iload 8, 2) ∧ decode cX3_value 149 = .ok (.aload_n 0, 1) ∧ decode cX3_value 150 = .ok (.getfield 19, 3) ∧ decode cX3_value 153 = .ok (.iload 5, 2) ∧ decode cX3_value 155 = .ok (.iconst 1, 1) := by decide +kernel
theorem dX3_value_135 : decode cX3_value 135 = .ok (.iconst 1, 1) := zd02dec1_135.1
theorem dX3_value_136 : decode cX3_value 136 = .ok (.if_icmp .lt 70, 3) := zd02dec1_135.2.1
theorem dX3_value_139 : decode cX3_value 139 = .ok (.aload_n 0, 1) := zd02dec1_135.2.2.1
theorem dX3_value_140 : decode cX3_value 140 = .ok (.getfield 19, 3) := zd02dec1_135.2.2.2.1
theorem dX3_value_143 : decode cX3_value 143 = .ok (.iload 5, 2) := zd02dec1_135.2.2.2.2.1
theorem dX3_value_145 : decode cX3_value 145 = .ok (.iconst 1, 1) := zd02dec1_135.2.2.2.2.2.1
theorem dX3_value_146 : decode cX3_value 146 = .ok (.isub, 1) := zd02dec1_135.2.2.2.2.2.2.1
theorem dX3_value_147 : decode cX3_value 147 = .ok (.iload 8, 2) := zd02dec1_135.2.2.2.2.2.2.2.1
theorem dX3_value_149 : decode cX3_value 149 = .ok (.aload_n 0, 1) := zd02dec1_135.2.2.2.2.2.2.2.2.1
theorem dX3_value_150 : decode cX3_value 150 = .ok (.getfield 19, 3) := zd02dec1_135.2.2.2.2.2.2.2.2.2.1
theorem dX3_value_153 : decode cX3_value 153 = .ok (.iload 5, 2) := zd02dec1_135.2.2.2.2.2.2.2.2.2.2.1
theorem dX3_value_155 : decode cX3_value 155 = .ok (.iconst 1, 1) := zd02dec1_135.2.2.2.2.2.2.2.2.2.2.2
theorem zd02dec1_136 : decode cX3_value 156 = .ok (.isub, 1) ∧ decode cX3_value 157 = .ok (.iaload, 1) ∧ decode cX3_value 158 = .ok (.invokestatic 32, 3) ∧ decode cX3_value 161 = .ok (.iastore, 1) ∧ decode cX3_value 162 = .ok (.goto 44, 3) ∧ decode cX3_value 165 = .ok (.iload 5, 2) ∧ decode cX3_value 167 = .ok (.iconst 2, 1) ∧ decode cX3_value 168 = .ok (.if_icmp .lt 38, 3) ∧ decode cX3_value 171 = .ok (.aload_n 0, 1) ∧ decode cX3_value 172 = .ok (.getfield 19, 3) ∧ decode cX3_value 175 = .ok (.iload 5, 2) ∧ decode cX3_value 177 = .ok (.iconst 2, 1) := by decide +kernel
theorem dX3_value_156 : decode cX3_value 156 = .ok (.isub, 1) := zd02dec1_136.1
theorem dX3_value_157 : decode cX3_value 157 = .ok (.iaload, 1) := zd02dec1_136.2.1
theorem dX3_value_158 : decode cX3_value 158 = .ok (.invokestatic 32, 3) := zd02dec1_136.2.2.1
theorem dX3_value_161 : decode cX3_value 161 = .ok (.iastore, 1) := zd02dec1_136.2.2.2.1
theorem dX3_value_162 : decode cX3_value 162 = .ok (.goto 44, 3) := zd02dec1_136.2.2.2.2.1
theorem dX3_value_165 : decode cX3_value 165 = .ok (.iload 5, 2) := zd02dec1_136.2.2.2.2.2.1
theorem dX3_value_167 : decode cX3_value 167 = .ok (.iconst 2, 1) := zd02dec1_136.2.2.2.2.2.2.1
theorem dX3_value_168 : decode cX3_value 168 = .ok (.if_icmp .lt 38, 3) := zd02dec1_136.2.2.2.2.2.2.2.1
theorem dX3_value_171 : decode cX3_value 171 = .ok (.aload_n 0, 1) := zd02dec1_136.2.2.2.2.2.2.2.2.1
theorem dX3_value_172 : decode cX3_value 172 = .ok (.getfield 19, 3) := zd02dec1_136.2.2.2.2.2.2.2.2.2.1
theorem dX3_value_175 : decode cX3_value 175 = .ok (.iload 5, 2) := zd02dec1_136.2.2.2.2.2.2.2.2.2.2.1
theorem dX3_value_177 : decode cX3_value 177 = .ok (.iconst 2, 1) := zd02dec1_136.2.2.2.2.2.2.2.2.2.2.2
theorem zd02dec1_137 : decode cX3_value 178 = .ok (.isub, 1) ∧ decode cX3_value 179 = .ok (.iload 8, 2) ∧ decode cX3_value 181 = .ok (.aload_n 0, 1) ∧ decode cX3_value 182 = .ok (.getfield 19, 3) ∧ decode cX3_value 185 = .ok (.iload 5, 2) ∧ decode cX3_value 187 = .ok (.iconst 2, 1) ∧ decode cX3_value 188 = .ok (.isub, 1) ∧ decode cX3_value 189 = .ok (.iaload, 1) ∧ decode cX3_value 190 = .ok (.aload_n 0, 1) ∧ decode cX3_value 191 = .ok (.getfield 19, 3) ∧ decode cX3_value 194 = .ok (.iload 5, 2) ∧ decode cX3_value 196 = .ok (.iconst 1, 1) := by decide +kernel
theorem dX3_value_178 : decode cX3_value 178 = .ok (.isub, 1) := zd02dec1_137.1
theorem dX3_value_179 : decode cX3_value 179 = .ok (.iload 8, 2) := zd02dec1_137.2.1
theorem dX3_value_181 : decode cX3_value 181 = .ok (.aload_n 0, 1) := zd02dec1_137.2.2.1
theorem dX3_value_182 : decode cX3_value 182 = .ok (.getfield 19, 3) := zd02dec1_137.2.2.2.1
theorem dX3_value_185 : decode cX3_value 185 = .ok (.iload 5, 2) := zd02dec1_137.2.2.2.2.1
theorem dX3_value_187 : decode cX3_value 187 = .ok (.iconst 2, 1) := zd02dec1_137.2.2.2.2.2.1
theorem dX3_value_188 : decode cX3_value 188 = .ok (.isub, 1) := zd02dec1_137.2.2.2.2.2.2.1
theorem dX3_value_189 : decode cX3_value 189 = .ok (.iaload, 1) := zd02dec1_137.2.2.2.2.2.2.2.1
theorem dX3_value_190 : decode cX3_value 190 = .ok (.aload_n 0, 1) := zd02dec1_137.2.2.2.2.2.2.2.2.1
theorem dX3_value_191 : decode cX3_value 191 = .ok (.getfield 19, 3) := zd02dec1_137.2.2.2.2.2.2.2.2.2.1
theorem dX3_value_194 : decode cX3_value 194 = .ok (.iload 5, 2) := zd02dec1_137.2.2.2.2.2.2.2.2.2.2.1
theorem dX3_value_196 : decode cX3_value 196 = .ok (.iconst 1, 1) := zd02dec1_137.2.2.2.2.2.2.2.2.2.2.2
theorem zd02dec1_138 : decode cX3_value 197 = .ok (.isub, 1) ∧ decode cX3_value 198 = .ok (.iaload, 1) ∧ decode cX3_value 199 = .ok (.invokestatic 36, 3) ∧ decode cX3_value 202 = .ok (.iastore, 1) ∧ decode cX3_value 203 = .ok (.iinc 5 (-1), 3) ∧ decode cX3_value 206 = .ok (.iinc 6 1, 3) ∧ decode cX3_value 209 = .ok (.goto (-168), 3) ∧ decode cX3_value 212 = .ok (.aload_n 0, 1) ∧ decode cX3_value 213 = .ok (.getfield 19, 3) ∧ decode cX3_value 216 = .ok (.iconst 0, 1) ∧ decode cX3_value 217 = .ok (.iaload, 1) ∧ decode cX3_value 218 = .ok (.ireturn, 1) := by decide +kernel
theorem dX3_value_197 : decode cX3_value 197 = .ok (.isub, 1) := zd02dec1_138.1
theorem dX3_value_198 : decode cX3_value 198 = .ok (.iaload, 1) := zd02dec1_138.2.1
theorem dX3_value_199 : decode cX3_value 199 = .ok (.invokestatic 36, 3) := zd02dec1_138.2.2.1
theorem dX3_value_202 : decode cX3_value 202 = .ok (.iastore, 1) := zd02dec1_138.2.2.2.1
theorem dX3_value_203 : decode cX3_value 203 = .ok (.iinc 5 (-1), 3) := zd02dec1_138.2.2.2.2.1
theorem dX3_value_206 : decode cX3_value 206 = .ok (.iinc 6 1, 3) := zd02dec1_138.2.2.2.2.2.1
theorem dX3_value_209 : decode cX3_value 209 = .ok (.goto (-168), 3) := zd02dec1_138.2.2.2.2.2.2.1
theorem dX3_value_212 : decode cX3_value 212 = .ok (.aload_n 0, 1) := zd02dec1_138.2.2.2.2.2.2.2.1
theorem dX3_value_213 : decode cX3_value 213 = .ok (.getfield 19, 3) := zd02dec1_138.2.2.2.2.2.2.2.2.1
theorem dX3_value_216 : decode cX3_value 216 = .ok (.iconst 0, 1) := zd02dec1_138.2.2.2.2.2.2.2.2.2.1
theorem dX3_value_217 : decode cX3_value 217 = .ok (.iaload, 1) := zd02dec1_138.2.2.2.2.2.2.2.2.2.2.1
theorem dX3_value_218 : decode cX3_value 218 = .ok (.ireturn, 1) := zd02dec1_138.2.2.2.2.2.2.2.2.2.2.2
theorem zd02dec1_139 : decode cX3_one 0 = .ok (.iload_n 0, 1) ∧ decode cX3_one 1 = .ok (.bipush 106, 2) ∧ decode cX3_one 3 = .ok (.if_icmp .ne 6, 3) ∧ decode cX3_one 6 = .ok (.iload_n 1, 1) ∧ decode cX3_one 7 = .ok (.ineg, 1) ∧ decode cX3_one 8 = .ok (.ireturn, 1) ∧ decode cX3_one 9 = .ok (.iload_n 1, 1) ∧ decode cX3_one 10 = .ok (.ifCond .ne 7, 3) ∧ decode cX3_one 13 = .ok (.iconst 1, 1) ∧ decode cX3_one 14 = .ok (.goto 4, 3) ∧ decode cX3_one 17 = .ok (.iconst 0, 1) ∧ decode cX3_one 18 = .ok (.ireturn, 1) := by decide +kernel
theorem dX3_one_0 : decode cX3_one 0 = .ok (.iload_n 0, 1) := zd02dec1_139.1
theorem dX3_one_1 : decode cX3_one 1 = .ok (.bipush 106, 2) := zd02dec1_139.2.1
theorem dX3_one_3 : decode cX3_one 3 = .ok (.if_icmp .ne 6, 3) := zd02dec1_139.2.2.1
theorem dX3_one_6 : decode cX3_one 6 = .ok (.iload_n 1, 1) := zd02dec1_139.2.2.2.1
theorem dX3_one_7 : decode cX3_one 7 = .ok (.ineg, 1) := zd02dec1_139.2.2.2.2.1
theorem dX3_one_8 : decode cX3_one 8 = .ok (.ireturn, 1) := zd02dec1_139.2.2.2.2.2.1
theorem dX3_one_9 : decode cX3_one 9 = .ok (.iload_n 1, 1) := zd02dec1_139.2.2.2.2.2.2.1
theorem dX3_one_10 : decode cX3_one 10 = .ok (.ifCond .ne 7, 3) := zd02dec1_139.2.2.2.2.2.2.2.1
theorem dX3_one_13 : decode cX3_one 13 = .ok (.iconst 1, 1) := zd02dec1_139.2.2.2.2.2.2.2.2.1
theorem dX3_one_14 : decode cX3_one 14 = .ok (.goto 4, 3) := zd02dec1_139.2.2.2.2.2.2.2.2.2.1
theorem dX3_one_17 : decode cX3_one 17 = .ok (.iconst 0, 1) := zd02dec1_139.2.2.2.2.2.2.2.2.2.2.1
theorem dX3_one_18 : decode cX3_one 18 = .ok (.ireturn, 1) := zd02dec1_139.2.2.2.2.2.2.2.2.2.2.2
theorem zd02dec1_140 : decode cX3_two 0 = .ok (.iload_n 0, 1) ∧ decode cX3_two 1 = .ok (.lookupswitch 107 #[(42, 67), (43, 59), (45, 63), (60, 71), (61, 82), (104, 93)], 59) ∧ decode cX3_two 60 = .ok (.iload_n 1, 1) ∧ decode cX3_two 61 = .ok (.iload_n 2, 1) ∧ decode cX3_two 62 = .ok (.iadd, 1) ∧ decode cX3_two 63 = .ok (.ireturn, 1) ∧ decode cX3_two 64 = .ok (.iload_n 1, 1) ∧ decode cX3_two 65 = .ok (.iload_n 2, 1) ∧ decode cX3_two 66 = .ok (.isub, 1) ∧ decode cX3_two 67 = .ok (.ireturn, 1) ∧ decode cX3_two 68 = .ok (.iload_n 1, 1) ∧ decode cX3_two 69 = .ok (.iload_n 2, 1) := by decide +kernel
theorem dX3_two_0 : decode cX3_two 0 = .ok (.iload_n 0, 1) := zd02dec1_140.1
theorem dX3_two_1 : decode cX3_two 1 = .ok (.lookupswitch 107 #[(42, 67), (43, 59), (45, 63), (60, 71), (61, 82), (104, 93)], 59) := zd02dec1_140.2.1
theorem dX3_two_60 : decode cX3_two 60 = .ok (.iload_n 1, 1) := zd02dec1_140.2.2.1
theorem dX3_two_61 : decode cX3_two 61 = .ok (.iload_n 2, 1) := zd02dec1_140.2.2.2.1
theorem dX3_two_62 : decode cX3_two 62 = .ok (.iadd, 1) := zd02dec1_140.2.2.2.2.1
theorem dX3_two_63 : decode cX3_two 63 = .ok (.ireturn, 1) := zd02dec1_140.2.2.2.2.2.1
theorem dX3_two_64 : decode cX3_two 64 = .ok (.iload_n 1, 1) := zd02dec1_140.2.2.2.2.2.2.1
theorem dX3_two_65 : decode cX3_two 65 = .ok (.iload_n 2, 1) := zd02dec1_140.2.2.2.2.2.2.2.1
theorem dX3_two_66 : decode cX3_two 66 = .ok (.isub, 1) := zd02dec1_140.2.2.2.2.2.2.2.2.1
theorem dX3_two_67 : decode cX3_two 67 = .ok (.ireturn, 1) := zd02dec1_140.2.2.2.2.2.2.2.2.2.1
theorem dX3_two_68 : decode cX3_two 68 = .ok (.iload_n 1, 1) := zd02dec1_140.2.2.2.2.2.2.2.2.2.2.1
theorem dX3_two_69 : decode cX3_two 69 = .ok (.iload_n 2, 1) := zd02dec1_140.2.2.2.2.2.2.2.2.2.2.2
theorem zd02dec1_141 : decode cX3_two 70 = .ok (.imul, 1) ∧ decode cX3_two 71 = .ok (.ireturn, 1) ∧ decode cX3_two 72 = .ok (.iload_n 1, 1) ∧ decode cX3_two 73 = .ok (.iload_n 2, 1) ∧ decode cX3_two 74 = .ok (.if_icmp .ge 7, 3) ∧ decode cX3_two 77 = .ok (.iconst 1, 1) ∧ decode cX3_two 78 = .ok (.goto 4, 3) ∧ decode cX3_two 81 = .ok (.iconst 0, 1) ∧ decode cX3_two 82 = .ok (.ireturn, 1) ∧ decode cX3_two 83 = .ok (.iload_n 1, 1) ∧ decode cX3_two 84 = .ok (.iload_n 2, 1) ∧ decode cX3_two 85 = .ok (.if_icmp .ne 7, 3) := by decide +kernel
theorem dX3_two_70 : decode cX3_two 70 = .ok (.imul, 1) := zd02dec1_141.1
theorem dX3_two_71 : decode cX3_two 71 = .ok (.ireturn, 1) := zd02dec1_141.2.1
theorem dX3_two_72 : decode cX3_two 72 = .ok (.iload_n 1, 1) := zd02dec1_141.2.2.1
theorem dX3_two_73 : decode cX3_two 73 = .ok (.iload_n 2, 1) := zd02dec1_141.2.2.2.1
theorem dX3_two_74 : decode cX3_two 74 = .ok (.if_icmp .ge 7, 3) := zd02dec1_141.2.2.2.2.1
theorem dX3_two_77 : decode cX3_two 77 = .ok (.iconst 1, 1) := zd02dec1_141.2.2.2.2.2.1
theorem dX3_two_78 : decode cX3_two 78 = .ok (.goto 4, 3) := zd02dec1_141.2.2.2.2.2.2.1
theorem dX3_two_81 : decode cX3_two 81 = .ok (.iconst 0, 1) := zd02dec1_141.2.2.2.2.2.2.2.1
theorem dX3_two_82 : decode cX3_two 82 = .ok (.ireturn, 1) := zd02dec1_141.2.2.2.2.2.2.2.2.1
theorem dX3_two_83 : decode cX3_two 83 = .ok (.iload_n 1, 1) := zd02dec1_141.2.2.2.2.2.2.2.2.2.1
theorem dX3_two_84 : decode cX3_two 84 = .ok (.iload_n 2, 1) := zd02dec1_141.2.2.2.2.2.2.2.2.2.2.1
theorem dX3_two_85 : decode cX3_two 85 = .ok (.if_icmp .ne 7, 3) := zd02dec1_141.2.2.2.2.2.2.2.2.2.2.2
theorem zd02dec1_142 : decode cX3_two 88 = .ok (.iconst 1, 1) ∧ decode cX3_two 89 = .ok (.goto 4, 3) ∧ decode cX3_two 92 = .ok (.iconst 0, 1) ∧ decode cX3_two 93 = .ok (.ireturn, 1) ∧ decode cX3_two 94 = .ok (.iload_n 1, 1) ∧ decode cX3_two 95 = .ok (.ifCond .eq 11, 3) ∧ decode cX3_two 98 = .ok (.iload_n 2, 1) ∧ decode cX3_two 99 = .ok (.ifCond .eq 7, 3) ∧ decode cX3_two 102 = .ok (.iconst 1, 1) ∧ decode cX3_two 103 = .ok (.goto 4, 3) ∧ decode cX3_two 106 = .ok (.iconst 0, 1) ∧ decode cX3_two 107 = .ok (.ireturn, 1) := by decide +kernel
theorem dX3_two_88 : decode cX3_two 88 = .ok (.iconst 1, 1) := zd02dec1_142.1
theorem dX3_two_89 : decode cX3_two 89 = .ok (.goto 4, 3) := zd02dec1_142.2.1
theorem dX3_two_92 : decode cX3_two 92 = .ok (.iconst 0, 1) := zd02dec1_142.2.2.1
theorem dX3_two_93 : decode cX3_two 93 = .ok (.ireturn, 1) := zd02dec1_142.2.2.2.1
theorem dX3_two_94 : decode cX3_two 94 = .ok (.iload_n 1, 1) := zd02dec1_142.2.2.2.2.1
theorem dX3_two_95 : decode cX3_two 95 = .ok (.ifCond .eq 11, 3) := zd02dec1_142.2.2.2.2.2.1
theorem dX3_two_98 : decode cX3_two 98 = .ok (.iload_n 2, 1) := zd02dec1_142.2.2.2.2.2.2.1
theorem dX3_two_99 : decode cX3_two 99 = .ok (.ifCond .eq 7, 3) := zd02dec1_142.2.2.2.2.2.2.2.1
theorem dX3_two_102 : decode cX3_two 102 = .ok (.iconst 1, 1) := zd02dec1_142.2.2.2.2.2.2.2.2.1
theorem dX3_two_103 : decode cX3_two 103 = .ok (.goto 4, 3) := zd02dec1_142.2.2.2.2.2.2.2.2.2.1
theorem dX3_two_106 : decode cX3_two 106 = .ok (.iconst 0, 1) := zd02dec1_142.2.2.2.2.2.2.2.2.2.2.1
theorem dX3_two_107 : decode cX3_two 107 = .ok (.ireturn, 1) := zd02dec1_142.2.2.2.2.2.2.2.2.2.2.2
theorem zd02dec1_143 : decode cX3_two 108 = .ok (.iload_n 1, 1) ∧ decode cX3_two 109 = .ok (.ifCond .ne 7, 3) ∧ decode cX3_two 112 = .ok (.iload_n 2, 1) ∧ decode cX3_two 113 = .ok (.ifCond .eq 7, 3) ∧ decode cX3_two 116 = .ok (.iconst 1, 1) ∧ decode cX3_two 117 = .ok (.goto 4, 3) ∧ decode cX3_two 120 = .ok (.iconst 0, 1) ∧ decode cX3_two 121 = .ok (.ireturn, 1) := by decide +kernel
theorem dX3_two_108 : decode cX3_two 108 = .ok (.iload_n 1, 1) := zd02dec1_143.1
theorem dX3_two_109 : decode cX3_two 109 = .ok (.ifCond .ne 7, 3) := zd02dec1_143.2.1
theorem dX3_two_112 : decode cX3_two 112 = .ok (.iload_n 2, 1) := zd02dec1_143.2.2.1
theorem dX3_two_113 : decode cX3_two 113 = .ok (.ifCond .eq 7, 3) := zd02dec1_143.2.2.2.1
theorem dX3_two_116 : decode cX3_two 116 = .ok (.iconst 1, 1) := zd02dec1_143.2.2.2.2.1
theorem dX3_two_117 : decode cX3_two 117 = .ok (.goto 4, 3) := zd02dec1_143.2.2.2.2.2.1
theorem dX3_two_120 : decode cX3_two 120 = .ok (.iconst 0, 1) := zd02dec1_143.2.2.2.2.2.2.1
theorem dX3_two_121 : decode cX3_two 121 = .ok (.ireturn, 1) := zd02dec1_143.2.2.2.2.2.2.2
theorem zd02dec1_144 : decode cX4_init 0 = .ok (.aload_n 0, 1) ∧ decode cX4_init 1 = .ok (.invokespecial 3, 3) ∧ decode cX4_init 4 = .ok (.aload_n 0, 1) ∧ decode cX4_init 5 = .ok (.bipush 6, 2) ∧ decode cX4_init 7 = .ok (.bipush 6, 2) ∧ decode cX4_init 9 = .ok (.multianewarray 9 2, 4) ∧ decode cX4_init 13 = .ok (.putfield 11, 3) ∧ decode cX4_init 16 = .ok (.aload_n 0, 1) ∧ decode cX4_init 17 = .ok (.bipush 64, 2) ∧ decode cX4_init 19 = .ok (.newarray .int, 2) ∧ decode cX4_init 21 = .ok (.putfield 16, 3) ∧ decode cX4_init 24 = .ok (.return_, 1) := by decide +kernel
theorem dX4_init_0 : decode cX4_init 0 = .ok (.aload_n 0, 1) := zd02dec1_144.1
theorem dX4_init_1 : decode cX4_init 1 = .ok (.invokespecial 3, 3) := zd02dec1_144.2.1
theorem dX4_init_4 : decode cX4_init 4 = .ok (.aload_n 0, 1) := zd02dec1_144.2.2.1
theorem dX4_init_5 : decode cX4_init 5 = .ok (.bipush 6, 2) := zd02dec1_144.2.2.2.1
theorem dX4_init_7 : decode cX4_init 7 = .ok (.bipush 6, 2) := zd02dec1_144.2.2.2.2.1
theorem dX4_init_9 : decode cX4_init 9 = .ok (.multianewarray 9 2, 4) := zd02dec1_144.2.2.2.2.2.1
theorem dX4_init_13 : decode cX4_init 13 = .ok (.putfield 11, 3) := zd02dec1_144.2.2.2.2.2.2.1
theorem dX4_init_16 : decode cX4_init 16 = .ok (.aload_n 0, 1) := zd02dec1_144.2.2.2.2.2.2.2.1
theorem dX4_init_17 : decode cX4_init 17 = .ok (.bipush 64, 2) := zd02dec1_144.2.2.2.2.2.2.2.2.1
theorem dX4_init_19 : decode cX4_init 19 = .ok (.newarray .int, 2) := zd02dec1_144.2.2.2.2.2.2.2.2.2.1
theorem dX4_init_21 : decode cX4_init 21 = .ok (.putfield 16, 3) := zd02dec1_144.2.2.2.2.2.2.2.2.2.2.1
theorem dX4_init_24 : decode cX4_init 24 = .ok (.return_, 1) := zd02dec1_144.2.2.2.2.2.2.2.2.2.2.2
theorem zd02dec1_145 : decode cX4_solve 0 = .ok (.iconst 1, 1) ∧ decode cX4_solve 1 = .ok (.iload_n 1, 1) ∧ decode cX4_solve 2 = .ok (.ishl, 1) ∧ decode cX4_solve 3 = .ok (.iconst 1, 1) ∧ decode cX4_solve 4 = .ok (.isub, 1) ∧ decode cX4_solve 5 = .ok (.istore_n 3, 1) ∧ decode cX4_solve 6 = .ok (.aload_n 0, 1) ∧ decode cX4_solve 7 = .ok (.getfield 16, 3) ∧ decode cX4_solve 10 = .ok (.iload_n 3, 1) ∧ decode cX4_solve 11 = .ok (.iconst 0, 1) ∧ decode cX4_solve 12 = .ok (.iastore, 1) ∧ decode cX4_solve 13 = .ok (.iload_n 3, 1) := by decide +kernel
theorem dX4_solve_0 : decode cX4_solve 0 = .ok (.iconst 1, 1) := zd02dec1_145.1
theorem dX4_solve_1 : decode cX4_solve 1 = .ok (.iload_n 1, 1) := zd02dec1_145.2.1
theorem dX4_solve_2 : decode cX4_solve 2 = .ok (.ishl, 1) := zd02dec1_145.2.2.1
theorem dX4_solve_3 : decode cX4_solve 3 = .ok (.iconst 1, 1) := zd02dec1_145.2.2.2.1
theorem dX4_solve_4 : decode cX4_solve 4 = .ok (.isub, 1) := zd02dec1_145.2.2.2.2.1
theorem dX4_solve_5 : decode cX4_solve 5 = .ok (.istore_n 3, 1) := zd02dec1_145.2.2.2.2.2.1
theorem dX4_solve_6 : decode cX4_solve 6 = .ok (.aload_n 0, 1) := zd02dec1_145.2.2.2.2.2.2.1
theorem dX4_solve_7 : decode cX4_solve 7 = .ok (.getfield 16, 3) := zd02dec1_145.2.2.2.2.2.2.2.1
theorem dX4_solve_10 : decode cX4_solve 10 = .ok (.iload_n 3, 1) := zd02dec1_145.2.2.2.2.2.2.2.2.1
theorem dX4_solve_11 : decode cX4_solve 11 = .ok (.iconst 0, 1) := zd02dec1_145.2.2.2.2.2.2.2.2.2.1
theorem dX4_solve_12 : decode cX4_solve 12 = .ok (.iastore, 1) := zd02dec1_145.2.2.2.2.2.2.2.2.2.2.1
theorem dX4_solve_13 : decode cX4_solve 13 = .ok (.iload_n 3, 1) := zd02dec1_145.2.2.2.2.2.2.2.2.2.2.2
theorem zd02dec1_146 : decode cX4_solve 14 = .ok (.iconst 1, 1) ∧ decode cX4_solve 15 = .ok (.isub, 1) ∧ decode cX4_solve 16 = .ok (.istore 4, 2) ∧ decode cX4_solve 18 = .ok (.iload 4, 2) ∧ decode cX4_solve 20 = .ok (.ifCond .lt 133, 3) ∧ decode cX4_solve 23 = .ok (.iload 4, 2) ∧ decode cX4_solve 25 = .ok (.invokestatic 20, 3) ∧ decode cX4_solve 28 = .ok (.istore 5, 2) ∧ decode cX4_solve 30 = .ok (.iload_n 2, 1) ∧ decode cX4_solve 31 = .ok (.ifCond .eq 14, 3) ∧ decode cX4_solve 34 = .ok (.iload 5, 2) ∧ decode cX4_solve 36 = .ok (.iconst 2, 1) := by decide +kernel
theorem dX4_solve_14 : decode cX4_solve 14 = .ok (.iconst 1, 1) := zd02dec1_146.1
theorem dX4_solve_15 : decode cX4_solve 15 = .ok (.isub, 1) := zd02dec1_146.2.1
theorem dX4_solve_16 : decode cX4_solve 16 = .ok (.istore 4, 2) := zd02dec1_146.2.2.1
theorem dX4_solve_18 : decode cX4_solve 18 = .ok (.iload 4, 2) := zd02dec1_146.2.2.2.1
theorem dX4_solve_20 : decode cX4_solve 20 = .ok (.ifCond .lt 133, 3) := zd02dec1_146.2.2.2.2.1
theorem dX4_solve_23 : decode cX4_solve 23 = .ok (.iload 4, 2) := zd02dec1_146.2.2.2.2.2.1
theorem dX4_solve_25 : decode cX4_solve 25 = .ok (.invokestatic 20, 3) := zd02dec1_146.2.2.2.2.2.2.1
theorem dX4_solve_28 : decode cX4_solve 28 = .ok (.istore 5, 2) := zd02dec1_146.2.2.2.2.2.2.2.1
theorem dX4_solve_30 : decode cX4_solve 30 = .ok (.iload_n 2, 1) := zd02dec1_146.2.2.2.2.2.2.2.2.1
theorem dX4_solve_31 : decode cX4_solve 31 = .ok (.ifCond .eq 14, 3) := zd02dec1_146.2.2.2.2.2.2.2.2.2.1
theorem dX4_solve_34 : decode cX4_solve 34 = .ok (.iload 5, 2) := zd02dec1_146.2.2.2.2.2.2.2.2.2.2.1
theorem dX4_solve_36 : decode cX4_solve 36 = .ok (.iconst 2, 1) := zd02dec1_146.2.2.2.2.2.2.2.2.2.2.2
theorem zd02dec1_147 : decode cX4_solve 37 = .ok (.irem, 1) ∧ decode cX4_solve 38 = .ok (.ifCond .ne 7, 3) ∧ decode cX4_solve 41 = .ok (.iconst 1, 1) ∧ decode cX4_solve 42 = .ok (.goto 4, 3) ∧ decode cX4_solve 45 = .ok (.iconst 0, 1) ∧ decode cX4_solve 46 = .ok (.istore 6, 2) ∧ decode cX4_solve 48 = .ok (.iconst 1, 1) ∧ decode cX4_solve 49 = .ok (.istore 7, 2) ∧ decode cX4_solve 51 = .ok (.iconst 0, 1) ∧ decode cX4_solve 52 = .ok (.istore 8, 2) ∧ decode cX4_solve 54 = .ok (.iconst 0, 1) ∧ decode cX4_solve 55 = .ok (.istore 9, 2) := by decide +kernel
theorem dX4_solve_37 : decode cX4_solve 37 = .ok (.irem, 1) := zd02dec1_147.1
theorem dX4_solve_38 : decode cX4_solve 38 = .ok (.ifCond .ne 7, 3) := zd02dec1_147.2.1
theorem dX4_solve_41 : decode cX4_solve 41 = .ok (.iconst 1, 1) := zd02dec1_147.2.2.1
theorem dX4_solve_42 : decode cX4_solve 42 = .ok (.goto 4, 3) := zd02dec1_147.2.2.2.1
theorem dX4_solve_45 : decode cX4_solve 45 = .ok (.iconst 0, 1) := zd02dec1_147.2.2.2.2.1
theorem dX4_solve_46 : decode cX4_solve 46 = .ok (.istore 6, 2) := zd02dec1_147.2.2.2.2.2.1
theorem dX4_solve_48 : decode cX4_solve 48 = .ok (.iconst 1, 1) := zd02dec1_147.2.2.2.2.2.2.1
theorem dX4_solve_49 : decode cX4_solve 49 = .ok (.istore 7, 2) := zd02dec1_147.2.2.2.2.2.2.2.1
theorem dX4_solve_51 : decode cX4_solve 51 = .ok (.iconst 0, 1) := zd02dec1_147.2.2.2.2.2.2.2.2.1
theorem dX4_solve_52 : decode cX4_solve 52 = .ok (.istore 8, 2) := zd02dec1_147.2.2.2.2.2.2.2.2.2.1
theorem dX4_solve_54 : decode cX4_solve 54 = .ok (.iconst 0, 1) := zd02dec1_147.2.2.2.2.2.2.2.2.2.2.1
theorem dX4_solve_55 : decode cX4_solve 55 = .ok (.istore 9, 2) := zd02dec1_147.2.2.2.2.2.2.2.2.2.2.2
theorem zd02dec1_148 : decode cX4_solve 57 = .ok (.iload 9, 2) ∧ decode cX4_solve 59 = .ok (.iload_n 1, 1) ∧ decode cX4_solve 60 = .ok (.if_icmp .ge 78, 3) ∧ decode cX4_solve 63 = .ok (.iload 4, 2) ∧ decode cX4_solve 65 = .ok (.iload 9, 2) ∧ decode cX4_solve 67 = .ok (.ishr, 1) ∧ decode cX4_solve 68 = .ok (.iconst 1, 1) ∧ decode cX4_solve 69 = .ok (.iand, 1) ∧ decode cX4_solve 70 = .ok (.ifCond .ne 62, 3) ∧ decode cX4_solve 73 = .ok (.aload_n 0, 1) ∧ decode cX4_solve 74 = .ok (.getfield 11, 3) ∧ decode cX4_solve 77 = .ok (.iload 5, 2) := by decide +kernel
theorem dX4_solve_57 : decode cX4_solve 57 = .ok (.iload 9, 2) := zd02dec1_148.1
theorem dX4_solve_59 : decode cX4_solve 59 = .ok (.iload_n 1, 1) := zd02dec1_148.2.1
theorem dX4_solve_60 : decode cX4_solve 60 = .ok (.if_icmp .ge 78, 3) := zd02dec1_148.2.2.1
theorem dX4_solve_63 : decode cX4_solve 63 = .ok (.iload 4, 2) := zd02dec1_148.2.2.2.1
theorem dX4_solve_65 : decode cX4_solve 65 = .ok (.iload 9, 2) := zd02dec1_148.2.2.2.2.1
theorem dX4_solve_67 : decode cX4_solve 67 = .ok (.ishr, 1) := zd02dec1_148.2.2.2.2.2.1
theorem dX4_solve_68 : decode cX4_solve 68 = .ok (.iconst 1, 1) := zd02dec1_148.2.2.2.2.2.2.1
theorem dX4_solve_69 : decode cX4_solve 69 = .ok (.iand, 1) := zd02dec1_148.2.2.2.2.2.2.2.1
theorem dX4_solve_70 : decode cX4_solve 70 = .ok (.ifCond .ne 62, 3) := zd02dec1_148.2.2.2.2.2.2.2.2.1
theorem dX4_solve_73 : decode cX4_solve 73 = .ok (.aload_n 0, 1) := zd02dec1_148.2.2.2.2.2.2.2.2.2.1
theorem dX4_solve_74 : decode cX4_solve 74 = .ok (.getfield 11, 3) := zd02dec1_148.2.2.2.2.2.2.2.2.2.2.1
theorem dX4_solve_77 : decode cX4_solve 77 = .ok (.iload 5, 2) := zd02dec1_148.2.2.2.2.2.2.2.2.2.2.2
theorem zd02dec1_149 : decode cX4_solve 79 = .ok (.aaload, 1) ∧ decode cX4_solve 80 = .ok (.iload 9, 2) ∧ decode cX4_solve 82 = .ok (.iaload, 1) ∧ decode cX4_solve 83 = .ok (.aload_n 0, 1) ∧ decode cX4_solve 84 = .ok (.getfield 16, 3) ∧ decode cX4_solve 87 = .ok (.iload 4, 2) ∧ decode cX4_solve 89 = .ok (.iconst 1, 1) ∧ decode cX4_solve 90 = .ok (.iload 9, 2) ∧ decode cX4_solve 92 = .ok (.ishl, 1) ∧ decode cX4_solve 93 = .ok (.ior, 1) ∧ decode cX4_solve 94 = .ok (.iaload, 1) ∧ decode cX4_solve 95 = .ok (.iadd, 1) := by decide +kernel
theorem dX4_solve_79 : decode cX4_solve 79 = .ok (.aaload, 1) := zd02dec1_149.1
theorem dX4_solve_80 : decode cX4_solve 80 = .ok (.iload 9, 2) := zd02dec1_149.2.1
theorem dX4_solve_82 : decode cX4_solve 82 = .ok (.iaload, 1) := zd02dec1_149.2.2.1
theorem dX4_solve_83 : decode cX4_solve 83 = .ok (.aload_n 0, 1) := zd02dec1_149.2.2.2.1
theorem dX4_solve_84 : decode cX4_solve 84 = .ok (.getfield 16, 3) := zd02dec1_149.2.2.2.2.1
theorem dX4_solve_87 : decode cX4_solve 87 = .ok (.iload 4, 2) := zd02dec1_149.2.2.2.2.2.1
theorem dX4_solve_89 : decode cX4_solve 89 = .ok (.iconst 1, 1) := zd02dec1_149.2.2.2.2.2.2.1
theorem dX4_solve_90 : decode cX4_solve 90 = .ok (.iload 9, 2) := zd02dec1_149.2.2.2.2.2.2.2.1
theorem dX4_solve_92 : decode cX4_solve 92 = .ok (.ishl, 1) := zd02dec1_149.2.2.2.2.2.2.2.2.1
theorem dX4_solve_93 : decode cX4_solve 93 = .ok (.ior, 1) := zd02dec1_149.2.2.2.2.2.2.2.2.2.1
theorem dX4_solve_94 : decode cX4_solve 94 = .ok (.iaload, 1) := zd02dec1_149.2.2.2.2.2.2.2.2.2.2.1
theorem dX4_solve_95 : decode cX4_solve 95 = .ok (.iadd, 1) := zd02dec1_149.2.2.2.2.2.2.2.2.2.2.2
theorem zd02dec1_150 : decode cX4_solve 96 = .ok (.istore 10, 2) ∧ decode cX4_solve 98 = .ok (.iload 7, 2) ∧ decode cX4_solve 100 = .ok (.ifCond .ne 25, 3) ∧ decode cX4_solve 103 = .ok (.iload 6, 2) ∧ decode cX4_solve 105 = .ok (.ifCond .eq 13, 3) ∧ decode cX4_solve 108 = .ok (.iload 10, 2) ∧ decode cX4_solve 110 = .ok (.iload 8, 2) ∧ decode cX4_solve 112 = .ok (.if_icmp .le 17, 3) ∧ decode cX4_solve 115 = .ok (.goto 10, 3) ∧ decode cX4_solve 118 = .ok (.iload 10, 2) ∧ decode cX4_solve 120 = .ok (.iload 8, 2) ∧ decode cX4_solve 122 = .ok (.if_icmp .ge 7, 3) := by decide +kernel
theorem dX4_solve_96 : decode cX4_solve 96 = .ok (.istore 10, 2) := zd02dec1_150.1
theorem dX4_solve_98 : decode cX4_solve 98 = .ok (.iload 7, 2) := zd02dec1_150.2.1
theorem dX4_solve_100 : decode cX4_solve 100 = .ok (.ifCond .ne 25, 3) := zd02dec1_150.2.2.1
theorem dX4_solve_103 : decode cX4_solve 103 = .ok (.iload 6, 2) := zd02dec1_150.2.2.2.1
theorem dX4_solve_105 : decode cX4_solve 105 = .ok (.ifCond .eq 13, 3) := zd02dec1_150.2.2.2.2.1
theorem dX4_solve_108 : decode cX4_solve 108 = .ok (.iload 10, 2) := zd02dec1_150.2.2.2.2.2.1
theorem dX4_solve_110 : decode cX4_solve 110 = .ok (.iload 8, 2) := zd02dec1_150.2.2.2.2.2.2.1
theorem dX4_solve_112 : decode cX4_solve 112 = .ok (.if_icmp .le 17, 3) := zd02dec1_150.2.2.2.2.2.2.2.1
theorem dX4_solve_115 : decode cX4_solve 115 = .ok (.goto 10, 3) := zd02dec1_150.2.2.2.2.2.2.2.2.1
theorem dX4_solve_118 : decode cX4_solve 118 = .ok (.iload 10, 2) := zd02dec1_150.2.2.2.2.2.2.2.2.2.1
theorem dX4_solve_120 : decode cX4_solve 120 = .ok (.iload 8, 2) := zd02dec1_150.2.2.2.2.2.2.2.2.2.2.1
theorem dX4_solve_122 : decode cX4_solve 122 = .ok (.if_icmp .ge 7, 3) := zd02dec1_150.2.2.2.2.2.2.2.2.2.2.2
theorem zd02dec1_151 : decode cX4_solve 125 = .ok (.iload 10, 2) ∧ decode cX4_solve 127 = .ok (.istore 8, 2) ∧ decode cX4_solve 129 = .ok (.iconst 0, 1) ∧ decode cX4_solve 130 = .ok (.istore 7, 2) ∧ decode cX4_solve 132 = .ok (.iinc 9 1, 3) ∧ decode cX4_solve 135 = .ok (.goto (-78), 3) ∧ decode cX4_solve 138 = .ok (.aload_n 0, 1) ∧ decode cX4_solve 139 = .ok (.getfield 16, 3) ∧ decode cX4_solve 142 = .ok (.iload 4, 2) ∧ decode cX4_solve 144 = .ok (.iload 8, 2) ∧ decode cX4_solve 146 = .ok (.iastore, 1) ∧ decode cX4_solve 147 = .ok (.iinc 4 (-1), 3) := by decide +kernel
theorem dX4_solve_125 : decode cX4_solve 125 = .ok (.iload 10, 2) := zd02dec1_151.1
theorem dX4_solve_127 : decode cX4_solve 127 = .ok (.istore 8, 2) := zd02dec1_151.2.1
theorem dX4_solve_129 : decode cX4_solve 129 = .ok (.iconst 0, 1) := zd02dec1_151.2.2.1
theorem dX4_solve_130 : decode cX4_solve 130 = .ok (.istore 7, 2) := zd02dec1_151.2.2.2.1
theorem dX4_solve_132 : decode cX4_solve 132 = .ok (.iinc 9 1, 3) := zd02dec1_151.2.2.2.2.1
theorem dX4_solve_135 : decode cX4_solve 135 = .ok (.goto (-78), 3) := zd02dec1_151.2.2.2.2.2.1
theorem dX4_solve_138 : decode cX4_solve 138 = .ok (.aload_n 0, 1) := zd02dec1_151.2.2.2.2.2.2.1
theorem dX4_solve_139 : decode cX4_solve 139 = .ok (.getfield 16, 3) := zd02dec1_151.2.2.2.2.2.2.2.1
theorem dX4_solve_142 : decode cX4_solve 142 = .ok (.iload 4, 2) := zd02dec1_151.2.2.2.2.2.2.2.2.1
theorem dX4_solve_144 : decode cX4_solve 144 = .ok (.iload 8, 2) := zd02dec1_151.2.2.2.2.2.2.2.2.2.1
theorem dX4_solve_146 : decode cX4_solve 146 = .ok (.iastore, 1) := zd02dec1_151.2.2.2.2.2.2.2.2.2.2.1
theorem dX4_solve_147 : decode cX4_solve 147 = .ok (.iinc 4 (-1), 3) := zd02dec1_151.2.2.2.2.2.2.2.2.2.2.2
theorem zd02dec1_152 : decode cX4_solve 150 = .ok (.goto (-132), 3) ∧ decode cX4_solve 153 = .ok (.return_, 1) := by decide +kernel
theorem dX4_solve_150 : decode cX4_solve 150 = .ok (.goto (-132), 3) := zd02dec1_152.1
theorem dX4_solve_153 : decode cX4_solve 153 = .ok (.return_, 1) := zd02dec1_152.2
theorem zd02dec1_153 : decode cX4_total 0 = .ok (.aload_n 0, 1) ∧ decode cX4_total 1 = .ok (.getfield 16, 3) ∧ decode cX4_total 4 = .ok (.iconst 0, 1) ∧ decode cX4_total 5 = .ok (.iaload, 1) ∧ decode cX4_total 6 = .ok (.ireturn, 1) := by decide +kernel
theorem dX4_total_0 : decode cX4_total 0 = .ok (.aload_n 0, 1) := zd02dec1_153.1
theorem dX4_total_1 : decode cX4_total 1 = .ok (.getfield 16, 3) := zd02dec1_153.2.1
theorem dX4_total_4 : decode cX4_total 4 = .ok (.iconst 0, 1) := zd02dec1_153.2.2.1
theorem dX4_total_5 : decode cX4_total 5 = .ok (.iaload, 1) := zd02dec1_153.2.2.2.1
theorem dX4_total_6 : decode cX4_total 6 = .ok (.ireturn, 1) := zd02dec1_153.2.2.2.2
theorem zd02dec1_154 : decode cX4_chosen 0 = .ok (.iload_n 1, 1) ∧ decode cX4_chosen 1 = .ok (.invokestatic 20, 3) ∧ decode cX4_chosen 4 = .ok (.istore_n 3, 1) ∧ decode cX4_chosen 5 = .ok (.iconst 0, 1) ∧ decode cX4_chosen 6 = .ok (.istore 4, 2) ∧ decode cX4_chosen 8 = .ok (.iload 4, 2) ∧ decode cX4_chosen 10 = .ok (.iload_n 2, 1) ∧ decode cX4_chosen 11 = .ok (.if_icmp .ge 51, 3) ∧ decode cX4_chosen 14 = .ok (.iload_n 1, 1) ∧ decode cX4_chosen 15 = .ok (.iload 4, 2) ∧ decode cX4_chosen 17 = .ok (.ishr, 1) ∧ decode cX4_chosen 18 = .ok (.iconst 1, 1) := by decide +kernel
theorem dX4_chosen_0 : decode cX4_chosen 0 = .ok (.iload_n 1, 1) := zd02dec1_154.1
theorem dX4_chosen_1 : decode cX4_chosen 1 = .ok (.invokestatic 20, 3) := zd02dec1_154.2.1
theorem dX4_chosen_4 : decode cX4_chosen 4 = .ok (.istore_n 3, 1) := zd02dec1_154.2.2.1
theorem dX4_chosen_5 : decode cX4_chosen 5 = .ok (.iconst 0, 1) := zd02dec1_154.2.2.2.1
theorem dX4_chosen_6 : decode cX4_chosen 6 = .ok (.istore 4, 2) := zd02dec1_154.2.2.2.2.1
theorem dX4_chosen_8 : decode cX4_chosen 8 = .ok (.iload 4, 2) := zd02dec1_154.2.2.2.2.2.1
theorem dX4_chosen_10 : decode cX4_chosen 10 = .ok (.iload_n 2, 1) := zd02dec1_154.2.2.2.2.2.2.1
theorem dX4_chosen_11 : decode cX4_chosen 11 = .ok (.if_icmp .ge 51, 3) := zd02dec1_154.2.2.2.2.2.2.2.1
theorem dX4_chosen_14 : decode cX4_chosen 14 = .ok (.iload_n 1, 1) := zd02dec1_154.2.2.2.2.2.2.2.2.1
theorem dX4_chosen_15 : decode cX4_chosen 15 = .ok (.iload 4, 2) := zd02dec1_154.2.2.2.2.2.2.2.2.2.1
theorem dX4_chosen_17 : decode cX4_chosen 17 = .ok (.ishr, 1) := zd02dec1_154.2.2.2.2.2.2.2.2.2.2.1
theorem dX4_chosen_18 : decode cX4_chosen 18 = .ok (.iconst 1, 1) := zd02dec1_154.2.2.2.2.2.2.2.2.2.2.2
theorem zd02dec1_155 : decode cX4_chosen 19 = .ok (.iand, 1) ∧ decode cX4_chosen 20 = .ok (.ifCond .ne 36, 3) ∧ decode cX4_chosen 23 = .ok (.aload_n 0, 1) ∧ decode cX4_chosen 24 = .ok (.getfield 11, 3) ∧ decode cX4_chosen 27 = .ok (.iload_n 3, 1) ∧ decode cX4_chosen 28 = .ok (.aaload, 1) ∧ decode cX4_chosen 29 = .ok (.iload 4, 2) ∧ decode cX4_chosen 31 = .ok (.iaload, 1) ∧ decode cX4_chosen 32 = .ok (.aload_n 0, 1) ∧ decode cX4_chosen 33 = .ok (.getfield 16, 3) ∧ decode cX4_chosen 36 = .ok (.iload_n 1, 1) ∧ decode cX4_chosen 37 = .ok (.iconst 1, 1) := by decide +kernel
theorem dX4_chosen_19 : decode cX4_chosen 19 = .ok (.iand, 1) := zd02dec1_155.1
theorem dX4_chosen_20 : decode cX4_chosen 20 = .ok (.ifCond .ne 36, 3) := zd02dec1_155.2.1
theorem dX4_chosen_23 : decode cX4_chosen 23 = .ok (.aload_n 0, 1) := zd02dec1_155.2.2.1
theorem dX4_chosen_24 : decode cX4_chosen 24 = .ok (.getfield 11, 3) := zd02dec1_155.2.2.2.1
theorem dX4_chosen_27 : decode cX4_chosen 27 = .ok (.iload_n 3, 1) := zd02dec1_155.2.2.2.2.1
theorem dX4_chosen_28 : decode cX4_chosen 28 = .ok (.aaload, 1) := zd02dec1_155.2.2.2.2.2.1
theorem dX4_chosen_29 : decode cX4_chosen 29 = .ok (.iload 4, 2) := zd02dec1_155.2.2.2.2.2.2.1
theorem dX4_chosen_31 : decode cX4_chosen 31 = .ok (.iaload, 1) := zd02dec1_155.2.2.2.2.2.2.2.1
theorem dX4_chosen_32 : decode cX4_chosen 32 = .ok (.aload_n 0, 1) := zd02dec1_155.2.2.2.2.2.2.2.2.1
theorem dX4_chosen_33 : decode cX4_chosen 33 = .ok (.getfield 16, 3) := zd02dec1_155.2.2.2.2.2.2.2.2.2.1
theorem dX4_chosen_36 : decode cX4_chosen 36 = .ok (.iload_n 1, 1) := zd02dec1_155.2.2.2.2.2.2.2.2.2.2.1
theorem dX4_chosen_37 : decode cX4_chosen 37 = .ok (.iconst 1, 1) := zd02dec1_155.2.2.2.2.2.2.2.2.2.2.2
theorem zd02dec1_156 : decode cX4_chosen 38 = .ok (.iload 4, 2) ∧ decode cX4_chosen 40 = .ok (.ishl, 1) ∧ decode cX4_chosen 41 = .ok (.ior, 1) ∧ decode cX4_chosen 42 = .ok (.iaload, 1) ∧ decode cX4_chosen 43 = .ok (.iadd, 1) ∧ decode cX4_chosen 44 = .ok (.aload_n 0, 1) ∧ decode cX4_chosen 45 = .ok (.getfield 16, 3) ∧ decode cX4_chosen 48 = .ok (.iload_n 1, 1) ∧ decode cX4_chosen 49 = .ok (.iaload, 1) ∧ decode cX4_chosen 50 = .ok (.if_icmp .ne 6, 3) ∧ decode cX4_chosen 53 = .ok (.iload 4, 2) ∧ decode cX4_chosen 55 = .ok (.ireturn, 1) := by decide +kernel
theorem dX4_chosen_38 : decode cX4_chosen 38 = .ok (.iload 4, 2) := zd02dec1_156.1
theorem dX4_chosen_40 : decode cX4_chosen 40 = .ok (.ishl, 1) := zd02dec1_156.2.1
theorem dX4_chosen_41 : decode cX4_chosen 41 = .ok (.ior, 1) := zd02dec1_156.2.2.1
theorem dX4_chosen_42 : decode cX4_chosen 42 = .ok (.iaload, 1) := zd02dec1_156.2.2.2.1
theorem dX4_chosen_43 : decode cX4_chosen 43 = .ok (.iadd, 1) := zd02dec1_156.2.2.2.2.1
theorem dX4_chosen_44 : decode cX4_chosen 44 = .ok (.aload_n 0, 1) := zd02dec1_156.2.2.2.2.2.1
theorem dX4_chosen_45 : decode cX4_chosen 45 = .ok (.getfield 16, 3) := zd02dec1_156.2.2.2.2.2.2.1
theorem dX4_chosen_48 : decode cX4_chosen 48 = .ok (.iload_n 1, 1) := zd02dec1_156.2.2.2.2.2.2.2.1
theorem dX4_chosen_49 : decode cX4_chosen 49 = .ok (.iaload, 1) := zd02dec1_156.2.2.2.2.2.2.2.2.1
theorem dX4_chosen_50 : decode cX4_chosen 50 = .ok (.if_icmp .ne 6, 3) := zd02dec1_156.2.2.2.2.2.2.2.2.2.1
theorem dX4_chosen_53 : decode cX4_chosen 53 = .ok (.iload 4, 2) := zd02dec1_156.2.2.2.2.2.2.2.2.2.2.1
theorem dX4_chosen_55 : decode cX4_chosen 55 = .ok (.ireturn, 1) := zd02dec1_156.2.2.2.2.2.2.2.2.2.2.2
theorem zd02dec1_157 : decode cX4_chosen 56 = .ok (.iinc 4 1, 3) ∧ decode cX4_chosen 59 = .ok (.goto (-51), 3) ∧ decode cX4_chosen 62 = .ok (.iconst (-1), 1) ∧ decode cX4_chosen 63 = .ok (.ireturn, 1) := by decide +kernel
theorem dX4_chosen_56 : decode cX4_chosen 56 = .ok (.iinc 4 1, 3) := zd02dec1_157.1
theorem dX4_chosen_59 : decode cX4_chosen 59 = .ok (.goto (-51), 3) := zd02dec1_157.2.1
theorem dX4_chosen_62 : decode cX4_chosen 62 = .ok (.iconst (-1), 1) := zd02dec1_157.2.2.1
theorem dX4_chosen_63 : decode cX4_chosen 63 = .ok (.ireturn, 1) := zd02dec1_157.2.2.2
theorem zd02dec1_158 : decode cX4_digits 0 = .ok (.iconst 0, 1) ∧ decode cX4_digits 1 = .ok (.istore_n 2, 1) ∧ decode cX4_digits 2 = .ok (.iconst 0, 1) ∧ decode cX4_digits 3 = .ok (.istore_n 3, 1) ∧ decode cX4_digits 4 = .ok (.iconst 0, 1) ∧ decode cX4_digits 5 = .ok (.istore 4, 2) ∧ decode cX4_digits 7 = .ok (.iload 4, 2) ∧ decode cX4_digits 9 = .ok (.iload_n 1, 1) ∧ decode cX4_digits 10 = .ok (.if_icmp .ge 41, 3) ∧ decode cX4_digits 13 = .ok (.aload_n 0, 1) ∧ decode cX4_digits 14 = .ok (.iload_n 2, 1) ∧ decode cX4_digits 15 = .ok (.iload_n 1, 1) := by decide +kernel
theorem dX4_digits_0 : decode cX4_digits 0 = .ok (.iconst 0, 1) := zd02dec1_158.1
theorem dX4_digits_1 : decode cX4_digits 1 = .ok (.istore_n 2, 1) := zd02dec1_158.2.1
theorem dX4_digits_2 : decode cX4_digits 2 = .ok (.iconst 0, 1) := zd02dec1_158.2.2.1
theorem dX4_digits_3 : decode cX4_digits 3 = .ok (.istore_n 3, 1) := zd02dec1_158.2.2.2.1
theorem dX4_digits_4 : decode cX4_digits 4 = .ok (.iconst 0, 1) := zd02dec1_158.2.2.2.2.1
theorem dX4_digits_5 : decode cX4_digits 5 = .ok (.istore 4, 2) := zd02dec1_158.2.2.2.2.2.1
theorem dX4_digits_7 : decode cX4_digits 7 = .ok (.iload 4, 2) := zd02dec1_158.2.2.2.2.2.2.1
theorem dX4_digits_9 : decode cX4_digits 9 = .ok (.iload_n 1, 1) := zd02dec1_158.2.2.2.2.2.2.2.1
theorem dX4_digits_10 : decode cX4_digits 10 = .ok (.if_icmp .ge 41, 3) := zd02dec1_158.2.2.2.2.2.2.2.2.1
theorem dX4_digits_13 : decode cX4_digits 13 = .ok (.aload_n 0, 1) := zd02dec1_158.2.2.2.2.2.2.2.2.2.1
theorem dX4_digits_14 : decode cX4_digits 14 = .ok (.iload_n 2, 1) := zd02dec1_158.2.2.2.2.2.2.2.2.2.2.1
theorem dX4_digits_15 : decode cX4_digits 15 = .ok (.iload_n 1, 1) := zd02dec1_158.2.2.2.2.2.2.2.2.2.2.2
theorem zd02dec1_159 : decode cX4_digits 16 = .ok (.invokevirtual 26, 3) ∧ decode cX4_digits 19 = .ok (.istore 5, 2) ∧ decode cX4_digits 21 = .ok (.iload 5, 2) ∧ decode cX4_digits 23 = .ok (.ifCond .ge 5, 3) ∧ decode cX4_digits 26 = .ok (.iconst (-1), 1) ∧ decode cX4_digits 27 = .ok (.ireturn, 1) ∧ decode cX4_digits 28 = .ok (.bipush 10, 2) ∧ decode cX4_digits 30 = .ok (.iload_n 3, 1) ∧ decode cX4_digits 31 = .ok (.imul, 1) ∧ decode cX4_digits 32 = .ok (.iload 5, 2) ∧ decode cX4_digits 34 = .ok (.iadd, 1) ∧ decode cX4_digits 35 = .ok (.iconst 1, 1) := by decide +kernel
theorem dX4_digits_16 : decode cX4_digits 16 = .ok (.invokevirtual 26, 3) := zd02dec1_159.1
theorem dX4_digits_19 : decode cX4_digits 19 = .ok (.istore 5, 2) := zd02dec1_159.2.1
theorem dX4_digits_21 : decode cX4_digits 21 = .ok (.iload 5, 2) := zd02dec1_159.2.2.1
theorem dX4_digits_23 : decode cX4_digits 23 = .ok (.ifCond .ge 5, 3) := zd02dec1_159.2.2.2.1
theorem dX4_digits_26 : decode cX4_digits 26 = .ok (.iconst (-1), 1) := zd02dec1_159.2.2.2.2.1
theorem dX4_digits_27 : decode cX4_digits 27 = .ok (.ireturn, 1) := zd02dec1_159.2.2.2.2.2.1
theorem dX4_digits_28 : decode cX4_digits 28 = .ok (.bipush 10, 2) := zd02dec1_159.2.2.2.2.2.2.1
theorem dX4_digits_30 : decode cX4_digits 30 = .ok (.iload_n 3, 1) := zd02dec1_159.2.2.2.2.2.2.2.1
theorem dX4_digits_31 : decode cX4_digits 31 = .ok (.imul, 1) := zd02dec1_159.2.2.2.2.2.2.2.2.1
theorem dX4_digits_32 : decode cX4_digits 32 = .ok (.iload 5, 2) := zd02dec1_159.2.2.2.2.2.2.2.2.2.1
theorem dX4_digits_34 : decode cX4_digits 34 = .ok (.iadd, 1) := zd02dec1_159.2.2.2.2.2.2.2.2.2.2.1
theorem dX4_digits_35 : decode cX4_digits 35 = .ok (.iconst 1, 1) := zd02dec1_159.2.2.2.2.2.2.2.2.2.2.2
theorem zd02dec1_160 : decode cX4_digits 36 = .ok (.iadd, 1) ∧ decode cX4_digits 37 = .ok (.istore_n 3, 1) ∧ decode cX4_digits 38 = .ok (.iload_n 2, 1) ∧ decode cX4_digits 39 = .ok (.iconst 1, 1) ∧ decode cX4_digits 40 = .ok (.iload 5, 2) ∧ decode cX4_digits 42 = .ok (.ishl, 1) ∧ decode cX4_digits 43 = .ok (.ior, 1) ∧ decode cX4_digits 44 = .ok (.istore_n 2, 1) ∧ decode cX4_digits 45 = .ok (.iinc 4 1, 3) ∧ decode cX4_digits 48 = .ok (.goto (-41), 3) ∧ decode cX4_digits 51 = .ok (.iload_n 1, 1) ∧ decode cX4_digits 52 = .ok (.ifCond .ne 7, 3) := by decide +kernel
theorem dX4_digits_36 : decode cX4_digits 36 = .ok (.iadd, 1) := zd02dec1_160.1
theorem dX4_digits_37 : decode cX4_digits 37 = .ok (.istore_n 3, 1) := zd02dec1_160.2.1
theorem dX4_digits_38 : decode cX4_digits 38 = .ok (.iload_n 2, 1) := zd02dec1_160.2.2.1
theorem dX4_digits_39 : decode cX4_digits 39 = .ok (.iconst 1, 1) := zd02dec1_160.2.2.2.1
theorem dX4_digits_40 : decode cX4_digits 40 = .ok (.iload 5, 2) := zd02dec1_160.2.2.2.2.1
theorem dX4_digits_42 : decode cX4_digits 42 = .ok (.ishl, 1) := zd02dec1_160.2.2.2.2.2.1
theorem dX4_digits_43 : decode cX4_digits 43 = .ok (.ior, 1) := zd02dec1_160.2.2.2.2.2.2.1
theorem dX4_digits_44 : decode cX4_digits 44 = .ok (.istore_n 2, 1) := zd02dec1_160.2.2.2.2.2.2.2.1
theorem dX4_digits_45 : decode cX4_digits 45 = .ok (.iinc 4 1, 3) := zd02dec1_160.2.2.2.2.2.2.2.2.1
theorem dX4_digits_48 : decode cX4_digits 48 = .ok (.goto (-41), 3) := zd02dec1_160.2.2.2.2.2.2.2.2.2.1
theorem dX4_digits_51 : decode cX4_digits 51 = .ok (.iload_n 1, 1) := zd02dec1_160.2.2.2.2.2.2.2.2.2.2.1
theorem dX4_digits_52 : decode cX4_digits 52 = .ok (.ifCond .ne 7, 3) := zd02dec1_160.2.2.2.2.2.2.2.2.2.2.2
theorem zd02dec1_161 : decode cX4_digits 55 = .ok (.iconst (-1), 1) ∧ decode cX4_digits 56 = .ok (.goto 4, 3) ∧ decode cX4_digits 59 = .ok (.iload_n 3, 1) ∧ decode cX4_digits 60 = .ok (.ireturn, 1) := by decide +kernel
theorem dX4_digits_55 : decode cX4_digits 55 = .ok (.iconst (-1), 1) := zd02dec1_161.1
theorem dX4_digits_56 : decode cX4_digits 56 = .ok (.goto 4, 3) := zd02dec1_161.2.1
theorem dX4_digits_59 : decode cX4_digits 59 = .ok (.iload_n 3, 1) := zd02dec1_161.2.2.1
theorem dX4_digits_60 : decode cX4_digits 60 = .ok (.ireturn, 1) := zd02dec1_161.2.2.2
theorem zd02dec1_162 : decode cX5_init 0 = .ok (.aload_n 0, 1) ∧ decode cX5_init 1 = .ok (.invokespecial 1, 3) ∧ decode cX5_init 4 = .ok (.aload_n 0, 1) ∧ decode cX5_init 5 = .ok (.new 7, 3) ∧ decode cX5_init 8 = .ok (.dup, 1) ∧ decode cX5_init 9 = .ok (.invokespecial 9, 3) ∧ decode cX5_init 12 = .ok (.putfield 10, 3) ∧ decode cX5_init 15 = .ok (.aload_n 0, 1) ∧ decode cX5_init 16 = .ok (.new 16, 3) ∧ decode cX5_init 19 = .ok (.dup, 1) ∧ decode cX5_init 20 = .ok (.aload_n 0, 1) ∧ decode cX5_init 21 = .ok (.getfield 10, 3) := by decide +kernel
theorem dX5_init_0 : decode cX5_init 0 = .ok (.aload_n 0, 1) := zd02dec1_162.1
theorem dX5_init_1 : decode cX5_init 1 = .ok (.invokespecial 1, 3) := zd02dec1_162.2.1
theorem dX5_init_4 : decode cX5_init 4 = .ok (.aload_n 0, 1) := zd02dec1_162.2.2.1
theorem dX5_init_5 : decode cX5_init 5 = .ok (.new 7, 3) := zd02dec1_162.2.2.2.1
theorem dX5_init_8 : decode cX5_init 8 = .ok (.dup, 1) := zd02dec1_162.2.2.2.2.1
theorem dX5_init_9 : decode cX5_init 9 = .ok (.invokespecial 9, 3) := zd02dec1_162.2.2.2.2.2.1
theorem dX5_init_12 : decode cX5_init 12 = .ok (.putfield 10, 3) := zd02dec1_162.2.2.2.2.2.2.1
theorem dX5_init_15 : decode cX5_init 15 = .ok (.aload_n 0, 1) := zd02dec1_162.2.2.2.2.2.2.2.1
theorem dX5_init_16 : decode cX5_init 16 = .ok (.new 16, 3) := zd02dec1_162.2.2.2.2.2.2.2.2.1
theorem dX5_init_19 : decode cX5_init 19 = .ok (.dup, 1) := zd02dec1_162.2.2.2.2.2.2.2.2.2.1
theorem dX5_init_20 : decode cX5_init 20 = .ok (.aload_n 0, 1) := zd02dec1_162.2.2.2.2.2.2.2.2.2.2.1
theorem dX5_init_21 : decode cX5_init 21 = .ok (.getfield 10, 3) := zd02dec1_162.2.2.2.2.2.2.2.2.2.2.2
theorem zd02dec1_163 : decode cX5_init 24 = .ok (.invokespecial 18, 3) ∧ decode cX5_init 27 = .ok (.putfield 21, 3) ∧ decode cX5_init 30 = .ok (.aload_n 0, 1) ∧ decode cX5_init 31 = .ok (.new 25, 3) ∧ decode cX5_init 34 = .ok (.dup, 1) ∧ decode cX5_init 35 = .ok (.aload_n 0, 1) ∧ decode cX5_init 36 = .ok (.getfield 10, 3) ∧ decode cX5_init 39 = .ok (.invokespecial 27, 3) ∧ decode cX5_init 42 = .ok (.putfield 28, 3) ∧ decode cX5_init 45 = .ok (.aload_n 0, 1) ∧ decode cX5_init 46 = .ok (.new 25, 3) ∧ decode cX5_init 49 = .ok (.dup, 1) := by decide +kernel
theorem dX5_init_24 : decode cX5_init 24 = .ok (.invokespecial 18, 3) := zd02dec1_163.1
theorem dX5_init_27 : decode cX5_init 27 = .ok (.putfield 21, 3) := zd02dec1_163.2.1
theorem dX5_init_30 : decode cX5_init 30 = .ok (.aload_n 0, 1) := zd02dec1_163.2.2.1
theorem dX5_init_31 : decode cX5_init 31 = .ok (.new 25, 3) := zd02dec1_163.2.2.2.1
theorem dX5_init_34 : decode cX5_init 34 = .ok (.dup, 1) := zd02dec1_163.2.2.2.2.1
theorem dX5_init_35 : decode cX5_init 35 = .ok (.aload_n 0, 1) := zd02dec1_163.2.2.2.2.2.1
theorem dX5_init_36 : decode cX5_init 36 = .ok (.getfield 10, 3) := zd02dec1_163.2.2.2.2.2.2.1
theorem dX5_init_39 : decode cX5_init 39 = .ok (.invokespecial 27, 3) := zd02dec1_163.2.2.2.2.2.2.2.1
theorem dX5_init_42 : decode cX5_init 42 = .ok (.putfield 28, 3) := zd02dec1_163.2.2.2.2.2.2.2.2.1
theorem dX5_init_45 : decode cX5_init 45 = .ok (.aload_n 0, 1) := zd02dec1_163.2.2.2.2.2.2.2.2.2.1
theorem dX5_init_46 : decode cX5_init 46 = .ok (.new 25, 3) := zd02dec1_163.2.2.2.2.2.2.2.2.2.2.1
theorem dX5_init_49 : decode cX5_init 49 = .ok (.dup, 1) := zd02dec1_163.2.2.2.2.2.2.2.2.2.2.2
theorem zd02dec1_164 : decode cX5_init 50 = .ok (.aload_n 0, 1) ∧ decode cX5_init 51 = .ok (.getfield 10, 3) ∧ decode cX5_init 54 = .ok (.invokespecial 27, 3) ∧ decode cX5_init 57 = .ok (.putfield 32, 3) ∧ decode cX5_init 60 = .ok (.aload_n 0, 1) ∧ decode cX5_init 61 = .ok (.new 25, 3) ∧ decode cX5_init 64 = .ok (.dup, 1) ∧ decode cX5_init 65 = .ok (.aload_n 0, 1) ∧ decode cX5_init 66 = .ok (.getfield 10, 3) ∧ decode cX5_init 69 = .ok (.invokespecial 27, 3) ∧ decode cX5_init 72 = .ok (.putfield 35, 3) ∧ decode cX5_init 75 = .ok (.aload_n 0, 1) := by decide +kernel
theorem dX5_init_50 : decode cX5_init 50 = .ok (.aload_n 0, 1) := zd02dec1_164.1
theorem dX5_init_51 : decode cX5_init 51 = .ok (.getfield 10, 3) := zd02dec1_164.2.1
theorem dX5_init_54 : decode cX5_init 54 = .ok (.invokespecial 27, 3) := zd02dec1_164.2.2.1
theorem dX5_init_57 : decode cX5_init 57 = .ok (.putfield 32, 3) := zd02dec1_164.2.2.2.1
theorem dX5_init_60 : decode cX5_init 60 = .ok (.aload_n 0, 1) := zd02dec1_164.2.2.2.2.1
theorem dX5_init_61 : decode cX5_init 61 = .ok (.new 25, 3) := zd02dec1_164.2.2.2.2.2.1
theorem dX5_init_64 : decode cX5_init 64 = .ok (.dup, 1) := zd02dec1_164.2.2.2.2.2.2.1
theorem dX5_init_65 : decode cX5_init 65 = .ok (.aload_n 0, 1) := zd02dec1_164.2.2.2.2.2.2.2.1
theorem dX5_init_66 : decode cX5_init 66 = .ok (.getfield 10, 3) := zd02dec1_164.2.2.2.2.2.2.2.2.1
theorem dX5_init_69 : decode cX5_init 69 = .ok (.invokespecial 27, 3) := zd02dec1_164.2.2.2.2.2.2.2.2.2.1
theorem dX5_init_72 : decode cX5_init 72 = .ok (.putfield 35, 3) := zd02dec1_164.2.2.2.2.2.2.2.2.2.2.1
theorem dX5_init_75 : decode cX5_init 75 = .ok (.aload_n 0, 1) := zd02dec1_164.2.2.2.2.2.2.2.2.2.2.2
theorem zd02dec1_165 : decode cX5_init 76 = .ok (.new 38, 3) ∧ decode cX5_init 79 = .ok (.dup, 1) ∧ decode cX5_init 80 = .ok (.invokespecial 40, 3) ∧ decode cX5_init 83 = .ok (.putfield 41, 3) ∧ decode cX5_init 86 = .ok (.aload_n 0, 1) ∧ decode cX5_init 87 = .ok (.new 45, 3) ∧ decode cX5_init 90 = .ok (.dup, 1) ∧ decode cX5_init 91 = .ok (.invokespecial 47, 3) ∧ decode cX5_init 94 = .ok (.putfield 48, 3) ∧ decode cX5_init 97 = .ok (.iconst 0, 1) ∧ decode cX5_init 98 = .ok (.istore_n 1, 1) ∧ decode cX5_init 99 = .ok (.iload_n 1, 1) := by decide +kernel
theorem dX5_init_76 : decode cX5_init 76 = .ok (.new 38, 3) := zd02dec1_165.1
theorem dX5_init_79 : decode cX5_init 79 = .ok (.dup, 1) := zd02dec1_165.2.1
theorem dX5_init_80 : decode cX5_init 80 = .ok (.invokespecial 40, 3) := zd02dec1_165.2.2.1
theorem dX5_init_83 : decode cX5_init 83 = .ok (.putfield 41, 3) := zd02dec1_165.2.2.2.1
theorem dX5_init_86 : decode cX5_init 86 = .ok (.aload_n 0, 1) := zd02dec1_165.2.2.2.2.1
theorem dX5_init_87 : decode cX5_init 87 = .ok (.new 45, 3) := zd02dec1_165.2.2.2.2.2.1
theorem dX5_init_90 : decode cX5_init 90 = .ok (.dup, 1) := zd02dec1_165.2.2.2.2.2.2.1
theorem dX5_init_91 : decode cX5_init 91 = .ok (.invokespecial 47, 3) := zd02dec1_165.2.2.2.2.2.2.2.1
theorem dX5_init_94 : decode cX5_init 94 = .ok (.putfield 48, 3) := zd02dec1_165.2.2.2.2.2.2.2.2.1
theorem dX5_init_97 : decode cX5_init 97 = .ok (.iconst 0, 1) := zd02dec1_165.2.2.2.2.2.2.2.2.2.1
theorem dX5_init_98 : decode cX5_init 98 = .ok (.istore_n 1, 1) := zd02dec1_165.2.2.2.2.2.2.2.2.2.2.1
theorem dX5_init_99 : decode cX5_init 99 = .ok (.iload_n 1, 1) := zd02dec1_165.2.2.2.2.2.2.2.2.2.2.2
theorem zd02dec1_166 : decode cX5_init 100 = .ok (.ldc 52, 2) ∧ decode cX5_init 102 = .ok (.invokevirtual 54, 3) ∧ decode cX5_init 105 = .ok (.if_icmp .ge 22, 3) ∧ decode cX5_init 108 = .ok (.aload_n 0, 1) ∧ decode cX5_init 109 = .ok (.getfield 21, 3) ∧ decode cX5_init 112 = .ok (.ldc 52, 2) ∧ decode cX5_init 114 = .ok (.iload_n 1, 1) ∧ decode cX5_init 115 = .ok (.invokevirtual 60, 3) ∧ decode cX5_init 118 = .ok (.invokevirtual 64, 3) ∧ decode cX5_init 121 = .ok (.iinc 1 1, 3) ∧ decode cX5_init 124 = .ok (.goto (-25), 3) ∧ decode cX5_init 127 = .ok (.aload_n 0, 1) := by decide +kernel
theorem dX5_init_100 : decode cX5_init 100 = .ok (.ldc 52, 2) := zd02dec1_166.1
theorem dX5_init_102 : decode cX5_init 102 = .ok (.invokevirtual 54, 3) := zd02dec1_166.2.1
theorem dX5_init_105 : decode cX5_init 105 = .ok (.if_icmp .ge 22, 3) := zd02dec1_166.2.2.1
theorem dX5_init_108 : decode cX5_init 108 = .ok (.aload_n 0, 1) := zd02dec1_166.2.2.2.1
theorem dX5_init_109 : decode cX5_init 109 = .ok (.getfield 21, 3) := zd02dec1_166.2.2.2.2.1
theorem dX5_init_112 : decode cX5_init 112 = .ok (.ldc 52, 2) := zd02dec1_166.2.2.2.2.2.1
theorem dX5_init_114 : decode cX5_init 114 = .ok (.iload_n 1, 1) := zd02dec1_166.2.2.2.2.2.2.1
theorem dX5_init_115 : decode cX5_init 115 = .ok (.invokevirtual 60, 3) := zd02dec1_166.2.2.2.2.2.2.2.1
theorem dX5_init_118 : decode cX5_init 118 = .ok (.invokevirtual 64, 3) := zd02dec1_166.2.2.2.2.2.2.2.2.1
theorem dX5_init_121 : decode cX5_init 121 = .ok (.iinc 1 1, 3) := zd02dec1_166.2.2.2.2.2.2.2.2.2.1
theorem dX5_init_124 : decode cX5_init 124 = .ok (.goto (-25), 3) := zd02dec1_166.2.2.2.2.2.2.2.2.2.2.1
theorem dX5_init_127 : decode cX5_init 127 = .ok (.aload_n 0, 1) := zd02dec1_166.2.2.2.2.2.2.2.2.2.2.2
theorem zd02dec1_167 : decode cX5_init 128 = .ok (.getfield 21, 3) ∧ decode cX5_init 131 = .ok (.invokevirtual 68, 3) ∧ decode cX5_init 134 = .ok (.pop, 1) ∧ decode cX5_init 135 = .ok (.return_, 1) := by decide +kernel
theorem dX5_init_128 : decode cX5_init 128 = .ok (.getfield 21, 3) := zd02dec1_167.1
theorem dX5_init_131 : decode cX5_init 131 = .ok (.invokevirtual 68, 3) := zd02dec1_167.2.1
theorem dX5_init_134 : decode cX5_init 134 = .ok (.pop, 1) := zd02dec1_167.2.2.1
theorem dX5_init_135 : decode cX5_init 135 = .ok (.return_, 1) := zd02dec1_167.2.2.2
theorem zd02dec1_168 : decode cX5_count 0 = .ok (.iload_n 1, 1) ∧ decode cX5_count 1 = .ok (.tableswitch 75 0 4 #[35, 43, 51, 59, 67], 35) ∧ decode cX5_count 36 = .ok (.aload_n 0, 1) ∧ decode cX5_count 37 = .ok (.getfield 28, 3) ∧ decode cX5_count 40 = .ok (.getfield 71, 3) ∧ decode cX5_count 43 = .ok (.ireturn, 1) ∧ decode cX5_count 44 = .ok (.aload_n 0, 1) ∧ decode cX5_count 45 = .ok (.getfield 28, 3) ∧ decode cX5_count 48 = .ok (.getfield 75, 3) ∧ decode cX5_count 51 = .ok (.ireturn, 1) ∧ decode cX5_count 52 = .ok (.aload_n 0, 1) ∧ decode cX5_count 53 = .ok (.getfield 10, 3) := by decide +kernel
theorem dX5_count_0 : decode cX5_count 0 = .ok (.iload_n 1, 1) := zd02dec1_168.1
theorem dX5_count_1 : decode cX5_count 1 = .ok (.tableswitch 75 0 4 #[35, 43, 51, 59, 67], 35) := zd02dec1_168.2.1
theorem dX5_count_36 : decode cX5_count 36 = .ok (.aload_n 0, 1) := zd02dec1_168.2.2.1
theorem dX5_count_37 : decode cX5_count 37 = .ok (.getfield 28, 3) := zd02dec1_168.2.2.2.1
theorem dX5_count_40 : decode cX5_count 40 = .ok (.getfield 71, 3) := zd02dec1_168.2.2.2.2.1
theorem dX5_count_43 : decode cX5_count 43 = .ok (.ireturn, 1) := zd02dec1_168.2.2.2.2.2.1
theorem dX5_count_44 : decode cX5_count 44 = .ok (.aload_n 0, 1) := zd02dec1_168.2.2.2.2.2.2.1
theorem dX5_count_45 : decode cX5_count 45 = .ok (.getfield 28, 3) := zd02dec1_168.2.2.2.2.2.2.2.1
theorem dX5_count_48 : decode cX5_count 48 = .ok (.getfield 75, 3) := zd02dec1_168.2.2.2.2.2.2.2.2.1
theorem dX5_count_51 : decode cX5_count 51 = .ok (.ireturn, 1) := zd02dec1_168.2.2.2.2.2.2.2.2.2.1
theorem dX5_count_52 : decode cX5_count 52 = .ok (.aload_n 0, 1) := zd02dec1_168.2.2.2.2.2.2.2.2.2.2.1
theorem dX5_count_53 : decode cX5_count 53 = .ok (.getfield 10, 3) := zd02dec1_168.2.2.2.2.2.2.2.2.2.2.2
theorem zd02dec1_169 : decode cX5_count 56 = .ok (.getfield 78, 3) ∧ decode cX5_count 59 = .ok (.ireturn, 1) ∧ decode cX5_count 60 = .ok (.aload_n 0, 1) ∧ decode cX5_count 61 = .ok (.getfield 28, 3) ∧ decode cX5_count 64 = .ok (.getfield 81, 3) ∧ decode cX5_count 67 = .ok (.ireturn, 1) ∧ decode cX5_count 68 = .ok (.aload_n 0, 1) ∧ decode cX5_count 69 = .ok (.getfield 21, 3) ∧ decode cX5_count 72 = .ok (.getfield 84, 3) ∧ decode cX5_count 75 = .ok (.ireturn, 1) ∧ decode cX5_count 76 = .ok (.bipush (-2), 2) ∧ decode cX5_count 78 = .ok (.ireturn, 1) := by decide +kernel
theorem dX5_count_56 : decode cX5_count 56 = .ok (.getfield 78, 3) := zd02dec1_169.1
theorem dX5_count_59 : decode cX5_count 59 = .ok (.ireturn, 1) := zd02dec1_169.2.1
theorem dX5_count_60 : decode cX5_count 60 = .ok (.aload_n 0, 1) := zd02dec1_169.2.2.1
theorem dX5_count_61 : decode cX5_count 61 = .ok (.getfield 28, 3) := zd02dec1_169.2.2.2.1
theorem dX5_count_64 : decode cX5_count 64 = .ok (.getfield 81, 3) := zd02dec1_169.2.2.2.2.1
theorem dX5_count_67 : decode cX5_count 67 = .ok (.ireturn, 1) := zd02dec1_169.2.2.2.2.2.1
theorem dX5_count_68 : decode cX5_count 68 = .ok (.aload_n 0, 1) := zd02dec1_169.2.2.2.2.2.2.1
theorem dX5_count_69 : decode cX5_count 69 = .ok (.getfield 21, 3) := zd02dec1_169.2.2.2.2.2.2.2.1
theorem dX5_count_72 : decode cX5_count 72 = .ok (.getfield 84, 3) := zd02dec1_169.2.2.2.2.2.2.2.2.1
theorem dX5_count_75 : decode cX5_count 75 = .ok (.ireturn, 1) := zd02dec1_169.2.2.2.2.2.2.2.2.2.1
theorem dX5_count_76 : decode cX5_count 76 = .ok (.bipush (-2), 2) := zd02dec1_169.2.2.2.2.2.2.2.2.2.2.1
theorem dX5_count_78 : decode cX5_count 78 = .ok (.ireturn, 1) := zd02dec1_169.2.2.2.2.2.2.2.2.2.2.2
theorem zd02dec1_170 : decode cX5_judge 0 = .ok (.iload_n 1, 1) ∧ decode cX5_judge 1 = .ok (.bipush 20, 2) ∧ decode cX5_judge 3 = .ok (.invokestatic 86, 3) ∧ decode cX5_judge 6 = .ok (.ifCond .ne 6, 3) ∧ decode cX5_judge 9 = .ok (.bipush (-2), 2) ∧ decode cX5_judge 11 = .ok (.ireturn, 1) ∧ decode cX5_judge 12 = .ok (.aload_n 0, 1) ∧ decode cX5_judge 13 = .ok (.getfield 28, 3) ∧ decode cX5_judge 16 = .ok (.iload_n 1, 1) ∧ decode cX5_judge 17 = .ok (.invokevirtual 90, 3) ∧ decode cX5_judge 20 = .ok (.ireturn, 1) := by decide +kernel
theorem dX5_judge_0 : decode cX5_judge 0 = .ok (.iload_n 1, 1) := zd02dec1_170.1
theorem dX5_judge_1 : decode cX5_judge 1 = .ok (.bipush 20, 2) := zd02dec1_170.2.1
theorem dX5_judge_3 : decode cX5_judge 3 = .ok (.invokestatic 86, 3) := zd02dec1_170.2.2.1
theorem dX5_judge_6 : decode cX5_judge 6 = .ok (.ifCond .ne 6, 3) := zd02dec1_170.2.2.2.1
theorem dX5_judge_9 : decode cX5_judge 9 = .ok (.bipush (-2), 2) := zd02dec1_170.2.2.2.2.1
theorem dX5_judge_11 : decode cX5_judge 11 = .ok (.ireturn, 1) := zd02dec1_170.2.2.2.2.2.1
theorem dX5_judge_12 : decode cX5_judge 12 = .ok (.aload_n 0, 1) := zd02dec1_170.2.2.2.2.2.2.1
theorem dX5_judge_13 : decode cX5_judge 13 = .ok (.getfield 28, 3) := zd02dec1_170.2.2.2.2.2.2.2.1
theorem dX5_judge_16 : decode cX5_judge 16 = .ok (.iload_n 1, 1) := zd02dec1_170.2.2.2.2.2.2.2.2.1
theorem dX5_judge_17 : decode cX5_judge 17 = .ok (.invokevirtual 90, 3) := zd02dec1_170.2.2.2.2.2.2.2.2.2.1
theorem dX5_judge_20 : decode cX5_judge 20 = .ok (.ireturn, 1) := zd02dec1_170.2.2.2.2.2.2.2.2.2.2
theorem zd02dec1_171 : decode cX5_shoe 0 = .ok (.aload_n 0, 1) ∧ decode cX5_shoe 1 = .ok (.getfield 28, 3) ∧ decode cX5_shoe 4 = .ok (.iload_n 1, 1) ∧ decode cX5_shoe 5 = .ok (.invokevirtual 94, 3) ∧ decode cX5_shoe 8 = .ok (.ifCond .ne 6, 3) ∧ decode cX5_shoe 11 = .ok (.bipush (-5), 2) ∧ decode cX5_shoe 13 = .ok (.ireturn, 1) ∧ decode cX5_shoe 14 = .ok (.iload_n 2, 1) ∧ decode cX5_shoe 15 = .ok (.iconst 1, 1) ∧ decode cX5_shoe 16 = .ok (.invokestatic 86, 3) ∧ decode cX5_shoe 19 = .ok (.ifCond .eq 22, 3) ∧ decode cX5_shoe 22 = .ok (.iload_n 3, 1) := by decide +kernel
theorem dX5_shoe_0 : decode cX5_shoe 0 = .ok (.aload_n 0, 1) := zd02dec1_171.1
theorem dX5_shoe_1 : decode cX5_shoe 1 = .ok (.getfield 28, 3) := zd02dec1_171.2.1
theorem dX5_shoe_4 : decode cX5_shoe 4 = .ok (.iload_n 1, 1) := zd02dec1_171.2.2.1
theorem dX5_shoe_5 : decode cX5_shoe 5 = .ok (.invokevirtual 94, 3) := zd02dec1_171.2.2.2.1
theorem dX5_shoe_8 : decode cX5_shoe 8 = .ok (.ifCond .ne 6, 3) := zd02dec1_171.2.2.2.2.1
theorem dX5_shoe_11 : decode cX5_shoe 11 = .ok (.bipush (-5), 2) := zd02dec1_171.2.2.2.2.2.1
theorem dX5_shoe_13 : decode cX5_shoe 13 = .ok (.ireturn, 1) := zd02dec1_171.2.2.2.2.2.2.1
theorem dX5_shoe_14 : decode cX5_shoe 14 = .ok (.iload_n 2, 1) := zd02dec1_171.2.2.2.2.2.2.2.1
theorem dX5_shoe_15 : decode cX5_shoe 15 = .ok (.iconst 1, 1) := zd02dec1_171.2.2.2.2.2.2.2.2.1
theorem dX5_shoe_16 : decode cX5_shoe 16 = .ok (.invokestatic 86, 3) := zd02dec1_171.2.2.2.2.2.2.2.2.2.1
theorem dX5_shoe_19 : decode cX5_shoe 19 = .ok (.ifCond .eq 22, 3) := zd02dec1_171.2.2.2.2.2.2.2.2.2.2.1
theorem dX5_shoe_22 : decode cX5_shoe 22 = .ok (.iload_n 3, 1) := zd02dec1_171.2.2.2.2.2.2.2.2.2.2.2
theorem zd02dec1_172 : decode cX5_shoe 23 = .ok (.iload_n 2, 1) ∧ decode cX5_shoe 24 = .ok (.ifCond .ne 8, 3) ∧ decode cX5_shoe 27 = .ok (.bipush 20, 2) ∧ decode cX5_shoe 29 = .ok (.goto 6, 3) ∧ decode cX5_shoe 32 = .ok (.sipush 999, 3) ∧ decode cX5_shoe 35 = .ok (.invokestatic 86, 3) ∧ decode cX5_shoe 38 = .ok (.ifCond .ne 6, 3) ∧ decode cX5_shoe 41 = .ok (.bipush (-7), 2) ∧ decode cX5_shoe 43 = .ok (.ireturn, 1) ∧ decode cX5_shoe 44 = .ok (.iload_n 2, 1) ∧ decode cX5_shoe 45 = .ok (.ifCond .ne 13, 3) ∧ decode cX5_shoe 48 = .ok (.aload_n 0, 1) := by decide +kernel
theorem dX5_shoe_23 : decode cX5_shoe 23 = .ok (.iload_n 2, 1) := zd02dec1_172.1
theorem dX5_shoe_24 : decode cX5_shoe 24 = .ok (.ifCond .ne 8, 3) := zd02dec1_172.2.1
theorem dX5_shoe_27 : decode cX5_shoe 27 = .ok (.bipush 20, 2) := zd02dec1_172.2.2.1
theorem dX5_shoe_29 : decode cX5_shoe 29 = .ok (.goto 6, 3) := zd02dec1_172.2.2.2.1
theorem dX5_shoe_32 : decode cX5_shoe 32 = .ok (.sipush 999, 3) := zd02dec1_172.2.2.2.2.1
theorem dX5_shoe_35 : decode cX5_shoe 35 = .ok (.invokestatic 86, 3) := zd02dec1_172.2.2.2.2.2.1
theorem dX5_shoe_38 : decode cX5_shoe 38 = .ok (.ifCond .ne 6, 3) := zd02dec1_172.2.2.2.2.2.2.1
theorem dX5_shoe_41 : decode cX5_shoe 41 = .ok (.bipush (-7), 2) := zd02dec1_172.2.2.2.2.2.2.2.1
theorem dX5_shoe_43 : decode cX5_shoe 43 = .ok (.ireturn, 1) := zd02dec1_172.2.2.2.2.2.2.2.2.1
theorem dX5_shoe_44 : decode cX5_shoe 44 = .ok (.iload_n 2, 1) := zd02dec1_172.2.2.2.2.2.2.2.2.2.1
theorem dX5_shoe_45 : decode cX5_shoe 45 = .ok (.ifCond .ne 13, 3) := zd02dec1_172.2.2.2.2.2.2.2.2.2.2.1
theorem dX5_shoe_48 : decode cX5_shoe 48 = .ok (.aload_n 0, 1) := zd02dec1_172.2.2.2.2.2.2.2.2.2.2.2
theorem zd02dec1_173 : decode cX5_shoe 49 = .ok (.getfield 28, 3) ∧ decode cX5_shoe 52 = .ok (.getfield 98, 3) ∧ decode cX5_shoe 55 = .ok (.goto 10, 3) ∧ decode cX5_shoe 58 = .ok (.aload_n 0, 1) ∧ decode cX5_shoe 59 = .ok (.getfield 28, 3) ∧ decode cX5_shoe 62 = .ok (.getfield 102, 3) ∧ decode cX5_shoe 65 = .ok (.astore 4, 2) ∧ decode cX5_shoe 67 = .ok (.aload 4, 2) ∧ decode cX5_shoe 69 = .ok (.iload_n 1, 1) ∧ decode cX5_shoe 70 = .ok (.iaload, 1) ∧ decode cX5_shoe 71 = .ok (.istore 5, 2) ∧ decode cX5_shoe 73 = .ok (.aload 4, 2) := by decide +kernel
theorem dX5_shoe_49 : decode cX5_shoe 49 = .ok (.getfield 28, 3) := zd02dec1_173.1
theorem dX5_shoe_52 : decode cX5_shoe 52 = .ok (.getfield 98, 3) := zd02dec1_173.2.1
theorem dX5_shoe_55 : decode cX5_shoe 55 = .ok (.goto 10, 3) := zd02dec1_173.2.2.1
theorem dX5_shoe_58 : decode cX5_shoe 58 = .ok (.aload_n 0, 1) := zd02dec1_173.2.2.2.1
theorem dX5_shoe_59 : decode cX5_shoe 59 = .ok (.getfield 28, 3) := zd02dec1_173.2.2.2.2.1
theorem dX5_shoe_62 : decode cX5_shoe 62 = .ok (.getfield 102, 3) := zd02dec1_173.2.2.2.2.2.1
theorem dX5_shoe_65 : decode cX5_shoe 65 = .ok (.astore 4, 2) := zd02dec1_173.2.2.2.2.2.2.1
theorem dX5_shoe_67 : decode cX5_shoe 67 = .ok (.aload 4, 2) := zd02dec1_173.2.2.2.2.2.2.2.1
theorem dX5_shoe_69 : decode cX5_shoe 69 = .ok (.iload_n 1, 1) := zd02dec1_173.2.2.2.2.2.2.2.2.1
theorem dX5_shoe_70 : decode cX5_shoe 70 = .ok (.iaload, 1) := zd02dec1_173.2.2.2.2.2.2.2.2.2.1
theorem dX5_shoe_71 : decode cX5_shoe 71 = .ok (.istore 5, 2) := zd02dec1_173.2.2.2.2.2.2.2.2.2.2.1
theorem dX5_shoe_73 : decode cX5_shoe 73 = .ok (.aload 4, 2) := zd02dec1_173.2.2.2.2.2.2.2.2.2.2.2
theorem zd02dec1_174 : decode cX5_shoe 75 = .ok (.iload_n 1, 1) ∧ decode cX5_shoe 76 = .ok (.iload_n 3, 1) ∧ decode cX5_shoe 77 = .ok (.iastore, 1) ∧ decode cX5_shoe 78 = .ok (.iload 5, 2) ∧ decode cX5_shoe 80 = .ok (.ireturn, 1) := by decide +kernel
theorem dX5_shoe_75 : decode cX5_shoe 75 = .ok (.iload_n 1, 1) := zd02dec1_174.1
theorem dX5_shoe_76 : decode cX5_shoe 76 = .ok (.iload_n 3, 1) := zd02dec1_174.2.1
theorem dX5_shoe_77 : decode cX5_shoe 77 = .ok (.iastore, 1) := zd02dec1_174.2.2.1
theorem dX5_shoe_78 : decode cX5_shoe 78 = .ok (.iload 5, 2) := zd02dec1_174.2.2.2.1
theorem dX5_shoe_80 : decode cX5_shoe 80 = .ok (.ireturn, 1) := zd02dec1_174.2.2.2.2
theorem zd02dec1_175 : decode cX5_bench 0 = .ok (.aload_n 0, 1) ∧ decode cX5_bench 1 = .ok (.getfield 28, 3) ∧ decode cX5_bench 4 = .ok (.iload_n 1, 1) ∧ decode cX5_bench 5 = .ok (.invokevirtual 94, 3) ∧ decode cX5_bench 8 = .ok (.ifCond .ne 6, 3) ∧ decode cX5_bench 11 = .ok (.bipush (-5), 2) ∧ decode cX5_bench 13 = .ok (.ireturn, 1) ∧ decode cX5_bench 14 = .ok (.iload_n 2, 1) ∧ decode cX5_bench 15 = .ok (.tableswitch 55 0 2 #[25, 35, 45], 25) ∧ decode cX5_bench 40 = .ok (.aload_n 0, 1) ∧ decode cX5_bench 41 = .ok (.getfield 28, 3) ∧ decode cX5_bench 44 = .ok (.getfield 98, 3) := by decide +kernel
theorem dX5_bench_0 : decode cX5_bench 0 = .ok (.aload_n 0, 1) := zd02dec1_175.1
theorem dX5_bench_1 : decode cX5_bench 1 = .ok (.getfield 28, 3) := zd02dec1_175.2.1
theorem dX5_bench_4 : decode cX5_bench 4 = .ok (.iload_n 1, 1) := zd02dec1_175.2.2.1
theorem dX5_bench_5 : decode cX5_bench 5 = .ok (.invokevirtual 94, 3) := zd02dec1_175.2.2.2.1
theorem dX5_bench_8 : decode cX5_bench 8 = .ok (.ifCond .ne 6, 3) := zd02dec1_175.2.2.2.2.1
theorem dX5_bench_11 : decode cX5_bench 11 = .ok (.bipush (-5), 2) := zd02dec1_175.2.2.2.2.2.1
theorem dX5_bench_13 : decode cX5_bench 13 = .ok (.ireturn, 1) := zd02dec1_175.2.2.2.2.2.2.1
theorem dX5_bench_14 : decode cX5_bench 14 = .ok (.iload_n 2, 1) := zd02dec1_175.2.2.2.2.2.2.2.1
theorem dX5_bench_15 : decode cX5_bench 15 = .ok (.tableswitch 55 0 2 #[25, 35, 45], 25) := zd02dec1_175.2.2.2.2.2.2.2.2.1
theorem dX5_bench_40 : decode cX5_bench 40 = .ok (.aload_n 0, 1) := zd02dec1_175.2.2.2.2.2.2.2.2.2.1
theorem dX5_bench_41 : decode cX5_bench 41 = .ok (.getfield 28, 3) := zd02dec1_175.2.2.2.2.2.2.2.2.2.2.1
theorem dX5_bench_44 : decode cX5_bench 44 = .ok (.getfield 98, 3) := zd02dec1_175.2.2.2.2.2.2.2.2.2.2.2
theorem zd02dec1_176 : decode cX5_bench 47 = .ok (.iload_n 1, 1) ∧ decode cX5_bench 48 = .ok (.iaload, 1) ∧ decode cX5_bench 49 = .ok (.ireturn, 1) ∧ decode cX5_bench 50 = .ok (.aload_n 0, 1) ∧ decode cX5_bench 51 = .ok (.getfield 28, 3) ∧ decode cX5_bench 54 = .ok (.getfield 102, 3) ∧ decode cX5_bench 57 = .ok (.iload_n 1, 1) ∧ decode cX5_bench 58 = .ok (.iaload, 1) ∧ decode cX5_bench 59 = .ok (.ireturn, 1) ∧ decode cX5_bench 60 = .ok (.aload_n 0, 1) ∧ decode cX5_bench 61 = .ok (.getfield 28, 3) ∧ decode cX5_bench 64 = .ok (.getfield 105, 3) := by decide +kernel
theorem dX5_bench_47 : decode cX5_bench 47 = .ok (.iload_n 1, 1) := zd02dec1_176.1
theorem dX5_bench_48 : decode cX5_bench 48 = .ok (.iaload, 1) := zd02dec1_176.2.1
theorem dX5_bench_49 : decode cX5_bench 49 = .ok (.ireturn, 1) := zd02dec1_176.2.2.1
theorem dX5_bench_50 : decode cX5_bench 50 = .ok (.aload_n 0, 1) := zd02dec1_176.2.2.2.1
theorem dX5_bench_51 : decode cX5_bench 51 = .ok (.getfield 28, 3) := zd02dec1_176.2.2.2.2.1
theorem dX5_bench_54 : decode cX5_bench 54 = .ok (.getfield 102, 3) := zd02dec1_176.2.2.2.2.2.1
theorem dX5_bench_57 : decode cX5_bench 57 = .ok (.iload_n 1, 1) := zd02dec1_176.2.2.2.2.2.2.1
theorem dX5_bench_58 : decode cX5_bench 58 = .ok (.iaload, 1) := zd02dec1_176.2.2.2.2.2.2.2.1
theorem dX5_bench_59 : decode cX5_bench 59 = .ok (.ireturn, 1) := zd02dec1_176.2.2.2.2.2.2.2.2.1
theorem dX5_bench_60 : decode cX5_bench 60 = .ok (.aload_n 0, 1) := zd02dec1_176.2.2.2.2.2.2.2.2.2.1
theorem dX5_bench_61 : decode cX5_bench 61 = .ok (.getfield 28, 3) := zd02dec1_176.2.2.2.2.2.2.2.2.2.2.1
theorem dX5_bench_64 : decode cX5_bench 64 = .ok (.getfield 105, 3) := zd02dec1_176.2.2.2.2.2.2.2.2.2.2.2
theorem zd02dec1_177 : decode cX5_bench 67 = .ok (.iload_n 1, 1) ∧ decode cX5_bench 68 = .ok (.iaload, 1) ∧ decode cX5_bench 69 = .ok (.ireturn, 1) ∧ decode cX5_bench 70 = .ok (.bipush (-7), 2) ∧ decode cX5_bench 72 = .ok (.ireturn, 1) := by decide +kernel
theorem dX5_bench_67 : decode cX5_bench 67 = .ok (.iload_n 1, 1) := zd02dec1_177.1
theorem dX5_bench_68 : decode cX5_bench 68 = .ok (.iaload, 1) := zd02dec1_177.2.1
theorem dX5_bench_69 : decode cX5_bench 69 = .ok (.ireturn, 1) := zd02dec1_177.2.2.1
theorem dX5_bench_70 : decode cX5_bench 70 = .ok (.bipush (-7), 2) := zd02dec1_177.2.2.2.1
theorem dX5_bench_72 : decode cX5_bench 72 = .ok (.ireturn, 1) := zd02dec1_177.2.2.2.2
theorem zd02dec1_178 : decode cX5_feed 0 = .ok (.iload_n 1, 1) ∧ decode cX5_feed 1 = .ok (.iconst 1, 1) ∧ decode cX5_feed 2 = .ok (.if_icmp .lt 46, 3) ∧ decode cX5_feed 5 = .ok (.iload_n 1, 1) ∧ decode cX5_feed 6 = .ok (.iconst 5, 1) ∧ decode cX5_feed 7 = .ok (.if_icmp .gt 41, 3) ∧ decode cX5_feed 10 = .ok (.iload_n 2, 1) ∧ decode cX5_feed 11 = .ok (.invokestatic 108, 3) ∧ decode cX5_feed 14 = .ok (.ifCond .eq 34, 3) ∧ decode cX5_feed 17 = .ok (.iload_n 3, 1) ∧ decode cX5_feed 18 = .ok (.invokestatic 108, 3) ∧ decode cX5_feed 21 = .ok (.ifCond .eq 27, 3) := by decide +kernel
theorem dX5_feed_0 : decode cX5_feed 0 = .ok (.iload_n 1, 1) := zd02dec1_178.1
theorem dX5_feed_1 : decode cX5_feed 1 = .ok (.iconst 1, 1) := zd02dec1_178.2.1
theorem dX5_feed_2 : decode cX5_feed 2 = .ok (.if_icmp .lt 46, 3) := zd02dec1_178.2.2.1
theorem dX5_feed_5 : decode cX5_feed 5 = .ok (.iload_n 1, 1) := zd02dec1_178.2.2.2.1
theorem dX5_feed_6 : decode cX5_feed 6 = .ok (.iconst 5, 1) := zd02dec1_178.2.2.2.2.1
theorem dX5_feed_7 : decode cX5_feed 7 = .ok (.if_icmp .gt 41, 3) := zd02dec1_178.2.2.2.2.2.1
theorem dX5_feed_10 : decode cX5_feed 10 = .ok (.iload_n 2, 1) := zd02dec1_178.2.2.2.2.2.2.1
theorem dX5_feed_11 : decode cX5_feed 11 = .ok (.invokestatic 108, 3) := zd02dec1_178.2.2.2.2.2.2.2.1
theorem dX5_feed_14 : decode cX5_feed 14 = .ok (.ifCond .eq 34, 3) := zd02dec1_178.2.2.2.2.2.2.2.2.1
theorem dX5_feed_17 : decode cX5_feed 17 = .ok (.iload_n 3, 1) := zd02dec1_178.2.2.2.2.2.2.2.2.2.1
theorem dX5_feed_18 : decode cX5_feed 18 = .ok (.invokestatic 108, 3) := zd02dec1_178.2.2.2.2.2.2.2.2.2.2.1
theorem dX5_feed_21 : decode cX5_feed 21 = .ok (.ifCond .eq 27, 3) := zd02dec1_178.2.2.2.2.2.2.2.2.2.2.2
theorem zd02dec1_179 : decode cX5_feed 24 = .ok (.iload 4, 2) ∧ decode cX5_feed 26 = .ok (.invokestatic 108, 3) ∧ decode cX5_feed 29 = .ok (.ifCond .eq 19, 3) ∧ decode cX5_feed 32 = .ok (.iload 5, 2) ∧ decode cX5_feed 34 = .ok (.invokestatic 108, 3) ∧ decode cX5_feed 37 = .ok (.ifCond .eq 11, 3) ∧ decode cX5_feed 40 = .ok (.iload 6, 2) ∧ decode cX5_feed 42 = .ok (.invokestatic 108, 3) ∧ decode cX5_feed 45 = .ok (.ifCond .ne 6, 3) ∧ decode cX5_feed 48 = .ok (.bipush (-2), 2) ∧ decode cX5_feed 50 = .ok (.ireturn, 1) ∧ decode cX5_feed 51 = .ok (.aload_n 0, 1) := by decide +kernel
theorem dX5_feed_24 : decode cX5_feed 24 = .ok (.iload 4, 2) := zd02dec1_179.1
theorem dX5_feed_26 : decode cX5_feed 26 = .ok (.invokestatic 108, 3) := zd02dec1_179.2.1
theorem dX5_feed_29 : decode cX5_feed 29 = .ok (.ifCond .eq 19, 3) := zd02dec1_179.2.2.1
theorem dX5_feed_32 : decode cX5_feed 32 = .ok (.iload 5, 2) := zd02dec1_179.2.2.2.1
theorem dX5_feed_34 : decode cX5_feed 34 = .ok (.invokestatic 108, 3) := zd02dec1_179.2.2.2.2.1
theorem dX5_feed_37 : decode cX5_feed 37 = .ok (.ifCond .eq 11, 3) := zd02dec1_179.2.2.2.2.2.1
theorem dX5_feed_40 : decode cX5_feed 40 = .ok (.iload 6, 2) := zd02dec1_179.2.2.2.2.2.2.1
theorem dX5_feed_42 : decode cX5_feed 42 = .ok (.invokestatic 108, 3) := zd02dec1_179.2.2.2.2.2.2.2.1
theorem dX5_feed_45 : decode cX5_feed 45 = .ok (.ifCond .ne 6, 3) := zd02dec1_179.2.2.2.2.2.2.2.2.1
theorem dX5_feed_48 : decode cX5_feed 48 = .ok (.bipush (-2), 2) := zd02dec1_179.2.2.2.2.2.2.2.2.2.1
theorem dX5_feed_50 : decode cX5_feed 50 = .ok (.ireturn, 1) := zd02dec1_179.2.2.2.2.2.2.2.2.2.2.1
theorem dX5_feed_51 : decode cX5_feed 51 = .ok (.aload_n 0, 1) := zd02dec1_179.2.2.2.2.2.2.2.2.2.2.2
theorem zd02dec1_180 : decode cX5_feed 52 = .ok (.getfield 21, 3) ∧ decode cX5_feed 55 = .ok (.getfield 84, 3) ∧ decode cX5_feed 58 = .ok (.iload_n 1, 1) ∧ decode cX5_feed 59 = .ok (.iadd, 1) ∧ decode cX5_feed 60 = .ok (.sipush 160, 3) ∧ decode cX5_feed 63 = .ok (.if_icmp .le 6, 3) ∧ decode cX5_feed 66 = .ok (.bipush (-4), 2) ∧ decode cX5_feed 68 = .ok (.ireturn, 1) ∧ decode cX5_feed 69 = .ok (.iconst 0, 1) ∧ decode cX5_feed 70 = .ok (.istore 7, 2) ∧ decode cX5_feed 72 = .ok (.iload 7, 2) ∧ decode cX5_feed 74 = .ok (.iload_n 1, 1) := by decide +kernel
theorem dX5_feed_52 : decode cX5_feed 52 = .ok (.getfield 21, 3) := zd02dec1_180.1
theorem dX5_feed_55 : decode cX5_feed 55 = .ok (.getfield 84, 3) := zd02dec1_180.2.1
theorem dX5_feed_58 : decode cX5_feed 58 = .ok (.iload_n 1, 1) := zd02dec1_180.2.2.1
theorem dX5_feed_59 : decode cX5_feed 59 = .ok (.iadd, 1) := zd02dec1_180.2.2.2.1
theorem dX5_feed_60 : decode cX5_feed 60 = .ok (.sipush 160, 3) := zd02dec1_180.2.2.2.2.1
theorem dX5_feed_63 : decode cX5_feed 63 = .ok (.if_icmp .le 6, 3) := zd02dec1_180.2.2.2.2.2.1
theorem dX5_feed_66 : decode cX5_feed 66 = .ok (.bipush (-4), 2) := zd02dec1_180.2.2.2.2.2.2.1
theorem dX5_feed_68 : decode cX5_feed 68 = .ok (.ireturn, 1) := zd02dec1_180.2.2.2.2.2.2.2.1
theorem dX5_feed_69 : decode cX5_feed 69 = .ok (.iconst 0, 1) := zd02dec1_180.2.2.2.2.2.2.2.2.1
theorem dX5_feed_70 : decode cX5_feed 70 = .ok (.istore 7, 2) := zd02dec1_180.2.2.2.2.2.2.2.2.2.1
theorem dX5_feed_72 : decode cX5_feed 72 = .ok (.iload 7, 2) := zd02dec1_180.2.2.2.2.2.2.2.2.2.2.1
theorem dX5_feed_74 : decode cX5_feed 74 = .ok (.iload_n 1, 1) := zd02dec1_180.2.2.2.2.2.2.2.2.2.2.2
theorem zd02dec1_181 : decode cX5_feed 75 = .ok (.if_icmp .ge 59, 3) ∧ decode cX5_feed 78 = .ok (.aload_n 0, 1) ∧ decode cX5_feed 79 = .ok (.getfield 21, 3) ∧ decode cX5_feed 82 = .ok (.iload 7, 2) ∧ decode cX5_feed 84 = .ok (.ifCond .ne 7, 3) ∧ decode cX5_feed 87 = .ok (.iload_n 2, 1) ∧ decode cX5_feed 88 = .ok (.goto 37, 3) ∧ decode cX5_feed 91 = .ok (.iload 7, 2) ∧ decode cX5_feed 93 = .ok (.iconst 1, 1) ∧ decode cX5_feed 94 = .ok (.if_icmp .ne 7, 3) ∧ decode cX5_feed 97 = .ok (.iload_n 3, 1) ∧ decode cX5_feed 98 = .ok (.goto 27, 3) := by decide +kernel
theorem dX5_feed_75 : decode cX5_feed 75 = .ok (.if_icmp .ge 59, 3) := zd02dec1_181.1
theorem dX5_feed_78 : decode cX5_feed 78 = .ok (.aload_n 0, 1) := zd02dec1_181.2.1
theorem dX5_feed_79 : decode cX5_feed 79 = .ok (.getfield 21, 3) := zd02dec1_181.2.2.1
theorem dX5_feed_82 : decode cX5_feed 82 = .ok (.iload 7, 2) := zd02dec1_181.2.2.2.1
theorem dX5_feed_84 : decode cX5_feed 84 = .ok (.ifCond .ne 7, 3) := zd02dec1_181.2.2.2.2.1
theorem dX5_feed_87 : decode cX5_feed 87 = .ok (.iload_n 2, 1) := zd02dec1_181.2.2.2.2.2.1
theorem dX5_feed_88 : decode cX5_feed 88 = .ok (.goto 37, 3) := zd02dec1_181.2.2.2.2.2.2.1
theorem dX5_feed_91 : decode cX5_feed 91 = .ok (.iload 7, 2) := zd02dec1_181.2.2.2.2.2.2.2.1
theorem dX5_feed_93 : decode cX5_feed 93 = .ok (.iconst 1, 1) := zd02dec1_181.2.2.2.2.2.2.2.2.1
theorem dX5_feed_94 : decode cX5_feed 94 = .ok (.if_icmp .ne 7, 3) := zd02dec1_181.2.2.2.2.2.2.2.2.2.1
theorem dX5_feed_97 : decode cX5_feed 97 = .ok (.iload_n 3, 1) := zd02dec1_181.2.2.2.2.2.2.2.2.2.2.1
theorem dX5_feed_98 : decode cX5_feed 98 = .ok (.goto 27, 3) := zd02dec1_181.2.2.2.2.2.2.2.2.2.2.2
theorem zd02dec1_182 : decode cX5_feed 101 = .ok (.iload 7, 2) ∧ decode cX5_feed 103 = .ok (.iconst 2, 1) ∧ decode cX5_feed 104 = .ok (.if_icmp .ne 8, 3) ∧ decode cX5_feed 107 = .ok (.iload 4, 2) ∧ decode cX5_feed 109 = .ok (.goto 16, 3) ∧ decode cX5_feed 112 = .ok (.iload 7, 2) ∧ decode cX5_feed 114 = .ok (.iconst 3, 1) ∧ decode cX5_feed 115 = .ok (.if_icmp .ne 8, 3) ∧ decode cX5_feed 118 = .ok (.iload 5, 2) ∧ decode cX5_feed 120 = .ok (.goto 5, 3) ∧ decode cX5_feed 123 = .ok (.iload 6, 2) ∧ decode cX5_feed 125 = .ok (.invokevirtual 64, 3) := by decide +kernel
theorem dX5_feed_101 : decode cX5_feed 101 = .ok (.iload 7, 2) := zd02dec1_182.1
theorem dX5_feed_103 : decode cX5_feed 103 = .ok (.iconst 2, 1) := zd02dec1_182.2.1
theorem dX5_feed_104 : decode cX5_feed 104 = .ok (.if_icmp .ne 8, 3) := zd02dec1_182.2.2.1
theorem dX5_feed_107 : decode cX5_feed 107 = .ok (.iload 4, 2) := zd02dec1_182.2.2.2.1
theorem dX5_feed_109 : decode cX5_feed 109 = .ok (.goto 16, 3) := zd02dec1_182.2.2.2.2.1
theorem dX5_feed_112 : decode cX5_feed 112 = .ok (.iload 7, 2) := zd02dec1_182.2.2.2.2.2.1
theorem dX5_feed_114 : decode cX5_feed 114 = .ok (.iconst 3, 1) := zd02dec1_182.2.2.2.2.2.2.1
theorem dX5_feed_115 : decode cX5_feed 115 = .ok (.if_icmp .ne 8, 3) := zd02dec1_182.2.2.2.2.2.2.2.1
theorem dX5_feed_118 : decode cX5_feed 118 = .ok (.iload 5, 2) := zd02dec1_182.2.2.2.2.2.2.2.2.1
theorem dX5_feed_120 : decode cX5_feed 120 = .ok (.goto 5, 3) := zd02dec1_182.2.2.2.2.2.2.2.2.2.1
theorem dX5_feed_123 : decode cX5_feed 123 = .ok (.iload 6, 2) := zd02dec1_182.2.2.2.2.2.2.2.2.2.2.1
theorem dX5_feed_125 : decode cX5_feed 125 = .ok (.invokevirtual 64, 3) := zd02dec1_182.2.2.2.2.2.2.2.2.2.2.2
theorem zd02dec1_183 : decode cX5_feed 128 = .ok (.iinc 7 1, 3) ∧ decode cX5_feed 131 = .ok (.goto (-59), 3) ∧ decode cX5_feed 134 = .ok (.aload_n 0, 1) ∧ decode cX5_feed 135 = .ok (.getfield 21, 3) ∧ decode cX5_feed 138 = .ok (.getfield 84, 3) ∧ decode cX5_feed 141 = .ok (.ireturn, 1) := by decide +kernel
theorem dX5_feed_128 : decode cX5_feed 128 = .ok (.iinc 7 1, 3) := zd02dec1_183.1
theorem dX5_feed_131 : decode cX5_feed 131 = .ok (.goto (-59), 3) := zd02dec1_183.2.1
theorem dX5_feed_134 : decode cX5_feed 134 = .ok (.aload_n 0, 1) := zd02dec1_183.2.2.1
theorem dX5_feed_135 : decode cX5_feed 135 = .ok (.getfield 21, 3) := zd02dec1_183.2.2.2.1
theorem dX5_feed_138 : decode cX5_feed 138 = .ok (.getfield 84, 3) := zd02dec1_183.2.2.2.2.1
theorem dX5_feed_141 : decode cX5_feed 141 = .ok (.ireturn, 1) := zd02dec1_183.2.2.2.2.2
theorem zd02dec1_184 : decode cX5_text 0 = .ok (.aload_n 0, 1) ∧ decode cX5_text 1 = .ok (.getfield 10, 3) ∧ decode cX5_text 4 = .ok (.getfield 78, 3) ∧ decode cX5_text 7 = .ok (.bipush 6, 2) ∧ decode cX5_text 9 = .ok (.if_icmp .lt 6, 3) ∧ decode cX5_text 12 = .ok (.bipush (-4), 2) ∧ decode cX5_text 14 = .ok (.ireturn, 1) ∧ decode cX5_text 15 = .ok (.aload_n 0, 1) ∧ decode cX5_text 16 = .ok (.getfield 21, 3) ∧ decode cX5_text 19 = .ok (.invokevirtual 68, 3) ∧ decode cX5_text 22 = .ok (.ireturn, 1) := by decide +kernel
theorem dX5_text_0 : decode cX5_text 0 = .ok (.aload_n 0, 1) := zd02dec1_184.1
theorem dX5_text_1 : decode cX5_text 1 = .ok (.getfield 10, 3) := zd02dec1_184.2.1
theorem dX5_text_4 : decode cX5_text 4 = .ok (.getfield 78, 3) := zd02dec1_184.2.2.1
theorem dX5_text_7 : decode cX5_text 7 = .ok (.bipush 6, 2) := zd02dec1_184.2.2.2.1
theorem dX5_text_9 : decode cX5_text 9 = .ok (.if_icmp .lt 6, 3) := zd02dec1_184.2.2.2.2.1
theorem dX5_text_12 : decode cX5_text 12 = .ok (.bipush (-4), 2) := zd02dec1_184.2.2.2.2.2.1
theorem dX5_text_14 : decode cX5_text 14 = .ok (.ireturn, 1) := zd02dec1_184.2.2.2.2.2.2.1
theorem dX5_text_15 : decode cX5_text 15 = .ok (.aload_n 0, 1) := zd02dec1_184.2.2.2.2.2.2.2.1
theorem dX5_text_16 : decode cX5_text 16 = .ok (.getfield 21, 3) := zd02dec1_184.2.2.2.2.2.2.2.2.1
theorem dX5_text_19 : decode cX5_text 19 = .ok (.invokevirtual 68, 3) := zd02dec1_184.2.2.2.2.2.2.2.2.2.1
theorem dX5_text_22 : decode cX5_text 22 = .ok (.ireturn, 1) := zd02dec1_184.2.2.2.2.2.2.2.2.2.2
theorem zd02dec1_185 : decode cX5_force 0 = .ok (.iload_n 1, 1) ∧ decode cX5_force 1 = .ok (.ifCond .lt 14, 3) ∧ decode cX5_force 4 = .ok (.iload_n 1, 1) ∧ decode cX5_force 5 = .ok (.aload_n 0, 1) ∧ decode cX5_force 6 = .ok (.getfield 10, 3) ∧ decode cX5_force 9 = .ok (.getfield 78, 3) ∧ decode cX5_force 12 = .ok (.if_icmp .lt 6, 3) ∧ decode cX5_force 15 = .ok (.bipush (-2), 2) ∧ decode cX5_force 17 = .ok (.ireturn, 1) ∧ decode cX5_force 18 = .ok (.aload_n 0, 1) ∧ decode cX5_force 19 = .ok (.getfield 28, 3) ∧ decode cX5_force 22 = .ok (.getfield 81, 3) := by decide +kernel
theorem dX5_force_0 : decode cX5_force 0 = .ok (.iload_n 1, 1) := zd02dec1_185.1
theorem dX5_force_1 : decode cX5_force 1 = .ok (.ifCond .lt 14, 3) := zd02dec1_185.2.1
theorem dX5_force_4 : decode cX5_force 4 = .ok (.iload_n 1, 1) := zd02dec1_185.2.2.1
theorem dX5_force_5 : decode cX5_force 5 = .ok (.aload_n 0, 1) := zd02dec1_185.2.2.2.1
theorem dX5_force_6 : decode cX5_force 6 = .ok (.getfield 10, 3) := zd02dec1_185.2.2.2.2.1
theorem dX5_force_9 : decode cX5_force 9 = .ok (.getfield 78, 3) := zd02dec1_185.2.2.2.2.2.1
theorem dX5_force_12 : decode cX5_force 12 = .ok (.if_icmp .lt 6, 3) := zd02dec1_185.2.2.2.2.2.2.1
theorem dX5_force_15 : decode cX5_force 15 = .ok (.bipush (-2), 2) := zd02dec1_185.2.2.2.2.2.2.2.1
theorem dX5_force_17 : decode cX5_force 17 = .ok (.ireturn, 1) := zd02dec1_185.2.2.2.2.2.2.2.2.1
theorem dX5_force_18 : decode cX5_force 18 = .ok (.aload_n 0, 1) := zd02dec1_185.2.2.2.2.2.2.2.2.2.1
theorem dX5_force_19 : decode cX5_force 19 = .ok (.getfield 28, 3) := zd02dec1_185.2.2.2.2.2.2.2.2.2.2.1
theorem dX5_force_22 : decode cX5_force 22 = .ok (.getfield 81, 3) := zd02dec1_185.2.2.2.2.2.2.2.2.2.2.2
theorem zd02dec1_186 : decode cX5_force 25 = .ok (.istore_n 2, 1) ∧ decode cX5_force 26 = .ok (.aload_n 0, 1) ∧ decode cX5_force 27 = .ok (.getfield 28, 3) ∧ decode cX5_force 30 = .ok (.iload_n 1, 1) ∧ decode cX5_force 31 = .ok (.putfield 81, 3) ∧ decode cX5_force 34 = .ok (.iload_n 2, 1) ∧ decode cX5_force 35 = .ok (.ireturn, 1) := by decide +kernel
theorem dX5_force_25 : decode cX5_force 25 = .ok (.istore_n 2, 1) := zd02dec1_186.1
theorem dX5_force_26 : decode cX5_force 26 = .ok (.aload_n 0, 1) := zd02dec1_186.2.1
theorem dX5_force_27 : decode cX5_force 27 = .ok (.getfield 28, 3) := zd02dec1_186.2.2.1
theorem dX5_force_30 : decode cX5_force 30 = .ok (.iload_n 1, 1) := zd02dec1_186.2.2.2.1
theorem dX5_force_31 : decode cX5_force 31 = .ok (.putfield 81, 3) := zd02dec1_186.2.2.2.2.1
theorem dX5_force_34 : decode cX5_force 34 = .ok (.iload_n 2, 1) := zd02dec1_186.2.2.2.2.2.1
theorem dX5_force_35 : decode cX5_force 35 = .ok (.ireturn, 1) := zd02dec1_186.2.2.2.2.2.2
theorem zd02dec1_187 : decode cX5_asks 0 = .ok (.iload_n 1, 1) ∧ decode cX5_asks 1 = .ok (.iconst 2, 1) ∧ decode cX5_asks 2 = .ok (.invokestatic 86, 3) ∧ decode cX5_asks 5 = .ok (.ifCond .eq 25, 3) ∧ decode cX5_asks 8 = .ok (.aload_n 0, 1) ∧ decode cX5_asks 9 = .ok (.getfield 28, 3) ∧ decode cX5_asks 12 = .ok (.iload_n 2, 1) ∧ decode cX5_asks 13 = .ok (.invokevirtual 94, 3) ∧ decode cX5_asks 16 = .ok (.ifCond .eq 14, 3) ∧ decode cX5_asks 19 = .ok (.aload_n 0, 1) ∧ decode cX5_asks 20 = .ok (.getfield 28, 3) ∧ decode cX5_asks 23 = .ok (.iload_n 3, 1) := by decide +kernel
theorem dX5_asks_0 : decode cX5_asks 0 = .ok (.iload_n 1, 1) := zd02dec1_187.1
theorem dX5_asks_1 : decode cX5_asks 1 = .ok (.iconst 2, 1) := zd02dec1_187.2.1
theorem dX5_asks_2 : decode cX5_asks 2 = .ok (.invokestatic 86, 3) := zd02dec1_187.2.2.1
theorem dX5_asks_5 : decode cX5_asks 5 = .ok (.ifCond .eq 25, 3) := zd02dec1_187.2.2.2.1
theorem dX5_asks_8 : decode cX5_asks 8 = .ok (.aload_n 0, 1) := zd02dec1_187.2.2.2.2.1
theorem dX5_asks_9 : decode cX5_asks 9 = .ok (.getfield 28, 3) := zd02dec1_187.2.2.2.2.2.1
theorem dX5_asks_12 : decode cX5_asks 12 = .ok (.iload_n 2, 1) := zd02dec1_187.2.2.2.2.2.2.1
theorem dX5_asks_13 : decode cX5_asks 13 = .ok (.invokevirtual 94, 3) := zd02dec1_187.2.2.2.2.2.2.2.1
theorem dX5_asks_16 : decode cX5_asks 16 = .ok (.ifCond .eq 14, 3) := zd02dec1_187.2.2.2.2.2.2.2.2.1
theorem dX5_asks_19 : decode cX5_asks 19 = .ok (.aload_n 0, 1) := zd02dec1_187.2.2.2.2.2.2.2.2.2.1
theorem dX5_asks_20 : decode cX5_asks 20 = .ok (.getfield 28, 3) := zd02dec1_187.2.2.2.2.2.2.2.2.2.2.1
theorem dX5_asks_23 : decode cX5_asks 23 = .ok (.iload_n 3, 1) := zd02dec1_187.2.2.2.2.2.2.2.2.2.2.2
theorem zd02dec1_188 : decode cX5_asks 24 = .ok (.invokevirtual 111, 3) ∧ decode cX5_asks 27 = .ok (.ifCond .ne 6, 3) ∧ decode cX5_asks 30 = .ok (.bipush (-2), 2) ∧ decode cX5_asks 32 = .ok (.ireturn, 1) ∧ decode cX5_asks 33 = .ok (.aload_n 0, 1) ∧ decode cX5_asks 34 = .ok (.getfield 28, 3) ∧ decode cX5_asks 37 = .ok (.iload_n 1, 1) ∧ decode cX5_asks 38 = .ok (.iload_n 2, 1) ∧ decode cX5_asks 39 = .ok (.iload_n 3, 1) ∧ decode cX5_asks 40 = .ok (.invokevirtual 114, 3) ∧ decode cX5_asks 43 = .ok (.ireturn, 1) := by decide +kernel
theorem dX5_asks_24 : decode cX5_asks 24 = .ok (.invokevirtual 111, 3) := zd02dec1_188.1
theorem dX5_asks_27 : decode cX5_asks 27 = .ok (.ifCond .ne 6, 3) := zd02dec1_188.2.1
theorem dX5_asks_30 : decode cX5_asks 30 = .ok (.bipush (-2), 2) := zd02dec1_188.2.2.1
theorem dX5_asks_32 : decode cX5_asks 32 = .ok (.ireturn, 1) := zd02dec1_188.2.2.2.1
theorem dX5_asks_33 : decode cX5_asks 33 = .ok (.aload_n 0, 1) := zd02dec1_188.2.2.2.2.1
theorem dX5_asks_34 : decode cX5_asks 34 = .ok (.getfield 28, 3) := zd02dec1_188.2.2.2.2.2.1
theorem dX5_asks_37 : decode cX5_asks 37 = .ok (.iload_n 1, 1) := zd02dec1_188.2.2.2.2.2.2.1
theorem dX5_asks_38 : decode cX5_asks 38 = .ok (.iload_n 2, 1) := zd02dec1_188.2.2.2.2.2.2.2.1
theorem dX5_asks_39 : decode cX5_asks 39 = .ok (.iload_n 3, 1) := zd02dec1_188.2.2.2.2.2.2.2.2.1
theorem dX5_asks_40 : decode cX5_asks 40 = .ok (.invokevirtual 114, 3) := zd02dec1_188.2.2.2.2.2.2.2.2.2.1
theorem dX5_asks_43 : decode cX5_asks 43 = .ok (.ireturn, 1) := zd02dec1_188.2.2.2.2.2.2.2.2.2.2
theorem zd02dec1_189 : decode cX5_pebble 0 = .ok (.iload_n 1, 1) ∧ decode cX5_pebble 1 = .ok (.bipush 59, 2) ∧ decode cX5_pebble 3 = .ok (.invokestatic 86, 3) ∧ decode cX5_pebble 6 = .ok (.ifCond .eq 13, 3) ∧ decode cX5_pebble 9 = .ok (.iload_n 2, 1) ∧ decode cX5_pebble 10 = .ok (.sipush 9999, 3) ∧ decode cX5_pebble 13 = .ok (.invokestatic 86, 3) ∧ decode cX5_pebble 16 = .ok (.ifCond .ne 6, 3) ∧ decode cX5_pebble 19 = .ok (.bipush (-2), 2) ∧ decode cX5_pebble 21 = .ok (.ireturn, 1) ∧ decode cX5_pebble 22 = .ok (.aload_n 0, 1) ∧ decode cX5_pebble 23 = .ok (.getfield 28, 3) := by decide +kernel
theorem dX5_pebble_0 : decode cX5_pebble 0 = .ok (.iload_n 1, 1) := zd02dec1_189.1
theorem dX5_pebble_1 : decode cX5_pebble 1 = .ok (.bipush 59, 2) := zd02dec1_189.2.1
theorem dX5_pebble_3 : decode cX5_pebble 3 = .ok (.invokestatic 86, 3) := zd02dec1_189.2.2.1
theorem dX5_pebble_6 : decode cX5_pebble 6 = .ok (.ifCond .eq 13, 3) := zd02dec1_189.2.2.2.1
theorem dX5_pebble_9 : decode cX5_pebble 9 = .ok (.iload_n 2, 1) := zd02dec1_189.2.2.2.2.1
theorem dX5_pebble_10 : decode cX5_pebble 10 = .ok (.sipush 9999, 3) := zd02dec1_189.2.2.2.2.2.1
theorem dX5_pebble_13 : decode cX5_pebble 13 = .ok (.invokestatic 86, 3) := zd02dec1_189.2.2.2.2.2.2.1
theorem dX5_pebble_16 : decode cX5_pebble 16 = .ok (.ifCond .ne 6, 3) := zd02dec1_189.2.2.2.2.2.2.2.1
theorem dX5_pebble_19 : decode cX5_pebble 19 = .ok (.bipush (-2), 2) := zd02dec1_189.2.2.2.2.2.2.2.2.1
theorem dX5_pebble_21 : decode cX5_pebble 21 = .ok (.ireturn, 1) := zd02dec1_189.2.2.2.2.2.2.2.2.2.1
theorem dX5_pebble_22 : decode cX5_pebble 22 = .ok (.aload_n 0, 1) := zd02dec1_189.2.2.2.2.2.2.2.2.2.2.1
theorem dX5_pebble_23 : decode cX5_pebble 23 = .ok (.getfield 28, 3) := zd02dec1_189.2.2.2.2.2.2.2.2.2.2.2
theorem zd02dec1_190 : decode cX5_pebble 26 = .ok (.iload_n 1, 1) ∧ decode cX5_pebble 27 = .ok (.iload_n 2, 1) ∧ decode cX5_pebble 28 = .ok (.invokevirtual 118, 3) ∧ decode cX5_pebble 31 = .ok (.ireturn, 1) := by decide +kernel
theorem dX5_pebble_26 : decode cX5_pebble 26 = .ok (.iload_n 1, 1) := zd02dec1_190.1
theorem dX5_pebble_27 : decode cX5_pebble 27 = .ok (.iload_n 2, 1) := zd02dec1_190.2.1
theorem dX5_pebble_28 : decode cX5_pebble 28 = .ok (.invokevirtual 118, 3) := zd02dec1_190.2.2.1
theorem dX5_pebble_31 : decode cX5_pebble 31 = .ok (.ireturn, 1) := zd02dec1_190.2.2.2
theorem zd02dec1_191 : decode cX5_put 0 = .ok (.aload_n 0, 1) ∧ decode cX5_put 1 = .ok (.getfield 28, 3) ∧ decode cX5_put 4 = .ok (.iload_n 1, 1) ∧ decode cX5_put 5 = .ok (.invokevirtual 111, 3) ∧ decode cX5_put 8 = .ok (.ifCond .ne 6, 3) ∧ decode cX5_put 11 = .ok (.bipush (-5), 2) ∧ decode cX5_put 13 = .ok (.ireturn, 1) ∧ decode cX5_put 14 = .ok (.iload_n 2, 1) ∧ decode cX5_put 15 = .ok (.iconst 1, 1) ∧ decode cX5_put 16 = .ok (.invokestatic 86, 3) ∧ decode cX5_put 19 = .ok (.ifCond .eq 12, 3) ∧ decode cX5_put 22 = .ok (.iload_n 3, 1) := by decide +kernel
theorem dX5_put_0 : decode cX5_put 0 = .ok (.aload_n 0, 1) := zd02dec1_191.1
theorem dX5_put_1 : decode cX5_put 1 = .ok (.getfield 28, 3) := zd02dec1_191.2.1
theorem dX5_put_4 : decode cX5_put 4 = .ok (.iload_n 1, 1) := zd02dec1_191.2.2.1
theorem dX5_put_5 : decode cX5_put 5 = .ok (.invokevirtual 111, 3) := zd02dec1_191.2.2.2.1
theorem dX5_put_8 : decode cX5_put 8 = .ok (.ifCond .ne 6, 3) := zd02dec1_191.2.2.2.2.1
theorem dX5_put_11 : decode cX5_put 11 = .ok (.bipush (-5), 2) := zd02dec1_191.2.2.2.2.2.1
theorem dX5_put_13 : decode cX5_put 13 = .ok (.ireturn, 1) := zd02dec1_191.2.2.2.2.2.2.1
theorem dX5_put_14 : decode cX5_put 14 = .ok (.iload_n 2, 1) := zd02dec1_191.2.2.2.2.2.2.2.1
theorem dX5_put_15 : decode cX5_put 15 = .ok (.iconst 1, 1) := zd02dec1_191.2.2.2.2.2.2.2.2.1
theorem dX5_put_16 : decode cX5_put 16 = .ok (.invokestatic 86, 3) := zd02dec1_191.2.2.2.2.2.2.2.2.2.1
theorem dX5_put_19 : decode cX5_put 19 = .ok (.ifCond .eq 12, 3) := zd02dec1_191.2.2.2.2.2.2.2.2.2.2.1
theorem dX5_put_22 : decode cX5_put 22 = .ok (.iload_n 3, 1) := zd02dec1_191.2.2.2.2.2.2.2.2.2.2.2
theorem zd02dec1_192 : decode cX5_put 23 = .ok (.bipush 99, 2) ∧ decode cX5_put 25 = .ok (.invokestatic 86, 3) ∧ decode cX5_put 28 = .ok (.ifCond .ne 6, 3) ∧ decode cX5_put 31 = .ok (.bipush (-7), 2) ∧ decode cX5_put 33 = .ok (.ireturn, 1) ∧ decode cX5_put 34 = .ok (.iload_n 2, 1) ∧ decode cX5_put 35 = .ok (.ifCond .ne 13, 3) ∧ decode cX5_put 38 = .ok (.aload_n 0, 1) ∧ decode cX5_put 39 = .ok (.getfield 28, 3) ∧ decode cX5_put 42 = .ok (.getfield 122, 3) ∧ decode cX5_put 45 = .ok (.goto 10, 3) ∧ decode cX5_put 48 = .ok (.aload_n 0, 1) := by decide +kernel
theorem dX5_put_23 : decode cX5_put 23 = .ok (.bipush 99, 2) := zd02dec1_192.1
theorem dX5_put_25 : decode cX5_put 25 = .ok (.invokestatic 86, 3) := zd02dec1_192.2.1
theorem dX5_put_28 : decode cX5_put 28 = .ok (.ifCond .ne 6, 3) := zd02dec1_192.2.2.1
theorem dX5_put_31 : decode cX5_put 31 = .ok (.bipush (-7), 2) := zd02dec1_192.2.2.2.1
theorem dX5_put_33 : decode cX5_put 33 = .ok (.ireturn, 1) := zd02dec1_192.2.2.2.2.1
theorem dX5_put_34 : decode cX5_put 34 = .ok (.iload_n 2, 1) := zd02dec1_192.2.2.2.2.2.1
theorem dX5_put_35 : decode cX5_put 35 = .ok (.ifCond .ne 13, 3) := zd02dec1_192.2.2.2.2.2.2.1
theorem dX5_put_38 : decode cX5_put 38 = .ok (.aload_n 0, 1) := zd02dec1_192.2.2.2.2.2.2.2.1
theorem dX5_put_39 : decode cX5_put 39 = .ok (.getfield 28, 3) := zd02dec1_192.2.2.2.2.2.2.2.2.1
theorem dX5_put_42 : decode cX5_put 42 = .ok (.getfield 122, 3) := zd02dec1_192.2.2.2.2.2.2.2.2.2.1
theorem dX5_put_45 : decode cX5_put 45 = .ok (.goto 10, 3) := zd02dec1_192.2.2.2.2.2.2.2.2.2.2.1
theorem dX5_put_48 : decode cX5_put 48 = .ok (.aload_n 0, 1) := zd02dec1_192.2.2.2.2.2.2.2.2.2.2.2
theorem zd02dec1_193 : decode cX5_put 49 = .ok (.getfield 28, 3) ∧ decode cX5_put 52 = .ok (.getfield 125, 3) ∧ decode cX5_put 55 = .ok (.astore 4, 2) ∧ decode cX5_put 57 = .ok (.aload 4, 2) ∧ decode cX5_put 59 = .ok (.iload_n 1, 1) ∧ decode cX5_put 60 = .ok (.iaload, 1) ∧ decode cX5_put 61 = .ok (.istore 5, 2) ∧ decode cX5_put 63 = .ok (.aload 4, 2) ∧ decode cX5_put 65 = .ok (.iload_n 1, 1) ∧ decode cX5_put 66 = .ok (.iload_n 3, 1) ∧ decode cX5_put 67 = .ok (.iastore, 1) ∧ decode cX5_put 68 = .ok (.iload 5, 2) := by decide +kernel
theorem dX5_put_49 : decode cX5_put 49 = .ok (.getfield 28, 3) := zd02dec1_193.1
theorem dX5_put_52 : decode cX5_put 52 = .ok (.getfield 125, 3) := zd02dec1_193.2.1
theorem dX5_put_55 : decode cX5_put 55 = .ok (.astore 4, 2) := zd02dec1_193.2.2.1
theorem dX5_put_57 : decode cX5_put 57 = .ok (.aload 4, 2) := zd02dec1_193.2.2.2.1
theorem dX5_put_59 : decode cX5_put 59 = .ok (.iload_n 1, 1) := zd02dec1_193.2.2.2.2.1
theorem dX5_put_60 : decode cX5_put 60 = .ok (.iaload, 1) := zd02dec1_193.2.2.2.2.2.1
theorem dX5_put_61 : decode cX5_put 61 = .ok (.istore 5, 2) := zd02dec1_193.2.2.2.2.2.2.1
theorem dX5_put_63 : decode cX5_put 63 = .ok (.aload 4, 2) := zd02dec1_193.2.2.2.2.2.2.2.1
theorem dX5_put_65 : decode cX5_put 65 = .ok (.iload_n 1, 1) := zd02dec1_193.2.2.2.2.2.2.2.2.1
theorem dX5_put_66 : decode cX5_put 66 = .ok (.iload_n 3, 1) := zd02dec1_193.2.2.2.2.2.2.2.2.2.1
theorem dX5_put_67 : decode cX5_put 67 = .ok (.iastore, 1) := zd02dec1_193.2.2.2.2.2.2.2.2.2.2.1
theorem dX5_put_68 : decode cX5_put 68 = .ok (.iload 5, 2) := zd02dec1_193.2.2.2.2.2.2.2.2.2.2.2
theorem dX5_put_70 : decode cX5_put 70 = .ok (.ireturn, 1) := by decide +kernel
theorem zd02dec1_194 : decode cX5_told 0 = .ok (.aload_n 0, 1) ∧ decode cX5_told 1 = .ok (.getfield 28, 3) ∧ decode cX5_told 4 = .ok (.iload_n 1, 1) ∧ decode cX5_told 5 = .ok (.invokevirtual 111, 3) ∧ decode cX5_told 8 = .ok (.ifCond .ne 6, 3) ∧ decode cX5_told 11 = .ok (.bipush (-5), 2) ∧ decode cX5_told 13 = .ok (.ireturn, 1) ∧ decode cX5_told 14 = .ok (.iload_n 2, 1) ∧ decode cX5_told 15 = .ok (.tableswitch 90 0 4 #[33, 43, 53, 63, 73], 33) ∧ decode cX5_told 48 = .ok (.aload_n 0, 1) ∧ decode cX5_told 49 = .ok (.getfield 28, 3) ∧ decode cX5_told 52 = .ok (.getfield 128, 3) := by decide +kernel
theorem dX5_told_0 : decode cX5_told 0 = .ok (.aload_n 0, 1) := zd02dec1_194.1
theorem dX5_told_1 : decode cX5_told 1 = .ok (.getfield 28, 3) := zd02dec1_194.2.1
theorem dX5_told_4 : decode cX5_told 4 = .ok (.iload_n 1, 1) := zd02dec1_194.2.2.1
theorem dX5_told_5 : decode cX5_told 5 = .ok (.invokevirtual 111, 3) := zd02dec1_194.2.2.2.1
theorem dX5_told_8 : decode cX5_told 8 = .ok (.ifCond .ne 6, 3) := zd02dec1_194.2.2.2.2.1
theorem dX5_told_11 : decode cX5_told 11 = .ok (.bipush (-5), 2) := zd02dec1_194.2.2.2.2.2.1
theorem dX5_told_13 : decode cX5_told 13 = .ok (.ireturn, 1) := zd02dec1_194.2.2.2.2.2.2.1
theorem dX5_told_14 : decode cX5_told 14 = .ok (.iload_n 2, 1) := zd02dec1_194.2.2.2.2.2.2.2.1
theorem dX5_told_15 : decode cX5_told 15 = .ok (.tableswitch 90 0 4 #[33, 43, 53, 63, 73], 33) := zd02dec1_194.2.2.2.2.2.2.2.2.1
theorem dX5_told_48 : decode cX5_told 48 = .ok (.aload_n 0, 1) := zd02dec1_194.2.2.2.2.2.2.2.2.2.1
theorem dX5_told_49 : decode cX5_told 49 = .ok (.getfield 28, 3) := zd02dec1_194.2.2.2.2.2.2.2.2.2.2.1
theorem dX5_told_52 : decode cX5_told 52 = .ok (.getfield 128, 3) := zd02dec1_194.2.2.2.2.2.2.2.2.2.2.2
theorem zd02dec1_195 : decode cX5_told 55 = .ok (.iload_n 1, 1) ∧ decode cX5_told 56 = .ok (.iaload, 1) ∧ decode cX5_told 57 = .ok (.ireturn, 1) ∧ decode cX5_told 58 = .ok (.aload_n 0, 1) ∧ decode cX5_told 59 = .ok (.getfield 28, 3) ∧ decode cX5_told 62 = .ok (.getfield 131, 3) ∧ decode cX5_told 65 = .ok (.iload_n 1, 1) ∧ decode cX5_told 66 = .ok (.iaload, 1) ∧ decode cX5_told 67 = .ok (.ireturn, 1) ∧ decode cX5_told 68 = .ok (.aload_n 0, 1) ∧ decode cX5_told 69 = .ok (.getfield 28, 3) ∧ decode cX5_told 72 = .ok (.getfield 122, 3) := by decide +kernel
theorem dX5_told_55 : decode cX5_told 55 = .ok (.iload_n 1, 1) := zd02dec1_195.1
theorem dX5_told_56 : decode cX5_told 56 = .ok (.iaload, 1) := zd02dec1_195.2.1
theorem dX5_told_57 : decode cX5_told 57 = .ok (.ireturn, 1) := zd02dec1_195.2.2.1
theorem dX5_told_58 : decode cX5_told 58 = .ok (.aload_n 0, 1) := zd02dec1_195.2.2.2.1
theorem dX5_told_59 : decode cX5_told 59 = .ok (.getfield 28, 3) := zd02dec1_195.2.2.2.2.1
theorem dX5_told_62 : decode cX5_told 62 = .ok (.getfield 131, 3) := zd02dec1_195.2.2.2.2.2.1
theorem dX5_told_65 : decode cX5_told 65 = .ok (.iload_n 1, 1) := zd02dec1_195.2.2.2.2.2.2.1
theorem dX5_told_66 : decode cX5_told 66 = .ok (.iaload, 1) := zd02dec1_195.2.2.2.2.2.2.2.1
theorem dX5_told_67 : decode cX5_told 67 = .ok (.ireturn, 1) := zd02dec1_195.2.2.2.2.2.2.2.2.1
theorem dX5_told_68 : decode cX5_told 68 = .ok (.aload_n 0, 1) := zd02dec1_195.2.2.2.2.2.2.2.2.2.1
theorem dX5_told_69 : decode cX5_told 69 = .ok (.getfield 28, 3) := zd02dec1_195.2.2.2.2.2.2.2.2.2.2.1
theorem dX5_told_72 : decode cX5_told 72 = .ok (.getfield 122, 3) := zd02dec1_195.2.2.2.2.2.2.2.2.2.2.2
theorem zd02dec1_196 : decode cX5_told 75 = .ok (.iload_n 1, 1) ∧ decode cX5_told 76 = .ok (.iaload, 1) ∧ decode cX5_told 77 = .ok (.ireturn, 1) ∧ decode cX5_told 78 = .ok (.aload_n 0, 1) ∧ decode cX5_told 79 = .ok (.getfield 28, 3) ∧ decode cX5_told 82 = .ok (.getfield 125, 3) ∧ decode cX5_told 85 = .ok (.iload_n 1, 1) ∧ decode cX5_told 86 = .ok (.iaload, 1) ∧ decode cX5_told 87 = .ok (.ireturn, 1) ∧ decode cX5_told 88 = .ok (.aload_n 0, 1) ∧ decode cX5_told 89 = .ok (.getfield 28, 3) ∧ decode cX5_told 92 = .ok (.iload_n 1, 1) := by decide +kernel
theorem dX5_told_75 : decode cX5_told 75 = .ok (.iload_n 1, 1) := zd02dec1_196.1
theorem dX5_told_76 : decode cX5_told 76 = .ok (.iaload, 1) := zd02dec1_196.2.1
theorem dX5_told_77 : decode cX5_told 77 = .ok (.ireturn, 1) := zd02dec1_196.2.2.1
theorem dX5_told_78 : decode cX5_told 78 = .ok (.aload_n 0, 1) := zd02dec1_196.2.2.2.1
theorem dX5_told_79 : decode cX5_told 79 = .ok (.getfield 28, 3) := zd02dec1_196.2.2.2.2.1
theorem dX5_told_82 : decode cX5_told 82 = .ok (.getfield 125, 3) := zd02dec1_196.2.2.2.2.2.1
theorem dX5_told_85 : decode cX5_told 85 = .ok (.iload_n 1, 1) := zd02dec1_196.2.2.2.2.2.2.1
theorem dX5_told_86 : decode cX5_told 86 = .ok (.iaload, 1) := zd02dec1_196.2.2.2.2.2.2.2.1
theorem dX5_told_87 : decode cX5_told 87 = .ok (.ireturn, 1) := zd02dec1_196.2.2.2.2.2.2.2.2.1
theorem dX5_told_88 : decode cX5_told 88 = .ok (.aload_n 0, 1) := zd02dec1_196.2.2.2.2.2.2.2.2.2.1
theorem dX5_told_89 : decode cX5_told 89 = .ok (.getfield 28, 3) := zd02dec1_196.2.2.2.2.2.2.2.2.2.2.1
theorem dX5_told_92 : decode cX5_told 92 = .ok (.iload_n 1, 1) := zd02dec1_196.2.2.2.2.2.2.2.2.2.2.2
theorem zd02dec1_197 : decode cX5_told 93 = .ok (.invokevirtual 134, 3) ∧ decode cX5_told 96 = .ok (.ifCond .eq 7, 3) ∧ decode cX5_told 99 = .ok (.iconst 1, 1) ∧ decode cX5_told 100 = .ok (.goto 4, 3) ∧ decode cX5_told 103 = .ok (.iconst 0, 1) ∧ decode cX5_told 104 = .ok (.ireturn, 1) ∧ decode cX5_told 105 = .ok (.bipush (-7), 2) ∧ decode cX5_told 107 = .ok (.ireturn, 1) := by decide +kernel
theorem dX5_told_93 : decode cX5_told 93 = .ok (.invokevirtual 134, 3) := zd02dec1_197.1
theorem dX5_told_96 : decode cX5_told 96 = .ok (.ifCond .eq 7, 3) := zd02dec1_197.2.1
theorem dX5_told_99 : decode cX5_told 99 = .ok (.iconst 1, 1) := zd02dec1_197.2.2.1
theorem dX5_told_100 : decode cX5_told 100 = .ok (.goto 4, 3) := zd02dec1_197.2.2.2.1
theorem dX5_told_103 : decode cX5_told 103 = .ok (.iconst 0, 1) := zd02dec1_197.2.2.2.2.1
theorem dX5_told_104 : decode cX5_told 104 = .ok (.ireturn, 1) := zd02dec1_197.2.2.2.2.2.1
theorem dX5_told_105 : decode cX5_told 105 = .ok (.bipush (-7), 2) := zd02dec1_197.2.2.2.2.2.2.1
theorem dX5_told_107 : decode cX5_told 107 = .ok (.ireturn, 1) := zd02dec1_197.2.2.2.2.2.2.2
theorem zd02dec1_198 : decode cX5_walk 0 = .ok (.aload_n 0, 1) ∧ decode cX5_walk 1 = .ok (.getfield 28, 3) ∧ decode cX5_walk 4 = .ok (.iload_n 1, 1) ∧ decode cX5_walk 5 = .ok (.iload_n 2, 1) ∧ decode cX5_walk 6 = .ok (.invokevirtual 137, 3) ∧ decode cX5_walk 9 = .ok (.ifCond .ne 6, 3) ∧ decode cX5_walk 12 = .ok (.bipush (-5), 2) ∧ decode cX5_walk 14 = .ok (.ireturn, 1) ∧ decode cX5_walk 15 = .ok (.iload_n 3, 1) ∧ decode cX5_walk 16 = .ok (.bipush 60, 2) ∧ decode cX5_walk 18 = .ok (.invokestatic 86, 3) ∧ decode cX5_walk 21 = .ok (.ifCond .ne 6, 3) := by decide +kernel
theorem dX5_walk_0 : decode cX5_walk 0 = .ok (.aload_n 0, 1) := zd02dec1_198.1
theorem dX5_walk_1 : decode cX5_walk 1 = .ok (.getfield 28, 3) := zd02dec1_198.2.1
theorem dX5_walk_4 : decode cX5_walk 4 = .ok (.iload_n 1, 1) := zd02dec1_198.2.2.1
theorem dX5_walk_5 : decode cX5_walk 5 = .ok (.iload_n 2, 1) := zd02dec1_198.2.2.2.1
theorem dX5_walk_6 : decode cX5_walk 6 = .ok (.invokevirtual 137, 3) := zd02dec1_198.2.2.2.2.1
theorem dX5_walk_9 : decode cX5_walk 9 = .ok (.ifCond .ne 6, 3) := zd02dec1_198.2.2.2.2.2.1
theorem dX5_walk_12 : decode cX5_walk 12 = .ok (.bipush (-5), 2) := zd02dec1_198.2.2.2.2.2.2.1
theorem dX5_walk_14 : decode cX5_walk 14 = .ok (.ireturn, 1) := zd02dec1_198.2.2.2.2.2.2.2.1
theorem dX5_walk_15 : decode cX5_walk 15 = .ok (.iload_n 3, 1) := zd02dec1_198.2.2.2.2.2.2.2.2.1
theorem dX5_walk_16 : decode cX5_walk 16 = .ok (.bipush 60, 2) := zd02dec1_198.2.2.2.2.2.2.2.2.2.1
theorem dX5_walk_18 : decode cX5_walk 18 = .ok (.invokestatic 86, 3) := zd02dec1_198.2.2.2.2.2.2.2.2.2.2.1
theorem dX5_walk_21 : decode cX5_walk 21 = .ok (.ifCond .ne 6, 3) := zd02dec1_198.2.2.2.2.2.2.2.2.2.2.2
theorem zd02dec1_199 : decode cX5_walk 24 = .ok (.bipush (-7), 2) ∧ decode cX5_walk 26 = .ok (.ireturn, 1) ∧ decode cX5_walk 27 = .ok (.aload_n 0, 1) ∧ decode cX5_walk 28 = .ok (.getfield 28, 3) ∧ decode cX5_walk 31 = .ok (.getfield 102, 3) ∧ decode cX5_walk 34 = .ok (.iload_n 1, 1) ∧ decode cX5_walk 35 = .ok (.iaload, 1) ∧ decode cX5_walk 36 = .ok (.iload_n 3, 1) ∧ decode cX5_walk 37 = .ok (.iadd, 1) ∧ decode cX5_walk 38 = .ok (.sipush 999, 3) ∧ decode cX5_walk 41 = .ok (.if_icmp .le 6, 3) ∧ decode cX5_walk 44 = .ok (.bipush (-4), 2) := by decide +kernel
theorem dX5_walk_24 : decode cX5_walk 24 = .ok (.bipush (-7), 2) := zd02dec1_199.1
theorem dX5_walk_26 : decode cX5_walk 26 = .ok (.ireturn, 1) := zd02dec1_199.2.1
theorem dX5_walk_27 : decode cX5_walk 27 = .ok (.aload_n 0, 1) := zd02dec1_199.2.2.1
theorem dX5_walk_28 : decode cX5_walk 28 = .ok (.getfield 28, 3) := zd02dec1_199.2.2.2.1
theorem dX5_walk_31 : decode cX5_walk 31 = .ok (.getfield 102, 3) := zd02dec1_199.2.2.2.2.1
theorem dX5_walk_34 : decode cX5_walk 34 = .ok (.iload_n 1, 1) := zd02dec1_199.2.2.2.2.2.1
theorem dX5_walk_35 : decode cX5_walk 35 = .ok (.iaload, 1) := zd02dec1_199.2.2.2.2.2.2.1
theorem dX5_walk_36 : decode cX5_walk 36 = .ok (.iload_n 3, 1) := zd02dec1_199.2.2.2.2.2.2.2.1
theorem dX5_walk_37 : decode cX5_walk 37 = .ok (.iadd, 1) := zd02dec1_199.2.2.2.2.2.2.2.2.1
theorem dX5_walk_38 : decode cX5_walk 38 = .ok (.sipush 999, 3) := zd02dec1_199.2.2.2.2.2.2.2.2.2.1
theorem dX5_walk_41 : decode cX5_walk 41 = .ok (.if_icmp .le 6, 3) := zd02dec1_199.2.2.2.2.2.2.2.2.2.2.1
theorem dX5_walk_44 : decode cX5_walk 44 = .ok (.bipush (-4), 2) := zd02dec1_199.2.2.2.2.2.2.2.2.2.2.2
theorem zd02dec1_200 : decode cX5_walk 46 = .ok (.ireturn, 1) ∧ decode cX5_walk 47 = .ok (.aload_n 0, 1) ∧ decode cX5_walk 48 = .ok (.getfield 28, 3) ∧ decode cX5_walk 51 = .ok (.iload_n 1, 1) ∧ decode cX5_walk 52 = .ok (.iload_n 2, 1) ∧ decode cX5_walk 53 = .ok (.iload_n 3, 1) ∧ decode cX5_walk 54 = .ok (.invokevirtual 140, 3) ∧ decode cX5_walk 57 = .ok (.ireturn, 1) := by decide +kernel
theorem dX5_walk_46 : decode cX5_walk 46 = .ok (.ireturn, 1) := zd02dec1_200.1
theorem dX5_walk_47 : decode cX5_walk 47 = .ok (.aload_n 0, 1) := zd02dec1_200.2.1
theorem dX5_walk_48 : decode cX5_walk 48 = .ok (.getfield 28, 3) := zd02dec1_200.2.2.1
theorem dX5_walk_51 : decode cX5_walk 51 = .ok (.iload_n 1, 1) := zd02dec1_200.2.2.2.1
theorem dX5_walk_52 : decode cX5_walk 52 = .ok (.iload_n 2, 1) := zd02dec1_200.2.2.2.2.1
theorem dX5_walk_53 : decode cX5_walk 53 = .ok (.iload_n 3, 1) := zd02dec1_200.2.2.2.2.2.1
theorem dX5_walk_54 : decode cX5_walk 54 = .ok (.invokevirtual 140, 3) := zd02dec1_200.2.2.2.2.2.2.1
theorem dX5_walk_57 : decode cX5_walk 57 = .ok (.ireturn, 1) := zd02dec1_200.2.2.2.2.2.2.2
theorem zd02dec1_201 : decode cX5_hear 0 = .ok (.aload_n 0, 1) ∧ decode cX5_hear 1 = .ok (.getfield 28, 3) ∧ decode cX5_hear 4 = .ok (.iload_n 1, 1) ∧ decode cX5_hear 5 = .ok (.iload_n 2, 1) ∧ decode cX5_hear 6 = .ok (.invokevirtual 137, 3) ∧ decode cX5_hear 9 = .ok (.ifCond .ne 6, 3) ∧ decode cX5_hear 12 = .ok (.bipush (-5), 2) ∧ decode cX5_hear 14 = .ok (.ireturn, 1) ∧ decode cX5_hear 15 = .ok (.iload_n 3, 1) ∧ decode cX5_hear 16 = .ok (.bipush 60, 2) ∧ decode cX5_hear 18 = .ok (.invokestatic 86, 3) ∧ decode cX5_hear 21 = .ok (.ifCond .eq 12, 3) := by decide +kernel
theorem dX5_hear_0 : decode cX5_hear 0 = .ok (.aload_n 0, 1) := zd02dec1_201.1
theorem dX5_hear_1 : decode cX5_hear 1 = .ok (.getfield 28, 3) := zd02dec1_201.2.1
theorem dX5_hear_4 : decode cX5_hear 4 = .ok (.iload_n 1, 1) := zd02dec1_201.2.2.1
theorem dX5_hear_5 : decode cX5_hear 5 = .ok (.iload_n 2, 1) := zd02dec1_201.2.2.2.1
theorem dX5_hear_6 : decode cX5_hear 6 = .ok (.invokevirtual 137, 3) := zd02dec1_201.2.2.2.2.1
theorem dX5_hear_9 : decode cX5_hear 9 = .ok (.ifCond .ne 6, 3) := zd02dec1_201.2.2.2.2.2.1
theorem dX5_hear_12 : decode cX5_hear 12 = .ok (.bipush (-5), 2) := zd02dec1_201.2.2.2.2.2.2.1
theorem dX5_hear_14 : decode cX5_hear 14 = .ok (.ireturn, 1) := zd02dec1_201.2.2.2.2.2.2.2.1
theorem dX5_hear_15 : decode cX5_hear 15 = .ok (.iload_n 3, 1) := zd02dec1_201.2.2.2.2.2.2.2.2.1
theorem dX5_hear_16 : decode cX5_hear 16 = .ok (.bipush 60, 2) := zd02dec1_201.2.2.2.2.2.2.2.2.2.1
theorem dX5_hear_18 : decode cX5_hear 18 = .ok (.invokestatic 86, 3) := zd02dec1_201.2.2.2.2.2.2.2.2.2.2.1
theorem dX5_hear_21 : decode cX5_hear 21 = .ok (.ifCond .eq 12, 3) := zd02dec1_201.2.2.2.2.2.2.2.2.2.2.2
theorem zd02dec1_202 : decode cX5_hear 24 = .ok (.iload 4, 2) ∧ decode cX5_hear 26 = .ok (.iconst 3, 1) ∧ decode cX5_hear 27 = .ok (.invokestatic 86, 3) ∧ decode cX5_hear 30 = .ok (.ifCond .ne 6, 3) ∧ decode cX5_hear 33 = .ok (.bipush (-7), 2) ∧ decode cX5_hear 35 = .ok (.ireturn, 1) ∧ decode cX5_hear 36 = .ok (.aload_n 0, 1) ∧ decode cX5_hear 37 = .ok (.invokevirtual 143, 3) ∧ decode cX5_hear 40 = .ok (.aload_n 0, 1) ∧ decode cX5_hear 41 = .ok (.getfield 32, 3) ∧ decode cX5_hear 44 = .ok (.iload_n 1, 1) ∧ decode cX5_hear 45 = .ok (.iload_n 2, 1) := by decide +kernel
theorem dX5_hear_24 : decode cX5_hear 24 = .ok (.iload 4, 2) := zd02dec1_202.1
theorem dX5_hear_26 : decode cX5_hear 26 = .ok (.iconst 3, 1) := zd02dec1_202.2.1
theorem dX5_hear_27 : decode cX5_hear 27 = .ok (.invokestatic 86, 3) := zd02dec1_202.2.2.1
theorem dX5_hear_30 : decode cX5_hear 30 = .ok (.ifCond .ne 6, 3) := zd02dec1_202.2.2.2.1
theorem dX5_hear_33 : decode cX5_hear 33 = .ok (.bipush (-7), 2) := zd02dec1_202.2.2.2.2.1
theorem dX5_hear_35 : decode cX5_hear 35 = .ok (.ireturn, 1) := zd02dec1_202.2.2.2.2.2.1
theorem dX5_hear_36 : decode cX5_hear 36 = .ok (.aload_n 0, 1) := zd02dec1_202.2.2.2.2.2.2.1
theorem dX5_hear_37 : decode cX5_hear 37 = .ok (.invokevirtual 143, 3) := zd02dec1_202.2.2.2.2.2.2.2.1
theorem dX5_hear_40 : decode cX5_hear 40 = .ok (.aload_n 0, 1) := zd02dec1_202.2.2.2.2.2.2.2.2.1
theorem dX5_hear_41 : decode cX5_hear 41 = .ok (.getfield 32, 3) := zd02dec1_202.2.2.2.2.2.2.2.2.2.1
theorem dX5_hear_44 : decode cX5_hear 44 = .ok (.iload_n 1, 1) := zd02dec1_202.2.2.2.2.2.2.2.2.2.2.1
theorem dX5_hear_45 : decode cX5_hear 45 = .ok (.iload_n 2, 1) := zd02dec1_202.2.2.2.2.2.2.2.2.2.2.2
