theorem dX0_init_0 : decode cX0_init 0 = .ok (.aload_n 0, 1) := by decide +kernel
theorem dX0_init_1 : decode cX0_init 1 = .ok (.invokespecial 3, 3) := by decide +kernel
theorem dX0_init_4 : decode cX0_init 4 = .ok (.aload_n 0, 1) := by decide +kernel
theorem dX0_init_5 : decode cX0_init 5 = .ok (.bipush 6, 2) := by decide +kernel
theorem dX0_init_7 : decode cX0_init 7 = .ok (.newarray .int, 2) := by decide +kernel
theorem dX0_init_9 : decode cX0_init 9 = .ok (.putfield 11, 3) := by decide +kernel
theorem dX0_init_12 : decode cX0_init 12 = .ok (.aload_n 0, 1) := by decide +kernel
theorem dX0_init_13 : decode cX0_init 13 = .ok (.iconst 4, 1) := by decide +kernel
theorem dX0_init_14 : decode cX0_init 14 = .ok (.newarray .int, 2) := by decide +kernel
theorem dX0_init_16 : decode cX0_init 16 = .ok (.putfield 17, 3) := by decide +kernel
theorem dX0_init_19 : decode cX0_init 19 = .ok (.aload_n 0, 1) := by decide +kernel
theorem dX0_init_20 : decode cX0_init 20 = .ok (.iconst 4, 1) := by decide +kernel
theorem dX0_init_21 : decode cX0_init 21 = .ok (.newarray .int, 2) := by decide +kernel
theorem dX0_init_23 : decode cX0_init 23 = .ok (.putfield 20, 3) := by decide +kernel
theorem dX0_init_26 : decode cX0_init 26 = .ok (.aload_n 0, 1) := by decide +kernel
theorem dX0_init_27 : decode cX0_init 27 = .ok (.iconst 4, 1) := by decide +kernel
theorem dX0_init_28 : decode cX0_init 28 = .ok (.newarray .int, 2) := by decide +kernel
theorem dX0_init_30 : decode cX0_init 30 = .ok (.putfield 23, 3) := by decide +kernel
theorem dX0_init_33 : decode cX0_init 33 = .ok (.aload_n 0, 1) := by decide +kernel
theorem dX0_init_34 : decode cX0_init 34 = .ok (.bipush 6, 2) := by decide +kernel
theorem dX0_init_36 : decode cX0_init 36 = .ok (.newarray .int, 2) := by decide +kernel
theorem dX0_init_38 : decode cX0_init 38 = .ok (.putfield 26, 3) := by decide +kernel
theorem dX0_init_41 : decode cX0_init 41 = .ok (.aload_n 0, 1) := by decide +kernel
theorem dX0_init_42 : decode cX0_init 42 = .ok (.bipush 6, 2) := by decide +kernel
theorem dX0_init_44 : decode cX0_init 44 = .ok (.newarray .int, 2) := by decide +kernel
theorem dX0_init_46 : decode cX0_init 46 = .ok (.putfield 29, 3) := by decide +kernel
theorem dX0_init_49 : decode cX0_init 49 = .ok (.aload_n 0, 1) := by decide +kernel
theorem dX0_init_50 : decode cX0_init 50 = .ok (.bipush 6, 2) := by decide +kernel
theorem dX0_init_52 : decode cX0_init 52 = .ok (.newarray .int, 2) := by decide +kernel
theorem dX0_init_54 : decode cX0_init 54 = .ok (.putfield 32, 3) := by decide +kernel
theorem dX0_init_57 : decode cX0_init 57 = .ok (.aload_n 0, 1) := by decide +kernel
theorem dX0_init_58 : decode cX0_init 58 = .ok (.bipush 6, 2) := by decide +kernel
theorem dX0_init_60 : decode cX0_init 60 = .ok (.newarray .int, 2) := by decide +kernel
theorem dX0_init_62 : decode cX0_init 62 = .ok (.putfield 35, 3) := by decide +kernel
theorem dX0_init_65 : decode cX0_init 65 = .ok (.aload_n 0, 1) := by decide +kernel
theorem dX0_init_66 : decode cX0_init 66 = .ok (.aload_n 1, 1) := by decide +kernel
theorem dX0_init_67 : decode cX0_init 67 = .ok (.putfield 38, 3) := by decide +kernel
theorem dX0_init_70 : decode cX0_init 70 = .ok (.return_, 1) := by decide +kernel
theorem dX0_become_0 : decode cX0_become 0 = .ok (.aload_n 1, 1) := by decide +kernel
theorem dX0_become_1 : decode cX0_become 1 = .ok (.getfield 17, 3) := by decide +kernel
theorem dX0_become_4 : decode cX0_become 4 = .ok (.iconst 0, 1) := by decide +kernel
theorem dX0_become_5 : decode cX0_become 5 = .ok (.aload_n 0, 1) := by decide +kernel
theorem dX0_become_6 : decode cX0_become 6 = .ok (.getfield 17, 3) := by decide +kernel
theorem dX0_become_9 : decode cX0_become 9 = .ok (.iconst 0, 1) := by decide +kernel
theorem dX0_become_10 : decode cX0_become 10 = .ok (.iconst 4, 1) := by decide +kernel
theorem dX0_become_11 : decode cX0_become 11 = .ok (.invokestatic 42, 3) := by decide +kernel
theorem dX0_become_14 : decode cX0_become 14 = .ok (.aload_n 1, 1) := by decide +kernel
theorem dX0_become_15 : decode cX0_become 15 = .ok (.getfield 20, 3) := by decide +kernel
theorem dX0_become_18 : decode cX0_become 18 = .ok (.iconst 0, 1) := by decide +kernel
theorem dX0_become_19 : decode cX0_become 19 = .ok (.aload_n 0, 1) := by decide +kernel
theorem dX0_become_20 : decode cX0_become 20 = .ok (.getfield 20, 3) := by decide +kernel
theorem dX0_become_23 : decode cX0_become 23 = .ok (.iconst 0, 1) := by decide +kernel
theorem dX0_become_24 : decode cX0_become 24 = .ok (.iconst 4, 1) := by decide +kernel
theorem dX0_become_25 : decode cX0_become 25 = .ok (.invokestatic 42, 3) := by decide +kernel
theorem dX0_become_28 : decode cX0_become 28 = .ok (.aload_n 1, 1) := by decide +kernel
theorem dX0_become_29 : decode cX0_become 29 = .ok (.getfield 23, 3) := by decide +kernel
theorem dX0_become_32 : decode cX0_become 32 = .ok (.iconst 0, 1) := by decide +kernel
theorem dX0_become_33 : decode cX0_become 33 = .ok (.aload_n 0, 1) := by decide +kernel
theorem dX0_become_34 : decode cX0_become 34 = .ok (.getfield 23, 3) := by decide +kernel
theorem dX0_become_37 : decode cX0_become 37 = .ok (.iconst 0, 1) := by decide +kernel
theorem dX0_become_38 : decode cX0_become 38 = .ok (.iconst 4, 1) := by decide +kernel
theorem dX0_become_39 : decode cX0_become 39 = .ok (.invokestatic 42, 3) := by decide +kernel
theorem dX0_become_42 : decode cX0_become 42 = .ok (.aload_n 1, 1) := by decide +kernel
theorem dX0_become_43 : decode cX0_become 43 = .ok (.getfield 26, 3) := by decide +kernel
theorem dX0_become_46 : decode cX0_become 46 = .ok (.iconst 0, 1) := by decide +kernel
theorem dX0_become_47 : decode cX0_become 47 = .ok (.aload_n 0, 1) := by decide +kernel
theorem dX0_become_48 : decode cX0_become 48 = .ok (.getfield 26, 3) := by decide +kernel
theorem dX0_become_51 : decode cX0_become 51 = .ok (.iconst 0, 1) := by decide +kernel
theorem dX0_become_52 : decode cX0_become 52 = .ok (.bipush 6, 2) := by decide +kernel
theorem dX0_become_54 : decode cX0_become 54 = .ok (.invokestatic 42, 3) := by decide +kernel
theorem dX0_become_57 : decode cX0_become 57 = .ok (.aload_n 1, 1) := by decide +kernel
theorem dX0_become_58 : decode cX0_become 58 = .ok (.getfield 29, 3) := by decide +kernel
theorem dX0_become_61 : decode cX0_become 61 = .ok (.iconst 0, 1) := by decide +kernel
theorem dX0_become_62 : decode cX0_become 62 = .ok (.aload_n 0, 1) := by decide +kernel
theorem dX0_become_63 : decode cX0_become 63 = .ok (.getfield 29, 3) := by decide +kernel
theorem dX0_become_66 : decode cX0_become 66 = .ok (.iconst 0, 1) := by decide +kernel
theorem dX0_become_67 : decode cX0_become 67 = .ok (.bipush 6, 2) := by decide +kernel
theorem dX0_become_69 : decode cX0_become 69 = .ok (.invokestatic 42, 3) := by decide +kernel
theorem dX0_become_72 : decode cX0_become 72 = .ok (.aload_n 1, 1) := by decide +kernel
theorem dX0_become_73 : decode cX0_become 73 = .ok (.getfield 32, 3) := by decide +kernel
theorem dX0_become_76 : decode cX0_become 76 = .ok (.iconst 0, 1) := by decide +kernel
theorem dX0_become_77 : decode cX0_become 77 = .ok (.aload_n 0, 1) := by decide +kernel
theorem dX0_become_78 : decode cX0_become 78 = .ok (.getfield 32, 3) := by decide +kernel
theorem dX0_become_81 : decode cX0_become 81 = .ok (.iconst 0, 1) := by decide +kernel
theorem dX0_become_82 : decode cX0_become 82 = .ok (.bipush 6, 2) := by decide +kernel
theorem dX0_become_84 : decode cX0_become 84 = .ok (.invokestatic 42, 3) := by decide +kernel
theorem dX0_become_87 : decode cX0_become 87 = .ok (.aload_n 1, 1) := by decide +kernel
theorem dX0_become_88 : decode cX0_become 88 = .ok (.getfield 35, 3) := by decide +kernel
theorem dX0_become_91 : decode cX0_become 91 = .ok (.iconst 0, 1) := by decide +kernel
theorem dX0_become_92 : decode cX0_become 92 = .ok (.aload_n 0, 1) := by decide +kernel
theorem dX0_become_93 : decode cX0_become 93 = .ok (.getfield 35, 3) := by decide +kernel
theorem dX0_become_96 : decode cX0_become 96 = .ok (.iconst 0, 1) := by decide +kernel
theorem dX0_become_97 : decode cX0_become 97 = .ok (.bipush 6, 2) := by decide +kernel
theorem dX0_become_99 : decode cX0_become 99 = .ok (.invokestatic 42, 3) := by decide +kernel
theorem dX0_become_102 : decode cX0_become 102 = .ok (.aload_n 0, 1) := by decide +kernel
theorem dX0_become_103 : decode cX0_become 103 = .ok (.aload_n 1, 1) := by decide +kernel
theorem dX0_become_104 : decode cX0_become 104 = .ok (.getfield 48, 3) := by decide +kernel
theorem dX0_become_107 : decode cX0_become 107 = .ok (.putfield 48, 3) := by decide +kernel
theorem dX0_become_110 : decode cX0_become 110 = .ok (.aload_n 0, 1) := by decide +kernel
theorem dX0_become_111 : decode cX0_become 111 = .ok (.aload_n 1, 1) := by decide +kernel
theorem dX0_become_112 : decode cX0_become 112 = .ok (.getfield 52, 3) := by decide +kernel
theorem dX0_become_115 : decode cX0_become 115 = .ok (.putfield 52, 3) := by decide +kernel
theorem dX0_become_118 : decode cX0_become 118 = .ok (.aload_n 0, 1) := by decide +kernel
theorem dX0_become_119 : decode cX0_become 119 = .ok (.aload_n 1, 1) := by decide +kernel
theorem dX0_become_120 : decode cX0_become 120 = .ok (.getfield 55, 3) := by decide +kernel
theorem dX0_become_123 : decode cX0_become 123 = .ok (.putfield 55, 3) := by decide +kernel
theorem dX0_become_126 : decode cX0_become 126 = .ok (.return_, 1) := by decide +kernel
theorem dX0_hasJudge_0 : decode cX0_hasJudge 0 = .ok (.iload_n 1, 1) := by decide +kernel
theorem dX0_hasJudge_1 : decode cX0_hasJudge 1 = .ok (.ifCond .lt 15, 3) := by decide +kernel
theorem dX0_hasJudge_4 : decode cX0_hasJudge 4 = .ok (.iload_n 1, 1) := by decide +kernel
theorem dX0_hasJudge_5 : decode cX0_hasJudge 5 = .ok (.aload_n 0, 1) := by decide +kernel
theorem dX0_hasJudge_6 : decode cX0_hasJudge 6 = .ok (.getfield 48, 3) := by decide +kernel
theorem dX0_hasJudge_9 : decode cX0_hasJudge 9 = .ok (.if_icmp .ge 7, 3) := by decide +kernel
theorem dX0_hasJudge_12 : decode cX0_hasJudge 12 = .ok (.iconst 1, 1) := by decide +kernel
theorem dX0_hasJudge_13 : decode cX0_hasJudge 13 = .ok (.goto 4, 3) := by decide +kernel
theorem dX0_hasJudge_16 : decode cX0_hasJudge 16 = .ok (.iconst 0, 1) := by decide +kernel
theorem dX0_hasJudge_17 : decode cX0_hasJudge 17 = .ok (.ireturn, 1) := by decide +kernel
theorem dX0_hasPebble_0 : decode cX0_hasPebble 0 = .ok (.iload_n 1, 1) := by decide +kernel
theorem dX0_hasPebble_1 : decode cX0_hasPebble 1 = .ok (.ifCond .lt 15, 3) := by decide +kernel
theorem dX0_hasPebble_4 : decode cX0_hasPebble 4 = .ok (.iload_n 1, 1) := by decide +kernel
theorem dX0_hasPebble_5 : decode cX0_hasPebble 5 = .ok (.aload_n 0, 1) := by decide +kernel
theorem dX0_hasPebble_6 : decode cX0_hasPebble 6 = .ok (.getfield 52, 3) := by decide +kernel
theorem dX0_hasPebble_9 : decode cX0_hasPebble 9 = .ok (.if_icmp .ge 7, 3) := by decide +kernel
theorem dX0_hasPebble_12 : decode cX0_hasPebble 12 = .ok (.iconst 1, 1) := by decide +kernel
theorem dX0_hasPebble_13 : decode cX0_hasPebble 13 = .ok (.goto 4, 3) := by decide +kernel
theorem dX0_hasPebble_16 : decode cX0_hasPebble 16 = .ok (.iconst 0, 1) := by decide +kernel
theorem dX0_hasPebble_17 : decode cX0_hasPebble 17 = .ok (.ireturn, 1) := by decide +kernel
theorem dX0_hasBoth_0 : decode cX0_hasBoth 0 = .ok (.aload_n 0, 1) := by decide +kernel
theorem dX0_hasBoth_1 : decode cX0_hasBoth 1 = .ok (.iload_n 1, 1) := by decide +kernel
theorem dX0_hasBoth_2 : decode cX0_hasBoth 2 = .ok (.invokevirtual 58, 3) := by decide +kernel
theorem dX0_hasBoth_5 : decode cX0_hasBoth 5 = .ok (.ifCond .eq 15, 3) := by decide +kernel
theorem dX0_hasBoth_8 : decode cX0_hasBoth 8 = .ok (.aload_n 0, 1) := by decide +kernel
theorem dX0_hasBoth_9 : decode cX0_hasBoth 9 = .ok (.iload_n 2, 1) := by decide +kernel
theorem dX0_hasBoth_10 : decode cX0_hasBoth 10 = .ok (.invokevirtual 62, 3) := by decide +kernel
theorem dX0_hasBoth_13 : decode cX0_hasBoth 13 = .ok (.ifCond .eq 7, 3) := by decide +kernel
theorem dX0_hasBoth_16 : decode cX0_hasBoth 16 = .ok (.iconst 1, 1) := by decide +kernel
theorem dX0_hasBoth_17 : decode cX0_hasBoth 17 = .ok (.goto 4, 3) := by decide +kernel
theorem dX0_hasBoth_20 : decode cX0_hasBoth 20 = .ok (.iconst 0, 1) := by decide +kernel
theorem dX0_hasBoth_21 : decode cX0_hasBoth 21 = .ok (.ireturn, 1) := by decide +kernel
theorem dX0_addJudge_0 : decode cX0_addJudge 0 = .ok (.aload_n 0, 1) := by decide +kernel
theorem dX0_addJudge_1 : decode cX0_addJudge 1 = .ok (.getfield 48, 3) := by decide +kernel
theorem dX0_addJudge_4 : decode cX0_addJudge 4 = .ok (.iconst 4, 1) := by decide +kernel
theorem dX0_addJudge_5 : decode cX0_addJudge 5 = .ok (.if_icmp .lt 6, 3) := by decide +kernel
theorem dX0_addJudge_11 : decode cX0_addJudge 11 = .ok (.aload_n 0, 1) := by decide +kernel
theorem dX0_addJudge_12 : decode cX0_addJudge 12 = .ok (.getfield 48, 3) := by decide +kernel
theorem dX0_addJudge_15 : decode cX0_addJudge 15 = .ok (.istore_n 2, 1) := by decide +kernel
theorem dX0_addJudge_16 : decode cX0_addJudge 16 = .ok (.aload_n 0, 1) := by decide +kernel
theorem dX0_addJudge_17 : decode cX0_addJudge 17 = .ok (.getfield 17, 3) := by decide +kernel
theorem dX0_addJudge_20 : decode cX0_addJudge 20 = .ok (.iload_n 2, 1) := by decide +kernel
theorem dX0_addJudge_21 : decode cX0_addJudge 21 = .ok (.iload_n 1, 1) := by decide +kernel
theorem dX0_addJudge_22 : decode cX0_addJudge 22 = .ok (.iastore, 1) := by decide +kernel
theorem dX0_addJudge_23 : decode cX0_addJudge 23 = .ok (.aload_n 0, 1) := by decide +kernel
theorem dX0_addJudge_24 : decode cX0_addJudge 24 = .ok (.getfield 20, 3) := by decide +kernel
theorem dX0_addJudge_27 : decode cX0_addJudge 27 = .ok (.iload_n 2, 1) := by decide +kernel
theorem dX0_addJudge_28 : decode cX0_addJudge 28 = .ok (.iconst 0, 1) := by decide +kernel
theorem dX0_addJudge_29 : decode cX0_addJudge 29 = .ok (.iastore, 1) := by decide +kernel
theorem dX0_addJudge_30 : decode cX0_addJudge 30 = .ok (.aload_n 0, 1) := by decide +kernel
theorem dX0_addJudge_31 : decode cX0_addJudge 31 = .ok (.getfield 23, 3) := by decide +kernel
theorem dX0_addJudge_34 : decode cX0_addJudge 34 = .ok (.iload_n 2, 1) := by decide +kernel
theorem dX0_addJudge_35 : decode cX0_addJudge 35 = .ok (.iconst 0, 1) := by decide +kernel
theorem dX0_addJudge_36 : decode cX0_addJudge 36 = .ok (.iastore, 1) := by decide +kernel
theorem dX0_addJudge_37 : decode cX0_addJudge 37 = .ok (.aload_n 0, 1) := by decide +kernel
theorem dX0_addJudge_38 : decode cX0_addJudge 38 = .ok (.dup, 1) := by decide +kernel
theorem dX0_addJudge_39 : decode cX0_addJudge 39 = .ok (.getfield 48, 3) := by decide +kernel
theorem dX0_addJudge_42 : decode cX0_addJudge 42 = .ok (.iconst 1, 1) := by decide +kernel
theorem dX0_addJudge_43 : decode cX0_addJudge 43 = .ok (.iadd, 1) := by decide +kernel
theorem dX0_addJudge_44 : decode cX0_addJudge 44 = .ok (.putfield 48, 3) := by decide +kernel
theorem dX0_addJudge_47 : decode cX0_addJudge 47 = .ok (.iload_n 2, 1) := by decide +kernel
theorem dX0_addJudge_48 : decode cX0_addJudge 48 = .ok (.ireturn, 1) := by decide +kernel
theorem dX0_addPebble_0 : decode cX0_addPebble 0 = .ok (.aload_n 0, 1) := by decide +kernel
theorem dX0_addPebble_1 : decode cX0_addPebble 1 = .ok (.getfield 52, 3) := by decide +kernel
theorem dX0_addPebble_4 : decode cX0_addPebble 4 = .ok (.bipush 6, 2) := by decide +kernel
theorem dX0_addPebble_6 : decode cX0_addPebble 6 = .ok (.if_icmp .lt 6, 3) := by decide +kernel
theorem dX0_addPebble_12 : decode cX0_addPebble 12 = .ok (.aload_n 0, 1) := by decide +kernel
theorem dX0_addPebble_13 : decode cX0_addPebble 13 = .ok (.getfield 52, 3) := by decide +kernel
theorem dX0_addPebble_16 : decode cX0_addPebble 16 = .ok (.istore_n 3, 1) := by decide +kernel
theorem dX0_addPebble_17 : decode cX0_addPebble 17 = .ok (.aload_n 0, 1) := by decide +kernel
theorem dX0_addPebble_18 : decode cX0_addPebble 18 = .ok (.getfield 26, 3) := by decide +kernel
theorem dX0_addPebble_21 : decode cX0_addPebble 21 = .ok (.iload_n 3, 1) := by decide +kernel
theorem dX0_addPebble_22 : decode cX0_addPebble 22 = .ok (.iload_n 1, 1) := by decide +kernel
theorem dX0_addPebble_23 : decode cX0_addPebble 23 = .ok (.bipush 10, 2) := by decide +kernel
theorem dX0_addPebble_25 : decode cX0_addPebble 25 = .ok (.idiv, 1) := by decide +kernel
theorem dX0_addPebble_26 : decode cX0_addPebble 26 = .ok (.iastore, 1) := by decide +kernel
theorem dX0_addPebble_27 : decode cX0_addPebble 27 = .ok (.aload_n 0, 1) := by decide +kernel
theorem dX0_addPebble_28 : decode cX0_addPebble 28 = .ok (.getfield 29, 3) := by decide +kernel
theorem dX0_addPebble_31 : decode cX0_addPebble 31 = .ok (.iload_n 3, 1) := by decide +kernel
theorem dX0_addPebble_32 : decode cX0_addPebble 32 = .ok (.iload_n 1, 1) := by decide +kernel
theorem dX0_addPebble_33 : decode cX0_addPebble 33 = .ok (.bipush 10, 2) := by decide +kernel
theorem dX0_addPebble_35 : decode cX0_addPebble 35 = .ok (.irem, 1) := by decide +kernel
theorem dX0_addPebble_36 : decode cX0_addPebble 36 = .ok (.iastore, 1) := by decide +kernel
theorem dX0_addPebble_37 : decode cX0_addPebble 37 = .ok (.aload_n 0, 1) := by decide +kernel
theorem dX0_addPebble_38 : decode cX0_addPebble 38 = .ok (.getfield 32, 3) := by decide +kernel
theorem dX0_addPebble_41 : decode cX0_addPebble 41 = .ok (.iload_n 3, 1) := by decide +kernel
theorem dX0_addPebble_42 : decode cX0_addPebble 42 = .ok (.iload_n 2, 1) := by decide +kernel
theorem dX0_addPebble_43 : decode cX0_addPebble 43 = .ok (.bipush 100, 2) := by decide +kernel
theorem dX0_addPebble_45 : decode cX0_addPebble 45 = .ok (.idiv, 1) := by decide +kernel
theorem dX0_addPebble_46 : decode cX0_addPebble 46 = .ok (.iastore, 1) := by decide +kernel
theorem dX0_addPebble_47 : decode cX0_addPebble 47 = .ok (.aload_n 0, 1) := by decide +kernel
theorem dX0_addPebble_48 : decode cX0_addPebble 48 = .ok (.getfield 35, 3) := by decide +kernel
theorem dX0_addPebble_51 : decode cX0_addPebble 51 = .ok (.iload_n 3, 1) := by decide +kernel
theorem dX0_addPebble_52 : decode cX0_addPebble 52 = .ok (.iload_n 2, 1) := by decide +kernel
theorem dX0_addPebble_53 : decode cX0_addPebble 53 = .ok (.bipush 100, 2) := by decide +kernel
theorem dX0_addPebble_55 : decode cX0_addPebble 55 = .ok (.irem, 1) := by decide +kernel
theorem dX0_addPebble_56 : decode cX0_addPebble 56 = .ok (.iastore, 1) := by decide +kernel
theorem dX0_addPebble_57 : decode cX0_addPebble 57 = .ok (.aload_n 0, 1) := by decide +kernel
theorem dX0_addPebble_58 : decode cX0_addPebble 58 = .ok (.dup, 1) := by decide +kernel
theorem dX0_addPebble_59 : decode cX0_addPebble 59 = .ok (.getfield 52, 3) := by decide +kernel
theorem dX0_addPebble_62 : decode cX0_addPebble 62 = .ok (.iconst 1, 1) := by decide +kernel
theorem dX0_addPebble_63 : decode cX0_addPebble 63 = .ok (.iadd, 1) := by decide +kernel
theorem dX0_addPebble_64 : decode cX0_addPebble 64 = .ok (.putfield 52, 3) := by decide +kernel
theorem dX0_addPebble_67 : decode cX0_addPebble 67 = .ok (.iload_n 3, 1) := by decide +kernel
theorem dX0_addPebble_68 : decode cX0_addPebble 68 = .ok (.ireturn, 1) := by decide +kernel
theorem dX1_init_0 : decode cX1_init 0 = .ok (.aload_n 0, 1) := by decide +kernel
theorem dX1_init_1 : decode cX1_init 1 = .ok (.invokespecial 3, 3) := by decide +kernel
theorem dX1_init_4 : decode cX1_init 4 = .ok (.aload_n 0, 1) := by decide +kernel
theorem dX1_init_5 : decode cX1_init 5 = .ok (.sipush 160, 3) := by decide +kernel
theorem dX1_init_8 : decode cX1_init 8 = .ok (.newarray .int, 2) := by decide +kernel
theorem dX1_init_10 : decode cX1_init 10 = .ok (.putfield 9, 3) := by decide +kernel
theorem dX1_init_13 : decode cX1_init 13 = .ok (.aload_n 0, 1) := by decide +kernel
theorem dX1_init_14 : decode cX1_init 14 = .ok (.aload_n 1, 1) := by decide +kernel
theorem dX1_init_15 : decode cX1_init 15 = .ok (.putfield 15, 3) := by decide +kernel
theorem dX1_init_18 : decode cX1_init 18 = .ok (.return_, 1) := by decide +kernel
theorem dX1_add_0 : decode cX1_add 0 = .ok (.aload_n 0, 1) := by decide +kernel
theorem dX1_add_1 : decode cX1_add 1 = .ok (.getfield 19, 3) := by decide +kernel
theorem dX1_add_4 : decode cX1_add 4 = .ok (.sipush 160, 3) := by decide +kernel
theorem dX1_add_7 : decode cX1_add 7 = .ok (.if_icmp .ge 23, 3) := by decide +kernel
theorem dX1_add_10 : decode cX1_add 10 = .ok (.aload_n 0, 1) := by decide +kernel
theorem dX1_add_11 : decode cX1_add 11 = .ok (.getfield 9, 3) := by decide +kernel
theorem dX1_add_14 : decode cX1_add 14 = .ok (.aload_n 0, 1) := by decide +kernel
theorem dX1_add_15 : decode cX1_add 15 = .ok (.getfield 19, 3) := by decide +kernel
theorem dX1_add_18 : decode cX1_add 18 = .ok (.iload_n 1, 1) := by decide +kernel
theorem dX1_add_19 : decode cX1_add 19 = .ok (.iastore, 1) := by decide +kernel
theorem dX1_add_20 : decode cX1_add 20 = .ok (.aload_n 0, 1) := by decide +kernel
theorem dX1_add_21 : decode cX1_add 21 = .ok (.dup, 1) := by decide +kernel
theorem dX1_add_22 : decode cX1_add 22 = .ok (.getfield 19, 3) := by decide +kernel
theorem dX1_add_25 : decode cX1_add 25 = .ok (.iconst 1, 1) := by decide +kernel
theorem dX1_add_26 : decode cX1_add 26 = .ok (.iadd, 1) := by decide +kernel
theorem dX1_add_27 : decode cX1_add 27 = .ok (.putfield 19, 3) := by decide +kernel
theorem dX1_add_30 : decode cX1_add 30 = .ok (.return_, 1) := by decide +kernel
theorem dX1_read_0 : decode cX1_read 0 = .ok (.aload_n 0, 1) := by decide +kernel
theorem dX1_read_1 : decode cX1_read 1 = .ok (.iconst 0, 1) := by decide +kernel
theorem dX1_read_2 : decode cX1_read 2 = .ok (.putfield 23, 3) := by decide +kernel
theorem dX1_read_5 : decode cX1_read 5 = .ok (.aload_n 0, 1) := by decide +kernel
theorem dX1_read_6 : decode cX1_read 6 = .ok (.getfield 15, 3) := by decide +kernel
theorem dX1_read_9 : decode cX1_read 9 = .ok (.invokevirtual 26, 3) := by decide +kernel
theorem dX1_read_12 : decode cX1_read 12 = .ok (.aload_n 0, 1) := by decide +kernel
theorem dX1_read_13 : decode cX1_read 13 = .ok (.invokevirtual 31, 3) := by decide +kernel
theorem dX1_read_16 : decode cX1_read 16 = .ok (.istore_n 1, 1) := by decide +kernel
theorem dX1_read_17 : decode cX1_read 17 = .ok (.aload_n 0, 1) := by decide +kernel
theorem dX1_read_18 : decode cX1_read 18 = .ok (.iconst 0, 1) := by decide +kernel
theorem dX1_read_19 : decode cX1_read 19 = .ok (.putfield 19, 3) := by decide +kernel
theorem dX1_read_22 : decode cX1_read 22 = .ok (.iload_n 1, 1) := by decide +kernel
theorem dX1_read_23 : decode cX1_read 23 = .ok (.ifCond .eq 13, 3) := by decide +kernel
theorem dX1_read_26 : decode cX1_read 26 = .ok (.aload_n 0, 1) := by decide +kernel
theorem dX1_read_27 : decode cX1_read 27 = .ok (.getfield 15, 3) := by decide +kernel
theorem dX1_read_30 : decode cX1_read 30 = .ok (.invokevirtual 35, 3) := by decide +kernel
theorem dX1_read_33 : decode cX1_read 33 = .ok (.goto 10, 3) := by decide +kernel
theorem dX1_read_36 : decode cX1_read 36 = .ok (.bipush (-100), 2) := by decide +kernel
theorem dX1_read_38 : decode cX1_read 38 = .ok (.aload_n 0, 1) := by decide +kernel
theorem dX1_read_39 : decode cX1_read 39 = .ok (.getfield 39, 3) := by decide +kernel
theorem dX1_read_42 : decode cX1_read 42 = .ok (.isub, 1) := by decide +kernel
theorem dX1_read_43 : decode cX1_read 43 = .ok (.ireturn, 1) := by decide +kernel
theorem dX1_readParts_0 : decode cX1_readParts 0 = .ok (.aload_n 0, 1) := by decide +kernel
theorem dX1_readParts_1 : decode cX1_readParts 1 = .ok (.invokevirtual 42, 3) := by decide +kernel
theorem dX1_readParts_4 : decode cX1_readParts 4 = .ok (.iconst 0, 1) := by decide +kernel
theorem dX1_readParts_5 : decode cX1_readParts 5 = .ok (.istore_n 1, 1) := by decide +kernel
theorem dX1_readParts_6 : decode cX1_readParts 6 = .ok (.iload_n 1, 1) := by decide +kernel
theorem dX1_readParts_7 : decode cX1_readParts 7 = .ok (.iconst 2, 1) := by decide +kernel
theorem dX1_readParts_8 : decode cX1_readParts 8 = .ok (.if_icmp .gt 57, 3) := by decide +kernel
theorem dX1_readParts_11 : decode cX1_readParts 11 = .ok (.aload_n 0, 1) := by decide +kernel
theorem dX1_readParts_12 : decode cX1_readParts 12 = .ok (.getfield 45, 3) := by decide +kernel
theorem dX1_readParts_15 : decode cX1_readParts 15 = .ok (.bipush 100, 2) := by decide +kernel
theorem dX1_readParts_17 : decode cX1_readParts 17 = .ok (.iload_n 1, 1) := by decide +kernel
theorem dX1_readParts_18 : decode cX1_readParts 18 = .ok (.iadd, 1) := by decide +kernel
theorem dX1_readParts_19 : decode cX1_readParts 19 = .ok (.if_icmp .eq 5, 3) := by decide +kernel
theorem dX1_readParts_22 : decode cX1_readParts 22 = .ok (.iconst 0, 1) := by decide +kernel
theorem dX1_readParts_23 : decode cX1_readParts 23 = .ok (.ireturn, 1) := by decide +kernel
theorem dX1_readParts_24 : decode cX1_readParts 24 = .ok (.aload_n 0, 1) := by decide +kernel
theorem dX1_readParts_25 : decode cX1_readParts 25 = .ok (.invokevirtual 42, 3) := by decide +kernel
theorem dX1_readParts_28 : decode cX1_readParts 28 = .ok (.aload_n 0, 1) := by decide +kernel
theorem dX1_readParts_29 : decode cX1_readParts 29 = .ok (.iconst 0, 1) := by decide +kernel
theorem dX1_readParts_30 : decode cX1_readParts 30 = .ok (.invokevirtual 48, 3) := by decide +kernel
theorem dX1_readParts_33 : decode cX1_readParts 33 = .ok (.ifCond .eq 12, 3) := by decide +kernel
theorem dX1_readParts_36 : decode cX1_readParts 36 = .ok (.aload_n 0, 1) := by decide +kernel
theorem dX1_readParts_37 : decode cX1_readParts 37 = .ok (.getfield 45, 3) := by decide +kernel
theorem dX1_readParts_40 : decode cX1_readParts 40 = .ok (.bipush 59, 2) := by decide +kernel
theorem dX1_readParts_42 : decode cX1_readParts 42 = .ok (.if_icmp .eq 5, 3) := by decide +kernel
theorem dX1_readParts_47 : decode cX1_readParts 47 = .ok (.aload_n 0, 1) := by decide +kernel
theorem dX1_readParts_48 : decode cX1_readParts 48 = .ok (.getfield 15, 3) := by decide +kernel
theorem dX1_readParts_51 : decode cX1_readParts 51 = .ok (.iload_n 1, 1) := by decide +kernel
theorem dX1_readParts_52 : decode cX1_readParts 52 = .ok (.invokevirtual 52, 3) := by decide +kernel
theorem dX1_readParts_55 : decode cX1_readParts 55 = .ok (.aload_n 0, 1) := by decide +kernel
theorem dX1_readParts_56 : decode cX1_readParts 56 = .ok (.invokevirtual 42, 3) := by decide +kernel
theorem dX1_readParts_59 : decode cX1_readParts 59 = .ok (.iinc 1 1, 3) := by decide +kernel
theorem dX1_readParts_62 : decode cX1_readParts 62 = .ok (.goto (-56), 3) := by decide +kernel
theorem dX1_readParts_65 : decode cX1_readParts 65 = .ok (.aload_n 0, 1) := by decide +kernel
theorem dX1_readParts_66 : decode cX1_readParts 66 = .ok (.getfield 45, 3) := by decide +kernel
theorem dX1_readParts_69 : decode cX1_readParts 69 = .ok (.ifCond .ne 7, 3) := by decide +kernel
theorem dX1_readParts_72 : decode cX1_readParts 72 = .ok (.iconst 1, 1) := by decide +kernel
theorem dX1_readParts_73 : decode cX1_readParts 73 = .ok (.goto 4, 3) := by decide +kernel
theorem dX1_readParts_77 : decode cX1_readParts 77 = .ok (.ireturn, 1) := by decide +kernel
theorem dX1_readOr_0 : decode cX1_readOr 0 = .ok (.aload_n 0, 1) := by decide +kernel
theorem dX1_readOr_1 : decode cX1_readOr 1 = .ok (.iload_n 1, 1) := by decide +kernel
theorem dX1_readOr_2 : decode cX1_readOr 2 = .ok (.invokevirtual 56, 3) := by decide +kernel
theorem dX1_readOr_5 : decode cX1_readOr 5 = .ok (.ifCond .ne 5, 3) := by decide +kernel
theorem dX1_readOr_10 : decode cX1_readOr 10 = .ok (.iconst 0, 1) := by decide +kernel
theorem dX1_readOr_11 : decode cX1_readOr 11 = .ok (.istore_n 2, 1) := by decide +kernel
theorem dX1_readOr_12 : decode cX1_readOr 12 = .ok (.iload_n 2, 1) := by decide +kernel
theorem dX1_readOr_13 : decode cX1_readOr 13 = .ok (.sipush 160, 3) := by decide +kernel
theorem dX1_readOr_16 : decode cX1_readOr 16 = .ok (.if_icmp .ge 42, 3) := by decide +kernel
theorem dX1_readOr_19 : decode cX1_readOr 19 = .ok (.aload_n 0, 1) := by decide +kernel
theorem dX1_readOr_20 : decode cX1_readOr 20 = .ok (.getfield 45, 3) := by decide +kernel
theorem dX1_readOr_23 : decode cX1_readOr 23 = .ok (.bipush 103, 2) := by decide +kernel
theorem dX1_readOr_25 : decode cX1_readOr 25 = .ok (.if_icmp .ne 33, 3) := by decide +kernel
theorem dX1_readOr_58 : decode cX1_readOr 58 = .ok (.iconst 1, 1) := by decide +kernel
theorem dX1_readOr_59 : decode cX1_readOr 59 = .ok (.ireturn, 1) := by decide +kernel
theorem dX1_readAnd_0 : decode cX1_readAnd 0 = .ok (.aload_n 0, 1) := by decide +kernel
theorem dX1_readAnd_1 : decode cX1_readAnd 1 = .ok (.iload_n 1, 1) := by decide +kernel
theorem dX1_readAnd_2 : decode cX1_readAnd 2 = .ok (.invokevirtual 62, 3) := by decide +kernel
theorem dX1_readAnd_5 : decode cX1_readAnd 5 = .ok (.ifCond .ne 5, 3) := by decide +kernel
theorem dX1_readAnd_10 : decode cX1_readAnd 10 = .ok (.iconst 0, 1) := by decide +kernel
theorem dX1_readAnd_11 : decode cX1_readAnd 11 = .ok (.istore_n 2, 1) := by decide +kernel
theorem dX1_readAnd_12 : decode cX1_readAnd 12 = .ok (.iload_n 2, 1) := by decide +kernel
theorem dX1_readAnd_13 : decode cX1_readAnd 13 = .ok (.sipush 160, 3) := by decide +kernel
theorem dX1_readAnd_16 : decode cX1_readAnd 16 = .ok (.if_icmp .ge 42, 3) := by decide +kernel
theorem dX1_readAnd_19 : decode cX1_readAnd 19 = .ok (.aload_n 0, 1) := by decide +kernel
theorem dX1_readAnd_20 : decode cX1_readAnd 20 = .ok (.getfield 45, 3) := by decide +kernel
theorem dX1_readAnd_23 : decode cX1_readAnd 23 = .ok (.bipush 104, 2) := by decide +kernel
theorem dX1_readAnd_25 : decode cX1_readAnd 25 = .ok (.if_icmp .ne 33, 3) := by decide +kernel
theorem dX1_readAnd_58 : decode cX1_readAnd 58 = .ok (.iconst 1, 1) := by decide +kernel
theorem dX1_readAnd_59 : decode cX1_readAnd 59 = .ok (.ireturn, 1) := by decide +kernel
theorem dX1_readNot_0 : decode cX1_readNot 0 = .ok (.aload_n 0, 1) := by decide +kernel
theorem dX1_readNot_1 : decode cX1_readNot 1 = .ok (.getfield 45, 3) := by decide +kernel
theorem dX1_readNot_4 : decode cX1_readNot 4 = .ok (.bipush 105, 2) := by decide +kernel
theorem dX1_readNot_6 : decode cX1_readNot 6 = .ok (.if_icmp .ne 38, 3) := by decide +kernel
theorem dX1_readNot_44 : decode cX1_readNot 44 = .ok (.aload_n 0, 1) := by decide +kernel
theorem dX1_readNot_45 : decode cX1_readNot 45 = .ok (.iload_n 1, 1) := by decide +kernel
theorem dX1_readNot_46 : decode cX1_readNot 46 = .ok (.invokevirtual 65, 3) := by decide +kernel
theorem dX1_readNot_49 : decode cX1_readNot 49 = .ok (.ifCond .ne 5, 3) := by decide +kernel
theorem dX1_readNot_54 : decode cX1_readNot 54 = .ok (.aload_n 0, 1) := by decide +kernel
theorem dX1_readNot_55 : decode cX1_readNot 55 = .ok (.getfield 45, 3) := by decide +kernel
theorem dX1_readNot_58 : decode cX1_readNot 58 = .ok (.bipush 60, 2) := by decide +kernel
theorem dX1_readNot_60 : decode cX1_readNot 60 = .ok (.if_icmp .eq 14, 3) := by decide +kernel
theorem dX1_readNot_63 : decode cX1_readNot 63 = .ok (.aload_n 0, 1) := by decide +kernel
theorem dX1_readNot_64 : decode cX1_readNot 64 = .ok (.getfield 45, 3) := by decide +kernel
theorem dX1_readNot_67 : decode cX1_readNot 67 = .ok (.bipush 61, 2) := by decide +kernel
theorem dX1_readNot_69 : decode cX1_readNot 69 = .ok (.if_icmp .eq 5, 3) := by decide +kernel
theorem dX1_readNot_72 : decode cX1_readNot 72 = .ok (.iconst 1, 1) := by decide +kernel
theorem dX1_readNot_73 : decode cX1_readNot 73 = .ok (.ireturn, 1) := by decide +kernel
theorem dX1_readSum_0 : decode cX1_readSum 0 = .ok (.aload_n 0, 1) := by decide +kernel
theorem dX1_readSum_1 : decode cX1_readSum 1 = .ok (.iload_n 1, 1) := by decide +kernel
theorem dX1_readSum_2 : decode cX1_readSum 2 = .ok (.invokevirtual 68, 3) := by decide +kernel
theorem dX1_readSum_5 : decode cX1_readSum 5 = .ok (.ifCond .ne 5, 3) := by decide +kernel
theorem dX1_readSum_10 : decode cX1_readSum 10 = .ok (.iconst 0, 1) := by decide +kernel
theorem dX1_readSum_11 : decode cX1_readSum 11 = .ok (.istore_n 2, 1) := by decide +kernel
theorem dX1_readSum_12 : decode cX1_readSum 12 = .ok (.iload_n 2, 1) := by decide +kernel
theorem dX1_readSum_13 : decode cX1_readSum 13 = .ok (.sipush 160, 3) := by decide +kernel
theorem dX1_readSum_16 : decode cX1_readSum 16 = .ok (.if_icmp .ge 58, 3) := by decide +kernel
theorem dX1_readSum_19 : decode cX1_readSum 19 = .ok (.aload_n 0, 1) := by decide +kernel
theorem dX1_readSum_20 : decode cX1_readSum 20 = .ok (.getfield 45, 3) := by decide +kernel
theorem dX1_readSum_23 : decode cX1_readSum 23 = .ok (.bipush 43, 2) := by decide +kernel
theorem dX1_readSum_25 : decode cX1_readSum 25 = .ok (.if_icmp .eq 12, 3) := by decide +kernel
theorem dX1_readSum_28 : decode cX1_readSum 28 = .ok (.aload_n 0, 1) := by decide +kernel
theorem dX1_readSum_29 : decode cX1_readSum 29 = .ok (.getfield 45, 3) := by decide +kernel
theorem dX1_readSum_32 : decode cX1_readSum 32 = .ok (.bipush 45, 2) := by decide +kernel
theorem dX1_readSum_34 : decode cX1_readSum 34 = .ok (.if_icmp .ne 40, 3) := by decide +kernel
theorem dX1_readSum_37 : decode cX1_readSum 37 = .ok (.aload_n 0, 1) := by decide +kernel
theorem dX1_readSum_38 : decode cX1_readSum 38 = .ok (.getfield 45, 3) := by decide +kernel
theorem dX1_readSum_41 : decode cX1_readSum 41 = .ok (.istore_n 3, 1) := by decide +kernel
theorem dX1_readSum_42 : decode cX1_readSum 42 = .ok (.aload_n 0, 1) := by decide +kernel
theorem dX1_readSum_43 : decode cX1_readSum 43 = .ok (.invokevirtual 42, 3) := by decide +kernel
theorem dX1_readSum_46 : decode cX1_readSum 46 = .ok (.aload_n 0, 1) := by decide +kernel
theorem dX1_readSum_47 : decode cX1_readSum 47 = .ok (.iload_n 1, 1) := by decide +kernel
theorem dX1_readSum_48 : decode cX1_readSum 48 = .ok (.invokevirtual 68, 3) := by decide +kernel
theorem dX1_readSum_51 : decode cX1_readSum 51 = .ok (.ifCond .ne 5, 3) := by decide +kernel
theorem dX1_readSum_56 : decode cX1_readSum 56 = .ok (.aload_n 0, 1) := by decide +kernel
theorem dX1_readSum_57 : decode cX1_readSum 57 = .ok (.getfield 15, 3) := by decide +kernel
theorem dX1_readSum_60 : decode cX1_readSum 60 = .ok (.sipush 20000, 3) := by decide +kernel
theorem dX1_readSum_63 : decode cX1_readSum 63 = .ok (.iload_n 3, 1) := by decide +kernel
theorem dX1_readSum_64 : decode cX1_readSum 64 = .ok (.iadd, 1) := by decide +kernel
theorem dX1_readSum_65 : decode cX1_readSum 65 = .ok (.invokevirtual 59, 3) := by decide +kernel
theorem dX1_readSum_68 : decode cX1_readSum 68 = .ok (.iinc 2 1, 3) := by decide +kernel
theorem dX1_readSum_71 : decode cX1_readSum 71 = .ok (.goto (-59), 3) := by decide +kernel
theorem dX1_readSum_74 : decode cX1_readSum 74 = .ok (.iconst 1, 1) := by decide +kernel
theorem dX1_readSum_75 : decode cX1_readSum 75 = .ok (.ireturn, 1) := by decide +kernel
theorem dX1_readTerm_0 : decode cX1_readTerm 0 = .ok (.aload_n 0, 1) := by decide +kernel
theorem dX1_readTerm_1 : decode cX1_readTerm 1 = .ok (.iload_n 1, 1) := by decide +kernel
theorem dX1_readTerm_2 : decode cX1_readTerm 2 = .ok (.invokevirtual 71, 3) := by decide +kernel
theorem dX1_readTerm_5 : decode cX1_readTerm 5 = .ok (.ifCond .ne 5, 3) := by decide +kernel
theorem dX1_readTerm_10 : decode cX1_readTerm 10 = .ok (.iconst 0, 1) := by decide +kernel
theorem dX1_readTerm_11 : decode cX1_readTerm 11 = .ok (.istore_n 2, 1) := by decide +kernel
theorem dX1_readTerm_12 : decode cX1_readTerm 12 = .ok (.iload_n 2, 1) := by decide +kernel
theorem dX1_readTerm_13 : decode cX1_readTerm 13 = .ok (.sipush 160, 3) := by decide +kernel
theorem dX1_readTerm_16 : decode cX1_readTerm 16 = .ok (.if_icmp .ge 42, 3) := by decide +kernel
theorem dX1_readTerm_19 : decode cX1_readTerm 19 = .ok (.aload_n 0, 1) := by decide +kernel
theorem dX1_readTerm_20 : decode cX1_readTerm 20 = .ok (.getfield 45, 3) := by decide +kernel
theorem dX1_readTerm_23 : decode cX1_readTerm 23 = .ok (.bipush 42, 2) := by decide +kernel
theorem dX1_readTerm_25 : decode cX1_readTerm 25 = .ok (.if_icmp .ne 33, 3) := by decide +kernel
theorem dX1_readTerm_58 : decode cX1_readTerm 58 = .ok (.iconst 1, 1) := by decide +kernel
theorem dX1_readTerm_59 : decode cX1_readTerm 59 = .ok (.ireturn, 1) := by decide +kernel
theorem dX1_readOne_0 : decode cX1_readOne 0 = .ok (.aload_n 0, 1) := by decide +kernel
theorem dX1_readOne_1 : decode cX1_readOne 1 = .ok (.getfield 45, 3) := by decide +kernel
theorem dX1_readOne_4 : decode cX1_readOne 4 = .ok (.iconst 2, 1) := by decide +kernel
theorem dX1_readOne_5 : decode cX1_readOne 5 = .ok (.if_icmp .eq 11, 3) := by decide +kernel
theorem dX1_readOne_8 : decode cX1_readOne 8 = .ok (.aload_n 0, 1) := by decide +kernel
theorem dX1_readOne_9 : decode cX1_readOne 9 = .ok (.getfield 45, 3) := by decide +kernel
theorem dX1_readOne_12 : decode cX1_readOne 12 = .ok (.iconst 3, 1) := by decide +kernel
theorem dX1_readOne_13 : decode cX1_readOne 13 = .ok (.if_icmp .ne 39, 3) := by decide +kernel
theorem dX1_readOne_16 : decode cX1_readOne 16 = .ok (.aload_n 0, 1) := by decide +kernel
theorem dX1_readOne_17 : decode cX1_readOne 17 = .ok (.getfield 15, 3) := by decide +kernel
theorem dX1_readOne_20 : decode cX1_readOne 20 = .ok (.aload_n 0, 1) := by decide +kernel
theorem dX1_readOne_21 : decode cX1_readOne 21 = .ok (.getfield 45, 3) := by decide +kernel
theorem dX1_readOne_24 : decode cX1_readOne 24 = .ok (.iconst 2, 1) := by decide +kernel
theorem dX1_readOne_25 : decode cX1_readOne 25 = .ok (.if_icmp .ne 10, 3) := by decide +kernel
theorem dX1_readOne_28 : decode cX1_readOne 28 = .ok (.aload_n 0, 1) := by decide +kernel
theorem dX1_readOne_29 : decode cX1_readOne 29 = .ok (.getfield 74, 3) := by decide +kernel
theorem dX1_readOne_32 : decode cX1_readOne 32 = .ok (.goto 11, 3) := by decide +kernel
theorem dX1_readOne_35 : decode cX1_readOne 35 = .ok (.sipush 10000, 3) := by decide +kernel
theorem dX1_readOne_38 : decode cX1_readOne 38 = .ok (.aload_n 0, 1) := by decide +kernel
theorem dX1_readOne_39 : decode cX1_readOne 39 = .ok (.getfield 74, 3) := by decide +kernel
theorem dX1_readOne_42 : decode cX1_readOne 42 = .ok (.iadd, 1) := by decide +kernel
theorem dX1_readOne_43 : decode cX1_readOne 43 = .ok (.invokevirtual 59, 3) := by decide +kernel
theorem dX1_readOne_46 : decode cX1_readOne 46 = .ok (.aload_n 0, 1) := by decide +kernel
theorem dX1_readOne_47 : decode cX1_readOne 47 = .ok (.invokevirtual 42, 3) := by decide +kernel
theorem dX1_readOne_50 : decode cX1_readOne 50 = .ok (.iconst 1, 1) := by decide +kernel
theorem dX1_readOne_51 : decode cX1_readOne 51 = .ok (.ireturn, 1) := by decide +kernel
theorem dX1_next_0 : decode cX1_next 0 = .ok (.aload_n 0, 1) := by decide +kernel
theorem dX1_next_1 : decode cX1_next 1 = .ok (.getfield 23, 3) := by decide +kernel
theorem dX1_next_4 : decode cX1_next 4 = .ok (.aload_n 0, 1) := by decide +kernel
theorem dX1_next_5 : decode cX1_next 5 = .ok (.getfield 19, 3) := by decide +kernel
theorem dX1_next_8 : decode cX1_next 8 = .ok (.if_icmp .ge 44, 3) := by decide +kernel
theorem dX1_next_11 : decode cX1_next 11 = .ok (.aload_n 0, 1) := by decide +kernel
theorem dX1_next_12 : decode cX1_next 12 = .ok (.getfield 9, 3) := by decide +kernel
theorem dX1_next_15 : decode cX1_next 15 = .ok (.aload_n 0, 1) := by decide +kernel
theorem dX1_next_16 : decode cX1_next 16 = .ok (.getfield 23, 3) := by decide +kernel
theorem dX1_next_19 : decode cX1_next 19 = .ok (.iaload, 1) := by decide +kernel
theorem dX1_next_20 : decode cX1_next 20 = .ok (.bipush 32, 2) := by decide +kernel
theorem dX1_next_22 : decode cX1_next 22 = .ok (.if_icmp .eq 17, 3) := by decide +kernel
theorem dX1_next_25 : decode cX1_next 25 = .ok (.aload_n 0, 1) := by decide +kernel
theorem dX1_next_26 : decode cX1_next 26 = .ok (.getfield 9, 3) := by decide +kernel
theorem dX1_next_29 : decode cX1_next 29 = .ok (.aload_n 0, 1) := by decide +kernel
theorem dX1_next_30 : decode cX1_next 30 = .ok (.getfield 23, 3) := by decide +kernel
theorem dX1_next_33 : decode cX1_next 33 = .ok (.iaload, 1) := by decide +kernel
theorem dX1_next_34 : decode cX1_next 34 = .ok (.bipush 10, 2) := by decide +kernel
theorem dX1_next_36 : decode cX1_next 36 = .ok (.if_icmp .ne 16, 3) := by decide +kernel
theorem dX1_next_39 : decode cX1_next 39 = .ok (.aload_n 0, 1) := by decide +kernel
theorem dX1_next_40 : decode cX1_next 40 = .ok (.dup, 1) := by decide +kernel
theorem dX1_next_41 : decode cX1_next 41 = .ok (.getfield 23, 3) := by decide +kernel
theorem dX1_next_44 : decode cX1_next 44 = .ok (.iconst 1, 1) := by decide +kernel
theorem dX1_next_45 : decode cX1_next 45 = .ok (.iadd, 1) := by decide +kernel
theorem dX1_next_46 : decode cX1_next 46 = .ok (.putfield 23, 3) := by decide +kernel
theorem dX1_next_49 : decode cX1_next 49 = .ok (.goto (-49), 3) := by decide +kernel
theorem dX1_next_52 : decode cX1_next 52 = .ok (.aload_n 0, 1) := by decide +kernel
theorem dX1_next_53 : decode cX1_next 53 = .ok (.aload_n 0, 1) := by decide +kernel
theorem dX1_next_54 : decode cX1_next 54 = .ok (.getfield 23, 3) := by decide +kernel
theorem dX1_next_57 : decode cX1_next 57 = .ok (.putfield 39, 3) := by decide +kernel
theorem dX1_next_60 : decode cX1_next 60 = .ok (.aload_n 0, 1) := by decide +kernel
theorem dX1_next_61 : decode cX1_next 61 = .ok (.getfield 23, 3) := by decide +kernel
theorem dX1_next_64 : decode cX1_next 64 = .ok (.aload_n 0, 1) := by decide +kernel
theorem dX1_next_65 : decode cX1_next 65 = .ok (.getfield 19, 3) := by decide +kernel
theorem dX1_next_68 : decode cX1_next 68 = .ok (.if_icmp .lt 11, 3) := by decide +kernel
theorem dX1_next_71 : decode cX1_next 71 = .ok (.aload_n 0, 1) := by decide +kernel
theorem dX1_next_72 : decode cX1_next 72 = .ok (.iconst 0, 1) := by decide +kernel
theorem dX1_next_73 : decode cX1_next 73 = .ok (.putfield 45, 3) := by decide +kernel
theorem dX1_next_76 : decode cX1_next 76 = .ok (.goto 84, 3) := by decide +kernel
theorem dX1_next_79 : decode cX1_next 79 = .ok (.aload_n 0, 1) := by decide +kernel
theorem dX1_next_80 : decode cX1_next 80 = .ok (.aload_n 0, 1) := by decide +kernel
theorem dX1_next_81 : decode cX1_next 81 = .ok (.getfield 23, 3) := by decide +kernel
theorem dX1_next_84 : decode cX1_next 84 = .ok (.invokevirtual 77, 3) := by decide +kernel
theorem dX1_next_87 : decode cX1_next 87 = .ok (.ifCond .eq 10, 3) := by decide +kernel
theorem dX1_next_90 : decode cX1_next 90 = .ok (.aload_n 0, 1) := by decide +kernel
theorem dX1_next_91 : decode cX1_next 91 = .ok (.invokevirtual 80, 3) := by decide +kernel
theorem dX1_next_94 : decode cX1_next 94 = .ok (.goto 66, 3) := by decide +kernel
theorem dX1_next_97 : decode cX1_next 97 = .ok (.aload_n 0, 1) := by decide +kernel
theorem dX1_next_98 : decode cX1_next 98 = .ok (.aload_n 0, 1) := by decide +kernel
theorem dX1_next_99 : decode cX1_next 99 = .ok (.getfield 23, 3) := by decide +kernel
theorem dX1_next_102 : decode cX1_next 102 = .ok (.invokevirtual 83, 3) := by decide +kernel
theorem dX1_next_105 : decode cX1_next 105 = .ok (.ifCond .eq 10, 3) := by decide +kernel
theorem dX1_next_108 : decode cX1_next 108 = .ok (.aload_n 0, 1) := by decide +kernel
theorem dX1_next_109 : decode cX1_next 109 = .ok (.invokevirtual 86, 3) := by decide +kernel
theorem dX1_next_112 : decode cX1_next 112 = .ok (.goto 48, 3) := by decide +kernel
theorem dX1_next_115 : decode cX1_next 115 = .ok (.aload_n 0, 1) := by decide +kernel
theorem dX1_next_116 : decode cX1_next 116 = .ok (.ldc 89, 2) := by decide +kernel
theorem dX1_next_118 : decode cX1_next 118 = .ok (.aload_n 0, 1) := by decide +kernel
theorem dX1_next_119 : decode cX1_next 119 = .ok (.getfield 9, 3) := by decide +kernel
theorem dX1_next_122 : decode cX1_next 122 = .ok (.aload_n 0, 1) := by decide +kernel
theorem dX1_next_123 : decode cX1_next 123 = .ok (.getfield 23, 3) := by decide +kernel
theorem dX1_next_126 : decode cX1_next 126 = .ok (.iaload, 1) := by decide +kernel
theorem dX1_next_127 : decode cX1_next 127 = .ok (.i2c, 1) := by decide +kernel
theorem dX1_next_128 : decode cX1_next 128 = .ok (.invokevirtual 91, 3) := by decide +kernel
theorem dX1_next_131 : decode cX1_next 131 = .ok (.ifCond .lt 15, 3) := by decide +kernel
theorem dX1_next_134 : decode cX1_next 134 = .ok (.aload_n 0, 1) := by decide +kernel
theorem dX1_next_135 : decode cX1_next 135 = .ok (.getfield 9, 3) := by decide +kernel
theorem dX1_next_138 : decode cX1_next 138 = .ok (.aload_n 0, 1) := by decide +kernel
theorem dX1_next_139 : decode cX1_next 139 = .ok (.getfield 23, 3) := by decide +kernel
theorem dX1_next_142 : decode cX1_next 142 = .ok (.iaload, 1) := by decide +kernel
theorem dX1_next_143 : decode cX1_next 143 = .ok (.goto 4, 3) := by decide +kernel
theorem dX1_next_146 : decode cX1_next 146 = .ok (.iconst 1, 1) := by decide +kernel
theorem dX1_next_147 : decode cX1_next 147 = .ok (.putfield 45, 3) := by decide +kernel
theorem dX1_next_150 : decode cX1_next 150 = .ok (.aload_n 0, 1) := by decide +kernel
theorem dX1_next_151 : decode cX1_next 151 = .ok (.dup, 1) := by decide +kernel
theorem dX1_next_152 : decode cX1_next 152 = .ok (.getfield 23, 3) := by decide +kernel
theorem dX1_next_155 : decode cX1_next 155 = .ok (.iconst 1, 1) := by decide +kernel
theorem dX1_next_156 : decode cX1_next 156 = .ok (.iadd, 1) := by decide +kernel
theorem dX1_next_157 : decode cX1_next 157 = .ok (.putfield 23, 3) := by decide +kernel
theorem dX1_next_160 : decode cX1_next 160 = .ok (.return_, 1) := by decide +kernel
theorem dX1_nextWord_0 : decode cX1_nextWord 0 = .ok (.aload_n 0, 1) := by decide +kernel
theorem dX1_nextWord_1 : decode cX1_nextWord 1 = .ok (.getfield 23, 3) := by decide +kernel
theorem dX1_nextWord_4 : decode cX1_nextWord 4 = .ok (.aload_n 0, 1) := by decide +kernel
theorem dX1_nextWord_5 : decode cX1_nextWord 5 = .ok (.getfield 19, 3) := by decide +kernel
theorem dX1_nextWord_8 : decode cX1_nextWord 8 = .ok (.if_icmp .ge 27, 3) := by decide +kernel
theorem dX1_nextWord_11 : decode cX1_nextWord 11 = .ok (.aload_n 0, 1) := by decide +kernel
theorem dX1_nextWord_12 : decode cX1_nextWord 12 = .ok (.aload_n 0, 1) := by decide +kernel
theorem dX1_nextWord_13 : decode cX1_nextWord 13 = .ok (.getfield 23, 3) := by decide +kernel
theorem dX1_nextWord_16 : decode cX1_nextWord 16 = .ok (.invokevirtual 77, 3) := by decide +kernel
theorem dX1_nextWord_19 : decode cX1_nextWord 19 = .ok (.ifCond .eq 16, 3) := by decide +kernel
theorem dX1_nextWord_22 : decode cX1_nextWord 22 = .ok (.aload_n 0, 1) := by decide +kernel
theorem dX1_nextWord_23 : decode cX1_nextWord 23 = .ok (.dup, 1) := by decide +kernel
theorem dX1_nextWord_24 : decode cX1_nextWord 24 = .ok (.getfield 23, 3) := by decide +kernel
theorem dX1_nextWord_27 : decode cX1_nextWord 27 = .ok (.iconst 1, 1) := by decide +kernel
theorem dX1_nextWord_28 : decode cX1_nextWord 28 = .ok (.iadd, 1) := by decide +kernel
theorem dX1_nextWord_29 : decode cX1_nextWord 29 = .ok (.putfield 23, 3) := by decide +kernel
theorem dX1_nextWord_32 : decode cX1_nextWord 32 = .ok (.goto (-32), 3) := by decide +kernel
theorem dX1_nextWord_35 : decode cX1_nextWord 35 = .ok (.aload_n 0, 1) := by decide +kernel
theorem dX1_nextWord_36 : decode cX1_nextWord 36 = .ok (.iconst 1, 1) := by decide +kernel
theorem dX1_nextWord_37 : decode cX1_nextWord 37 = .ok (.putfield 45, 3) := by decide +kernel
theorem dX1_nextWord_40 : decode cX1_nextWord 40 = .ok (.iconst 0, 1) := by decide +kernel
theorem dX1_nextWord_41 : decode cX1_nextWord 41 = .ok (.istore_n 1, 1) := by decide +kernel
theorem dX1_nextWord_42 : decode cX1_nextWord 42 = .ok (.iload_n 1, 1) := by decide +kernel
theorem dX1_nextWord_43 : decode cX1_nextWord 43 = .ok (.bipush 12, 2) := by decide +kernel
theorem dX1_nextWord_45 : decode cX1_nextWord 45 = .ok (.if_icmp .ge 46, 3) := by decide +kernel
theorem dX1_nextWord_48 : decode cX1_nextWord 48 = .ok (.aload_n 0, 1) := by decide +kernel
theorem dX1_nextWord_49 : decode cX1_nextWord 49 = .ok (.iload_n 1, 1) := by decide +kernel
theorem dX1_nextWord_50 : decode cX1_nextWord 50 = .ok (.invokestatic 97, 3) := by decide +kernel
theorem dX1_nextWord_53 : decode cX1_nextWord 53 = .ok (.invokevirtual 101, 3) := by decide +kernel
theorem dX1_nextWord_56 : decode cX1_nextWord 56 = .ok (.ifCond .eq 29, 3) := by decide +kernel
theorem dX1_nextWord_59 : decode cX1_nextWord 59 = .ok (.aload_n 0, 1) := by decide +kernel
theorem dX1_nextWord_60 : decode cX1_nextWord 60 = .ok (.iload_n 1, 1) := by decide +kernel
theorem dX1_nextWord_61 : decode cX1_nextWord 61 = .ok (.bipush 6, 2) := by decide +kernel
theorem dX1_nextWord_63 : decode cX1_nextWord 63 = .ok (.if_icmp .ge 10, 3) := by decide +kernel
theorem dX1_nextWord_66 : decode cX1_nextWord 66 = .ok (.bipush 100, 2) := by decide +kernel
theorem dX1_nextWord_68 : decode cX1_nextWord 68 = .ok (.iload_n 1, 1) := by decide +kernel
theorem dX1_nextWord_69 : decode cX1_nextWord 69 = .ok (.iadd, 1) := by decide +kernel
theorem dX1_nextWord_70 : decode cX1_nextWord 70 = .ok (.goto 4, 3) := by decide +kernel
theorem dX1_nextWord_73 : decode cX1_nextWord 73 = .ok (.iconst 3, 1) := by decide +kernel
theorem dX1_nextWord_74 : decode cX1_nextWord 74 = .ok (.putfield 45, 3) := by decide +kernel
theorem dX1_nextWord_77 : decode cX1_nextWord 77 = .ok (.aload_n 0, 1) := by decide +kernel
theorem dX1_nextWord_78 : decode cX1_nextWord 78 = .ok (.iload_n 1, 1) := by decide +kernel
theorem dX1_nextWord_79 : decode cX1_nextWord 79 = .ok (.bipush 6, 2) := by decide +kernel
theorem dX1_nextWord_81 : decode cX1_nextWord 81 = .ok (.isub, 1) := by decide +kernel
theorem dX1_nextWord_82 : decode cX1_nextWord 82 = .ok (.putfield 74, 3) := by decide +kernel
theorem dX1_nextWord_85 : decode cX1_nextWord 85 = .ok (.iinc 1 1, 3) := by decide +kernel
theorem dX1_nextWord_88 : decode cX1_nextWord 88 = .ok (.goto (-46), 3) := by decide +kernel
theorem dX1_nextWord_91 : decode cX1_nextWord 91 = .ok (.return_, 1) := by decide +kernel
theorem dX1_nextNumber_0 : decode cX1_nextNumber 0 = .ok (.aload_n 0, 1) := by decide +kernel
theorem dX1_nextNumber_1 : decode cX1_nextNumber 1 = .ok (.iconst 0, 1) := by decide +kernel
theorem dX1_nextNumber_2 : decode cX1_nextNumber 2 = .ok (.putfield 74, 3) := by decide +kernel
theorem dX1_nextNumber_5 : decode cX1_nextNumber 5 = .ok (.aload_n 0, 1) := by decide +kernel
theorem dX1_nextNumber_6 : decode cX1_nextNumber 6 = .ok (.getfield 23, 3) := by decide +kernel
theorem dX1_nextNumber_9 : decode cX1_nextNumber 9 = .ok (.aload_n 0, 1) := by decide +kernel
theorem dX1_nextNumber_10 : decode cX1_nextNumber 10 = .ok (.getfield 19, 3) := by decide +kernel
theorem dX1_nextNumber_13 : decode cX1_nextNumber 13 = .ok (.if_icmp .ge 51, 3) := by decide +kernel
theorem dX1_nextNumber_16 : decode cX1_nextNumber 16 = .ok (.aload_n 0, 1) := by decide +kernel
theorem dX1_nextNumber_17 : decode cX1_nextNumber 17 = .ok (.aload_n 0, 1) := by decide +kernel
theorem dX1_nextNumber_18 : decode cX1_nextNumber 18 = .ok (.getfield 23, 3) := by decide +kernel
theorem dX1_nextNumber_21 : decode cX1_nextNumber 21 = .ok (.invokevirtual 83, 3) := by decide +kernel
theorem dX1_nextNumber_24 : decode cX1_nextNumber 24 = .ok (.ifCond .eq 40, 3) := by decide +kernel
theorem dX1_nextNumber_27 : decode cX1_nextNumber 27 = .ok (.aload_n 0, 1) := by decide +kernel
theorem dX1_nextNumber_28 : decode cX1_nextNumber 28 = .ok (.bipush 10, 2) := by decide +kernel
theorem dX1_nextNumber_30 : decode cX1_nextNumber 30 = .ok (.aload_n 0, 1) := by decide +kernel
theorem dX1_nextNumber_31 : decode cX1_nextNumber 31 = .ok (.getfield 74, 3) := by decide +kernel
theorem dX1_nextNumber_34 : decode cX1_nextNumber 34 = .ok (.imul, 1) := by decide +kernel
theorem dX1_nextNumber_35 : decode cX1_nextNumber 35 = .ok (.aload_n 0, 1) := by decide +kernel
theorem dX1_nextNumber_36 : decode cX1_nextNumber 36 = .ok (.getfield 9, 3) := by decide +kernel
theorem dX1_nextNumber_39 : decode cX1_nextNumber 39 = .ok (.aload_n 0, 1) := by decide +kernel
theorem dX1_nextNumber_40 : decode cX1_nextNumber 40 = .ok (.getfield 23, 3) := by decide +kernel
theorem dX1_nextNumber_43 : decode cX1_nextNumber 43 = .ok (.iaload, 1) := by decide +kernel
theorem dX1_nextNumber_44 : decode cX1_nextNumber 44 = .ok (.bipush 48, 2) := by decide +kernel
theorem dX1_nextNumber_46 : decode cX1_nextNumber 46 = .ok (.isub, 1) := by decide +kernel
theorem dX1_nextNumber_47 : decode cX1_nextNumber 47 = .ok (.iadd, 1) := by decide +kernel
theorem dX1_nextNumber_48 : decode cX1_nextNumber 48 = .ok (.putfield 74, 3) := by decide +kernel
theorem dX1_nextNumber_51 : decode cX1_nextNumber 51 = .ok (.aload_n 0, 1) := by decide +kernel
theorem dX1_nextNumber_52 : decode cX1_nextNumber 52 = .ok (.dup, 1) := by decide +kernel
theorem dX1_nextNumber_53 : decode cX1_nextNumber 53 = .ok (.getfield 23, 3) := by decide +kernel
theorem dX1_nextNumber_56 : decode cX1_nextNumber 56 = .ok (.iconst 1, 1) := by decide +kernel
theorem dX1_nextNumber_57 : decode cX1_nextNumber 57 = .ok (.iadd, 1) := by decide +kernel
theorem dX1_nextNumber_58 : decode cX1_nextNumber 58 = .ok (.putfield 23, 3) := by decide +kernel
theorem dX1_nextNumber_61 : decode cX1_nextNumber 61 = .ok (.goto (-56), 3) := by decide +kernel
theorem dX1_nextNumber_64 : decode cX1_nextNumber 64 = .ok (.aload_n 0, 1) := by decide +kernel
theorem dX1_nextNumber_65 : decode cX1_nextNumber 65 = .ok (.aload_n 0, 1) := by decide +kernel
theorem dX1_nextNumber_66 : decode cX1_nextNumber 66 = .ok (.getfield 23, 3) := by decide +kernel
theorem dX1_nextNumber_69 : decode cX1_nextNumber 69 = .ok (.aload_n 0, 1) := by decide +kernel
theorem dX1_nextNumber_70 : decode cX1_nextNumber 70 = .ok (.getfield 39, 3) := by decide +kernel
theorem dX1_nextNumber_73 : decode cX1_nextNumber 73 = .ok (.isub, 1) := by decide +kernel
theorem dX1_nextNumber_74 : decode cX1_nextNumber 74 = .ok (.iconst 4, 1) := by decide +kernel
theorem dX1_nextNumber_75 : decode cX1_nextNumber 75 = .ok (.if_icmp .le 7, 3) := by decide +kernel
theorem dX1_nextNumber_78 : decode cX1_nextNumber 78 = .ok (.iconst 1, 1) := by decide +kernel
theorem dX1_nextNumber_79 : decode cX1_nextNumber 79 = .ok (.goto 4, 3) := by decide +kernel
theorem dX1_nextNumber_82 : decode cX1_nextNumber 82 = .ok (.iconst 2, 1) := by decide +kernel
theorem dX1_nextNumber_83 : decode cX1_nextNumber 83 = .ok (.putfield 45, 3) := by decide +kernel
theorem dX1_nextNumber_86 : decode cX1_nextNumber 86 = .ok (.return_, 1) := by decide +kernel
theorem dX1_isLetter_0 : decode cX1_isLetter 0 = .ok (.aload_n 0, 1) := by decide +kernel
theorem dX1_isLetter_1 : decode cX1_isLetter 1 = .ok (.getfield 9, 3) := by decide +kernel
theorem dX1_isLetter_4 : decode cX1_isLetter 4 = .ok (.iload_n 1, 1) := by decide +kernel
theorem dX1_isLetter_5 : decode cX1_isLetter 5 = .ok (.iaload, 1) := by decide +kernel
theorem dX1_isLetter_6 : decode cX1_isLetter 6 = .ok (.bipush 97, 2) := by decide +kernel
theorem dX1_isLetter_8 : decode cX1_isLetter 8 = .ok (.if_icmp .lt 18, 3) := by decide +kernel
theorem dX1_isLetter_11 : decode cX1_isLetter 11 = .ok (.aload_n 0, 1) := by decide +kernel
theorem dX1_isLetter_12 : decode cX1_isLetter 12 = .ok (.getfield 9, 3) := by decide +kernel
theorem dX1_isLetter_15 : decode cX1_isLetter 15 = .ok (.iload_n 1, 1) := by decide +kernel
theorem dX1_isLetter_16 : decode cX1_isLetter 16 = .ok (.iaload, 1) := by decide +kernel
theorem dX1_isLetter_17 : decode cX1_isLetter 17 = .ok (.bipush 122, 2) := by decide +kernel
theorem dX1_isLetter_19 : decode cX1_isLetter 19 = .ok (.if_icmp .gt 7, 3) := by decide +kernel
theorem dX1_isLetter_22 : decode cX1_isLetter 22 = .ok (.iconst 1, 1) := by decide +kernel
theorem dX1_isLetter_23 : decode cX1_isLetter 23 = .ok (.goto 4, 3) := by decide +kernel
theorem dX1_isLetter_26 : decode cX1_isLetter 26 = .ok (.iconst 0, 1) := by decide +kernel
theorem dX1_isLetter_27 : decode cX1_isLetter 27 = .ok (.ireturn, 1) := by decide +kernel
theorem dX1_isDigit_0 : decode cX1_isDigit 0 = .ok (.aload_n 0, 1) := by decide +kernel
theorem dX1_isDigit_1 : decode cX1_isDigit 1 = .ok (.getfield 9, 3) := by decide +kernel
theorem dX1_isDigit_4 : decode cX1_isDigit 4 = .ok (.iload_n 1, 1) := by decide +kernel
theorem dX1_isDigit_5 : decode cX1_isDigit 5 = .ok (.iaload, 1) := by decide +kernel
theorem dX1_isDigit_6 : decode cX1_isDigit 6 = .ok (.bipush 48, 2) := by decide +kernel
theorem dX1_isDigit_8 : decode cX1_isDigit 8 = .ok (.if_icmp .lt 18, 3) := by decide +kernel
theorem dX1_isDigit_11 : decode cX1_isDigit 11 = .ok (.aload_n 0, 1) := by decide +kernel
theorem dX1_isDigit_12 : decode cX1_isDigit 12 = .ok (.getfield 9, 3) := by decide +kernel
theorem dX1_isDigit_15 : decode cX1_isDigit 15 = .ok (.iload_n 1, 1) := by decide +kernel
theorem dX1_isDigit_16 : decode cX1_isDigit 16 = .ok (.iaload, 1) := by decide +kernel
theorem dX1_isDigit_17 : decode cX1_isDigit 17 = .ok (.bipush 57, 2) := by decide +kernel
theorem dX1_isDigit_19 : decode cX1_isDigit 19 = .ok (.if_icmp .gt 7, 3) := by decide +kernel
theorem dX1_isDigit_22 : decode cX1_isDigit 22 = .ok (.iconst 1, 1) := by decide +kernel
theorem dX1_isDigit_23 : decode cX1_isDigit 23 = .ok (.goto 4, 3) := by decide +kernel
theorem dX1_isDigit_26 : decode cX1_isDigit 26 = .ok (.iconst 0, 1) := by decide +kernel
theorem dX1_isDigit_27 : decode cX1_isDigit 27 = .ok (.ireturn, 1) := by decide +kernel
theorem dX1_isSpelled_0 : decode cX1_isSpelled 0 = .ok (.aload_n 0, 1) := by decide +kernel
theorem dX1_isSpelled_1 : decode cX1_isSpelled 1 = .ok (.getfield 23, 3) := by decide +kernel
theorem dX1_isSpelled_4 : decode cX1_isSpelled 4 = .ok (.aload_n 0, 1) := by decide +kernel
theorem dX1_isSpelled_5 : decode cX1_isSpelled 5 = .ok (.getfield 39, 3) := by decide +kernel
theorem dX1_isSpelled_8 : decode cX1_isSpelled 8 = .ok (.isub, 1) := by decide +kernel
theorem dX1_isSpelled_9 : decode cX1_isSpelled 9 = .ok (.aload_n 1, 1) := by decide +kernel
theorem dX1_isSpelled_10 : decode cX1_isSpelled 10 = .ok (.invokevirtual 105, 3) := by decide +kernel
theorem dX1_isSpelled_13 : decode cX1_isSpelled 13 = .ok (.if_icmp .eq 5, 3) := by decide +kernel
theorem dX1_isSpelled_16 : decode cX1_isSpelled 16 = .ok (.iconst 0, 1) := by decide +kernel
theorem dX1_isSpelled_17 : decode cX1_isSpelled 17 = .ok (.ireturn, 1) := by decide +kernel
theorem dX1_isSpelled_18 : decode cX1_isSpelled 18 = .ok (.iconst 0, 1) := by decide +kernel
theorem dX1_isSpelled_19 : decode cX1_isSpelled 19 = .ok (.istore_n 2, 1) := by decide +kernel
theorem dX1_isSpelled_20 : decode cX1_isSpelled 20 = .ok (.iload_n 2, 1) := by decide +kernel
theorem dX1_isSpelled_21 : decode cX1_isSpelled 21 = .ok (.aload_n 1, 1) := by decide +kernel
theorem dX1_isSpelled_22 : decode cX1_isSpelled 22 = .ok (.invokevirtual 105, 3) := by decide +kernel
theorem dX1_isSpelled_25 : decode cX1_isSpelled 25 = .ok (.if_icmp .ge 30, 3) := by decide +kernel
theorem dX1_isSpelled_28 : decode cX1_isSpelled 28 = .ok (.aload_n 0, 1) := by decide +kernel
theorem dX1_isSpelled_29 : decode cX1_isSpelled 29 = .ok (.getfield 9, 3) := by decide +kernel
theorem dX1_isSpelled_32 : decode cX1_isSpelled 32 = .ok (.aload_n 0, 1) := by decide +kernel
theorem dX1_isSpelled_33 : decode cX1_isSpelled 33 = .ok (.getfield 39, 3) := by decide +kernel
theorem dX1_isSpelled_36 : decode cX1_isSpelled 36 = .ok (.iload_n 2, 1) := by decide +kernel
theorem dX1_isSpelled_37 : decode cX1_isSpelled 37 = .ok (.iadd, 1) := by decide +kernel
theorem dX1_isSpelled_38 : decode cX1_isSpelled 38 = .ok (.iaload, 1) := by decide +kernel
theorem dX1_isSpelled_39 : decode cX1_isSpelled 39 = .ok (.aload_n 1, 1) := by decide +kernel
theorem dX1_isSpelled_40 : decode cX1_isSpelled 40 = .ok (.iload_n 2, 1) := by decide +kernel
theorem dX1_isSpelled_41 : decode cX1_isSpelled 41 = .ok (.invokevirtual 107, 3) := by decide +kernel
theorem dX1_isSpelled_44 : decode cX1_isSpelled 44 = .ok (.if_icmp .eq 5, 3) := by decide +kernel
theorem dX1_isSpelled_47 : decode cX1_isSpelled 47 = .ok (.iconst 0, 1) := by decide +kernel
theorem dX1_isSpelled_48 : decode cX1_isSpelled 48 = .ok (.ireturn, 1) := by decide +kernel
theorem dX1_isSpelled_49 : decode cX1_isSpelled 49 = .ok (.iinc 2 1, 3) := by decide +kernel
theorem dX1_isSpelled_52 : decode cX1_isSpelled 52 = .ok (.goto (-32), 3) := by decide +kernel
theorem dX1_isSpelled_55 : decode cX1_isSpelled 55 = .ok (.iconst 1, 1) := by decide +kernel
theorem dX1_isSpelled_56 : decode cX1_isSpelled 56 = .ok (.ireturn, 1) := by decide +kernel
theorem dX1_word_0 : decode cX1_word 0 = .ok (.iload_n 0, 1) := by decide +kernel
theorem dX1_word_1 : decode cX1_word 1 = .ok (.tableswitch 92 0 10 #[59, 62, 65, 68, 71, 74, 77, 80, 83, 86, 89], 59) := by decide +kernel
theorem dX1_word_60 : decode cX1_word 60 = .ok (.ldc 111, 2) := by decide +kernel
theorem dX1_word_62 : decode cX1_word 62 = .ok (.areturn, 1) := by decide +kernel
theorem dX1_word_63 : decode cX1_word 63 = .ok (.ldc 113, 2) := by decide +kernel
theorem dX1_word_65 : decode cX1_word 65 = .ok (.areturn, 1) := by decide +kernel
theorem dX1_word_66 : decode cX1_word 66 = .ok (.ldc 115, 2) := by decide +kernel
theorem dX1_word_68 : decode cX1_word 68 = .ok (.areturn, 1) := by decide +kernel
theorem dX1_word_69 : decode cX1_word 69 = .ok (.ldc 117, 2) := by decide +kernel
theorem dX1_word_71 : decode cX1_word 71 = .ok (.areturn, 1) := by decide +kernel
theorem dX1_word_72 : decode cX1_word 72 = .ok (.ldc 119, 2) := by decide +kernel
theorem dX1_word_74 : decode cX1_word 74 = .ok (.areturn, 1) := by decide +kernel
theorem dX1_word_75 : decode cX1_word 75 = .ok (.ldc 121, 2) := by decide +kernel
theorem dX1_word_77 : decode cX1_word 77 = .ok (.areturn, 1) := by decide +kernel
theorem dX1_word_78 : decode cX1_word 78 = .ok (.ldc 123, 2) := by decide +kernel
theorem dX1_word_80 : decode cX1_word 80 = .ok (.areturn, 1) := by decide +kernel
theorem dX1_word_81 : decode cX1_word 81 = .ok (.ldc 125, 2) := by decide +kernel
theorem dX1_word_83 : decode cX1_word 83 = .ok (.areturn, 1) := by decide +kernel
theorem dX1_word_84 : decode cX1_word 84 = .ok (.ldc 127, 2) := by decide +kernel
theorem dX1_word_86 : decode cX1_word 86 = .ok (.areturn, 1) := by decide +kernel
theorem dX1_word_87 : decode cX1_word 87 = .ok (.ldc 129, 2) := by decide +kernel
theorem dX1_word_89 : decode cX1_word 89 = .ok (.areturn, 1) := by decide +kernel
theorem dX1_word_90 : decode cX1_word 90 = .ok (.ldc 131, 2) := by decide +kernel
theorem dX1_word_92 : decode cX1_word 92 = .ok (.areturn, 1) := by decide +kernel
theorem dX1_word_93 : decode cX1_word 93 = .ok (.ldc 133, 2) := by decide +kernel
theorem dX1_word_95 : decode cX1_word 95 = .ok (.areturn, 1) := by decide +kernel
theorem dX2_init_0 : decode cX2_init 0 = .ok (.aload_n 0, 1) := by decide +kernel
theorem dX2_init_1 : decode cX2_init 1 = .ok (.invokespecial 3, 3) := by decide +kernel
theorem dX2_init_4 : decode cX2_init 4 = .ok (.aload_n 0, 1) := by decide +kernel
theorem dX2_init_5 : decode cX2_init 5 = .ok (.iconst 4, 1) := by decide +kernel
theorem dX2_init_6 : decode cX2_init 6 = .ok (.bipush 40, 2) := by decide +kernel
theorem dX2_init_8 : decode cX2_init 8 = .ok (.multianewarray 9 2, 4) := by decide +kernel
theorem dX2_init_12 : decode cX2_init 12 = .ok (.putfield 11, 3) := by decide +kernel
theorem dX2_init_15 : decode cX2_init 15 = .ok (.aload_n 0, 1) := by decide +kernel
theorem dX2_init_16 : decode cX2_init 16 = .ok (.iconst 4, 1) := by decide +kernel
theorem dX2_init_17 : decode cX2_init 17 = .ok (.newarray .int, 2) := by decide +kernel
theorem dX2_init_19 : decode cX2_init 19 = .ok (.putfield 16, 3) := by decide +kernel
theorem dX2_init_22 : decode cX2_init 22 = .ok (.aload_n 0, 1) := by decide +kernel
theorem dX2_init_23 : decode cX2_init 23 = .ok (.iconst 4, 1) := by decide +kernel
theorem dX2_init_24 : decode cX2_init 24 = .ok (.newarray .int, 2) := by decide +kernel
theorem dX2_init_26 : decode cX2_init 26 = .ok (.putfield 20, 3) := by decide +kernel
theorem dX2_init_29 : decode cX2_init 29 = .ok (.aload_n 0, 1) := by decide +kernel
theorem dX2_init_30 : decode cX2_init 30 = .ok (.getfield 16, 3) := by decide +kernel
theorem dX2_init_33 : decode cX2_init 33 = .ok (.iconst (-1), 1) := by decide +kernel
theorem dX2_init_34 : decode cX2_init 34 = .ok (.invokestatic 23, 3) := by decide +kernel
theorem dX2_init_37 : decode cX2_init 37 = .ok (.return_, 1) := by decide +kernel
theorem dX2_isSheet_0 : decode cX2_isSheet 0 = .ok (.iload_n 1, 1) := by decide +kernel
theorem dX2_isSheet_1 : decode cX2_isSheet 1 = .ok (.iconst 3, 1) := by decide +kernel
theorem dX2_isSheet_2 : decode cX2_isSheet 2 = .ok (.invokestatic 29, 3) := by decide +kernel
theorem dX2_isSheet_5 : decode cX2_isSheet 5 = .ok (.ireturn, 1) := by decide +kernel
theorem dX2_become_0 : decode cX2_become 0 = .ok (.aload_n 0, 1) := by decide +kernel
theorem dX2_become_1 : decode cX2_become 1 = .ok (.getfield 16, 3) := by decide +kernel
theorem dX2_become_4 : decode cX2_become 4 = .ok (.iload_n 1, 1) := by decide +kernel
theorem dX2_become_5 : decode cX2_become 5 = .ok (.iload_n 2, 1) := by decide +kernel
theorem dX2_become_6 : decode cX2_become 6 = .ok (.iastore, 1) := by decide +kernel
theorem dX2_become_7 : decode cX2_become 7 = .ok (.aload_n 0, 1) := by decide +kernel
theorem dX2_become_8 : decode cX2_become 8 = .ok (.getfield 20, 3) := by decide +kernel
theorem dX2_become_11 : decode cX2_become 11 = .ok (.iload_n 1, 1) := by decide +kernel
theorem dX2_become_12 : decode cX2_become 12 = .ok (.iload_n 3, 1) := by decide +kernel
theorem dX2_become_13 : decode cX2_become 13 = .ok (.iastore, 1) := by decide +kernel
theorem dX2_become_14 : decode cX2_become 14 = .ok (.aload_n 0, 1) := by decide +kernel
theorem dX2_become_15 : decode cX2_become 15 = .ok (.getfield 11, 3) := by decide +kernel
theorem dX2_become_18 : decode cX2_become 18 = .ok (.iload_n 1, 1) := by decide +kernel
theorem dX2_become_19 : decode cX2_become 19 = .ok (.aaload, 1) := by decide +kernel
theorem dX2_become_20 : decode cX2_become 20 = .ok (.iconst 0, 1) := by decide +kernel
theorem dX2_become_21 : decode cX2_become 21 = .ok (.invokestatic 23, 3) := by decide +kernel
theorem dX2_become_24 : decode cX2_become 24 = .ok (.return_, 1) := by decide +kernel
theorem dX3_init_0 : decode cX3_init 0 = .ok (.aload_n 0, 1) := by decide +kernel
theorem dX3_init_1 : decode cX3_init 1 = .ok (.invokespecial 3, 3) := by decide +kernel
theorem dX3_init_4 : decode cX3_init 4 = .ok (.aload_n 0, 1) := by decide +kernel
theorem dX3_init_5 : decode cX3_init 5 = .ok (.bipush 6, 2) := by decide +kernel
theorem dX3_init_7 : decode cX3_init 7 = .ok (.sipush 160, 3) := by decide +kernel
theorem dX3_init_10 : decode cX3_init 10 = .ok (.multianewarray 9 2, 4) := by decide +kernel
theorem dX3_init_14 : decode cX3_init 14 = .ok (.putfield 11, 3) := by decide +kernel
theorem dX3_init_17 : decode cX3_init 17 = .ok (.aload_n 0, 1) := by decide +kernel
theorem dX3_init_18 : decode cX3_init 18 = .ok (.bipush 6, 2) := by decide +kernel
theorem dX3_init_20 : decode cX3_init 20 = .ok (.iconst 3, 1) := by decide +kernel
theorem dX3_init_21 : decode cX3_init 21 = .ok (.multianewarray 9 2, 4) := by decide +kernel
theorem dX3_init_25 : decode cX3_init 25 = .ok (.putfield 16, 3) := by decide +kernel
theorem dX3_init_28 : decode cX3_init 28 = .ok (.aload_n 0, 1) := by decide +kernel
theorem dX3_init_29 : decode cX3_init 29 = .ok (.bipush 32, 2) := by decide +kernel
theorem dX3_init_31 : decode cX3_init 31 = .ok (.newarray .int, 2) := by decide +kernel
theorem dX3_init_33 : decode cX3_init 33 = .ok (.putfield 19, 3) := by decide +kernel
theorem dX3_init_36 : decode cX3_init 36 = .ok (.return_, 1) := by decide +kernel
theorem dX3_begin_0 : decode cX3_begin 0 = .ok (.aload_n 0, 1) := by decide +kernel
theorem dX3_begin_1 : decode cX3_begin 1 = .ok (.iconst 0, 1) := by decide +kernel
theorem dX3_begin_2 : decode cX3_begin 2 = .ok (.putfield 23, 3) := by decide +kernel
theorem dX3_begin_5 : decode cX3_begin 5 = .ok (.return_, 1) := by decide +kernel
theorem dX3_write_0 : decode cX3_write 0 = .ok (.aload_n 0, 1) := by decide +kernel
theorem dX3_write_1 : decode cX3_write 1 = .ok (.getfield 27, 3) := by decide +kernel
theorem dX3_write_4 : decode cX3_write 4 = .ok (.bipush 6, 2) := by decide +kernel
theorem dX3_write_6 : decode cX3_write 6 = .ok (.if_icmp .ge 38, 3) := by decide +kernel
theorem dX3_write_9 : decode cX3_write 9 = .ok (.aload_n 0, 1) := by decide +kernel
theorem dX3_write_10 : decode cX3_write 10 = .ok (.getfield 23, 3) := by decide +kernel
theorem dX3_write_13 : decode cX3_write 13 = .ok (.sipush 160, 3) := by decide +kernel
theorem dX3_write_16 : decode cX3_write 16 = .ok (.if_icmp .ge 28, 3) := by decide +kernel
theorem dX3_write_19 : decode cX3_write 19 = .ok (.aload_n 0, 1) := by decide +kernel
theorem dX3_write_20 : decode cX3_write 20 = .ok (.getfield 11, 3) := by decide +kernel
theorem dX3_write_23 : decode cX3_write 23 = .ok (.aload_n 0, 1) := by decide +kernel
theorem dX3_write_24 : decode cX3_write 24 = .ok (.getfield 27, 3) := by decide +kernel
theorem dX3_write_27 : decode cX3_write 27 = .ok (.aaload, 1) := by decide +kernel
theorem dX3_write_28 : decode cX3_write 28 = .ok (.aload_n 0, 1) := by decide +kernel
theorem dX3_write_29 : decode cX3_write 29 = .ok (.getfield 23, 3) := by decide +kernel
theorem dX3_write_32 : decode cX3_write 32 = .ok (.iload_n 1, 1) := by decide +kernel
theorem dX3_write_33 : decode cX3_write 33 = .ok (.iastore, 1) := by decide +kernel
theorem dX3_write_34 : decode cX3_write 34 = .ok (.aload_n 0, 1) := by decide +kernel
theorem dX3_write_35 : decode cX3_write 35 = .ok (.dup, 1) := by decide +kernel
theorem dX3_write_36 : decode cX3_write 36 = .ok (.getfield 23, 3) := by decide +kernel
theorem dX3_write_39 : decode cX3_write 39 = .ok (.iconst 1, 1) := by decide +kernel
theorem dX3_write_40 : decode cX3_write 40 = .ok (.iadd, 1) := by decide +kernel
theorem dX3_write_41 : decode cX3_write 41 = .ok (.putfield 23, 3) := by decide +kernel
theorem dX3_write_44 : decode cX3_write 44 = .ok (.return_, 1) := by decide +kernel
theorem dX3_endPart_0 : decode cX3_endPart 0 = .ok (.aload_n 0, 1) := by decide +kernel
theorem dX3_endPart_1 : decode cX3_endPart 1 = .ok (.getfield 27, 3) := by decide +kernel
theorem dX3_endPart_4 : decode cX3_endPart 4 = .ok (.bipush 6, 2) := by decide +kernel
theorem dX3_endPart_6 : decode cX3_endPart 6 = .ok (.if_icmp .ge 18, 3) := by decide +kernel
theorem dX3_endPart_9 : decode cX3_endPart 9 = .ok (.aload_n 0, 1) := by decide +kernel
theorem dX3_endPart_10 : decode cX3_endPart 10 = .ok (.getfield 16, 3) := by decide +kernel
theorem dX3_endPart_13 : decode cX3_endPart 13 = .ok (.aload_n 0, 1) := by decide +kernel
theorem dX3_endPart_14 : decode cX3_endPart 14 = .ok (.getfield 27, 3) := by decide +kernel
theorem dX3_endPart_17 : decode cX3_endPart 17 = .ok (.aaload, 1) := by decide +kernel
theorem dX3_endPart_18 : decode cX3_endPart 18 = .ok (.iload_n 1, 1) := by decide +kernel
theorem dX3_endPart_19 : decode cX3_endPart 19 = .ok (.aload_n 0, 1) := by decide +kernel
theorem dX3_endPart_20 : decode cX3_endPart 20 = .ok (.getfield 23, 3) := by decide +kernel
theorem dX3_endPart_23 : decode cX3_endPart 23 = .ok (.iastore, 1) := by decide +kernel
theorem dX3_endPart_24 : decode cX3_endPart 24 = .ok (.return_, 1) := by decide +kernel
theorem dX3_keep_0 : decode cX3_keep 0 = .ok (.aload_n 0, 1) := by decide +kernel
theorem dX3_keep_1 : decode cX3_keep 1 = .ok (.getfield 27, 3) := by decide +kernel
theorem dX3_keep_4 : decode cX3_keep 4 = .ok (.istore_n 1, 1) := by decide +kernel
theorem dX3_keep_5 : decode cX3_keep 5 = .ok (.aload_n 0, 1) := by decide +kernel
theorem dX3_keep_6 : decode cX3_keep 6 = .ok (.getfield 27, 3) := by decide +kernel
theorem dX3_keep_9 : decode cX3_keep 9 = .ok (.bipush 6, 2) := by decide +kernel
theorem dX3_keep_11 : decode cX3_keep 11 = .ok (.if_icmp .ge 13, 3) := by decide +kernel
theorem dX3_keep_14 : decode cX3_keep 14 = .ok (.aload_n 0, 1) := by decide +kernel
theorem dX3_keep_15 : decode cX3_keep 15 = .ok (.dup, 1) := by decide +kernel
theorem dX3_keep_16 : decode cX3_keep 16 = .ok (.getfield 27, 3) := by decide +kernel
theorem dX3_keep_19 : decode cX3_keep 19 = .ok (.iconst 1, 1) := by decide +kernel
theorem dX3_keep_20 : decode cX3_keep 20 = .ok (.iadd, 1) := by decide +kernel
theorem dX3_keep_21 : decode cX3_keep 21 = .ok (.putfield 27, 3) := by decide +kernel
theorem dX3_keep_24 : decode cX3_keep 24 = .ok (.iload_n 1, 1) := by decide +kernel
theorem dX3_keep_25 : decode cX3_keep 25 = .ok (.ireturn, 1) := by decide +kernel
theorem dX4_init_0 : decode cX4_init 0 = .ok (.aload_n 0, 1) := by decide +kernel
theorem dX4_init_1 : decode cX4_init 1 = .ok (.invokespecial 3, 3) := by decide +kernel
theorem dX4_init_4 : decode cX4_init 4 = .ok (.aload_n 0, 1) := by decide +kernel
theorem dX4_init_5 : decode cX4_init 5 = .ok (.bipush 6, 2) := by decide +kernel
theorem dX4_init_7 : decode cX4_init 7 = .ok (.bipush 6, 2) := by decide +kernel
theorem dX4_init_9 : decode cX4_init 9 = .ok (.multianewarray 9 2, 4) := by decide +kernel
theorem dX4_init_13 : decode cX4_init 13 = .ok (.putfield 11, 3) := by decide +kernel
theorem dX4_init_16 : decode cX4_init 16 = .ok (.aload_n 0, 1) := by decide +kernel
theorem dX4_init_17 : decode cX4_init 17 = .ok (.bipush 64, 2) := by decide +kernel
theorem dX4_init_19 : decode cX4_init 19 = .ok (.newarray .int, 2) := by decide +kernel
theorem dX4_init_21 : decode cX4_init 21 = .ok (.putfield 16, 3) := by decide +kernel
theorem dX4_init_24 : decode cX4_init 24 = .ok (.return_, 1) := by decide +kernel
theorem dX5_init_0 : decode cX5_init 0 = .ok (.aload_n 0, 1) := by decide +kernel
theorem dX5_init_1 : decode cX5_init 1 = .ok (.invokespecial 1, 3) := by decide +kernel
theorem dX5_init_4 : decode cX5_init 4 = .ok (.aload_n 0, 1) := by decide +kernel
theorem dX5_init_5 : decode cX5_init 5 = .ok (.new 7, 3) := by decide +kernel
theorem dX5_init_8 : decode cX5_init 8 = .ok (.dup, 1) := by decide +kernel
theorem dX5_init_9 : decode cX5_init 9 = .ok (.invokespecial 9, 3) := by decide +kernel
theorem dX5_init_12 : decode cX5_init 12 = .ok (.putfield 10, 3) := by decide +kernel
theorem dX5_init_15 : decode cX5_init 15 = .ok (.aload_n 0, 1) := by decide +kernel
theorem dX5_init_16 : decode cX5_init 16 = .ok (.new 16, 3) := by decide +kernel
theorem dX5_init_19 : decode cX5_init 19 = .ok (.dup, 1) := by decide +kernel
theorem dX5_init_20 : decode cX5_init 20 = .ok (.aload_n 0, 1) := by decide +kernel
theorem dX5_init_21 : decode cX5_init 21 = .ok (.getfield 10, 3) := by decide +kernel
theorem dX5_init_24 : decode cX5_init 24 = .ok (.invokespecial 18, 3) := by decide +kernel
theorem dX5_init_27 : decode cX5_init 27 = .ok (.putfield 21, 3) := by decide +kernel
theorem dX5_init_30 : decode cX5_init 30 = .ok (.aload_n 0, 1) := by decide +kernel
theorem dX5_init_31 : decode cX5_init 31 = .ok (.new 25, 3) := by decide +kernel
theorem dX5_init_34 : decode cX5_init 34 = .ok (.dup, 1) := by decide +kernel
theorem dX5_init_35 : decode cX5_init 35 = .ok (.aload_n 0, 1) := by decide +kernel
theorem dX5_init_36 : decode cX5_init 36 = .ok (.getfield 10, 3) := by decide +kernel
theorem dX5_init_39 : decode cX5_init 39 = .ok (.invokespecial 27, 3) := by decide +kernel
theorem dX5_init_42 : decode cX5_init 42 = .ok (.putfield 28, 3) := by decide +kernel
theorem dX5_init_45 : decode cX5_init 45 = .ok (.aload_n 0, 1) := by decide +kernel
theorem dX5_init_46 : decode cX5_init 46 = .ok (.new 25, 3) := by decide +kernel
theorem dX5_init_49 : decode cX5_init 49 = .ok (.dup, 1) := by decide +kernel
theorem dX5_init_50 : decode cX5_init 50 = .ok (.aload_n 0, 1) := by decide +kernel
theorem dX5_init_51 : decode cX5_init 51 = .ok (.getfield 10, 3) := by decide +kernel
theorem dX5_init_54 : decode cX5_init 54 = .ok (.invokespecial 27, 3) := by decide +kernel
theorem dX5_init_57 : decode cX5_init 57 = .ok (.putfield 32, 3) := by decide +kernel
theorem dX5_init_60 : decode cX5_init 60 = .ok (.aload_n 0, 1) := by decide +kernel
theorem dX5_init_61 : decode cX5_init 61 = .ok (.new 25, 3) := by decide +kernel
theorem dX5_init_64 : decode cX5_init 64 = .ok (.dup, 1) := by decide +kernel
theorem dX5_init_65 : decode cX5_init 65 = .ok (.aload_n 0, 1) := by decide +kernel
theorem dX5_init_66 : decode cX5_init 66 = .ok (.getfield 10, 3) := by decide +kernel
theorem dX5_init_69 : decode cX5_init 69 = .ok (.invokespecial 27, 3) := by decide +kernel
theorem dX5_init_72 : decode cX5_init 72 = .ok (.putfield 35, 3) := by decide +kernel
theorem dX5_init_75 : decode cX5_init 75 = .ok (.aload_n 0, 1) := by decide +kernel
theorem dX5_init_76 : decode cX5_init 76 = .ok (.new 38, 3) := by decide +kernel
theorem dX5_init_79 : decode cX5_init 79 = .ok (.dup, 1) := by decide +kernel
theorem dX5_init_80 : decode cX5_init 80 = .ok (.invokespecial 40, 3) := by decide +kernel
theorem dX5_init_83 : decode cX5_init 83 = .ok (.putfield 41, 3) := by decide +kernel
theorem dX5_init_86 : decode cX5_init 86 = .ok (.aload_n 0, 1) := by decide +kernel
theorem dX5_init_87 : decode cX5_init 87 = .ok (.new 45, 3) := by decide +kernel
theorem dX5_init_90 : decode cX5_init 90 = .ok (.dup, 1) := by decide +kernel
theorem dX5_init_91 : decode cX5_init 91 = .ok (.invokespecial 47, 3) := by decide +kernel
theorem dX5_init_94 : decode cX5_init 94 = .ok (.putfield 48, 3) := by decide +kernel
theorem dX5_init_97 : decode cX5_init 97 = .ok (.iconst 0, 1) := by decide +kernel
theorem dX5_init_98 : decode cX5_init 98 = .ok (.istore_n 1, 1) := by decide +kernel
theorem dX5_init_99 : decode cX5_init 99 = .ok (.iload_n 1, 1) := by decide +kernel
theorem dX5_init_100 : decode cX5_init 100 = .ok (.ldc 52, 2) := by decide +kernel
theorem dX5_init_102 : decode cX5_init 102 = .ok (.invokevirtual 54, 3) := by decide +kernel
theorem dX5_init_105 : decode cX5_init 105 = .ok (.if_icmp .ge 22, 3) := by decide +kernel
theorem dX5_init_108 : decode cX5_init 108 = .ok (.aload_n 0, 1) := by decide +kernel
theorem dX5_init_109 : decode cX5_init 109 = .ok (.getfield 21, 3) := by decide +kernel
theorem dX5_init_112 : decode cX5_init 112 = .ok (.ldc 52, 2) := by decide +kernel
theorem dX5_init_114 : decode cX5_init 114 = .ok (.iload_n 1, 1) := by decide +kernel
theorem dX5_init_115 : decode cX5_init 115 = .ok (.invokevirtual 60, 3) := by decide +kernel
theorem dX5_init_118 : decode cX5_init 118 = .ok (.invokevirtual 64, 3) := by decide +kernel
theorem dX5_init_121 : decode cX5_init 121 = .ok (.iinc 1 1, 3) := by decide +kernel
theorem dX5_init_124 : decode cX5_init 124 = .ok (.goto (-25), 3) := by decide +kernel
theorem dX5_init_127 : decode cX5_init 127 = .ok (.aload_n 0, 1) := by decide +kernel
theorem dX5_init_128 : decode cX5_init 128 = .ok (.getfield 21, 3) := by decide +kernel
theorem dX5_init_131 : decode cX5_init 131 = .ok (.invokevirtual 68, 3) := by decide +kernel
theorem dX5_init_134 : decode cX5_init 134 = .ok (.pop, 1) := by decide +kernel
theorem dX5_init_135 : decode cX5_init 135 = .ok (.return_, 1) := by decide +kernel
theorem dX5_count_0 : decode cX5_count 0 = .ok (.iload_n 1, 1) := by decide +kernel
theorem dX5_count_1 : decode cX5_count 1 = .ok (.tableswitch 75 0 4 #[35, 43, 51, 59, 67], 35) := by decide +kernel
theorem dX5_count_36 : decode cX5_count 36 = .ok (.aload_n 0, 1) := by decide +kernel
theorem dX5_count_37 : decode cX5_count 37 = .ok (.getfield 28, 3) := by decide +kernel
theorem dX5_count_40 : decode cX5_count 40 = .ok (.getfield 71, 3) := by decide +kernel
theorem dX5_count_43 : decode cX5_count 43 = .ok (.ireturn, 1) := by decide +kernel
theorem dX5_count_44 : decode cX5_count 44 = .ok (.aload_n 0, 1) := by decide +kernel
theorem dX5_count_45 : decode cX5_count 45 = .ok (.getfield 28, 3) := by decide +kernel
theorem dX5_count_48 : decode cX5_count 48 = .ok (.getfield 75, 3) := by decide +kernel
theorem dX5_count_51 : decode cX5_count 51 = .ok (.ireturn, 1) := by decide +kernel
theorem dX5_count_52 : decode cX5_count 52 = .ok (.aload_n 0, 1) := by decide +kernel
theorem dX5_count_53 : decode cX5_count 53 = .ok (.getfield 10, 3) := by decide +kernel
theorem dX5_count_56 : decode cX5_count 56 = .ok (.getfield 78, 3) := by decide +kernel
theorem dX5_count_59 : decode cX5_count 59 = .ok (.ireturn, 1) := by decide +kernel
theorem dX5_count_60 : decode cX5_count 60 = .ok (.aload_n 0, 1) := by decide +kernel
theorem dX5_count_61 : decode cX5_count 61 = .ok (.getfield 28, 3) := by decide +kernel
theorem dX5_count_64 : decode cX5_count 64 = .ok (.getfield 81, 3) := by decide +kernel
theorem dX5_count_67 : decode cX5_count 67 = .ok (.ireturn, 1) := by decide +kernel
theorem dX5_count_68 : decode cX5_count 68 = .ok (.aload_n 0, 1) := by decide +kernel
theorem dX5_count_69 : decode cX5_count 69 = .ok (.getfield 21, 3) := by decide +kernel
theorem dX5_count_72 : decode cX5_count 72 = .ok (.getfield 84, 3) := by decide +kernel
theorem dX5_count_75 : decode cX5_count 75 = .ok (.ireturn, 1) := by decide +kernel
theorem dX5_count_76 : decode cX5_count 76 = .ok (.bipush (-2), 2) := by decide +kernel
theorem dX5_count_78 : decode cX5_count 78 = .ok (.ireturn, 1) := by decide +kernel
theorem dX5_judge_0 : decode cX5_judge 0 = .ok (.iload_n 1, 1) := by decide +kernel
theorem dX5_judge_1 : decode cX5_judge 1 = .ok (.bipush 20, 2) := by decide +kernel
theorem dX5_judge_3 : decode cX5_judge 3 = .ok (.invokestatic 86, 3) := by decide +kernel
theorem dX5_judge_6 : decode cX5_judge 6 = .ok (.ifCond .ne 6, 3) := by decide +kernel
theorem dX5_judge_9 : decode cX5_judge 9 = .ok (.bipush (-2), 2) := by decide +kernel
theorem dX5_judge_11 : decode cX5_judge 11 = .ok (.ireturn, 1) := by decide +kernel
theorem dX5_judge_12 : decode cX5_judge 12 = .ok (.aload_n 0, 1) := by decide +kernel
theorem dX5_judge_13 : decode cX5_judge 13 = .ok (.getfield 28, 3) := by decide +kernel
theorem dX5_judge_16 : decode cX5_judge 16 = .ok (.iload_n 1, 1) := by decide +kernel
theorem dX5_judge_17 : decode cX5_judge 17 = .ok (.invokevirtual 90, 3) := by decide +kernel
theorem dX5_judge_20 : decode cX5_judge 20 = .ok (.ireturn, 1) := by decide +kernel
theorem dX5_shoe_0 : decode cX5_shoe 0 = .ok (.aload_n 0, 1) := by decide +kernel
theorem dX5_shoe_1 : decode cX5_shoe 1 = .ok (.getfield 28, 3) := by decide +kernel
theorem dX5_shoe_4 : decode cX5_shoe 4 = .ok (.iload_n 1, 1) := by decide +kernel
theorem dX5_shoe_5 : decode cX5_shoe 5 = .ok (.invokevirtual 94, 3) := by decide +kernel
theorem dX5_shoe_8 : decode cX5_shoe 8 = .ok (.ifCond .ne 6, 3) := by decide +kernel
theorem dX5_shoe_11 : decode cX5_shoe 11 = .ok (.bipush (-5), 2) := by decide +kernel
theorem dX5_shoe_13 : decode cX5_shoe 13 = .ok (.ireturn, 1) := by decide +kernel
theorem dX5_bench_0 : decode cX5_bench 0 = .ok (.aload_n 0, 1) := by decide +kernel
theorem dX5_bench_1 : decode cX5_bench 1 = .ok (.getfield 28, 3) := by decide +kernel
theorem dX5_bench_4 : decode cX5_bench 4 = .ok (.iload_n 1, 1) := by decide +kernel
theorem dX5_bench_5 : decode cX5_bench 5 = .ok (.invokevirtual 94, 3) := by decide +kernel
theorem dX5_bench_8 : decode cX5_bench 8 = .ok (.ifCond .ne 6, 3) := by decide +kernel
theorem dX5_bench_11 : decode cX5_bench 11 = .ok (.bipush (-5), 2) := by decide +kernel
theorem dX5_bench_13 : decode cX5_bench 13 = .ok (.ireturn, 1) := by decide +kernel
theorem dX5_feed_0 : decode cX5_feed 0 = .ok (.iload_n 1, 1) := by decide +kernel
theorem dX5_feed_1 : decode cX5_feed 1 = .ok (.iconst 1, 1) := by decide +kernel
theorem dX5_feed_2 : decode cX5_feed 2 = .ok (.if_icmp .lt 46, 3) := by decide +kernel
theorem dX5_feed_5 : decode cX5_feed 5 = .ok (.iload_n 1, 1) := by decide +kernel
theorem dX5_feed_6 : decode cX5_feed 6 = .ok (.iconst 5, 1) := by decide +kernel
theorem dX5_feed_7 : decode cX5_feed 7 = .ok (.if_icmp .gt 41, 3) := by decide +kernel
theorem dX5_feed_10 : decode cX5_feed 10 = .ok (.iload_n 2, 1) := by decide +kernel
theorem dX5_feed_11 : decode cX5_feed 11 = .ok (.invokestatic 108, 3) := by decide +kernel
theorem dX5_feed_14 : decode cX5_feed 14 = .ok (.ifCond .eq 34, 3) := by decide +kernel
theorem dX5_feed_17 : decode cX5_feed 17 = .ok (.iload_n 3, 1) := by decide +kernel
theorem dX5_feed_18 : decode cX5_feed 18 = .ok (.invokestatic 108, 3) := by decide +kernel
theorem dX5_feed_21 : decode cX5_feed 21 = .ok (.ifCond .eq 27, 3) := by decide +kernel
theorem dX5_feed_24 : decode cX5_feed 24 = .ok (.iload 4, 2) := by decide +kernel
theorem dX5_feed_26 : decode cX5_feed 26 = .ok (.invokestatic 108, 3) := by decide +kernel
theorem dX5_feed_29 : decode cX5_feed 29 = .ok (.ifCond .eq 19, 3) := by decide +kernel
theorem dX5_feed_32 : decode cX5_feed 32 = .ok (.iload 5, 2) := by decide +kernel
theorem dX5_feed_34 : decode cX5_feed 34 = .ok (.invokestatic 108, 3) := by decide +kernel
theorem dX5_feed_37 : decode cX5_feed 37 = .ok (.ifCond .eq 11, 3) := by decide +kernel
theorem dX5_feed_40 : decode cX5_feed 40 = .ok (.iload 6, 2) := by decide +kernel
theorem dX5_feed_42 : decode cX5_feed 42 = .ok (.invokestatic 108, 3) := by decide +kernel
theorem dX5_feed_45 : decode cX5_feed 45 = .ok (.ifCond .ne 6, 3) := by decide +kernel
theorem dX5_feed_48 : decode cX5_feed 48 = .ok (.bipush (-2), 2) := by decide +kernel
theorem dX5_feed_50 : decode cX5_feed 50 = .ok (.ireturn, 1) := by decide +kernel
theorem dX5_feed_51 : decode cX5_feed 51 = .ok (.aload_n 0, 1) := by decide +kernel
theorem dX5_feed_52 : decode cX5_feed 52 = .ok (.getfield 21, 3) := by decide +kernel
theorem dX5_feed_55 : decode cX5_feed 55 = .ok (.getfield 84, 3) := by decide +kernel
theorem dX5_feed_58 : decode cX5_feed 58 = .ok (.iload_n 1, 1) := by decide +kernel
theorem dX5_feed_59 : decode cX5_feed 59 = .ok (.iadd, 1) := by decide +kernel
theorem dX5_feed_60 : decode cX5_feed 60 = .ok (.sipush 160, 3) := by decide +kernel
theorem dX5_feed_63 : decode cX5_feed 63 = .ok (.if_icmp .le 6, 3) := by decide +kernel
theorem dX5_feed_69 : decode cX5_feed 69 = .ok (.iconst 0, 1) := by decide +kernel
theorem dX5_feed_70 : decode cX5_feed 70 = .ok (.istore 7, 2) := by decide +kernel
theorem dX5_feed_72 : decode cX5_feed 72 = .ok (.iload 7, 2) := by decide +kernel
theorem dX5_feed_74 : decode cX5_feed 74 = .ok (.iload_n 1, 1) := by decide +kernel
theorem dX5_feed_75 : decode cX5_feed 75 = .ok (.if_icmp .ge 59, 3) := by decide +kernel
theorem dX5_feed_78 : decode cX5_feed 78 = .ok (.aload_n 0, 1) := by decide +kernel
theorem dX5_feed_79 : decode cX5_feed 79 = .ok (.getfield 21, 3) := by decide +kernel
theorem dX5_feed_82 : decode cX5_feed 82 = .ok (.iload 7, 2) := by decide +kernel
theorem dX5_feed_84 : decode cX5_feed 84 = .ok (.ifCond .ne 7, 3) := by decide +kernel
theorem dX5_feed_87 : decode cX5_feed 87 = .ok (.iload_n 2, 1) := by decide +kernel
theorem dX5_feed_88 : decode cX5_feed 88 = .ok (.goto 37, 3) := by decide +kernel
theorem dX5_feed_91 : decode cX5_feed 91 = .ok (.iload 7, 2) := by decide +kernel
theorem dX5_feed_93 : decode cX5_feed 93 = .ok (.iconst 1, 1) := by decide +kernel
theorem dX5_feed_94 : decode cX5_feed 94 = .ok (.if_icmp .ne 7, 3) := by decide +kernel
theorem dX5_feed_97 : decode cX5_feed 97 = .ok (.iload_n 3, 1) := by decide +kernel
theorem dX5_feed_98 : decode cX5_feed 98 = .ok (.goto 27, 3) := by decide +kernel
theorem dX5_feed_101 : decode cX5_feed 101 = .ok (.iload 7, 2) := by decide +kernel
theorem dX5_feed_103 : decode cX5_feed 103 = .ok (.iconst 2, 1) := by decide +kernel
theorem dX5_feed_104 : decode cX5_feed 104 = .ok (.if_icmp .ne 8, 3) := by decide +kernel
theorem dX5_feed_107 : decode cX5_feed 107 = .ok (.iload 4, 2) := by decide +kernel
theorem dX5_feed_109 : decode cX5_feed 109 = .ok (.goto 16, 3) := by decide +kernel
theorem dX5_feed_112 : decode cX5_feed 112 = .ok (.iload 7, 2) := by decide +kernel
theorem dX5_feed_114 : decode cX5_feed 114 = .ok (.iconst 3, 1) := by decide +kernel
theorem dX5_feed_115 : decode cX5_feed 115 = .ok (.if_icmp .ne 8, 3) := by decide +kernel
theorem dX5_feed_118 : decode cX5_feed 118 = .ok (.iload 5, 2) := by decide +kernel
theorem dX5_feed_120 : decode cX5_feed 120 = .ok (.goto 5, 3) := by decide +kernel
theorem dX5_feed_123 : decode cX5_feed 123 = .ok (.iload 6, 2) := by decide +kernel
theorem dX5_feed_125 : decode cX5_feed 125 = .ok (.invokevirtual 64, 3) := by decide +kernel
theorem dX5_feed_128 : decode cX5_feed 128 = .ok (.iinc 7 1, 3) := by decide +kernel
theorem dX5_feed_131 : decode cX5_feed 131 = .ok (.goto (-59), 3) := by decide +kernel
theorem dX5_feed_134 : decode cX5_feed 134 = .ok (.aload_n 0, 1) := by decide +kernel
theorem dX5_feed_135 : decode cX5_feed 135 = .ok (.getfield 21, 3) := by decide +kernel
theorem dX5_feed_138 : decode cX5_feed 138 = .ok (.getfield 84, 3) := by decide +kernel
theorem dX5_feed_141 : decode cX5_feed 141 = .ok (.ireturn, 1) := by decide +kernel
theorem dX5_text_0 : decode cX5_text 0 = .ok (.aload_n 0, 1) := by decide +kernel
theorem dX5_text_1 : decode cX5_text 1 = .ok (.getfield 10, 3) := by decide +kernel
theorem dX5_text_4 : decode cX5_text 4 = .ok (.getfield 78, 3) := by decide +kernel
theorem dX5_text_7 : decode cX5_text 7 = .ok (.bipush 6, 2) := by decide +kernel
theorem dX5_text_9 : decode cX5_text 9 = .ok (.if_icmp .lt 6, 3) := by decide +kernel
theorem dX5_text_15 : decode cX5_text 15 = .ok (.aload_n 0, 1) := by decide +kernel
theorem dX5_text_16 : decode cX5_text 16 = .ok (.getfield 21, 3) := by decide +kernel
theorem dX5_text_19 : decode cX5_text 19 = .ok (.invokevirtual 68, 3) := by decide +kernel
theorem dX5_text_22 : decode cX5_text 22 = .ok (.ireturn, 1) := by decide +kernel
theorem dX5_force_0 : decode cX5_force 0 = .ok (.iload_n 1, 1) := by decide +kernel
theorem dX5_force_1 : decode cX5_force 1 = .ok (.ifCond .lt 14, 3) := by decide +kernel
theorem dX5_force_4 : decode cX5_force 4 = .ok (.iload_n 1, 1) := by decide +kernel
theorem dX5_force_5 : decode cX5_force 5 = .ok (.aload_n 0, 1) := by decide +kernel
theorem dX5_force_6 : decode cX5_force 6 = .ok (.getfield 10, 3) := by decide +kernel
theorem dX5_force_9 : decode cX5_force 9 = .ok (.getfield 78, 3) := by decide +kernel
theorem dX5_force_12 : decode cX5_force 12 = .ok (.if_icmp .lt 6, 3) := by decide +kernel
theorem dX5_force_15 : decode cX5_force 15 = .ok (.bipush (-2), 2) := by decide +kernel
theorem dX5_force_17 : decode cX5_force 17 = .ok (.ireturn, 1) := by decide +kernel
theorem dX5_force_18 : decode cX5_force 18 = .ok (.aload_n 0, 1) := by decide +kernel
theorem dX5_force_19 : decode cX5_force 19 = .ok (.getfield 28, 3) := by decide +kernel
theorem dX5_force_22 : decode cX5_force 22 = .ok (.getfield 81, 3) := by decide +kernel
theorem dX5_force_25 : decode cX5_force 25 = .ok (.istore_n 2, 1) := by decide +kernel
theorem dX5_force_26 : decode cX5_force 26 = .ok (.aload_n 0, 1) := by decide +kernel
theorem dX5_force_27 : decode cX5_force 27 = .ok (.getfield 28, 3) := by decide +kernel
theorem dX5_force_30 : decode cX5_force 30 = .ok (.iload_n 1, 1) := by decide +kernel
theorem dX5_force_31 : decode cX5_force 31 = .ok (.putfield 81, 3) := by decide +kernel
theorem dX5_force_34 : decode cX5_force 34 = .ok (.iload_n 2, 1) := by decide +kernel
theorem dX5_force_35 : decode cX5_force 35 = .ok (.ireturn, 1) := by decide +kernel
theorem dX5_asks_0 : decode cX5_asks 0 = .ok (.iload_n 1, 1) := by decide +kernel
theorem dX5_asks_1 : decode cX5_asks 1 = .ok (.iconst 2, 1) := by decide +kernel
theorem dX5_asks_2 : decode cX5_asks 2 = .ok (.invokestatic 86, 3) := by decide +kernel
theorem dX5_asks_5 : decode cX5_asks 5 = .ok (.ifCond .eq 25, 3) := by decide +kernel
theorem dX5_asks_8 : decode cX5_asks 8 = .ok (.aload_n 0, 1) := by decide +kernel
theorem dX5_asks_9 : decode cX5_asks 9 = .ok (.getfield 28, 3) := by decide +kernel
theorem dX5_asks_12 : decode cX5_asks 12 = .ok (.iload_n 2, 1) := by decide +kernel
theorem dX5_asks_13 : decode cX5_asks 13 = .ok (.invokevirtual 94, 3) := by decide +kernel
theorem dX5_asks_16 : decode cX5_asks 16 = .ok (.ifCond .eq 14, 3) := by decide +kernel
theorem dX5_asks_30 : decode cX5_asks 30 = .ok (.bipush (-2), 2) := by decide +kernel
theorem dX5_asks_32 : decode cX5_asks 32 = .ok (.ireturn, 1) := by decide +kernel
theorem dX5_pebble_0 : decode cX5_pebble 0 = .ok (.iload_n 1, 1) := by decide +kernel
theorem dX5_pebble_1 : decode cX5_pebble 1 = .ok (.bipush 59, 2) := by decide +kernel
theorem dX5_pebble_3 : decode cX5_pebble 3 = .ok (.invokestatic 86, 3) := by decide +kernel
theorem dX5_pebble_6 : decode cX5_pebble 6 = .ok (.ifCond .eq 13, 3) := by decide +kernel
theorem dX5_pebble_9 : decode cX5_pebble 9 = .ok (.iload_n 2, 1) := by decide +kernel
theorem dX5_pebble_10 : decode cX5_pebble 10 = .ok (.sipush 9999, 3) := by decide +kernel
theorem dX5_pebble_13 : decode cX5_pebble 13 = .ok (.invokestatic 86, 3) := by decide +kernel
theorem dX5_pebble_16 : decode cX5_pebble 16 = .ok (.ifCond .ne 6, 3) := by decide +kernel
theorem dX5_pebble_19 : decode cX5_pebble 19 = .ok (.bipush (-2), 2) := by decide +kernel
theorem dX5_pebble_21 : decode cX5_pebble 21 = .ok (.ireturn, 1) := by decide +kernel
theorem dX5_pebble_22 : decode cX5_pebble 22 = .ok (.aload_n 0, 1) := by decide +kernel
theorem dX5_pebble_23 : decode cX5_pebble 23 = .ok (.getfield 28, 3) := by decide +kernel
theorem dX5_pebble_26 : decode cX5_pebble 26 = .ok (.iload_n 1, 1) := by decide +kernel
theorem dX5_pebble_27 : decode cX5_pebble 27 = .ok (.iload_n 2, 1) := by decide +kernel
theorem dX5_pebble_28 : decode cX5_pebble 28 = .ok (.invokevirtual 118, 3) := by decide +kernel
theorem dX5_pebble_31 : decode cX5_pebble 31 = .ok (.ireturn, 1) := by decide +kernel
theorem dX5_put_0 : decode cX5_put 0 = .ok (.aload_n 0, 1) := by decide +kernel
theorem dX5_put_1 : decode cX5_put 1 = .ok (.getfield 28, 3) := by decide +kernel
theorem dX5_put_4 : decode cX5_put 4 = .ok (.iload_n 1, 1) := by decide +kernel
theorem dX5_put_5 : decode cX5_put 5 = .ok (.invokevirtual 111, 3) := by decide +kernel
theorem dX5_put_8 : decode cX5_put 8 = .ok (.ifCond .ne 6, 3) := by decide +kernel
theorem dX5_put_11 : decode cX5_put 11 = .ok (.bipush (-5), 2) := by decide +kernel
theorem dX5_put_13 : decode cX5_put 13 = .ok (.ireturn, 1) := by decide +kernel
theorem dX5_told_0 : decode cX5_told 0 = .ok (.aload_n 0, 1) := by decide +kernel
theorem dX5_told_1 : decode cX5_told 1 = .ok (.getfield 28, 3) := by decide +kernel
theorem dX5_told_4 : decode cX5_told 4 = .ok (.iload_n 1, 1) := by decide +kernel
theorem dX5_told_5 : decode cX5_told 5 = .ok (.invokevirtual 111, 3) := by decide +kernel
theorem dX5_told_8 : decode cX5_told 8 = .ok (.ifCond .ne 6, 3) := by decide +kernel
theorem dX5_told_11 : decode cX5_told 11 = .ok (.bipush (-5), 2) := by decide +kernel
theorem dX5_told_13 : decode cX5_told 13 = .ok (.ireturn, 1) := by decide +kernel
theorem dX5_walk_0 : decode cX5_walk 0 = .ok (.aload_n 0, 1) := by decide +kernel
theorem dX5_walk_1 : decode cX5_walk 1 = .ok (.getfield 28, 3) := by decide +kernel
theorem dX5_walk_4 : decode cX5_walk 4 = .ok (.iload_n 1, 1) := by decide +kernel
theorem dX5_walk_5 : decode cX5_walk 5 = .ok (.iload_n 2, 1) := by decide +kernel
theorem dX5_walk_6 : decode cX5_walk 6 = .ok (.invokevirtual 137, 3) := by decide +kernel
theorem dX5_walk_9 : decode cX5_walk 9 = .ok (.ifCond .ne 6, 3) := by decide +kernel
theorem dX5_walk_12 : decode cX5_walk 12 = .ok (.bipush (-5), 2) := by decide +kernel
theorem dX5_walk_14 : decode cX5_walk 14 = .ok (.ireturn, 1) := by decide +kernel
theorem dX5_hear_0 : decode cX5_hear 0 = .ok (.aload_n 0, 1) := by decide +kernel
theorem dX5_hear_1 : decode cX5_hear 1 = .ok (.getfield 28, 3) := by decide +kernel
theorem dX5_hear_4 : decode cX5_hear 4 = .ok (.iload_n 1, 1) := by decide +kernel
theorem dX5_hear_5 : decode cX5_hear 5 = .ok (.iload_n 2, 1) := by decide +kernel
theorem dX5_hear_6 : decode cX5_hear 6 = .ok (.invokevirtual 137, 3) := by decide +kernel
theorem dX5_hear_9 : decode cX5_hear 9 = .ok (.ifCond .ne 6, 3) := by decide +kernel
theorem dX5_hear_12 : decode cX5_hear 12 = .ok (.bipush (-5), 2) := by decide +kernel
theorem dX5_hear_14 : decode cX5_hear 14 = .ok (.ireturn, 1) := by decide +kernel
theorem dX5_fewest_0 : decode cX5_fewest 0 = .ok (.aload_n 0, 1) := by decide +kernel
theorem dX5_fewest_1 : decode cX5_fewest 1 = .ok (.getfield 28, 3) := by decide +kernel
theorem dX5_fewest_4 : decode cX5_fewest 4 = .ok (.iload_n 1, 1) := by decide +kernel
theorem dX5_fewest_5 : decode cX5_fewest 5 = .ok (.iload_n 2, 1) := by decide +kernel
theorem dX5_fewest_6 : decode cX5_fewest 6 = .ok (.invokevirtual 137, 3) := by decide +kernel
theorem dX5_fewest_9 : decode cX5_fewest 9 = .ok (.ifCond .ne 6, 3) := by decide +kernel
theorem dX5_fewest_12 : decode cX5_fewest 12 = .ok (.bipush (-5), 2) := by decide +kernel
theorem dX5_fewest_14 : decode cX5_fewest 14 = .ok (.ireturn, 1) := by decide +kernel
theorem dX5_sand_0 : decode cX5_sand 0 = .ok (.aload_n 0, 1) := by decide +kernel
theorem dX5_sand_1 : decode cX5_sand 1 = .ok (.getfield 28, 3) := by decide +kernel
theorem dX5_sand_4 : decode cX5_sand 4 = .ok (.iload_n 1, 1) := by decide +kernel
theorem dX5_sand_5 : decode cX5_sand 5 = .ok (.iload_n 2, 1) := by decide +kernel
theorem dX5_sand_6 : decode cX5_sand 6 = .ok (.invokevirtual 137, 3) := by decide +kernel
theorem dX5_sand_9 : decode cX5_sand 9 = .ok (.ifCond .ne 6, 3) := by decide +kernel
theorem dX5_sand_12 : decode cX5_sand 12 = .ok (.bipush (-5), 2) := by decide +kernel
theorem dX5_sand_14 : decode cX5_sand 14 = .ok (.ireturn, 1) := by decide +kernel
theorem dX5_unlike_0 : decode cX5_unlike 0 = .ok (.aload_n 0, 1) := by decide +kernel
theorem dX5_unlike_1 : decode cX5_unlike 1 = .ok (.getfield 28, 3) := by decide +kernel
theorem dX5_unlike_4 : decode cX5_unlike 4 = .ok (.iload_n 1, 1) := by decide +kernel
theorem dX5_unlike_5 : decode cX5_unlike 5 = .ok (.iload_n 3, 1) := by decide +kernel
theorem dX5_unlike_6 : decode cX5_unlike 6 = .ok (.invokevirtual 137, 3) := by decide +kernel
theorem dX5_unlike_9 : decode cX5_unlike 9 = .ok (.ifCond .eq 19, 3) := by decide +kernel
theorem dX5_unlike_28 : decode cX5_unlike 28 = .ok (.bipush (-5), 2) := by decide +kernel
theorem dX5_unlike_30 : decode cX5_unlike 30 = .ok (.ireturn, 1) := by decide +kernel
theorem dX5_hardest_0 : decode cX5_hardest 0 = .ok (.iload_n 1, 1) := by decide +kernel
theorem dX5_hardest_1 : decode cX5_hardest 1 = .ok (.bipush 60, 2) := by decide +kernel
theorem dX5_hardest_3 : decode cX5_hardest 3 = .ok (.invokestatic 86, 3) := by decide +kernel
theorem dX5_hardest_6 : decode cX5_hardest 6 = .ok (.ifCond .eq 11, 3) := by decide +kernel
theorem dX5_hardest_9 : decode cX5_hardest 9 = .ok (.iload_n 2, 1) := by decide +kernel
theorem dX5_hardest_10 : decode cX5_hardest 10 = .ok (.iconst 1, 1) := by decide +kernel
theorem dX5_hardest_11 : decode cX5_hardest 11 = .ok (.invokestatic 86, 3) := by decide +kernel
theorem dX5_hardest_14 : decode cX5_hardest 14 = .ok (.ifCond .ne 6, 3) := by decide +kernel
theorem dX5_hardest_17 : decode cX5_hardest 17 = .ok (.bipush (-2), 2) := by decide +kernel
theorem dX5_hardest_19 : decode cX5_hardest 19 = .ok (.ireturn, 1) := by decide +kernel
theorem dX5_hardest_20 : decode cX5_hardest 20 = .ok (.iconst (-1), 1) := by decide +kernel
theorem dX5_hardest_21 : decode cX5_hardest 21 = .ok (.istore_n 3, 1) := by decide +kernel
theorem dX5_hardest_22 : decode cX5_hardest 22 = .ok (.iconst (-1), 1) := by decide +kernel
theorem dX5_hardest_23 : decode cX5_hardest 23 = .ok (.istore 4, 2) := by decide +kernel
theorem dX5_hardest_25 : decode cX5_hardest 25 = .ok (.iconst 0, 1) := by decide +kernel
theorem dX5_hardest_26 : decode cX5_hardest 26 = .ok (.istore 5, 2) := by decide +kernel
theorem dX5_hardest_28 : decode cX5_hardest 28 = .ok (.iload 5, 2) := by decide +kernel
theorem dX5_hardest_30 : decode cX5_hardest 30 = .ok (.aload_n 0, 1) := by decide +kernel
theorem dX5_hardest_31 : decode cX5_hardest 31 = .ok (.getfield 28, 3) := by decide +kernel
theorem dX5_hardest_34 : decode cX5_hardest 34 = .ok (.getfield 75, 3) := by decide +kernel
theorem dX5_hardest_37 : decode cX5_hardest 37 = .ok (.if_icmp .ge 32, 3) := by decide +kernel
theorem dX5_hardest_69 : decode cX5_hardest 69 = .ok (.iload_n 2, 1) := by decide +kernel
theorem dX5_hardest_70 : decode cX5_hardest 70 = .ok (.ifCond .ne 7, 3) := by decide +kernel
theorem dX5_hardest_73 : decode cX5_hardest 73 = .ok (.iload_n 3, 1) := by decide +kernel
theorem dX5_hardest_74 : decode cX5_hardest 74 = .ok (.goto 5, 3) := by decide +kernel
theorem dX5_hardest_77 : decode cX5_hardest 77 = .ok (.iload 4, 2) := by decide +kernel
theorem dX5_hardest_79 : decode cX5_hardest 79 = .ok (.ireturn, 1) := by decide +kernel
theorem dX5_thick_0 : decode cX5_thick 0 = .ok (.aload_n 0, 1) := by decide +kernel
theorem dX5_thick_1 : decode cX5_thick 1 = .ok (.getfield 28, 3) := by decide +kernel
theorem dX5_thick_4 : decode cX5_thick 4 = .ok (.iload_n 1, 1) := by decide +kernel
theorem dX5_thick_5 : decode cX5_thick 5 = .ok (.iload_n 2, 1) := by decide +kernel
theorem dX5_thick_6 : decode cX5_thick 6 = .ok (.invokevirtual 137, 3) := by decide +kernel
theorem dX5_thick_9 : decode cX5_thick 9 = .ok (.ifCond .ne 6, 3) := by decide +kernel
theorem dX5_thick_12 : decode cX5_thick 12 = .ok (.bipush (-5), 2) := by decide +kernel
theorem dX5_thick_14 : decode cX5_thick 14 = .ok (.ireturn, 1) := by decide +kernel
theorem dX5_order_0 : decode cX5_order 0 = .ok (.aload_n 0, 1) := by decide +kernel
theorem dX5_order_1 : decode cX5_order 1 = .ok (.getfield 28, 3) := by decide +kernel
theorem dX5_order_4 : decode cX5_order 4 = .ok (.iload_n 1, 1) := by decide +kernel
theorem dX5_order_5 : decode cX5_order 5 = .ok (.invokevirtual 94, 3) := by decide +kernel
theorem dX5_order_8 : decode cX5_order 8 = .ok (.ifCond .ne 6, 3) := by decide +kernel
theorem dX5_order_11 : decode cX5_order 11 = .ok (.bipush (-5), 2) := by decide +kernel
theorem dX5_order_13 : decode cX5_order 13 = .ok (.ireturn, 1) := by decide +kernel
theorem dX5_counsel_0 : decode cX5_counsel 0 = .ok (.aload_n 0, 1) := by decide +kernel
theorem dX5_counsel_1 : decode cX5_counsel 1 = .ok (.getfield 28, 3) := by decide +kernel
theorem dX5_counsel_4 : decode cX5_counsel 4 = .ok (.iload_n 1, 1) := by decide +kernel
theorem dX5_counsel_5 : decode cX5_counsel 5 = .ok (.invokevirtual 94, 3) := by decide +kernel
theorem dX5_counsel_8 : decode cX5_counsel 8 = .ok (.ifCond .ne 6, 3) := by decide +kernel
theorem dX5_counsel_11 : decode cX5_counsel 11 = .ok (.bipush (-5), 2) := by decide +kernel
theorem dX5_counsel_13 : decode cX5_counsel 13 = .ok (.ireturn, 1) := by decide +kernel
theorem dX5_reversed_0 : decode cX5_reversed 0 = .ok (.aload_n 0, 1) := by decide +kernel
theorem dX5_reversed_1 : decode cX5_reversed 1 = .ok (.iload_n 1, 1) := by decide +kernel
theorem dX5_reversed_2 : decode cX5_reversed 2 = .ok (.iload_n 2, 1) := by decide +kernel
theorem dX5_reversed_3 : decode cX5_reversed 3 = .ok (.invokevirtual 187, 3) := by decide +kernel
theorem dX5_reversed_6 : decode cX5_reversed 6 = .ok (.istore_n 3, 1) := by decide +kernel
theorem dX5_reversed_7 : decode cX5_reversed 7 = .ok (.iload_n 3, 1) := by decide +kernel
theorem dX5_reversed_8 : decode cX5_reversed 8 = .ok (.ifCond .eq 5, 3) := by decide +kernel
theorem dX5_reversed_11 : decode cX5_reversed 11 = .ok (.iload_n 3, 1) := by decide +kernel
theorem dX5_reversed_12 : decode cX5_reversed 12 = .ok (.ireturn, 1) := by decide +kernel
theorem dX5_kinds_0 : decode cX5_kinds 0 = .ok (.aload_n 0, 1) := by decide +kernel
theorem dX5_kinds_1 : decode cX5_kinds 1 = .ok (.iload_n 1, 1) := by decide +kernel
theorem dX5_kinds_2 : decode cX5_kinds 2 = .ok (.iload_n 2, 1) := by decide +kernel
theorem dX5_kinds_3 : decode cX5_kinds 3 = .ok (.invokevirtual 187, 3) := by decide +kernel
theorem dX5_kinds_6 : decode cX5_kinds 6 = .ok (.istore 5, 2) := by decide +kernel
theorem dX5_kinds_8 : decode cX5_kinds 8 = .ok (.iload 5, 2) := by decide +kernel
theorem dX5_kinds_10 : decode cX5_kinds 10 = .ok (.ifCond .eq 6, 3) := by decide +kernel
theorem dX5_kinds_13 : decode cX5_kinds 13 = .ok (.iload 5, 2) := by decide +kernel
theorem dX5_kinds_15 : decode cX5_kinds 15 = .ok (.ireturn, 1) := by decide +kernel
theorem dX5_soled_0 : decode cX5_soled 0 = .ok (.aload_n 0, 1) := by decide +kernel
theorem dX5_soled_1 : decode cX5_soled 1 = .ok (.iload_n 1, 1) := by decide +kernel
theorem dX5_soled_2 : decode cX5_soled 2 = .ok (.iload_n 2, 1) := by decide +kernel
theorem dX5_soled_3 : decode cX5_soled 3 = .ok (.invokevirtual 187, 3) := by decide +kernel
theorem dX5_soled_6 : decode cX5_soled 6 = .ok (.istore_n 3, 1) := by decide +kernel
theorem dX5_soled_7 : decode cX5_soled 7 = .ok (.iload_n 3, 1) := by decide +kernel
theorem dX5_soled_8 : decode cX5_soled 8 = .ok (.ifCond .eq 5, 3) := by decide +kernel
theorem dX5_soled_11 : decode cX5_soled 11 = .ok (.iload_n 3, 1) := by decide +kernel
theorem dX5_soled_12 : decode cX5_soled 12 = .ok (.ireturn, 1) := by decide +kernel
theorem dX5_sizes_0 : decode cX5_sizes 0 = .ok (.aload_n 0, 1) := by decide +kernel
theorem dX5_sizes_1 : decode cX5_sizes 1 = .ok (.iload_n 1, 1) := by decide +kernel
theorem dX5_sizes_2 : decode cX5_sizes 2 = .ok (.iload_n 2, 1) := by decide +kernel
theorem dX5_sizes_3 : decode cX5_sizes 3 = .ok (.invokevirtual 187, 3) := by decide +kernel
theorem dX5_sizes_6 : decode cX5_sizes 6 = .ok (.istore 5, 2) := by decide +kernel
theorem dX5_sizes_8 : decode cX5_sizes 8 = .ok (.iload 5, 2) := by decide +kernel
theorem dX5_sizes_10 : decode cX5_sizes 10 = .ok (.ifCond .eq 6, 3) := by decide +kernel
theorem dX5_sizes_13 : decode cX5_sizes 13 = .ok (.iload 5, 2) := by decide +kernel
theorem dX5_sizes_15 : decode cX5_sizes 15 = .ok (.ireturn, 1) := by decide +kernel
theorem dX5_whose_0 : decode cX5_whose 0 = .ok (.aload_n 0, 1) := by decide +kernel
theorem dX5_whose_1 : decode cX5_whose 1 = .ok (.iload_n 1, 1) := by decide +kernel
theorem dX5_whose_2 : decode cX5_whose 2 = .ok (.invokevirtual 193, 3) := by decide +kernel
theorem dX5_whose_5 : decode cX5_whose 5 = .ok (.istore_n 2, 1) := by decide +kernel
theorem dX5_whose_6 : decode cX5_whose 6 = .ok (.iload_n 2, 1) := by decide +kernel
theorem dX5_whose_7 : decode cX5_whose 7 = .ok (.ifCond .eq 5, 3) := by decide +kernel
theorem dX5_whose_10 : decode cX5_whose 10 = .ok (.iload_n 2, 1) := by decide +kernel
theorem dX5_whose_11 : decode cX5_whose 11 = .ok (.ireturn, 1) := by decide +kernel
theorem dX5_laws_0 : decode cX5_laws 0 = .ok (.aload_n 0, 1) := by decide +kernel
theorem dX5_laws_1 : decode cX5_laws 1 = .ok (.iload_n 1, 1) := by decide +kernel
theorem dX5_laws_2 : decode cX5_laws 2 = .ok (.iload_n 2, 1) := by decide +kernel
theorem dX5_laws_3 : decode cX5_laws 3 = .ok (.invokevirtual 187, 3) := by decide +kernel
theorem dX5_laws_6 : decode cX5_laws 6 = .ok (.istore_n 3, 1) := by decide +kernel
theorem dX5_laws_7 : decode cX5_laws 7 = .ok (.iload_n 3, 1) := by decide +kernel
theorem dX5_laws_8 : decode cX5_laws 8 = .ok (.ifCond .eq 5, 3) := by decide +kernel
theorem dX5_laws_11 : decode cX5_laws 11 = .ok (.iload_n 3, 1) := by decide +kernel
theorem dX5_laws_12 : decode cX5_laws 12 = .ok (.ireturn, 1) := by decide +kernel
theorem dX5_film_0 : decode cX5_film 0 = .ok (.aload_n 0, 1) := by decide +kernel
theorem dX5_film_1 : decode cX5_film 1 = .ok (.getfield 41, 3) := by decide +kernel
theorem dX5_film_4 : decode cX5_film 4 = .ok (.iload_n 1, 1) := by decide +kernel
theorem dX5_film_5 : decode cX5_film 5 = .ok (.invokevirtual 196, 3) := by decide +kernel
theorem dX5_film_8 : decode cX5_film 8 = .ok (.ifCond .ne 6, 3) := by decide +kernel
theorem dX5_film_11 : decode cX5_film 11 = .ok (.bipush (-2), 2) := by decide +kernel
theorem dX5_film_13 : decode cX5_film 13 = .ok (.ireturn, 1) := by decide +kernel
theorem dX5_film_14 : decode cX5_film 14 = .ok (.aload_n 0, 1) := by decide +kernel
theorem dX5_film_15 : decode cX5_film 15 = .ok (.getfield 28, 3) := by decide +kernel
theorem dX5_film_18 : decode cX5_film 18 = .ok (.iload_n 2, 1) := by decide +kernel
theorem dX5_film_19 : decode cX5_film 19 = .ok (.invokevirtual 94, 3) := by decide +kernel
theorem dX5_film_22 : decode cX5_film 22 = .ok (.ifCond .ne 6, 3) := by decide +kernel
theorem dX5_film_25 : decode cX5_film 25 = .ok (.bipush (-5), 2) := by decide +kernel
theorem dX5_film_27 : decode cX5_film 27 = .ok (.ireturn, 1) := by decide +kernel
theorem dX5_drawn_0 : decode cX5_drawn 0 = .ok (.aload_n 0, 1) := by decide +kernel
theorem dX5_drawn_1 : decode cX5_drawn 1 = .ok (.getfield 28, 3) := by decide +kernel
theorem dX5_drawn_4 : decode cX5_drawn 4 = .ok (.iload_n 2, 1) := by decide +kernel
theorem dX5_drawn_5 : decode cX5_drawn 5 = .ok (.iload_n 3, 1) := by decide +kernel
theorem dX5_drawn_6 : decode cX5_drawn 6 = .ok (.invokevirtual 137, 3) := by decide +kernel
theorem dX5_drawn_9 : decode cX5_drawn 9 = .ok (.ifCond .ne 6, 3) := by decide +kernel
theorem dX5_drawn_12 : decode cX5_drawn 12 = .ok (.bipush (-5), 2) := by decide +kernel
theorem dX5_drawn_14 : decode cX5_drawn 14 = .ok (.ireturn, 1) := by decide +kernel
theorem dX5_odds_0 : decode cX5_odds 0 = .ok (.iload_n 1, 1) := by decide +kernel
theorem dX5_odds_1 : decode cX5_odds 1 = .ok (.ldc 206, 2) := by decide +kernel
theorem dX5_odds_3 : decode cX5_odds 3 = .ok (.invokestatic 86, 3) := by decide +kernel
theorem dX5_odds_6 : decode cX5_odds 6 = .ok (.ifCond .eq 23, 3) := by decide +kernel
theorem dX5_odds_9 : decode cX5_odds 9 = .ok (.iload_n 2, 1) := by decide +kernel
theorem dX5_odds_10 : decode cX5_odds 10 = .ok (.iconst 1, 1) := by decide +kernel
theorem dX5_odds_11 : decode cX5_odds 11 = .ok (.if_icmp .lt 18, 3) := by decide +kernel
theorem dX5_odds_14 : decode cX5_odds 14 = .ok (.iload_n 2, 1) := by decide +kernel
theorem dX5_odds_15 : decode cX5_odds 15 = .ok (.bipush 40, 2) := by decide +kernel
theorem dX5_odds_17 : decode cX5_odds 17 = .ok (.if_icmp .gt 12, 3) := by decide +kernel
theorem dX5_odds_20 : decode cX5_odds 20 = .ok (.iload 6, 2) := by decide +kernel
theorem dX5_odds_22 : decode cX5_odds 22 = .ok (.iconst 1, 1) := by decide +kernel
theorem dX5_odds_23 : decode cX5_odds 23 = .ok (.invokestatic 86, 3) := by decide +kernel
theorem dX5_odds_26 : decode cX5_odds 26 = .ok (.ifCond .ne 7, 3) := by decide +kernel
theorem dX5_odds_29 : decode cX5_odds 29 = .ok (.ldc2_w 213, 3) := by decide +kernel
theorem dX5_odds_32 : decode cX5_odds 32 = .ok (.lreturn, 1) := by decide +kernel
theorem dX5_odds_33 : decode cX5_odds 33 = .ok (.aload_n 0, 1) := by decide +kernel
theorem dX5_odds_34 : decode cX5_odds 34 = .ok (.getfield 28, 3) := by decide +kernel
theorem dX5_odds_37 : decode cX5_odds 37 = .ok (.iload_n 3, 1) := by decide +kernel
theorem dX5_odds_38 : decode cX5_odds 38 = .ok (.iload 4, 2) := by decide +kernel
theorem dX5_odds_40 : decode cX5_odds 40 = .ok (.invokevirtual 137, 3) := by decide +kernel
theorem dX5_odds_43 : decode cX5_odds 43 = .ok (.ifCond .eq 11, 3) := by decide +kernel
theorem dX5_odds_54 : decode cX5_odds 54 = .ok (.ldc2_w 213, 3) := by decide +kernel
theorem dX5_odds_57 : decode cX5_odds 57 = .ok (.lreturn, 1) := by decide +kernel
theorem dX5_image_0 : decode cX5_image 0 = .ok (.aload_n 0, 1) := by decide +kernel
theorem dX5_image_1 : decode cX5_image 1 = .ok (.getfield 35, 3) := by decide +kernel
theorem dX5_image_4 : decode cX5_image 4 = .ok (.aload_n 0, 1) := by decide +kernel
theorem dX5_image_5 : decode cX5_image 5 = .ok (.getfield 28, 3) := by decide +kernel
theorem dX5_image_8 : decode cX5_image 8 = .ok (.invokevirtual 218, 3) := by decide +kernel
theorem dX5_image_11 : decode cX5_image 11 = .ok (.aload_n 0, 1) := by decide +kernel
theorem dX5_image_12 : decode cX5_image 12 = .ok (.iconst 1, 1) := by decide +kernel
theorem dX5_image_13 : decode cX5_image 13 = .ok (.putfield 221, 3) := by decide +kernel
theorem dX5_image_16 : decode cX5_image 16 = .ok (.aload_n 0, 1) := by decide +kernel
theorem dX5_image_17 : decode cX5_image 17 = .ok (.getfield 28, 3) := by decide +kernel
theorem dX5_image_20 : decode cX5_image 20 = .ok (.getfield 71, 3) := by decide +kernel
theorem dX5_image_23 : decode cX5_image 23 = .ok (.ireturn, 1) := by decide +kernel
theorem dX5_back_0 : decode cX5_back 0 = .ok (.aload_n 0, 1) := by decide +kernel
theorem dX5_back_1 : decode cX5_back 1 = .ok (.getfield 221, 3) := by decide +kernel
theorem dX5_back_4 : decode cX5_back 4 = .ok (.ifCond .ne 6, 3) := by decide +kernel
theorem dX5_back_7 : decode cX5_back 7 = .ok (.bipush (-3), 2) := by decide +kernel
theorem dX5_back_9 : decode cX5_back 9 = .ok (.ireturn, 1) := by decide +kernel
theorem dX5_sheet_0 : decode cX5_sheet 0 = .ok (.aload_n 0, 1) := by decide +kernel
theorem dX5_sheet_1 : decode cX5_sheet 1 = .ok (.getfield 41, 3) := by decide +kernel
theorem dX5_sheet_4 : decode cX5_sheet 4 = .ok (.iload_n 1, 1) := by decide +kernel
theorem dX5_sheet_5 : decode cX5_sheet 5 = .ok (.invokevirtual 196, 3) := by decide +kernel
theorem dX5_sheet_8 : decode cX5_sheet 8 = .ok (.ifCond .eq 13, 3) := by decide +kernel
theorem dX5_sheet_11 : decode cX5_sheet 11 = .ok (.iload_n 2, 1) := by decide +kernel
theorem dX5_sheet_12 : decode cX5_sheet 12 = .ok (.iconst (-1), 1) := by decide +kernel
theorem dX5_sheet_13 : decode cX5_sheet 13 = .ok (.if_icmp .lt 8, 3) := by decide +kernel
theorem dX5_sheet_16 : decode cX5_sheet 16 = .ok (.iload_n 2, 1) := by decide +kernel
theorem dX5_sheet_17 : decode cX5_sheet 17 = .ok (.iconst 2, 1) := by decide +kernel
theorem dX5_sheet_18 : decode cX5_sheet 18 = .ok (.if_icmp .le 6, 3) := by decide +kernel
theorem dX5_sheet_21 : decode cX5_sheet 21 = .ok (.bipush (-2), 2) := by decide +kernel
theorem dX5_sheet_23 : decode cX5_sheet 23 = .ok (.ireturn, 1) := by decide +kernel
theorem dX5_sheet_24 : decode cX5_sheet 24 = .ok (.iload_n 2, 1) := by decide +kernel
theorem dX5_sheet_25 : decode cX5_sheet 25 = .ok (.iconst (-1), 1) := by decide +kernel
theorem dX5_sheet_26 : decode cX5_sheet 26 = .ok (.if_icmp .ne 15, 3) := by decide +kernel
theorem dX5_sheet_29 : decode cX5_sheet 29 = .ok (.aload_n 0, 1) := by decide +kernel
theorem dX5_sheet_30 : decode cX5_sheet 30 = .ok (.getfield 41, 3) := by decide +kernel
theorem dX5_sheet_33 : decode cX5_sheet 33 = .ok (.iload_n 1, 1) := by decide +kernel
theorem dX5_sheet_34 : decode cX5_sheet 34 = .ok (.iconst (-1), 1) := by decide +kernel
theorem dX5_sheet_35 : decode cX5_sheet 35 = .ok (.iconst 0, 1) := by decide +kernel
theorem dX5_sheet_36 : decode cX5_sheet 36 = .ok (.invokevirtual 199, 3) := by decide +kernel
theorem dX5_sheet_39 : decode cX5_sheet 39 = .ok (.iconst 1, 1) := by decide +kernel
theorem dX5_sheet_40 : decode cX5_sheet 40 = .ok (.ireturn, 1) := by decide +kernel
theorem dX5_sheet_41 : decode cX5_sheet 41 = .ok (.iload_n 3, 1) := by decide +kernel
theorem dX5_sheet_42 : decode cX5_sheet 42 = .ok (.bipush 40, 2) := by decide +kernel
theorem dX5_sheet_44 : decode cX5_sheet 44 = .ok (.if_icmp .le 6, 3) := by decide +kernel
theorem dX5_sheet_47 : decode cX5_sheet 47 = .ok (.bipush (-2), 2) := by decide +kernel
theorem dX5_sheet_49 : decode cX5_sheet 49 = .ok (.ireturn, 1) := by decide +kernel
theorem dX5_sheet_50 : decode cX5_sheet 50 = .ok (.iload_n 3, 1) := by decide +kernel
theorem dX5_sheet_51 : decode cX5_sheet 51 = .ok (.ifCond .ge 6, 3) := by decide +kernel
theorem dX5_sheet_54 : decode cX5_sheet 54 = .ok (.bipush (-14), 2) := by decide +kernel
theorem dX5_sheet_56 : decode cX5_sheet 56 = .ok (.ireturn, 1) := by decide +kernel
theorem dX5_sheet_57 : decode cX5_sheet 57 = .ok (.aload_n 0, 1) := by decide +kernel
theorem dX5_sheet_58 : decode cX5_sheet 58 = .ok (.getfield 41, 3) := by decide +kernel
theorem dX5_sheet_61 : decode cX5_sheet 61 = .ok (.iload_n 1, 1) := by decide +kernel
theorem dX5_sheet_62 : decode cX5_sheet 62 = .ok (.iload_n 2, 1) := by decide +kernel
theorem dX5_sheet_63 : decode cX5_sheet 63 = .ok (.iload_n 3, 1) := by decide +kernel
theorem dX5_sheet_64 : decode cX5_sheet 64 = .ok (.invokevirtual 199, 3) := by decide +kernel
theorem dX5_sheet_67 : decode cX5_sheet 67 = .ok (.iconst 1, 1) := by decide +kernel
theorem dX5_sheet_68 : decode cX5_sheet 68 = .ok (.ireturn, 1) := by decide +kernel
theorem dX5_cell_0 : decode cX5_cell 0 = .ok (.aload_n 0, 1) := by decide +kernel
theorem dX5_cell_1 : decode cX5_cell 1 = .ok (.getfield 41, 3) := by decide +kernel
theorem dX5_cell_4 : decode cX5_cell 4 = .ok (.iload_n 1, 1) := by decide +kernel
theorem dX5_cell_5 : decode cX5_cell 5 = .ok (.invokevirtual 196, 3) := by decide +kernel
theorem dX5_cell_8 : decode cX5_cell 8 = .ok (.ifCond .ne 6, 3) := by decide +kernel
theorem dX5_cell_11 : decode cX5_cell 11 = .ok (.bipush (-2), 2) := by decide +kernel
theorem dX5_cell_13 : decode cX5_cell 13 = .ok (.ireturn, 1) := by decide +kernel
theorem dX5_cell_14 : decode cX5_cell 14 = .ok (.aload_n 0, 1) := by decide +kernel
theorem dX5_cell_15 : decode cX5_cell 15 = .ok (.getfield 41, 3) := by decide +kernel
theorem dX5_cell_18 : decode cX5_cell 18 = .ok (.getfield 225, 3) := by decide +kernel
theorem dX5_cell_21 : decode cX5_cell 21 = .ok (.iload_n 1, 1) := by decide +kernel
theorem dX5_cell_22 : decode cX5_cell 22 = .ok (.iaload, 1) := by decide +kernel
theorem dX5_cell_23 : decode cX5_cell 23 = .ok (.iconst (-1), 1) := by decide +kernel
theorem dX5_cell_24 : decode cX5_cell 24 = .ok (.if_icmp .ne 6, 3) := by decide +kernel
theorem dX5_cell_27 : decode cX5_cell 27 = .ok (.bipush (-11), 2) := by decide +kernel
theorem dX5_cell_29 : decode cX5_cell 29 = .ok (.ireturn, 1) := by decide +kernel
theorem dX5_copy_0 : decode cX5_copy 0 = .ok (.aload_n 0, 1) := by decide +kernel
theorem dX5_copy_1 : decode cX5_copy 1 = .ok (.getfield 41, 3) := by decide +kernel
theorem dX5_copy_4 : decode cX5_copy 4 = .ok (.iload_n 1, 1) := by decide +kernel
theorem dX5_copy_5 : decode cX5_copy 5 = .ok (.invokevirtual 196, 3) := by decide +kernel
theorem dX5_copy_8 : decode cX5_copy 8 = .ok (.ifCond .eq 14, 3) := by decide +kernel
theorem dX5_copy_11 : decode cX5_copy 11 = .ok (.aload_n 0, 1) := by decide +kernel
theorem dX5_copy_12 : decode cX5_copy 12 = .ok (.getfield 41, 3) := by decide +kernel
theorem dX5_copy_15 : decode cX5_copy 15 = .ok (.iload_n 3, 1) := by decide +kernel
theorem dX5_copy_16 : decode cX5_copy 16 = .ok (.invokevirtual 196, 3) := by decide +kernel
theorem dX5_copy_19 : decode cX5_copy 19 = .ok (.ifCond .ne 6, 3) := by decide +kernel
theorem dX5_copy_22 : decode cX5_copy 22 = .ok (.bipush (-2), 2) := by decide +kernel
theorem dX5_copy_24 : decode cX5_copy 24 = .ok (.ireturn, 1) := by decide +kernel
theorem dX5_copy_25 : decode cX5_copy 25 = .ok (.aload_n 0, 1) := by decide +kernel
theorem dX5_copy_26 : decode cX5_copy 26 = .ok (.getfield 41, 3) := by decide +kernel
theorem dX5_copy_29 : decode cX5_copy 29 = .ok (.getfield 225, 3) := by decide +kernel
theorem dX5_copy_32 : decode cX5_copy 32 = .ok (.iload_n 1, 1) := by decide +kernel
theorem dX5_copy_33 : decode cX5_copy 33 = .ok (.iaload, 1) := by decide +kernel
theorem dX5_copy_34 : decode cX5_copy 34 = .ok (.iconst (-1), 1) := by decide +kernel
theorem dX5_copy_35 : decode cX5_copy 35 = .ok (.if_icmp .eq 16, 3) := by decide +kernel
theorem dX5_copy_51 : decode cX5_copy 51 = .ok (.bipush (-11), 2) := by decide +kernel
theorem dX5_copy_53 : decode cX5_copy 53 = .ok (.ireturn, 1) := by decide +kernel
theorem dX5_pebblesBy_0 : decode cX5_pebblesBy 0 = .ok (.aload_n 0, 1) := by decide +kernel
theorem dX5_pebblesBy_1 : decode cX5_pebblesBy 1 = .ok (.getfield 41, 3) := by decide +kernel
theorem dX5_pebblesBy_4 : decode cX5_pebblesBy 4 = .ok (.iload_n 1, 1) := by decide +kernel
theorem dX5_pebblesBy_5 : decode cX5_pebblesBy 5 = .ok (.invokevirtual 196, 3) := by decide +kernel
theorem dX5_pebblesBy_8 : decode cX5_pebblesBy 8 = .ok (.ifCond .eq 21, 3) := by decide +kernel
theorem dX5_pebblesBy_11 : decode cX5_pebblesBy 11 = .ok (.iload_n 2, 1) := by decide +kernel
theorem dX5_pebblesBy_12 : decode cX5_pebblesBy 12 = .ok (.iconst 2, 1) := by decide +kernel
theorem dX5_pebblesBy_13 : decode cX5_pebblesBy 13 = .ok (.invokestatic 86, 3) := by decide +kernel
theorem dX5_pebblesBy_16 : decode cX5_pebblesBy 16 = .ok (.ifCond .eq 13, 3) := by decide +kernel
theorem dX5_pebblesBy_19 : decode cX5_pebblesBy 19 = .ok (.iload 4, 2) := by decide +kernel
theorem dX5_pebblesBy_21 : decode cX5_pebblesBy 21 = .ok (.bipush 6, 2) := by decide +kernel
theorem dX5_pebblesBy_23 : decode cX5_pebblesBy 23 = .ok (.invokestatic 86, 3) := by decide +kernel
theorem dX5_pebblesBy_26 : decode cX5_pebblesBy 26 = .ok (.ifCond .ne 6, 3) := by decide +kernel
theorem dX5_pebblesBy_29 : decode cX5_pebblesBy 29 = .ok (.bipush (-2), 2) := by decide +kernel
theorem dX5_pebblesBy_31 : decode cX5_pebblesBy 31 = .ok (.ireturn, 1) := by decide +kernel
theorem dX5_pebblesBy_32 : decode cX5_pebblesBy 32 = .ok (.aload_n 0, 1) := by decide +kernel
theorem dX5_pebblesBy_33 : decode cX5_pebblesBy 33 = .ok (.getfield 41, 3) := by decide +kernel
theorem dX5_pebblesBy_36 : decode cX5_pebblesBy 36 = .ok (.getfield 225, 3) := by decide +kernel
theorem dX5_pebblesBy_39 : decode cX5_pebblesBy 39 = .ok (.iload_n 1, 1) := by decide +kernel
theorem dX5_pebblesBy_40 : decode cX5_pebblesBy 40 = .ok (.iaload, 1) := by decide +kernel
theorem dX5_pebblesBy_41 : decode cX5_pebblesBy 41 = .ok (.iconst (-1), 1) := by decide +kernel
theorem dX5_pebblesBy_42 : decode cX5_pebblesBy 42 = .ok (.if_icmp .ne 6, 3) := by decide +kernel
theorem dX5_pebblesBy_45 : decode cX5_pebblesBy 45 = .ok (.bipush (-11), 2) := by decide +kernel
theorem dX5_pebblesBy_47 : decode cX5_pebblesBy 47 = .ok (.ireturn, 1) := by decide +kernel
theorem dX5_taken_0 : decode cX5_taken 0 = .ok (.iload_n 2, 1) := by decide +kernel
theorem dX5_taken_1 : decode cX5_taken 1 = .ok (.bipush 6, 2) := by decide +kernel
theorem dX5_taken_3 : decode cX5_taken 3 = .ok (.invokestatic 86, 3) := by decide +kernel
theorem dX5_taken_6 : decode cX5_taken 6 = .ok (.ifCond .ne 7, 3) := by decide +kernel
theorem dX5_taken_9 : decode cX5_taken 9 = .ok (.ldc2_w 248, 3) := by decide +kernel
theorem dX5_taken_12 : decode cX5_taken 12 = .ok (.lreturn, 1) := by decide +kernel
theorem dX5_taken_13 : decode cX5_taken 13 = .ok (.iload_n 1, 1) := by decide +kernel
theorem dX5_taken_14 : decode cX5_taken 14 = .ok (.bipush 9, 2) := by decide +kernel
theorem dX5_taken_16 : decode cX5_taken 16 = .ok (.invokestatic 86, 3) := by decide +kernel
theorem dX5_taken_19 : decode cX5_taken 19 = .ok (.ifCond .ne 7, 3) := by decide +kernel
theorem dX5_taken_22 : decode cX5_taken 22 = .ok (.ldc2_w 250, 3) := by decide +kernel
theorem dX5_taken_25 : decode cX5_taken 25 = .ok (.lreturn, 1) := by decide +kernel
theorem dX5_taken_26 : decode cX5_taken 26 = .ok (.iload_n 1, 1) := by decide +kernel
theorem dX5_taken_27 : decode cX5_taken 27 = .ok (.bipush 6, 2) := by decide +kernel
theorem dX5_taken_29 : decode cX5_taken 29 = .ok (.if_icmp .lt 46, 3) := by decide +kernel
theorem dX5_taken_32 : decode cX5_taken 32 = .ok (.iload_n 1, 1) := by decide +kernel
theorem dX5_taken_33 : decode cX5_taken 33 = .ok (.bipush 6, 2) := by decide +kernel
theorem dX5_taken_35 : decode cX5_taken 35 = .ok (.isub, 1) := by decide +kernel
theorem dX5_taken_36 : decode cX5_taken 36 = .ok (.istore_n 3, 1) := by decide +kernel
theorem dX5_taken_37 : decode cX5_taken 37 = .ok (.aload_n 0, 1) := by decide +kernel
theorem dX5_taken_38 : decode cX5_taken 38 = .ok (.getfield 28, 3) := by decide +kernel
theorem dX5_taken_41 : decode cX5_taken 41 = .ok (.iload_n 3, 1) := by decide +kernel
theorem dX5_taken_42 : decode cX5_taken 42 = .ok (.invokevirtual 94, 3) := by decide +kernel
theorem dX5_taken_45 : decode cX5_taken 45 = .ok (.ifCond .ne 7, 3) := by decide +kernel
theorem dX5_taken_48 : decode cX5_taken 48 = .ok (.ldc2_w 252, 3) := by decide +kernel
theorem dX5_taken_51 : decode cX5_taken 51 = .ok (.lreturn, 1) := by decide +kernel
theorem dX5_taken_75 : decode cX5_taken 75 = .ok (.aload_n 0, 1) := by decide +kernel
theorem dX5_taken_76 : decode cX5_taken 76 = .ok (.getfield 28, 3) := by decide +kernel
theorem dX5_taken_79 : decode cX5_taken 79 = .ok (.iload_n 1, 1) := by decide +kernel
theorem dX5_taken_80 : decode cX5_taken 80 = .ok (.invokevirtual 111, 3) := by decide +kernel
theorem dX5_taken_83 : decode cX5_taken 83 = .ok (.ifCond .ne 7, 3) := by decide +kernel
theorem dX5_taken_86 : decode cX5_taken 86 = .ok (.ldc2_w 252, 3) := by decide +kernel
theorem dX5_taken_89 : decode cX5_taken 89 = .ok (.lreturn, 1) := by decide +kernel
theorem dX5_within_0 : decode cX5_within 0 = .ok (.iload_n 0, 1) := by decide +kernel
theorem dX5_within_1 : decode cX5_within 1 = .ok (.ifCond .lt 12, 3) := by decide +kernel
theorem dX5_within_4 : decode cX5_within 4 = .ok (.iload_n 0, 1) := by decide +kernel
theorem dX5_within_5 : decode cX5_within 5 = .ok (.iload_n 1, 1) := by decide +kernel
theorem dX5_within_6 : decode cX5_within 6 = .ok (.if_icmp .gt 7, 3) := by decide +kernel
theorem dX5_within_9 : decode cX5_within 9 = .ok (.iconst 1, 1) := by decide +kernel
theorem dX5_within_10 : decode cX5_within 10 = .ok (.goto 4, 3) := by decide +kernel
theorem dX5_within_13 : decode cX5_within 13 = .ok (.iconst 0, 1) := by decide +kernel
theorem dX5_within_14 : decode cX5_within 14 = .ok (.ireturn, 1) := by decide +kernel
theorem dX5_isByte_0 : decode cX5_isByte 0 = .ok (.iload_n 0, 1) := by decide +kernel
theorem dX5_isByte_1 : decode cX5_isByte 1 = .ok (.sipush 255, 3) := by decide +kernel
theorem dX5_isByte_4 : decode cX5_isByte 4 = .ok (.invokestatic 86, 3) := by decide +kernel
theorem dX5_isByte_7 : decode cX5_isByte 7 = .ok (.ireturn, 1) := by decide +kernel
theorem dX5_refusalOfSheet_0 : decode cX5_refusalOfSheet 0 = .ok (.aload_n 0, 1) := by decide +kernel
theorem dX5_refusalOfSheet_1 : decode cX5_refusalOfSheet 1 = .ok (.getfield 41, 3) := by decide +kernel
theorem dX5_refusalOfSheet_4 : decode cX5_refusalOfSheet 4 = .ok (.iload_n 1, 1) := by decide +kernel
theorem dX5_refusalOfSheet_5 : decode cX5_refusalOfSheet 5 = .ok (.invokevirtual 196, 3) := by decide +kernel
theorem dX5_refusalOfSheet_8 : decode cX5_refusalOfSheet 8 = .ok (.ifCond .ne 6, 3) := by decide +kernel
theorem dX5_refusalOfSheet_11 : decode cX5_refusalOfSheet 11 = .ok (.bipush (-2), 2) := by decide +kernel
theorem dX5_refusalOfSheet_13 : decode cX5_refusalOfSheet 13 = .ok (.ireturn, 1) := by decide +kernel
theorem dX5_refusalOfSheet_14 : decode cX5_refusalOfSheet 14 = .ok (.aload_n 0, 1) := by decide +kernel
theorem dX5_refusalOfSheet_15 : decode cX5_refusalOfSheet 15 = .ok (.getfield 41, 3) := by decide +kernel
theorem dX5_refusalOfSheet_18 : decode cX5_refusalOfSheet 18 = .ok (.getfield 225, 3) := by decide +kernel
theorem dX5_refusalOfSheet_21 : decode cX5_refusalOfSheet 21 = .ok (.iload_n 1, 1) := by decide +kernel
theorem dX5_refusalOfSheet_22 : decode cX5_refusalOfSheet 22 = .ok (.iaload, 1) := by decide +kernel
theorem dX5_refusalOfSheet_23 : decode cX5_refusalOfSheet 23 = .ok (.iconst (-1), 1) := by decide +kernel
theorem dX5_refusalOfSheet_24 : decode cX5_refusalOfSheet 24 = .ok (.if_icmp .ne 6, 3) := by decide +kernel
theorem dX5_refusalOfSheet_27 : decode cX5_refusalOfSheet 27 = .ok (.bipush (-11), 2) := by decide +kernel
theorem dX5_refusalOfSheet_29 : decode cX5_refusalOfSheet 29 = .ok (.ireturn, 1) := by decide +kernel
theorem dX5_refusalOf_0 : decode cX5_refusalOf 0 = .ok (.aload_n 0, 1) := by decide +kernel
theorem dX5_refusalOf_1 : decode cX5_refusalOf 1 = .ok (.iload_n 1, 1) := by decide +kernel
theorem dX5_refusalOf_2 : decode cX5_refusalOf 2 = .ok (.invokevirtual 193, 3) := by decide +kernel
theorem dX5_refusalOf_5 : decode cX5_refusalOf 5 = .ok (.istore_n 3, 1) := by decide +kernel
theorem dX5_refusalOf_6 : decode cX5_refusalOf 6 = .ok (.iload_n 3, 1) := by decide +kernel
theorem dX5_refusalOf_7 : decode cX5_refusalOf 7 = .ok (.ifCond .eq 5, 3) := by decide +kernel
theorem dX5_refusalOf_10 : decode cX5_refusalOf 10 = .ok (.iload_n 3, 1) := by decide +kernel
theorem dX5_refusalOf_11 : decode cX5_refusalOf 11 = .ok (.ireturn, 1) := by decide +kernel
theorem dJ0_length_8abf5_0 : decode cJ0_length_8abf5 0 = .ok (.aload_n 0, 1) := by decide +kernel
theorem dJ0_length_8abf5_1 : decode cJ0_length_8abf5 1 = .ok (.getfield 9, 3) := by decide +kernel
theorem dJ0_length_8abf5_4 : decode cJ0_length_8abf5 4 = .ok (.arraylength, 1) := by decide +kernel
theorem dJ0_length_8abf5_5 : decode cJ0_length_8abf5 5 = .ok (.aload_n 0, 1) := by decide +kernel
theorem dJ0_length_8abf5_6 : decode cJ0_length_8abf5 6 = .ok (.invokevirtual 335, 3) := by decide +kernel
theorem dJ0_length_8abf5_9 : decode cJ0_length_8abf5 9 = .ok (.ishr, 1) := by decide +kernel
theorem dJ0_length_8abf5_10 : decode cJ0_length_8abf5 10 = .ok (.ireturn, 1) := by decide +kernel
theorem dJ0_charAt_5068e_0 : decode cJ0_charAt_5068e 0 = .ok (.aload_n 0, 1) := by decide +kernel
theorem dJ0_charAt_5068e_1 : decode cJ0_charAt_5068e 1 = .ok (.invokevirtual 492, 3) := by decide +kernel
theorem dJ0_charAt_5068e_4 : decode cJ0_charAt_5068e 4 = .ok (.ifCond .eq 12, 3) := by decide +kernel
theorem dJ0_charAt_5068e_7 : decode cJ0_charAt_5068e 7 = .ok (.aload_n 0, 1) := by decide +kernel
theorem dJ0_charAt_5068e_8 : decode cJ0_charAt_5068e 8 = .ok (.getfield 9, 3) := by decide +kernel
theorem dJ0_charAt_5068e_11 : decode cJ0_charAt_5068e 11 = .ok (.iload_n 1, 1) := by decide +kernel
theorem dJ0_charAt_5068e_12 : decode cJ0_charAt_5068e 12 = .ok (.invokestatic 495, 3) := by decide +kernel
theorem dJ0_charAt_5068e_15 : decode cJ0_charAt_5068e 15 = .ok (.ireturn, 1) := by decide +kernel
theorem dJ0_indexOf_0f7a4_0 : decode cJ0_indexOf_0f7a4 0 = .ok (.aload_n 0, 1) := by decide +kernel
theorem dJ0_indexOf_0f7a4_1 : decode cJ0_indexOf_0f7a4 1 = .ok (.iload_n 1, 1) := by decide +kernel
theorem dJ0_indexOf_0f7a4_2 : decode cJ0_indexOf_0f7a4 2 = .ok (.iconst 0, 1) := by decide +kernel
theorem dJ0_indexOf_0f7a4_3 : decode cJ0_indexOf_0f7a4 3 = .ok (.invokevirtual 633, 3) := by decide +kernel
theorem dJ0_indexOf_0f7a4_6 : decode cJ0_indexOf_0f7a4 6 = .ok (.ireturn, 1) := by decide +kernel
theorem dJ0_indexOf_7cf53_0 : decode cJ0_indexOf_7cf53 0 = .ok (.aload_n 0, 1) := by decide +kernel
theorem dJ0_indexOf_7cf53_1 : decode cJ0_indexOf_7cf53 1 = .ok (.invokevirtual 492, 3) := by decide +kernel
theorem dJ0_indexOf_7cf53_4 : decode cJ0_indexOf_7cf53 4 = .ok (.ifCond .eq 19, 3) := by decide +kernel
theorem dJ0_indexOf_7cf53_7 : decode cJ0_indexOf_7cf53 7 = .ok (.aload_n 0, 1) := by decide +kernel
theorem dJ0_indexOf_7cf53_8 : decode cJ0_indexOf_7cf53 8 = .ok (.getfield 9, 3) := by decide +kernel
theorem dJ0_indexOf_7cf53_11 : decode cJ0_indexOf_7cf53 11 = .ok (.iload_n 1, 1) := by decide +kernel
theorem dJ0_indexOf_7cf53_12 : decode cJ0_indexOf_7cf53 12 = .ok (.iload_n 2, 1) := by decide +kernel
theorem dJ0_indexOf_7cf53_13 : decode cJ0_indexOf_7cf53 13 = .ok (.aload_n 0, 1) := by decide +kernel
theorem dJ0_indexOf_7cf53_14 : decode cJ0_indexOf_7cf53 14 = .ok (.invokevirtual 505, 3) := by decide +kernel
theorem dJ0_indexOf_7cf53_17 : decode cJ0_indexOf_7cf53 17 = .ok (.invokestatic 637, 3) := by decide +kernel
theorem dJ0_indexOf_7cf53_20 : decode cJ0_indexOf_7cf53 20 = .ok (.goto 16, 3) := by decide +kernel
theorem dJ0_indexOf_7cf53_36 : decode cJ0_indexOf_7cf53 36 = .ok (.ireturn, 1) := by decide +kernel
theorem dJ0_coder_7d493_0 : decode cJ0_coder_7d493 0 = .ok (.getstatic 38, 3) := by decide +kernel
theorem dJ0_coder_7d493_3 : decode cJ0_coder_7d493 3 = .ok (.ifCond .eq 10, 3) := by decide +kernel
theorem dJ0_coder_7d493_6 : decode cJ0_coder_7d493 6 = .ok (.aload_n 0, 1) := by decide +kernel
theorem dJ0_coder_7d493_7 : decode cJ0_coder_7d493 7 = .ok (.getfield 15, 3) := by decide +kernel
theorem dJ0_coder_7d493_10 : decode cJ0_coder_7d493 10 = .ok (.goto 4, 3) := by decide +kernel
theorem dJ0_coder_7d493_14 : decode cJ0_coder_7d493 14 = .ok (.ireturn, 1) := by decide +kernel
theorem dJ0_isLatin1_aae02_0 : decode cJ0_isLatin1_aae02 0 = .ok (.getstatic 38, 3) := by decide +kernel
theorem dJ0_isLatin1_aae02_3 : decode cJ0_isLatin1_aae02 3 = .ok (.ifCond .eq 14, 3) := by decide +kernel
theorem dJ0_isLatin1_aae02_6 : decode cJ0_isLatin1_aae02 6 = .ok (.aload_n 0, 1) := by decide +kernel
theorem dJ0_isLatin1_aae02_7 : decode cJ0_isLatin1_aae02 7 = .ok (.getfield 15, 3) := by decide +kernel
theorem dJ0_isLatin1_aae02_10 : decode cJ0_isLatin1_aae02 10 = .ok (.ifCond .ne 7, 3) := by decide +kernel
theorem dJ0_isLatin1_aae02_13 : decode cJ0_isLatin1_aae02 13 = .ok (.iconst 1, 1) := by decide +kernel
theorem dJ0_isLatin1_aae02_14 : decode cJ0_isLatin1_aae02 14 = .ok (.goto 4, 3) := by decide +kernel
theorem dJ0_isLatin1_aae02_18 : decode cJ0_isLatin1_aae02 18 = .ok (.ireturn, 1) := by decide +kernel
theorem dJ0_checkIndex_df160_0 : decode cJ0_checkIndex_df160 0 = .ok (.iload_n 0, 1) := by decide +kernel
theorem dJ0_checkIndex_df160_1 : decode cJ0_checkIndex_df160 1 = .ok (.iload_n 1, 1) := by decide +kernel
theorem dJ0_checkIndex_df160_2 : decode cJ0_checkIndex_df160 2 = .ok (.getstatic 1053, 3) := by decide +kernel
theorem dJ0_checkIndex_df160_5 : decode cJ0_checkIndex_df160 5 = .ok (.invokestatic 1059, 3) := by decide +kernel
theorem dJ0_checkIndex_df160_8 : decode cJ0_checkIndex_df160 8 = .ok (.pop, 1) := by decide +kernel
theorem dJ0_checkIndex_df160_9 : decode cJ0_checkIndex_df160 9 = .ok (.return_, 1) := by decide +kernel
theorem dJ1_charAt_3b067_0 : decode cJ1_charAt_3b067 0 = .ok (.iload_n 1, 1) := by decide +kernel
theorem dJ1_charAt_3b067_1 : decode cJ1_charAt_3b067 1 = .ok (.aload_n 0, 1) := by decide +kernel
theorem dJ1_charAt_3b067_2 : decode cJ1_charAt_3b067 2 = .ok (.arraylength, 1) := by decide +kernel
theorem dJ1_charAt_3b067_3 : decode cJ1_charAt_3b067 3 = .ok (.invokestatic 9, 3) := by decide +kernel
theorem dJ1_charAt_3b067_6 : decode cJ1_charAt_3b067 6 = .ok (.aload_n 0, 1) := by decide +kernel
theorem dJ1_charAt_3b067_7 : decode cJ1_charAt_3b067 7 = .ok (.iload_n 1, 1) := by decide +kernel
theorem dJ1_charAt_3b067_8 : decode cJ1_charAt_3b067 8 = .ok (.baload, 1) := by decide +kernel
theorem dJ1_charAt_3b067_9 : decode cJ1_charAt_3b067 9 = .ok (.sipush 255, 3) := by decide +kernel
theorem dJ1_charAt_3b067_12 : decode cJ1_charAt_3b067 12 = .ok (.iand, 1) := by decide +kernel
theorem dJ1_charAt_3b067_13 : decode cJ1_charAt_3b067 13 = .ok (.i2c, 1) := by decide +kernel
theorem dJ1_charAt_3b067_14 : decode cJ1_charAt_3b067 14 = .ok (.ireturn, 1) := by decide +kernel
theorem dJ1_canEncode_9a6ad_0 : decode cJ1_canEncode_9a6ad 0 = .ok (.iload_n 0, 1) := by decide +kernel
theorem dJ1_canEncode_9a6ad_1 : decode cJ1_canEncode_9a6ad 1 = .ok (.ifCond .lt 14, 3) := by decide +kernel
theorem dJ1_canEncode_9a6ad_4 : decode cJ1_canEncode_9a6ad 4 = .ok (.iload_n 0, 1) := by decide +kernel
theorem dJ1_canEncode_9a6ad_5 : decode cJ1_canEncode_9a6ad 5 = .ok (.sipush 255, 3) := by decide +kernel
theorem dJ1_canEncode_9a6ad_8 : decode cJ1_canEncode_9a6ad 8 = .ok (.if_icmp .gt 7, 3) := by decide +kernel
theorem dJ1_canEncode_9a6ad_11 : decode cJ1_canEncode_9a6ad 11 = .ok (.iconst 1, 1) := by decide +kernel
theorem dJ1_canEncode_9a6ad_12 : decode cJ1_canEncode_9a6ad 12 = .ok (.goto 4, 3) := by decide +kernel
theorem dJ1_canEncode_9a6ad_15 : decode cJ1_canEncode_9a6ad 15 = .ok (.iconst 0, 1) := by decide +kernel
theorem dJ1_canEncode_9a6ad_16 : decode cJ1_canEncode_9a6ad 16 = .ok (.ireturn, 1) := by decide +kernel
theorem dJ1_indexOf_4cfef_0 : decode cJ1_indexOf_4cfef 0 = .ok (.iload_n 1, 1) := by decide +kernel
theorem dJ1_indexOf_4cfef_1 : decode cJ1_indexOf_4cfef 1 = .ok (.invokestatic 88, 3) := by decide +kernel
theorem dJ1_indexOf_4cfef_4 : decode cJ1_indexOf_4cfef 4 = .ok (.ifCond .ne 5, 3) := by decide +kernel
theorem dJ1_indexOf_4cfef_7 : decode cJ1_indexOf_4cfef 7 = .ok (.iconst (-1), 1) := by decide +kernel
theorem dJ1_indexOf_4cfef_8 : decode cJ1_indexOf_4cfef 8 = .ok (.ireturn, 1) := by decide +kernel
theorem dJ1_indexOf_4cfef_9 : decode cJ1_indexOf_4cfef 9 = .ok (.iload_n 2, 1) := by decide +kernel
theorem dJ1_indexOf_4cfef_10 : decode cJ1_indexOf_4cfef 10 = .ok (.iconst 0, 1) := by decide +kernel
theorem dJ1_indexOf_4cfef_11 : decode cJ1_indexOf_4cfef 11 = .ok (.invokestatic 92, 3) := by decide +kernel
theorem dJ1_indexOf_4cfef_14 : decode cJ1_indexOf_4cfef 14 = .ok (.istore_n 2, 1) := by decide +kernel
theorem dJ1_indexOf_4cfef_15 : decode cJ1_indexOf_4cfef 15 = .ok (.iload_n 3, 1) := by decide +kernel
theorem dJ1_indexOf_4cfef_16 : decode cJ1_indexOf_4cfef 16 = .ok (.aload_n 0, 1) := by decide +kernel
theorem dJ1_indexOf_4cfef_17 : decode cJ1_indexOf_4cfef 17 = .ok (.arraylength, 1) := by decide +kernel
theorem dJ1_indexOf_4cfef_18 : decode cJ1_indexOf_4cfef 18 = .ok (.invokestatic 38, 3) := by decide +kernel
theorem dJ1_indexOf_4cfef_21 : decode cJ1_indexOf_4cfef 21 = .ok (.istore_n 3, 1) := by decide +kernel
theorem dJ1_indexOf_4cfef_22 : decode cJ1_indexOf_4cfef 22 = .ok (.iload_n 2, 1) := by decide +kernel
theorem dJ1_indexOf_4cfef_23 : decode cJ1_indexOf_4cfef 23 = .ok (.iload_n 3, 1) := by decide +kernel
theorem dJ1_indexOf_4cfef_24 : decode cJ1_indexOf_4cfef 24 = .ok (.if_icmp .lt 5, 3) := by decide +kernel
theorem dJ1_indexOf_4cfef_29 : decode cJ1_indexOf_4cfef 29 = .ok (.aload_n 0, 1) := by decide +kernel
theorem dJ1_indexOf_4cfef_30 : decode cJ1_indexOf_4cfef 30 = .ok (.iload_n 1, 1) := by decide +kernel
theorem dJ1_indexOf_4cfef_31 : decode cJ1_indexOf_4cfef 31 = .ok (.iload_n 2, 1) := by decide +kernel
theorem dJ1_indexOf_4cfef_32 : decode cJ1_indexOf_4cfef 32 = .ok (.iload_n 3, 1) := by decide +kernel
theorem dJ1_indexOf_4cfef_33 : decode cJ1_indexOf_4cfef 33 = .ok (.invokestatic 95, 3) := by decide +kernel
theorem dJ1_indexOf_4cfef_36 : decode cJ1_indexOf_4cfef 36 = .ok (.ireturn, 1) := by decide +kernel
theorem dJ1_indexOfChar_4cfef_0 : decode cJ1_indexOfChar_4cfef 0 = .ok (.iload_n 1, 1) := by decide +kernel
theorem dJ1_indexOfChar_4cfef_1 : decode cJ1_indexOfChar_4cfef 1 = .ok (.i2b, 1) := by decide +kernel
theorem dJ1_indexOfChar_4cfef_2 : decode cJ1_indexOfChar_4cfef 2 = .ok (.istore 4, 2) := by decide +kernel
theorem dJ1_indexOfChar_4cfef_4 : decode cJ1_indexOfChar_4cfef 4 = .ok (.iload_n 2, 1) := by decide +kernel
theorem dJ1_indexOfChar_4cfef_5 : decode cJ1_indexOfChar_4cfef 5 = .ok (.istore 5, 2) := by decide +kernel
theorem dJ1_indexOfChar_4cfef_7 : decode cJ1_indexOfChar_4cfef 7 = .ok (.iload 5, 2) := by decide +kernel
theorem dJ1_indexOfChar_4cfef_9 : decode cJ1_indexOfChar_4cfef 9 = .ok (.iload_n 3, 1) := by decide +kernel
theorem dJ1_indexOfChar_4cfef_10 : decode cJ1_indexOfChar_4cfef 10 = .ok (.if_icmp .ge 21, 3) := by decide +kernel
theorem dJ1_indexOfChar_4cfef_13 : decode cJ1_indexOfChar_4cfef 13 = .ok (.aload_n 0, 1) := by decide +kernel
theorem dJ1_indexOfChar_4cfef_14 : decode cJ1_indexOfChar_4cfef 14 = .ok (.iload 5, 2) := by decide +kernel
theorem dJ1_indexOfChar_4cfef_16 : decode cJ1_indexOfChar_4cfef 16 = .ok (.baload, 1) := by decide +kernel
theorem dJ1_indexOfChar_4cfef_17 : decode cJ1_indexOfChar_4cfef 17 = .ok (.iload 4, 2) := by decide +kernel
theorem dJ1_indexOfChar_4cfef_19 : decode cJ1_indexOfChar_4cfef 19 = .ok (.if_icmp .ne 6, 3) := by decide +kernel
theorem dJ1_indexOfChar_4cfef_22 : decode cJ1_indexOfChar_4cfef 22 = .ok (.iload 5, 2) := by decide +kernel
theorem dJ1_indexOfChar_4cfef_24 : decode cJ1_indexOfChar_4cfef 24 = .ok (.ireturn, 1) := by decide +kernel
theorem dJ1_indexOfChar_4cfef_25 : decode cJ1_indexOfChar_4cfef 25 = .ok (.iinc 5 1, 3) := by decide +kernel
theorem dJ1_indexOfChar_4cfef_28 : decode cJ1_indexOfChar_4cfef 28 = .ok (.goto (-21), 3) := by decide +kernel
theorem dJ1_indexOfChar_4cfef_31 : decode cJ1_indexOfChar_4cfef 31 = .ok (.iconst (-1), 1) := by decide +kernel
theorem dJ1_indexOfChar_4cfef_32 : decode cJ1_indexOfChar_4cfef 32 = .ok (.ireturn, 1) := by decide +kernel
theorem dJ7_fill_53178_0 : decode cJ7_fill_53178 0 = .ok (.iconst 0, 1) := by decide +kernel
theorem dJ7_fill_53178_1 : decode cJ7_fill_53178 1 = .ok (.istore_n 2, 1) := by decide +kernel
theorem dJ7_fill_53178_2 : decode cJ7_fill_53178 2 = .ok (.aload_n 0, 1) := by decide +kernel
theorem dJ7_fill_53178_3 : decode cJ7_fill_53178 3 = .ok (.arraylength, 1) := by decide +kernel
theorem dJ7_fill_53178_4 : decode cJ7_fill_53178 4 = .ok (.istore_n 3, 1) := by decide +kernel
theorem dJ7_fill_53178_5 : decode cJ7_fill_53178 5 = .ok (.iload_n 2, 1) := by decide +kernel
theorem dJ7_fill_53178_6 : decode cJ7_fill_53178 6 = .ok (.iload_n 3, 1) := by decide +kernel
theorem dJ7_fill_53178_7 : decode cJ7_fill_53178 7 = .ok (.if_icmp .ge 13, 3) := by decide +kernel
theorem dJ7_fill_53178_10 : decode cJ7_fill_53178 10 = .ok (.aload_n 0, 1) := by decide +kernel
theorem dJ7_fill_53178_11 : decode cJ7_fill_53178 11 = .ok (.iload_n 2, 1) := by decide +kernel
theorem dJ7_fill_53178_12 : decode cJ7_fill_53178 12 = .ok (.iload_n 1, 1) := by decide +kernel
theorem dJ7_fill_53178_13 : decode cJ7_fill_53178 13 = .ok (.iastore, 1) := by decide +kernel
theorem dJ7_fill_53178_14 : decode cJ7_fill_53178 14 = .ok (.iinc 2 1, 3) := by decide +kernel
theorem dJ7_fill_53178_17 : decode cJ7_fill_53178 17 = .ok (.goto (-12), 3) := by decide +kernel
theorem dJ7_fill_53178_20 : decode cJ7_fill_53178 20 = .ok (.return_, 1) := by decide +kernel
theorem dJ3_checkIndex_8e157_0 : decode cJ3_checkIndex_8e157 0 = .ok (.iload_n 0, 1) := by decide +kernel
theorem dJ3_checkIndex_8e157_1 : decode cJ3_checkIndex_8e157 1 = .ok (.ifCond .lt 8, 3) := by decide +kernel
theorem dJ3_checkIndex_8e157_4 : decode cJ3_checkIndex_8e157 4 = .ok (.iload_n 0, 1) := by decide +kernel
theorem dJ3_checkIndex_8e157_5 : decode cJ3_checkIndex_8e157 5 = .ok (.iload_n 1, 1) := by decide +kernel
theorem dJ3_checkIndex_8e157_6 : decode cJ3_checkIndex_8e157 6 = .ok (.if_icmp .lt 10, 3) := by decide +kernel
theorem dJ3_checkIndex_8e157_16 : decode cJ3_checkIndex_8e157 16 = .ok (.iload_n 0, 1) := by decide +kernel
theorem dJ3_checkIndex_8e157_17 : decode cJ3_checkIndex_8e157 17 = .ok (.ireturn, 1) := by decide +kernel
