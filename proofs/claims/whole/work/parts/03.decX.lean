theorem dX0_init_0 : decode cX0_init 0 = .ok (.aload_n 0, 1) := by decide +kernel
theorem dX0_init_1 : decode cX0_init 1 = .ok (.invokespecial 3, 3) := by decide +kernel
theorem dX0_init_4 : decode cX0_init 4 = .ok (.aload_n 0, 1) := by decide +kernel
theorem dX0_init_5 : decode cX0_init 5 = .ok (.bipush 6, 2) := by decide +kernel
theorem dX0_init_7 : decode cX0_init 7 = .ok (.newarray .int, 2) := by decide +kernel
theorem dX0_init_9 : decode cX0_init 9 = .ok (.putfield 9, 3) := by decide +kernel
theorem dX0_init_12 : decode cX0_init 12 = .ok (.aload_n 0, 1) := by decide +kernel
theorem dX0_init_13 : decode cX0_init 13 = .ok (.bipush 8, 2) := by decide +kernel
theorem dX0_init_15 : decode cX0_init 15 = .ok (.anewarray 15, 3) := by decide +kernel
theorem dX0_init_18 : decode cX0_init 18 = .ok (.putfield 17, 3) := by decide +kernel
theorem dX0_init_21 : decode cX0_init 21 = .ok (.aload_n 0, 1) := by decide +kernel
theorem dX0_init_22 : decode cX0_init 22 = .ok (.bipush 10, 2) := by decide +kernel
theorem dX0_init_24 : decode cX0_init 24 = .ok (.newarray .int, 2) := by decide +kernel
theorem dX0_init_26 : decode cX0_init 26 = .ok (.putfield 21, 3) := by decide +kernel
theorem dX0_init_29 : decode cX0_init 29 = .ok (.aload_n 0, 1) := by decide +kernel
theorem dX0_init_30 : decode cX0_init 30 = .ok (.iconst 0, 1) := by decide +kernel
theorem dX0_init_31 : decode cX0_init 31 = .ok (.putfield 24, 3) := by decide +kernel
theorem dX0_init_34 : decode cX0_init 34 = .ok (.aload_n 0, 1) := by decide +kernel
theorem dX0_init_35 : decode cX0_init 35 = .ok (.iconst 0, 1) := by decide +kernel
theorem dX0_init_36 : decode cX0_init 36 = .ok (.putfield 28, 3) := by decide +kernel
theorem dX0_init_39 : decode cX0_init 39 = .ok (.aload_n 0, 1) := by decide +kernel
theorem dX0_init_40 : decode cX0_init 40 = .ok (.iconst 0, 1) := by decide +kernel
theorem dX0_init_41 : decode cX0_init 41 = .ok (.putfield 31, 3) := by decide +kernel
theorem dX0_init_44 : decode cX0_init 44 = .ok (.aload_n 0, 1) := by decide +kernel
theorem dX0_init_45 : decode cX0_init 45 = .ok (.iconst 0, 1) := by decide +kernel
theorem dX0_init_46 : decode cX0_init 46 = .ok (.putfield 34, 3) := by decide +kernel
theorem dX0_init_49 : decode cX0_init 49 = .ok (.aload_n 0, 1) := by decide +kernel
theorem dX0_init_50 : decode cX0_init 50 = .ok (.iconst 1, 1) := by decide +kernel
theorem dX0_init_51 : decode cX0_init 51 = .ok (.putfield 37, 3) := by decide +kernel
theorem dX0_init_54 : decode cX0_init 54 = .ok (.iconst 0, 1) := by decide +kernel
theorem dX0_init_55 : decode cX0_init 55 = .ok (.istore_n 1, 1) := by decide +kernel
theorem dX0_init_56 : decode cX0_init 56 = .ok (.iload_n 1, 1) := by decide +kernel
theorem dX0_init_57 : decode cX0_init 57 = .ok (.bipush 8, 2) := by decide +kernel
theorem dX0_init_59 : decode cX0_init 59 = .ok (.if_icmp .ge 22, 3) := by decide +kernel
theorem dX0_init_62 : decode cX0_init 62 = .ok (.aload_n 0, 1) := by decide +kernel
theorem dX0_init_63 : decode cX0_init 63 = .ok (.getfield 17, 3) := by decide +kernel
theorem dX0_init_66 : decode cX0_init 66 = .ok (.iload_n 1, 1) := by decide +kernel
theorem dX0_init_67 : decode cX0_init 67 = .ok (.new 15, 3) := by decide +kernel
theorem dX0_init_70 : decode cX0_init 70 = .ok (.dup, 1) := by decide +kernel
theorem dX0_init_71 : decode cX0_init 71 = .ok (.invokespecial 40, 3) := by decide +kernel
theorem dX0_init_74 : decode cX0_init 74 = .ok (.aastore, 1) := by decide +kernel
theorem dX0_init_75 : decode cX0_init 75 = .ok (.iinc 1 1, 3) := by decide +kernel
theorem dX0_init_78 : decode cX0_init 78 = .ok (.goto (-22), 3) := by decide +kernel
theorem dX0_init_81 : decode cX0_init 81 = .ok (.iconst 0, 1) := by decide +kernel
theorem dX0_init_82 : decode cX0_init 82 = .ok (.istore_n 1, 1) := by decide +kernel
theorem dX0_init_83 : decode cX0_init 83 = .ok (.iload_n 1, 1) := by decide +kernel
theorem dX0_init_84 : decode cX0_init 84 = .ok (.bipush 10, 2) := by decide +kernel
theorem dX0_init_86 : decode cX0_init 86 = .ok (.if_icmp .ge 16, 3) := by decide +kernel
theorem dX0_init_89 : decode cX0_init 89 = .ok (.aload_n 0, 1) := by decide +kernel
theorem dX0_init_90 : decode cX0_init 90 = .ok (.getfield 21, 3) := by decide +kernel
theorem dX0_init_93 : decode cX0_init 93 = .ok (.iload_n 1, 1) := by decide +kernel
theorem dX0_init_94 : decode cX0_init 94 = .ok (.iconst (-1), 1) := by decide +kernel
theorem dX0_init_95 : decode cX0_init 95 = .ok (.iastore, 1) := by decide +kernel
theorem dX0_init_96 : decode cX0_init 96 = .ok (.iinc 1 1, 3) := by decide +kernel
theorem dX0_init_99 : decode cX0_init 99 = .ok (.goto (-16), 3) := by decide +kernel
theorem dX0_init_102 : decode cX0_init 102 = .ok (.return_, 1) := by decide +kernel
theorem dX0_become_0 : decode cX0_become 0 = .ok (.aload_n 1, 1) := by decide +kernel
theorem dX0_become_1 : decode cX0_become 1 = .ok (.getfield 9, 3) := by decide +kernel
theorem dX0_become_4 : decode cX0_become 4 = .ok (.iconst 0, 1) := by decide +kernel
theorem dX0_become_5 : decode cX0_become 5 = .ok (.aload_n 0, 1) := by decide +kernel
theorem dX0_become_6 : decode cX0_become 6 = .ok (.getfield 9, 3) := by decide +kernel
theorem dX0_become_9 : decode cX0_become 9 = .ok (.iconst 0, 1) := by decide +kernel
theorem dX0_become_10 : decode cX0_become 10 = .ok (.bipush 6, 2) := by decide +kernel
theorem dX0_become_12 : decode cX0_become 12 = .ok (.invokestatic 41, 3) := by decide +kernel
theorem dX0_become_15 : decode cX0_become 15 = .ok (.aload_n 1, 1) := by decide +kernel
theorem dX0_become_16 : decode cX0_become 16 = .ok (.getfield 21, 3) := by decide +kernel
theorem dX0_become_19 : decode cX0_become 19 = .ok (.iconst 0, 1) := by decide +kernel
theorem dX0_become_20 : decode cX0_become 20 = .ok (.aload_n 0, 1) := by decide +kernel
theorem dX0_become_21 : decode cX0_become 21 = .ok (.getfield 21, 3) := by decide +kernel
theorem dX0_become_24 : decode cX0_become 24 = .ok (.iconst 0, 1) := by decide +kernel
theorem dX0_become_25 : decode cX0_become 25 = .ok (.bipush 10, 2) := by decide +kernel
theorem dX0_become_27 : decode cX0_become 27 = .ok (.invokestatic 41, 3) := by decide +kernel
theorem dX0_become_30 : decode cX0_become 30 = .ok (.aload_n 0, 1) := by decide +kernel
theorem dX0_become_31 : decode cX0_become 31 = .ok (.aload_n 1, 1) := by decide +kernel
theorem dX0_become_32 : decode cX0_become 32 = .ok (.getfield 24, 3) := by decide +kernel
theorem dX0_become_35 : decode cX0_become 35 = .ok (.putfield 24, 3) := by decide +kernel
theorem dX0_become_38 : decode cX0_become 38 = .ok (.iconst 0, 1) := by decide +kernel
theorem dX0_become_39 : decode cX0_become 39 = .ok (.istore_n 2, 1) := by decide +kernel
theorem dX0_become_40 : decode cX0_become 40 = .ok (.iload_n 2, 1) := by decide +kernel
theorem dX0_become_41 : decode cX0_become 41 = .ok (.aload_n 0, 1) := by decide +kernel
theorem dX0_become_42 : decode cX0_become 42 = .ok (.getfield 24, 3) := by decide +kernel
theorem dX0_become_45 : decode cX0_become 45 = .ok (.if_icmp .ge 24, 3) := by decide +kernel
theorem dX0_become_48 : decode cX0_become 48 = .ok (.aload_n 0, 1) := by decide +kernel
theorem dX0_become_49 : decode cX0_become 49 = .ok (.getfield 17, 3) := by decide +kernel
theorem dX0_become_52 : decode cX0_become 52 = .ok (.iload_n 2, 1) := by decide +kernel
theorem dX0_become_53 : decode cX0_become 53 = .ok (.aaload, 1) := by decide +kernel
theorem dX0_become_54 : decode cX0_become 54 = .ok (.aload_n 1, 1) := by decide +kernel
theorem dX0_become_55 : decode cX0_become 55 = .ok (.getfield 17, 3) := by decide +kernel
theorem dX0_become_58 : decode cX0_become 58 = .ok (.iload_n 2, 1) := by decide +kernel
theorem dX0_become_59 : decode cX0_become 59 = .ok (.aaload, 1) := by decide +kernel
theorem dX0_become_60 : decode cX0_become 60 = .ok (.invokevirtual 47, 3) := by decide +kernel
theorem dX0_become_63 : decode cX0_become 63 = .ok (.iinc 2 1, 3) := by decide +kernel
theorem dX0_become_66 : decode cX0_become 66 = .ok (.goto (-26), 3) := by decide +kernel
theorem dX0_become_69 : decode cX0_become 69 = .ok (.aload_n 0, 1) := by decide +kernel
theorem dX0_become_70 : decode cX0_become 70 = .ok (.aload_n 1, 1) := by decide +kernel
theorem dX0_become_71 : decode cX0_become 71 = .ok (.getfield 28, 3) := by decide +kernel
theorem dX0_become_74 : decode cX0_become 74 = .ok (.putfield 28, 3) := by decide +kernel
theorem dX0_become_77 : decode cX0_become 77 = .ok (.aload_n 0, 1) := by decide +kernel
theorem dX0_become_78 : decode cX0_become 78 = .ok (.aload_n 1, 1) := by decide +kernel
theorem dX0_become_79 : decode cX0_become 79 = .ok (.getfield 31, 3) := by decide +kernel
theorem dX0_become_82 : decode cX0_become 82 = .ok (.putfield 31, 3) := by decide +kernel
theorem dX0_become_85 : decode cX0_become 85 = .ok (.aload_n 0, 1) := by decide +kernel
theorem dX0_become_86 : decode cX0_become 86 = .ok (.aload_n 1, 1) := by decide +kernel
theorem dX0_become_87 : decode cX0_become 87 = .ok (.getfield 34, 3) := by decide +kernel
theorem dX0_become_90 : decode cX0_become 90 = .ok (.putfield 34, 3) := by decide +kernel
theorem dX0_become_93 : decode cX0_become 93 = .ok (.aload_n 0, 1) := by decide +kernel
theorem dX0_become_94 : decode cX0_become 94 = .ok (.aload_n 1, 1) := by decide +kernel
theorem dX0_become_95 : decode cX0_become 95 = .ok (.getfield 37, 3) := by decide +kernel
theorem dX0_become_98 : decode cX0_become 98 = .ok (.putfield 37, 3) := by decide +kernel
theorem dX0_become_101 : decode cX0_become 101 = .ok (.return_, 1) := by decide +kernel
theorem dX0_isFull_0 : decode cX0_isFull 0 = .ok (.aload_n 0, 1) := by decide +kernel
theorem dX0_isFull_1 : decode cX0_isFull 1 = .ok (.getfield 24, 3) := by decide +kernel
theorem dX0_isFull_4 : decode cX0_isFull 4 = .ok (.bipush 8, 2) := by decide +kernel
theorem dX0_isFull_6 : decode cX0_isFull 6 = .ok (.if_icmp .lt 7, 3) := by decide +kernel
theorem dX0_isFull_9 : decode cX0_isFull 9 = .ok (.iconst 1, 1) := by decide +kernel
theorem dX0_isFull_10 : decode cX0_isFull 10 = .ok (.goto 4, 3) := by decide +kernel
theorem dX0_isFull_13 : decode cX0_isFull 13 = .ok (.iconst 0, 1) := by decide +kernel
theorem dX0_isFull_14 : decode cX0_isFull 14 = .ok (.ireturn, 1) := by decide +kernel
theorem dX0_addPotter_0 : decode cX0_addPotter 0 = .ok (.aload_n 0, 1) := by decide +kernel
theorem dX0_addPotter_1 : decode cX0_addPotter 1 = .ok (.getfield 24, 3) := by decide +kernel
theorem dX0_addPotter_4 : decode cX0_addPotter 4 = .ok (.istore_n 3, 1) := by decide +kernel
theorem dX0_addPotter_5 : decode cX0_addPotter 5 = .ok (.aload_n 0, 1) := by decide +kernel
theorem dX0_addPotter_6 : decode cX0_addPotter 6 = .ok (.getfield 17, 3) := by decide +kernel
theorem dX0_addPotter_9 : decode cX0_addPotter 9 = .ok (.iload_n 3, 1) := by decide +kernel
theorem dX0_addPotter_10 : decode cX0_addPotter 10 = .ok (.aaload, 1) := by decide +kernel
theorem dX0_addPotter_11 : decode cX0_addPotter 11 = .ok (.iload_n 1, 1) := by decide +kernel
theorem dX0_addPotter_12 : decode cX0_addPotter 12 = .ok (.iload_n 2, 1) := by decide +kernel
theorem dX0_addPotter_13 : decode cX0_addPotter 13 = .ok (.invokevirtual 51, 3) := by decide +kernel
theorem dX0_addPotter_16 : decode cX0_addPotter 16 = .ok (.aload_n 0, 1) := by decide +kernel
theorem dX0_addPotter_17 : decode cX0_addPotter 17 = .ok (.dup, 1) := by decide +kernel
theorem dX0_addPotter_18 : decode cX0_addPotter 18 = .ok (.getfield 24, 3) := by decide +kernel
theorem dX0_addPotter_21 : decode cX0_addPotter 21 = .ok (.iconst 1, 1) := by decide +kernel
theorem dX0_addPotter_22 : decode cX0_addPotter 22 = .ok (.iadd, 1) := by decide +kernel
theorem dX0_addPotter_23 : decode cX0_addPotter 23 = .ok (.putfield 24, 3) := by decide +kernel
theorem dX0_addPotter_26 : decode cX0_addPotter 26 = .ok (.iload_n 3, 1) := by decide +kernel
theorem dX0_addPotter_27 : decode cX0_addPotter 27 = .ok (.ireturn, 1) := by decide +kernel
theorem dX0_weatherOfDay_0 : decode cX0_weatherOfDay 0 = .ok (.aload_n 0, 1) := by decide +kernel
theorem dX0_weatherOfDay_1 : decode cX0_weatherOfDay 1 = .ok (.getfield 9, 3) := by decide +kernel
theorem dX0_weatherOfDay_4 : decode cX0_weatherOfDay 4 = .ok (.aload_n 0, 1) := by decide +kernel
theorem dX0_weatherOfDay_5 : decode cX0_weatherOfDay 5 = .ok (.getfield 34, 3) := by decide +kernel
theorem dX0_weatherOfDay_8 : decode cX0_weatherOfDay 8 = .ok (.bipush 6, 2) := by decide +kernel
theorem dX0_weatherOfDay_10 : decode cX0_weatherOfDay 10 = .ok (.irem, 1) := by decide +kernel
theorem dX0_weatherOfDay_11 : decode cX0_weatherOfDay 11 = .ok (.iaload, 1) := by decide +kernel
theorem dX0_weatherOfDay_12 : decode cX0_weatherOfDay 12 = .ok (.ireturn, 1) := by decide +kernel
theorem dX0_passDays_0 : decode cX0_passDays 0 = .ok (.iconst 0, 1) := by decide +kernel
theorem dX0_passDays_1 : decode cX0_passDays 1 = .ok (.istore_n 2, 1) := by decide +kernel
theorem dX0_passDays_2 : decode cX0_passDays 2 = .ok (.iload_n 2, 1) := by decide +kernel
theorem dX0_passDays_3 : decode cX0_passDays 3 = .ok (.iload_n 1, 1) := by decide +kernel
theorem dX0_passDays_4 : decode cX0_passDays 4 = .ok (.if_icmp .ge 13, 3) := by decide +kernel
theorem dX0_passDays_7 : decode cX0_passDays 7 = .ok (.aload_n 0, 1) := by decide +kernel
theorem dX0_passDays_8 : decode cX0_passDays 8 = .ok (.invokevirtual 55, 3) := by decide +kernel
theorem dX0_passDays_11 : decode cX0_passDays 11 = .ok (.iinc 2 1, 3) := by decide +kernel
theorem dX0_passDays_14 : decode cX0_passDays 14 = .ok (.goto (-12), 3) := by decide +kernel
theorem dX0_passDays_17 : decode cX0_passDays 17 = .ok (.return_, 1) := by decide +kernel
theorem dX0_passDay_0 : decode cX0_passDay 0 = .ok (.aload_n 0, 1) := by decide +kernel
theorem dX0_passDay_1 : decode cX0_passDay 1 = .ok (.invokevirtual 58, 3) := by decide +kernel
theorem dX0_passDay_4 : decode cX0_passDay 4 = .ok (.istore_n 1, 1) := by decide +kernel
theorem dX0_passDay_5 : decode cX0_passDay 5 = .ok (.iconst 0, 1) := by decide +kernel
theorem dX0_passDay_6 : decode cX0_passDay 6 = .ok (.istore_n 2, 1) := by decide +kernel
theorem dX0_passDay_7 : decode cX0_passDay 7 = .ok (.iload_n 2, 1) := by decide +kernel
theorem dX0_passDay_8 : decode cX0_passDay 8 = .ok (.aload_n 0, 1) := by decide +kernel
theorem dX0_passDay_9 : decode cX0_passDay 9 = .ok (.getfield 24, 3) := by decide +kernel
theorem dX0_passDay_12 : decode cX0_passDay 12 = .ok (.if_icmp .ge 20, 3) := by decide +kernel
theorem dX0_passDay_15 : decode cX0_passDay 15 = .ok (.aload_n 0, 1) := by decide +kernel
theorem dX0_passDay_16 : decode cX0_passDay 16 = .ok (.aload_n 0, 1) := by decide +kernel
theorem dX0_passDay_17 : decode cX0_passDay 17 = .ok (.getfield 17, 3) := by decide +kernel
theorem dX0_passDay_20 : decode cX0_passDay 20 = .ok (.iload_n 2, 1) := by decide +kernel
theorem dX0_passDay_21 : decode cX0_passDay 21 = .ok (.aaload, 1) := by decide +kernel
theorem dX0_passDay_22 : decode cX0_passDay 22 = .ok (.iload_n 1, 1) := by decide +kernel
theorem dX0_passDay_23 : decode cX0_passDay 23 = .ok (.invokevirtual 62, 3) := by decide +kernel
theorem dX0_passDay_26 : decode cX0_passDay 26 = .ok (.iinc 2 1, 3) := by decide +kernel
theorem dX0_passDay_29 : decode cX0_passDay 29 = .ok (.goto (-22), 3) := by decide +kernel
theorem dX0_passDay_32 : decode cX0_passDay 32 = .ok (.aload_n 0, 1) := by decide +kernel
theorem dX0_passDay_33 : decode cX0_passDay 33 = .ok (.getfield 34, 3) := by decide +kernel
theorem dX0_passDay_36 : decode cX0_passDay 36 = .ok (.bipush 7, 2) := by decide +kernel
theorem dX0_passDay_38 : decode cX0_passDay 38 = .ok (.irem, 1) := by decide +kernel
theorem dX0_passDay_39 : decode cX0_passDay 39 = .ok (.bipush 6, 2) := by decide +kernel
theorem dX0_passDay_41 : decode cX0_passDay 41 = .ok (.if_icmp .ne 29, 3) := by decide +kernel
theorem dX0_passDay_44 : decode cX0_passDay 44 = .ok (.iconst 0, 1) := by decide +kernel
theorem dX0_passDay_45 : decode cX0_passDay 45 = .ok (.istore_n 2, 1) := by decide +kernel
theorem dX0_passDay_46 : decode cX0_passDay 46 = .ok (.iload_n 2, 1) := by decide +kernel
theorem dX0_passDay_47 : decode cX0_passDay 47 = .ok (.aload_n 0, 1) := by decide +kernel
theorem dX0_passDay_48 : decode cX0_passDay 48 = .ok (.getfield 24, 3) := by decide +kernel
theorem dX0_passDay_51 : decode cX0_passDay 51 = .ok (.if_icmp .ge 19, 3) := by decide +kernel
theorem dX0_passDay_54 : decode cX0_passDay 54 = .ok (.aload_n 0, 1) := by decide +kernel
theorem dX0_passDay_55 : decode cX0_passDay 55 = .ok (.aload_n 0, 1) := by decide +kernel
theorem dX0_passDay_56 : decode cX0_passDay 56 = .ok (.getfield 17, 3) := by decide +kernel
theorem dX0_passDay_59 : decode cX0_passDay 59 = .ok (.iload_n 2, 1) := by decide +kernel
theorem dX0_passDay_60 : decode cX0_passDay 60 = .ok (.aaload, 1) := by decide +kernel
theorem dX0_passDay_61 : decode cX0_passDay 61 = .ok (.invokevirtual 66, 3) := by decide +kernel
theorem dX0_passDay_64 : decode cX0_passDay 64 = .ok (.iinc 2 1, 3) := by decide +kernel
theorem dX0_passDay_67 : decode cX0_passDay 67 = .ok (.goto (-21), 3) := by decide +kernel
theorem dX0_passDay_70 : decode cX0_passDay 70 = .ok (.aload_n 0, 1) := by decide +kernel
theorem dX0_passDay_71 : decode cX0_passDay 71 = .ok (.aload_n 0, 1) := by decide +kernel
theorem dX0_passDay_72 : decode cX0_passDay 72 = .ok (.getfield 34, 3) := by decide +kernel
theorem dX0_passDay_75 : decode cX0_passDay 75 = .ok (.iconst 1, 1) := by decide +kernel
theorem dX0_passDay_76 : decode cX0_passDay 76 = .ok (.iadd, 1) := by decide +kernel
theorem dX0_passDay_77 : decode cX0_passDay 77 = .ok (.ldc 69, 2) := by decide +kernel
theorem dX0_passDay_79 : decode cX0_passDay 79 = .ok (.invokestatic 70, 3) := by decide +kernel
theorem dX0_passDay_82 : decode cX0_passDay 82 = .ok (.putfield 34, 3) := by decide +kernel
theorem dX0_passDay_85 : decode cX0_passDay 85 = .ok (.return_, 1) := by decide +kernel
theorem dX0_gather_0 : decode cX0_gather 0 = .ok (.aload_n 1, 1) := by decide +kernel
theorem dX0_gather_1 : decode cX0_gather 1 = .ok (.aload_n 0, 1) := by decide +kernel
theorem dX0_gather_2 : decode cX0_gather 2 = .ok (.getfield 28, 3) := by decide +kernel
theorem dX0_gather_5 : decode cX0_gather 5 = .ok (.invokevirtual 76, 3) := by decide +kernel
theorem dX0_gather_8 : decode cX0_gather 8 = .ok (.aload_n 1, 1) := by decide +kernel
theorem dX0_gather_9 : decode cX0_gather 9 = .ok (.iload_n 2, 1) := by decide +kernel
theorem dX0_gather_10 : decode cX0_gather 10 = .ok (.invokevirtual 80, 3) := by decide +kernel
theorem dX0_gather_13 : decode cX0_gather 13 = .ok (.iadd, 1) := by decide +kernel
theorem dX0_gather_14 : decode cX0_gather 14 = .ok (.istore_n 3, 1) := by decide +kernel
theorem dX0_gather_15 : decode cX0_gather 15 = .ok (.aload_n 1, 1) := by decide +kernel
theorem dX0_gather_16 : decode cX0_gather 16 = .ok (.aload_n 1, 1) := by decide +kernel
theorem dX0_gather_17 : decode cX0_gather 17 = .ok (.getfield 83, 3) := by decide +kernel
theorem dX0_gather_20 : decode cX0_gather 20 = .ok (.iload_n 3, 1) := by decide +kernel
theorem dX0_gather_21 : decode cX0_gather 21 = .ok (.iadd, 1) := by decide +kernel
theorem dX0_gather_22 : decode cX0_gather 22 = .ok (.sipush 999, 3) := by decide +kernel
theorem dX0_gather_25 : decode cX0_gather 25 = .ok (.invokestatic 70, 3) := by decide +kernel
theorem dX0_gather_28 : decode cX0_gather 28 = .ok (.putfield 83, 3) := by decide +kernel
theorem dX0_gather_31 : decode cX0_gather 31 = .ok (.aload_n 1, 1) := by decide +kernel
theorem dX0_gather_32 : decode cX0_gather 32 = .ok (.aload_n 1, 1) := by decide +kernel
theorem dX0_gather_33 : decode cX0_gather 33 = .ok (.getfield 86, 3) := by decide +kernel
theorem dX0_gather_36 : decode cX0_gather 36 = .ok (.aload_n 1, 1) := by decide +kernel
theorem dX0_gather_37 : decode cX0_gather 37 = .ok (.invokevirtual 89, 3) := by decide +kernel
theorem dX0_gather_40 : decode cX0_gather 40 = .ok (.isub, 1) := by decide +kernel
theorem dX0_gather_41 : decode cX0_gather 41 = .ok (.iconst 0, 1) := by decide +kernel
theorem dX0_gather_42 : decode cX0_gather 42 = .ok (.invokestatic 92, 3) := by decide +kernel
theorem dX0_gather_45 : decode cX0_gather 45 = .ok (.putfield 86, 3) := by decide +kernel
theorem dX0_gather_48 : decode cX0_gather 48 = .ok (.aload_n 1, 1) := by decide +kernel
theorem dX0_gather_49 : decode cX0_gather 49 = .ok (.getfield 95, 3) := by decide +kernel
theorem dX0_gather_52 : decode cX0_gather 52 = .ok (.iconst 1, 1) := by decide +kernel
theorem dX0_gather_53 : decode cX0_gather 53 = .ok (.if_icmp .ne 20, 3) := by decide +kernel
theorem dX0_gather_56 : decode cX0_gather 56 = .ok (.aload_n 0, 1) := by decide +kernel
theorem dX0_gather_57 : decode cX0_gather 57 = .ok (.getfield 28, 3) := by decide +kernel
theorem dX0_gather_60 : decode cX0_gather 60 = .ok (.ifCond .le 13, 3) := by decide +kernel
theorem dX0_gather_63 : decode cX0_gather 63 = .ok (.aload_n 0, 1) := by decide +kernel
theorem dX0_gather_64 : decode cX0_gather 64 = .ok (.dup, 1) := by decide +kernel
theorem dX0_gather_65 : decode cX0_gather 65 = .ok (.getfield 28, 3) := by decide +kernel
theorem dX0_gather_68 : decode cX0_gather 68 = .ok (.iconst 1, 1) := by decide +kernel
theorem dX0_gather_69 : decode cX0_gather 69 = .ok (.isub, 1) := by decide +kernel
theorem dX0_gather_70 : decode cX0_gather 70 = .ok (.putfield 28, 3) := by decide +kernel
theorem dX0_gather_73 : decode cX0_gather 73 = .ok (.return_, 1) := by decide +kernel
theorem dX0_fire_0 : decode cX0_fire 0 = .ok (.aload_n 1, 1) := by decide +kernel
theorem dX0_fire_1 : decode cX0_fire 1 = .ok (.invokevirtual 98, 3) := by decide +kernel
theorem dX0_fire_4 : decode cX0_fire 4 = .ok (.ifCond .eq 48, 3) := by decide +kernel
theorem dX0_fire_7 : decode cX0_fire 7 = .ok (.aload_n 1, 1) := by decide +kernel
theorem dX0_fire_8 : decode cX0_fire 8 = .ok (.aload_n 1, 1) := by decide +kernel
theorem dX0_fire_9 : decode cX0_fire 9 = .ok (.invokevirtual 102, 3) := by decide +kernel
theorem dX0_fire_12 : decode cX0_fire 12 = .ok (.putfield 105, 3) := by decide +kernel
theorem dX0_fire_15 : decode cX0_fire 15 = .ok (.aload_n 1, 1) := by decide +kernel
theorem dX0_fire_16 : decode cX0_fire 16 = .ok (.aload_n 1, 1) := by decide +kernel
theorem dX0_fire_17 : decode cX0_fire 17 = .ok (.getfield 108, 3) := by decide +kernel
theorem dX0_fire_20 : decode cX0_fire 20 = .ok (.iconst 1, 1) := by decide +kernel
theorem dX0_fire_21 : decode cX0_fire 21 = .ok (.iadd, 1) := by decide +kernel
theorem dX0_fire_22 : decode cX0_fire 22 = .ok (.sipush 9999, 3) := by decide +kernel
theorem dX0_fire_25 : decode cX0_fire 25 = .ok (.invokestatic 70, 3) := by decide +kernel
theorem dX0_fire_28 : decode cX0_fire 28 = .ok (.putfield 108, 3) := by decide +kernel
theorem dX0_fire_31 : decode cX0_fire 31 = .ok (.aload_n 0, 1) := by decide +kernel
theorem dX0_fire_32 : decode cX0_fire 32 = .ok (.aload_n 0, 1) := by decide +kernel
theorem dX0_fire_33 : decode cX0_fire 33 = .ok (.getfield 31, 3) := by decide +kernel
theorem dX0_fire_36 : decode cX0_fire 36 = .ok (.aload_n 1, 1) := by decide +kernel
theorem dX0_fire_37 : decode cX0_fire 37 = .ok (.invokevirtual 111, 3) := by decide +kernel
theorem dX0_fire_40 : decode cX0_fire 40 = .ok (.iadd, 1) := by decide +kernel
theorem dX0_fire_41 : decode cX0_fire 41 = .ok (.ldc 69, 2) := by decide +kernel
theorem dX0_fire_43 : decode cX0_fire 43 = .ok (.invokestatic 70, 3) := by decide +kernel
theorem dX0_fire_46 : decode cX0_fire 46 = .ok (.putfield 31, 3) := by decide +kernel
theorem dX0_fire_49 : decode cX0_fire 49 = .ok (.goto 35, 3) := by decide +kernel
theorem dX0_fire_52 : decode cX0_fire 52 = .ok (.aload_n 1, 1) := by decide +kernel
theorem dX0_fire_53 : decode cX0_fire 53 = .ok (.aload_n 1, 1) := by decide +kernel
theorem dX0_fire_54 : decode cX0_fire 54 = .ok (.getfield 114, 3) := by decide +kernel
theorem dX0_fire_57 : decode cX0_fire 57 = .ok (.iconst 1, 1) := by decide +kernel
theorem dX0_fire_58 : decode cX0_fire 58 = .ok (.iadd, 1) := by decide +kernel
theorem dX0_fire_59 : decode cX0_fire 59 = .ok (.sipush 9999, 3) := by decide +kernel
theorem dX0_fire_62 : decode cX0_fire 62 = .ok (.invokestatic 70, 3) := by decide +kernel
theorem dX0_fire_65 : decode cX0_fire 65 = .ok (.putfield 114, 3) := by decide +kernel
theorem dX0_fire_68 : decode cX0_fire 68 = .ok (.aload_n 1, 1) := by decide +kernel
theorem dX0_fire_69 : decode cX0_fire 69 = .ok (.aload_n 1, 1) := by decide +kernel
theorem dX0_fire_70 : decode cX0_fire 70 = .ok (.getfield 86, 3) := by decide +kernel
theorem dX0_fire_73 : decode cX0_fire 73 = .ok (.bipush 15, 2) := by decide +kernel
theorem dX0_fire_75 : decode cX0_fire 75 = .ok (.iadd, 1) := by decide +kernel
theorem dX0_fire_76 : decode cX0_fire 76 = .ok (.bipush 99, 2) := by decide +kernel
theorem dX0_fire_78 : decode cX0_fire 78 = .ok (.invokestatic 70, 3) := by decide +kernel
theorem dX0_fire_81 : decode cX0_fire 81 = .ok (.putfield 86, 3) := by decide +kernel
theorem dX0_fire_84 : decode cX0_fire 84 = .ok (.aload_n 1, 1) := by decide +kernel
theorem dX0_fire_85 : decode cX0_fire 85 = .ok (.iconst 0, 1) := by decide +kernel
theorem dX0_fire_86 : decode cX0_fire 86 = .ok (.putfield 83, 3) := by decide +kernel
theorem dX0_fire_89 : decode cX0_fire 89 = .ok (.return_, 1) := by decide +kernel
theorem dX0_storm_0 : decode cX0_storm 0 = .ok (.aload_n 0, 1) := by decide +kernel
theorem dX0_storm_1 : decode cX0_storm 1 = .ok (.getfield 9, 3) := by decide +kernel
theorem dX0_storm_4 : decode cX0_storm 4 = .ok (.aload_n 0, 1) := by decide +kernel
theorem dX0_storm_5 : decode cX0_storm 5 = .ok (.getfield 34, 3) := by decide +kernel
theorem dX0_storm_8 : decode cX0_storm 8 = .ok (.bipush 6, 2) := by decide +kernel
theorem dX0_storm_10 : decode cX0_storm 10 = .ok (.irem, 1) := by decide +kernel
theorem dX0_storm_11 : decode cX0_storm 11 = .ok (.aload_n 0, 1) := by decide +kernel
theorem dX0_storm_12 : decode cX0_storm 12 = .ok (.invokevirtual 117, 3) := by decide +kernel
theorem dX0_storm_15 : decode cX0_storm 15 = .ok (.bipush 100, 2) := by decide +kernel
theorem dX0_storm_17 : decode cX0_storm 17 = .ok (.irem, 1) := by decide +kernel
theorem dX0_storm_18 : decode cX0_storm 18 = .ok (.iastore, 1) := by decide +kernel
theorem dX0_storm_19 : decode cX0_storm 19 = .ok (.aload_n 0, 1) := by decide +kernel
theorem dX0_storm_20 : decode cX0_storm 20 = .ok (.invokevirtual 117, 3) := by decide +kernel
theorem dX0_storm_23 : decode cX0_storm 23 = .ok (.bipush 8, 2) := by decide +kernel
theorem dX0_storm_25 : decode cX0_storm 25 = .ok (.irem, 1) := by decide +kernel
theorem dX0_storm_26 : decode cX0_storm 26 = .ok (.istore_n 1, 1) := by decide +kernel
theorem dX0_storm_27 : decode cX0_storm 27 = .ok (.iload_n 1, 1) := by decide +kernel
theorem dX0_storm_28 : decode cX0_storm 28 = .ok (.aload_n 0, 1) := by decide +kernel
theorem dX0_storm_29 : decode cX0_storm 29 = .ok (.getfield 24, 3) := by decide +kernel
theorem dX0_storm_32 : decode cX0_storm 32 = .ok (.if_icmp .ge 14, 3) := by decide +kernel
theorem dX0_storm_35 : decode cX0_storm 35 = .ok (.aload_n 0, 1) := by decide +kernel
theorem dX0_storm_36 : decode cX0_storm 36 = .ok (.getfield 17, 3) := by decide +kernel
theorem dX0_storm_39 : decode cX0_storm 39 = .ok (.iload_n 1, 1) := by decide +kernel
theorem dX0_storm_40 : decode cX0_storm 40 = .ok (.aaload, 1) := by decide +kernel
theorem dX0_storm_41 : decode cX0_storm 41 = .ok (.bipush 9, 2) := by decide +kernel
theorem dX0_storm_43 : decode cX0_storm 43 = .ok (.putfield 120, 3) := by decide +kernel
theorem dX0_storm_46 : decode cX0_storm 46 = .ok (.aload_n 0, 1) := by decide +kernel
theorem dX0_storm_47 : decode cX0_storm 47 = .ok (.invokevirtual 55, 3) := by decide +kernel
theorem dX0_storm_50 : decode cX0_storm 50 = .ok (.return_, 1) := by decide +kernel
theorem dX0_draw_0 : decode cX0_draw 0 = .ok (.aload_n 0, 1) := by decide +kernel
theorem dX0_draw_1 : decode cX0_draw 1 = .ok (.aload_n 0, 1) := by decide +kernel
theorem dX0_draw_2 : decode cX0_draw 2 = .ok (.getfield 37, 3) := by decide +kernel
theorem dX0_draw_5 : decode cX0_draw 5 = .ok (.ldc 123, 2) := by decide +kernel
theorem dX0_draw_7 : decode cX0_draw 7 = .ok (.imul, 1) := by decide +kernel
theorem dX0_draw_8 : decode cX0_draw 8 = .ok (.sipush 12345, 3) := by decide +kernel
theorem dX0_draw_11 : decode cX0_draw 11 = .ok (.iadd, 1) := by decide +kernel
theorem dX0_draw_12 : decode cX0_draw 12 = .ok (.putfield 37, 3) := by decide +kernel
theorem dX0_draw_15 : decode cX0_draw 15 = .ok (.aload_n 0, 1) := by decide +kernel
theorem dX0_draw_16 : decode cX0_draw 16 = .ok (.getfield 37, 3) := by decide +kernel
theorem dX0_draw_19 : decode cX0_draw 19 = .ok (.bipush 8, 2) := by decide +kernel
theorem dX0_draw_21 : decode cX0_draw 21 = .ok (.iushr, 1) := by decide +kernel
theorem dX0_draw_22 : decode cX0_draw 22 = .ok (.ireturn, 1) := by decide +kernel
theorem dX0_enoughWeathers_0 : decode cX0_enoughWeathers 0 = .ok (.aload_n 1, 1) := by decide +kernel
theorem dX0_enoughWeathers_1 : decode cX0_enoughWeathers 1 = .ok (.invokevirtual 124, 3) := by decide +kernel
theorem dX0_enoughWeathers_4 : decode cX0_enoughWeathers 4 = .ok (.aload_n 1, 1) := by decide +kernel
theorem dX0_enoughWeathers_5 : decode cX0_enoughWeathers 5 = .ok (.aload_n 0, 1) := by decide +kernel
theorem dX0_enoughWeathers_6 : decode cX0_enoughWeathers 6 = .ok (.getfield 28, 3) := by decide +kernel
theorem dX0_enoughWeathers_9 : decode cX0_enoughWeathers 9 = .ok (.invokevirtual 76, 3) := by decide +kernel
theorem dX0_enoughWeathers_12 : decode cX0_enoughWeathers 12 = .ok (.isub, 1) := by decide +kernel
theorem dX0_enoughWeathers_13 : decode cX0_enoughWeathers 13 = .ok (.istore_n 2, 1) := by decide +kernel
theorem dX0_enoughWeathers_14 : decode cX0_enoughWeathers 14 = .ok (.iconst 0, 1) := by decide +kernel
theorem dX0_enoughWeathers_15 : decode cX0_enoughWeathers 15 = .ok (.istore_n 3, 1) := by decide +kernel
theorem dX0_enoughWeathers_16 : decode cX0_enoughWeathers 16 = .ok (.iconst 0, 1) := by decide +kernel
theorem dX0_enoughWeathers_17 : decode cX0_enoughWeathers 17 = .ok (.istore 4, 2) := by decide +kernel
theorem dX0_enoughWeathers_19 : decode cX0_enoughWeathers 19 = .ok (.iload 4, 2) := by decide +kernel
theorem dX0_enoughWeathers_21 : decode cX0_enoughWeathers 21 = .ok (.bipush 100, 2) := by decide +kernel
theorem dX0_enoughWeathers_23 : decode cX0_enoughWeathers 23 = .ok (.if_icmp .ge 22, 3) := by decide +kernel
theorem dX0_enoughWeathers_26 : decode cX0_enoughWeathers 26 = .ok (.aload_n 1, 1) := by decide +kernel
theorem dX0_enoughWeathers_27 : decode cX0_enoughWeathers 27 = .ok (.iload 4, 2) := by decide +kernel
theorem dX0_enoughWeathers_29 : decode cX0_enoughWeathers 29 = .ok (.invokevirtual 80, 3) := by decide +kernel
theorem dX0_enoughWeathers_32 : decode cX0_enoughWeathers 32 = .ok (.iload_n 2, 1) := by decide +kernel
theorem dX0_enoughWeathers_33 : decode cX0_enoughWeathers 33 = .ok (.if_icmp .lt 6, 3) := by decide +kernel
theorem dX0_enoughWeathers_36 : decode cX0_enoughWeathers 36 = .ok (.iinc 3 1, 3) := by decide +kernel
theorem dX0_enoughWeathers_39 : decode cX0_enoughWeathers 39 = .ok (.iinc 4 1, 3) := by decide +kernel
theorem dX0_enoughWeathers_42 : decode cX0_enoughWeathers 42 = .ok (.goto (-23), 3) := by decide +kernel
theorem dX0_enoughWeathers_45 : decode cX0_enoughWeathers 45 = .ok (.iload_n 3, 1) := by decide +kernel
theorem dX0_enoughWeathers_46 : decode cX0_enoughWeathers 46 = .ok (.ireturn, 1) := by decide +kernel
theorem dX0_keepIn_0 : decode cX0_keepIn 0 = .ok (.iconst 0, 1) := by decide +kernel
theorem dX0_keepIn_1 : decode cX0_keepIn 1 = .ok (.istore_n 2, 1) := by decide +kernel
theorem dX0_keepIn_2 : decode cX0_keepIn 2 = .ok (.iload_n 2, 1) := by decide +kernel
theorem dX0_keepIn_3 : decode cX0_keepIn 3 = .ok (.aload_n 0, 1) := by decide +kernel
theorem dX0_keepIn_4 : decode cX0_keepIn 4 = .ok (.getfield 24, 3) := by decide +kernel
theorem dX0_keepIn_7 : decode cX0_keepIn 7 = .ok (.if_icmp .ge 28, 3) := by decide +kernel
theorem dX0_keepIn_10 : decode cX0_keepIn 10 = .ok (.iload_n 1, 1) := by decide +kernel
theorem dX0_keepIn_11 : decode cX0_keepIn 11 = .ok (.iload_n 2, 1) := by decide +kernel
theorem dX0_keepIn_12 : decode cX0_keepIn 12 = .ok (.ishr, 1) := by decide +kernel
theorem dX0_keepIn_13 : decode cX0_keepIn 13 = .ok (.iconst 1, 1) := by decide +kernel
theorem dX0_keepIn_14 : decode cX0_keepIn 14 = .ok (.iand, 1) := by decide +kernel
theorem dX0_keepIn_15 : decode cX0_keepIn 15 = .ok (.iconst 1, 1) := by decide +kernel
theorem dX0_keepIn_16 : decode cX0_keepIn 16 = .ok (.if_icmp .ne 13, 3) := by decide +kernel
theorem dX0_keepIn_19 : decode cX0_keepIn 19 = .ok (.aload_n 0, 1) := by decide +kernel
theorem dX0_keepIn_20 : decode cX0_keepIn 20 = .ok (.getfield 17, 3) := by decide +kernel
theorem dX0_keepIn_23 : decode cX0_keepIn 23 = .ok (.iload_n 2, 1) := by decide +kernel
theorem dX0_keepIn_24 : decode cX0_keepIn 24 = .ok (.aaload, 1) := by decide +kernel
theorem dX0_keepIn_25 : decode cX0_keepIn 25 = .ok (.iconst 0, 1) := by decide +kernel
theorem dX0_keepIn_26 : decode cX0_keepIn 26 = .ok (.putfield 120, 3) := by decide +kernel
theorem dX0_keepIn_29 : decode cX0_keepIn 29 = .ok (.iinc 2 1, 3) := by decide +kernel
theorem dX0_keepIn_32 : decode cX0_keepIn 32 = .ok (.goto (-30), 3) := by decide +kernel
theorem dX0_keepIn_35 : decode cX0_keepIn 35 = .ok (.return_, 1) := by decide +kernel
theorem dX0_allPots_0 : decode cX0_allPots 0 = .ok (.iconst 0, 1) := by decide +kernel
theorem dX0_allPots_1 : decode cX0_allPots 1 = .ok (.istore_n 1, 1) := by decide +kernel
theorem dX0_allPots_2 : decode cX0_allPots 2 = .ok (.iconst 0, 1) := by decide +kernel
theorem dX0_allPots_3 : decode cX0_allPots 3 = .ok (.istore_n 2, 1) := by decide +kernel
theorem dX0_allPots_4 : decode cX0_allPots 4 = .ok (.iload_n 2, 1) := by decide +kernel
theorem dX0_allPots_5 : decode cX0_allPots 5 = .ok (.aload_n 0, 1) := by decide +kernel
theorem dX0_allPots_6 : decode cX0_allPots 6 = .ok (.getfield 24, 3) := by decide +kernel
theorem dX0_allPots_9 : decode cX0_allPots 9 = .ok (.if_icmp .ge 21, 3) := by decide +kernel
theorem dX0_allPots_12 : decode cX0_allPots 12 = .ok (.iload_n 1, 1) := by decide +kernel
theorem dX0_allPots_13 : decode cX0_allPots 13 = .ok (.aload_n 0, 1) := by decide +kernel
theorem dX0_allPots_14 : decode cX0_allPots 14 = .ok (.getfield 17, 3) := by decide +kernel
theorem dX0_allPots_17 : decode cX0_allPots 17 = .ok (.iload_n 2, 1) := by decide +kernel
theorem dX0_allPots_18 : decode cX0_allPots 18 = .ok (.aaload, 1) := by decide +kernel
theorem dX0_allPots_19 : decode cX0_allPots 19 = .ok (.getfield 108, 3) := by decide +kernel
theorem dX0_allPots_22 : decode cX0_allPots 22 = .ok (.iadd, 1) := by decide +kernel
theorem dX0_allPots_23 : decode cX0_allPots 23 = .ok (.istore_n 1, 1) := by decide +kernel
theorem dX0_allPots_24 : decode cX0_allPots 24 = .ok (.iinc 2 1, 3) := by decide +kernel
theorem dX0_allPots_27 : decode cX0_allPots 27 = .ok (.goto (-23), 3) := by decide +kernel
theorem dX0_allPots_30 : decode cX0_allPots 30 = .ok (.iload_n 1, 1) := by decide +kernel
theorem dX0_allPots_31 : decode cX0_allPots 31 = .ok (.ireturn, 1) := by decide +kernel
theorem dX0_allCracked_0 : decode cX0_allCracked 0 = .ok (.iconst 0, 1) := by decide +kernel
theorem dX0_allCracked_1 : decode cX0_allCracked 1 = .ok (.istore_n 1, 1) := by decide +kernel
theorem dX0_allCracked_2 : decode cX0_allCracked 2 = .ok (.iconst 0, 1) := by decide +kernel
theorem dX0_allCracked_3 : decode cX0_allCracked 3 = .ok (.istore_n 2, 1) := by decide +kernel
theorem dX0_allCracked_4 : decode cX0_allCracked 4 = .ok (.iload_n 2, 1) := by decide +kernel
theorem dX0_allCracked_5 : decode cX0_allCracked 5 = .ok (.aload_n 0, 1) := by decide +kernel
theorem dX0_allCracked_6 : decode cX0_allCracked 6 = .ok (.getfield 24, 3) := by decide +kernel
theorem dX0_allCracked_9 : decode cX0_allCracked 9 = .ok (.if_icmp .ge 21, 3) := by decide +kernel
theorem dX0_allCracked_12 : decode cX0_allCracked 12 = .ok (.iload_n 1, 1) := by decide +kernel
theorem dX0_allCracked_13 : decode cX0_allCracked 13 = .ok (.aload_n 0, 1) := by decide +kernel
theorem dX0_allCracked_14 : decode cX0_allCracked 14 = .ok (.getfield 17, 3) := by decide +kernel
theorem dX0_allCracked_17 : decode cX0_allCracked 17 = .ok (.iload_n 2, 1) := by decide +kernel
theorem dX0_allCracked_18 : decode cX0_allCracked 18 = .ok (.aaload, 1) := by decide +kernel
theorem dX0_allCracked_19 : decode cX0_allCracked 19 = .ok (.getfield 114, 3) := by decide +kernel
theorem dX0_allCracked_22 : decode cX0_allCracked 22 = .ok (.iadd, 1) := by decide +kernel
theorem dX0_allCracked_23 : decode cX0_allCracked 23 = .ok (.istore_n 1, 1) := by decide +kernel
theorem dX0_allCracked_24 : decode cX0_allCracked 24 = .ok (.iinc 2 1, 3) := by decide +kernel
theorem dX0_allCracked_27 : decode cX0_allCracked 27 = .ok (.goto (-23), 3) := by decide +kernel
theorem dX0_allCracked_30 : decode cX0_allCracked 30 = .ok (.iload_n 1, 1) := by decide +kernel
theorem dX0_allCracked_31 : decode cX0_allCracked 31 = .ok (.ireturn, 1) := by decide +kernel
theorem dX0_coloursOfPots_0 : decode cX0_coloursOfPots 0 = .ok (.iconst 0, 1) := by decide +kernel
theorem dX0_coloursOfPots_1 : decode cX0_coloursOfPots 1 = .ok (.istore_n 1, 1) := by decide +kernel
theorem dX0_coloursOfPots_2 : decode cX0_coloursOfPots 2 = .ok (.iconst 0, 1) := by decide +kernel
theorem dX0_coloursOfPots_3 : decode cX0_coloursOfPots 3 = .ok (.istore_n 2, 1) := by decide +kernel
theorem dX0_coloursOfPots_4 : decode cX0_coloursOfPots 4 = .ok (.iload_n 2, 1) := by decide +kernel
theorem dX0_coloursOfPots_5 : decode cX0_coloursOfPots 5 = .ok (.aload_n 0, 1) := by decide +kernel
theorem dX0_coloursOfPots_6 : decode cX0_coloursOfPots 6 = .ok (.getfield 24, 3) := by decide +kernel
theorem dX0_coloursOfPots_9 : decode cX0_coloursOfPots 9 = .ok (.if_icmp .ge 35, 3) := by decide +kernel
theorem dX0_coloursOfPots_12 : decode cX0_coloursOfPots 12 = .ok (.aload_n 0, 1) := by decide +kernel
theorem dX0_coloursOfPots_13 : decode cX0_coloursOfPots 13 = .ok (.getfield 17, 3) := by decide +kernel
theorem dX0_coloursOfPots_16 : decode cX0_coloursOfPots 16 = .ok (.iload_n 2, 1) := by decide +kernel
theorem dX0_coloursOfPots_17 : decode cX0_coloursOfPots 17 = .ok (.aaload, 1) := by decide +kernel
theorem dX0_coloursOfPots_18 : decode cX0_coloursOfPots 18 = .ok (.getfield 108, 3) := by decide +kernel
theorem dX0_coloursOfPots_21 : decode cX0_coloursOfPots 21 = .ok (.ifCond .le 17, 3) := by decide +kernel
theorem dX0_coloursOfPots_24 : decode cX0_coloursOfPots 24 = .ok (.iload_n 1, 1) := by decide +kernel
theorem dX0_coloursOfPots_25 : decode cX0_coloursOfPots 25 = .ok (.iconst 1, 1) := by decide +kernel
theorem dX0_coloursOfPots_26 : decode cX0_coloursOfPots 26 = .ok (.aload_n 0, 1) := by decide +kernel
theorem dX0_coloursOfPots_27 : decode cX0_coloursOfPots 27 = .ok (.getfield 17, 3) := by decide +kernel
theorem dX0_coloursOfPots_30 : decode cX0_coloursOfPots 30 = .ok (.iload_n 2, 1) := by decide +kernel
theorem dX0_coloursOfPots_31 : decode cX0_coloursOfPots 31 = .ok (.aaload, 1) := by decide +kernel
theorem dX0_coloursOfPots_32 : decode cX0_coloursOfPots 32 = .ok (.getfield 105, 3) := by decide +kernel
theorem dX0_coloursOfPots_35 : decode cX0_coloursOfPots 35 = .ok (.ishl, 1) := by decide +kernel
theorem dX0_coloursOfPots_36 : decode cX0_coloursOfPots 36 = .ok (.ior, 1) := by decide +kernel
theorem dX0_coloursOfPots_37 : decode cX0_coloursOfPots 37 = .ok (.istore_n 1, 1) := by decide +kernel
theorem dX0_coloursOfPots_38 : decode cX0_coloursOfPots 38 = .ok (.iinc 2 1, 3) := by decide +kernel
theorem dX0_coloursOfPots_41 : decode cX0_coloursOfPots 41 = .ok (.goto (-37), 3) := by decide +kernel
theorem dX0_coloursOfPots_44 : decode cX0_coloursOfPots 44 = .ok (.iload_n 1, 1) := by decide +kernel
theorem dX0_coloursOfPots_45 : decode cX0_coloursOfPots 45 = .ok (.ireturn, 1) := by decide +kernel
theorem dX0_readyPotters_0 : decode cX0_readyPotters 0 = .ok (.iconst 0, 1) := by decide +kernel
theorem dX0_readyPotters_1 : decode cX0_readyPotters 1 = .ok (.istore_n 1, 1) := by decide +kernel
theorem dX0_readyPotters_2 : decode cX0_readyPotters 2 = .ok (.iconst 0, 1) := by decide +kernel
theorem dX0_readyPotters_3 : decode cX0_readyPotters 3 = .ok (.istore_n 2, 1) := by decide +kernel
theorem dX0_readyPotters_4 : decode cX0_readyPotters 4 = .ok (.iload_n 2, 1) := by decide +kernel
theorem dX0_readyPotters_5 : decode cX0_readyPotters 5 = .ok (.aload_n 0, 1) := by decide +kernel
theorem dX0_readyPotters_6 : decode cX0_readyPotters 6 = .ok (.getfield 24, 3) := by decide +kernel
theorem dX0_readyPotters_9 : decode cX0_readyPotters 9 = .ok (.if_icmp .ge 27, 3) := by decide +kernel
theorem dX0_readyPotters_12 : decode cX0_readyPotters 12 = .ok (.aload_n 0, 1) := by decide +kernel
theorem dX0_readyPotters_13 : decode cX0_readyPotters 13 = .ok (.getfield 17, 3) := by decide +kernel
theorem dX0_readyPotters_16 : decode cX0_readyPotters 16 = .ok (.iload_n 2, 1) := by decide +kernel
theorem dX0_readyPotters_17 : decode cX0_readyPotters 17 = .ok (.aaload, 1) := by decide +kernel
theorem dX0_readyPotters_18 : decode cX0_readyPotters 18 = .ok (.invokevirtual 98, 3) := by decide +kernel
theorem dX0_readyPotters_21 : decode cX0_readyPotters 21 = .ok (.ifCond .eq 9, 3) := by decide +kernel
theorem dX0_readyPotters_24 : decode cX0_readyPotters 24 = .ok (.iload_n 1, 1) := by decide +kernel
theorem dX0_readyPotters_25 : decode cX0_readyPotters 25 = .ok (.iconst 1, 1) := by decide +kernel
theorem dX0_readyPotters_26 : decode cX0_readyPotters 26 = .ok (.iload_n 2, 1) := by decide +kernel
theorem dX0_readyPotters_27 : decode cX0_readyPotters 27 = .ok (.ishl, 1) := by decide +kernel
theorem dX0_readyPotters_28 : decode cX0_readyPotters 28 = .ok (.ior, 1) := by decide +kernel
theorem dX0_readyPotters_29 : decode cX0_readyPotters 29 = .ok (.istore_n 1, 1) := by decide +kernel
theorem dX0_readyPotters_30 : decode cX0_readyPotters 30 = .ok (.iinc 2 1, 3) := by decide +kernel
theorem dX0_readyPotters_33 : decode cX0_readyPotters 33 = .ok (.goto (-29), 3) := by decide +kernel
theorem dX0_readyPotters_36 : decode cX0_readyPotters 36 = .ok (.iload_n 1, 1) := by decide +kernel
theorem dX0_readyPotters_37 : decode cX0_readyPotters 37 = .ok (.ireturn, 1) := by decide +kernel
theorem dX0_wettestPotter_0 : decode cX0_wettestPotter 0 = .ok (.iconst (-1), 1) := by decide +kernel
theorem dX0_wettestPotter_1 : decode cX0_wettestPotter 1 = .ok (.istore_n 1, 1) := by decide +kernel
theorem dX0_wettestPotter_2 : decode cX0_wettestPotter 2 = .ok (.iconst (-1), 1) := by decide +kernel
theorem dX0_wettestPotter_3 : decode cX0_wettestPotter 3 = .ok (.istore_n 2, 1) := by decide +kernel
theorem dX0_wettestPotter_4 : decode cX0_wettestPotter 4 = .ok (.iconst 0, 1) := by decide +kernel
theorem dX0_wettestPotter_5 : decode cX0_wettestPotter 5 = .ok (.istore_n 3, 1) := by decide +kernel
theorem dX0_wettestPotter_6 : decode cX0_wettestPotter 6 = .ok (.iload_n 3, 1) := by decide +kernel
theorem dX0_wettestPotter_7 : decode cX0_wettestPotter 7 = .ok (.aload_n 0, 1) := by decide +kernel
theorem dX0_wettestPotter_8 : decode cX0_wettestPotter 8 = .ok (.getfield 24, 3) := by decide +kernel
theorem dX0_wettestPotter_11 : decode cX0_wettestPotter 11 = .ok (.if_icmp .ge 34, 3) := by decide +kernel
theorem dX0_wettestPotter_14 : decode cX0_wettestPotter 14 = .ok (.aload_n 0, 1) := by decide +kernel
theorem dX0_wettestPotter_15 : decode cX0_wettestPotter 15 = .ok (.getfield 17, 3) := by decide +kernel
theorem dX0_wettestPotter_18 : decode cX0_wettestPotter 18 = .ok (.iload_n 3, 1) := by decide +kernel
theorem dX0_wettestPotter_19 : decode cX0_wettestPotter 19 = .ok (.aaload, 1) := by decide +kernel
theorem dX0_wettestPotter_20 : decode cX0_wettestPotter 20 = .ok (.getfield 83, 3) := by decide +kernel
theorem dX0_wettestPotter_23 : decode cX0_wettestPotter 23 = .ok (.iload_n 2, 1) := by decide +kernel
theorem dX0_wettestPotter_24 : decode cX0_wettestPotter 24 = .ok (.if_icmp .le 15, 3) := by decide +kernel
theorem dX0_wettestPotter_27 : decode cX0_wettestPotter 27 = .ok (.aload_n 0, 1) := by decide +kernel
theorem dX0_wettestPotter_28 : decode cX0_wettestPotter 28 = .ok (.getfield 17, 3) := by decide +kernel
theorem dX0_wettestPotter_31 : decode cX0_wettestPotter 31 = .ok (.iload_n 3, 1) := by decide +kernel
theorem dX0_wettestPotter_32 : decode cX0_wettestPotter 32 = .ok (.aaload, 1) := by decide +kernel
theorem dX0_wettestPotter_33 : decode cX0_wettestPotter 33 = .ok (.getfield 83, 3) := by decide +kernel
theorem dX0_wettestPotter_36 : decode cX0_wettestPotter 36 = .ok (.istore_n 2, 1) := by decide +kernel
theorem dX0_wettestPotter_37 : decode cX0_wettestPotter 37 = .ok (.iload_n 3, 1) := by decide +kernel
theorem dX0_wettestPotter_38 : decode cX0_wettestPotter 38 = .ok (.istore_n 1, 1) := by decide +kernel
theorem dX0_wettestPotter_39 : decode cX0_wettestPotter 39 = .ok (.iinc 3 1, 3) := by decide +kernel
theorem dX0_wettestPotter_42 : decode cX0_wettestPotter 42 = .ok (.goto (-36), 3) := by decide +kernel
theorem dX0_wettestPotter_45 : decode cX0_wettestPotter 45 = .ok (.iload_n 1, 1) := by decide +kernel
theorem dX0_wettestPotter_46 : decode cX0_wettestPotter 46 = .ok (.ireturn, 1) := by decide +kernel
theorem dX0_heldSpots_0 : decode cX0_heldSpots 0 = .ok (.iconst 0, 1) := by decide +kernel
theorem dX0_heldSpots_1 : decode cX0_heldSpots 1 = .ok (.istore_n 1, 1) := by decide +kernel
theorem dX0_heldSpots_2 : decode cX0_heldSpots 2 = .ok (.iconst 0, 1) := by decide +kernel
theorem dX0_heldSpots_3 : decode cX0_heldSpots 3 = .ok (.istore_n 2, 1) := by decide +kernel
theorem dX0_heldSpots_4 : decode cX0_heldSpots 4 = .ok (.iload_n 2, 1) := by decide +kernel
theorem dX0_heldSpots_5 : decode cX0_heldSpots 5 = .ok (.bipush 10, 2) := by decide +kernel
theorem dX0_heldSpots_7 : decode cX0_heldSpots 7 = .ok (.if_icmp .ge 22, 3) := by decide +kernel
theorem dX0_heldSpots_10 : decode cX0_heldSpots 10 = .ok (.aload_n 0, 1) := by decide +kernel
theorem dX0_heldSpots_11 : decode cX0_heldSpots 11 = .ok (.getfield 21, 3) := by decide +kernel
theorem dX0_heldSpots_14 : decode cX0_heldSpots 14 = .ok (.iload_n 2, 1) := by decide +kernel
theorem dX0_heldSpots_15 : decode cX0_heldSpots 15 = .ok (.iaload, 1) := by decide +kernel
theorem dX0_heldSpots_16 : decode cX0_heldSpots 16 = .ok (.iconst (-1), 1) := by decide +kernel
theorem dX0_heldSpots_17 : decode cX0_heldSpots 17 = .ok (.if_icmp .eq 6, 3) := by decide +kernel
theorem dX0_heldSpots_20 : decode cX0_heldSpots 20 = .ok (.iinc 1 1, 3) := by decide +kernel
theorem dX0_heldSpots_23 : decode cX0_heldSpots 23 = .ok (.iinc 2 1, 3) := by decide +kernel
theorem dX0_heldSpots_26 : decode cX0_heldSpots 26 = .ok (.goto (-22), 3) := by decide +kernel
theorem dX0_heldSpots_29 : decode cX0_heldSpots 29 = .ok (.iload_n 1, 1) := by decide +kernel
theorem dX0_heldSpots_30 : decode cX0_heldSpots 30 = .ok (.ireturn, 1) := by decide +kernel
theorem dX1_init_0 : decode cX1_init 0 = .ok (.aload_n 0, 1) := by decide +kernel
theorem dX1_init_1 : decode cX1_init 1 = .ok (.invokespecial 3, 3) := by decide +kernel
theorem dX1_init_4 : decode cX1_init 4 = .ok (.aload_n 0, 1) := by decide +kernel
theorem dX1_init_5 : decode cX1_init 5 = .ok (.iconst 0, 1) := by decide +kernel
theorem dX1_init_6 : decode cX1_init 6 = .ok (.putfield 9, 3) := by decide +kernel
theorem dX1_init_9 : decode cX1_init 9 = .ok (.aload_n 0, 1) := by decide +kernel
theorem dX1_init_10 : decode cX1_init 10 = .ok (.bipush 10, 2) := by decide +kernel
theorem dX1_init_12 : decode cX1_init 12 = .ok (.putfield 15, 3) := by decide +kernel
theorem dX1_init_15 : decode cX1_init 15 = .ok (.aload_n 0, 1) := by decide +kernel
theorem dX1_init_16 : decode cX1_init 16 = .ok (.iconst 2, 1) := by decide +kernel
theorem dX1_init_17 : decode cX1_init 17 = .ok (.putfield 18, 3) := by decide +kernel
theorem dX1_init_20 : decode cX1_init 20 = .ok (.aload_n 0, 1) := by decide +kernel
theorem dX1_init_21 : decode cX1_init 21 = .ok (.iconst 0, 1) := by decide +kernel
theorem dX1_init_22 : decode cX1_init 22 = .ok (.putfield 21, 3) := by decide +kernel
theorem dX1_init_25 : decode cX1_init 25 = .ok (.aload_n 0, 1) := by decide +kernel
theorem dX1_init_26 : decode cX1_init 26 = .ok (.iconst 0, 1) := by decide +kernel
theorem dX1_init_27 : decode cX1_init 27 = .ok (.putfield 24, 3) := by decide +kernel
theorem dX1_init_30 : decode cX1_init 30 = .ok (.aload_n 0, 1) := by decide +kernel
theorem dX1_init_31 : decode cX1_init 31 = .ok (.iconst 0, 1) := by decide +kernel
theorem dX1_init_32 : decode cX1_init 32 = .ok (.putfield 27, 3) := by decide +kernel
theorem dX1_init_35 : decode cX1_init 35 = .ok (.aload_n 0, 1) := by decide +kernel
theorem dX1_init_36 : decode cX1_init 36 = .ok (.iconst 0, 1) := by decide +kernel
theorem dX1_init_37 : decode cX1_init 37 = .ok (.putfield 30, 3) := by decide +kernel
theorem dX1_init_40 : decode cX1_init 40 = .ok (.return_, 1) := by decide +kernel
theorem dX1_begin_0 : decode cX1_begin 0 = .ok (.aload_n 0, 1) := by decide +kernel
theorem dX1_begin_1 : decode cX1_begin 1 = .ok (.iload_n 1, 1) := by decide +kernel
theorem dX1_begin_2 : decode cX1_begin 2 = .ok (.putfield 9, 3) := by decide +kernel
theorem dX1_begin_5 : decode cX1_begin 5 = .ok (.aload_n 0, 1) := by decide +kernel
theorem dX1_begin_6 : decode cX1_begin 6 = .ok (.iload_n 2, 1) := by decide +kernel
theorem dX1_begin_7 : decode cX1_begin 7 = .ok (.putfield 15, 3) := by decide +kernel
theorem dX1_begin_10 : decode cX1_begin 10 = .ok (.aload_n 0, 1) := by decide +kernel
theorem dX1_begin_11 : decode cX1_begin 11 = .ok (.iconst 2, 1) := by decide +kernel
theorem dX1_begin_12 : decode cX1_begin 12 = .ok (.putfield 18, 3) := by decide +kernel
theorem dX1_begin_15 : decode cX1_begin 15 = .ok (.aload_n 0, 1) := by decide +kernel
theorem dX1_begin_16 : decode cX1_begin 16 = .ok (.iconst 0, 1) := by decide +kernel
theorem dX1_begin_17 : decode cX1_begin 17 = .ok (.putfield 21, 3) := by decide +kernel
theorem dX1_begin_20 : decode cX1_begin 20 = .ok (.aload_n 0, 1) := by decide +kernel
theorem dX1_begin_21 : decode cX1_begin 21 = .ok (.iconst 0, 1) := by decide +kernel
theorem dX1_begin_22 : decode cX1_begin 22 = .ok (.putfield 24, 3) := by decide +kernel
theorem dX1_begin_25 : decode cX1_begin 25 = .ok (.aload_n 0, 1) := by decide +kernel
theorem dX1_begin_26 : decode cX1_begin 26 = .ok (.iconst 0, 1) := by decide +kernel
theorem dX1_begin_27 : decode cX1_begin 27 = .ok (.putfield 27, 3) := by decide +kernel
theorem dX1_begin_30 : decode cX1_begin 30 = .ok (.aload_n 0, 1) := by decide +kernel
theorem dX1_begin_31 : decode cX1_begin 31 = .ok (.iconst 0, 1) := by decide +kernel
theorem dX1_begin_32 : decode cX1_begin 32 = .ok (.putfield 30, 3) := by decide +kernel
theorem dX1_begin_35 : decode cX1_begin 35 = .ok (.return_, 1) := by decide +kernel
theorem dX1_become_0 : decode cX1_become 0 = .ok (.aload_n 0, 1) := by decide +kernel
theorem dX1_become_1 : decode cX1_become 1 = .ok (.aload_n 1, 1) := by decide +kernel
theorem dX1_become_2 : decode cX1_become 2 = .ok (.getfield 9, 3) := by decide +kernel
theorem dX1_become_5 : decode cX1_become 5 = .ok (.putfield 9, 3) := by decide +kernel
theorem dX1_become_8 : decode cX1_become 8 = .ok (.aload_n 0, 1) := by decide +kernel
theorem dX1_become_9 : decode cX1_become 9 = .ok (.aload_n 1, 1) := by decide +kernel
theorem dX1_become_10 : decode cX1_become 10 = .ok (.getfield 15, 3) := by decide +kernel
theorem dX1_become_13 : decode cX1_become 13 = .ok (.putfield 15, 3) := by decide +kernel
theorem dX1_become_16 : decode cX1_become 16 = .ok (.aload_n 0, 1) := by decide +kernel
theorem dX1_become_17 : decode cX1_become 17 = .ok (.aload_n 1, 1) := by decide +kernel
theorem dX1_become_18 : decode cX1_become 18 = .ok (.getfield 18, 3) := by decide +kernel
theorem dX1_become_21 : decode cX1_become 21 = .ok (.putfield 18, 3) := by decide +kernel
theorem dX1_become_24 : decode cX1_become 24 = .ok (.aload_n 0, 1) := by decide +kernel
theorem dX1_become_25 : decode cX1_become 25 = .ok (.aload_n 1, 1) := by decide +kernel
theorem dX1_become_26 : decode cX1_become 26 = .ok (.getfield 21, 3) := by decide +kernel
theorem dX1_become_29 : decode cX1_become 29 = .ok (.putfield 21, 3) := by decide +kernel
theorem dX1_become_32 : decode cX1_become 32 = .ok (.aload_n 0, 1) := by decide +kernel
theorem dX1_become_33 : decode cX1_become 33 = .ok (.aload_n 1, 1) := by decide +kernel
theorem dX1_become_34 : decode cX1_become 34 = .ok (.getfield 24, 3) := by decide +kernel
theorem dX1_become_37 : decode cX1_become 37 = .ok (.putfield 24, 3) := by decide +kernel
theorem dX1_become_40 : decode cX1_become 40 = .ok (.aload_n 0, 1) := by decide +kernel
theorem dX1_become_41 : decode cX1_become 41 = .ok (.aload_n 1, 1) := by decide +kernel
theorem dX1_become_42 : decode cX1_become 42 = .ok (.getfield 27, 3) := by decide +kernel
theorem dX1_become_45 : decode cX1_become 45 = .ok (.putfield 27, 3) := by decide +kernel
theorem dX1_become_48 : decode cX1_become 48 = .ok (.aload_n 0, 1) := by decide +kernel
theorem dX1_become_49 : decode cX1_become 49 = .ok (.aload_n 1, 1) := by decide +kernel
theorem dX1_become_50 : decode cX1_become 50 = .ok (.getfield 30, 3) := by decide +kernel
theorem dX1_become_53 : decode cX1_become 53 = .ok (.putfield 30, 3) := by decide +kernel
theorem dX1_become_56 : decode cX1_become 56 = .ok (.return_, 1) := by decide +kernel
theorem dX1_told_0 : decode cX1_told 0 = .ok (.iload_n 1, 1) := by decide +kernel
theorem dX1_told_1 : decode cX1_told 1 = .ok (.tableswitch 69 0 5 #[39, 44, 49, 54, 59, 64], 39) := by decide +kernel
theorem dX1_told_40 : decode cX1_told 40 = .ok (.aload_n 0, 1) := by decide +kernel
theorem dX1_told_41 : decode cX1_told 41 = .ok (.getfield 9, 3) := by decide +kernel
theorem dX1_told_44 : decode cX1_told 44 = .ok (.ireturn, 1) := by decide +kernel
theorem dX1_told_45 : decode cX1_told 45 = .ok (.aload_n 0, 1) := by decide +kernel
theorem dX1_told_46 : decode cX1_told 46 = .ok (.getfield 15, 3) := by decide +kernel
theorem dX1_told_49 : decode cX1_told 49 = .ok (.ireturn, 1) := by decide +kernel
theorem dX1_told_50 : decode cX1_told 50 = .ok (.aload_n 0, 1) := by decide +kernel
theorem dX1_told_51 : decode cX1_told 51 = .ok (.getfield 18, 3) := by decide +kernel
theorem dX1_told_54 : decode cX1_told 54 = .ok (.ireturn, 1) := by decide +kernel
theorem dX1_told_55 : decode cX1_told 55 = .ok (.aload_n 0, 1) := by decide +kernel
theorem dX1_told_56 : decode cX1_told 56 = .ok (.getfield 21, 3) := by decide +kernel
theorem dX1_told_59 : decode cX1_told 59 = .ok (.ireturn, 1) := by decide +kernel
theorem dX1_told_60 : decode cX1_told 60 = .ok (.aload_n 0, 1) := by decide +kernel
theorem dX1_told_61 : decode cX1_told 61 = .ok (.getfield 24, 3) := by decide +kernel
theorem dX1_told_64 : decode cX1_told 64 = .ok (.ireturn, 1) := by decide +kernel
theorem dX1_told_65 : decode cX1_told 65 = .ok (.aload_n 0, 1) := by decide +kernel
theorem dX1_told_66 : decode cX1_told 66 = .ok (.getfield 27, 3) := by decide +kernel
theorem dX1_told_69 : decode cX1_told 69 = .ok (.ireturn, 1) := by decide +kernel
theorem dX1_told_70 : decode cX1_told 70 = .ok (.aload_n 0, 1) := by decide +kernel
theorem dX1_told_71 : decode cX1_told 71 = .ok (.getfield 30, 3) := by decide +kernel
theorem dX1_told_74 : decode cX1_told 74 = .ok (.ireturn, 1) := by decide +kernel
theorem dX1_put_0 : decode cX1_put 0 = .ok (.iload_n 1, 1) := by decide +kernel
theorem dX1_put_1 : decode cX1_put 1 = .ok (.tableswitch 87 0 5 #[39, 47, 55, 63, 71, 79], 39) := by decide +kernel
theorem dX1_put_40 : decode cX1_put 40 = .ok (.aload_n 0, 1) := by decide +kernel
theorem dX1_put_41 : decode cX1_put 41 = .ok (.iload_n 2, 1) := by decide +kernel
theorem dX1_put_42 : decode cX1_put 42 = .ok (.putfield 9, 3) := by decide +kernel
theorem dX1_put_45 : decode cX1_put 45 = .ok (.goto 48, 3) := by decide +kernel
theorem dX1_put_48 : decode cX1_put 48 = .ok (.aload_n 0, 1) := by decide +kernel
theorem dX1_put_49 : decode cX1_put 49 = .ok (.iload_n 2, 1) := by decide +kernel
theorem dX1_put_50 : decode cX1_put 50 = .ok (.putfield 15, 3) := by decide +kernel
theorem dX1_put_53 : decode cX1_put 53 = .ok (.goto 40, 3) := by decide +kernel
theorem dX1_put_56 : decode cX1_put 56 = .ok (.aload_n 0, 1) := by decide +kernel
theorem dX1_put_57 : decode cX1_put 57 = .ok (.iload_n 2, 1) := by decide +kernel
theorem dX1_put_58 : decode cX1_put 58 = .ok (.putfield 18, 3) := by decide +kernel
theorem dX1_put_61 : decode cX1_put 61 = .ok (.goto 32, 3) := by decide +kernel
theorem dX1_put_64 : decode cX1_put 64 = .ok (.aload_n 0, 1) := by decide +kernel
theorem dX1_put_65 : decode cX1_put 65 = .ok (.iload_n 2, 1) := by decide +kernel
theorem dX1_put_66 : decode cX1_put 66 = .ok (.putfield 21, 3) := by decide +kernel
theorem dX1_put_69 : decode cX1_put 69 = .ok (.goto 24, 3) := by decide +kernel
theorem dX1_put_72 : decode cX1_put 72 = .ok (.aload_n 0, 1) := by decide +kernel
theorem dX1_put_73 : decode cX1_put 73 = .ok (.iload_n 2, 1) := by decide +kernel
theorem dX1_put_74 : decode cX1_put 74 = .ok (.putfield 24, 3) := by decide +kernel
theorem dX1_put_77 : decode cX1_put 77 = .ok (.goto 16, 3) := by decide +kernel
theorem dX1_put_80 : decode cX1_put 80 = .ok (.aload_n 0, 1) := by decide +kernel
theorem dX1_put_81 : decode cX1_put 81 = .ok (.iload_n 2, 1) := by decide +kernel
theorem dX1_put_82 : decode cX1_put 82 = .ok (.putfield 27, 3) := by decide +kernel
theorem dX1_put_85 : decode cX1_put 85 = .ok (.goto 8, 3) := by decide +kernel
theorem dX1_put_88 : decode cX1_put 88 = .ok (.aload_n 0, 1) := by decide +kernel
theorem dX1_put_89 : decode cX1_put 89 = .ok (.iload_n 2, 1) := by decide +kernel
theorem dX1_put_90 : decode cX1_put 90 = .ok (.putfield 30, 3) := by decide +kernel
theorem dX1_put_93 : decode cX1_put 93 = .ok (.return_, 1) := by decide +kernel
theorem dX1_cries_0 : decode cX1_cries 0 = .ok (.aload_n 0, 1) := by decide +kernel
theorem dX1_cries_1 : decode cX1_cries 1 = .ok (.getfield 15, 3) := by decide +kernel
theorem dX1_cries_4 : decode cX1_cries 4 = .ok (.bipush 10, 2) := by decide +kernel
theorem dX1_cries_6 : decode cX1_cries 6 = .ok (.idiv, 1) := by decide +kernel
theorem dX1_cries_7 : decode cX1_cries 7 = .ok (.istore_n 2, 1) := by decide +kernel
theorem dX1_cries_8 : decode cX1_cries 8 = .ok (.aload_n 0, 1) := by decide +kernel
theorem dX1_cries_9 : decode cX1_cries 9 = .ok (.getfield 9, 3) := by decide +kernel
theorem dX1_cries_12 : decode cX1_cries 12 = .ok (.tableswitch 85 1 6 #[40, 52, 56, 62, 81, 83], 40) := by decide +kernel
theorem dX1_cries_52 : decode cX1_cries 52 = .ok (.iload_n 1, 1) := by decide +kernel
theorem dX1_cries_53 : decode cX1_cries 53 = .ok (.ifCond .le 9, 3) := by decide +kernel
theorem dX1_cries_56 : decode cX1_cries 56 = .ok (.iload_n 2, 1) := by decide +kernel
theorem dX1_cries_57 : decode cX1_cries 57 = .ok (.iconst 3, 1) := by decide +kernel
theorem dX1_cries_58 : decode cX1_cries 58 = .ok (.iadd, 1) := by decide +kernel
theorem dX1_cries_59 : decode cX1_cries 59 = .ok (.goto 4, 3) := by decide +kernel
theorem dX1_cries_62 : decode cX1_cries 62 = .ok (.iload_n 2, 1) := by decide +kernel
theorem dX1_cries_63 : decode cX1_cries 63 = .ok (.ireturn, 1) := by decide +kernel
theorem dX1_cries_64 : decode cX1_cries 64 = .ok (.iconst 2, 1) := by decide +kernel
theorem dX1_cries_65 : decode cX1_cries 65 = .ok (.iload_n 2, 1) := by decide +kernel
theorem dX1_cries_66 : decode cX1_cries 66 = .ok (.imul, 1) := by decide +kernel
theorem dX1_cries_67 : decode cX1_cries 67 = .ok (.ireturn, 1) := by decide +kernel
theorem dX1_cries_68 : decode cX1_cries 68 = .ok (.iconst 2, 1) := by decide +kernel
theorem dX1_cries_69 : decode cX1_cries 69 = .ok (.iload_n 2, 1) := by decide +kernel
theorem dX1_cries_70 : decode cX1_cries 70 = .ok (.imul, 1) := by decide +kernel
theorem dX1_cries_71 : decode cX1_cries 71 = .ok (.iconst 2, 1) := by decide +kernel
theorem dX1_cries_72 : decode cX1_cries 72 = .ok (.iadd, 1) := by decide +kernel
theorem dX1_cries_73 : decode cX1_cries 73 = .ok (.ireturn, 1) := by decide +kernel
theorem dX1_cries_74 : decode cX1_cries 74 = .ok (.aload_n 0, 1) := by decide +kernel
theorem dX1_cries_75 : decode cX1_cries 75 = .ok (.getfield 27, 3) := by decide +kernel
theorem dX1_cries_78 : decode cX1_cries 78 = .ok (.bipush 50, 2) := by decide +kernel
theorem dX1_cries_80 : decode cX1_cries 80 = .ok (.if_icmp .lt 7, 3) := by decide +kernel
theorem dX1_cries_83 : decode cX1_cries 83 = .ok (.iconst 0, 1) := by decide +kernel
theorem dX1_cries_84 : decode cX1_cries 84 = .ok (.goto 8, 3) := by decide +kernel
theorem dX1_cries_87 : decode cX1_cries 87 = .ok (.iconst 2, 1) := by decide +kernel
theorem dX1_cries_88 : decode cX1_cries 88 = .ok (.iload_n 2, 1) := by decide +kernel
theorem dX1_cries_89 : decode cX1_cries 89 = .ok (.imul, 1) := by decide +kernel
theorem dX1_cries_90 : decode cX1_cries 90 = .ok (.iconst 2, 1) := by decide +kernel
theorem dX1_cries_91 : decode cX1_cries 91 = .ok (.iadd, 1) := by decide +kernel
theorem dX1_cries_92 : decode cX1_cries 92 = .ok (.ireturn, 1) := by decide +kernel
theorem dX1_cries_93 : decode cX1_cries 93 = .ok (.iconst 0, 1) := by decide +kernel
theorem dX1_cries_94 : decode cX1_cries 94 = .ok (.ireturn, 1) := by decide +kernel
theorem dX1_cries_95 : decode cX1_cries 95 = .ok (.iconst 0, 1) := by decide +kernel
theorem dX1_cries_96 : decode cX1_cries 96 = .ok (.ireturn, 1) := by decide +kernel
theorem dX1_cries_97 : decode cX1_cries 97 = .ok (.iload_n 2, 1) := by decide +kernel
theorem dX1_cries_98 : decode cX1_cries 98 = .ok (.ireturn, 1) := by decide +kernel
theorem dX1_weathers_0 : decode cX1_weathers 0 = .ok (.iload_n 1, 1) := by decide +kernel
theorem dX1_weathers_1 : decode cX1_weathers 1 = .ok (.bipush 10, 2) := by decide +kernel
theorem dX1_weathers_3 : decode cX1_weathers 3 = .ok (.idiv, 1) := by decide +kernel
theorem dX1_weathers_4 : decode cX1_weathers 4 = .ok (.istore_n 2, 1) := by decide +kernel
theorem dX1_weathers_5 : decode cX1_weathers 5 = .ok (.iload_n 1, 1) := by decide +kernel
theorem dX1_weathers_6 : decode cX1_weathers 6 = .ok (.bipush 10, 2) := by decide +kernel
theorem dX1_weathers_8 : decode cX1_weathers 8 = .ok (.irem, 1) := by decide +kernel
theorem dX1_weathers_9 : decode cX1_weathers 9 = .ok (.istore_n 3, 1) := by decide +kernel
theorem dX1_weathers_10 : decode cX1_weathers 10 = .ok (.aload_n 0, 1) := by decide +kernel
theorem dX1_weathers_11 : decode cX1_weathers 11 = .ok (.getfield 18, 3) := by decide +kernel
theorem dX1_weathers_14 : decode cX1_weathers 14 = .ok (.iload_n 2, 1) := by decide +kernel
theorem dX1_weathers_15 : decode cX1_weathers 15 = .ok (.imul, 1) := by decide +kernel
theorem dX1_weathers_16 : decode cX1_weathers 16 = .ok (.iconst 2, 1) := by decide +kernel
theorem dX1_weathers_17 : decode cX1_weathers 17 = .ok (.idiv, 1) := by decide +kernel
theorem dX1_weathers_18 : decode cX1_weathers 18 = .ok (.aload_n 0, 1) := by decide +kernel
theorem dX1_weathers_19 : decode cX1_weathers 19 = .ok (.getfield 18, 3) := by decide +kernel
theorem dX1_weathers_22 : decode cX1_weathers 22 = .ok (.ifCond .le 7, 3) := by decide +kernel
theorem dX1_weathers_25 : decode cX1_weathers 25 = .ok (.iload_n 3, 1) := by decide +kernel
theorem dX1_weathers_26 : decode cX1_weathers 26 = .ok (.goto 4, 3) := by decide +kernel
theorem dX1_weathers_29 : decode cX1_weathers 29 = .ok (.iconst 0, 1) := by decide +kernel
theorem dX1_weathers_30 : decode cX1_weathers 30 = .ok (.iadd, 1) := by decide +kernel
theorem dX1_weathers_31 : decode cX1_weathers 31 = .ok (.istore 4, 2) := by decide +kernel
theorem dX1_weathers_33 : decode cX1_weathers 33 = .ok (.aload_n 0, 1) := by decide +kernel
theorem dX1_weathers_34 : decode cX1_weathers 34 = .ok (.getfield 9, 3) := by decide +kernel
theorem dX1_weathers_37 : decode cX1_weathers 37 = .ok (.tableswitch 81 2 6 #[35, 40, 45, 50, 65], 35) := by decide +kernel
theorem dX1_weathers_72 : decode cX1_weathers 72 = .ok (.iload 4, 2) := by decide +kernel
theorem dX1_weathers_74 : decode cX1_weathers 74 = .ok (.iconst 2, 1) := by decide +kernel
theorem dX1_weathers_75 : decode cX1_weathers 75 = .ok (.idiv, 1) := by decide +kernel
theorem dX1_weathers_76 : decode cX1_weathers 76 = .ok (.ireturn, 1) := by decide +kernel
theorem dX1_weathers_77 : decode cX1_weathers 77 = .ok (.iload 4, 2) := by decide +kernel
theorem dX1_weathers_79 : decode cX1_weathers 79 = .ok (.iconst 2, 1) := by decide +kernel
theorem dX1_weathers_80 : decode cX1_weathers 80 = .ok (.idiv, 1) := by decide +kernel
theorem dX1_weathers_81 : decode cX1_weathers 81 = .ok (.ireturn, 1) := by decide +kernel
theorem dX1_weathers_82 : decode cX1_weathers 82 = .ok (.iload 4, 2) := by decide +kernel
theorem dX1_weathers_84 : decode cX1_weathers 84 = .ok (.iconst 2, 1) := by decide +kernel
theorem dX1_weathers_85 : decode cX1_weathers 85 = .ok (.idiv, 1) := by decide +kernel
theorem dX1_weathers_86 : decode cX1_weathers 86 = .ok (.ireturn, 1) := by decide +kernel
theorem dX1_weathers_87 : decode cX1_weathers 87 = .ok (.iload 4, 2) := by decide +kernel
theorem dX1_weathers_89 : decode cX1_weathers 89 = .ok (.iload_n 3, 1) := by decide +kernel
theorem dX1_weathers_90 : decode cX1_weathers 90 = .ok (.if_icmp .le 10, 3) := by decide +kernel
theorem dX1_weathers_93 : decode cX1_weathers 93 = .ok (.iload 4, 2) := by decide +kernel
theorem dX1_weathers_95 : decode cX1_weathers 95 = .ok (.iload_n 3, 1) := by decide +kernel
theorem dX1_weathers_96 : decode cX1_weathers 96 = .ok (.isub, 1) := by decide +kernel
theorem dX1_weathers_97 : decode cX1_weathers 97 = .ok (.goto 4, 3) := by decide +kernel
theorem dX1_weathers_100 : decode cX1_weathers 100 = .ok (.iconst 0, 1) := by decide +kernel
theorem dX1_weathers_101 : decode cX1_weathers 101 = .ok (.ireturn, 1) := by decide +kernel
theorem dX1_weathers_102 : decode cX1_weathers 102 = .ok (.iload_n 2, 1) := by decide +kernel
theorem dX1_weathers_103 : decode cX1_weathers 103 = .ok (.bipush 8, 2) := by decide +kernel
theorem dX1_weathers_105 : decode cX1_weathers 105 = .ok (.if_icmp .lt 10, 3) := by decide +kernel
theorem dX1_weathers_108 : decode cX1_weathers 108 = .ok (.iconst 2, 1) := by decide +kernel
theorem dX1_weathers_109 : decode cX1_weathers 109 = .ok (.iload 4, 2) := by decide +kernel
theorem dX1_weathers_111 : decode cX1_weathers 111 = .ok (.imul, 1) := by decide +kernel
theorem dX1_weathers_112 : decode cX1_weathers 112 = .ok (.goto 5, 3) := by decide +kernel
theorem dX1_weathers_115 : decode cX1_weathers 115 = .ok (.iload 4, 2) := by decide +kernel
theorem dX1_weathers_117 : decode cX1_weathers 117 = .ok (.ireturn, 1) := by decide +kernel
theorem dX1_weathers_118 : decode cX1_weathers 118 = .ok (.iload 4, 2) := by decide +kernel
theorem dX1_weathers_120 : decode cX1_weathers 120 = .ok (.ireturn, 1) := by decide +kernel
theorem dX1_needs_0 : decode cX1_needs 0 = .ok (.aload_n 0, 1) := by decide +kernel
theorem dX1_needs_1 : decode cX1_needs 1 = .ok (.getfield 9, 3) := by decide +kernel
theorem dX1_needs_4 : decode cX1_needs 4 = .ok (.tableswitch 58 1 6 #[40, 43, 46, 49, 52, 55], 40) := by decide +kernel
theorem dX1_needs_44 : decode cX1_needs 44 = .ok (.bipush 30, 2) := by decide +kernel
theorem dX1_needs_46 : decode cX1_needs 46 = .ok (.ireturn, 1) := by decide +kernel
theorem dX1_needs_47 : decode cX1_needs 47 = .ok (.bipush 50, 2) := by decide +kernel
theorem dX1_needs_49 : decode cX1_needs 49 = .ok (.ireturn, 1) := by decide +kernel
theorem dX1_needs_50 : decode cX1_needs 50 = .ok (.bipush 50, 2) := by decide +kernel
theorem dX1_needs_52 : decode cX1_needs 52 = .ok (.ireturn, 1) := by decide +kernel
theorem dX1_needs_53 : decode cX1_needs 53 = .ok (.bipush 30, 2) := by decide +kernel
theorem dX1_needs_55 : decode cX1_needs 55 = .ok (.ireturn, 1) := by decide +kernel
theorem dX1_needs_56 : decode cX1_needs 56 = .ok (.bipush 60, 2) := by decide +kernel
theorem dX1_needs_58 : decode cX1_needs 58 = .ok (.ireturn, 1) := by decide +kernel
theorem dX1_needs_59 : decode cX1_needs 59 = .ok (.bipush 50, 2) := by decide +kernel
theorem dX1_needs_61 : decode cX1_needs 61 = .ok (.ireturn, 1) := by decide +kernel
theorem dX1_needs_62 : decode cX1_needs 62 = .ok (.bipush 40, 2) := by decide +kernel
theorem dX1_needs_64 : decode cX1_needs 64 = .ok (.ireturn, 1) := by decide +kernel
theorem dX1_isReady_0 : decode cX1_isReady 0 = .ok (.aload_n 0, 1) := by decide +kernel
theorem dX1_isReady_1 : decode cX1_isReady 1 = .ok (.getfield 21, 3) := by decide +kernel
theorem dX1_isReady_4 : decode cX1_isReady 4 = .ok (.aload_n 0, 1) := by decide +kernel
theorem dX1_isReady_5 : decode cX1_isReady 5 = .ok (.invokevirtual 33, 3) := by decide +kernel
theorem dX1_isReady_8 : decode cX1_isReady 8 = .ok (.if_icmp .lt 7, 3) := by decide +kernel
theorem dX1_isReady_11 : decode cX1_isReady 11 = .ok (.iconst 1, 1) := by decide +kernel
theorem dX1_isReady_12 : decode cX1_isReady 12 = .ok (.goto 4, 3) := by decide +kernel
theorem dX1_isReady_15 : decode cX1_isReady 15 = .ok (.iconst 0, 1) := by decide +kernel
theorem dX1_isReady_16 : decode cX1_isReady 16 = .ok (.ireturn, 1) := by decide +kernel
theorem dX1_tint_0 : decode cX1_tint 0 = .ok (.aload_n 0, 1) := by decide +kernel
theorem dX1_tint_1 : decode cX1_tint 1 = .ok (.getfield 21, 3) := by decide +kernel
theorem dX1_tint_4 : decode cX1_tint 4 = .ok (.bipush 10, 2) := by decide +kernel
theorem dX1_tint_6 : decode cX1_tint 6 = .ok (.idiv, 1) := by decide +kernel
theorem dX1_tint_7 : decode cX1_tint 7 = .ok (.bipush 8, 2) := by decide +kernel
theorem dX1_tint_9 : decode cX1_tint 9 = .ok (.irem, 1) := by decide +kernel
theorem dX1_tint_10 : decode cX1_tint 10 = .ok (.istore_n 1, 1) := by decide +kernel
theorem dX1_tint_11 : decode cX1_tint 11 = .ok (.aload_n 0, 1) := by decide +kernel
theorem dX1_tint_12 : decode cX1_tint 12 = .ok (.getfield 9, 3) := by decide +kernel
theorem dX1_tint_15 : decode cX1_tint 15 = .ok (.tableswitch 78 2 6 #[33, 40, 47, 78, 62], 33) := by decide +kernel
theorem dX1_tint_48 : decode cX1_tint 48 = .ok (.iload_n 1, 1) := by decide +kernel
theorem dX1_tint_49 : decode cX1_tint 49 = .ok (.iconst 3, 1) := by decide +kernel
theorem dX1_tint_50 : decode cX1_tint 50 = .ok (.iadd, 1) := by decide +kernel
theorem dX1_tint_51 : decode cX1_tint 51 = .ok (.bipush 8, 2) := by decide +kernel
theorem dX1_tint_53 : decode cX1_tint 53 = .ok (.irem, 1) := by decide +kernel
theorem dX1_tint_54 : decode cX1_tint 54 = .ok (.ireturn, 1) := by decide +kernel
theorem dX1_tint_55 : decode cX1_tint 55 = .ok (.iload_n 1, 1) := by decide +kernel
theorem dX1_tint_56 : decode cX1_tint 56 = .ok (.iconst 3, 1) := by decide +kernel
theorem dX1_tint_57 : decode cX1_tint 57 = .ok (.iadd, 1) := by decide +kernel
theorem dX1_tint_58 : decode cX1_tint 58 = .ok (.bipush 8, 2) := by decide +kernel
theorem dX1_tint_60 : decode cX1_tint 60 = .ok (.irem, 1) := by decide +kernel
theorem dX1_tint_61 : decode cX1_tint 61 = .ok (.ireturn, 1) := by decide +kernel
theorem dX1_tint_62 : decode cX1_tint 62 = .ok (.aload_n 0, 1) := by decide +kernel
theorem dX1_tint_63 : decode cX1_tint 63 = .ok (.getfield 15, 3) := by decide +kernel
theorem dX1_tint_66 : decode cX1_tint 66 = .ok (.bipush 50, 2) := by decide +kernel
theorem dX1_tint_68 : decode cX1_tint 68 = .ok (.if_icmp .lt 7, 3) := by decide +kernel
theorem dX1_tint_71 : decode cX1_tint 71 = .ok (.iconst 1, 1) := by decide +kernel
theorem dX1_tint_72 : decode cX1_tint 72 = .ok (.goto 4, 3) := by decide +kernel
theorem dX1_tint_75 : decode cX1_tint 75 = .ok (.iconst 0, 1) := by decide +kernel
theorem dX1_tint_76 : decode cX1_tint 76 = .ok (.ireturn, 1) := by decide +kernel
theorem dX1_tint_77 : decode cX1_tint 77 = .ok (.aload_n 0, 1) := by decide +kernel
theorem dX1_tint_78 : decode cX1_tint 78 = .ok (.getfield 21, 3) := by decide +kernel
theorem dX1_tint_81 : decode cX1_tint 81 = .ok (.bipush 100, 2) := by decide +kernel
theorem dX1_tint_83 : decode cX1_tint 83 = .ok (.if_icmp .lt 8, 3) := by decide +kernel
theorem dX1_tint_86 : decode cX1_tint 86 = .ok (.bipush 7, 2) := by decide +kernel
theorem dX1_tint_88 : decode cX1_tint 88 = .ok (.goto 4, 3) := by decide +kernel
theorem dX1_tint_91 : decode cX1_tint 91 = .ok (.iload_n 1, 1) := by decide +kernel
theorem dX1_tint_92 : decode cX1_tint 92 = .ok (.ireturn, 1) := by decide +kernel
theorem dX1_tint_93 : decode cX1_tint 93 = .ok (.iload_n 1, 1) := by decide +kernel
theorem dX1_tint_94 : decode cX1_tint 94 = .ok (.ireturn, 1) := by decide +kernel
theorem dX1_fetches_0 : decode cX1_fetches 0 = .ok (.aload_n 0, 1) := by decide +kernel
theorem dX1_fetches_1 : decode cX1_fetches 1 = .ok (.getfield 9, 3) := by decide +kernel
theorem dX1_fetches_4 : decode cX1_fetches 4 = .ok (.tableswitch 92 1 6 #[40, 42, 50, 58, 68, 75], 40) := by decide +kernel
theorem dX1_fetches_44 : decode cX1_fetches 44 = .ok (.iconst 5, 1) := by decide +kernel
theorem dX1_fetches_45 : decode cX1_fetches 45 = .ok (.ireturn, 1) := by decide +kernel
theorem dX1_fetches_46 : decode cX1_fetches 46 = .ok (.bipush 20, 2) := by decide +kernel
theorem dX1_fetches_48 : decode cX1_fetches 48 = .ok (.aload_n 0, 1) := by decide +kernel
theorem dX1_fetches_49 : decode cX1_fetches 49 = .ok (.getfield 24, 3) := by decide +kernel
theorem dX1_fetches_52 : decode cX1_fetches 52 = .ok (.iadd, 1) := by decide +kernel
theorem dX1_fetches_53 : decode cX1_fetches 53 = .ok (.ireturn, 1) := by decide +kernel
theorem dX1_fetches_54 : decode cX1_fetches 54 = .ok (.bipush 20, 2) := by decide +kernel
theorem dX1_fetches_56 : decode cX1_fetches 56 = .ok (.aload_n 0, 1) := by decide +kernel
theorem dX1_fetches_57 : decode cX1_fetches 57 = .ok (.getfield 24, 3) := by decide +kernel
theorem dX1_fetches_60 : decode cX1_fetches 60 = .ok (.iadd, 1) := by decide +kernel
theorem dX1_fetches_61 : decode cX1_fetches 61 = .ok (.ireturn, 1) := by decide +kernel
theorem dX1_fetches_62 : decode cX1_fetches 62 = .ok (.iconst 3, 1) := by decide +kernel
theorem dX1_fetches_63 : decode cX1_fetches 63 = .ok (.bipush 20, 2) := by decide +kernel
theorem dX1_fetches_65 : decode cX1_fetches 65 = .ok (.aload_n 0, 1) := by decide +kernel
theorem dX1_fetches_66 : decode cX1_fetches 66 = .ok (.getfield 24, 3) := by decide +kernel
theorem dX1_fetches_69 : decode cX1_fetches 69 = .ok (.iadd, 1) := by decide +kernel
theorem dX1_fetches_70 : decode cX1_fetches 70 = .ok (.imul, 1) := by decide +kernel
theorem dX1_fetches_71 : decode cX1_fetches 71 = .ok (.ireturn, 1) := by decide +kernel
theorem dX1_fetches_72 : decode cX1_fetches 72 = .ok (.iconst 1, 1) := by decide +kernel
theorem dX1_fetches_73 : decode cX1_fetches 73 = .ok (.aload_n 0, 1) := by decide +kernel
theorem dX1_fetches_74 : decode cX1_fetches 74 = .ok (.getfield 24, 3) := by decide +kernel
theorem dX1_fetches_77 : decode cX1_fetches 77 = .ok (.iadd, 1) := by decide +kernel
theorem dX1_fetches_78 : decode cX1_fetches 78 = .ok (.ireturn, 1) := by decide +kernel
theorem dX1_fetches_79 : decode cX1_fetches 79 = .ok (.aload_n 0, 1) := by decide +kernel
theorem dX1_fetches_80 : decode cX1_fetches 80 = .ok (.getfield 24, 3) := by decide +kernel
theorem dX1_fetches_83 : decode cX1_fetches 83 = .ok (.bipush 7, 2) := by decide +kernel
theorem dX1_fetches_85 : decode cX1_fetches 85 = .ok (.if_icmp .ne 8, 3) := by decide +kernel
theorem dX1_fetches_88 : decode cX1_fetches 88 = .ok (.bipush 100, 2) := by decide +kernel
theorem dX1_fetches_90 : decode cX1_fetches 90 = .ok (.goto 5, 3) := by decide +kernel
theorem dX1_fetches_93 : decode cX1_fetches 93 = .ok (.bipush 10, 2) := by decide +kernel
theorem dX1_fetches_95 : decode cX1_fetches 95 = .ok (.ireturn, 1) := by decide +kernel
theorem dX1_fetches_96 : decode cX1_fetches 96 = .ok (.bipush 10, 2) := by decide +kernel
theorem dX1_fetches_98 : decode cX1_fetches 98 = .ok (.aload_n 0, 1) := by decide +kernel
theorem dX1_fetches_99 : decode cX1_fetches 99 = .ok (.getfield 24, 3) := by decide +kernel
theorem dX1_fetches_102 : decode cX1_fetches 102 = .ok (.iadd, 1) := by decide +kernel
theorem dX1_fetches_103 : decode cX1_fetches 103 = .ok (.ireturn, 1) := by decide +kernel
theorem dX1_heals_0 : decode cX1_heals 0 = .ok (.aload_n 0, 1) := by decide +kernel
theorem dX1_heals_1 : decode cX1_heals 1 = .ok (.getfield 9, 3) := by decide +kernel
theorem dX1_heals_4 : decode cX1_heals 4 = .ok (.tableswitch 50 1 6 #[40, 50, 42, 44, 46, 48], 40) := by decide +kernel
theorem dX1_heals_44 : decode cX1_heals 44 = .ok (.iconst 2, 1) := by decide +kernel
theorem dX1_heals_45 : decode cX1_heals 45 = .ok (.ireturn, 1) := by decide +kernel
theorem dX1_heals_46 : decode cX1_heals 46 = .ok (.iconst 0, 1) := by decide +kernel
theorem dX1_heals_47 : decode cX1_heals 47 = .ok (.ireturn, 1) := by decide +kernel
theorem dX1_heals_48 : decode cX1_heals 48 = .ok (.iconst 0, 1) := by decide +kernel
theorem dX1_heals_49 : decode cX1_heals 49 = .ok (.ireturn, 1) := by decide +kernel
theorem dX1_heals_50 : decode cX1_heals 50 = .ok (.iconst 5, 1) := by decide +kernel
theorem dX1_heals_51 : decode cX1_heals 51 = .ok (.ireturn, 1) := by decide +kernel
theorem dX1_heals_52 : decode cX1_heals 52 = .ok (.iconst 2, 1) := by decide +kernel
theorem dX1_heals_53 : decode cX1_heals 53 = .ok (.ireturn, 1) := by decide +kernel
theorem dX1_heals_54 : decode cX1_heals 54 = .ok (.iconst 1, 1) := by decide +kernel
theorem dX1_heals_55 : decode cX1_heals 55 = .ok (.ireturn, 1) := by decide +kernel
theorem dX1_hasPotOf_0 : decode cX1_hasPotOf 0 = .ok (.aload_n 0, 1) := by decide +kernel
theorem dX1_hasPotOf_1 : decode cX1_hasPotOf 1 = .ok (.getfield 27, 3) := by decide +kernel
theorem dX1_hasPotOf_4 : decode cX1_hasPotOf 4 = .ok (.ifCond .le 15, 3) := by decide +kernel
theorem dX1_hasPotOf_7 : decode cX1_hasPotOf 7 = .ok (.aload_n 0, 1) := by decide +kernel
theorem dX1_hasPotOf_8 : decode cX1_hasPotOf 8 = .ok (.getfield 24, 3) := by decide +kernel
theorem dX1_hasPotOf_11 : decode cX1_hasPotOf 11 = .ok (.iload_n 1, 1) := by decide +kernel
theorem dX1_hasPotOf_12 : decode cX1_hasPotOf 12 = .ok (.if_icmp .ne 7, 3) := by decide +kernel
theorem dX1_hasPotOf_15 : decode cX1_hasPotOf 15 = .ok (.iconst 1, 1) := by decide +kernel
theorem dX1_hasPotOf_16 : decode cX1_hasPotOf 16 = .ok (.goto 4, 3) := by decide +kernel
theorem dX1_hasPotOf_19 : decode cX1_hasPotOf 19 = .ok (.iconst 0, 1) := by decide +kernel
theorem dX1_hasPotOf_20 : decode cX1_hasPotOf 20 = .ok (.ireturn, 1) := by decide +kernel
theorem dX1_isUnder_0 : decode cX1_isUnder 0 = .ok (.aload_n 0, 1) := by decide +kernel
theorem dX1_isUnder_1 : decode cX1_isUnder 1 = .ok (.getfield 9, 3) := by decide +kernel
theorem dX1_isUnder_4 : decode cX1_isUnder 4 = .ok (.istore_n 2, 1) := by decide +kernel
theorem dX1_isUnder_5 : decode cX1_isUnder 5 = .ok (.iconst 0, 1) := by decide +kernel
theorem dX1_isUnder_6 : decode cX1_isUnder 6 = .ok (.istore_n 3, 1) := by decide +kernel
theorem dX1_isUnder_7 : decode cX1_isUnder 7 = .ok (.iload_n 3, 1) := by decide +kernel
theorem dX1_isUnder_8 : decode cX1_isUnder 8 = .ok (.bipush 7, 2) := by decide +kernel
theorem dX1_isUnder_10 : decode cX1_isUnder 10 = .ok (.if_icmp .ge 26, 3) := by decide +kernel
theorem dX1_isUnder_13 : decode cX1_isUnder 13 = .ok (.iload_n 2, 1) := by decide +kernel
theorem dX1_isUnder_14 : decode cX1_isUnder 14 = .ok (.iconst (-1), 1) := by decide +kernel
theorem dX1_isUnder_15 : decode cX1_isUnder 15 = .ok (.if_icmp .eq 21, 3) := by decide +kernel
theorem dX1_isUnder_18 : decode cX1_isUnder 18 = .ok (.iload_n 2, 1) := by decide +kernel
theorem dX1_isUnder_19 : decode cX1_isUnder 19 = .ok (.iload_n 1, 1) := by decide +kernel
theorem dX1_isUnder_20 : decode cX1_isUnder 20 = .ok (.if_icmp .ne 5, 3) := by decide +kernel
theorem dX1_isUnder_23 : decode cX1_isUnder 23 = .ok (.iconst 1, 1) := by decide +kernel
theorem dX1_isUnder_24 : decode cX1_isUnder 24 = .ok (.ireturn, 1) := by decide +kernel
theorem dX1_isUnder_25 : decode cX1_isUnder 25 = .ok (.iload_n 2, 1) := by decide +kernel
theorem dX1_isUnder_26 : decode cX1_isUnder 26 = .ok (.invokestatic 37, 3) := by decide +kernel
theorem dX1_isUnder_29 : decode cX1_isUnder 29 = .ok (.istore_n 2, 1) := by decide +kernel
theorem dX1_isUnder_30 : decode cX1_isUnder 30 = .ok (.iinc 3 1, 3) := by decide +kernel
theorem dX1_isUnder_33 : decode cX1_isUnder 33 = .ok (.goto (-26), 3) := by decide +kernel
theorem dX1_isUnder_36 : decode cX1_isUnder 36 = .ok (.iconst 0, 1) := by decide +kernel
theorem dX1_isUnder_37 : decode cX1_isUnder 37 = .ok (.ireturn, 1) := by decide +kernel
theorem dX1_kindAbove_0 : decode cX1_kindAbove 0 = .ok (.iload_n 0, 1) := by decide +kernel
theorem dX1_kindAbove_1 : decode cX1_kindAbove 1 = .ok (.tableswitch 51 1 6 #[39, 41, 45, 47, 43, 49], 39) := by decide +kernel
theorem dX1_kindAbove_40 : decode cX1_kindAbove 40 = .ok (.iconst 0, 1) := by decide +kernel
theorem dX1_kindAbove_41 : decode cX1_kindAbove 41 = .ok (.ireturn, 1) := by decide +kernel
theorem dX1_kindAbove_42 : decode cX1_kindAbove 42 = .ok (.iconst 0, 1) := by decide +kernel
theorem dX1_kindAbove_43 : decode cX1_kindAbove 43 = .ok (.ireturn, 1) := by decide +kernel
theorem dX1_kindAbove_44 : decode cX1_kindAbove 44 = .ok (.iconst 0, 1) := by decide +kernel
theorem dX1_kindAbove_45 : decode cX1_kindAbove 45 = .ok (.ireturn, 1) := by decide +kernel
theorem dX1_kindAbove_46 : decode cX1_kindAbove 46 = .ok (.iconst 2, 1) := by decide +kernel
theorem dX1_kindAbove_47 : decode cX1_kindAbove 47 = .ok (.ireturn, 1) := by decide +kernel
theorem dX1_kindAbove_48 : decode cX1_kindAbove 48 = .ok (.iconst 3, 1) := by decide +kernel
theorem dX1_kindAbove_49 : decode cX1_kindAbove 49 = .ok (.ireturn, 1) := by decide +kernel
theorem dX1_kindAbove_50 : decode cX1_kindAbove 50 = .ok (.iconst 1, 1) := by decide +kernel
theorem dX1_kindAbove_51 : decode cX1_kindAbove 51 = .ok (.ireturn, 1) := by decide +kernel
theorem dX1_kindAbove_52 : decode cX1_kindAbove 52 = .ok (.iconst (-1), 1) := by decide +kernel
theorem dX1_kindAbove_53 : decode cX1_kindAbove 53 = .ok (.ireturn, 1) := by decide +kernel
theorem dX2_init_0 : decode cX2_init 0 = .ok (.aload_n 0, 1) := by decide +kernel
theorem dX2_init_1 : decode cX2_init 1 = .ok (.invokespecial 3, 3) := by decide +kernel
theorem dX2_init_4 : decode cX2_init 4 = .ok (.aload_n 0, 1) := by decide +kernel
theorem dX2_init_5 : decode cX2_init 5 = .ok (.bipush 120, 2) := by decide +kernel
theorem dX2_init_7 : decode cX2_init 7 = .ok (.newarray .byte, 2) := by decide +kernel
theorem dX2_init_9 : decode cX2_init 9 = .ok (.putfield 9, 3) := by decide +kernel
theorem dX2_init_12 : decode cX2_init 12 = .ok (.aload_n 0, 1) := by decide +kernel
theorem dX2_init_13 : decode cX2_init 13 = .ok (.iconst 0, 1) := by decide +kernel
theorem dX2_init_14 : decode cX2_init 14 = .ok (.putfield 15, 3) := by decide +kernel
theorem dX2_init_17 : decode cX2_init 17 = .ok (.aload_n 0, 1) := by decide +kernel
theorem dX2_init_18 : decode cX2_init 18 = .ok (.iconst 0, 1) := by decide +kernel
theorem dX2_init_19 : decode cX2_init 19 = .ok (.putfield 19, 3) := by decide +kernel
theorem dX2_init_22 : decode cX2_init 22 = .ok (.aload_n 0, 1) := by decide +kernel
theorem dX2_init_23 : decode cX2_init 23 = .ok (.iconst 0, 1) := by decide +kernel
theorem dX2_init_24 : decode cX2_init 24 = .ok (.putfield 22, 3) := by decide +kernel
theorem dX2_init_27 : decode cX2_init 27 = .ok (.aload_n 0, 1) := by decide +kernel
theorem dX2_init_28 : decode cX2_init 28 = .ok (.iconst 0, 1) := by decide +kernel
theorem dX2_init_29 : decode cX2_init 29 = .ok (.putfield 25, 3) := by decide +kernel
theorem dX2_init_32 : decode cX2_init 32 = .ok (.aload_n 0, 1) := by decide +kernel
theorem dX2_init_33 : decode cX2_init 33 = .ok (.iconst 0, 1) := by decide +kernel
theorem dX2_init_34 : decode cX2_init 34 = .ok (.putfield 28, 3) := by decide +kernel
theorem dX2_init_37 : decode cX2_init 37 = .ok (.return_, 1) := by decide +kernel
theorem dX2_put_0 : decode cX2_put 0 = .ok (.aload_n 0, 1) := by decide +kernel
theorem dX2_put_1 : decode cX2_put 1 = .ok (.getfield 15, 3) := by decide +kernel
theorem dX2_put_4 : decode cX2_put 4 = .ok (.bipush 120, 2) := by decide +kernel
theorem dX2_put_6 : decode cX2_put 6 = .ok (.if_icmp .ge 24, 3) := by decide +kernel
theorem dX2_put_9 : decode cX2_put 9 = .ok (.aload_n 0, 1) := by decide +kernel
theorem dX2_put_10 : decode cX2_put 10 = .ok (.getfield 9, 3) := by decide +kernel
theorem dX2_put_13 : decode cX2_put 13 = .ok (.aload_n 0, 1) := by decide +kernel
theorem dX2_put_14 : decode cX2_put 14 = .ok (.getfield 15, 3) := by decide +kernel
theorem dX2_put_17 : decode cX2_put 17 = .ok (.iload_n 1, 1) := by decide +kernel
theorem dX2_put_18 : decode cX2_put 18 = .ok (.i2b, 1) := by decide +kernel
theorem dX2_put_19 : decode cX2_put 19 = .ok (.bastore, 1) := by decide +kernel
theorem dX2_put_20 : decode cX2_put 20 = .ok (.aload_n 0, 1) := by decide +kernel
theorem dX2_put_21 : decode cX2_put 21 = .ok (.dup, 1) := by decide +kernel
theorem dX2_put_22 : decode cX2_put 22 = .ok (.getfield 15, 3) := by decide +kernel
theorem dX2_put_25 : decode cX2_put 25 = .ok (.iconst 1, 1) := by decide +kernel
theorem dX2_put_26 : decode cX2_put 26 = .ok (.iadd, 1) := by decide +kernel
theorem dX2_put_27 : decode cX2_put 27 = .ok (.putfield 15, 3) := by decide +kernel
theorem dX2_put_30 : decode cX2_put 30 = .ok (.return_, 1) := by decide +kernel
theorem dX2_readInto_0 : decode cX2_readInto 0 = .ok (.aload_n 0, 1) := by decide +kernel
theorem dX2_readInto_1 : decode cX2_readInto 1 = .ok (.iconst 0, 1) := by decide +kernel
theorem dX2_readInto_2 : decode cX2_readInto 2 = .ok (.putfield 25, 3) := by decide +kernel
theorem dX2_readInto_5 : decode cX2_readInto 5 = .ok (.aload_n 0, 1) := by decide +kernel
theorem dX2_readInto_6 : decode cX2_readInto 6 = .ok (.invokevirtual 31, 3) := by decide +kernel
theorem dX2_readInto_9 : decode cX2_readInto 9 = .ok (.iconst 1, 1) := by decide +kernel
theorem dX2_readInto_10 : decode cX2_readInto 10 = .ok (.istore_n 2, 1) := by decide +kernel
theorem dX2_readInto_11 : decode cX2_readInto 11 = .ok (.iload_n 2, 1) := by decide +kernel
theorem dX2_readInto_12 : decode cX2_readInto 12 = .ok (.bipush 120, 2) := by decide +kernel
theorem dX2_readInto_14 : decode cX2_readInto 14 = .ok (.if_icmp .gt 44, 3) := by decide +kernel
theorem dX2_readInto_17 : decode cX2_readInto 17 = .ok (.aload_n 0, 1) := by decide +kernel
theorem dX2_readInto_18 : decode cX2_readInto 18 = .ok (.aload_n 1, 1) := by decide +kernel
theorem dX2_readInto_19 : decode cX2_readInto 19 = .ok (.invokevirtual 34, 3) := by decide +kernel
theorem dX2_readInto_22 : decode cX2_readInto 22 = .ok (.ifCond .ne 6, 3) := by decide +kernel
theorem dX2_readInto_25 : decode cX2_readInto 25 = .ok (.goto 33, 3) := by decide +kernel
theorem dX2_readInto_28 : decode cX2_readInto 28 = .ok (.aload_n 0, 1) := by decide +kernel
theorem dX2_readInto_29 : decode cX2_readInto 29 = .ok (.getfield 19, 3) := by decide +kernel
theorem dX2_readInto_32 : decode cX2_readInto 32 = .ok (.ifCond .ne 5, 3) := by decide +kernel
theorem dX2_readInto_35 : decode cX2_readInto 35 = .ok (.iload_n 2, 1) := by decide +kernel
theorem dX2_readInto_36 : decode cX2_readInto 36 = .ok (.ireturn, 1) := by decide +kernel
theorem dX2_readInto_37 : decode cX2_readInto 37 = .ok (.aload_n 0, 1) := by decide +kernel
theorem dX2_readInto_38 : decode cX2_readInto 38 = .ok (.getfield 19, 3) := by decide +kernel
theorem dX2_readInto_41 : decode cX2_readInto 41 = .ok (.iconst 3, 1) := by decide +kernel
theorem dX2_readInto_42 : decode cX2_readInto 42 = .ok (.if_icmp .eq 6, 3) := by decide +kernel
theorem dX2_readInto_45 : decode cX2_readInto 45 = .ok (.goto 13, 3) := by decide +kernel
theorem dX2_readInto_48 : decode cX2_readInto 48 = .ok (.aload_n 0, 1) := by decide +kernel
theorem dX2_readInto_49 : decode cX2_readInto 49 = .ok (.invokevirtual 31, 3) := by decide +kernel
theorem dX2_readInto_52 : decode cX2_readInto 52 = .ok (.iinc 2 1, 3) := by decide +kernel
theorem dX2_readInto_55 : decode cX2_readInto 55 = .ok (.goto (-44), 3) := by decide +kernel
theorem dX2_readInto_58 : decode cX2_readInto 58 = .ok (.iconst (-1), 1) := by decide +kernel
theorem dX2_readInto_59 : decode cX2_readInto 59 = .ok (.aload_n 0, 1) := by decide +kernel
theorem dX2_readInto_60 : decode cX2_readInto 60 = .ok (.getfield 22, 3) := by decide +kernel
theorem dX2_readInto_63 : decode cX2_readInto 63 = .ok (.isub, 1) := by decide +kernel
theorem dX2_readInto_64 : decode cX2_readInto 64 = .ok (.ireturn, 1) := by decide +kernel
theorem dX2_readItem_0 : decode cX2_readItem 0 = .ok (.aload_n 0, 1) := by decide +kernel
theorem dX2_readItem_1 : decode cX2_readItem 1 = .ok (.ldc 38, 2) := by decide +kernel
theorem dX2_readItem_3 : decode cX2_readItem 3 = .ok (.invokevirtual 40, 3) := by decide +kernel
theorem dX2_readItem_6 : decode cX2_readItem 6 = .ok (.ifCond .eq 9, 3) := by decide +kernel
theorem dX2_readItem_9 : decode cX2_readItem 9 = .ok (.aload_n 0, 1) := by decide +kernel
theorem dX2_readItem_10 : decode cX2_readItem 10 = .ok (.aload_n 1, 1) := by decide +kernel
theorem dX2_readItem_11 : decode cX2_readItem 11 = .ok (.invokevirtual 44, 3) := by decide +kernel
theorem dX2_readItem_14 : decode cX2_readItem 14 = .ok (.ireturn, 1) := by decide +kernel
theorem dX2_readItem_15 : decode cX2_readItem 15 = .ok (.aload_n 0, 1) := by decide +kernel
theorem dX2_readItem_16 : decode cX2_readItem 16 = .ok (.ldc 47, 2) := by decide +kernel
theorem dX2_readItem_18 : decode cX2_readItem 18 = .ok (.invokevirtual 40, 3) := by decide +kernel
theorem dX2_readItem_21 : decode cX2_readItem 21 = .ok (.ifCond .eq 9, 3) := by decide +kernel
theorem dX2_readItem_24 : decode cX2_readItem 24 = .ok (.aload_n 0, 1) := by decide +kernel
theorem dX2_readItem_25 : decode cX2_readItem 25 = .ok (.aload_n 1, 1) := by decide +kernel
theorem dX2_readItem_26 : decode cX2_readItem 26 = .ok (.invokevirtual 49, 3) := by decide +kernel
theorem dX2_readItem_29 : decode cX2_readItem 29 = .ok (.ireturn, 1) := by decide +kernel
theorem dX2_readItem_30 : decode cX2_readItem 30 = .ok (.aload_n 0, 1) := by decide +kernel
theorem dX2_readItem_31 : decode cX2_readItem 31 = .ok (.invokevirtual 52, 3) := by decide +kernel
theorem dX2_readItem_34 : decode cX2_readItem 34 = .ok (.istore_n 2, 1) := by decide +kernel
theorem dX2_readItem_35 : decode cX2_readItem 35 = .ok (.iload_n 2, 1) := by decide +kernel
theorem dX2_readItem_36 : decode cX2_readItem 36 = .ok (.iconst (-1), 1) := by decide +kernel
theorem dX2_readItem_37 : decode cX2_readItem 37 = .ok (.if_icmp .eq 10, 3) := by decide +kernel
theorem dX2_readItem_40 : decode cX2_readItem 40 = .ok (.aload_n 1, 1) := by decide +kernel
theorem dX2_readItem_41 : decode cX2_readItem 41 = .ok (.invokevirtual 56, 3) := by decide +kernel
theorem dX2_readItem_44 : decode cX2_readItem 44 = .ok (.ifCond .eq 5, 3) := by decide +kernel
theorem dX2_readItem_47 : decode cX2_readItem 47 = .ok (.iconst 0, 1) := by decide +kernel
theorem dX2_readItem_48 : decode cX2_readItem 48 = .ok (.ireturn, 1) := by decide +kernel
theorem dX2_readItem_49 : decode cX2_readItem 49 = .ok (.aload_n 0, 1) := by decide +kernel
theorem dX2_readItem_50 : decode cX2_readItem 50 = .ok (.invokevirtual 31, 3) := by decide +kernel
theorem dX2_readItem_53 : decode cX2_readItem 53 = .ok (.aload_n 0, 1) := by decide +kernel
theorem dX2_readItem_54 : decode cX2_readItem 54 = .ok (.aload_n 1, 1) := by decide +kernel
theorem dX2_readItem_55 : decode cX2_readItem 55 = .ok (.getfield 62, 3) := by decide +kernel
theorem dX2_readItem_58 : decode cX2_readItem 58 = .ok (.aload_n 1, 1) := by decide +kernel
theorem dX2_readItem_59 : decode cX2_readItem 59 = .ok (.iload_n 2, 1) := by decide +kernel
theorem dX2_readItem_60 : decode cX2_readItem 60 = .ok (.bipush 10, 2) := by decide +kernel
theorem dX2_readItem_62 : decode cX2_readItem 62 = .ok (.invokevirtual 66, 3) := by decide +kernel
theorem dX2_readItem_65 : decode cX2_readItem 65 = .ok (.aaload, 1) := by decide +kernel
theorem dX2_readItem_66 : decode cX2_readItem 66 = .ok (.invokevirtual 70, 3) := by decide +kernel
theorem dX2_readItem_69 : decode cX2_readItem 69 = .ok (.ireturn, 1) := by decide +kernel
theorem dX2_readWeather_0 : decode cX2_readWeather 0 = .ok (.aload_n 0, 1) := by decide +kernel
theorem dX2_readWeather_1 : decode cX2_readWeather 1 = .ok (.invokevirtual 31, 3) := by decide +kernel
theorem dX2_readWeather_4 : decode cX2_readWeather 4 = .ok (.aload_n 0, 1) := by decide +kernel
theorem dX2_readWeather_5 : decode cX2_readWeather 5 = .ok (.iconst 5, 1) := by decide +kernel
theorem dX2_readWeather_6 : decode cX2_readWeather 6 = .ok (.invokevirtual 74, 3) := by decide +kernel
theorem dX2_readWeather_9 : decode cX2_readWeather 9 = .ok (.istore_n 2, 1) := by decide +kernel
theorem dX2_readWeather_10 : decode cX2_readWeather 10 = .ok (.iload_n 2, 1) := by decide +kernel
theorem dX2_readWeather_11 : decode cX2_readWeather 11 = .ok (.iconst (-1), 1) := by decide +kernel
theorem dX2_readWeather_12 : decode cX2_readWeather 12 = .ok (.if_icmp .ne 5, 3) := by decide +kernel
theorem dX2_readWeather_15 : decode cX2_readWeather 15 = .ok (.iconst 0, 1) := by decide +kernel
theorem dX2_readWeather_16 : decode cX2_readWeather 16 = .ok (.ireturn, 1) := by decide +kernel
theorem dX2_readWeather_17 : decode cX2_readWeather 17 = .ok (.aload_n 0, 1) := by decide +kernel
theorem dX2_readWeather_18 : decode cX2_readWeather 18 = .ok (.bipush 9, 2) := by decide +kernel
theorem dX2_readWeather_20 : decode cX2_readWeather 20 = .ok (.invokevirtual 74, 3) := by decide +kernel
theorem dX2_readWeather_23 : decode cX2_readWeather 23 = .ok (.istore_n 3, 1) := by decide +kernel
theorem dX2_readWeather_24 : decode cX2_readWeather 24 = .ok (.iload_n 3, 1) := by decide +kernel
theorem dX2_readWeather_25 : decode cX2_readWeather 25 = .ok (.iconst (-1), 1) := by decide +kernel
theorem dX2_readWeather_26 : decode cX2_readWeather 26 = .ok (.if_icmp .ne 5, 3) := by decide +kernel
theorem dX2_readWeather_29 : decode cX2_readWeather 29 = .ok (.iconst 0, 1) := by decide +kernel
theorem dX2_readWeather_30 : decode cX2_readWeather 30 = .ok (.ireturn, 1) := by decide +kernel
theorem dX2_readWeather_31 : decode cX2_readWeather 31 = .ok (.aload_n 0, 1) := by decide +kernel
theorem dX2_readWeather_32 : decode cX2_readWeather 32 = .ok (.bipush 9, 2) := by decide +kernel
theorem dX2_readWeather_34 : decode cX2_readWeather 34 = .ok (.invokevirtual 74, 3) := by decide +kernel
theorem dX2_readWeather_37 : decode cX2_readWeather 37 = .ok (.istore 4, 2) := by decide +kernel
theorem dX2_readWeather_39 : decode cX2_readWeather 39 = .ok (.iload 4, 2) := by decide +kernel
theorem dX2_readWeather_41 : decode cX2_readWeather 41 = .ok (.iconst (-1), 1) := by decide +kernel
theorem dX2_readWeather_42 : decode cX2_readWeather 42 = .ok (.if_icmp .ne 5, 3) := by decide +kernel
theorem dX2_readWeather_45 : decode cX2_readWeather 45 = .ok (.iconst 0, 1) := by decide +kernel
theorem dX2_readWeather_46 : decode cX2_readWeather 46 = .ok (.ireturn, 1) := by decide +kernel
theorem dX2_readWeather_47 : decode cX2_readWeather 47 = .ok (.aload_n 1, 1) := by decide +kernel
theorem dX2_readWeather_48 : decode cX2_readWeather 48 = .ok (.getfield 78, 3) := by decide +kernel
theorem dX2_readWeather_51 : decode cX2_readWeather 51 = .ok (.iload_n 2, 1) := by decide +kernel
theorem dX2_readWeather_52 : decode cX2_readWeather 52 = .ok (.bipush 10, 2) := by decide +kernel
theorem dX2_readWeather_54 : decode cX2_readWeather 54 = .ok (.iload_n 3, 1) := by decide +kernel
theorem dX2_readWeather_55 : decode cX2_readWeather 55 = .ok (.imul, 1) := by decide +kernel
theorem dX2_readWeather_56 : decode cX2_readWeather 56 = .ok (.iload 4, 2) := by decide +kernel
theorem dX2_readWeather_58 : decode cX2_readWeather 58 = .ok (.iadd, 1) := by decide +kernel
theorem dX2_readWeather_59 : decode cX2_readWeather 59 = .ok (.iastore, 1) := by decide +kernel
theorem dX2_readWeather_60 : decode cX2_readWeather 60 = .ok (.iconst 1, 1) := by decide +kernel
theorem dX2_readWeather_61 : decode cX2_readWeather 61 = .ok (.ireturn, 1) := by decide +kernel
theorem dX2_readOnions_0 : decode cX2_readOnions 0 = .ok (.aload_n 0, 1) := by decide +kernel
theorem dX2_readOnions_1 : decode cX2_readOnions 1 = .ok (.invokevirtual 31, 3) := by decide +kernel
theorem dX2_readOnions_4 : decode cX2_readOnions 4 = .ok (.aload_n 0, 1) := by decide +kernel
theorem dX2_readOnions_5 : decode cX2_readOnions 5 = .ok (.bipush 99, 2) := by decide +kernel
theorem dX2_readOnions_7 : decode cX2_readOnions 7 = .ok (.invokevirtual 74, 3) := by decide +kernel
theorem dX2_readOnions_10 : decode cX2_readOnions 10 = .ok (.istore_n 2, 1) := by decide +kernel
theorem dX2_readOnions_11 : decode cX2_readOnions 11 = .ok (.iload_n 2, 1) := by decide +kernel
theorem dX2_readOnions_12 : decode cX2_readOnions 12 = .ok (.iconst (-1), 1) := by decide +kernel
theorem dX2_readOnions_13 : decode cX2_readOnions 13 = .ok (.if_icmp .ne 5, 3) := by decide +kernel
theorem dX2_readOnions_16 : decode cX2_readOnions 16 = .ok (.iconst 0, 1) := by decide +kernel
theorem dX2_readOnions_17 : decode cX2_readOnions 17 = .ok (.ireturn, 1) := by decide +kernel
theorem dX2_readOnions_18 : decode cX2_readOnions 18 = .ok (.aload_n 1, 1) := by decide +kernel
theorem dX2_readOnions_19 : decode cX2_readOnions 19 = .ok (.iload_n 2, 1) := by decide +kernel
theorem dX2_readOnions_20 : decode cX2_readOnions 20 = .ok (.putfield 82, 3) := by decide +kernel
theorem dX2_readOnions_23 : decode cX2_readOnions 23 = .ok (.iconst 1, 1) := by decide +kernel
theorem dX2_readOnions_24 : decode cX2_readOnions 24 = .ok (.ireturn, 1) := by decide +kernel
theorem dX2_readDetails_0 : decode cX2_readDetails 0 = .ok (.iconst 1, 1) := by decide +kernel
theorem dX2_readDetails_1 : decode cX2_readDetails 1 = .ok (.istore_n 2, 1) := by decide +kernel
theorem dX2_readDetails_2 : decode cX2_readDetails 2 = .ok (.iload_n 2, 1) := by decide +kernel
theorem dX2_readDetails_3 : decode cX2_readDetails 3 = .ok (.iconst 3, 1) := by decide +kernel
theorem dX2_readDetails_4 : decode cX2_readDetails 4 = .ok (.if_icmp .gt 46, 3) := by decide +kernel
theorem dX2_readDetails_7 : decode cX2_readDetails 7 = .ok (.aload_n 0, 1) := by decide +kernel
theorem dX2_readDetails_8 : decode cX2_readDetails 8 = .ok (.iload_n 2, 1) := by decide +kernel
theorem dX2_readDetails_9 : decode cX2_readDetails 9 = .ok (.invokestatic 85, 3) := by decide +kernel
theorem dX2_readDetails_12 : decode cX2_readDetails 12 = .ok (.invokevirtual 40, 3) := by decide +kernel
theorem dX2_readDetails_15 : decode cX2_readDetails 15 = .ok (.ifCond .eq 29, 3) := by decide +kernel
theorem dX2_readDetails_18 : decode cX2_readDetails 18 = .ok (.aload_n 0, 1) := by decide +kernel
theorem dX2_readDetails_19 : decode cX2_readDetails 19 = .ok (.invokevirtual 31, 3) := by decide +kernel
theorem dX2_readDetails_22 : decode cX2_readDetails 22 = .ok (.aload_n 0, 1) := by decide +kernel
theorem dX2_readDetails_23 : decode cX2_readDetails 23 = .ok (.iload_n 2, 1) := by decide +kernel
theorem dX2_readDetails_24 : decode cX2_readDetails 24 = .ok (.invokestatic 89, 3) := by decide +kernel
theorem dX2_readDetails_27 : decode cX2_readDetails 27 = .ok (.invokevirtual 74, 3) := by decide +kernel
theorem dX2_readDetails_30 : decode cX2_readDetails 30 = .ok (.istore_n 3, 1) := by decide +kernel
theorem dX2_readDetails_31 : decode cX2_readDetails 31 = .ok (.iload_n 3, 1) := by decide +kernel
theorem dX2_readDetails_32 : decode cX2_readDetails 32 = .ok (.iconst (-1), 1) := by decide +kernel
theorem dX2_readDetails_33 : decode cX2_readDetails 33 = .ok (.if_icmp .ne 5, 3) := by decide +kernel
theorem dX2_readDetails_36 : decode cX2_readDetails 36 = .ok (.iconst 0, 1) := by decide +kernel
theorem dX2_readDetails_37 : decode cX2_readDetails 37 = .ok (.ireturn, 1) := by decide +kernel
theorem dX2_readDetails_38 : decode cX2_readDetails 38 = .ok (.aload_n 1, 1) := by decide +kernel
theorem dX2_readDetails_39 : decode cX2_readDetails 39 = .ok (.iload_n 2, 1) := by decide +kernel
theorem dX2_readDetails_40 : decode cX2_readDetails 40 = .ok (.iload_n 3, 1) := by decide +kernel
theorem dX2_readDetails_41 : decode cX2_readDetails 41 = .ok (.invokevirtual 92, 3) := by decide +kernel
theorem dX2_readDetails_44 : decode cX2_readDetails 44 = .ok (.iinc 2 1, 3) := by decide +kernel
theorem dX2_readDetails_47 : decode cX2_readDetails 47 = .ok (.goto (-45), 3) := by decide +kernel
theorem dX2_readDetails_50 : decode cX2_readDetails 50 = .ok (.iconst 1, 1) := by decide +kernel
theorem dX2_readDetails_51 : decode cX2_readDetails 51 = .ok (.ireturn, 1) := by decide +kernel
theorem dX2_takeNumber_0 : decode cX2_takeNumber 0 = .ok (.aload_n 0, 1) := by decide +kernel
theorem dX2_takeNumber_1 : decode cX2_takeNumber 1 = .ok (.getfield 19, 3) := by decide +kernel
theorem dX2_takeNumber_4 : decode cX2_takeNumber 4 = .ok (.iconst 2, 1) := by decide +kernel
theorem dX2_takeNumber_5 : decode cX2_takeNumber 5 = .ok (.if_icmp .ne 11, 3) := by decide +kernel
theorem dX2_takeNumber_8 : decode cX2_takeNumber 8 = .ok (.aload_n 0, 1) := by decide +kernel
theorem dX2_takeNumber_9 : decode cX2_takeNumber 9 = .ok (.getfield 28, 3) := by decide +kernel
theorem dX2_takeNumber_12 : decode cX2_takeNumber 12 = .ok (.iload_n 1, 1) := by decide +kernel
theorem dX2_takeNumber_13 : decode cX2_takeNumber 13 = .ok (.if_icmp .le 5, 3) := by decide +kernel
theorem dX2_takeNumber_16 : decode cX2_takeNumber 16 = .ok (.iconst (-1), 1) := by decide +kernel
theorem dX2_takeNumber_17 : decode cX2_takeNumber 17 = .ok (.ireturn, 1) := by decide +kernel
theorem dX2_takeNumber_18 : decode cX2_takeNumber 18 = .ok (.aload_n 0, 1) := by decide +kernel
theorem dX2_takeNumber_19 : decode cX2_takeNumber 19 = .ok (.getfield 28, 3) := by decide +kernel
theorem dX2_takeNumber_22 : decode cX2_takeNumber 22 = .ok (.istore_n 2, 1) := by decide +kernel
theorem dX2_takeNumber_23 : decode cX2_takeNumber 23 = .ok (.aload_n 0, 1) := by decide +kernel
theorem dX2_takeNumber_24 : decode cX2_takeNumber 24 = .ok (.invokevirtual 31, 3) := by decide +kernel
theorem dX2_takeNumber_27 : decode cX2_takeNumber 27 = .ok (.iload_n 2, 1) := by decide +kernel
theorem dX2_takeNumber_28 : decode cX2_takeNumber 28 = .ok (.ireturn, 1) := by decide +kernel
theorem dX2_kindOfWord_0 : decode cX2_kindOfWord 0 = .ok (.iconst 0, 1) := by decide +kernel
theorem dX2_kindOfWord_1 : decode cX2_kindOfWord 1 = .ok (.istore_n 1, 1) := by decide +kernel
theorem dX2_kindOfWord_2 : decode cX2_kindOfWord 2 = .ok (.iload_n 1, 1) := by decide +kernel
theorem dX2_kindOfWord_3 : decode cX2_kindOfWord 3 = .ok (.bipush 7, 2) := by decide +kernel
theorem dX2_kindOfWord_5 : decode cX2_kindOfWord 5 = .ok (.if_icmp .ge 22, 3) := by decide +kernel
theorem dX2_kindOfWord_8 : decode cX2_kindOfWord 8 = .ok (.aload_n 0, 1) := by decide +kernel
theorem dX2_kindOfWord_9 : decode cX2_kindOfWord 9 = .ok (.iload_n 1, 1) := by decide +kernel
theorem dX2_kindOfWord_10 : decode cX2_kindOfWord 10 = .ok (.invokestatic 98, 3) := by decide +kernel
theorem dX2_kindOfWord_13 : decode cX2_kindOfWord 13 = .ok (.invokevirtual 40, 3) := by decide +kernel
theorem dX2_kindOfWord_16 : decode cX2_kindOfWord 16 = .ok (.ifCond .eq 5, 3) := by decide +kernel
theorem dX2_kindOfWord_19 : decode cX2_kindOfWord 19 = .ok (.iload_n 1, 1) := by decide +kernel
theorem dX2_kindOfWord_20 : decode cX2_kindOfWord 20 = .ok (.ireturn, 1) := by decide +kernel
theorem dX2_kindOfWord_21 : decode cX2_kindOfWord 21 = .ok (.iinc 1 1, 3) := by decide +kernel
theorem dX2_kindOfWord_24 : decode cX2_kindOfWord 24 = .ok (.goto (-22), 3) := by decide +kernel
theorem dX2_kindOfWord_27 : decode cX2_kindOfWord 27 = .ok (.iconst (-1), 1) := by decide +kernel
theorem dX2_kindOfWord_28 : decode cX2_kindOfWord 28 = .ok (.ireturn, 1) := by decide +kernel
theorem dX2_wordOfKind_0 : decode cX2_wordOfKind 0 = .ok (.iload_n 0, 1) := by decide +kernel
theorem dX2_wordOfKind_1 : decode cX2_wordOfKind 1 = .ok (.tableswitch 57 1 6 #[39, 42, 45, 48, 51, 54], 39) := by decide +kernel
theorem dX2_wordOfKind_40 : decode cX2_wordOfKind 40 = .ok (.ldc 101, 2) := by decide +kernel
theorem dX2_wordOfKind_42 : decode cX2_wordOfKind 42 = .ok (.areturn, 1) := by decide +kernel
theorem dX2_wordOfKind_43 : decode cX2_wordOfKind 43 = .ok (.ldc 103, 2) := by decide +kernel
theorem dX2_wordOfKind_45 : decode cX2_wordOfKind 45 = .ok (.areturn, 1) := by decide +kernel
theorem dX2_wordOfKind_46 : decode cX2_wordOfKind 46 = .ok (.ldc 105, 2) := by decide +kernel
theorem dX2_wordOfKind_48 : decode cX2_wordOfKind 48 = .ok (.areturn, 1) := by decide +kernel
theorem dX2_wordOfKind_49 : decode cX2_wordOfKind 49 = .ok (.ldc 107, 2) := by decide +kernel
theorem dX2_wordOfKind_51 : decode cX2_wordOfKind 51 = .ok (.areturn, 1) := by decide +kernel
theorem dX2_wordOfKind_52 : decode cX2_wordOfKind 52 = .ok (.ldc 109, 2) := by decide +kernel
theorem dX2_wordOfKind_54 : decode cX2_wordOfKind 54 = .ok (.areturn, 1) := by decide +kernel
theorem dX2_wordOfKind_55 : decode cX2_wordOfKind 55 = .ok (.ldc 111, 2) := by decide +kernel
theorem dX2_wordOfKind_57 : decode cX2_wordOfKind 57 = .ok (.areturn, 1) := by decide +kernel
theorem dX2_wordOfKind_58 : decode cX2_wordOfKind 58 = .ok (.ldc 113, 2) := by decide +kernel
theorem dX2_wordOfKind_60 : decode cX2_wordOfKind 60 = .ok (.areturn, 1) := by decide +kernel
theorem dX2_wordOfDetail_0 : decode cX2_wordOfDetail 0 = .ok (.iload_n 0, 1) := by decide +kernel
theorem dX2_wordOfDetail_1 : decode cX2_wordOfDetail 1 = .ok (.lookupswitch 33 #[(1, 27), (2, 30)], 27) := by decide +kernel
theorem dX2_wordOfDetail_28 : decode cX2_wordOfDetail 28 = .ok (.ldc 115, 2) := by decide +kernel
theorem dX2_wordOfDetail_30 : decode cX2_wordOfDetail 30 = .ok (.areturn, 1) := by decide +kernel
theorem dX2_wordOfDetail_31 : decode cX2_wordOfDetail 31 = .ok (.ldc 117, 2) := by decide +kernel
theorem dX2_wordOfDetail_33 : decode cX2_wordOfDetail 33 = .ok (.areturn, 1) := by decide +kernel
theorem dX2_wordOfDetail_34 : decode cX2_wordOfDetail 34 = .ok (.ldc 119, 2) := by decide +kernel
theorem dX2_wordOfDetail_36 : decode cX2_wordOfDetail 36 = .ok (.areturn, 1) := by decide +kernel
theorem dX2_isWord_0 : decode cX2_isWord 0 = .ok (.aload_n 0, 1) := by decide +kernel
theorem dX2_isWord_1 : decode cX2_isWord 1 = .ok (.getfield 19, 3) := by decide +kernel
theorem dX2_isWord_4 : decode cX2_isWord 4 = .ok (.iconst 1, 1) := by decide +kernel
theorem dX2_isWord_5 : decode cX2_isWord 5 = .ok (.if_icmp .ne 19, 3) := by decide +kernel
theorem dX2_isWord_8 : decode cX2_isWord 8 = .ok (.aload_n 0, 1) := by decide +kernel
theorem dX2_isWord_9 : decode cX2_isWord 9 = .ok (.getfield 25, 3) := by decide +kernel
theorem dX2_isWord_12 : decode cX2_isWord 12 = .ok (.aload_n 0, 1) := by decide +kernel
theorem dX2_isWord_13 : decode cX2_isWord 13 = .ok (.getfield 22, 3) := by decide +kernel
theorem dX2_isWord_16 : decode cX2_isWord 16 = .ok (.isub, 1) := by decide +kernel
theorem dX2_isWord_17 : decode cX2_isWord 17 = .ok (.aload_n 1, 1) := by decide +kernel
theorem dX2_isWord_18 : decode cX2_isWord 18 = .ok (.invokevirtual 121, 3) := by decide +kernel
theorem dX2_isWord_21 : decode cX2_isWord 21 = .ok (.if_icmp .eq 5, 3) := by decide +kernel
theorem dX2_isWord_24 : decode cX2_isWord 24 = .ok (.iconst 0, 1) := by decide +kernel
theorem dX2_isWord_25 : decode cX2_isWord 25 = .ok (.ireturn, 1) := by decide +kernel
theorem dX2_isWord_26 : decode cX2_isWord 26 = .ok (.iconst 0, 1) := by decide +kernel
theorem dX2_isWord_27 : decode cX2_isWord 27 = .ok (.istore_n 2, 1) := by decide +kernel
theorem dX2_isWord_28 : decode cX2_isWord 28 = .ok (.iload_n 2, 1) := by decide +kernel
theorem dX2_isWord_29 : decode cX2_isWord 29 = .ok (.aload_n 1, 1) := by decide +kernel
theorem dX2_isWord_30 : decode cX2_isWord 30 = .ok (.invokevirtual 121, 3) := by decide +kernel
theorem dX2_isWord_33 : decode cX2_isWord 33 = .ok (.if_icmp .ge 30, 3) := by decide +kernel
theorem dX2_isWord_36 : decode cX2_isWord 36 = .ok (.aload_n 0, 1) := by decide +kernel
theorem dX2_isWord_37 : decode cX2_isWord 37 = .ok (.getfield 9, 3) := by decide +kernel
theorem dX2_isWord_40 : decode cX2_isWord 40 = .ok (.aload_n 0, 1) := by decide +kernel
theorem dX2_isWord_41 : decode cX2_isWord 41 = .ok (.getfield 22, 3) := by decide +kernel
theorem dX2_isWord_44 : decode cX2_isWord 44 = .ok (.iload_n 2, 1) := by decide +kernel
theorem dX2_isWord_45 : decode cX2_isWord 45 = .ok (.iadd, 1) := by decide +kernel
theorem dX2_isWord_46 : decode cX2_isWord 46 = .ok (.baload, 1) := by decide +kernel
theorem dX2_isWord_47 : decode cX2_isWord 47 = .ok (.aload_n 1, 1) := by decide +kernel
theorem dX2_isWord_48 : decode cX2_isWord 48 = .ok (.iload_n 2, 1) := by decide +kernel
theorem dX2_isWord_49 : decode cX2_isWord 49 = .ok (.invokevirtual 125, 3) := by decide +kernel
theorem dX2_isWord_52 : decode cX2_isWord 52 = .ok (.if_icmp .eq 5, 3) := by decide +kernel
theorem dX2_isWord_55 : decode cX2_isWord 55 = .ok (.iconst 0, 1) := by decide +kernel
theorem dX2_isWord_56 : decode cX2_isWord 56 = .ok (.ireturn, 1) := by decide +kernel
theorem dX2_isWord_57 : decode cX2_isWord 57 = .ok (.iinc 2 1, 3) := by decide +kernel
theorem dX2_isWord_60 : decode cX2_isWord 60 = .ok (.goto (-32), 3) := by decide +kernel
theorem dX2_isWord_63 : decode cX2_isWord 63 = .ok (.iconst 1, 1) := by decide +kernel
theorem dX2_isWord_64 : decode cX2_isWord 64 = .ok (.ireturn, 1) := by decide +kernel
theorem dX2_step_0 : decode cX2_step 0 = .ok (.aload_n 0, 1) := by decide +kernel
theorem dX2_step_1 : decode cX2_step 1 = .ok (.aload_n 0, 1) := by decide +kernel
theorem dX2_step_2 : decode cX2_step 2 = .ok (.getfield 25, 3) := by decide +kernel
theorem dX2_step_5 : decode cX2_step 5 = .ok (.putfield 22, 3) := by decide +kernel
theorem dX2_step_8 : decode cX2_step 8 = .ok (.aload_n 0, 1) := by decide +kernel
theorem dX2_step_9 : decode cX2_step 9 = .ok (.getfield 22, 3) := by decide +kernel
theorem dX2_step_12 : decode cX2_step 12 = .ok (.aload_n 0, 1) := by decide +kernel
theorem dX2_step_13 : decode cX2_step 13 = .ok (.getfield 15, 3) := by decide +kernel
theorem dX2_step_16 : decode cX2_step 16 = .ok (.if_icmp .ge 30, 3) := by decide +kernel
theorem dX2_step_19 : decode cX2_step 19 = .ok (.aload_n 0, 1) := by decide +kernel
theorem dX2_step_20 : decode cX2_step 20 = .ok (.getfield 9, 3) := by decide +kernel
theorem dX2_step_23 : decode cX2_step 23 = .ok (.aload_n 0, 1) := by decide +kernel
theorem dX2_step_24 : decode cX2_step 24 = .ok (.getfield 22, 3) := by decide +kernel
theorem dX2_step_27 : decode cX2_step 27 = .ok (.baload, 1) := by decide +kernel
theorem dX2_step_28 : decode cX2_step 28 = .ok (.bipush 32, 2) := by decide +kernel
theorem dX2_step_30 : decode cX2_step 30 = .ok (.if_icmp .ne 16, 3) := by decide +kernel
theorem dX2_step_33 : decode cX2_step 33 = .ok (.aload_n 0, 1) := by decide +kernel
theorem dX2_step_34 : decode cX2_step 34 = .ok (.dup, 1) := by decide +kernel
theorem dX2_step_35 : decode cX2_step 35 = .ok (.getfield 22, 3) := by decide +kernel
theorem dX2_step_38 : decode cX2_step 38 = .ok (.iconst 1, 1) := by decide +kernel
theorem dX2_step_39 : decode cX2_step 39 = .ok (.iadd, 1) := by decide +kernel
theorem dX2_step_40 : decode cX2_step 40 = .ok (.putfield 22, 3) := by decide +kernel
theorem dX2_step_43 : decode cX2_step 43 = .ok (.goto (-35), 3) := by decide +kernel
theorem dX2_step_46 : decode cX2_step 46 = .ok (.aload_n 0, 1) := by decide +kernel
theorem dX2_step_47 : decode cX2_step 47 = .ok (.aload_n 0, 1) := by decide +kernel
theorem dX2_step_48 : decode cX2_step 48 = .ok (.getfield 22, 3) := by decide +kernel
theorem dX2_step_51 : decode cX2_step 51 = .ok (.putfield 25, 3) := by decide +kernel
theorem dX2_step_54 : decode cX2_step 54 = .ok (.aload_n 0, 1) := by decide +kernel
theorem dX2_step_55 : decode cX2_step 55 = .ok (.iconst 0, 1) := by decide +kernel
theorem dX2_step_56 : decode cX2_step 56 = .ok (.putfield 28, 3) := by decide +kernel
theorem dX2_step_59 : decode cX2_step 59 = .ok (.aload_n 0, 1) := by decide +kernel
theorem dX2_step_60 : decode cX2_step 60 = .ok (.aload_n 0, 1) := by decide +kernel
theorem dX2_step_61 : decode cX2_step 61 = .ok (.getfield 22, 3) := by decide +kernel
theorem dX2_step_64 : decode cX2_step 64 = .ok (.aload_n 0, 1) := by decide +kernel
theorem dX2_step_65 : decode cX2_step 65 = .ok (.getfield 15, 3) := by decide +kernel
theorem dX2_step_68 : decode cX2_step 68 = .ok (.if_icmp .ge 18, 3) := by decide +kernel
theorem dX2_step_71 : decode cX2_step 71 = .ok (.aload_n 0, 1) := by decide +kernel
theorem dX2_step_72 : decode cX2_step 72 = .ok (.getfield 9, 3) := by decide +kernel
theorem dX2_step_75 : decode cX2_step 75 = .ok (.aload_n 0, 1) := by decide +kernel
theorem dX2_step_76 : decode cX2_step 76 = .ok (.getfield 22, 3) := by decide +kernel
theorem dX2_step_79 : decode cX2_step 79 = .ok (.baload, 1) := by decide +kernel
theorem dX2_step_80 : decode cX2_step 80 = .ok (.invokestatic 129, 3) := by decide +kernel
theorem dX2_step_83 : decode cX2_step 83 = .ok (.goto 4, 3) := by decide +kernel
theorem dX2_step_86 : decode cX2_step 86 = .ok (.iconst 0, 1) := by decide +kernel
theorem dX2_step_87 : decode cX2_step 87 = .ok (.putfield 19, 3) := by decide +kernel
theorem dX2_step_90 : decode cX2_step 90 = .ok (.aload_n 0, 1) := by decide +kernel
theorem dX2_step_91 : decode cX2_step 91 = .ok (.getfield 19, 3) := by decide +kernel
theorem dX2_step_94 : decode cX2_step 94 = .ok (.iconst 1, 1) := by decide +kernel
theorem dX2_step_95 : decode cX2_step 95 = .ok (.if_icmp .eq 11, 3) := by decide +kernel
theorem dX2_step_98 : decode cX2_step 98 = .ok (.aload_n 0, 1) := by decide +kernel
theorem dX2_step_99 : decode cX2_step 99 = .ok (.getfield 19, 3) := by decide +kernel
theorem dX2_step_102 : decode cX2_step 102 = .ok (.iconst 2, 1) := by decide +kernel
theorem dX2_step_103 : decode cX2_step 103 = .ok (.if_icmp .ne 7, 3) := by decide +kernel
theorem dX2_step_106 : decode cX2_step 106 = .ok (.iconst 1, 1) := by decide +kernel
theorem dX2_step_107 : decode cX2_step 107 = .ok (.goto 4, 3) := by decide +kernel
theorem dX2_step_110 : decode cX2_step 110 = .ok (.iconst 0, 1) := by decide +kernel
theorem dX2_step_111 : decode cX2_step 111 = .ok (.istore_n 1, 1) := by decide +kernel
theorem dX2_step_112 : decode cX2_step 112 = .ok (.aload_n 0, 1) := by decide +kernel
theorem dX2_step_113 : decode cX2_step 113 = .ok (.getfield 25, 3) := by decide +kernel
theorem dX2_step_116 : decode cX2_step 116 = .ok (.aload_n 0, 1) := by decide +kernel
theorem dX2_step_117 : decode cX2_step 117 = .ok (.getfield 15, 3) := by decide +kernel
theorem dX2_step_120 : decode cX2_step 120 = .ok (.if_icmp .ge 88, 3) := by decide +kernel
theorem dX2_step_123 : decode cX2_step 123 = .ok (.aload_n 0, 1) := by decide +kernel
theorem dX2_step_124 : decode cX2_step 124 = .ok (.getfield 25, 3) := by decide +kernel
theorem dX2_step_127 : decode cX2_step 127 = .ok (.aload_n 0, 1) := by decide +kernel
theorem dX2_step_128 : decode cX2_step 128 = .ok (.getfield 22, 3) := by decide +kernel
theorem dX2_step_131 : decode cX2_step 131 = .ok (.if_icmp .eq 26, 3) := by decide +kernel
theorem dX2_step_134 : decode cX2_step 134 = .ok (.iload_n 1, 1) := by decide +kernel
theorem dX2_step_135 : decode cX2_step 135 = .ok (.ifCond .eq 73, 3) := by decide +kernel
theorem dX2_step_138 : decode cX2_step 138 = .ok (.aload_n 0, 1) := by decide +kernel
theorem dX2_step_139 : decode cX2_step 139 = .ok (.getfield 9, 3) := by decide +kernel
theorem dX2_step_142 : decode cX2_step 142 = .ok (.aload_n 0, 1) := by decide +kernel
theorem dX2_step_143 : decode cX2_step 143 = .ok (.getfield 25, 3) := by decide +kernel
theorem dX2_step_146 : decode cX2_step 146 = .ok (.baload, 1) := by decide +kernel
theorem dX2_step_147 : decode cX2_step 147 = .ok (.invokestatic 129, 3) := by decide +kernel
theorem dX2_step_150 : decode cX2_step 150 = .ok (.aload_n 0, 1) := by decide +kernel
theorem dX2_step_151 : decode cX2_step 151 = .ok (.getfield 19, 3) := by decide +kernel
theorem dX2_step_154 : decode cX2_step 154 = .ok (.if_icmp .ne 54, 3) := by decide +kernel
theorem dX2_step_157 : decode cX2_step 157 = .ok (.aload_n 0, 1) := by decide +kernel
theorem dX2_step_158 : decode cX2_step 158 = .ok (.getfield 19, 3) := by decide +kernel
theorem dX2_step_161 : decode cX2_step 161 = .ok (.iconst 2, 1) := by decide +kernel
theorem dX2_step_162 : decode cX2_step 162 = .ok (.if_icmp .ne 33, 3) := by decide +kernel
theorem dX2_step_165 : decode cX2_step 165 = .ok (.aload_n 0, 1) := by decide +kernel
theorem dX2_step_166 : decode cX2_step 166 = .ok (.bipush 10, 2) := by decide +kernel
theorem dX2_step_168 : decode cX2_step 168 = .ok (.aload_n 0, 1) := by decide +kernel
theorem dX2_step_169 : decode cX2_step 169 = .ok (.getfield 28, 3) := by decide +kernel
theorem dX2_step_172 : decode cX2_step 172 = .ok (.imul, 1) := by decide +kernel
theorem dX2_step_173 : decode cX2_step 173 = .ok (.aload_n 0, 1) := by decide +kernel
theorem dX2_step_174 : decode cX2_step 174 = .ok (.getfield 9, 3) := by decide +kernel
theorem dX2_step_177 : decode cX2_step 177 = .ok (.aload_n 0, 1) := by decide +kernel
theorem dX2_step_178 : decode cX2_step 178 = .ok (.getfield 25, 3) := by decide +kernel
theorem dX2_step_181 : decode cX2_step 181 = .ok (.baload, 1) := by decide +kernel
theorem dX2_step_182 : decode cX2_step 182 = .ok (.bipush 48, 2) := by decide +kernel
theorem dX2_step_184 : decode cX2_step 184 = .ok (.isub, 1) := by decide +kernel
theorem dX2_step_185 : decode cX2_step 185 = .ok (.iadd, 1) := by decide +kernel
theorem dX2_step_186 : decode cX2_step 186 = .ok (.sipush 1000, 3) := by decide +kernel
theorem dX2_step_189 : decode cX2_step 189 = .ok (.invokestatic 133, 3) := by decide +kernel
theorem dX2_step_192 : decode cX2_step 192 = .ok (.putfield 28, 3) := by decide +kernel
theorem dX2_step_195 : decode cX2_step 195 = .ok (.aload_n 0, 1) := by decide +kernel
theorem dX2_step_196 : decode cX2_step 196 = .ok (.dup, 1) := by decide +kernel
theorem dX2_step_197 : decode cX2_step 197 = .ok (.getfield 25, 3) := by decide +kernel
theorem dX2_step_200 : decode cX2_step 200 = .ok (.iconst 1, 1) := by decide +kernel
theorem dX2_step_201 : decode cX2_step 201 = .ok (.iadd, 1) := by decide +kernel
theorem dX2_step_202 : decode cX2_step 202 = .ok (.putfield 25, 3) := by decide +kernel
theorem dX2_step_205 : decode cX2_step 205 = .ok (.goto (-93), 3) := by decide +kernel
theorem dX2_step_208 : decode cX2_step 208 = .ok (.return_, 1) := by decide +kernel
theorem dX2_sortOf_0 : decode cX2_sortOf 0 = .ok (.iload_n 0, 1) := by decide +kernel
theorem dX2_sortOf_1 : decode cX2_sortOf 1 = .ok (.bipush 97, 2) := by decide +kernel
theorem dX2_sortOf_3 : decode cX2_sortOf 3 = .ok (.if_icmp .lt 11, 3) := by decide +kernel
theorem dX2_sortOf_6 : decode cX2_sortOf 6 = .ok (.iload_n 0, 1) := by decide +kernel
theorem dX2_sortOf_7 : decode cX2_sortOf 7 = .ok (.bipush 122, 2) := by decide +kernel
theorem dX2_sortOf_9 : decode cX2_sortOf 9 = .ok (.if_icmp .gt 5, 3) := by decide +kernel
theorem dX2_sortOf_12 : decode cX2_sortOf 12 = .ok (.iconst 1, 1) := by decide +kernel
theorem dX2_sortOf_13 : decode cX2_sortOf 13 = .ok (.ireturn, 1) := by decide +kernel
theorem dX2_sortOf_14 : decode cX2_sortOf 14 = .ok (.iload_n 0, 1) := by decide +kernel
theorem dX2_sortOf_15 : decode cX2_sortOf 15 = .ok (.bipush 48, 2) := by decide +kernel
theorem dX2_sortOf_17 : decode cX2_sortOf 17 = .ok (.if_icmp .lt 11, 3) := by decide +kernel
theorem dX2_sortOf_20 : decode cX2_sortOf 20 = .ok (.iload_n 0, 1) := by decide +kernel
theorem dX2_sortOf_21 : decode cX2_sortOf 21 = .ok (.bipush 57, 2) := by decide +kernel
theorem dX2_sortOf_23 : decode cX2_sortOf 23 = .ok (.if_icmp .gt 5, 3) := by decide +kernel
theorem dX2_sortOf_26 : decode cX2_sortOf 26 = .ok (.iconst 2, 1) := by decide +kernel
theorem dX2_sortOf_27 : decode cX2_sortOf 27 = .ok (.ireturn, 1) := by decide +kernel
theorem dX2_sortOf_28 : decode cX2_sortOf 28 = .ok (.iload_n 0, 1) := by decide +kernel
theorem dX2_sortOf_29 : decode cX2_sortOf 29 = .ok (.bipush 59, 2) := by decide +kernel
theorem dX2_sortOf_31 : decode cX2_sortOf 31 = .ok (.if_icmp .ne 7, 3) := by decide +kernel
theorem dX2_sortOf_34 : decode cX2_sortOf 34 = .ok (.iconst 3, 1) := by decide +kernel
theorem dX2_sortOf_35 : decode cX2_sortOf 35 = .ok (.goto 4, 3) := by decide +kernel
theorem dX2_sortOf_38 : decode cX2_sortOf 38 = .ok (.iconst 4, 1) := by decide +kernel
theorem dX2_sortOf_39 : decode cX2_sortOf 39 = .ok (.ireturn, 1) := by decide +kernel
theorem dX3_init_0 : decode cX3_init 0 = .ok (.aload_n 0, 1) := by decide +kernel
theorem dX3_init_1 : decode cX3_init 1 = .ok (.invokespecial 3, 3) := by decide +kernel
theorem dX3_init_4 : decode cX3_init 4 = .ok (.aload_n 0, 1) := by decide +kernel
theorem dX3_init_5 : decode cX3_init 5 = .ok (.bipush 40, 2) := by decide +kernel
theorem dX3_init_7 : decode cX3_init 7 = .ok (.newarray .int, 2) := by decide +kernel
theorem dX3_init_9 : decode cX3_init 9 = .ok (.putfield 9, 3) := by decide +kernel
theorem dX3_init_12 : decode cX3_init 12 = .ok (.aload_n 0, 1) := by decide +kernel
theorem dX3_init_13 : decode cX3_init 13 = .ok (.iconst 0, 1) := by decide +kernel
theorem dX3_init_14 : decode cX3_init 14 = .ok (.putfield 15, 3) := by decide +kernel
theorem dX3_init_17 : decode cX3_init 17 = .ok (.aload_n 0, 1) := by decide +kernel
theorem dX3_init_18 : decode cX3_init 18 = .ok (.iconst 0, 1) := by decide +kernel
theorem dX3_init_19 : decode cX3_init 19 = .ok (.putfield 19, 3) := by decide +kernel
theorem dX3_init_22 : decode cX3_init 22 = .ok (.return_, 1) := by decide +kernel
theorem dX3_begin_0 : decode cX3_begin 0 = .ok (.aload_n 0, 1) := by decide +kernel
theorem dX3_begin_1 : decode cX3_begin 1 = .ok (.iload_n 1, 1) := by decide +kernel
theorem dX3_begin_2 : decode cX3_begin 2 = .ok (.putfield 15, 3) := by decide +kernel
theorem dX3_begin_5 : decode cX3_begin 5 = .ok (.aload_n 0, 1) := by decide +kernel
theorem dX3_begin_6 : decode cX3_begin 6 = .ok (.iload_n 2, 1) := by decide +kernel
theorem dX3_begin_7 : decode cX3_begin 7 = .ok (.putfield 19, 3) := by decide +kernel
theorem dX3_begin_10 : decode cX3_begin 10 = .ok (.iconst 0, 1) := by decide +kernel
theorem dX3_begin_11 : decode cX3_begin 11 = .ok (.istore_n 3, 1) := by decide +kernel
theorem dX3_begin_12 : decode cX3_begin 12 = .ok (.iload_n 3, 1) := by decide +kernel
theorem dX3_begin_13 : decode cX3_begin 13 = .ok (.bipush 40, 2) := by decide +kernel
theorem dX3_begin_15 : decode cX3_begin 15 = .ok (.if_icmp .ge 16, 3) := by decide +kernel
theorem dX3_begin_18 : decode cX3_begin 18 = .ok (.aload_n 0, 1) := by decide +kernel
theorem dX3_begin_19 : decode cX3_begin 19 = .ok (.getfield 9, 3) := by decide +kernel
theorem dX3_begin_22 : decode cX3_begin 22 = .ok (.iload_n 3, 1) := by decide +kernel
theorem dX3_begin_23 : decode cX3_begin 23 = .ok (.iconst 0, 1) := by decide +kernel
theorem dX3_begin_24 : decode cX3_begin 24 = .ok (.iastore, 1) := by decide +kernel
theorem dX3_begin_25 : decode cX3_begin 25 = .ok (.iinc 3 1, 3) := by decide +kernel
theorem dX3_begin_28 : decode cX3_begin 28 = .ok (.goto (-16), 3) := by decide +kernel
theorem dX3_begin_31 : decode cX3_begin 31 = .ok (.return_, 1) := by decide +kernel
theorem dX3_put_0 : decode cX3_put 0 = .ok (.aload_n 0, 1) := by decide +kernel
theorem dX3_put_1 : decode cX3_put 1 = .ok (.getfield 15, 3) := by decide +kernel
theorem dX3_put_4 : decode cX3_put 4 = .ok (.lookupswitch 50 #[(8, 28), (16, 39)], 28) := by decide +kernel
theorem dX3_put_32 : decode cX3_put 32 = .ok (.aload_n 0, 1) := by decide +kernel
theorem dX3_put_33 : decode cX3_put 33 = .ok (.getfield 9, 3) := by decide +kernel
theorem dX3_put_36 : decode cX3_put 36 = .ok (.iload_n 1, 1) := by decide +kernel
theorem dX3_put_37 : decode cX3_put 37 = .ok (.iload_n 2, 1) := by decide +kernel
theorem dX3_put_38 : decode cX3_put 38 = .ok (.i2b, 1) := by decide +kernel
theorem dX3_put_39 : decode cX3_put 39 = .ok (.iastore, 1) := by decide +kernel
theorem dX3_put_40 : decode cX3_put 40 = .ok (.goto 21, 3) := by decide +kernel
theorem dX3_put_43 : decode cX3_put 43 = .ok (.aload_n 0, 1) := by decide +kernel
theorem dX3_put_44 : decode cX3_put 44 = .ok (.getfield 9, 3) := by decide +kernel
theorem dX3_put_47 : decode cX3_put 47 = .ok (.iload_n 1, 1) := by decide +kernel
theorem dX3_put_48 : decode cX3_put 48 = .ok (.iload_n 2, 1) := by decide +kernel
theorem dX3_put_49 : decode cX3_put 49 = .ok (.i2s, 1) := by decide +kernel
theorem dX3_put_50 : decode cX3_put 50 = .ok (.iastore, 1) := by decide +kernel
theorem dX3_put_51 : decode cX3_put 51 = .ok (.goto 10, 3) := by decide +kernel
theorem dX3_put_54 : decode cX3_put 54 = .ok (.aload_n 0, 1) := by decide +kernel
theorem dX3_put_55 : decode cX3_put 55 = .ok (.getfield 9, 3) := by decide +kernel
theorem dX3_put_58 : decode cX3_put 58 = .ok (.iload_n 1, 1) := by decide +kernel
theorem dX3_put_59 : decode cX3_put 59 = .ok (.iload_n 2, 1) := by decide +kernel
theorem dX3_put_60 : decode cX3_put 60 = .ok (.iastore, 1) := by decide +kernel
theorem dX3_put_61 : decode cX3_put 61 = .ok (.return_, 1) := by decide +kernel
theorem dX3_has_0 : decode cX3_has 0 = .ok (.iload_n 1, 1) := by decide +kernel
theorem dX3_has_1 : decode cX3_has 1 = .ok (.ifCond .lt 29, 3) := by decide +kernel
theorem dX3_has_4 : decode cX3_has 4 = .ok (.iload_n 2, 1) := by decide +kernel
theorem dX3_has_5 : decode cX3_has 5 = .ok (.ifCond .lt 25, 3) := by decide +kernel
theorem dX3_has_8 : decode cX3_has 8 = .ok (.iload_n 2, 1) := by decide +kernel
theorem dX3_has_9 : decode cX3_has 9 = .ok (.aload_n 0, 1) := by decide +kernel
theorem dX3_has_10 : decode cX3_has 10 = .ok (.getfield 19, 3) := by decide +kernel
theorem dX3_has_13 : decode cX3_has 13 = .ok (.if_icmp .gt 17, 3) := by decide +kernel
theorem dX3_has_16 : decode cX3_has 16 = .ok (.iload_n 1, 1) := by decide +kernel
theorem dX3_has_17 : decode cX3_has 17 = .ok (.aload_n 0, 1) := by decide +kernel
theorem dX3_has_18 : decode cX3_has 18 = .ok (.getfield 19, 3) := by decide +kernel
theorem dX3_has_21 : decode cX3_has 21 = .ok (.iload_n 2, 1) := by decide +kernel
theorem dX3_has_22 : decode cX3_has 22 = .ok (.isub, 1) := by decide +kernel
theorem dX3_has_23 : decode cX3_has 23 = .ok (.if_icmp .gt 7, 3) := by decide +kernel
theorem dX3_has_26 : decode cX3_has 26 = .ok (.iconst 1, 1) := by decide +kernel
theorem dX3_has_27 : decode cX3_has 27 = .ok (.goto 4, 3) := by decide +kernel
theorem dX3_has_30 : decode cX3_has 30 = .ok (.iconst 0, 1) := by decide +kernel
theorem dX3_has_31 : decode cX3_has 31 = .ok (.ireturn, 1) := by decide +kernel
theorem dJ6_bitCount_0f7a4_0 : decode cJ6_bitCount_0f7a4 0 = .ok (.iload_n 0, 1) := by decide +kernel
theorem dJ6_bitCount_0f7a4_1 : decode cJ6_bitCount_0f7a4 1 = .ok (.iload_n 0, 1) := by decide +kernel
theorem dJ6_bitCount_0f7a4_2 : decode cJ6_bitCount_0f7a4 2 = .ok (.iconst 1, 1) := by decide +kernel
theorem dJ6_bitCount_0f7a4_3 : decode cJ6_bitCount_0f7a4 3 = .ok (.iushr, 1) := by decide +kernel
theorem dJ6_bitCount_0f7a4_4 : decode cJ6_bitCount_0f7a4 4 = .ok (.ldc_w 265, 3) := by decide +kernel
theorem dJ6_bitCount_0f7a4_7 : decode cJ6_bitCount_0f7a4 7 = .ok (.iand, 1) := by decide +kernel
theorem dJ6_bitCount_0f7a4_8 : decode cJ6_bitCount_0f7a4 8 = .ok (.isub, 1) := by decide +kernel
theorem dJ6_bitCount_0f7a4_9 : decode cJ6_bitCount_0f7a4 9 = .ok (.istore_n 0, 1) := by decide +kernel
theorem dJ6_bitCount_0f7a4_10 : decode cJ6_bitCount_0f7a4 10 = .ok (.iload_n 0, 1) := by decide +kernel
theorem dJ6_bitCount_0f7a4_11 : decode cJ6_bitCount_0f7a4 11 = .ok (.ldc_w 266, 3) := by decide +kernel
theorem dJ6_bitCount_0f7a4_14 : decode cJ6_bitCount_0f7a4 14 = .ok (.iand, 1) := by decide +kernel
theorem dJ6_bitCount_0f7a4_15 : decode cJ6_bitCount_0f7a4 15 = .ok (.iload_n 0, 1) := by decide +kernel
theorem dJ6_bitCount_0f7a4_16 : decode cJ6_bitCount_0f7a4 16 = .ok (.iconst 2, 1) := by decide +kernel
theorem dJ6_bitCount_0f7a4_17 : decode cJ6_bitCount_0f7a4 17 = .ok (.iushr, 1) := by decide +kernel
theorem dJ6_bitCount_0f7a4_18 : decode cJ6_bitCount_0f7a4 18 = .ok (.ldc_w 266, 3) := by decide +kernel
theorem dJ6_bitCount_0f7a4_21 : decode cJ6_bitCount_0f7a4 21 = .ok (.iand, 1) := by decide +kernel
theorem dJ6_bitCount_0f7a4_22 : decode cJ6_bitCount_0f7a4 22 = .ok (.iadd, 1) := by decide +kernel
theorem dJ6_bitCount_0f7a4_23 : decode cJ6_bitCount_0f7a4 23 = .ok (.istore_n 0, 1) := by decide +kernel
theorem dJ6_bitCount_0f7a4_24 : decode cJ6_bitCount_0f7a4 24 = .ok (.iload_n 0, 1) := by decide +kernel
theorem dJ6_bitCount_0f7a4_25 : decode cJ6_bitCount_0f7a4 25 = .ok (.iload_n 0, 1) := by decide +kernel
theorem dJ6_bitCount_0f7a4_26 : decode cJ6_bitCount_0f7a4 26 = .ok (.iconst 4, 1) := by decide +kernel
theorem dJ6_bitCount_0f7a4_27 : decode cJ6_bitCount_0f7a4 27 = .ok (.iushr, 1) := by decide +kernel
theorem dJ6_bitCount_0f7a4_28 : decode cJ6_bitCount_0f7a4 28 = .ok (.iadd, 1) := by decide +kernel
theorem dJ6_bitCount_0f7a4_29 : decode cJ6_bitCount_0f7a4 29 = .ok (.ldc_w 267, 3) := by decide +kernel
theorem dJ6_bitCount_0f7a4_32 : decode cJ6_bitCount_0f7a4 32 = .ok (.iand, 1) := by decide +kernel
theorem dJ6_bitCount_0f7a4_33 : decode cJ6_bitCount_0f7a4 33 = .ok (.istore_n 0, 1) := by decide +kernel
theorem dJ6_bitCount_0f7a4_34 : decode cJ6_bitCount_0f7a4 34 = .ok (.iload_n 0, 1) := by decide +kernel
theorem dJ6_bitCount_0f7a4_35 : decode cJ6_bitCount_0f7a4 35 = .ok (.iload_n 0, 1) := by decide +kernel
theorem dJ6_bitCount_0f7a4_36 : decode cJ6_bitCount_0f7a4 36 = .ok (.bipush 8, 2) := by decide +kernel
theorem dJ6_bitCount_0f7a4_38 : decode cJ6_bitCount_0f7a4 38 = .ok (.iushr, 1) := by decide +kernel
theorem dJ6_bitCount_0f7a4_39 : decode cJ6_bitCount_0f7a4 39 = .ok (.iadd, 1) := by decide +kernel
theorem dJ6_bitCount_0f7a4_40 : decode cJ6_bitCount_0f7a4 40 = .ok (.istore_n 0, 1) := by decide +kernel
theorem dJ6_bitCount_0f7a4_41 : decode cJ6_bitCount_0f7a4 41 = .ok (.iload_n 0, 1) := by decide +kernel
theorem dJ6_bitCount_0f7a4_42 : decode cJ6_bitCount_0f7a4 42 = .ok (.iload_n 0, 1) := by decide +kernel
theorem dJ6_bitCount_0f7a4_43 : decode cJ6_bitCount_0f7a4 43 = .ok (.bipush 16, 2) := by decide +kernel
theorem dJ6_bitCount_0f7a4_45 : decode cJ6_bitCount_0f7a4 45 = .ok (.iushr, 1) := by decide +kernel
theorem dJ6_bitCount_0f7a4_46 : decode cJ6_bitCount_0f7a4 46 = .ok (.iadd, 1) := by decide +kernel
theorem dJ6_bitCount_0f7a4_47 : decode cJ6_bitCount_0f7a4 47 = .ok (.istore_n 0, 1) := by decide +kernel
theorem dJ6_bitCount_0f7a4_48 : decode cJ6_bitCount_0f7a4 48 = .ok (.iload_n 0, 1) := by decide +kernel
theorem dJ6_bitCount_0f7a4_49 : decode cJ6_bitCount_0f7a4 49 = .ok (.bipush 63, 2) := by decide +kernel
theorem dJ6_bitCount_0f7a4_51 : decode cJ6_bitCount_0f7a4 51 = .ok (.iand, 1) := by decide +kernel
theorem dJ6_bitCount_0f7a4_52 : decode cJ6_bitCount_0f7a4 52 = .ok (.ireturn, 1) := by decide +kernel
theorem dJ9_max_7cf53_0 : decode cJ9_max_7cf53 0 = .ok (.iload_n 0, 1) := by decide +kernel
theorem dJ9_max_7cf53_1 : decode cJ9_max_7cf53 1 = .ok (.iload_n 1, 1) := by decide +kernel
theorem dJ9_max_7cf53_2 : decode cJ9_max_7cf53 2 = .ok (.if_icmp .lt 7, 3) := by decide +kernel
theorem dJ9_max_7cf53_5 : decode cJ9_max_7cf53 5 = .ok (.iload_n 0, 1) := by decide +kernel
theorem dJ9_max_7cf53_6 : decode cJ9_max_7cf53 6 = .ok (.goto 4, 3) := by decide +kernel
theorem dJ9_max_7cf53_9 : decode cJ9_max_7cf53 9 = .ok (.iload_n 1, 1) := by decide +kernel
theorem dJ9_max_7cf53_10 : decode cJ9_max_7cf53 10 = .ok (.ireturn, 1) := by decide +kernel
theorem dJ9_min_7cf53_0 : decode cJ9_min_7cf53 0 = .ok (.iload_n 0, 1) := by decide +kernel
theorem dJ9_min_7cf53_1 : decode cJ9_min_7cf53 1 = .ok (.iload_n 1, 1) := by decide +kernel
theorem dJ9_min_7cf53_2 : decode cJ9_min_7cf53 2 = .ok (.if_icmp .gt 7, 3) := by decide +kernel
theorem dJ9_min_7cf53_5 : decode cJ9_min_7cf53 5 = .ok (.iload_n 0, 1) := by decide +kernel
theorem dJ9_min_7cf53_6 : decode cJ9_min_7cf53 6 = .ok (.goto 4, 3) := by decide +kernel
theorem dJ9_min_7cf53_9 : decode cJ9_min_7cf53 9 = .ok (.iload_n 1, 1) := by decide +kernel
theorem dJ9_min_7cf53_10 : decode cJ9_min_7cf53 10 = .ok (.ireturn, 1) := by decide +kernel
theorem dJ0_length_8abf5_0 : decode cJ0_length_8abf5 0 = .ok (.aload_n 0, 1) := by decide +kernel
theorem dJ0_length_8abf5_1 : decode cJ0_length_8abf5 1 = .ok (.getfield 9, 3) := by decide +kernel
theorem dJ0_length_8abf5_4 : decode cJ0_length_8abf5 4 = .ok (.arraylength, 1) := by decide +kernel
theorem dJ0_length_8abf5_5 : decode cJ0_length_8abf5 5 = .ok (.aload_n 0, 1) := by decide +kernel
theorem dJ0_length_8abf5_6 : decode cJ0_length_8abf5 6 = .ok (.invokevirtual 335, 3) := by decide +kernel
theorem dJ0_length_8abf5_9 : decode cJ0_length_8abf5 9 = .ok (.ishr, 1) := by decide +kernel
theorem dJ0_length_8abf5_10 : decode cJ0_length_8abf5 10 = .ok (.ireturn, 1) := by decide +kernel
theorem dJ0_charAt_5068e_0 : decode cJ0_charAt_5068e 0 = .ok (.aload_n 0, 1) := by decide +kernel
theorem dJ0_charAt_5068e_1 : decode cJ0_charAt_5068e 1 = .ok (.invokevirtual 492, 3) := by decide +kernel
theorem dJ0_charAt_5068e_4 : decode cJ0_charAt_5068e 4 = .ok (.ifCond .eq 12, 3) := by decide +kernel
theorem dJ0_charAt_5068e_7 : decode cJ0_charAt_5068e 7 = .ok (.aload_n 0, 1) := by decide +kernel
theorem dJ0_charAt_5068e_8 : decode cJ0_charAt_5068e 8 = .ok (.getfield 9, 3) := by decide +kernel
theorem dJ0_charAt_5068e_11 : decode cJ0_charAt_5068e 11 = .ok (.iload_n 1, 1) := by decide +kernel
theorem dJ0_charAt_5068e_12 : decode cJ0_charAt_5068e 12 = .ok (.invokestatic 495, 3) := by decide +kernel
theorem dJ0_charAt_5068e_15 : decode cJ0_charAt_5068e 15 = .ok (.ireturn, 1) := by decide +kernel
theorem dJ0_charAt_5068e_16 : decode cJ0_charAt_5068e 16 = .ok (.aload_n 0, 1) := by decide +kernel
theorem dJ0_charAt_5068e_17 : decode cJ0_charAt_5068e 17 = .ok (.getfield 9, 3) := by decide +kernel
theorem dJ0_charAt_5068e_20 : decode cJ0_charAt_5068e 20 = .ok (.iload_n 1, 1) := by decide +kernel
theorem dJ0_charAt_5068e_21 : decode cJ0_charAt_5068e 21 = .ok (.invokestatic 498, 3) := by decide +kernel
theorem dJ0_charAt_5068e_24 : decode cJ0_charAt_5068e 24 = .ok (.ireturn, 1) := by decide +kernel
theorem dJ0_coder_7d493_0 : decode cJ0_coder_7d493 0 = .ok (.getstatic 38, 3) := by decide +kernel
theorem dJ0_coder_7d493_3 : decode cJ0_coder_7d493 3 = .ok (.ifCond .eq 10, 3) := by decide +kernel
theorem dJ0_coder_7d493_6 : decode cJ0_coder_7d493 6 = .ok (.aload_n 0, 1) := by decide +kernel
theorem dJ0_coder_7d493_7 : decode cJ0_coder_7d493 7 = .ok (.getfield 15, 3) := by decide +kernel
theorem dJ0_coder_7d493_10 : decode cJ0_coder_7d493 10 = .ok (.goto 4, 3) := by decide +kernel
theorem dJ0_coder_7d493_13 : decode cJ0_coder_7d493 13 = .ok (.iconst 1, 1) := by decide +kernel
theorem dJ0_coder_7d493_14 : decode cJ0_coder_7d493 14 = .ok (.ireturn, 1) := by decide +kernel
theorem dJ0_isLatin1_aae02_0 : decode cJ0_isLatin1_aae02 0 = .ok (.getstatic 38, 3) := by decide +kernel
theorem dJ0_isLatin1_aae02_3 : decode cJ0_isLatin1_aae02 3 = .ok (.ifCond .eq 14, 3) := by decide +kernel
theorem dJ0_isLatin1_aae02_6 : decode cJ0_isLatin1_aae02 6 = .ok (.aload_n 0, 1) := by decide +kernel
theorem dJ0_isLatin1_aae02_7 : decode cJ0_isLatin1_aae02 7 = .ok (.getfield 15, 3) := by decide +kernel
theorem dJ0_isLatin1_aae02_10 : decode cJ0_isLatin1_aae02 10 = .ok (.ifCond .ne 7, 3) := by decide +kernel
theorem dJ0_isLatin1_aae02_13 : decode cJ0_isLatin1_aae02 13 = .ok (.iconst 1, 1) := by decide +kernel
theorem dJ0_isLatin1_aae02_14 : decode cJ0_isLatin1_aae02 14 = .ok (.goto 4, 3) := by decide +kernel
theorem dJ0_isLatin1_aae02_17 : decode cJ0_isLatin1_aae02 17 = .ok (.iconst 0, 1) := by decide +kernel
theorem dJ0_isLatin1_aae02_18 : decode cJ0_isLatin1_aae02 18 = .ok (.ireturn, 1) := by decide +kernel
theorem dJ0_checkIndex_df160_0 : decode cJ0_checkIndex_df160 0 = .ok (.iload_n 0, 1) := by decide +kernel
theorem dJ0_checkIndex_df160_1 : decode cJ0_checkIndex_df160 1 = .ok (.iload_n 1, 1) := by decide +kernel
theorem dJ0_checkIndex_df160_2 : decode cJ0_checkIndex_df160 2 = .ok (.getstatic 1053, 3) := by decide +kernel
theorem dJ0_checkIndex_df160_5 : decode cJ0_checkIndex_df160 5 = .ok (.invokestatic 1059, 3) := by decide +kernel
theorem dJ0_checkIndex_df160_8 : decode cJ0_checkIndex_df160 8 = .ok (.pop, 1) := by decide +kernel
theorem dJ0_checkIndex_df160_9 : decode cJ0_checkIndex_df160 9 = .ok (.return_, 1) := by decide +kernel
theorem dJ1_charAt_3b067_0 : decode cJ1_charAt_3b067 0 = .ok (.iload_n 1, 1) := by decide +kernel
theorem dJ1_charAt_3b067_1 : decode cJ1_charAt_3b067 1 = .ok (.aload_n 0, 1) := by decide +kernel
theorem dJ1_charAt_3b067_2 : decode cJ1_charAt_3b067 2 = .ok (.arraylength, 1) := by decide +kernel
theorem dJ1_charAt_3b067_3 : decode cJ1_charAt_3b067 3 = .ok (.invokestatic 9, 3) := by decide +kernel
theorem dJ1_charAt_3b067_6 : decode cJ1_charAt_3b067 6 = .ok (.aload_n 0, 1) := by decide +kernel
theorem dJ1_charAt_3b067_7 : decode cJ1_charAt_3b067 7 = .ok (.iload_n 1, 1) := by decide +kernel
theorem dJ1_charAt_3b067_8 : decode cJ1_charAt_3b067 8 = .ok (.baload, 1) := by decide +kernel
theorem dJ1_charAt_3b067_9 : decode cJ1_charAt_3b067 9 = .ok (.sipush 255, 3) := by decide +kernel
theorem dJ1_charAt_3b067_12 : decode cJ1_charAt_3b067 12 = .ok (.iand, 1) := by decide +kernel
theorem dJ1_charAt_3b067_13 : decode cJ1_charAt_3b067 13 = .ok (.i2c, 1) := by decide +kernel
theorem dJ1_charAt_3b067_14 : decode cJ1_charAt_3b067 14 = .ok (.ireturn, 1) := by decide +kernel
theorem dJ2_getChar_3b067_0 : decode cJ2_getChar_3b067 0 = .ok (.getstatic 44, 3) := by decide +kernel
theorem dJ2_getChar_3b067_3 : decode cJ2_getChar_3b067 3 = .ok (.ifCond .ne 25, 3) := by decide +kernel
theorem dJ2_getChar_3b067_6 : decode cJ2_getChar_3b067 6 = .ok (.iload_n 1, 1) := by decide +kernel
theorem dJ2_getChar_3b067_7 : decode cJ2_getChar_3b067 7 = .ok (.ifCond .lt 11, 3) := by decide +kernel
theorem dJ2_getChar_3b067_10 : decode cJ2_getChar_3b067 10 = .ok (.iload_n 1, 1) := by decide +kernel
theorem dJ2_getChar_3b067_11 : decode cJ2_getChar_3b067 11 = .ok (.aload_n 0, 1) := by decide +kernel
theorem dJ2_getChar_3b067_12 : decode cJ2_getChar_3b067 12 = .ok (.invokestatic 48, 3) := by decide +kernel
theorem dJ2_getChar_3b067_15 : decode cJ2_getChar_3b067 15 = .ok (.if_icmp .lt 13, 3) := by decide +kernel
theorem dJ2_getChar_3b067_18 : decode cJ2_getChar_3b067 18 = .ok (.new 52, 3) := by decide +kernel
theorem dJ2_getChar_3b067_21 : decode cJ2_getChar_3b067 21 = .ok (.dup, 1) := by decide +kernel
theorem dJ2_getChar_3b067_22 : decode cJ2_getChar_3b067 22 = .ok (.ldc 54, 2) := by decide +kernel
theorem dJ2_getChar_3b067_24 : decode cJ2_getChar_3b067 24 = .ok (.invokespecial 56, 3) := by decide +kernel
theorem dJ2_getChar_3b067_27 : decode cJ2_getChar_3b067 27 = .ok (.athrow, 1) := by decide +kernel
theorem dJ2_getChar_3b067_28 : decode cJ2_getChar_3b067 28 = .ok (.iload_n 1, 1) := by decide +kernel
theorem dJ2_getChar_3b067_29 : decode cJ2_getChar_3b067 29 = .ok (.iconst 1, 1) := by decide +kernel
theorem dJ2_getChar_3b067_30 : decode cJ2_getChar_3b067 30 = .ok (.ishl, 1) := by decide +kernel
theorem dJ2_getChar_3b067_31 : decode cJ2_getChar_3b067 31 = .ok (.istore_n 1, 1) := by decide +kernel
theorem dJ2_getChar_3b067_32 : decode cJ2_getChar_3b067 32 = .ok (.aload_n 0, 1) := by decide +kernel
theorem dJ2_getChar_3b067_33 : decode cJ2_getChar_3b067 33 = .ok (.iload_n 1, 1) := by decide +kernel
theorem dJ2_getChar_3b067_34 : decode cJ2_getChar_3b067 34 = .ok (.iinc 1 1, 3) := by decide +kernel
theorem dJ2_getChar_3b067_37 : decode cJ2_getChar_3b067 37 = .ok (.baload, 1) := by decide +kernel
theorem dJ2_getChar_3b067_38 : decode cJ2_getChar_3b067 38 = .ok (.sipush 255, 3) := by decide +kernel
theorem dJ2_getChar_3b067_41 : decode cJ2_getChar_3b067 41 = .ok (.iand, 1) := by decide +kernel
theorem dJ2_getChar_3b067_42 : decode cJ2_getChar_3b067 42 = .ok (.getstatic 59, 3) := by decide +kernel
theorem dJ2_getChar_3b067_45 : decode cJ2_getChar_3b067 45 = .ok (.ishl, 1) := by decide +kernel
theorem dJ2_getChar_3b067_46 : decode cJ2_getChar_3b067 46 = .ok (.aload_n 0, 1) := by decide +kernel
theorem dJ2_getChar_3b067_47 : decode cJ2_getChar_3b067 47 = .ok (.iload_n 1, 1) := by decide +kernel
theorem dJ2_getChar_3b067_48 : decode cJ2_getChar_3b067 48 = .ok (.baload, 1) := by decide +kernel
theorem dJ2_getChar_3b067_49 : decode cJ2_getChar_3b067 49 = .ok (.sipush 255, 3) := by decide +kernel
theorem dJ2_getChar_3b067_52 : decode cJ2_getChar_3b067 52 = .ok (.iand, 1) := by decide +kernel
theorem dJ2_getChar_3b067_53 : decode cJ2_getChar_3b067 53 = .ok (.getstatic 63, 3) := by decide +kernel
theorem dJ2_getChar_3b067_56 : decode cJ2_getChar_3b067 56 = .ok (.ishl, 1) := by decide +kernel
theorem dJ2_getChar_3b067_57 : decode cJ2_getChar_3b067 57 = .ok (.ior, 1) := by decide +kernel
theorem dJ2_getChar_3b067_58 : decode cJ2_getChar_3b067 58 = .ok (.i2c, 1) := by decide +kernel
theorem dJ2_getChar_3b067_59 : decode cJ2_getChar_3b067 59 = .ok (.ireturn, 1) := by decide +kernel
theorem dJ2_length_9d52b_0 : decode cJ2_length_9d52b 0 = .ok (.aload_n 0, 1) := by decide +kernel
theorem dJ2_length_9d52b_1 : decode cJ2_length_9d52b 1 = .ok (.arraylength, 1) := by decide +kernel
theorem dJ2_length_9d52b_2 : decode cJ2_length_9d52b 2 = .ok (.iconst 1, 1) := by decide +kernel
theorem dJ2_length_9d52b_3 : decode cJ2_length_9d52b 3 = .ok (.ishr, 1) := by decide +kernel
theorem dJ2_length_9d52b_4 : decode cJ2_length_9d52b 4 = .ok (.ireturn, 1) := by decide +kernel
theorem dJ2_charAt_3b067_0 : decode cJ2_charAt_3b067 0 = .ok (.iload_n 1, 1) := by decide +kernel
theorem dJ2_charAt_3b067_1 : decode cJ2_charAt_3b067 1 = .ok (.aload_n 0, 1) := by decide +kernel
theorem dJ2_charAt_3b067_2 : decode cJ2_charAt_3b067 2 = .ok (.invokestatic 67, 3) := by decide +kernel
theorem dJ2_charAt_3b067_5 : decode cJ2_charAt_3b067 5 = .ok (.aload_n 0, 1) := by decide +kernel
theorem dJ2_charAt_3b067_6 : decode cJ2_charAt_3b067 6 = .ok (.iload_n 1, 1) := by decide +kernel
theorem dJ2_charAt_3b067_7 : decode cJ2_charAt_3b067 7 = .ok (.invokestatic 71, 3) := by decide +kernel
theorem dJ2_charAt_3b067_10 : decode cJ2_charAt_3b067 10 = .ok (.ireturn, 1) := by decide +kernel
theorem dJ2_checkIndex_2214a_0 : decode cJ2_checkIndex_2214a 0 = .ok (.iload_n 0, 1) := by decide +kernel
theorem dJ2_checkIndex_2214a_1 : decode cJ2_checkIndex_2214a 1 = .ok (.aload_n 1, 1) := by decide +kernel
theorem dJ2_checkIndex_2214a_2 : decode cJ2_checkIndex_2214a 2 = .ok (.invokestatic 48, 3) := by decide +kernel
theorem dJ2_checkIndex_2214a_5 : decode cJ2_checkIndex_2214a 5 = .ok (.invokestatic 414, 3) := by decide +kernel
theorem dJ2_checkIndex_2214a_8 : decode cJ2_checkIndex_2214a 8 = .ok (.return_, 1) := by decide +kernel
theorem dJ3_checkIndex_8e157_0 : decode cJ3_checkIndex_8e157 0 = .ok (.iload_n 0, 1) := by decide +kernel
theorem dJ3_checkIndex_8e157_1 : decode cJ3_checkIndex_8e157 1 = .ok (.ifCond .lt 8, 3) := by decide +kernel
theorem dJ3_checkIndex_8e157_4 : decode cJ3_checkIndex_8e157 4 = .ok (.iload_n 0, 1) := by decide +kernel
theorem dJ3_checkIndex_8e157_5 : decode cJ3_checkIndex_8e157 5 = .ok (.iload_n 1, 1) := by decide +kernel
theorem dJ3_checkIndex_8e157_6 : decode cJ3_checkIndex_8e157 6 = .ok (.if_icmp .lt 10, 3) := by decide +kernel
theorem dJ3_checkIndex_8e157_9 : decode cJ3_checkIndex_8e157 9 = .ok (.aload_n 2, 1) := by decide +kernel
theorem dJ3_checkIndex_8e157_10 : decode cJ3_checkIndex_8e157 10 = .ok (.iload_n 0, 1) := by decide +kernel
theorem dJ3_checkIndex_8e157_11 : decode cJ3_checkIndex_8e157 11 = .ok (.iload_n 1, 1) := by decide +kernel
theorem dJ3_checkIndex_8e157_12 : decode cJ3_checkIndex_8e157 12 = .ok (.invokestatic 95, 3) := by decide +kernel
theorem dJ3_checkIndex_8e157_15 : decode cJ3_checkIndex_8e157 15 = .ok (.athrow, 1) := by decide +kernel
theorem dJ3_checkIndex_8e157_16 : decode cJ3_checkIndex_8e157 16 = .ok (.iload_n 0, 1) := by decide +kernel
theorem dJ3_checkIndex_8e157_17 : decode cJ3_checkIndex_8e157 17 = .ok (.ireturn, 1) := by decide +kernel
