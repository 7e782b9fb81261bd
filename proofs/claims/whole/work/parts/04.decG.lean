theorem dX4_init_0 : decode cX4_init 0 = .ok (.aload_n 0, 1) := by decide +kernel
theorem dX4_init_1 : decode cX4_init 1 = .ok (.invokespecial 1, 3) := by decide +kernel
theorem dX4_init_4 : decode cX4_init 4 = .ok (.aload_n 0, 1) := by decide +kernel
theorem dX4_init_5 : decode cX4_init 5 = .ok (.new 7, 3) := by decide +kernel
theorem dX4_init_8 : decode cX4_init 8 = .ok (.dup, 1) := by decide +kernel
theorem dX4_init_9 : decode cX4_init 9 = .ok (.invokespecial 9, 3) := by decide +kernel
theorem dX4_init_12 : decode cX4_init 12 = .ok (.putfield 10, 3) := by decide +kernel
theorem dX4_init_15 : decode cX4_init 15 = .ok (.aload_n 0, 1) := by decide +kernel
theorem dX4_init_16 : decode cX4_init 16 = .ok (.new 7, 3) := by decide +kernel
theorem dX4_init_19 : decode cX4_init 19 = .ok (.dup, 1) := by decide +kernel
theorem dX4_init_20 : decode cX4_init 20 = .ok (.invokespecial 9, 3) := by decide +kernel
theorem dX4_init_23 : decode cX4_init 23 = .ok (.putfield 16, 3) := by decide +kernel
theorem dX4_init_26 : decode cX4_init 26 = .ok (.aload_n 0, 1) := by decide +kernel
theorem dX4_init_27 : decode cX4_init 27 = .ok (.new 7, 3) := by decide +kernel
theorem dX4_init_30 : decode cX4_init 30 = .ok (.dup, 1) := by decide +kernel
theorem dX4_init_31 : decode cX4_init 31 = .ok (.invokespecial 9, 3) := by decide +kernel
theorem dX4_init_34 : decode cX4_init 34 = .ok (.putfield 19, 3) := by decide +kernel
theorem dX4_init_37 : decode cX4_init 37 = .ok (.aload_n 0, 1) := by decide +kernel
theorem dX4_init_38 : decode cX4_init 38 = .ok (.iconst 0, 1) := by decide +kernel
theorem dX4_init_39 : decode cX4_init 39 = .ok (.putfield 22, 3) := by decide +kernel
theorem dX4_init_42 : decode cX4_init 42 = .ok (.aload_n 0, 1) := by decide +kernel
theorem dX4_init_43 : decode cX4_init 43 = .ok (.iconst 4, 1) := by decide +kernel
theorem dX4_init_44 : decode cX4_init 44 = .ok (.anewarray 26, 3) := by decide +kernel
theorem dX4_init_47 : decode cX4_init 47 = .ok (.putfield 28, 3) := by decide +kernel
theorem dX4_init_50 : decode cX4_init 50 = .ok (.aload_n 0, 1) := by decide +kernel
theorem dX4_init_51 : decode cX4_init 51 = .ok (.new 32, 3) := by decide +kernel
theorem dX4_init_54 : decode cX4_init 54 = .ok (.dup, 1) := by decide +kernel
theorem dX4_init_55 : decode cX4_init 55 = .ok (.invokespecial 34, 3) := by decide +kernel
theorem dX4_init_58 : decode cX4_init 58 = .ok (.putfield 35, 3) := by decide +kernel
theorem dX4_init_61 : decode cX4_init 61 = .ok (.aload_n 0, 1) := by decide +kernel
theorem dX4_init_62 : decode cX4_init 62 = .ok (.bipush 7, 2) := by decide +kernel
theorem dX4_init_64 : decode cX4_init 64 = .ok (.newarray .int, 2) := by decide +kernel
theorem dX4_init_66 : decode cX4_init 66 = .ok (.putfield 39, 3) := by decide +kernel
theorem dX4_init_69 : decode cX4_init 69 = .ok (.iconst 0, 1) := by decide +kernel
theorem dX4_init_70 : decode cX4_init 70 = .ok (.istore_n 1, 1) := by decide +kernel
theorem dX4_init_71 : decode cX4_init 71 = .ok (.iload_n 1, 1) := by decide +kernel
theorem dX4_init_72 : decode cX4_init 72 = .ok (.iconst 4, 1) := by decide +kernel
theorem dX4_init_73 : decode cX4_init 73 = .ok (.if_icmp .ge 22, 3) := by decide +kernel
theorem dX4_init_76 : decode cX4_init 76 = .ok (.aload_n 0, 1) := by decide +kernel
theorem dX4_init_77 : decode cX4_init 77 = .ok (.getfield 28, 3) := by decide +kernel
theorem dX4_init_80 : decode cX4_init 80 = .ok (.iload_n 1, 1) := by decide +kernel
theorem dX4_init_81 : decode cX4_init 81 = .ok (.new 26, 3) := by decide +kernel
theorem dX4_init_84 : decode cX4_init 84 = .ok (.dup, 1) := by decide +kernel
theorem dX4_init_85 : decode cX4_init 85 = .ok (.invokespecial 43, 3) := by decide +kernel
theorem dX4_init_88 : decode cX4_init 88 = .ok (.aastore, 1) := by decide +kernel
theorem dX4_init_89 : decode cX4_init 89 = .ok (.iinc 1 1, 3) := by decide +kernel
theorem dX4_init_92 : decode cX4_init 92 = .ok (.goto (-21), 3) := by decide +kernel
theorem dX4_init_95 : decode cX4_init 95 = .ok (.return_, 1) := by decide +kernel
theorem dX4_weather_0 : decode cX4_weather 0 = .ok (.iload_n 1, 1) := by decide +kernel
theorem dX4_weather_1 : decode cX4_weather 1 = .ok (.iconst 5, 1) := by decide +kernel
theorem dX4_weather_2 : decode cX4_weather 2 = .ok (.invokestatic 44, 3) := by decide +kernel
theorem dX4_weather_5 : decode cX4_weather 5 = .ok (.ifCond .eq 12, 3) := by decide +kernel
theorem dX4_weather_8 : decode cX4_weather 8 = .ok (.iload_n 2, 1) := by decide +kernel
theorem dX4_weather_9 : decode cX4_weather 9 = .ok (.bipush 99, 2) := by decide +kernel
theorem dX4_weather_11 : decode cX4_weather 11 = .ok (.invokestatic 44, 3) := by decide +kernel
theorem dX4_weather_14 : decode cX4_weather 14 = .ok (.ifCond .ne 9, 3) := by decide +kernel
theorem dX4_weather_17 : decode cX4_weather 17 = .ok (.aload_n 0, 1) := by decide +kernel
theorem dX4_weather_18 : decode cX4_weather 18 = .ok (.iconst 0, 1) := by decide +kernel
theorem dX4_weather_19 : decode cX4_weather 19 = .ok (.invokevirtual 48, 3) := by decide +kernel
theorem dX4_weather_22 : decode cX4_weather 22 = .ok (.ireturn, 1) := by decide +kernel
theorem dX4_weather_23 : decode cX4_weather 23 = .ok (.aload_n 0, 1) := by decide +kernel
theorem dX4_weather_24 : decode cX4_weather 24 = .ok (.getfield 10, 3) := by decide +kernel
theorem dX4_weather_27 : decode cX4_weather 27 = .ok (.getfield 52, 3) := by decide +kernel
theorem dX4_weather_30 : decode cX4_weather 30 = .ok (.iload_n 1, 1) := by decide +kernel
theorem dX4_weather_31 : decode cX4_weather 31 = .ok (.iaload, 1) := by decide +kernel
theorem dX4_weather_32 : decode cX4_weather 32 = .ok (.istore_n 3, 1) := by decide +kernel
theorem dX4_weather_33 : decode cX4_weather 33 = .ok (.aload_n 0, 1) := by decide +kernel
theorem dX4_weather_34 : decode cX4_weather 34 = .ok (.getfield 10, 3) := by decide +kernel
theorem dX4_weather_37 : decode cX4_weather 37 = .ok (.getfield 52, 3) := by decide +kernel
theorem dX4_weather_40 : decode cX4_weather 40 = .ok (.iload_n 1, 1) := by decide +kernel
theorem dX4_weather_41 : decode cX4_weather 41 = .ok (.iload_n 2, 1) := by decide +kernel
theorem dX4_weather_42 : decode cX4_weather 42 = .ok (.iastore, 1) := by decide +kernel
theorem dX4_weather_43 : decode cX4_weather 43 = .ok (.iload_n 3, 1) := by decide +kernel
theorem dX4_weather_44 : decode cX4_weather 44 = .ok (.ireturn, 1) := by decide +kernel
theorem dX4_listed_0 : decode cX4_listed 0 = .ok (.iload_n 1, 1) := by decide +kernel
theorem dX4_listed_1 : decode cX4_listed 1 = .ok (.iconst 5, 1) := by decide +kernel
theorem dX4_listed_2 : decode cX4_listed 2 = .ok (.invokestatic 44, 3) := by decide +kernel
theorem dX4_listed_5 : decode cX4_listed 5 = .ok (.ifCond .ne 9, 3) := by decide +kernel
theorem dX4_listed_8 : decode cX4_listed 8 = .ok (.aload_n 0, 1) := by decide +kernel
theorem dX4_listed_9 : decode cX4_listed 9 = .ok (.iconst 0, 1) := by decide +kernel
theorem dX4_listed_10 : decode cX4_listed 10 = .ok (.invokevirtual 48, 3) := by decide +kernel
theorem dX4_listed_13 : decode cX4_listed 13 = .ok (.ireturn, 1) := by decide +kernel
theorem dX4_listed_14 : decode cX4_listed 14 = .ok (.aload_n 0, 1) := by decide +kernel
theorem dX4_listed_15 : decode cX4_listed 15 = .ok (.getfield 10, 3) := by decide +kernel
theorem dX4_listed_18 : decode cX4_listed 18 = .ok (.getfield 52, 3) := by decide +kernel
theorem dX4_listed_21 : decode cX4_listed 21 = .ok (.iload_n 1, 1) := by decide +kernel
theorem dX4_listed_22 : decode cX4_listed 22 = .ok (.iaload, 1) := by decide +kernel
theorem dX4_listed_23 : decode cX4_listed 23 = .ok (.ireturn, 1) := by decide +kernel
theorem dX4_onions_0 : decode cX4_onions 0 = .ok (.iload_n 1, 1) := by decide +kernel
theorem dX4_onions_1 : decode cX4_onions 1 = .ok (.bipush 99, 2) := by decide +kernel
theorem dX4_onions_3 : decode cX4_onions 3 = .ok (.invokestatic 44, 3) := by decide +kernel
theorem dX4_onions_6 : decode cX4_onions 6 = .ok (.ifCond .ne 9, 3) := by decide +kernel
theorem dX4_onions_9 : decode cX4_onions 9 = .ok (.aload_n 0, 1) := by decide +kernel
theorem dX4_onions_10 : decode cX4_onions 10 = .ok (.iconst 0, 1) := by decide +kernel
theorem dX4_onions_11 : decode cX4_onions 11 = .ok (.invokevirtual 48, 3) := by decide +kernel
theorem dX4_onions_14 : decode cX4_onions 14 = .ok (.ireturn, 1) := by decide +kernel
theorem dX4_onions_15 : decode cX4_onions 15 = .ok (.aload_n 0, 1) := by decide +kernel
theorem dX4_onions_16 : decode cX4_onions 16 = .ok (.getfield 10, 3) := by decide +kernel
theorem dX4_onions_19 : decode cX4_onions 19 = .ok (.getfield 55, 3) := by decide +kernel
theorem dX4_onions_22 : decode cX4_onions 22 = .ok (.istore_n 2, 1) := by decide +kernel
theorem dX4_onions_23 : decode cX4_onions 23 = .ok (.aload_n 0, 1) := by decide +kernel
theorem dX4_onions_24 : decode cX4_onions 24 = .ok (.getfield 10, 3) := by decide +kernel
theorem dX4_onions_27 : decode cX4_onions 27 = .ok (.iload_n 1, 1) := by decide +kernel
theorem dX4_onions_28 : decode cX4_onions 28 = .ok (.putfield 55, 3) := by decide +kernel
theorem dX4_onions_31 : decode cX4_onions 31 = .ok (.iload_n 2, 1) := by decide +kernel
theorem dX4_onions_32 : decode cX4_onions 32 = .ok (.ireturn, 1) := by decide +kernel
theorem dX4_potter_0 : decode cX4_potter 0 = .ok (.iload_n 1, 1) := by decide +kernel
theorem dX4_potter_1 : decode cX4_potter 1 = .ok (.bipush 6, 2) := by decide +kernel
theorem dX4_potter_3 : decode cX4_potter 3 = .ok (.invokestatic 44, 3) := by decide +kernel
theorem dX4_potter_6 : decode cX4_potter 6 = .ok (.ifCond .eq 12, 3) := by decide +kernel
theorem dX4_potter_9 : decode cX4_potter 9 = .ok (.iload_n 2, 1) := by decide +kernel
theorem dX4_potter_10 : decode cX4_potter 10 = .ok (.bipush 99, 2) := by decide +kernel
theorem dX4_potter_12 : decode cX4_potter 12 = .ok (.invokestatic 44, 3) := by decide +kernel
theorem dX4_potter_15 : decode cX4_potter 15 = .ok (.ifCond .ne 9, 3) := by decide +kernel
theorem dX4_potter_18 : decode cX4_potter 18 = .ok (.aload_n 0, 1) := by decide +kernel
theorem dX4_potter_19 : decode cX4_potter 19 = .ok (.iconst 0, 1) := by decide +kernel
theorem dX4_potter_20 : decode cX4_potter 20 = .ok (.invokevirtual 48, 3) := by decide +kernel
theorem dX4_potter_23 : decode cX4_potter 23 = .ok (.ireturn, 1) := by decide +kernel
theorem dX4_potter_24 : decode cX4_potter 24 = .ok (.aload_n 0, 1) := by decide +kernel
theorem dX4_potter_25 : decode cX4_potter 25 = .ok (.getfield 10, 3) := by decide +kernel
theorem dX4_potter_28 : decode cX4_potter 28 = .ok (.invokevirtual 59, 3) := by decide +kernel
theorem dX4_potter_31 : decode cX4_potter 31 = .ok (.ifCond .eq 9, 3) := by decide +kernel
theorem dX4_potter_34 : decode cX4_potter 34 = .ok (.aload_n 0, 1) := by decide +kernel
theorem dX4_potter_35 : decode cX4_potter 35 = .ok (.iconst 1, 1) := by decide +kernel
theorem dX4_potter_36 : decode cX4_potter 36 = .ok (.invokevirtual 48, 3) := by decide +kernel
theorem dX4_potter_39 : decode cX4_potter 39 = .ok (.ireturn, 1) := by decide +kernel
theorem dX4_potter_40 : decode cX4_potter 40 = .ok (.aload_n 0, 1) := by decide +kernel
theorem dX4_potter_41 : decode cX4_potter 41 = .ok (.getfield 10, 3) := by decide +kernel
theorem dX4_potter_44 : decode cX4_potter 44 = .ok (.iload_n 1, 1) := by decide +kernel
theorem dX4_potter_45 : decode cX4_potter 45 = .ok (.iload_n 2, 1) := by decide +kernel
theorem dX4_potter_46 : decode cX4_potter 46 = .ok (.invokevirtual 63, 3) := by decide +kernel
theorem dX4_potter_49 : decode cX4_potter 49 = .ok (.ireturn, 1) := by decide +kernel
theorem dX4_of_0 : decode cX4_of 0 = .ok (.aload_n 0, 1) := by decide +kernel
theorem dX4_of_1 : decode cX4_of 1 = .ok (.iload_n 1, 1) := by decide +kernel
theorem dX4_of_2 : decode cX4_of 2 = .ok (.invokevirtual 67, 3) := by decide +kernel
theorem dX4_of_5 : decode cX4_of 5 = .ok (.ifCond .eq 12, 3) := by decide +kernel
theorem dX4_of_8 : decode cX4_of 8 = .ok (.iload_n 2, 1) := by decide +kernel
theorem dX4_of_9 : decode cX4_of 9 = .ok (.bipush 12, 2) := by decide +kernel
theorem dX4_of_11 : decode cX4_of 11 = .ok (.invokestatic 44, 3) := by decide +kernel
theorem dX4_of_14 : decode cX4_of 14 = .ok (.ifCond .ne 9, 3) := by decide +kernel
theorem dX4_of_17 : decode cX4_of 17 = .ok (.aload_n 0, 1) := by decide +kernel
theorem dX4_of_18 : decode cX4_of 18 = .ok (.iconst 0, 1) := by decide +kernel
theorem dX4_of_19 : decode cX4_of 19 = .ok (.invokevirtual 48, 3) := by decide +kernel
theorem dX4_of_22 : decode cX4_of 22 = .ok (.ireturn, 1) := by decide +kernel
theorem dX4_of_23 : decode cX4_of 23 = .ok (.aload_n 0, 1) := by decide +kernel
theorem dX4_of_24 : decode cX4_of 24 = .ok (.getfield 10, 3) := by decide +kernel
theorem dX4_of_27 : decode cX4_of 27 = .ok (.getfield 71, 3) := by decide +kernel
theorem dX4_of_30 : decode cX4_of 30 = .ok (.iload_n 1, 1) := by decide +kernel
theorem dX4_of_31 : decode cX4_of 31 = .ok (.aaload, 1) := by decide +kernel
theorem dX4_of_32 : decode cX4_of 32 = .ok (.astore_n 3, 1) := by decide +kernel
theorem dX4_of_33 : decode cX4_of 33 = .ok (.iload_n 2, 1) := by decide +kernel
theorem dX4_of_34 : decode cX4_of 34 = .ok (.tableswitch 82 7 12 #[38, 50, 62, 67, 72, 77], 38) := by decide +kernel
theorem dX4_of_72 : decode cX4_of 72 = .ok (.aload_n 3, 1) := by decide +kernel
theorem dX4_of_73 : decode cX4_of 73 = .ok (.aload_n 0, 1) := by decide +kernel
theorem dX4_of_74 : decode cX4_of 74 = .ok (.getfield 10, 3) := by decide +kernel
theorem dX4_of_77 : decode cX4_of 77 = .ok (.getfield 55, 3) := by decide +kernel
theorem dX4_of_80 : decode cX4_of 80 = .ok (.invokevirtual 75, 3) := by decide +kernel
theorem dX4_of_83 : decode cX4_of 83 = .ok (.ireturn, 1) := by decide +kernel
theorem dX4_of_84 : decode cX4_of 84 = .ok (.aload_n 3, 1) := by decide +kernel
theorem dX4_of_85 : decode cX4_of 85 = .ok (.aload_n 0, 1) := by decide +kernel
theorem dX4_of_86 : decode cX4_of 86 = .ok (.getfield 10, 3) := by decide +kernel
theorem dX4_of_89 : decode cX4_of 89 = .ok (.invokevirtual 80, 3) := by decide +kernel
theorem dX4_of_92 : decode cX4_of 92 = .ok (.invokevirtual 84, 3) := by decide +kernel
theorem dX4_of_95 : decode cX4_of 95 = .ok (.ireturn, 1) := by decide +kernel
theorem dX4_of_96 : decode cX4_of 96 = .ok (.aload_n 3, 1) := by decide +kernel
theorem dX4_of_97 : decode cX4_of 97 = .ok (.invokevirtual 87, 3) := by decide +kernel
theorem dX4_of_100 : decode cX4_of 100 = .ok (.ireturn, 1) := by decide +kernel
theorem dX4_of_101 : decode cX4_of 101 = .ok (.aload_n 3, 1) := by decide +kernel
theorem dX4_of_102 : decode cX4_of 102 = .ok (.invokevirtual 90, 3) := by decide +kernel
theorem dX4_of_105 : decode cX4_of 105 = .ok (.ireturn, 1) := by decide +kernel
theorem dX4_of_106 : decode cX4_of 106 = .ok (.aload_n 3, 1) := by decide +kernel
theorem dX4_of_107 : decode cX4_of 107 = .ok (.invokevirtual 93, 3) := by decide +kernel
theorem dX4_of_110 : decode cX4_of 110 = .ok (.ireturn, 1) := by decide +kernel
theorem dX4_of_111 : decode cX4_of 111 = .ok (.aload_n 3, 1) := by decide +kernel
theorem dX4_of_112 : decode cX4_of 112 = .ok (.invokevirtual 96, 3) := by decide +kernel
theorem dX4_of_115 : decode cX4_of 115 = .ok (.ireturn, 1) := by decide +kernel
theorem dX4_of_116 : decode cX4_of 116 = .ok (.aload_n 3, 1) := by decide +kernel
theorem dX4_of_117 : decode cX4_of 117 = .ok (.iload_n 2, 1) := by decide +kernel
theorem dX4_of_118 : decode cX4_of 118 = .ok (.invokevirtual 99, 3) := by decide +kernel
theorem dX4_of_121 : decode cX4_of 121 = .ok (.ireturn, 1) := by decide +kernel
theorem dX4_change_0 : decode cX4_change 0 = .ok (.aload_n 0, 1) := by decide +kernel
theorem dX4_change_1 : decode cX4_change 1 = .ok (.iload_n 1, 1) := by decide +kernel
theorem dX4_change_2 : decode cX4_change 2 = .ok (.invokevirtual 67, 3) := by decide +kernel
theorem dX4_change_5 : decode cX4_change 5 = .ok (.ifCond .eq 23, 3) := by decide +kernel
theorem dX4_change_8 : decode cX4_change 8 = .ok (.iload_n 2, 1) := by decide +kernel
theorem dX4_change_9 : decode cX4_change 9 = .ok (.bipush 6, 2) := by decide +kernel
theorem dX4_change_11 : decode cX4_change 11 = .ok (.invokestatic 44, 3) := by decide +kernel
theorem dX4_change_14 : decode cX4_change 14 = .ok (.ifCond .eq 14, 3) := by decide +kernel
theorem dX4_change_17 : decode cX4_change 17 = .ok (.iload_n 3, 1) := by decide +kernel
theorem dX4_change_18 : decode cX4_change 18 = .ok (.iload_n 2, 1) := by decide +kernel
theorem dX4_change_19 : decode cX4_change 19 = .ok (.invokestatic 102, 3) := by decide +kernel
theorem dX4_change_22 : decode cX4_change 22 = .ok (.invokestatic 44, 3) := by decide +kernel
theorem dX4_change_25 : decode cX4_change 25 = .ok (.ifCond .ne 9, 3) := by decide +kernel
theorem dX4_change_28 : decode cX4_change 28 = .ok (.aload_n 0, 1) := by decide +kernel
theorem dX4_change_29 : decode cX4_change 29 = .ok (.iconst 0, 1) := by decide +kernel
theorem dX4_change_30 : decode cX4_change 30 = .ok (.invokevirtual 48, 3) := by decide +kernel
theorem dX4_change_33 : decode cX4_change 33 = .ok (.ireturn, 1) := by decide +kernel
theorem dX4_change_34 : decode cX4_change 34 = .ok (.aload_n 0, 1) := by decide +kernel
theorem dX4_change_35 : decode cX4_change 35 = .ok (.getfield 10, 3) := by decide +kernel
theorem dX4_change_38 : decode cX4_change 38 = .ok (.getfield 71, 3) := by decide +kernel
theorem dX4_change_41 : decode cX4_change 41 = .ok (.iload_n 1, 1) := by decide +kernel
theorem dX4_change_42 : decode cX4_change 42 = .ok (.aaload, 1) := by decide +kernel
theorem dX4_change_43 : decode cX4_change 43 = .ok (.astore 4, 2) := by decide +kernel
theorem dX4_change_45 : decode cX4_change 45 = .ok (.aload 4, 2) := by decide +kernel
theorem dX4_change_47 : decode cX4_change 47 = .ok (.iload_n 2, 1) := by decide +kernel
theorem dX4_change_48 : decode cX4_change 48 = .ok (.invokevirtual 99, 3) := by decide +kernel
theorem dX4_change_51 : decode cX4_change 51 = .ok (.istore 5, 2) := by decide +kernel
theorem dX4_change_53 : decode cX4_change 53 = .ok (.aload 4, 2) := by decide +kernel
theorem dX4_change_55 : decode cX4_change 55 = .ok (.iload_n 2, 1) := by decide +kernel
theorem dX4_change_56 : decode cX4_change 56 = .ok (.iload_n 3, 1) := by decide +kernel
theorem dX4_change_57 : decode cX4_change 57 = .ok (.invokevirtual 105, 3) := by decide +kernel
theorem dX4_change_60 : decode cX4_change 60 = .ok (.iload 5, 2) := by decide +kernel
theorem dX4_change_62 : decode cX4_change 62 = .ok (.ireturn, 1) := by decide +kernel
theorem dX4_go_0 : decode cX4_go 0 = .ok (.iload_n 1, 1) := by decide +kernel
theorem dX4_go_1 : decode cX4_go 1 = .ok (.iconst 1, 1) := by decide +kernel
theorem dX4_go_2 : decode cX4_go 2 = .ok (.if_icmp .lt 9, 3) := by decide +kernel
theorem dX4_go_5 : decode cX4_go 5 = .ok (.iload_n 1, 1) := by decide +kernel
theorem dX4_go_6 : decode cX4_go 6 = .ok (.bipush 60, 2) := by decide +kernel
theorem dX4_go_8 : decode cX4_go 8 = .ok (.if_icmp .le 9, 3) := by decide +kernel
theorem dX4_go_11 : decode cX4_go 11 = .ok (.aload_n 0, 1) := by decide +kernel
theorem dX4_go_12 : decode cX4_go 12 = .ok (.iconst 0, 1) := by decide +kernel
theorem dX4_go_13 : decode cX4_go 13 = .ok (.invokevirtual 48, 3) := by decide +kernel
theorem dX4_go_16 : decode cX4_go 16 = .ok (.ireturn, 1) := by decide +kernel
theorem dX4_go_17 : decode cX4_go 17 = .ok (.aload_n 0, 1) := by decide +kernel
theorem dX4_go_18 : decode cX4_go 18 = .ok (.getfield 10, 3) := by decide +kernel
theorem dX4_go_21 : decode cX4_go 21 = .ok (.getfield 109, 3) := by decide +kernel
theorem dX4_go_24 : decode cX4_go 24 = .ok (.ldc 112, 2) := by decide +kernel
theorem dX4_go_26 : decode cX4_go 26 = .ok (.iload_n 1, 1) := by decide +kernel
theorem dX4_go_27 : decode cX4_go 27 = .ok (.isub, 1) := by decide +kernel
theorem dX4_go_28 : decode cX4_go 28 = .ok (.if_icmp .le 9, 3) := by decide +kernel
theorem dX4_go_31 : decode cX4_go 31 = .ok (.aload_n 0, 1) := by decide +kernel
theorem dX4_go_32 : decode cX4_go 32 = .ok (.iconst 4, 1) := by decide +kernel
theorem dX4_go_33 : decode cX4_go 33 = .ok (.invokevirtual 48, 3) := by decide +kernel
theorem dX4_go_36 : decode cX4_go 36 = .ok (.ireturn, 1) := by decide +kernel
theorem dX4_go_37 : decode cX4_go 37 = .ok (.aload_n 0, 1) := by decide +kernel
theorem dX4_go_38 : decode cX4_go 38 = .ok (.getfield 10, 3) := by decide +kernel
theorem dX4_go_41 : decode cX4_go 41 = .ok (.iload_n 1, 1) := by decide +kernel
theorem dX4_go_42 : decode cX4_go 42 = .ok (.invokevirtual 113, 3) := by decide +kernel
theorem dX4_go_45 : decode cX4_go 45 = .ok (.aload_n 0, 1) := by decide +kernel
theorem dX4_go_46 : decode cX4_go 46 = .ok (.getfield 10, 3) := by decide +kernel
theorem dX4_go_49 : decode cX4_go 49 = .ok (.getfield 117, 3) := by decide +kernel
theorem dX4_go_52 : decode cX4_go 52 = .ok (.ireturn, 1) := by decide +kernel
theorem dX4_now_0 : decode cX4_now 0 = .ok (.iload_n 1, 1) := by decide +kernel
theorem dX4_now_1 : decode cX4_now 1 = .ok (.tableswitch 111 0 7 #[47, 55, 63, 71, 79, 87, 95, 103], 47) := by decide +kernel
theorem dX4_now_48 : decode cX4_now 48 = .ok (.aload_n 0, 1) := by decide +kernel
theorem dX4_now_49 : decode cX4_now 49 = .ok (.getfield 10, 3) := by decide +kernel
theorem dX4_now_52 : decode cX4_now 52 = .ok (.getfield 109, 3) := by decide +kernel
theorem dX4_now_55 : decode cX4_now 55 = .ok (.ireturn, 1) := by decide +kernel
theorem dX4_now_56 : decode cX4_now 56 = .ok (.aload_n 0, 1) := by decide +kernel
theorem dX4_now_57 : decode cX4_now 57 = .ok (.getfield 10, 3) := by decide +kernel
theorem dX4_now_60 : decode cX4_now 60 = .ok (.getfield 117, 3) := by decide +kernel
theorem dX4_now_63 : decode cX4_now 63 = .ok (.ireturn, 1) := by decide +kernel
theorem dX4_now_64 : decode cX4_now 64 = .ok (.aload_n 0, 1) := by decide +kernel
theorem dX4_now_65 : decode cX4_now 65 = .ok (.getfield 10, 3) := by decide +kernel
theorem dX4_now_68 : decode cX4_now 68 = .ok (.getfield 55, 3) := by decide +kernel
theorem dX4_now_71 : decode cX4_now 71 = .ok (.ireturn, 1) := by decide +kernel
theorem dX4_now_72 : decode cX4_now 72 = .ok (.aload_n 0, 1) := by decide +kernel
theorem dX4_now_73 : decode cX4_now 73 = .ok (.getfield 10, 3) := by decide +kernel
theorem dX4_now_76 : decode cX4_now 76 = .ok (.invokevirtual 120, 3) := by decide +kernel
theorem dX4_now_79 : decode cX4_now 79 = .ok (.ireturn, 1) := by decide +kernel
theorem dX4_now_80 : decode cX4_now 80 = .ok (.aload_n 0, 1) := by decide +kernel
theorem dX4_now_81 : decode cX4_now 81 = .ok (.getfield 10, 3) := by decide +kernel
theorem dX4_now_84 : decode cX4_now 84 = .ok (.invokevirtual 123, 3) := by decide +kernel
theorem dX4_now_87 : decode cX4_now 87 = .ok (.ireturn, 1) := by decide +kernel
theorem dX4_now_88 : decode cX4_now 88 = .ok (.aload_n 0, 1) := by decide +kernel
theorem dX4_now_89 : decode cX4_now 89 = .ok (.getfield 10, 3) := by decide +kernel
theorem dX4_now_92 : decode cX4_now 92 = .ok (.invokevirtual 126, 3) := by decide +kernel
theorem dX4_now_95 : decode cX4_now 95 = .ok (.ireturn, 1) := by decide +kernel
theorem dX4_now_96 : decode cX4_now 96 = .ok (.aload_n 0, 1) := by decide +kernel
theorem dX4_now_97 : decode cX4_now 97 = .ok (.getfield 10, 3) := by decide +kernel
theorem dX4_now_100 : decode cX4_now 100 = .ok (.invokevirtual 129, 3) := by decide +kernel
theorem dX4_now_103 : decode cX4_now 103 = .ok (.ireturn, 1) := by decide +kernel
theorem dX4_now_104 : decode cX4_now 104 = .ok (.aload_n 0, 1) := by decide +kernel
theorem dX4_now_105 : decode cX4_now 105 = .ok (.getfield 10, 3) := by decide +kernel
theorem dX4_now_108 : decode cX4_now 108 = .ok (.invokevirtual 132, 3) := by decide +kernel
theorem dX4_now_111 : decode cX4_now 111 = .ok (.ireturn, 1) := by decide +kernel
theorem dX4_now_112 : decode cX4_now 112 = .ok (.aload_n 0, 1) := by decide +kernel
theorem dX4_now_113 : decode cX4_now 113 = .ok (.iconst 0, 1) := by decide +kernel
theorem dX4_now_114 : decode cX4_now 114 = .ok (.invokevirtual 48, 3) := by decide +kernel
theorem dX4_now_117 : decode cX4_now 117 = .ok (.ireturn, 1) := by decide +kernel
theorem dX4_ahead_0 : decode cX4_ahead 0 = .ok (.iload_n 2, 1) := by decide +kernel
theorem dX4_ahead_1 : decode cX4_ahead 1 = .ok (.iconst 1, 1) := by decide +kernel
theorem dX4_ahead_2 : decode cX4_ahead 2 = .ok (.if_icmp .eq 14, 3) := by decide +kernel
theorem dX4_ahead_5 : decode cX4_ahead 5 = .ok (.iload_n 2, 1) := by decide +kernel
theorem dX4_ahead_6 : decode cX4_ahead 6 = .ok (.iconst 3, 1) := by decide +kernel
theorem dX4_ahead_7 : decode cX4_ahead 7 = .ok (.if_icmp .lt 13, 3) := by decide +kernel
theorem dX4_ahead_10 : decode cX4_ahead 10 = .ok (.iload_n 2, 1) := by decide +kernel
theorem dX4_ahead_11 : decode cX4_ahead 11 = .ok (.bipush 6, 2) := by decide +kernel
theorem dX4_ahead_13 : decode cX4_ahead 13 = .ok (.if_icmp .gt 7, 3) := by decide +kernel
theorem dX4_ahead_16 : decode cX4_ahead 16 = .ok (.iconst 1, 1) := by decide +kernel
theorem dX4_ahead_17 : decode cX4_ahead 17 = .ok (.goto 4, 3) := by decide +kernel
theorem dX4_ahead_20 : decode cX4_ahead 20 = .ok (.iconst 0, 1) := by decide +kernel
theorem dX4_ahead_21 : decode cX4_ahead 21 = .ok (.istore 4, 2) := by decide +kernel
theorem dX4_ahead_23 : decode cX4_ahead 23 = .ok (.aload_n 0, 1) := by decide +kernel
theorem dX4_ahead_24 : decode cX4_ahead 24 = .ok (.iload_n 1, 1) := by decide +kernel
theorem dX4_ahead_25 : decode cX4_ahead 25 = .ok (.invokevirtual 67, 3) := by decide +kernel
theorem dX4_ahead_28 : decode cX4_ahead 28 = .ok (.ifCond .eq 17, 3) := by decide +kernel
theorem dX4_ahead_31 : decode cX4_ahead 31 = .ok (.iload 4, 2) := by decide +kernel
theorem dX4_ahead_33 : decode cX4_ahead 33 = .ok (.ifCond .eq 12, 3) := by decide +kernel
theorem dX4_ahead_36 : decode cX4_ahead 36 = .ok (.iload_n 3, 1) := by decide +kernel
theorem dX4_ahead_37 : decode cX4_ahead 37 = .ok (.bipush 100, 2) := by decide +kernel
theorem dX4_ahead_39 : decode cX4_ahead 39 = .ok (.invokestatic 44, 3) := by decide +kernel
theorem dX4_ahead_42 : decode cX4_ahead 42 = .ok (.ifCond .ne 9, 3) := by decide +kernel
theorem dX4_ahead_45 : decode cX4_ahead 45 = .ok (.aload_n 0, 1) := by decide +kernel
theorem dX4_ahead_46 : decode cX4_ahead 46 = .ok (.iconst 0, 1) := by decide +kernel
theorem dX4_ahead_47 : decode cX4_ahead 47 = .ok (.invokevirtual 48, 3) := by decide +kernel
theorem dX4_ahead_50 : decode cX4_ahead 50 = .ok (.ireturn, 1) := by decide +kernel
theorem dX4_ahead_51 : decode cX4_ahead 51 = .ok (.aload_n 0, 1) := by decide +kernel
theorem dX4_ahead_52 : decode cX4_ahead 52 = .ok (.getfield 16, 3) := by decide +kernel
theorem dX4_ahead_55 : decode cX4_ahead 55 = .ok (.aload_n 0, 1) := by decide +kernel
theorem dX4_ahead_56 : decode cX4_ahead 56 = .ok (.getfield 10, 3) := by decide +kernel
theorem dX4_ahead_59 : decode cX4_ahead 59 = .ok (.invokevirtual 135, 3) := by decide +kernel
theorem dX4_ahead_62 : decode cX4_ahead 62 = .ok (.aload_n 0, 1) := by decide +kernel
theorem dX4_ahead_63 : decode cX4_ahead 63 = .ok (.getfield 16, 3) := by decide +kernel
theorem dX4_ahead_66 : decode cX4_ahead 66 = .ok (.iload_n 3, 1) := by decide +kernel
theorem dX4_ahead_67 : decode cX4_ahead 67 = .ok (.invokevirtual 113, 3) := by decide +kernel
theorem dX4_ahead_70 : decode cX4_ahead 70 = .ok (.aload_n 0, 1) := by decide +kernel
theorem dX4_ahead_71 : decode cX4_ahead 71 = .ok (.getfield 16, 3) := by decide +kernel
theorem dX4_ahead_74 : decode cX4_ahead 74 = .ok (.getfield 71, 3) := by decide +kernel
theorem dX4_ahead_77 : decode cX4_ahead 77 = .ok (.iload_n 1, 1) := by decide +kernel
theorem dX4_ahead_78 : decode cX4_ahead 78 = .ok (.aaload, 1) := by decide +kernel
theorem dX4_ahead_79 : decode cX4_ahead 79 = .ok (.iload_n 2, 1) := by decide +kernel
theorem dX4_ahead_80 : decode cX4_ahead 80 = .ok (.invokevirtual 99, 3) := by decide +kernel
theorem dX4_ahead_83 : decode cX4_ahead 83 = .ok (.ireturn, 1) := by decide +kernel
theorem dX4_sold_0 : decode cX4_sold 0 = .ok (.iload_n 1, 1) := by decide +kernel
theorem dX4_sold_1 : decode cX4_sold 1 = .ok (.bipush 100, 2) := by decide +kernel
theorem dX4_sold_3 : decode cX4_sold 3 = .ok (.invokestatic 44, 3) := by decide +kernel
theorem dX4_sold_6 : decode cX4_sold 6 = .ok (.ifCond .ne 9, 3) := by decide +kernel
theorem dX4_sold_9 : decode cX4_sold 9 = .ok (.aload_n 0, 1) := by decide +kernel
theorem dX4_sold_10 : decode cX4_sold 10 = .ok (.iconst 0, 1) := by decide +kernel
theorem dX4_sold_11 : decode cX4_sold 11 = .ok (.invokevirtual 48, 3) := by decide +kernel
theorem dX4_sold_14 : decode cX4_sold 14 = .ok (.ireturn, 1) := by decide +kernel
theorem dX4_sold_15 : decode cX4_sold 15 = .ok (.aload_n 0, 1) := by decide +kernel
theorem dX4_sold_16 : decode cX4_sold 16 = .ok (.getfield 16, 3) := by decide +kernel
theorem dX4_sold_19 : decode cX4_sold 19 = .ok (.aload_n 0, 1) := by decide +kernel
theorem dX4_sold_20 : decode cX4_sold 20 = .ok (.getfield 10, 3) := by decide +kernel
theorem dX4_sold_23 : decode cX4_sold 23 = .ok (.invokevirtual 135, 3) := by decide +kernel
theorem dX4_sold_26 : decode cX4_sold 26 = .ok (.aload_n 0, 1) := by decide +kernel
theorem dX4_sold_27 : decode cX4_sold 27 = .ok (.getfield 16, 3) := by decide +kernel
theorem dX4_sold_30 : decode cX4_sold 30 = .ok (.iload_n 1, 1) := by decide +kernel
theorem dX4_sold_31 : decode cX4_sold 31 = .ok (.invokevirtual 113, 3) := by decide +kernel
theorem dX4_sold_34 : decode cX4_sold 34 = .ok (.aload_n 0, 1) := by decide +kernel
theorem dX4_sold_35 : decode cX4_sold 35 = .ok (.getfield 16, 3) := by decide +kernel
theorem dX4_sold_38 : decode cX4_sold 38 = .ok (.getfield 117, 3) := by decide +kernel
theorem dX4_sold_41 : decode cX4_sold 41 = .ok (.ireturn, 1) := by decide +kernel
theorem dX4_when_0 : decode cX4_when 0 = .ok (.aload_n 0, 1) := by decide +kernel
theorem dX4_when_1 : decode cX4_when 1 = .ok (.iload_n 1, 1) := by decide +kernel
theorem dX4_when_2 : decode cX4_when 2 = .ok (.invokevirtual 67, 3) := by decide +kernel
theorem dX4_when_5 : decode cX4_when 5 = .ok (.ifCond .eq 13, 3) := by decide +kernel
theorem dX4_when_8 : decode cX4_when 8 = .ok (.iload_n 2, 1) := by decide +kernel
theorem dX4_when_9 : decode cX4_when 9 = .ok (.sipush 9999, 3) := by decide +kernel
theorem dX4_when_12 : decode cX4_when 12 = .ok (.invokestatic 44, 3) := by decide +kernel
theorem dX4_when_15 : decode cX4_when 15 = .ok (.ifCond .ne 9, 3) := by decide +kernel
theorem dX4_when_18 : decode cX4_when 18 = .ok (.aload_n 0, 1) := by decide +kernel
theorem dX4_when_19 : decode cX4_when 19 = .ok (.iconst 0, 1) := by decide +kernel
theorem dX4_when_20 : decode cX4_when 20 = .ok (.invokevirtual 48, 3) := by decide +kernel
theorem dX4_when_23 : decode cX4_when 23 = .ok (.ireturn, 1) := by decide +kernel
theorem dX4_when_24 : decode cX4_when 24 = .ok (.aload_n 0, 1) := by decide +kernel
theorem dX4_when_25 : decode cX4_when 25 = .ok (.getfield 16, 3) := by decide +kernel
theorem dX4_when_28 : decode cX4_when 28 = .ok (.aload_n 0, 1) := by decide +kernel
theorem dX4_when_29 : decode cX4_when 29 = .ok (.getfield 10, 3) := by decide +kernel
theorem dX4_when_32 : decode cX4_when 32 = .ok (.invokevirtual 135, 3) := by decide +kernel
theorem dX4_when_35 : decode cX4_when 35 = .ok (.iconst 0, 1) := by decide +kernel
theorem dX4_when_36 : decode cX4_when 36 = .ok (.istore_n 3, 1) := by decide +kernel
theorem dX4_when_37 : decode cX4_when 37 = .ok (.iload_n 3, 1) := by decide +kernel
theorem dX4_when_38 : decode cX4_when 38 = .ok (.sipush 200, 3) := by decide +kernel
theorem dX4_when_41 : decode cX4_when 41 = .ok (.if_icmp .gt 34, 3) := by decide +kernel
theorem dX4_when_44 : decode cX4_when 44 = .ok (.aload_n 0, 1) := by decide +kernel
theorem dX4_when_45 : decode cX4_when 45 = .ok (.getfield 16, 3) := by decide +kernel
theorem dX4_when_48 : decode cX4_when 48 = .ok (.getfield 71, 3) := by decide +kernel
theorem dX4_when_51 : decode cX4_when 51 = .ok (.iload_n 1, 1) := by decide +kernel
theorem dX4_when_52 : decode cX4_when 52 = .ok (.aaload, 1) := by decide +kernel
theorem dX4_when_53 : decode cX4_when 53 = .ok (.getfield 139, 3) := by decide +kernel
theorem dX4_when_56 : decode cX4_when 56 = .ok (.iload_n 2, 1) := by decide +kernel
theorem dX4_when_57 : decode cX4_when 57 = .ok (.if_icmp .lt 5, 3) := by decide +kernel
theorem dX4_when_60 : decode cX4_when 60 = .ok (.iload_n 3, 1) := by decide +kernel
theorem dX4_when_61 : decode cX4_when 61 = .ok (.ireturn, 1) := by decide +kernel
theorem dX4_when_62 : decode cX4_when 62 = .ok (.aload_n 0, 1) := by decide +kernel
theorem dX4_when_63 : decode cX4_when 63 = .ok (.getfield 16, 3) := by decide +kernel
theorem dX4_when_66 : decode cX4_when 66 = .ok (.invokevirtual 142, 3) := by decide +kernel
theorem dX4_when_69 : decode cX4_when 69 = .ok (.iinc 3 1, 3) := by decide +kernel
theorem dX4_when_72 : decode cX4_when 72 = .ok (.goto (-35), 3) := by decide +kernel
theorem dX4_when_75 : decode cX4_when 75 = .ok (.aload_n 0, 1) := by decide +kernel
theorem dX4_when_76 : decode cX4_when 76 = .ok (.iconst 3, 1) := by decide +kernel
theorem dX4_when_77 : decode cX4_when 77 = .ok (.invokevirtual 48, 3) := by decide +kernel
theorem dX4_when_80 : decode cX4_when 80 = .ok (.ireturn, 1) := by decide +kernel
theorem dX4_cracks_0 : decode cX4_cracks 0 = .ok (.aload_n 0, 1) := by decide +kernel
theorem dX4_cracks_1 : decode cX4_cracks 1 = .ok (.iload_n 1, 1) := by decide +kernel
theorem dX4_cracks_2 : decode cX4_cracks 2 = .ok (.invokevirtual 67, 3) := by decide +kernel
theorem dX4_cracks_5 : decode cX4_cracks 5 = .ok (.ifCond .ne 9, 3) := by decide +kernel
theorem dX4_cracks_8 : decode cX4_cracks 8 = .ok (.aload_n 0, 1) := by decide +kernel
theorem dX4_cracks_9 : decode cX4_cracks 9 = .ok (.iconst 0, 1) := by decide +kernel
theorem dX4_cracks_10 : decode cX4_cracks 10 = .ok (.invokevirtual 48, 3) := by decide +kernel
theorem dX4_cracks_13 : decode cX4_cracks 13 = .ok (.ireturn, 1) := by decide +kernel
theorem dX4_cracks_14 : decode cX4_cracks 14 = .ok (.aload_n 0, 1) := by decide +kernel
theorem dX4_cracks_15 : decode cX4_cracks 15 = .ok (.getfield 10, 3) := by decide +kernel
theorem dX4_cracks_18 : decode cX4_cracks 18 = .ok (.getfield 71, 3) := by decide +kernel
theorem dX4_cracks_21 : decode cX4_cracks 21 = .ok (.iload_n 1, 1) := by decide +kernel
theorem dX4_cracks_22 : decode cX4_cracks 22 = .ok (.aaload, 1) := by decide +kernel
theorem dX4_cracks_23 : decode cX4_cracks 23 = .ok (.getfield 145, 3) := by decide +kernel
theorem dX4_cracks_26 : decode cX4_cracks 26 = .ok (.istore_n 2, 1) := by decide +kernel
theorem dX4_cracks_27 : decode cX4_cracks 27 = .ok (.aload_n 0, 1) := by decide +kernel
theorem dX4_cracks_28 : decode cX4_cracks 28 = .ok (.getfield 16, 3) := by decide +kernel
theorem dX4_cracks_31 : decode cX4_cracks 31 = .ok (.aload_n 0, 1) := by decide +kernel
theorem dX4_cracks_32 : decode cX4_cracks 32 = .ok (.getfield 10, 3) := by decide +kernel
theorem dX4_cracks_35 : decode cX4_cracks 35 = .ok (.invokevirtual 135, 3) := by decide +kernel
theorem dX4_cracks_38 : decode cX4_cracks 38 = .ok (.iconst 1, 1) := by decide +kernel
theorem dX4_cracks_39 : decode cX4_cracks 39 = .ok (.istore_n 3, 1) := by decide +kernel
theorem dX4_cracks_40 : decode cX4_cracks 40 = .ok (.iload_n 3, 1) := by decide +kernel
theorem dX4_cracks_41 : decode cX4_cracks 41 = .ok (.sipush 200, 3) := by decide +kernel
theorem dX4_cracks_44 : decode cX4_cracks 44 = .ok (.if_icmp .gt 34, 3) := by decide +kernel
theorem dX4_cracks_47 : decode cX4_cracks 47 = .ok (.aload_n 0, 1) := by decide +kernel
theorem dX4_cracks_48 : decode cX4_cracks 48 = .ok (.getfield 16, 3) := by decide +kernel
theorem dX4_cracks_51 : decode cX4_cracks 51 = .ok (.invokevirtual 142, 3) := by decide +kernel
theorem dX4_cracks_54 : decode cX4_cracks 54 = .ok (.aload_n 0, 1) := by decide +kernel
theorem dX4_cracks_55 : decode cX4_cracks 55 = .ok (.getfield 16, 3) := by decide +kernel
theorem dX4_cracks_58 : decode cX4_cracks 58 = .ok (.getfield 71, 3) := by decide +kernel
theorem dX4_cracks_61 : decode cX4_cracks 61 = .ok (.iload_n 1, 1) := by decide +kernel
theorem dX4_cracks_62 : decode cX4_cracks 62 = .ok (.aaload, 1) := by decide +kernel
theorem dX4_cracks_63 : decode cX4_cracks 63 = .ok (.getfield 145, 3) := by decide +kernel
theorem dX4_cracks_66 : decode cX4_cracks 66 = .ok (.iload_n 2, 1) := by decide +kernel
theorem dX4_cracks_67 : decode cX4_cracks 67 = .ok (.if_icmp .le 5, 3) := by decide +kernel
theorem dX4_cracks_70 : decode cX4_cracks 70 = .ok (.iload_n 3, 1) := by decide +kernel
theorem dX4_cracks_71 : decode cX4_cracks 71 = .ok (.ireturn, 1) := by decide +kernel
theorem dX4_cracks_72 : decode cX4_cracks 72 = .ok (.iinc 3 1, 3) := by decide +kernel
theorem dX4_cracks_75 : decode cX4_cracks 75 = .ok (.goto (-35), 3) := by decide +kernel
theorem dX4_cracks_78 : decode cX4_cracks 78 = .ok (.aload_n 0, 1) := by decide +kernel
theorem dX4_cracks_79 : decode cX4_cracks 79 = .ok (.iconst 3, 1) := by decide +kernel
theorem dX4_cracks_80 : decode cX4_cracks 80 = .ok (.invokevirtual 48, 3) := by decide +kernel
theorem dX4_cracks_83 : decode cX4_cracks 83 = .ok (.ireturn, 1) := by decide +kernel
theorem dX4_tinted_0 : decode cX4_tinted 0 = .ok (.aload_n 0, 1) := by decide +kernel
theorem dX4_tinted_1 : decode cX4_tinted 1 = .ok (.iload_n 1, 1) := by decide +kernel
theorem dX4_tinted_2 : decode cX4_tinted 2 = .ok (.invokevirtual 67, 3) := by decide +kernel
theorem dX4_tinted_5 : decode cX4_tinted 5 = .ok (.ifCond .eq 12, 3) := by decide +kernel
theorem dX4_tinted_8 : decode cX4_tinted 8 = .ok (.iload_n 2, 1) := by decide +kernel
theorem dX4_tinted_9 : decode cX4_tinted 9 = .ok (.bipush 7, 2) := by decide +kernel
theorem dX4_tinted_11 : decode cX4_tinted 11 = .ok (.invokestatic 44, 3) := by decide +kernel
theorem dX4_tinted_14 : decode cX4_tinted 14 = .ok (.ifCond .ne 9, 3) := by decide +kernel
theorem dX4_tinted_17 : decode cX4_tinted 17 = .ok (.aload_n 0, 1) := by decide +kernel
theorem dX4_tinted_18 : decode cX4_tinted 18 = .ok (.iconst 0, 1) := by decide +kernel
theorem dX4_tinted_19 : decode cX4_tinted 19 = .ok (.invokevirtual 48, 3) := by decide +kernel
theorem dX4_tinted_22 : decode cX4_tinted 22 = .ok (.ireturn, 1) := by decide +kernel
theorem dX4_tinted_23 : decode cX4_tinted 23 = .ok (.aload_n 0, 1) := by decide +kernel
theorem dX4_tinted_24 : decode cX4_tinted 24 = .ok (.getfield 16, 3) := by decide +kernel
theorem dX4_tinted_27 : decode cX4_tinted 27 = .ok (.aload_n 0, 1) := by decide +kernel
theorem dX4_tinted_28 : decode cX4_tinted 28 = .ok (.getfield 10, 3) := by decide +kernel
theorem dX4_tinted_31 : decode cX4_tinted 31 = .ok (.invokevirtual 135, 3) := by decide +kernel
theorem dX4_tinted_34 : decode cX4_tinted 34 = .ok (.iconst 0, 1) := by decide +kernel
theorem dX4_tinted_35 : decode cX4_tinted 35 = .ok (.istore_n 3, 1) := by decide +kernel
theorem dX4_tinted_36 : decode cX4_tinted 36 = .ok (.iload_n 3, 1) := by decide +kernel
theorem dX4_tinted_37 : decode cX4_tinted 37 = .ok (.sipush 200, 3) := by decide +kernel
theorem dX4_tinted_40 : decode cX4_tinted 40 = .ok (.if_icmp .gt 34, 3) := by decide +kernel
theorem dX4_tinted_43 : decode cX4_tinted 43 = .ok (.aload_n 0, 1) := by decide +kernel
theorem dX4_tinted_44 : decode cX4_tinted 44 = .ok (.getfield 16, 3) := by decide +kernel
theorem dX4_tinted_47 : decode cX4_tinted 47 = .ok (.getfield 71, 3) := by decide +kernel
theorem dX4_tinted_50 : decode cX4_tinted 50 = .ok (.iload_n 1, 1) := by decide +kernel
theorem dX4_tinted_51 : decode cX4_tinted 51 = .ok (.aaload, 1) := by decide +kernel
theorem dX4_tinted_52 : decode cX4_tinted 52 = .ok (.iload_n 2, 1) := by decide +kernel
theorem dX4_tinted_53 : decode cX4_tinted 53 = .ok (.invokevirtual 148, 3) := by decide +kernel
theorem dX4_tinted_56 : decode cX4_tinted 56 = .ok (.ifCond .eq 5, 3) := by decide +kernel
theorem dX4_tinted_59 : decode cX4_tinted 59 = .ok (.iload_n 3, 1) := by decide +kernel
theorem dX4_tinted_60 : decode cX4_tinted 60 = .ok (.ireturn, 1) := by decide +kernel
theorem dX4_tinted_61 : decode cX4_tinted 61 = .ok (.aload_n 0, 1) := by decide +kernel
theorem dX4_tinted_62 : decode cX4_tinted 62 = .ok (.getfield 16, 3) := by decide +kernel
theorem dX4_tinted_65 : decode cX4_tinted 65 = .ok (.invokevirtual 142, 3) := by decide +kernel
theorem dX4_tinted_68 : decode cX4_tinted 68 = .ok (.iinc 3 1, 3) := by decide +kernel
theorem dX4_tinted_71 : decode cX4_tinted 71 = .ok (.goto (-35), 3) := by decide +kernel
theorem dX4_tinted_74 : decode cX4_tinted 74 = .ok (.aload_n 0, 1) := by decide +kernel
theorem dX4_tinted_75 : decode cX4_tinted 75 = .ok (.iconst 3, 1) := by decide +kernel
theorem dX4_tinted_76 : decode cX4_tinted 76 = .ok (.invokevirtual 48, 3) := by decide +kernel
theorem dX4_tinted_79 : decode cX4_tinted 79 = .ok (.ireturn, 1) := by decide +kernel
theorem dX4_hoursFor_0 : decode cX4_hoursFor 0 = .ok (.aload_n 0, 1) := by decide +kernel
theorem dX4_hoursFor_1 : decode cX4_hoursFor 1 = .ok (.iload_n 1, 1) := by decide +kernel
theorem dX4_hoursFor_2 : decode cX4_hoursFor 2 = .ok (.invokevirtual 67, 3) := by decide +kernel
theorem dX4_hoursFor_5 : decode cX4_hoursFor 5 = .ok (.ifCond .eq 22, 3) := by decide +kernel
theorem dX4_hoursFor_8 : decode cX4_hoursFor 8 = .ok (.iload_n 2, 1) := by decide +kernel
theorem dX4_hoursFor_9 : decode cX4_hoursFor 9 = .ok (.sipush 9999, 3) := by decide +kernel
theorem dX4_hoursFor_12 : decode cX4_hoursFor 12 = .ok (.invokestatic 44, 3) := by decide +kernel
theorem dX4_hoursFor_15 : decode cX4_hoursFor 15 = .ok (.ifCond .eq 12, 3) := by decide +kernel
theorem dX4_hoursFor_18 : decode cX4_hoursFor 18 = .ok (.iload_n 3, 1) := by decide +kernel
theorem dX4_hoursFor_19 : decode cX4_hoursFor 19 = .ok (.bipush 60, 2) := by decide +kernel
theorem dX4_hoursFor_21 : decode cX4_hoursFor 21 = .ok (.invokestatic 44, 3) := by decide +kernel
theorem dX4_hoursFor_24 : decode cX4_hoursFor 24 = .ok (.ifCond .ne 9, 3) := by decide +kernel
theorem dX4_hoursFor_27 : decode cX4_hoursFor 27 = .ok (.aload_n 0, 1) := by decide +kernel
theorem dX4_hoursFor_28 : decode cX4_hoursFor 28 = .ok (.iconst 0, 1) := by decide +kernel
theorem dX4_hoursFor_29 : decode cX4_hoursFor 29 = .ok (.invokevirtual 48, 3) := by decide +kernel
theorem dX4_hoursFor_32 : decode cX4_hoursFor 32 = .ok (.ireturn, 1) := by decide +kernel
theorem dX4_hoursFor_33 : decode cX4_hoursFor 33 = .ok (.iconst 0, 1) := by decide +kernel
theorem dX4_hoursFor_34 : decode cX4_hoursFor 34 = .ok (.istore 4, 2) := by decide +kernel
theorem dX4_hoursFor_36 : decode cX4_hoursFor 36 = .ok (.iload 4, 2) := by decide +kernel
theorem dX4_hoursFor_38 : decode cX4_hoursFor 38 = .ok (.bipush 9, 2) := by decide +kernel
theorem dX4_hoursFor_40 : decode cX4_hoursFor 40 = .ok (.if_icmp .gt 61, 3) := by decide +kernel
theorem dX4_hoursFor_43 : decode cX4_hoursFor 43 = .ok (.aload_n 0, 1) := by decide +kernel
theorem dX4_hoursFor_44 : decode cX4_hoursFor 44 = .ok (.getfield 16, 3) := by decide +kernel
theorem dX4_hoursFor_47 : decode cX4_hoursFor 47 = .ok (.aload_n 0, 1) := by decide +kernel
theorem dX4_hoursFor_48 : decode cX4_hoursFor 48 = .ok (.getfield 10, 3) := by decide +kernel
theorem dX4_hoursFor_51 : decode cX4_hoursFor 51 = .ok (.invokevirtual 135, 3) := by decide +kernel
theorem dX4_hoursFor_54 : decode cX4_hoursFor 54 = .ok (.aload_n 0, 1) := by decide +kernel
theorem dX4_hoursFor_55 : decode cX4_hoursFor 55 = .ok (.getfield 16, 3) := by decide +kernel
theorem dX4_hoursFor_58 : decode cX4_hoursFor 58 = .ok (.getfield 71, 3) := by decide +kernel
theorem dX4_hoursFor_61 : decode cX4_hoursFor 61 = .ok (.iload_n 1, 1) := by decide +kernel
theorem dX4_hoursFor_62 : decode cX4_hoursFor 62 = .ok (.aaload, 1) := by decide +kernel
theorem dX4_hoursFor_63 : decode cX4_hoursFor 63 = .ok (.iload 4, 2) := by decide +kernel
theorem dX4_hoursFor_65 : decode cX4_hoursFor 65 = .ok (.putfield 151, 3) := by decide +kernel
theorem dX4_hoursFor_68 : decode cX4_hoursFor 68 = .ok (.aload_n 0, 1) := by decide +kernel
theorem dX4_hoursFor_69 : decode cX4_hoursFor 69 = .ok (.getfield 16, 3) := by decide +kernel
theorem dX4_hoursFor_72 : decode cX4_hoursFor 72 = .ok (.iload_n 3, 1) := by decide +kernel
theorem dX4_hoursFor_73 : decode cX4_hoursFor 73 = .ok (.invokevirtual 113, 3) := by decide +kernel
theorem dX4_hoursFor_76 : decode cX4_hoursFor 76 = .ok (.aload_n 0, 1) := by decide +kernel
theorem dX4_hoursFor_77 : decode cX4_hoursFor 77 = .ok (.getfield 16, 3) := by decide +kernel
theorem dX4_hoursFor_80 : decode cX4_hoursFor 80 = .ok (.getfield 71, 3) := by decide +kernel
theorem dX4_hoursFor_83 : decode cX4_hoursFor 83 = .ok (.iload_n 1, 1) := by decide +kernel
theorem dX4_hoursFor_84 : decode cX4_hoursFor 84 = .ok (.aaload, 1) := by decide +kernel
theorem dX4_hoursFor_85 : decode cX4_hoursFor 85 = .ok (.getfield 139, 3) := by decide +kernel
theorem dX4_hoursFor_88 : decode cX4_hoursFor 88 = .ok (.iload_n 2, 1) := by decide +kernel
theorem dX4_hoursFor_89 : decode cX4_hoursFor 89 = .ok (.if_icmp .lt 6, 3) := by decide +kernel
theorem dX4_hoursFor_92 : decode cX4_hoursFor 92 = .ok (.iload 4, 2) := by decide +kernel
theorem dX4_hoursFor_94 : decode cX4_hoursFor 94 = .ok (.ireturn, 1) := by decide +kernel
theorem dX4_hoursFor_95 : decode cX4_hoursFor 95 = .ok (.iinc 4 1, 3) := by decide +kernel
theorem dX4_hoursFor_98 : decode cX4_hoursFor 98 = .ok (.goto (-62), 3) := by decide +kernel
theorem dX4_hoursFor_101 : decode cX4_hoursFor 101 = .ok (.aload_n 0, 1) := by decide +kernel
theorem dX4_hoursFor_102 : decode cX4_hoursFor 102 = .ok (.iconst 3, 1) := by decide +kernel
theorem dX4_hoursFor_103 : decode cX4_hoursFor 103 = .ok (.invokevirtual 48, 3) := by decide +kernel
theorem dX4_hoursFor_106 : decode cX4_hoursFor 106 = .ok (.ireturn, 1) := by decide +kernel
theorem dX4_kindFor_0 : decode cX4_kindFor 0 = .ok (.aload_n 0, 1) := by decide +kernel
theorem dX4_kindFor_1 : decode cX4_kindFor 1 = .ok (.iload_n 1, 1) := by decide +kernel
theorem dX4_kindFor_2 : decode cX4_kindFor 2 = .ok (.invokevirtual 67, 3) := by decide +kernel
theorem dX4_kindFor_5 : decode cX4_kindFor 5 = .ok (.ifCond .eq 12, 3) := by decide +kernel
theorem dX4_kindFor_8 : decode cX4_kindFor 8 = .ok (.iload_n 2, 1) := by decide +kernel
theorem dX4_kindFor_9 : decode cX4_kindFor 9 = .ok (.bipush 60, 2) := by decide +kernel
theorem dX4_kindFor_11 : decode cX4_kindFor 11 = .ok (.invokestatic 44, 3) := by decide +kernel
theorem dX4_kindFor_14 : decode cX4_kindFor 14 = .ok (.ifCond .ne 9, 3) := by decide +kernel
theorem dX4_kindFor_17 : decode cX4_kindFor 17 = .ok (.aload_n 0, 1) := by decide +kernel
theorem dX4_kindFor_18 : decode cX4_kindFor 18 = .ok (.iconst 0, 1) := by decide +kernel
theorem dX4_kindFor_19 : decode cX4_kindFor 19 = .ok (.invokevirtual 48, 3) := by decide +kernel
theorem dX4_kindFor_22 : decode cX4_kindFor 22 = .ok (.ireturn, 1) := by decide +kernel
theorem dX4_kindFor_23 : decode cX4_kindFor 23 = .ok (.iconst 0, 1) := by decide +kernel
theorem dX4_kindFor_24 : decode cX4_kindFor 24 = .ok (.istore_n 3, 1) := by decide +kernel
theorem dX4_kindFor_25 : decode cX4_kindFor 25 = .ok (.iconst (-1), 1) := by decide +kernel
theorem dX4_kindFor_26 : decode cX4_kindFor 26 = .ok (.istore 4, 2) := by decide +kernel
theorem dX4_kindFor_28 : decode cX4_kindFor 28 = .ok (.iconst 0, 1) := by decide +kernel
theorem dX4_kindFor_29 : decode cX4_kindFor 29 = .ok (.istore 5, 2) := by decide +kernel
theorem dX4_kindFor_31 : decode cX4_kindFor 31 = .ok (.iload 5, 2) := by decide +kernel
theorem dX4_kindFor_33 : decode cX4_kindFor 33 = .ok (.bipush 7, 2) := by decide +kernel
theorem dX4_kindFor_35 : decode cX4_kindFor 35 = .ok (.if_icmp .ge 66, 3) := by decide +kernel
theorem dX4_kindFor_38 : decode cX4_kindFor 38 = .ok (.aload_n 0, 1) := by decide +kernel
theorem dX4_kindFor_39 : decode cX4_kindFor 39 = .ok (.getfield 16, 3) := by decide +kernel
theorem dX4_kindFor_42 : decode cX4_kindFor 42 = .ok (.aload_n 0, 1) := by decide +kernel
theorem dX4_kindFor_43 : decode cX4_kindFor 43 = .ok (.getfield 10, 3) := by decide +kernel
theorem dX4_kindFor_46 : decode cX4_kindFor 46 = .ok (.invokevirtual 135, 3) := by decide +kernel
theorem dX4_kindFor_49 : decode cX4_kindFor 49 = .ok (.aload_n 0, 1) := by decide +kernel
theorem dX4_kindFor_50 : decode cX4_kindFor 50 = .ok (.getfield 16, 3) := by decide +kernel
theorem dX4_kindFor_53 : decode cX4_kindFor 53 = .ok (.getfield 71, 3) := by decide +kernel
theorem dX4_kindFor_56 : decode cX4_kindFor 56 = .ok (.iload_n 1, 1) := by decide +kernel
theorem dX4_kindFor_57 : decode cX4_kindFor 57 = .ok (.aaload, 1) := by decide +kernel
theorem dX4_kindFor_58 : decode cX4_kindFor 58 = .ok (.iload 5, 2) := by decide +kernel
theorem dX4_kindFor_60 : decode cX4_kindFor 60 = .ok (.putfield 154, 3) := by decide +kernel
theorem dX4_kindFor_63 : decode cX4_kindFor 63 = .ok (.aload_n 0, 1) := by decide +kernel
theorem dX4_kindFor_64 : decode cX4_kindFor 64 = .ok (.getfield 16, 3) := by decide +kernel
theorem dX4_kindFor_67 : decode cX4_kindFor 67 = .ok (.iload_n 2, 1) := by decide +kernel
theorem dX4_kindFor_68 : decode cX4_kindFor 68 = .ok (.invokevirtual 113, 3) := by decide +kernel
theorem dX4_kindFor_71 : decode cX4_kindFor 71 = .ok (.aload_n 0, 1) := by decide +kernel
theorem dX4_kindFor_72 : decode cX4_kindFor 72 = .ok (.getfield 16, 3) := by decide +kernel
theorem dX4_kindFor_75 : decode cX4_kindFor 75 = .ok (.getfield 117, 3) := by decide +kernel
theorem dX4_kindFor_78 : decode cX4_kindFor 78 = .ok (.iload 4, 2) := by decide +kernel
theorem dX4_kindFor_80 : decode cX4_kindFor 80 = .ok (.if_icmp .le 15, 3) := by decide +kernel
theorem dX4_kindFor_83 : decode cX4_kindFor 83 = .ok (.aload_n 0, 1) := by decide +kernel
theorem dX4_kindFor_84 : decode cX4_kindFor 84 = .ok (.getfield 16, 3) := by decide +kernel
theorem dX4_kindFor_87 : decode cX4_kindFor 87 = .ok (.getfield 117, 3) := by decide +kernel
theorem dX4_kindFor_90 : decode cX4_kindFor 90 = .ok (.istore 4, 2) := by decide +kernel
theorem dX4_kindFor_92 : decode cX4_kindFor 92 = .ok (.iload 5, 2) := by decide +kernel
theorem dX4_kindFor_94 : decode cX4_kindFor 94 = .ok (.istore_n 3, 1) := by decide +kernel
theorem dX4_kindFor_95 : decode cX4_kindFor 95 = .ok (.iinc 5 1, 3) := by decide +kernel
theorem dX4_kindFor_98 : decode cX4_kindFor 98 = .ok (.goto (-67), 3) := by decide +kernel
theorem dX4_kindFor_101 : decode cX4_kindFor 101 = .ok (.iload_n 3, 1) := by decide +kernel
theorem dX4_kindFor_102 : decode cX4_kindFor 102 = .ok (.ireturn, 1) := by decide +kernel
theorem dX4_griefFor_0 : decode cX4_griefFor 0 = .ok (.aload_n 0, 1) := by decide +kernel
theorem dX4_griefFor_1 : decode cX4_griefFor 1 = .ok (.iload_n 1, 1) := by decide +kernel
theorem dX4_griefFor_2 : decode cX4_griefFor 2 = .ok (.invokevirtual 67, 3) := by decide +kernel
theorem dX4_griefFor_5 : decode cX4_griefFor 5 = .ok (.ifCond .eq 12, 3) := by decide +kernel
theorem dX4_griefFor_8 : decode cX4_griefFor 8 = .ok (.iload_n 2, 1) := by decide +kernel
theorem dX4_griefFor_9 : decode cX4_griefFor 9 = .ok (.bipush 60, 2) := by decide +kernel
theorem dX4_griefFor_11 : decode cX4_griefFor 11 = .ok (.invokestatic 44, 3) := by decide +kernel
theorem dX4_griefFor_14 : decode cX4_griefFor 14 = .ok (.ifCond .ne 9, 3) := by decide +kernel
theorem dX4_griefFor_17 : decode cX4_griefFor 17 = .ok (.aload_n 0, 1) := by decide +kernel
theorem dX4_griefFor_18 : decode cX4_griefFor 18 = .ok (.iconst 0, 1) := by decide +kernel
theorem dX4_griefFor_19 : decode cX4_griefFor 19 = .ok (.invokevirtual 48, 3) := by decide +kernel
theorem dX4_griefFor_22 : decode cX4_griefFor 22 = .ok (.ireturn, 1) := by decide +kernel
theorem dX4_griefFor_23 : decode cX4_griefFor 23 = .ok (.aload_n 0, 1) := by decide +kernel
theorem dX4_griefFor_24 : decode cX4_griefFor 24 = .ok (.getfield 10, 3) := by decide +kernel
theorem dX4_griefFor_27 : decode cX4_griefFor 27 = .ok (.getfield 71, 3) := by decide +kernel
theorem dX4_griefFor_30 : decode cX4_griefFor 30 = .ok (.iload_n 1, 1) := by decide +kernel
theorem dX4_griefFor_31 : decode cX4_griefFor 31 = .ok (.aaload, 1) := by decide +kernel
theorem dX4_griefFor_32 : decode cX4_griefFor 32 = .ok (.getfield 145, 3) := by decide +kernel
theorem dX4_griefFor_35 : decode cX4_griefFor 35 = .ok (.istore_n 3, 1) := by decide +kernel
theorem dX4_griefFor_36 : decode cX4_griefFor 36 = .ok (.iconst 0, 1) := by decide +kernel
theorem dX4_griefFor_37 : decode cX4_griefFor 37 = .ok (.istore 4, 2) := by decide +kernel
theorem dX4_griefFor_39 : decode cX4_griefFor 39 = .ok (.iload 4, 2) := by decide +kernel
theorem dX4_griefFor_41 : decode cX4_griefFor 41 = .ok (.bipush 99, 2) := by decide +kernel
theorem dX4_griefFor_43 : decode cX4_griefFor 43 = .ok (.if_icmp .gt 61, 3) := by decide +kernel
theorem dX4_griefFor_46 : decode cX4_griefFor 46 = .ok (.aload_n 0, 1) := by decide +kernel
theorem dX4_griefFor_47 : decode cX4_griefFor 47 = .ok (.getfield 16, 3) := by decide +kernel
theorem dX4_griefFor_50 : decode cX4_griefFor 50 = .ok (.aload_n 0, 1) := by decide +kernel
theorem dX4_griefFor_51 : decode cX4_griefFor 51 = .ok (.getfield 10, 3) := by decide +kernel
theorem dX4_griefFor_54 : decode cX4_griefFor 54 = .ok (.invokevirtual 135, 3) := by decide +kernel
theorem dX4_griefFor_57 : decode cX4_griefFor 57 = .ok (.aload_n 0, 1) := by decide +kernel
theorem dX4_griefFor_58 : decode cX4_griefFor 58 = .ok (.getfield 16, 3) := by decide +kernel
theorem dX4_griefFor_61 : decode cX4_griefFor 61 = .ok (.getfield 71, 3) := by decide +kernel
theorem dX4_griefFor_64 : decode cX4_griefFor 64 = .ok (.iload_n 1, 1) := by decide +kernel
theorem dX4_griefFor_65 : decode cX4_griefFor 65 = .ok (.aaload, 1) := by decide +kernel
theorem dX4_griefFor_66 : decode cX4_griefFor 66 = .ok (.iload 4, 2) := by decide +kernel
theorem dX4_griefFor_68 : decode cX4_griefFor 68 = .ok (.putfield 157, 3) := by decide +kernel
theorem dX4_griefFor_71 : decode cX4_griefFor 71 = .ok (.aload_n 0, 1) := by decide +kernel
theorem dX4_griefFor_72 : decode cX4_griefFor 72 = .ok (.getfield 16, 3) := by decide +kernel
theorem dX4_griefFor_75 : decode cX4_griefFor 75 = .ok (.iload_n 2, 1) := by decide +kernel
theorem dX4_griefFor_76 : decode cX4_griefFor 76 = .ok (.invokevirtual 113, 3) := by decide +kernel
theorem dX4_griefFor_79 : decode cX4_griefFor 79 = .ok (.aload_n 0, 1) := by decide +kernel
theorem dX4_griefFor_80 : decode cX4_griefFor 80 = .ok (.getfield 16, 3) := by decide +kernel
theorem dX4_griefFor_83 : decode cX4_griefFor 83 = .ok (.getfield 71, 3) := by decide +kernel
theorem dX4_griefFor_86 : decode cX4_griefFor 86 = .ok (.iload_n 1, 1) := by decide +kernel
theorem dX4_griefFor_87 : decode cX4_griefFor 87 = .ok (.aaload, 1) := by decide +kernel
theorem dX4_griefFor_88 : decode cX4_griefFor 88 = .ok (.getfield 145, 3) := by decide +kernel
theorem dX4_griefFor_91 : decode cX4_griefFor 91 = .ok (.iload_n 3, 1) := by decide +kernel
theorem dX4_griefFor_92 : decode cX4_griefFor 92 = .ok (.if_icmp .ne 6, 3) := by decide +kernel
theorem dX4_griefFor_95 : decode cX4_griefFor 95 = .ok (.iload 4, 2) := by decide +kernel
theorem dX4_griefFor_97 : decode cX4_griefFor 97 = .ok (.ireturn, 1) := by decide +kernel
theorem dX4_griefFor_98 : decode cX4_griefFor 98 = .ok (.iinc 4 1, 3) := by decide +kernel
theorem dX4_griefFor_101 : decode cX4_griefFor 101 = .ok (.goto (-62), 3) := by decide +kernel
theorem dX4_griefFor_104 : decode cX4_griefFor 104 = .ok (.aload_n 0, 1) := by decide +kernel
theorem dX4_griefFor_105 : decode cX4_griefFor 105 = .ok (.iconst 3, 1) := by decide +kernel
theorem dX4_griefFor_106 : decode cX4_griefFor 106 = .ok (.invokevirtual 48, 3) := by decide +kernel
theorem dX4_griefFor_109 : decode cX4_griefFor 109 = .ok (.ireturn, 1) := by decide +kernel
theorem dX4_weatherFor_0 : decode cX4_weatherFor 0 = .ok (.iload_n 1, 1) := by decide +kernel
theorem dX4_weatherFor_1 : decode cX4_weatherFor 1 = .ok (.iconst 5, 1) := by decide +kernel
theorem dX4_weatherFor_2 : decode cX4_weatherFor 2 = .ok (.invokestatic 44, 3) := by decide +kernel
theorem dX4_weatherFor_5 : decode cX4_weatherFor 5 = .ok (.ifCond .eq 12, 3) := by decide +kernel
theorem dX4_weatherFor_8 : decode cX4_weatherFor 8 = .ok (.iload_n 2, 1) := by decide +kernel
theorem dX4_weatherFor_9 : decode cX4_weatherFor 9 = .ok (.bipush 40, 2) := by decide +kernel
theorem dX4_weatherFor_11 : decode cX4_weatherFor 11 = .ok (.invokestatic 44, 3) := by decide +kernel
theorem dX4_weatherFor_14 : decode cX4_weatherFor 14 = .ok (.ifCond .ne 9, 3) := by decide +kernel
theorem dX4_weatherFor_17 : decode cX4_weatherFor 17 = .ok (.aload_n 0, 1) := by decide +kernel
theorem dX4_weatherFor_18 : decode cX4_weatherFor 18 = .ok (.iconst 0, 1) := by decide +kernel
theorem dX4_weatherFor_19 : decode cX4_weatherFor 19 = .ok (.invokevirtual 48, 3) := by decide +kernel
theorem dX4_weatherFor_22 : decode cX4_weatherFor 22 = .ok (.ireturn, 1) := by decide +kernel
theorem dX4_weatherFor_23 : decode cX4_weatherFor 23 = .ok (.iconst 0, 1) := by decide +kernel
theorem dX4_weatherFor_24 : decode cX4_weatherFor 24 = .ok (.istore_n 3, 1) := by decide +kernel
theorem dX4_weatherFor_25 : decode cX4_weatherFor 25 = .ok (.iconst (-1), 1) := by decide +kernel
theorem dX4_weatherFor_26 : decode cX4_weatherFor 26 = .ok (.istore 4, 2) := by decide +kernel
theorem dX4_weatherFor_28 : decode cX4_weatherFor 28 = .ok (.iconst 0, 1) := by decide +kernel
theorem dX4_weatherFor_29 : decode cX4_weatherFor 29 = .ok (.istore 5, 2) := by decide +kernel
theorem dX4_weatherFor_31 : decode cX4_weatherFor 31 = .ok (.iload 5, 2) := by decide +kernel
theorem dX4_weatherFor_33 : decode cX4_weatherFor 33 = .ok (.bipush 99, 2) := by decide +kernel
theorem dX4_weatherFor_35 : decode cX4_weatherFor 35 = .ok (.if_icmp .gt 63, 3) := by decide +kernel
theorem dX4_weatherFor_38 : decode cX4_weatherFor 38 = .ok (.aload_n 0, 1) := by decide +kernel
theorem dX4_weatherFor_39 : decode cX4_weatherFor 39 = .ok (.getfield 16, 3) := by decide +kernel
theorem dX4_weatherFor_42 : decode cX4_weatherFor 42 = .ok (.aload_n 0, 1) := by decide +kernel
theorem dX4_weatherFor_43 : decode cX4_weatherFor 43 = .ok (.getfield 10, 3) := by decide +kernel
theorem dX4_weatherFor_46 : decode cX4_weatherFor 46 = .ok (.invokevirtual 135, 3) := by decide +kernel
theorem dX4_weatherFor_49 : decode cX4_weatherFor 49 = .ok (.aload_n 0, 1) := by decide +kernel
theorem dX4_weatherFor_50 : decode cX4_weatherFor 50 = .ok (.getfield 16, 3) := by decide +kernel
theorem dX4_weatherFor_53 : decode cX4_weatherFor 53 = .ok (.getfield 52, 3) := by decide +kernel
theorem dX4_weatherFor_56 : decode cX4_weatherFor 56 = .ok (.iload_n 1, 1) := by decide +kernel
theorem dX4_weatherFor_57 : decode cX4_weatherFor 57 = .ok (.iload 5, 2) := by decide +kernel
theorem dX4_weatherFor_59 : decode cX4_weatherFor 59 = .ok (.iastore, 1) := by decide +kernel
theorem dX4_weatherFor_60 : decode cX4_weatherFor 60 = .ok (.aload_n 0, 1) := by decide +kernel
theorem dX4_weatherFor_61 : decode cX4_weatherFor 61 = .ok (.getfield 16, 3) := by decide +kernel
theorem dX4_weatherFor_64 : decode cX4_weatherFor 64 = .ok (.iload_n 2, 1) := by decide +kernel
theorem dX4_weatherFor_65 : decode cX4_weatherFor 65 = .ok (.invokevirtual 113, 3) := by decide +kernel
theorem dX4_weatherFor_68 : decode cX4_weatherFor 68 = .ok (.aload_n 0, 1) := by decide +kernel
theorem dX4_weatherFor_69 : decode cX4_weatherFor 69 = .ok (.getfield 16, 3) := by decide +kernel
theorem dX4_weatherFor_72 : decode cX4_weatherFor 72 = .ok (.getfield 117, 3) := by decide +kernel
theorem dX4_weatherFor_75 : decode cX4_weatherFor 75 = .ok (.iload 4, 2) := by decide +kernel
theorem dX4_weatherFor_77 : decode cX4_weatherFor 77 = .ok (.if_icmp .le 15, 3) := by decide +kernel
theorem dX4_weatherFor_80 : decode cX4_weatherFor 80 = .ok (.aload_n 0, 1) := by decide +kernel
theorem dX4_weatherFor_81 : decode cX4_weatherFor 81 = .ok (.getfield 16, 3) := by decide +kernel
theorem dX4_weatherFor_84 : decode cX4_weatherFor 84 = .ok (.getfield 117, 3) := by decide +kernel
theorem dX4_weatherFor_87 : decode cX4_weatherFor 87 = .ok (.istore 4, 2) := by decide +kernel
theorem dX4_weatherFor_89 : decode cX4_weatherFor 89 = .ok (.iload 5, 2) := by decide +kernel
theorem dX4_weatherFor_91 : decode cX4_weatherFor 91 = .ok (.istore_n 3, 1) := by decide +kernel
theorem dX4_weatherFor_92 : decode cX4_weatherFor 92 = .ok (.iinc 5 1, 3) := by decide +kernel
theorem dX4_weatherFor_95 : decode cX4_weatherFor 95 = .ok (.goto (-64), 3) := by decide +kernel
theorem dX4_weatherFor_98 : decode cX4_weatherFor 98 = .ok (.iload_n 3, 1) := by decide +kernel
theorem dX4_weatherFor_99 : decode cX4_weatherFor 99 = .ok (.ireturn, 1) := by decide +kernel
theorem dX4_onionsFor_0 : decode cX4_onionsFor 0 = .ok (.iload_n 1, 1) := by decide +kernel
theorem dX4_onionsFor_1 : decode cX4_onionsFor 1 = .ok (.ldc 112, 2) := by decide +kernel
theorem dX4_onionsFor_3 : decode cX4_onionsFor 3 = .ok (.invokestatic 44, 3) := by decide +kernel
theorem dX4_onionsFor_6 : decode cX4_onionsFor 6 = .ok (.ifCond .eq 12, 3) := by decide +kernel
theorem dX4_onionsFor_9 : decode cX4_onionsFor 9 = .ok (.iload_n 2, 1) := by decide +kernel
theorem dX4_onionsFor_10 : decode cX4_onionsFor 10 = .ok (.bipush 40, 2) := by decide +kernel
theorem dX4_onionsFor_12 : decode cX4_onionsFor 12 = .ok (.invokestatic 44, 3) := by decide +kernel
theorem dX4_onionsFor_15 : decode cX4_onionsFor 15 = .ok (.ifCond .ne 9, 3) := by decide +kernel
theorem dX4_onionsFor_18 : decode cX4_onionsFor 18 = .ok (.aload_n 0, 1) := by decide +kernel
theorem dX4_onionsFor_19 : decode cX4_onionsFor 19 = .ok (.iconst 0, 1) := by decide +kernel
theorem dX4_onionsFor_20 : decode cX4_onionsFor 20 = .ok (.invokevirtual 48, 3) := by decide +kernel
theorem dX4_onionsFor_23 : decode cX4_onionsFor 23 = .ok (.ireturn, 1) := by decide +kernel
theorem dX4_onionsFor_24 : decode cX4_onionsFor 24 = .ok (.iconst 0, 1) := by decide +kernel
theorem dX4_onionsFor_25 : decode cX4_onionsFor 25 = .ok (.istore_n 3, 1) := by decide +kernel
theorem dX4_onionsFor_26 : decode cX4_onionsFor 26 = .ok (.iload_n 3, 1) := by decide +kernel
theorem dX4_onionsFor_27 : decode cX4_onionsFor 27 = .ok (.bipush 99, 2) := by decide +kernel
theorem dX4_onionsFor_29 : decode cX4_onionsFor 29 = .ok (.if_icmp .gt 49, 3) := by decide +kernel
theorem dX4_onionsFor_32 : decode cX4_onionsFor 32 = .ok (.aload_n 0, 1) := by decide +kernel
theorem dX4_onionsFor_33 : decode cX4_onionsFor 33 = .ok (.getfield 16, 3) := by decide +kernel
theorem dX4_onionsFor_36 : decode cX4_onionsFor 36 = .ok (.aload_n 0, 1) := by decide +kernel
theorem dX4_onionsFor_37 : decode cX4_onionsFor 37 = .ok (.getfield 10, 3) := by decide +kernel
theorem dX4_onionsFor_40 : decode cX4_onionsFor 40 = .ok (.invokevirtual 135, 3) := by decide +kernel
theorem dX4_onionsFor_43 : decode cX4_onionsFor 43 = .ok (.aload_n 0, 1) := by decide +kernel
theorem dX4_onionsFor_44 : decode cX4_onionsFor 44 = .ok (.getfield 16, 3) := by decide +kernel
theorem dX4_onionsFor_47 : decode cX4_onionsFor 47 = .ok (.iload_n 3, 1) := by decide +kernel
theorem dX4_onionsFor_48 : decode cX4_onionsFor 48 = .ok (.putfield 55, 3) := by decide +kernel
theorem dX4_onionsFor_51 : decode cX4_onionsFor 51 = .ok (.aload_n 0, 1) := by decide +kernel
theorem dX4_onionsFor_52 : decode cX4_onionsFor 52 = .ok (.getfield 16, 3) := by decide +kernel
theorem dX4_onionsFor_55 : decode cX4_onionsFor 55 = .ok (.iload_n 2, 1) := by decide +kernel
theorem dX4_onionsFor_56 : decode cX4_onionsFor 56 = .ok (.invokevirtual 113, 3) := by decide +kernel
theorem dX4_onionsFor_59 : decode cX4_onionsFor 59 = .ok (.aload_n 0, 1) := by decide +kernel
theorem dX4_onionsFor_60 : decode cX4_onionsFor 60 = .ok (.getfield 16, 3) := by decide +kernel
theorem dX4_onionsFor_63 : decode cX4_onionsFor 63 = .ok (.getfield 117, 3) := by decide +kernel
theorem dX4_onionsFor_66 : decode cX4_onionsFor 66 = .ok (.iload_n 1, 1) := by decide +kernel
theorem dX4_onionsFor_67 : decode cX4_onionsFor 67 = .ok (.if_icmp .lt 5, 3) := by decide +kernel
theorem dX4_onionsFor_70 : decode cX4_onionsFor 70 = .ok (.iload_n 3, 1) := by decide +kernel
theorem dX4_onionsFor_71 : decode cX4_onionsFor 71 = .ok (.ireturn, 1) := by decide +kernel
theorem dX4_onionsFor_72 : decode cX4_onionsFor 72 = .ok (.iinc 3 1, 3) := by decide +kernel
theorem dX4_onionsFor_75 : decode cX4_onionsFor 75 = .ok (.goto (-49), 3) := by decide +kernel
theorem dX4_onionsFor_78 : decode cX4_onionsFor 78 = .ok (.aload_n 0, 1) := by decide +kernel
theorem dX4_onionsFor_79 : decode cX4_onionsFor 79 = .ok (.iconst 3, 1) := by decide +kernel
theorem dX4_onionsFor_80 : decode cX4_onionsFor 80 = .ok (.invokevirtual 48, 3) := by decide +kernel
theorem dX4_onionsFor_83 : decode cX4_onionsFor 83 = .ok (.ireturn, 1) := by decide +kernel
theorem dX4_stayIn_0 : decode cX4_stayIn 0 = .ok (.iload_n 1, 1) := by decide +kernel
theorem dX4_stayIn_1 : decode cX4_stayIn 1 = .ok (.bipush 7, 2) := by decide +kernel
theorem dX4_stayIn_3 : decode cX4_stayIn 3 = .ok (.invokestatic 44, 3) := by decide +kernel
theorem dX4_stayIn_6 : decode cX4_stayIn 6 = .ok (.ifCond .eq 12, 3) := by decide +kernel
theorem dX4_stayIn_9 : decode cX4_stayIn 9 = .ok (.iload_n 2, 1) := by decide +kernel
theorem dX4_stayIn_10 : decode cX4_stayIn 10 = .ok (.bipush 20, 2) := by decide +kernel
theorem dX4_stayIn_12 : decode cX4_stayIn 12 = .ok (.invokestatic 44, 3) := by decide +kernel
theorem dX4_stayIn_15 : decode cX4_stayIn 15 = .ok (.ifCond .ne 9, 3) := by decide +kernel
theorem dX4_stayIn_18 : decode cX4_stayIn 18 = .ok (.aload_n 0, 1) := by decide +kernel
theorem dX4_stayIn_19 : decode cX4_stayIn 19 = .ok (.iconst 0, 1) := by decide +kernel
theorem dX4_stayIn_20 : decode cX4_stayIn 20 = .ok (.invokevirtual 48, 3) := by decide +kernel
theorem dX4_stayIn_23 : decode cX4_stayIn 23 = .ok (.ireturn, 1) := by decide +kernel
theorem dX4_stayIn_24 : decode cX4_stayIn 24 = .ok (.iconst 1, 1) := by decide +kernel
theorem dX4_stayIn_25 : decode cX4_stayIn 25 = .ok (.aload_n 0, 1) := by decide +kernel
theorem dX4_stayIn_26 : decode cX4_stayIn 26 = .ok (.getfield 10, 3) := by decide +kernel
theorem dX4_stayIn_29 : decode cX4_stayIn 29 = .ok (.getfield 160, 3) := by decide +kernel
theorem dX4_stayIn_32 : decode cX4_stayIn 32 = .ok (.ishl, 1) := by decide +kernel
theorem dX4_stayIn_33 : decode cX4_stayIn 33 = .ok (.istore_n 3, 1) := by decide +kernel
theorem dX4_stayIn_34 : decode cX4_stayIn 34 = .ok (.iconst 0, 1) := by decide +kernel
theorem dX4_stayIn_35 : decode cX4_stayIn 35 = .ok (.istore 4, 2) := by decide +kernel
theorem dX4_stayIn_37 : decode cX4_stayIn 37 = .ok (.iload 4, 2) := by decide +kernel
theorem dX4_stayIn_39 : decode cX4_stayIn 39 = .ok (.aload_n 0, 1) := by decide +kernel
theorem dX4_stayIn_40 : decode cX4_stayIn 40 = .ok (.getfield 10, 3) := by decide +kernel
theorem dX4_stayIn_43 : decode cX4_stayIn 43 = .ok (.getfield 160, 3) := by decide +kernel
theorem dX4_stayIn_46 : decode cX4_stayIn 46 = .ok (.if_icmp .gt 48, 3) := by decide +kernel
theorem dX4_stayIn_49 : decode cX4_stayIn 49 = .ok (.iconst 0, 1) := by decide +kernel
theorem dX4_stayIn_50 : decode cX4_stayIn 50 = .ok (.istore 5, 2) := by decide +kernel
theorem dX4_stayIn_52 : decode cX4_stayIn 52 = .ok (.iload 5, 2) := by decide +kernel
theorem dX4_stayIn_54 : decode cX4_stayIn 54 = .ok (.iload_n 3, 1) := by decide +kernel
theorem dX4_stayIn_55 : decode cX4_stayIn 55 = .ok (.if_icmp .ge 33, 3) := by decide +kernel
theorem dX4_stayIn_58 : decode cX4_stayIn 58 = .ok (.iload 5, 2) := by decide +kernel
theorem dX4_stayIn_60 : decode cX4_stayIn 60 = .ok (.invokestatic 163, 3) := by decide +kernel
theorem dX4_stayIn_63 : decode cX4_stayIn 63 = .ok (.iload 4, 2) := by decide +kernel
theorem dX4_stayIn_65 : decode cX4_stayIn 65 = .ok (.if_icmp .ne 17, 3) := by decide +kernel
theorem dX4_stayIn_68 : decode cX4_stayIn 68 = .ok (.aload_n 0, 1) := by decide +kernel
theorem dX4_stayIn_69 : decode cX4_stayIn 69 = .ok (.iload 5, 2) := by decide +kernel
theorem dX4_stayIn_71 : decode cX4_stayIn 71 = .ok (.iload_n 1, 1) := by decide +kernel
theorem dX4_stayIn_72 : decode cX4_stayIn 72 = .ok (.iload_n 2, 1) := by decide +kernel
theorem dX4_stayIn_73 : decode cX4_stayIn 73 = .ok (.invokevirtual 168, 3) := by decide +kernel
theorem dX4_stayIn_76 : decode cX4_stayIn 76 = .ok (.ifCond .eq 6, 3) := by decide +kernel
theorem dX4_stayIn_79 : decode cX4_stayIn 79 = .ok (.iload 5, 2) := by decide +kernel
theorem dX4_stayIn_81 : decode cX4_stayIn 81 = .ok (.ireturn, 1) := by decide +kernel
theorem dX4_stayIn_82 : decode cX4_stayIn 82 = .ok (.iinc 5 1, 3) := by decide +kernel
theorem dX4_stayIn_85 : decode cX4_stayIn 85 = .ok (.goto (-33), 3) := by decide +kernel
theorem dX4_stayIn_88 : decode cX4_stayIn 88 = .ok (.iinc 4 1, 3) := by decide +kernel
theorem dX4_stayIn_91 : decode cX4_stayIn 91 = .ok (.goto (-54), 3) := by decide +kernel
theorem dX4_stayIn_94 : decode cX4_stayIn 94 = .ok (.aload_n 0, 1) := by decide +kernel
theorem dX4_stayIn_95 : decode cX4_stayIn 95 = .ok (.iconst 3, 1) := by decide +kernel
theorem dX4_stayIn_96 : decode cX4_stayIn 96 = .ok (.invokevirtual 48, 3) := by decide +kernel
theorem dX4_stayIn_99 : decode cX4_stayIn 99 = .ok (.ireturn, 1) := by decide +kernel
theorem dX4_isAvoidedBy_0 : decode cX4_isAvoidedBy 0 = .ok (.aload_n 0, 1) := by decide +kernel
theorem dX4_isAvoidedBy_1 : decode cX4_isAvoidedBy 1 = .ok (.getfield 16, 3) := by decide +kernel
theorem dX4_isAvoidedBy_4 : decode cX4_isAvoidedBy 4 = .ok (.aload_n 0, 1) := by decide +kernel
theorem dX4_isAvoidedBy_5 : decode cX4_isAvoidedBy 5 = .ok (.getfield 10, 3) := by decide +kernel
theorem dX4_isAvoidedBy_8 : decode cX4_isAvoidedBy 8 = .ok (.invokevirtual 135, 3) := by decide +kernel
theorem dX4_isAvoidedBy_11 : decode cX4_isAvoidedBy 11 = .ok (.aload_n 0, 1) := by decide +kernel
theorem dX4_isAvoidedBy_12 : decode cX4_isAvoidedBy 12 = .ok (.getfield 16, 3) := by decide +kernel
theorem dX4_isAvoidedBy_15 : decode cX4_isAvoidedBy 15 = .ok (.iload_n 1, 1) := by decide +kernel
theorem dX4_isAvoidedBy_16 : decode cX4_isAvoidedBy 16 = .ok (.invokevirtual 172, 3) := by decide +kernel
theorem dX4_isAvoidedBy_19 : decode cX4_isAvoidedBy 19 = .ok (.aload_n 0, 1) := by decide +kernel
theorem dX4_isAvoidedBy_20 : decode cX4_isAvoidedBy 20 = .ok (.getfield 16, 3) := by decide +kernel
theorem dX4_isAvoidedBy_23 : decode cX4_isAvoidedBy 23 = .ok (.iload_n 3, 1) := by decide +kernel
theorem dX4_isAvoidedBy_24 : decode cX4_isAvoidedBy 24 = .ok (.invokevirtual 113, 3) := by decide +kernel
theorem dX4_isAvoidedBy_27 : decode cX4_isAvoidedBy 27 = .ok (.aload_n 0, 1) := by decide +kernel
theorem dX4_isAvoidedBy_28 : decode cX4_isAvoidedBy 28 = .ok (.getfield 16, 3) := by decide +kernel
theorem dX4_isAvoidedBy_31 : decode cX4_isAvoidedBy 31 = .ok (.invokevirtual 126, 3) := by decide +kernel
theorem dX4_isAvoidedBy_34 : decode cX4_isAvoidedBy 34 = .ok (.iload_n 2, 1) := by decide +kernel
theorem dX4_isAvoidedBy_35 : decode cX4_isAvoidedBy 35 = .ok (.ishr, 1) := by decide +kernel
theorem dX4_isAvoidedBy_36 : decode cX4_isAvoidedBy 36 = .ok (.iconst 1, 1) := by decide +kernel
theorem dX4_isAvoidedBy_37 : decode cX4_isAvoidedBy 37 = .ok (.iand, 1) := by decide +kernel
theorem dX4_isAvoidedBy_38 : decode cX4_isAvoidedBy 38 = .ok (.ifCond .ne 7, 3) := by decide +kernel
theorem dX4_isAvoidedBy_41 : decode cX4_isAvoidedBy 41 = .ok (.iconst 1, 1) := by decide +kernel
theorem dX4_isAvoidedBy_42 : decode cX4_isAvoidedBy 42 = .ok (.goto 4, 3) := by decide +kernel
theorem dX4_isAvoidedBy_45 : decode cX4_isAvoidedBy 45 = .ok (.iconst 0, 1) := by decide +kernel
theorem dX4_isAvoidedBy_46 : decode cX4_isAvoidedBy 46 = .ok (.ireturn, 1) := by decide +kernel
theorem dX4_fits_0 : decode cX4_fits 0 = .ok (.aload_n 0, 1) := by decide +kernel
theorem dX4_fits_1 : decode cX4_fits 1 = .ok (.iload_n 1, 1) := by decide +kernel
theorem dX4_fits_2 : decode cX4_fits 2 = .ok (.iload_n 2, 1) := by decide +kernel
theorem dX4_fits_3 : decode cX4_fits 3 = .ok (.invokevirtual 175, 3) := by decide +kernel
theorem dX4_fits_6 : decode cX4_fits 6 = .ok (.istore_n 3, 1) := by decide +kernel
theorem dX4_fits_7 : decode cX4_fits 7 = .ok (.iload_n 3, 1) := by decide +kernel
theorem dX4_fits_8 : decode cX4_fits 8 = .ok (.iconst (-1), 1) := by decide +kernel
theorem dX4_fits_9 : decode cX4_fits 9 = .ok (.if_icmp .eq 9, 3) := by decide +kernel
theorem dX4_fits_12 : decode cX4_fits 12 = .ok (.aload_n 0, 1) := by decide +kernel
theorem dX4_fits_13 : decode cX4_fits 13 = .ok (.iload_n 3, 1) := by decide +kernel
theorem dX4_fits_14 : decode cX4_fits 14 = .ok (.invokevirtual 48, 3) := by decide +kernel
theorem dX4_fits_17 : decode cX4_fits 17 = .ok (.ireturn, 1) := by decide +kernel
theorem dX4_fits_18 : decode cX4_fits 18 = .ok (.iconst 0, 1) := by decide +kernel
theorem dX4_fits_19 : decode cX4_fits 19 = .ok (.istore 4, 2) := by decide +kernel
theorem dX4_fits_21 : decode cX4_fits 21 = .ok (.iconst 0, 1) := by decide +kernel
theorem dX4_fits_22 : decode cX4_fits 22 = .ok (.istore 5, 2) := by decide +kernel
theorem dX4_fits_24 : decode cX4_fits 24 = .ok (.iload 5, 2) := by decide +kernel
theorem dX4_fits_26 : decode cX4_fits 26 = .ok (.bipush 99, 2) := by decide +kernel
theorem dX4_fits_28 : decode cX4_fits 28 = .ok (.if_icmp .gt 29, 3) := by decide +kernel
theorem dX4_fits_31 : decode cX4_fits 31 = .ok (.aload_n 0, 1) := by decide +kernel
theorem dX4_fits_32 : decode cX4_fits 32 = .ok (.aload_n 0, 1) := by decide +kernel
theorem dX4_fits_33 : decode cX4_fits 33 = .ok (.getfield 28, 3) := by decide +kernel
theorem dX4_fits_36 : decode cX4_fits 36 = .ok (.iload_n 1, 1) := by decide +kernel
theorem dX4_fits_37 : decode cX4_fits 37 = .ok (.aaload, 1) := by decide +kernel
theorem dX4_fits_38 : decode cX4_fits 38 = .ok (.iload_n 2, 1) := by decide +kernel
theorem dX4_fits_39 : decode cX4_fits 39 = .ok (.iconst 1, 1) := by decide +kernel
theorem dX4_fits_40 : decode cX4_fits 40 = .ok (.iload 5, 2) := by decide +kernel
theorem dX4_fits_42 : decode cX4_fits 42 = .ok (.invokevirtual 178, 3) := by decide +kernel
theorem dX4_fits_45 : decode cX4_fits 45 = .ok (.ifCond .eq 6, 3) := by decide +kernel
theorem dX4_fits_48 : decode cX4_fits 48 = .ok (.iinc 4 1, 3) := by decide +kernel
theorem dX4_fits_51 : decode cX4_fits 51 = .ok (.iinc 5 1, 3) := by decide +kernel
theorem dX4_fits_54 : decode cX4_fits 54 = .ok (.goto (-30), 3) := by decide +kernel
theorem dX4_fits_57 : decode cX4_fits 57 = .ok (.iload 4, 2) := by decide +kernel
theorem dX4_fits_59 : decode cX4_fits 59 = .ok (.ireturn, 1) := by decide +kernel
theorem dX4_grief_0 : decode cX4_grief 0 = .ok (.aload_n 0, 1) := by decide +kernel
theorem dX4_grief_1 : decode cX4_grief 1 = .ok (.iload_n 1, 1) := by decide +kernel
theorem dX4_grief_2 : decode cX4_grief 2 = .ok (.iload_n 2, 1) := by decide +kernel
theorem dX4_grief_3 : decode cX4_grief 3 = .ok (.invokevirtual 175, 3) := by decide +kernel
theorem dX4_grief_6 : decode cX4_grief 6 = .ok (.istore_n 3, 1) := by decide +kernel
theorem dX4_grief_7 : decode cX4_grief 7 = .ok (.iload_n 3, 1) := by decide +kernel
theorem dX4_grief_8 : decode cX4_grief 8 = .ok (.iconst (-1), 1) := by decide +kernel
theorem dX4_grief_9 : decode cX4_grief 9 = .ok (.if_icmp .eq 9, 3) := by decide +kernel
theorem dX4_grief_12 : decode cX4_grief 12 = .ok (.aload_n 0, 1) := by decide +kernel
theorem dX4_grief_13 : decode cX4_grief 13 = .ok (.iload_n 3, 1) := by decide +kernel
theorem dX4_grief_14 : decode cX4_grief 14 = .ok (.invokevirtual 48, 3) := by decide +kernel
theorem dX4_grief_17 : decode cX4_grief 17 = .ok (.ireturn, 1) := by decide +kernel
theorem dX4_grief_18 : decode cX4_grief 18 = .ok (.iconst 0, 1) := by decide +kernel
theorem dX4_grief_19 : decode cX4_grief 19 = .ok (.istore 4, 2) := by decide +kernel
theorem dX4_grief_21 : decode cX4_grief 21 = .ok (.iload 4, 2) := by decide +kernel
theorem dX4_grief_23 : decode cX4_grief 23 = .ok (.bipush 99, 2) := by decide +kernel
theorem dX4_grief_25 : decode cX4_grief 25 = .ok (.if_icmp .gt 29, 3) := by decide +kernel
theorem dX4_grief_28 : decode cX4_grief 28 = .ok (.aload_n 0, 1) := by decide +kernel
theorem dX4_grief_29 : decode cX4_grief 29 = .ok (.aload_n 0, 1) := by decide +kernel
theorem dX4_grief_30 : decode cX4_grief 30 = .ok (.getfield 28, 3) := by decide +kernel
theorem dX4_grief_33 : decode cX4_grief 33 = .ok (.iload_n 1, 1) := by decide +kernel
theorem dX4_grief_34 : decode cX4_grief 34 = .ok (.aaload, 1) := by decide +kernel
theorem dX4_grief_35 : decode cX4_grief 35 = .ok (.iload_n 2, 1) := by decide +kernel
theorem dX4_grief_36 : decode cX4_grief 36 = .ok (.iconst 1, 1) := by decide +kernel
theorem dX4_grief_37 : decode cX4_grief 37 = .ok (.iload 4, 2) := by decide +kernel
theorem dX4_grief_39 : decode cX4_grief 39 = .ok (.invokevirtual 178, 3) := by decide +kernel
theorem dX4_grief_42 : decode cX4_grief 42 = .ok (.ifCond .eq 6, 3) := by decide +kernel
theorem dX4_grief_45 : decode cX4_grief 45 = .ok (.iload 4, 2) := by decide +kernel
theorem dX4_grief_47 : decode cX4_grief 47 = .ok (.ireturn, 1) := by decide +kernel
theorem dX4_grief_48 : decode cX4_grief 48 = .ok (.iinc 4 1, 3) := by decide +kernel
theorem dX4_grief_51 : decode cX4_grief 51 = .ok (.goto (-30), 3) := by decide +kernel
theorem dX4_grief_54 : decode cX4_grief 54 = .ok (.aload_n 0, 1) := by decide +kernel
theorem dX4_grief_55 : decode cX4_grief 55 = .ok (.iconst 3, 1) := by decide +kernel
theorem dX4_grief_56 : decode cX4_grief 56 = .ok (.invokevirtual 48, 3) := by decide +kernel
theorem dX4_grief_59 : decode cX4_grief 59 = .ok (.ireturn, 1) := by decide +kernel
theorem dX4_kinds_0 : decode cX4_kinds 0 = .ok (.aload_n 0, 1) := by decide +kernel
theorem dX4_kinds_1 : decode cX4_kinds 1 = .ok (.iload_n 1, 1) := by decide +kernel
theorem dX4_kinds_2 : decode cX4_kinds 2 = .ok (.iload_n 2, 1) := by decide +kernel
theorem dX4_kinds_3 : decode cX4_kinds 3 = .ok (.invokevirtual 175, 3) := by decide +kernel
theorem dX4_kinds_6 : decode cX4_kinds 6 = .ok (.istore_n 3, 1) := by decide +kernel
theorem dX4_kinds_7 : decode cX4_kinds 7 = .ok (.iload_n 3, 1) := by decide +kernel
theorem dX4_kinds_8 : decode cX4_kinds 8 = .ok (.iconst (-1), 1) := by decide +kernel
theorem dX4_kinds_9 : decode cX4_kinds 9 = .ok (.if_icmp .eq 9, 3) := by decide +kernel
theorem dX4_kinds_12 : decode cX4_kinds 12 = .ok (.aload_n 0, 1) := by decide +kernel
theorem dX4_kinds_13 : decode cX4_kinds 13 = .ok (.iload_n 3, 1) := by decide +kernel
theorem dX4_kinds_14 : decode cX4_kinds 14 = .ok (.invokevirtual 48, 3) := by decide +kernel
theorem dX4_kinds_17 : decode cX4_kinds 17 = .ok (.ireturn, 1) := by decide +kernel
theorem dX4_kinds_18 : decode cX4_kinds 18 = .ok (.iconst 0, 1) := by decide +kernel
theorem dX4_kinds_19 : decode cX4_kinds 19 = .ok (.istore 4, 2) := by decide +kernel
theorem dX4_kinds_21 : decode cX4_kinds 21 = .ok (.iconst 0, 1) := by decide +kernel
theorem dX4_kinds_22 : decode cX4_kinds 22 = .ok (.istore 5, 2) := by decide +kernel
theorem dX4_kinds_24 : decode cX4_kinds 24 = .ok (.iload 5, 2) := by decide +kernel
theorem dX4_kinds_26 : decode cX4_kinds 26 = .ok (.bipush 7, 2) := by decide +kernel
theorem dX4_kinds_28 : decode cX4_kinds 28 = .ok (.if_icmp .ge 35, 3) := by decide +kernel
theorem dX4_kinds_31 : decode cX4_kinds 31 = .ok (.aload_n 0, 1) := by decide +kernel
theorem dX4_kinds_32 : decode cX4_kinds 32 = .ok (.aload_n 0, 1) := by decide +kernel
theorem dX4_kinds_33 : decode cX4_kinds 33 = .ok (.getfield 28, 3) := by decide +kernel
theorem dX4_kinds_36 : decode cX4_kinds 36 = .ok (.iload_n 1, 1) := by decide +kernel
theorem dX4_kinds_37 : decode cX4_kinds 37 = .ok (.aaload, 1) := by decide +kernel
theorem dX4_kinds_38 : decode cX4_kinds 38 = .ok (.iload_n 2, 1) := by decide +kernel
theorem dX4_kinds_39 : decode cX4_kinds 39 = .ok (.iconst 0, 1) := by decide +kernel
theorem dX4_kinds_40 : decode cX4_kinds 40 = .ok (.iload 5, 2) := by decide +kernel
theorem dX4_kinds_42 : decode cX4_kinds 42 = .ok (.invokevirtual 178, 3) := by decide +kernel
theorem dX4_kinds_45 : decode cX4_kinds 45 = .ok (.ifCond .eq 12, 3) := by decide +kernel
theorem dX4_kinds_48 : decode cX4_kinds 48 = .ok (.iload 4, 2) := by decide +kernel
theorem dX4_kinds_50 : decode cX4_kinds 50 = .ok (.iconst 1, 1) := by decide +kernel
theorem dX4_kinds_51 : decode cX4_kinds 51 = .ok (.iload 5, 2) := by decide +kernel
theorem dX4_kinds_53 : decode cX4_kinds 53 = .ok (.ishl, 1) := by decide +kernel
theorem dX4_kinds_54 : decode cX4_kinds 54 = .ok (.ior, 1) := by decide +kernel
theorem dX4_kinds_55 : decode cX4_kinds 55 = .ok (.istore 4, 2) := by decide +kernel
theorem dX4_kinds_57 : decode cX4_kinds 57 = .ok (.iinc 5 1, 3) := by decide +kernel
theorem dX4_kinds_60 : decode cX4_kinds 60 = .ok (.goto (-36), 3) := by decide +kernel
theorem dX4_kinds_63 : decode cX4_kinds 63 = .ok (.iload 4, 2) := by decide +kernel
theorem dX4_kinds_65 : decode cX4_kinds 65 = .ok (.ireturn, 1) := by decide +kernel
theorem dX4_toldFault_0 : decode cX4_toldFault 0 = .ok (.aload_n 0, 1) := by decide +kernel
theorem dX4_toldFault_1 : decode cX4_toldFault 1 = .ok (.iload_n 1, 1) := by decide +kernel
theorem dX4_toldFault_2 : decode cX4_toldFault 2 = .ok (.invokevirtual 182, 3) := by decide +kernel
theorem dX4_toldFault_5 : decode cX4_toldFault 5 = .ok (.istore_n 3, 1) := by decide +kernel
theorem dX4_toldFault_6 : decode cX4_toldFault 6 = .ok (.iload_n 3, 1) := by decide +kernel
theorem dX4_toldFault_7 : decode cX4_toldFault 7 = .ok (.iconst (-1), 1) := by decide +kernel
theorem dX4_toldFault_8 : decode cX4_toldFault 8 = .ok (.if_icmp .eq 5, 3) := by decide +kernel
theorem dX4_toldFault_11 : decode cX4_toldFault 11 = .ok (.iload_n 3, 1) := by decide +kernel
theorem dX4_toldFault_12 : decode cX4_toldFault 12 = .ok (.ireturn, 1) := by decide +kernel
theorem dX4_toldFault_13 : decode cX4_toldFault 13 = .ok (.aload_n 0, 1) := by decide +kernel
theorem dX4_toldFault_14 : decode cX4_toldFault 14 = .ok (.iload_n 2, 1) := by decide +kernel
theorem dX4_toldFault_15 : decode cX4_toldFault 15 = .ok (.invokevirtual 67, 3) := by decide +kernel
theorem dX4_toldFault_18 : decode cX4_toldFault 18 = .ok (.ifCond .eq 7, 3) := by decide +kernel
theorem dX4_toldFault_21 : decode cX4_toldFault 21 = .ok (.iconst (-1), 1) := by decide +kernel
theorem dX4_toldFault_22 : decode cX4_toldFault 22 = .ok (.goto 4, 3) := by decide +kernel
theorem dX4_toldFault_25 : decode cX4_toldFault 25 = .ok (.iconst 0, 1) := by decide +kernel
theorem dX4_toldFault_26 : decode cX4_toldFault 26 = .ok (.ireturn, 1) := by decide +kernel
theorem dX4_isAsTold_0 : decode cX4_isAsTold 0 = .ok (.aload_n 0, 1) := by decide +kernel
theorem dX4_isAsTold_1 : decode cX4_isAsTold 1 = .ok (.getfield 16, 3) := by decide +kernel
theorem dX4_isAsTold_4 : decode cX4_isAsTold 4 = .ok (.aload_n 0, 1) := by decide +kernel
theorem dX4_isAsTold_5 : decode cX4_isAsTold 5 = .ok (.getfield 10, 3) := by decide +kernel
theorem dX4_isAsTold_8 : decode cX4_isAsTold 8 = .ok (.invokevirtual 135, 3) := by decide +kernel
theorem dX4_isAsTold_11 : decode cX4_isAsTold 11 = .ok (.aload_n 0, 1) := by decide +kernel
theorem dX4_isAsTold_12 : decode cX4_isAsTold 12 = .ok (.getfield 16, 3) := by decide +kernel
theorem dX4_isAsTold_15 : decode cX4_isAsTold 15 = .ok (.getfield 71, 3) := by decide +kernel
theorem dX4_isAsTold_18 : decode cX4_isAsTold 18 = .ok (.iload_n 2, 1) := by decide +kernel
theorem dX4_isAsTold_19 : decode cX4_isAsTold 19 = .ok (.aaload, 1) := by decide +kernel
theorem dX4_isAsTold_20 : decode cX4_isAsTold 20 = .ok (.iload_n 3, 1) := by decide +kernel
theorem dX4_isAsTold_21 : decode cX4_isAsTold 21 = .ok (.iload 4, 2) := by decide +kernel
theorem dX4_isAsTold_23 : decode cX4_isAsTold 23 = .ok (.invokevirtual 105, 3) := by decide +kernel
theorem dX4_isAsTold_26 : decode cX4_isAsTold 26 = .ok (.aload_n 1, 1) := by decide +kernel
theorem dX4_isAsTold_27 : decode cX4_isAsTold 27 = .ok (.getfield 185, 3) := by decide +kernel
theorem dX4_isAsTold_30 : decode cX4_isAsTold 30 = .ok (.bipush 10, 2) := by decide +kernel
theorem dX4_isAsTold_32 : decode cX4_isAsTold 32 = .ok (.invokestatic 188, 3) := by decide +kernel
theorem dX4_isAsTold_35 : decode cX4_isAsTold 35 = .ok (.istore 5, 2) := by decide +kernel
theorem dX4_isAsTold_37 : decode cX4_isAsTold 37 = .ok (.iconst 0, 1) := by decide +kernel
theorem dX4_isAsTold_38 : decode cX4_isAsTold 38 = .ok (.istore 6, 2) := by decide +kernel
theorem dX4_isAsTold_40 : decode cX4_isAsTold 40 = .ok (.iload 6, 2) := by decide +kernel
theorem dX4_isAsTold_42 : decode cX4_isAsTold 42 = .ok (.iload 5, 2) := by decide +kernel
theorem dX4_isAsTold_44 : decode cX4_isAsTold 44 = .ok (.if_icmp .ge 57, 3) := by decide +kernel
theorem dX4_isAsTold_47 : decode cX4_isAsTold 47 = .ok (.iload 6, 2) := by decide +kernel
theorem dX4_isAsTold_49 : decode cX4_isAsTold 49 = .ok (.ifCond .le 12, 3) := by decide +kernel
theorem dX4_isAsTold_52 : decode cX4_isAsTold 52 = .ok (.aload_n 0, 1) := by decide +kernel
theorem dX4_isAsTold_53 : decode cX4_isAsTold 53 = .ok (.getfield 16, 3) := by decide +kernel
theorem dX4_isAsTold_56 : decode cX4_isAsTold 56 = .ok (.bipush 7, 2) := by decide +kernel
theorem dX4_isAsTold_58 : decode cX4_isAsTold 58 = .ok (.invokevirtual 113, 3) := by decide +kernel
theorem dX4_isAsTold_61 : decode cX4_isAsTold 61 = .ok (.aload_n 1, 1) := by decide +kernel
theorem dX4_isAsTold_62 : decode cX4_isAsTold 62 = .ok (.getfield 193, 3) := by decide +kernel
theorem dX4_isAsTold_65 : decode cX4_isAsTold 65 = .ok (.iload 6, 2) := by decide +kernel
theorem dX4_isAsTold_67 : decode cX4_isAsTold 67 = .ok (.iaload, 1) := by decide +kernel
theorem dX4_isAsTold_68 : decode cX4_isAsTold 68 = .ok (.istore 7, 2) := by decide +kernel
theorem dX4_isAsTold_70 : decode cX4_isAsTold 70 = .ok (.iload 7, 2) := by decide +kernel
theorem dX4_isAsTold_72 : decode cX4_isAsTold 72 = .ok (.iconst (-1), 1) := by decide +kernel
theorem dX4_isAsTold_73 : decode cX4_isAsTold 73 = .ok (.if_icmp .eq 22, 3) := by decide +kernel
theorem dX4_isAsTold_76 : decode cX4_isAsTold 76 = .ok (.iload 7, 2) := by decide +kernel
theorem dX4_isAsTold_78 : decode cX4_isAsTold 78 = .ok (.aload_n 0, 1) := by decide +kernel
theorem dX4_isAsTold_79 : decode cX4_isAsTold 79 = .ok (.getfield 16, 3) := by decide +kernel
theorem dX4_isAsTold_82 : decode cX4_isAsTold 82 = .ok (.getfield 71, 3) := by decide +kernel
theorem dX4_isAsTold_85 : decode cX4_isAsTold 85 = .ok (.iload_n 2, 1) := by decide +kernel
theorem dX4_isAsTold_86 : decode cX4_isAsTold 86 = .ok (.aaload, 1) := by decide +kernel
theorem dX4_isAsTold_87 : decode cX4_isAsTold 87 = .ok (.getfield 196, 3) := by decide +kernel
theorem dX4_isAsTold_90 : decode cX4_isAsTold 90 = .ok (.if_icmp .eq 5, 3) := by decide +kernel
theorem dX4_isAsTold_93 : decode cX4_isAsTold 93 = .ok (.iconst 0, 1) := by decide +kernel
theorem dX4_isAsTold_94 : decode cX4_isAsTold 94 = .ok (.ireturn, 1) := by decide +kernel
theorem dX4_isAsTold_95 : decode cX4_isAsTold 95 = .ok (.iinc 6 1, 3) := by decide +kernel
theorem dX4_isAsTold_98 : decode cX4_isAsTold 98 = .ok (.goto (-58), 3) := by decide +kernel
theorem dX4_isAsTold_101 : decode cX4_isAsTold 101 = .ok (.iconst 1, 1) := by decide +kernel
theorem dX4_isAsTold_102 : decode cX4_isAsTold 102 = .ok (.ireturn, 1) := by decide +kernel
theorem dX4_storms_0 : decode cX4_storms 0 = .ok (.iload_n 1, 1) := by decide +kernel
theorem dX4_storms_1 : decode cX4_storms 1 = .ok (.iconst 1, 1) := by decide +kernel
theorem dX4_storms_2 : decode cX4_storms 2 = .ok (.if_icmp .lt 9, 3) := by decide +kernel
theorem dX4_storms_5 : decode cX4_storms 5 = .ok (.iload_n 1, 1) := by decide +kernel
theorem dX4_storms_6 : decode cX4_storms 6 = .ok (.bipush 20, 2) := by decide +kernel
theorem dX4_storms_8 : decode cX4_storms 8 = .ok (.if_icmp .le 9, 3) := by decide +kernel
theorem dX4_storms_11 : decode cX4_storms 11 = .ok (.aload_n 0, 1) := by decide +kernel
theorem dX4_storms_12 : decode cX4_storms 12 = .ok (.iconst 0, 1) := by decide +kernel
theorem dX4_storms_13 : decode cX4_storms 13 = .ok (.invokevirtual 48, 3) := by decide +kernel
theorem dX4_storms_16 : decode cX4_storms 16 = .ok (.ireturn, 1) := by decide +kernel
theorem dX4_storms_17 : decode cX4_storms 17 = .ok (.aload_n 0, 1) := by decide +kernel
theorem dX4_storms_18 : decode cX4_storms 18 = .ok (.getfield 10, 3) := by decide +kernel
theorem dX4_storms_21 : decode cX4_storms 21 = .ok (.getfield 109, 3) := by decide +kernel
theorem dX4_storms_24 : decode cX4_storms 24 = .ok (.ldc 112, 2) := by decide +kernel
theorem dX4_storms_26 : decode cX4_storms 26 = .ok (.iload_n 1, 1) := by decide +kernel
theorem dX4_storms_27 : decode cX4_storms 27 = .ok (.isub, 1) := by decide +kernel
theorem dX4_storms_28 : decode cX4_storms 28 = .ok (.if_icmp .le 9, 3) := by decide +kernel
theorem dX4_storms_31 : decode cX4_storms 31 = .ok (.aload_n 0, 1) := by decide +kernel
theorem dX4_storms_32 : decode cX4_storms 32 = .ok (.iconst 4, 1) := by decide +kernel
theorem dX4_storms_33 : decode cX4_storms 33 = .ok (.invokevirtual 48, 3) := by decide +kernel
theorem dX4_storms_36 : decode cX4_storms 36 = .ok (.ireturn, 1) := by decide +kernel
theorem dX4_storms_37 : decode cX4_storms 37 = .ok (.iconst 0, 1) := by decide +kernel
theorem dX4_storms_38 : decode cX4_storms 38 = .ok (.istore_n 2, 1) := by decide +kernel
theorem dX4_storms_39 : decode cX4_storms 39 = .ok (.iload_n 2, 1) := by decide +kernel
theorem dX4_storms_40 : decode cX4_storms 40 = .ok (.iload_n 1, 1) := by decide +kernel
theorem dX4_storms_41 : decode cX4_storms 41 = .ok (.if_icmp .ge 16, 3) := by decide +kernel
theorem dX4_storms_44 : decode cX4_storms 44 = .ok (.aload_n 0, 1) := by decide +kernel
theorem dX4_storms_45 : decode cX4_storms 45 = .ok (.getfield 10, 3) := by decide +kernel
theorem dX4_storms_48 : decode cX4_storms 48 = .ok (.invokevirtual 199, 3) := by decide +kernel
theorem dX4_storms_51 : decode cX4_storms 51 = .ok (.iinc 2 1, 3) := by decide +kernel
theorem dX4_storms_54 : decode cX4_storms 54 = .ok (.goto (-15), 3) := by decide +kernel
theorem dX4_storms_57 : decode cX4_storms 57 = .ok (.aload_n 0, 1) := by decide +kernel
theorem dX4_storms_58 : decode cX4_storms 58 = .ok (.getfield 10, 3) := by decide +kernel
theorem dX4_storms_61 : decode cX4_storms 61 = .ok (.getfield 117, 3) := by decide +kernel
theorem dX4_storms_64 : decode cX4_storms 64 = .ok (.ireturn, 1) := by decide +kernel
theorem dX4_odds_0 : decode cX4_odds 0 = .ok (.aload_n 0, 1) := by decide +kernel
theorem dX4_odds_1 : decode cX4_odds 1 = .ok (.iload_n 1, 1) := by decide +kernel
theorem dX4_odds_2 : decode cX4_odds 2 = .ok (.invokevirtual 67, 3) := by decide +kernel
theorem dX4_odds_5 : decode cX4_odds 5 = .ok (.ifCond .eq 20, 3) := by decide +kernel
theorem dX4_odds_8 : decode cX4_odds 8 = .ok (.iload_n 2, 1) := by decide +kernel
theorem dX4_odds_9 : decode cX4_odds 9 = .ok (.bipush 9, 2) := by decide +kernel
theorem dX4_odds_11 : decode cX4_odds 11 = .ok (.invokestatic 44, 3) := by decide +kernel
theorem dX4_odds_14 : decode cX4_odds 14 = .ok (.ifCond .eq 11, 3) := by decide +kernel
theorem dX4_odds_17 : decode cX4_odds 17 = .ok (.iload_n 3, 1) := by decide +kernel
theorem dX4_odds_18 : decode cX4_odds 18 = .ok (.iconst 1, 1) := by decide +kernel
theorem dX4_odds_19 : decode cX4_odds 19 = .ok (.invokestatic 44, 3) := by decide +kernel
theorem dX4_odds_22 : decode cX4_odds 22 = .ok (.ifCond .ne 10, 3) := by decide +kernel
theorem dX4_odds_25 : decode cX4_odds 25 = .ok (.aload_n 0, 1) := by decide +kernel
theorem dX4_odds_26 : decode cX4_odds 26 = .ok (.iconst 0, 1) := by decide +kernel
theorem dX4_odds_27 : decode cX4_odds 27 = .ok (.invokevirtual 48, 3) := by decide +kernel
theorem dX4_odds_30 : decode cX4_odds 30 = .ok (.i2l, 1) := by decide +kernel
theorem dX4_odds_31 : decode cX4_odds 31 = .ok (.lreturn, 1) := by decide +kernel
theorem dX4_odds_32 : decode cX4_odds 32 = .ok (.aload_n 0, 1) := by decide +kernel
theorem dX4_odds_33 : decode cX4_odds 33 = .ok (.getfield 10, 3) := by decide +kernel
theorem dX4_odds_36 : decode cX4_odds 36 = .ok (.aload_n 0, 1) := by decide +kernel
theorem dX4_odds_37 : decode cX4_odds 37 = .ok (.getfield 10, 3) := by decide +kernel
theorem dX4_odds_40 : decode cX4_odds 40 = .ok (.getfield 71, 3) := by decide +kernel
theorem dX4_odds_43 : decode cX4_odds 43 = .ok (.iload_n 1, 1) := by decide +kernel
theorem dX4_odds_44 : decode cX4_odds 44 = .ok (.aaload, 1) := by decide +kernel
theorem dX4_odds_45 : decode cX4_odds 45 = .ok (.invokevirtual 202, 3) := by decide +kernel
theorem dX4_odds_48 : decode cX4_odds 48 = .ok (.istore 4, 2) := by decide +kernel
theorem dX4_odds_50 : decode cX4_odds 50 = .ok (.iload_n 3, 1) := by decide +kernel
theorem dX4_odds_51 : decode cX4_odds 51 = .ok (.ifCond .ne 8, 3) := by decide +kernel
theorem dX4_odds_54 : decode cX4_odds 54 = .ok (.iload 4, 2) := by decide +kernel
theorem dX4_odds_56 : decode cX4_odds 56 = .ok (.goto 5, 3) := by decide +kernel
theorem dX4_odds_59 : decode cX4_odds 59 = .ok (.bipush 100, 2) := by decide +kernel
theorem dX4_odds_61 : decode cX4_odds 61 = .ok (.iload 4, 2) := by decide +kernel
theorem dX4_odds_63 : decode cX4_odds 63 = .ok (.invokestatic 206, 3) := by decide +kernel
theorem dX4_odds_66 : decode cX4_odds 66 = .ok (.i2l, 1) := by decide +kernel
theorem dX4_odds_67 : decode cX4_odds 67 = .ok (.lstore 5, 2) := by decide +kernel
theorem dX4_odds_69 : decode cX4_odds 69 = .ok (.lconst 1, 1) := by decide +kernel
theorem dX4_odds_70 : decode cX4_odds 70 = .ok (.lstore 7, 2) := by decide +kernel
theorem dX4_odds_72 : decode cX4_odds 72 = .ok (.iconst 0, 1) := by decide +kernel
theorem dX4_odds_73 : decode cX4_odds 73 = .ok (.istore 9, 2) := by decide +kernel
theorem dX4_odds_75 : decode cX4_odds 75 = .ok (.iload 9, 2) := by decide +kernel
theorem dX4_odds_77 : decode cX4_odds 77 = .ok (.iload_n 2, 1) := by decide +kernel
theorem dX4_odds_78 : decode cX4_odds 78 = .ok (.if_icmp .ge 16, 3) := by decide +kernel
theorem dX4_odds_81 : decode cX4_odds 81 = .ok (.lload 7, 2) := by decide +kernel
theorem dX4_odds_83 : decode cX4_odds 83 = .ok (.lload 5, 2) := by decide +kernel
theorem dX4_odds_85 : decode cX4_odds 85 = .ok (.lmul, 1) := by decide +kernel
theorem dX4_odds_86 : decode cX4_odds 86 = .ok (.lstore 7, 2) := by decide +kernel
theorem dX4_odds_88 : decode cX4_odds 88 = .ok (.iinc 9 1, 3) := by decide +kernel
theorem dX4_odds_91 : decode cX4_odds 91 = .ok (.goto (-16), 3) := by decide +kernel
theorem dX4_odds_94 : decode cX4_odds 94 = .ok (.lload 7, 2) := by decide +kernel
theorem dX4_odds_96 : decode cX4_odds 96 = .ok (.lreturn, 1) := by decide +kernel
theorem dX4_inLowestTerms_0 : decode cX4_inLowestTerms 0 = .ok (.bipush 100, 2) := by decide +kernel
theorem dX4_inLowestTerms_2 : decode cX4_inLowestTerms 2 = .ok (.istore_n 2, 1) := by decide +kernel
theorem dX4_inLowestTerms_3 : decode cX4_inLowestTerms 3 = .ok (.iload_n 2, 1) := by decide +kernel
theorem dX4_inLowestTerms_4 : decode cX4_inLowestTerms 4 = .ok (.iconst 1, 1) := by decide +kernel
theorem dX4_inLowestTerms_5 : decode cX4_inLowestTerms 5 = .ok (.if_icmp .le 26, 3) := by decide +kernel
theorem dX4_inLowestTerms_8 : decode cX4_inLowestTerms 8 = .ok (.iload_n 1, 1) := by decide +kernel
theorem dX4_inLowestTerms_9 : decode cX4_inLowestTerms 9 = .ok (.iload_n 2, 1) := by decide +kernel
theorem dX4_inLowestTerms_10 : decode cX4_inLowestTerms 10 = .ok (.irem, 1) := by decide +kernel
theorem dX4_inLowestTerms_11 : decode cX4_inLowestTerms 11 = .ok (.ifCond .ne 14, 3) := by decide +kernel
theorem dX4_inLowestTerms_14 : decode cX4_inLowestTerms 14 = .ok (.bipush 100, 2) := by decide +kernel
theorem dX4_inLowestTerms_16 : decode cX4_inLowestTerms 16 = .ok (.iload_n 2, 1) := by decide +kernel
theorem dX4_inLowestTerms_17 : decode cX4_inLowestTerms 17 = .ok (.irem, 1) := by decide +kernel
theorem dX4_inLowestTerms_18 : decode cX4_inLowestTerms 18 = .ok (.ifCond .ne 7, 3) := by decide +kernel
theorem dX4_inLowestTerms_21 : decode cX4_inLowestTerms 21 = .ok (.iload_n 0, 1) := by decide +kernel
theorem dX4_inLowestTerms_22 : decode cX4_inLowestTerms 22 = .ok (.iload_n 2, 1) := by decide +kernel
theorem dX4_inLowestTerms_23 : decode cX4_inLowestTerms 23 = .ok (.idiv, 1) := by decide +kernel
theorem dX4_inLowestTerms_24 : decode cX4_inLowestTerms 24 = .ok (.ireturn, 1) := by decide +kernel
theorem dX4_inLowestTerms_25 : decode cX4_inLowestTerms 25 = .ok (.iinc 2 (-1), 3) := by decide +kernel
theorem dX4_inLowestTerms_28 : decode cX4_inLowestTerms 28 = .ok (.goto (-25), 3) := by decide +kernel
theorem dX4_inLowestTerms_31 : decode cX4_inLowestTerms 31 = .ok (.iload_n 0, 1) := by decide +kernel
theorem dX4_inLowestTerms_32 : decode cX4_inLowestTerms 32 = .ok (.ireturn, 1) := by decide +kernel
theorem dX4_seed_0 : decode cX4_seed 0 = .ok (.aload_n 0, 1) := by decide +kernel
theorem dX4_seed_1 : decode cX4_seed 1 = .ok (.getfield 10, 3) := by decide +kernel
theorem dX4_seed_4 : decode cX4_seed 4 = .ok (.getfield 209, 3) := by decide +kernel
theorem dX4_seed_7 : decode cX4_seed 7 = .ok (.istore_n 2, 1) := by decide +kernel
theorem dX4_seed_8 : decode cX4_seed 8 = .ok (.aload_n 0, 1) := by decide +kernel
theorem dX4_seed_9 : decode cX4_seed 9 = .ok (.getfield 10, 3) := by decide +kernel
theorem dX4_seed_12 : decode cX4_seed 12 = .ok (.iload_n 1, 1) := by decide +kernel
theorem dX4_seed_13 : decode cX4_seed 13 = .ok (.putfield 209, 3) := by decide +kernel
theorem dX4_seed_16 : decode cX4_seed 16 = .ok (.iload_n 2, 1) := by decide +kernel
theorem dX4_seed_17 : decode cX4_seed 17 = .ok (.ireturn, 1) := by decide +kernel
theorem dX4_feed_0 : decode cX4_feed 0 = .ok (.iload_n 2, 1) := by decide +kernel
theorem dX4_feed_1 : decode cX4_feed 1 = .ok (.iconst 1, 1) := by decide +kernel
theorem dX4_feed_2 : decode cX4_feed 2 = .ok (.if_icmp .lt 8, 3) := by decide +kernel
theorem dX4_feed_5 : decode cX4_feed 5 = .ok (.iload_n 2, 1) := by decide +kernel
theorem dX4_feed_6 : decode cX4_feed 6 = .ok (.iconst 4, 1) := by decide +kernel
theorem dX4_feed_7 : decode cX4_feed 7 = .ok (.if_icmp .le 9, 3) := by decide +kernel
theorem dX4_feed_10 : decode cX4_feed 10 = .ok (.aload_n 0, 1) := by decide +kernel
theorem dX4_feed_11 : decode cX4_feed 11 = .ok (.iconst 0, 1) := by decide +kernel
theorem dX4_feed_12 : decode cX4_feed 12 = .ok (.invokevirtual 48, 3) := by decide +kernel
theorem dX4_feed_15 : decode cX4_feed 15 = .ok (.ireturn, 1) := by decide +kernel
theorem dX4_feed_16 : decode cX4_feed 16 = .ok (.aload_n 0, 1) := by decide +kernel
theorem dX4_feed_17 : decode cX4_feed 17 = .ok (.getfield 35, 3) := by decide +kernel
theorem dX4_feed_20 : decode cX4_feed 20 = .ok (.getfield 212, 3) := by decide +kernel
theorem dX4_feed_23 : decode cX4_feed 23 = .ok (.bipush 120, 2) := by decide +kernel
theorem dX4_feed_25 : decode cX4_feed 25 = .ok (.iload_n 2, 1) := by decide +kernel
theorem dX4_feed_26 : decode cX4_feed 26 = .ok (.isub, 1) := by decide +kernel
theorem dX4_feed_27 : decode cX4_feed 27 = .ok (.if_icmp .le 9, 3) := by decide +kernel
theorem dX4_feed_30 : decode cX4_feed 30 = .ok (.aload_n 0, 1) := by decide +kernel
theorem dX4_feed_31 : decode cX4_feed 31 = .ok (.iconst 1, 1) := by decide +kernel
theorem dX4_feed_32 : decode cX4_feed 32 = .ok (.invokevirtual 48, 3) := by decide +kernel
theorem dX4_feed_35 : decode cX4_feed 35 = .ok (.ireturn, 1) := by decide +kernel
theorem dX4_feed_36 : decode cX4_feed 36 = .ok (.bipush 8, 2) := by decide +kernel
theorem dX4_feed_38 : decode cX4_feed 38 = .ok (.iload_n 2, 1) := by decide +kernel
theorem dX4_feed_39 : decode cX4_feed 39 = .ok (.iconst 1, 1) := by decide +kernel
theorem dX4_feed_40 : decode cX4_feed 40 = .ok (.isub, 1) := by decide +kernel
theorem dX4_feed_41 : decode cX4_feed 41 = .ok (.imul, 1) := by decide +kernel
theorem dX4_feed_42 : decode cX4_feed 42 = .ok (.istore_n 3, 1) := by decide +kernel
theorem dX4_feed_43 : decode cX4_feed 43 = .ok (.iload_n 3, 1) := by decide +kernel
theorem dX4_feed_44 : decode cX4_feed 44 = .ok (.ifCond .lt 19, 3) := by decide +kernel
theorem dX4_feed_47 : decode cX4_feed 47 = .ok (.aload_n 0, 1) := by decide +kernel
theorem dX4_feed_48 : decode cX4_feed 48 = .ok (.getfield 35, 3) := by decide +kernel
theorem dX4_feed_51 : decode cX4_feed 51 = .ok (.iload_n 1, 1) := by decide +kernel
theorem dX4_feed_52 : decode cX4_feed 52 = .ok (.iload_n 3, 1) := by decide +kernel
theorem dX4_feed_53 : decode cX4_feed 53 = .ok (.iushr, 1) := by decide +kernel
theorem dX4_feed_54 : decode cX4_feed 54 = .ok (.invokevirtual 213, 3) := by decide +kernel
theorem dX4_feed_57 : decode cX4_feed 57 = .ok (.iinc 3 (-8), 3) := by decide +kernel
theorem dX4_feed_60 : decode cX4_feed 60 = .ok (.goto (-17), 3) := by decide +kernel
theorem dX4_feed_63 : decode cX4_feed 63 = .ok (.aload_n 0, 1) := by decide +kernel
theorem dX4_feed_64 : decode cX4_feed 64 = .ok (.getfield 35, 3) := by decide +kernel
theorem dX4_feed_67 : decode cX4_feed 67 = .ok (.getfield 212, 3) := by decide +kernel
theorem dX4_feed_70 : decode cX4_feed 70 = .ok (.ireturn, 1) := by decide +kernel
theorem dX4_wipe_0 : decode cX4_wipe 0 = .ok (.aload_n 0, 1) := by decide +kernel
theorem dX4_wipe_1 : decode cX4_wipe 1 = .ok (.getfield 35, 3) := by decide +kernel
theorem dX4_wipe_4 : decode cX4_wipe 4 = .ok (.getfield 212, 3) := by decide +kernel
theorem dX4_wipe_7 : decode cX4_wipe 7 = .ok (.istore_n 1, 1) := by decide +kernel
theorem dX4_wipe_8 : decode cX4_wipe 8 = .ok (.aload_n 0, 1) := by decide +kernel
theorem dX4_wipe_9 : decode cX4_wipe 9 = .ok (.getfield 35, 3) := by decide +kernel
theorem dX4_wipe_12 : decode cX4_wipe 12 = .ok (.iconst 0, 1) := by decide +kernel
theorem dX4_wipe_13 : decode cX4_wipe 13 = .ok (.putfield 212, 3) := by decide +kernel
theorem dX4_wipe_16 : decode cX4_wipe 16 = .ok (.iload_n 1, 1) := by decide +kernel
theorem dX4_wipe_17 : decode cX4_wipe 17 = .ok (.ireturn, 1) := by decide +kernel
theorem dX4_text_0 : decode cX4_text 0 = .ok (.aload_n 0, 1) := by decide +kernel
theorem dX4_text_1 : decode cX4_text 1 = .ok (.getfield 16, 3) := by decide +kernel
theorem dX4_text_4 : decode cX4_text 4 = .ok (.aload_n 0, 1) := by decide +kernel
theorem dX4_text_5 : decode cX4_text 5 = .ok (.getfield 10, 3) := by decide +kernel
theorem dX4_text_8 : decode cX4_text 8 = .ok (.invokevirtual 135, 3) := by decide +kernel
theorem dX4_text_11 : decode cX4_text 11 = .ok (.aload_n 0, 1) := by decide +kernel
theorem dX4_text_12 : decode cX4_text 12 = .ok (.getfield 35, 3) := by decide +kernel
theorem dX4_text_15 : decode cX4_text 15 = .ok (.aload_n 0, 1) := by decide +kernel
theorem dX4_text_16 : decode cX4_text 16 = .ok (.getfield 16, 3) := by decide +kernel
theorem dX4_text_19 : decode cX4_text 19 = .ok (.invokevirtual 215, 3) := by decide +kernel
theorem dX4_text_22 : decode cX4_text 22 = .ok (.istore_n 1, 1) := by decide +kernel
theorem dX4_text_23 : decode cX4_text 23 = .ok (.aload_n 0, 1) := by decide +kernel
theorem dX4_text_24 : decode cX4_text 24 = .ok (.getfield 35, 3) := by decide +kernel
theorem dX4_text_27 : decode cX4_text 27 = .ok (.iconst 0, 1) := by decide +kernel
theorem dX4_text_28 : decode cX4_text 28 = .ok (.putfield 212, 3) := by decide +kernel
theorem dX4_text_31 : decode cX4_text 31 = .ok (.iload_n 1, 1) := by decide +kernel
theorem dX4_text_32 : decode cX4_text 32 = .ok (.ifCond .lt 14, 3) := by decide +kernel
theorem dX4_text_35 : decode cX4_text 35 = .ok (.aload_n 0, 1) := by decide +kernel
theorem dX4_text_36 : decode cX4_text 36 = .ok (.getfield 10, 3) := by decide +kernel
theorem dX4_text_39 : decode cX4_text 39 = .ok (.aload_n 0, 1) := by decide +kernel
theorem dX4_text_40 : decode cX4_text 40 = .ok (.getfield 16, 3) := by decide +kernel
theorem dX4_text_43 : decode cX4_text 43 = .ok (.invokevirtual 135, 3) := by decide +kernel
theorem dX4_text_46 : decode cX4_text 46 = .ok (.iload_n 1, 1) := by decide +kernel
theorem dX4_text_47 : decode cX4_text 47 = .ok (.ireturn, 1) := by decide +kernel
theorem dX4_hold_0 : decode cX4_hold 0 = .ok (.iload_n 1, 1) := by decide +kernel
theorem dX4_hold_1 : decode cX4_hold 1 = .ok (.bipush 9, 2) := by decide +kernel
theorem dX4_hold_3 : decode cX4_hold 3 = .ok (.invokestatic 44, 3) := by decide +kernel
theorem dX4_hold_6 : decode cX4_hold 6 = .ok (.ifCond .eq 16, 3) := by decide +kernel
theorem dX4_hold_9 : decode cX4_hold 9 = .ok (.iload_n 2, 1) := by decide +kernel
theorem dX4_hold_10 : decode cX4_hold 10 = .ok (.iconst (-1), 1) := by decide +kernel
theorem dX4_hold_11 : decode cX4_hold 11 = .ok (.if_icmp .eq 17, 3) := by decide +kernel
theorem dX4_hold_14 : decode cX4_hold 14 = .ok (.aload_n 0, 1) := by decide +kernel
theorem dX4_hold_15 : decode cX4_hold 15 = .ok (.iload_n 2, 1) := by decide +kernel
theorem dX4_hold_16 : decode cX4_hold 16 = .ok (.invokevirtual 67, 3) := by decide +kernel
theorem dX4_hold_19 : decode cX4_hold 19 = .ok (.ifCond .ne 9, 3) := by decide +kernel
theorem dX4_hold_22 : decode cX4_hold 22 = .ok (.aload_n 0, 1) := by decide +kernel
theorem dX4_hold_23 : decode cX4_hold 23 = .ok (.iconst 0, 1) := by decide +kernel
theorem dX4_hold_24 : decode cX4_hold 24 = .ok (.invokevirtual 48, 3) := by decide +kernel
theorem dX4_hold_27 : decode cX4_hold 27 = .ok (.ireturn, 1) := by decide +kernel
theorem dX4_hold_28 : decode cX4_hold 28 = .ok (.aload_n 0, 1) := by decide +kernel
theorem dX4_hold_29 : decode cX4_hold 29 = .ok (.getfield 10, 3) := by decide +kernel
theorem dX4_hold_32 : decode cX4_hold 32 = .ok (.getfield 219, 3) := by decide +kernel
theorem dX4_hold_35 : decode cX4_hold 35 = .ok (.iload_n 1, 1) := by decide +kernel
theorem dX4_hold_36 : decode cX4_hold 36 = .ok (.iload_n 2, 1) := by decide +kernel
theorem dX4_hold_37 : decode cX4_hold 37 = .ok (.iastore, 1) := by decide +kernel
theorem dX4_hold_38 : decode cX4_hold 38 = .ok (.iconst 1, 1) := by decide +kernel
theorem dX4_hold_39 : decode cX4_hold 39 = .ok (.ireturn, 1) := by decide +kernel
theorem dX4_as_0 : decode cX4_as 0 = .ok (.iload_n 1, 1) := by decide +kernel
theorem dX4_as_1 : decode cX4_as 1 = .ok (.bipush 9, 2) := by decide +kernel
theorem dX4_as_3 : decode cX4_as 3 = .ok (.invokestatic 44, 3) := by decide +kernel
theorem dX4_as_6 : decode cX4_as 6 = .ok (.ifCond .eq 12, 3) := by decide +kernel
theorem dX4_as_9 : decode cX4_as 9 = .ok (.iload_n 2, 1) := by decide +kernel
theorem dX4_as_10 : decode cX4_as 10 = .ok (.bipush 6, 2) := by decide +kernel
theorem dX4_as_12 : decode cX4_as 12 = .ok (.invokestatic 44, 3) := by decide +kernel
theorem dX4_as_15 : decode cX4_as 15 = .ok (.ifCond .ne 9, 3) := by decide +kernel
theorem dX4_as_18 : decode cX4_as 18 = .ok (.aload_n 0, 1) := by decide +kernel
theorem dX4_as_19 : decode cX4_as 19 = .ok (.iconst 0, 1) := by decide +kernel
theorem dX4_as_20 : decode cX4_as 20 = .ok (.invokevirtual 48, 3) := by decide +kernel
theorem dX4_as_23 : decode cX4_as 23 = .ok (.ireturn, 1) := by decide +kernel
theorem dX4_as_24 : decode cX4_as 24 = .ok (.aload_n 0, 1) := by decide +kernel
theorem dX4_as_25 : decode cX4_as 25 = .ok (.getfield 10, 3) := by decide +kernel
theorem dX4_as_28 : decode cX4_as 28 = .ok (.getfield 219, 3) := by decide +kernel
theorem dX4_as_31 : decode cX4_as 31 = .ok (.iload_n 1, 1) := by decide +kernel
theorem dX4_as_32 : decode cX4_as 32 = .ok (.iaload, 1) := by decide +kernel
theorem dX4_as_33 : decode cX4_as 33 = .ok (.istore_n 3, 1) := by decide +kernel
theorem dX4_as_34 : decode cX4_as 34 = .ok (.aload_n 0, 1) := by decide +kernel
theorem dX4_as_35 : decode cX4_as 35 = .ok (.iload_n 3, 1) := by decide +kernel
theorem dX4_as_36 : decode cX4_as 36 = .ok (.invokevirtual 67, 3) := by decide +kernel
theorem dX4_as_39 : decode cX4_as 39 = .ok (.ifCond .ne 9, 3) := by decide +kernel
theorem dX4_as_42 : decode cX4_as 42 = .ok (.aload_n 0, 1) := by decide +kernel
theorem dX4_as_43 : decode cX4_as 43 = .ok (.iconst 5, 1) := by decide +kernel
theorem dX4_as_44 : decode cX4_as 44 = .ok (.invokevirtual 48, 3) := by decide +kernel
theorem dX4_as_47 : decode cX4_as 47 = .ok (.ireturn, 1) := by decide +kernel
theorem dX4_as_48 : decode cX4_as 48 = .ok (.aload_n 0, 1) := by decide +kernel
theorem dX4_as_49 : decode cX4_as 49 = .ok (.getfield 10, 3) := by decide +kernel
theorem dX4_as_52 : decode cX4_as 52 = .ok (.getfield 71, 3) := by decide +kernel
theorem dX4_as_55 : decode cX4_as 55 = .ok (.iload_n 3, 1) := by decide +kernel
theorem dX4_as_56 : decode cX4_as 56 = .ok (.aaload, 1) := by decide +kernel
theorem dX4_as_57 : decode cX4_as 57 = .ok (.iload_n 2, 1) := by decide +kernel
theorem dX4_as_58 : decode cX4_as 58 = .ok (.invokevirtual 222, 3) := by decide +kernel
theorem dX4_as_61 : decode cX4_as 61 = .ok (.ifCond .ne 9, 3) := by decide +kernel
theorem dX4_as_64 : decode cX4_as 64 = .ok (.aload_n 0, 1) := by decide +kernel
theorem dX4_as_65 : decode cX4_as 65 = .ok (.iconst 2, 1) := by decide +kernel
theorem dX4_as_66 : decode cX4_as 66 = .ok (.invokevirtual 48, 3) := by decide +kernel
theorem dX4_as_69 : decode cX4_as 69 = .ok (.ireturn, 1) := by decide +kernel
theorem dX4_as_70 : decode cX4_as 70 = .ok (.iload_n 3, 1) := by decide +kernel
theorem dX4_as_71 : decode cX4_as 71 = .ok (.ireturn, 1) := by decide +kernel
theorem dX4_sheet_0 : decode cX4_sheet 0 = .ok (.iload_n 2, 1) := by decide +kernel
theorem dX4_sheet_1 : decode cX4_sheet 1 = .ok (.ifCond .eq 21, 3) := by decide +kernel
theorem dX4_sheet_4 : decode cX4_sheet 4 = .ok (.iload_n 2, 1) := by decide +kernel
theorem dX4_sheet_5 : decode cX4_sheet 5 = .ok (.bipush 8, 2) := by decide +kernel
theorem dX4_sheet_7 : decode cX4_sheet 7 = .ok (.if_icmp .eq 15, 3) := by decide +kernel
theorem dX4_sheet_10 : decode cX4_sheet 10 = .ok (.iload_n 2, 1) := by decide +kernel
theorem dX4_sheet_11 : decode cX4_sheet 11 = .ok (.bipush 16, 2) := by decide +kernel
theorem dX4_sheet_13 : decode cX4_sheet 13 = .ok (.if_icmp .eq 9, 3) := by decide +kernel
theorem dX4_sheet_16 : decode cX4_sheet 16 = .ok (.iload_n 2, 1) := by decide +kernel
theorem dX4_sheet_17 : decode cX4_sheet 17 = .ok (.bipush 32, 2) := by decide +kernel
theorem dX4_sheet_19 : decode cX4_sheet 19 = .ok (.if_icmp .ne 7, 3) := by decide +kernel
theorem dX4_sheet_22 : decode cX4_sheet 22 = .ok (.iconst 1, 1) := by decide +kernel
theorem dX4_sheet_23 : decode cX4_sheet 23 = .ok (.goto 4, 3) := by decide +kernel
theorem dX4_sheet_26 : decode cX4_sheet 26 = .ok (.iconst 0, 1) := by decide +kernel
theorem dX4_sheet_27 : decode cX4_sheet 27 = .ok (.istore 4, 2) := by decide +kernel
theorem dX4_sheet_29 : decode cX4_sheet 29 = .ok (.iload_n 1, 1) := by decide +kernel
theorem dX4_sheet_30 : decode cX4_sheet 30 = .ok (.iconst 3, 1) := by decide +kernel
theorem dX4_sheet_31 : decode cX4_sheet 31 = .ok (.invokestatic 44, 3) := by decide +kernel
theorem dX4_sheet_34 : decode cX4_sheet 34 = .ok (.ifCond .eq 8, 3) := by decide +kernel
theorem dX4_sheet_37 : decode cX4_sheet 37 = .ok (.iload 4, 2) := by decide +kernel
theorem dX4_sheet_39 : decode cX4_sheet 39 = .ok (.ifCond .ne 9, 3) := by decide +kernel
theorem dX4_sheet_42 : decode cX4_sheet 42 = .ok (.aload_n 0, 1) := by decide +kernel
theorem dX4_sheet_43 : decode cX4_sheet 43 = .ok (.iconst 0, 1) := by decide +kernel
theorem dX4_sheet_44 : decode cX4_sheet 44 = .ok (.invokevirtual 48, 3) := by decide +kernel
theorem dX4_sheet_47 : decode cX4_sheet 47 = .ok (.ireturn, 1) := by decide +kernel
theorem dX4_sheet_48 : decode cX4_sheet 48 = .ok (.iload_n 3, 1) := by decide +kernel
theorem dX4_sheet_49 : decode cX4_sheet 49 = .ok (.ifCond .ge 10, 3) := by decide +kernel
theorem dX4_sheet_52 : decode cX4_sheet 52 = .ok (.aload_n 0, 1) := by decide +kernel
theorem dX4_sheet_53 : decode cX4_sheet 53 = .ok (.bipush 6, 2) := by decide +kernel
theorem dX4_sheet_55 : decode cX4_sheet 55 = .ok (.invokevirtual 48, 3) := by decide +kernel
theorem dX4_sheet_58 : decode cX4_sheet 58 = .ok (.ireturn, 1) := by decide +kernel
theorem dX4_sheet_59 : decode cX4_sheet 59 = .ok (.iload_n 3, 1) := by decide +kernel
theorem dX4_sheet_60 : decode cX4_sheet 60 = .ok (.bipush 40, 2) := by decide +kernel
theorem dX4_sheet_62 : decode cX4_sheet 62 = .ok (.if_icmp .le 9, 3) := by decide +kernel
theorem dX4_sheet_65 : decode cX4_sheet 65 = .ok (.aload_n 0, 1) := by decide +kernel
theorem dX4_sheet_66 : decode cX4_sheet 66 = .ok (.iconst 0, 1) := by decide +kernel
theorem dX4_sheet_67 : decode cX4_sheet 67 = .ok (.invokevirtual 48, 3) := by decide +kernel
theorem dX4_sheet_70 : decode cX4_sheet 70 = .ok (.ireturn, 1) := by decide +kernel
theorem dX4_sheet_71 : decode cX4_sheet 71 = .ok (.iload_n 2, 1) := by decide +kernel
theorem dX4_sheet_72 : decode cX4_sheet 72 = .ok (.ifCond .ne 7, 3) := by decide +kernel
theorem dX4_sheet_75 : decode cX4_sheet 75 = .ok (.iconst 0, 1) := by decide +kernel
theorem dX4_sheet_76 : decode cX4_sheet 76 = .ok (.goto 4, 3) := by decide +kernel
theorem dX4_sheet_79 : decode cX4_sheet 79 = .ok (.iload_n 3, 1) := by decide +kernel
theorem dX4_sheet_80 : decode cX4_sheet 80 = .ok (.istore 5, 2) := by decide +kernel
theorem dX4_sheet_82 : decode cX4_sheet 82 = .ok (.aload_n 0, 1) := by decide +kernel
theorem dX4_sheet_83 : decode cX4_sheet 83 = .ok (.getfield 28, 3) := by decide +kernel
theorem dX4_sheet_86 : decode cX4_sheet 86 = .ok (.iload_n 1, 1) := by decide +kernel
theorem dX4_sheet_87 : decode cX4_sheet 87 = .ok (.aaload, 1) := by decide +kernel
theorem dX4_sheet_88 : decode cX4_sheet 88 = .ok (.iload_n 2, 1) := by decide +kernel
theorem dX4_sheet_89 : decode cX4_sheet 89 = .ok (.iload 5, 2) := by decide +kernel
theorem dX4_sheet_91 : decode cX4_sheet 91 = .ok (.invokevirtual 225, 3) := by decide +kernel
theorem dX4_sheet_94 : decode cX4_sheet 94 = .ok (.iload 5, 2) := by decide +kernel
theorem dX4_sheet_96 : decode cX4_sheet 96 = .ok (.ireturn, 1) := by decide +kernel
theorem dX4_write_0 : decode cX4_write 0 = .ok (.aload_n 0, 1) := by decide +kernel
theorem dX4_write_1 : decode cX4_write 1 = .ok (.iload_n 1, 1) := by decide +kernel
theorem dX4_write_2 : decode cX4_write 2 = .ok (.invokevirtual 182, 3) := by decide +kernel
theorem dX4_write_5 : decode cX4_write 5 = .ok (.istore 4, 2) := by decide +kernel
theorem dX4_write_7 : decode cX4_write 7 = .ok (.iload 4, 2) := by decide +kernel
theorem dX4_write_9 : decode cX4_write 9 = .ok (.iconst (-1), 1) := by decide +kernel
theorem dX4_write_10 : decode cX4_write 10 = .ok (.if_icmp .eq 10, 3) := by decide +kernel
theorem dX4_write_13 : decode cX4_write 13 = .ok (.aload_n 0, 1) := by decide +kernel
theorem dX4_write_14 : decode cX4_write 14 = .ok (.iload 4, 2) := by decide +kernel
theorem dX4_write_16 : decode cX4_write 16 = .ok (.invokevirtual 48, 3) := by decide +kernel
theorem dX4_write_19 : decode cX4_write 19 = .ok (.ireturn, 1) := by decide +kernel
theorem dX4_write_20 : decode cX4_write 20 = .ok (.iload_n 2, 1) := by decide +kernel
theorem dX4_write_21 : decode cX4_write 21 = .ok (.ifCond .lt 16, 3) := by decide +kernel
theorem dX4_write_24 : decode cX4_write 24 = .ok (.iload_n 2, 1) := by decide +kernel
theorem dX4_write_25 : decode cX4_write 25 = .ok (.aload_n 0, 1) := by decide +kernel
theorem dX4_write_26 : decode cX4_write 26 = .ok (.getfield 28, 3) := by decide +kernel
theorem dX4_write_29 : decode cX4_write 29 = .ok (.iload_n 1, 1) := by decide +kernel
theorem dX4_write_30 : decode cX4_write 30 = .ok (.aaload, 1) := by decide +kernel
theorem dX4_write_31 : decode cX4_write 31 = .ok (.getfield 185, 3) := by decide +kernel
theorem dX4_write_34 : decode cX4_write 34 = .ok (.if_icmp .lt 9, 3) := by decide +kernel
theorem dX4_write_37 : decode cX4_write 37 = .ok (.aload_n 0, 1) := by decide +kernel
theorem dX4_write_38 : decode cX4_write 38 = .ok (.iconst 0, 1) := by decide +kernel
theorem dX4_write_39 : decode cX4_write 39 = .ok (.invokevirtual 48, 3) := by decide +kernel
theorem dX4_write_42 : decode cX4_write 42 = .ok (.ireturn, 1) := by decide +kernel
theorem dX4_write_43 : decode cX4_write 43 = .ok (.aload_n 0, 1) := by decide +kernel
theorem dX4_write_44 : decode cX4_write 44 = .ok (.getfield 28, 3) := by decide +kernel
theorem dX4_write_47 : decode cX4_write 47 = .ok (.iload_n 1, 1) := by decide +kernel
theorem dX4_write_48 : decode cX4_write 48 = .ok (.aaload, 1) := by decide +kernel
theorem dX4_write_49 : decode cX4_write 49 = .ok (.iload_n 2, 1) := by decide +kernel
theorem dX4_write_50 : decode cX4_write 50 = .ok (.iload_n 3, 1) := by decide +kernel
theorem dX4_write_51 : decode cX4_write 51 = .ok (.invokevirtual 228, 3) := by decide +kernel
theorem dX4_write_54 : decode cX4_write 54 = .ok (.iconst 1, 1) := by decide +kernel
theorem dX4_write_55 : decode cX4_write 55 = .ok (.ireturn, 1) := by decide +kernel
theorem dX4_copy_0 : decode cX4_copy 0 = .ok (.iload_n 1, 1) := by decide +kernel
theorem dX4_copy_1 : decode cX4_copy 1 = .ok (.iconst 3, 1) := by decide +kernel
theorem dX4_copy_2 : decode cX4_copy 2 = .ok (.invokestatic 44, 3) := by decide +kernel
theorem dX4_copy_5 : decode cX4_copy 5 = .ok (.ifCond .eq 11, 3) := by decide +kernel
theorem dX4_copy_8 : decode cX4_copy 8 = .ok (.iload_n 3, 1) := by decide +kernel
theorem dX4_copy_9 : decode cX4_copy 9 = .ok (.iconst 3, 1) := by decide +kernel
theorem dX4_copy_10 : decode cX4_copy 10 = .ok (.invokestatic 44, 3) := by decide +kernel
theorem dX4_copy_13 : decode cX4_copy 13 = .ok (.ifCond .ne 9, 3) := by decide +kernel
theorem dX4_copy_16 : decode cX4_copy 16 = .ok (.aload_n 0, 1) := by decide +kernel
theorem dX4_copy_17 : decode cX4_copy 17 = .ok (.iconst 0, 1) := by decide +kernel
theorem dX4_copy_18 : decode cX4_copy 18 = .ok (.invokevirtual 48, 3) := by decide +kernel
theorem dX4_copy_21 : decode cX4_copy 21 = .ok (.ireturn, 1) := by decide +kernel
theorem dX4_copy_22 : decode cX4_copy 22 = .ok (.aload_n 0, 1) := by decide +kernel
theorem dX4_copy_23 : decode cX4_copy 23 = .ok (.getfield 28, 3) := by decide +kernel
theorem dX4_copy_26 : decode cX4_copy 26 = .ok (.iload_n 1, 1) := by decide +kernel
theorem dX4_copy_27 : decode cX4_copy 27 = .ok (.aaload, 1) := by decide +kernel
theorem dX4_copy_28 : decode cX4_copy 28 = .ok (.astore 6, 2) := by decide +kernel
theorem dX4_copy_30 : decode cX4_copy 30 = .ok (.aload_n 0, 1) := by decide +kernel
theorem dX4_copy_31 : decode cX4_copy 31 = .ok (.getfield 28, 3) := by decide +kernel
theorem dX4_copy_34 : decode cX4_copy 34 = .ok (.iload_n 3, 1) := by decide +kernel
theorem dX4_copy_35 : decode cX4_copy 35 = .ok (.aaload, 1) := by decide +kernel
theorem dX4_copy_36 : decode cX4_copy 36 = .ok (.astore 7, 2) := by decide +kernel
theorem dX4_copy_38 : decode cX4_copy 38 = .ok (.aload 6, 2) := by decide +kernel
theorem dX4_copy_40 : decode cX4_copy 40 = .ok (.getfield 229, 3) := by decide +kernel
theorem dX4_copy_43 : decode cX4_copy 43 = .ok (.ifCond .eq 11, 3) := by decide +kernel
theorem dX4_copy_46 : decode cX4_copy 46 = .ok (.aload 7, 2) := by decide +kernel
theorem dX4_copy_48 : decode cX4_copy 48 = .ok (.getfield 229, 3) := by decide +kernel
theorem dX4_copy_51 : decode cX4_copy 51 = .ok (.ifCond .ne 9, 3) := by decide +kernel
theorem dX4_copy_54 : decode cX4_copy 54 = .ok (.aload_n 0, 1) := by decide +kernel
theorem dX4_copy_55 : decode cX4_copy 55 = .ok (.iconst 5, 1) := by decide +kernel
theorem dX4_copy_56 : decode cX4_copy 56 = .ok (.invokevirtual 48, 3) := by decide +kernel
theorem dX4_copy_59 : decode cX4_copy 59 = .ok (.ireturn, 1) := by decide +kernel
theorem dX4_copy_60 : decode cX4_copy 60 = .ok (.aload 6, 2) := by decide +kernel
theorem dX4_copy_62 : decode cX4_copy 62 = .ok (.getfield 229, 3) := by decide +kernel
theorem dX4_copy_65 : decode cX4_copy 65 = .ok (.aload 7, 2) := by decide +kernel
theorem dX4_copy_67 : decode cX4_copy 67 = .ok (.getfield 229, 3) := by decide +kernel
theorem dX4_copy_70 : decode cX4_copy 70 = .ok (.if_icmp .eq 9, 3) := by decide +kernel
theorem dX4_copy_73 : decode cX4_copy 73 = .ok (.aload_n 0, 1) := by decide +kernel
theorem dX4_copy_74 : decode cX4_copy 74 = .ok (.iconst 2, 1) := by decide +kernel
theorem dX4_copy_75 : decode cX4_copy 75 = .ok (.invokevirtual 48, 3) := by decide +kernel
theorem dX4_copy_78 : decode cX4_copy 78 = .ok (.ireturn, 1) := by decide +kernel
theorem dX4_copy_79 : decode cX4_copy 79 = .ok (.aload 6, 2) := by decide +kernel
theorem dX4_copy_81 : decode cX4_copy 81 = .ok (.iload_n 2, 1) := by decide +kernel
theorem dX4_copy_82 : decode cX4_copy 82 = .ok (.iload 5, 2) := by decide +kernel
theorem dX4_copy_84 : decode cX4_copy 84 = .ok (.invokevirtual 232, 3) := by decide +kernel
theorem dX4_copy_87 : decode cX4_copy 87 = .ok (.ifCond .eq 15, 3) := by decide +kernel
theorem dX4_copy_90 : decode cX4_copy 90 = .ok (.aload 7, 2) := by decide +kernel
theorem dX4_copy_92 : decode cX4_copy 92 = .ok (.iload 4, 2) := by decide +kernel
theorem dX4_copy_94 : decode cX4_copy 94 = .ok (.iload 5, 2) := by decide +kernel
theorem dX4_copy_96 : decode cX4_copy 96 = .ok (.invokevirtual 232, 3) := by decide +kernel
theorem dX4_copy_99 : decode cX4_copy 99 = .ok (.ifCond .ne 9, 3) := by decide +kernel
theorem dX4_copy_102 : decode cX4_copy 102 = .ok (.aload_n 0, 1) := by decide +kernel
theorem dX4_copy_103 : decode cX4_copy 103 = .ok (.iconst 0, 1) := by decide +kernel
theorem dX4_copy_104 : decode cX4_copy 104 = .ok (.invokevirtual 48, 3) := by decide +kernel
theorem dX4_copy_107 : decode cX4_copy 107 = .ok (.ireturn, 1) := by decide +kernel
theorem dX4_copy_108 : decode cX4_copy 108 = .ok (.aload 6, 2) := by decide +kernel
theorem dX4_copy_110 : decode cX4_copy 110 = .ok (.getfield 193, 3) := by decide +kernel
theorem dX4_copy_113 : decode cX4_copy 113 = .ok (.iload_n 2, 1) := by decide +kernel
theorem dX4_copy_114 : decode cX4_copy 114 = .ok (.aload 7, 2) := by decide +kernel
theorem dX4_copy_116 : decode cX4_copy 116 = .ok (.getfield 193, 3) := by decide +kernel
theorem dX4_copy_119 : decode cX4_copy 119 = .ok (.iload 4, 2) := by decide +kernel
theorem dX4_copy_121 : decode cX4_copy 121 = .ok (.iload 5, 2) := by decide +kernel
theorem dX4_copy_123 : decode cX4_copy 123 = .ok (.invokestatic 235, 3) := by decide +kernel
theorem dX4_copy_126 : decode cX4_copy 126 = .ok (.iload 5, 2) := by decide +kernel
theorem dX4_copy_128 : decode cX4_copy 128 = .ok (.ireturn, 1) := by decide +kernel
theorem dX4_load_0 : decode cX4_load 0 = .ok (.aload_n 0, 1) := by decide +kernel
theorem dX4_load_1 : decode cX4_load 1 = .ok (.iload_n 1, 1) := by decide +kernel
theorem dX4_load_2 : decode cX4_load 2 = .ok (.invokevirtual 182, 3) := by decide +kernel
theorem dX4_load_5 : decode cX4_load 5 = .ok (.istore_n 2, 1) := by decide +kernel
theorem dX4_load_6 : decode cX4_load 6 = .ok (.iload_n 2, 1) := by decide +kernel
theorem dX4_load_7 : decode cX4_load 7 = .ok (.iconst (-1), 1) := by decide +kernel
theorem dX4_load_8 : decode cX4_load 8 = .ok (.if_icmp .eq 9, 3) := by decide +kernel
theorem dX4_load_11 : decode cX4_load 11 = .ok (.aload_n 0, 1) := by decide +kernel
theorem dX4_load_12 : decode cX4_load 12 = .ok (.iload_n 2, 1) := by decide +kernel
theorem dX4_load_13 : decode cX4_load 13 = .ok (.invokevirtual 48, 3) := by decide +kernel
theorem dX4_load_16 : decode cX4_load 16 = .ok (.ireturn, 1) := by decide +kernel
theorem dX4_load_17 : decode cX4_load 17 = .ok (.aload_n 0, 1) := by decide +kernel
theorem dX4_load_18 : decode cX4_load 18 = .ok (.getfield 28, 3) := by decide +kernel
theorem dX4_load_21 : decode cX4_load 21 = .ok (.iload_n 1, 1) := by decide +kernel
theorem dX4_load_22 : decode cX4_load 22 = .ok (.aaload, 1) := by decide +kernel
theorem dX4_load_23 : decode cX4_load 23 = .ok (.astore_n 3, 1) := by decide +kernel
theorem dX4_load_24 : decode cX4_load 24 = .ok (.iconst 0, 1) := by decide +kernel
theorem dX4_load_25 : decode cX4_load 25 = .ok (.istore 4, 2) := by decide +kernel
theorem dX4_load_27 : decode cX4_load 27 = .ok (.iload 4, 2) := by decide +kernel
theorem dX4_load_29 : decode cX4_load 29 = .ok (.bipush 6, 2) := by decide +kernel
theorem dX4_load_31 : decode cX4_load 31 = .ok (.if_icmp .ge 50, 3) := by decide +kernel
theorem dX4_load_34 : decode cX4_load 34 = .ok (.iload 4, 2) := by decide +kernel
theorem dX4_load_36 : decode cX4_load 36 = .ok (.aload_n 3, 1) := by decide +kernel
theorem dX4_load_37 : decode cX4_load 37 = .ok (.getfield 185, 3) := by decide +kernel
theorem dX4_load_40 : decode cX4_load 40 = .ok (.if_icmp .ge 41, 3) := by decide +kernel
theorem dX4_load_43 : decode cX4_load 43 = .ok (.aload_n 3, 1) := by decide +kernel
theorem dX4_load_44 : decode cX4_load 44 = .ok (.getfield 193, 3) := by decide +kernel
theorem dX4_load_47 : decode cX4_load 47 = .ok (.iload 4, 2) := by decide +kernel
theorem dX4_load_49 : decode cX4_load 49 = .ok (.iaload, 1) := by decide +kernel
theorem dX4_load_50 : decode cX4_load 50 = .ok (.bipush 99, 2) := by decide +kernel
theorem dX4_load_52 : decode cX4_load 52 = .ok (.invokestatic 44, 3) := by decide +kernel
theorem dX4_load_55 : decode cX4_load 55 = .ok (.ifCond .eq 26, 3) := by decide +kernel
theorem dX4_load_58 : decode cX4_load 58 = .ok (.aload_n 0, 1) := by decide +kernel
theorem dX4_load_59 : decode cX4_load 59 = .ok (.getfield 10, 3) := by decide +kernel
theorem dX4_load_62 : decode cX4_load 62 = .ok (.getfield 52, 3) := by decide +kernel
theorem dX4_load_65 : decode cX4_load 65 = .ok (.iload 4, 2) := by decide +kernel
theorem dX4_load_67 : decode cX4_load 67 = .ok (.aload_n 3, 1) := by decide +kernel
theorem dX4_load_68 : decode cX4_load 68 = .ok (.getfield 193, 3) := by decide +kernel
theorem dX4_load_71 : decode cX4_load 71 = .ok (.iload 4, 2) := by decide +kernel
theorem dX4_load_73 : decode cX4_load 73 = .ok (.iaload, 1) := by decide +kernel
theorem dX4_load_74 : decode cX4_load 74 = .ok (.iastore, 1) := by decide +kernel
theorem dX4_load_75 : decode cX4_load 75 = .ok (.iinc 4 1, 3) := by decide +kernel
theorem dX4_load_78 : decode cX4_load 78 = .ok (.goto (-51), 3) := by decide +kernel
theorem dX4_load_81 : decode cX4_load 81 = .ok (.iload 4, 2) := by decide +kernel
theorem dX4_load_83 : decode cX4_load 83 = .ok (.ireturn, 1) := by decide +kernel
theorem dX4_judge_0 : decode cX4_judge 0 = .ok (.aload_n 0, 1) := by decide +kernel
theorem dX4_judge_1 : decode cX4_judge 1 = .ok (.iload_n 1, 1) := by decide +kernel
theorem dX4_judge_2 : decode cX4_judge 2 = .ok (.invokevirtual 182, 3) := by decide +kernel
theorem dX4_judge_5 : decode cX4_judge 5 = .ok (.istore_n 2, 1) := by decide +kernel
theorem dX4_judge_6 : decode cX4_judge 6 = .ok (.iload_n 2, 1) := by decide +kernel
theorem dX4_judge_7 : decode cX4_judge 7 = .ok (.iconst (-1), 1) := by decide +kernel
theorem dX4_judge_8 : decode cX4_judge 8 = .ok (.if_icmp .eq 9, 3) := by decide +kernel
theorem dX4_judge_11 : decode cX4_judge 11 = .ok (.aload_n 0, 1) := by decide +kernel
theorem dX4_judge_12 : decode cX4_judge 12 = .ok (.iload_n 2, 1) := by decide +kernel
theorem dX4_judge_13 : decode cX4_judge 13 = .ok (.invokevirtual 48, 3) := by decide +kernel
theorem dX4_judge_16 : decode cX4_judge 16 = .ok (.ireturn, 1) := by decide +kernel
theorem dX4_judge_17 : decode cX4_judge 17 = .ok (.aload_n 0, 1) := by decide +kernel
theorem dX4_judge_18 : decode cX4_judge 18 = .ok (.getfield 28, 3) := by decide +kernel
theorem dX4_judge_21 : decode cX4_judge 21 = .ok (.iload_n 1, 1) := by decide +kernel
theorem dX4_judge_22 : decode cX4_judge 22 = .ok (.aaload, 1) := by decide +kernel
theorem dX4_judge_23 : decode cX4_judge 23 = .ok (.astore_n 3, 1) := by decide +kernel
theorem dX4_judge_24 : decode cX4_judge 24 = .ok (.iconst 0, 1) := by decide +kernel
theorem dX4_judge_25 : decode cX4_judge 25 = .ok (.istore 4, 2) := by decide +kernel
theorem dX4_judge_27 : decode cX4_judge 27 = .ok (.iload 4, 2) := by decide +kernel
theorem dX4_judge_29 : decode cX4_judge 29 = .ok (.aload_n 3, 1) := by decide +kernel
theorem dX4_judge_30 : decode cX4_judge 30 = .ok (.getfield 185, 3) := by decide +kernel
theorem dX4_judge_33 : decode cX4_judge 33 = .ok (.if_icmp .ge 46, 3) := by decide +kernel
theorem dX4_judge_36 : decode cX4_judge 36 = .ok (.aload_n 0, 1) := by decide +kernel
theorem dX4_judge_37 : decode cX4_judge 37 = .ok (.iload 4, 2) := by decide +kernel
theorem dX4_judge_39 : decode cX4_judge 39 = .ok (.invokevirtual 67, 3) := by decide +kernel
theorem dX4_judge_42 : decode cX4_judge 42 = .ok (.ifCond .eq 26, 3) := by decide +kernel
theorem dX4_judge_45 : decode cX4_judge 45 = .ok (.aload_n 0, 1) := by decide +kernel
theorem dX4_judge_46 : decode cX4_judge 46 = .ok (.getfield 10, 3) := by decide +kernel
theorem dX4_judge_49 : decode cX4_judge 49 = .ok (.getfield 71, 3) := by decide +kernel
theorem dX4_judge_52 : decode cX4_judge 52 = .ok (.iload 4, 2) := by decide +kernel
theorem dX4_judge_54 : decode cX4_judge 54 = .ok (.aaload, 1) := by decide +kernel
theorem dX4_judge_55 : decode cX4_judge 55 = .ok (.getfield 196, 3) := by decide +kernel
theorem dX4_judge_58 : decode cX4_judge 58 = .ok (.aload_n 3, 1) := by decide +kernel
theorem dX4_judge_59 : decode cX4_judge 59 = .ok (.getfield 193, 3) := by decide +kernel
theorem dX4_judge_62 : decode cX4_judge 62 = .ok (.iload 4, 2) := by decide +kernel
theorem dX4_judge_64 : decode cX4_judge 64 = .ok (.iaload, 1) := by decide +kernel
theorem dX4_judge_65 : decode cX4_judge 65 = .ok (.if_icmp .eq 8, 3) := by decide +kernel
theorem dX4_judge_68 : decode cX4_judge 68 = .ok (.iconst 1, 1) := by decide +kernel
theorem dX4_judge_69 : decode cX4_judge 69 = .ok (.iload 4, 2) := by decide +kernel
theorem dX4_judge_71 : decode cX4_judge 71 = .ok (.iadd, 1) := by decide +kernel
theorem dX4_judge_72 : decode cX4_judge 72 = .ok (.ireturn, 1) := by decide +kernel
theorem dX4_judge_73 : decode cX4_judge 73 = .ok (.iinc 4 1, 3) := by decide +kernel
theorem dX4_judge_76 : decode cX4_judge 76 = .ok (.goto (-49), 3) := by decide +kernel
theorem dX4_judge_79 : decode cX4_judge 79 = .ok (.iconst 0, 1) := by decide +kernel
theorem dX4_judge_80 : decode cX4_judge 80 = .ok (.ireturn, 1) := by decide +kernel
theorem dX4_image_0 : decode cX4_image 0 = .ok (.aload_n 0, 1) := by decide +kernel
theorem dX4_image_1 : decode cX4_image 1 = .ok (.getfield 19, 3) := by decide +kernel
theorem dX4_image_4 : decode cX4_image 4 = .ok (.aload_n 0, 1) := by decide +kernel
theorem dX4_image_5 : decode cX4_image 5 = .ok (.getfield 10, 3) := by decide +kernel
theorem dX4_image_8 : decode cX4_image 8 = .ok (.invokevirtual 135, 3) := by decide +kernel
theorem dX4_image_11 : decode cX4_image 11 = .ok (.aload_n 0, 1) := by decide +kernel
theorem dX4_image_12 : decode cX4_image 12 = .ok (.iconst 1, 1) := by decide +kernel
theorem dX4_image_13 : decode cX4_image 13 = .ok (.putfield 22, 3) := by decide +kernel
theorem dX4_image_16 : decode cX4_image 16 = .ok (.iconst 1, 1) := by decide +kernel
theorem dX4_image_17 : decode cX4_image 17 = .ok (.ireturn, 1) := by decide +kernel
theorem dX4_undo_0 : decode cX4_undo 0 = .ok (.aload_n 0, 1) := by decide +kernel
theorem dX4_undo_1 : decode cX4_undo 1 = .ok (.getfield 22, 3) := by decide +kernel
theorem dX4_undo_4 : decode cX4_undo 4 = .ok (.ifCond .ne 9, 3) := by decide +kernel
theorem dX4_undo_7 : decode cX4_undo 7 = .ok (.aload_n 0, 1) := by decide +kernel
theorem dX4_undo_8 : decode cX4_undo 8 = .ok (.iconst 3, 1) := by decide +kernel
theorem dX4_undo_9 : decode cX4_undo 9 = .ok (.invokevirtual 48, 3) := by decide +kernel
theorem dX4_undo_12 : decode cX4_undo 12 = .ok (.ireturn, 1) := by decide +kernel
theorem dX4_undo_13 : decode cX4_undo 13 = .ok (.aload_n 0, 1) := by decide +kernel
theorem dX4_undo_14 : decode cX4_undo 14 = .ok (.getfield 10, 3) := by decide +kernel
theorem dX4_undo_17 : decode cX4_undo 17 = .ok (.aload_n 0, 1) := by decide +kernel
theorem dX4_undo_18 : decode cX4_undo 18 = .ok (.getfield 19, 3) := by decide +kernel
theorem dX4_undo_21 : decode cX4_undo 21 = .ok (.invokevirtual 135, 3) := by decide +kernel
theorem dX4_undo_24 : decode cX4_undo 24 = .ok (.aload_n 0, 1) := by decide +kernel
theorem dX4_undo_25 : decode cX4_undo 25 = .ok (.getfield 10, 3) := by decide +kernel
theorem dX4_undo_28 : decode cX4_undo 28 = .ok (.getfield 109, 3) := by decide +kernel
theorem dX4_undo_31 : decode cX4_undo 31 = .ok (.ireturn, 1) := by decide +kernel
theorem dX4_tear_0 : decode cX4_tear 0 = .ok (.aload_n 0, 1) := by decide +kernel
theorem dX4_tear_1 : decode cX4_tear 1 = .ok (.getfield 22, 3) := by decide +kernel
theorem dX4_tear_4 : decode cX4_tear 4 = .ok (.ifCond .eq 7, 3) := by decide +kernel
theorem dX4_tear_7 : decode cX4_tear 7 = .ok (.iconst 1, 1) := by decide +kernel
theorem dX4_tear_8 : decode cX4_tear 8 = .ok (.goto 4, 3) := by decide +kernel
theorem dX4_tear_11 : decode cX4_tear 11 = .ok (.iconst 0, 1) := by decide +kernel
theorem dX4_tear_12 : decode cX4_tear 12 = .ok (.istore_n 1, 1) := by decide +kernel
theorem dX4_tear_13 : decode cX4_tear 13 = .ok (.aload_n 0, 1) := by decide +kernel
theorem dX4_tear_14 : decode cX4_tear 14 = .ok (.iconst 0, 1) := by decide +kernel
theorem dX4_tear_15 : decode cX4_tear 15 = .ok (.putfield 22, 3) := by decide +kernel
theorem dX4_tear_18 : decode cX4_tear 18 = .ok (.iload_n 1, 1) := by decide +kernel
theorem dX4_tear_19 : decode cX4_tear 19 = .ok (.ireturn, 1) := by decide +kernel
theorem dX4_count_0 : decode cX4_count 0 = .ok (.iload_n 1, 1) := by decide +kernel
theorem dX4_count_1 : decode cX4_count 1 = .ok (.tableswitch 111 0 7 #[47, 55, 63, 71, 79, 87, 95, 103], 47) := by decide +kernel
theorem dX4_count_48 : decode cX4_count 48 = .ok (.aload_n 0, 1) := by decide +kernel
theorem dX4_count_49 : decode cX4_count 49 = .ok (.getfield 10, 3) := by decide +kernel
theorem dX4_count_52 : decode cX4_count 52 = .ok (.getfield 109, 3) := by decide +kernel
theorem dX4_count_55 : decode cX4_count 55 = .ok (.ireturn, 1) := by decide +kernel
theorem dX4_count_56 : decode cX4_count 56 = .ok (.aload_n 0, 1) := by decide +kernel
theorem dX4_count_57 : decode cX4_count 57 = .ok (.getfield 10, 3) := by decide +kernel
theorem dX4_count_60 : decode cX4_count 60 = .ok (.getfield 160, 3) := by decide +kernel
theorem dX4_count_63 : decode cX4_count 63 = .ok (.ireturn, 1) := by decide +kernel
theorem dX4_count_64 : decode cX4_count 64 = .ok (.aload_n 0, 1) := by decide +kernel
theorem dX4_count_65 : decode cX4_count 65 = .ok (.getfield 10, 3) := by decide +kernel
theorem dX4_count_68 : decode cX4_count 68 = .ok (.getfield 117, 3) := by decide +kernel
theorem dX4_count_71 : decode cX4_count 71 = .ok (.ireturn, 1) := by decide +kernel
theorem dX4_count_72 : decode cX4_count 72 = .ok (.aload_n 0, 1) := by decide +kernel
theorem dX4_count_73 : decode cX4_count 73 = .ok (.getfield 10, 3) := by decide +kernel
theorem dX4_count_76 : decode cX4_count 76 = .ok (.invokevirtual 120, 3) := by decide +kernel
theorem dX4_count_79 : decode cX4_count 79 = .ok (.ireturn, 1) := by decide +kernel
theorem dX4_count_80 : decode cX4_count 80 = .ok (.aload_n 0, 1) := by decide +kernel
theorem dX4_count_81 : decode cX4_count 81 = .ok (.getfield 10, 3) := by decide +kernel
theorem dX4_count_84 : decode cX4_count 84 = .ok (.invokevirtual 123, 3) := by decide +kernel
theorem dX4_count_87 : decode cX4_count 87 = .ok (.ireturn, 1) := by decide +kernel
theorem dX4_count_88 : decode cX4_count 88 = .ok (.aload_n 0, 1) := by decide +kernel
theorem dX4_count_89 : decode cX4_count 89 = .ok (.getfield 35, 3) := by decide +kernel
theorem dX4_count_92 : decode cX4_count 92 = .ok (.getfield 212, 3) := by decide +kernel
theorem dX4_count_95 : decode cX4_count 95 = .ok (.ireturn, 1) := by decide +kernel
theorem dX4_count_96 : decode cX4_count 96 = .ok (.aload_n 0, 1) := by decide +kernel
theorem dX4_count_97 : decode cX4_count 97 = .ok (.getfield 10, 3) := by decide +kernel
theorem dX4_count_100 : decode cX4_count 100 = .ok (.getfield 209, 3) := by decide +kernel
theorem dX4_count_103 : decode cX4_count 103 = .ok (.ireturn, 1) := by decide +kernel
theorem dX4_count_104 : decode cX4_count 104 = .ok (.aload_n 0, 1) := by decide +kernel
theorem dX4_count_105 : decode cX4_count 105 = .ok (.getfield 10, 3) := by decide +kernel
theorem dX4_count_108 : decode cX4_count 108 = .ok (.invokevirtual 241, 3) := by decide +kernel
theorem dX4_count_111 : decode cX4_count 111 = .ok (.ireturn, 1) := by decide +kernel
theorem dX4_count_112 : decode cX4_count 112 = .ok (.aload_n 0, 1) := by decide +kernel
theorem dX4_count_113 : decode cX4_count 113 = .ok (.iconst 0, 1) := by decide +kernel
theorem dX4_count_114 : decode cX4_count 114 = .ok (.invokevirtual 48, 3) := by decide +kernel
theorem dX4_count_117 : decode cX4_count 117 = .ok (.ireturn, 1) := by decide +kernel
theorem dX4_status_0 : decode cX4_status 0 = .ok (.iload_n 1, 1) := by decide +kernel
theorem dX4_status_1 : decode cX4_status 1 = .ok (.iconst (-1), 1) := by decide +kernel
theorem dX4_status_2 : decode cX4_status 2 = .ok (.if_icmp .ne 30, 3) := by decide +kernel
theorem dX4_status_5 : decode cX4_status 5 = .ok (.iconst 0, 1) := by decide +kernel
theorem dX4_status_6 : decode cX4_status 6 = .ok (.istore_n 2, 1) := by decide +kernel
theorem dX4_status_7 : decode cX4_status 7 = .ok (.iconst 0, 1) := by decide +kernel
theorem dX4_status_8 : decode cX4_status 8 = .ok (.istore_n 3, 1) := by decide +kernel
theorem dX4_status_9 : decode cX4_status 9 = .ok (.iload_n 3, 1) := by decide +kernel
theorem dX4_status_10 : decode cX4_status 10 = .ok (.bipush 7, 2) := by decide +kernel
theorem dX4_status_12 : decode cX4_status 12 = .ok (.if_icmp .ge 18, 3) := by decide +kernel
theorem dX4_status_15 : decode cX4_status 15 = .ok (.iload_n 2, 1) := by decide +kernel
theorem dX4_status_16 : decode cX4_status 16 = .ok (.aload_n 0, 1) := by decide +kernel
theorem dX4_status_17 : decode cX4_status 17 = .ok (.getfield 39, 3) := by decide +kernel
theorem dX4_status_20 : decode cX4_status 20 = .ok (.iload_n 3, 1) := by decide +kernel
theorem dX4_status_21 : decode cX4_status 21 = .ok (.iaload, 1) := by decide +kernel
theorem dX4_status_22 : decode cX4_status 22 = .ok (.iadd, 1) := by decide +kernel
theorem dX4_status_23 : decode cX4_status 23 = .ok (.istore_n 2, 1) := by decide +kernel
theorem dX4_status_24 : decode cX4_status 24 = .ok (.iinc 3 1, 3) := by decide +kernel
theorem dX4_status_27 : decode cX4_status 27 = .ok (.goto (-18), 3) := by decide +kernel
theorem dX4_status_30 : decode cX4_status 30 = .ok (.iload_n 2, 1) := by decide +kernel
theorem dX4_status_31 : decode cX4_status 31 = .ok (.ireturn, 1) := by decide +kernel
theorem dX4_status_32 : decode cX4_status 32 = .ok (.iload_n 1, 1) := by decide +kernel
theorem dX4_status_33 : decode cX4_status 33 = .ok (.bipush 6, 2) := by decide +kernel
theorem dX4_status_35 : decode cX4_status 35 = .ok (.invokestatic 44, 3) := by decide +kernel
theorem dX4_status_38 : decode cX4_status 38 = .ok (.ifCond .ne 9, 3) := by decide +kernel
theorem dX4_status_41 : decode cX4_status 41 = .ok (.aload_n 0, 1) := by decide +kernel
theorem dX4_status_42 : decode cX4_status 42 = .ok (.iconst 0, 1) := by decide +kernel
theorem dX4_status_43 : decode cX4_status 43 = .ok (.invokevirtual 48, 3) := by decide +kernel
theorem dX4_status_46 : decode cX4_status 46 = .ok (.ireturn, 1) := by decide +kernel
theorem dX4_status_47 : decode cX4_status 47 = .ok (.aload_n 0, 1) := by decide +kernel
theorem dX4_status_48 : decode cX4_status 48 = .ok (.getfield 39, 3) := by decide +kernel
theorem dX4_status_51 : decode cX4_status 51 = .ok (.iload_n 1, 1) := by decide +kernel
theorem dX4_status_52 : decode cX4_status 52 = .ok (.iaload, 1) := by decide +kernel
theorem dX4_status_53 : decode cX4_status 53 = .ok (.ireturn, 1) := by decide +kernel
theorem dX4_finding_0 : decode cX4_finding 0 = .ok (.aload_n 0, 1) := by decide +kernel
theorem dX4_finding_1 : decode cX4_finding 1 = .ok (.getfield 39, 3) := by decide +kernel
theorem dX4_finding_4 : decode cX4_finding 4 = .ok (.iload_n 1, 1) := by decide +kernel
theorem dX4_finding_5 : decode cX4_finding 5 = .ok (.dup2, 1) := by decide +kernel
theorem dX4_finding_6 : decode cX4_finding 6 = .ok (.iaload, 1) := by decide +kernel
theorem dX4_finding_7 : decode cX4_finding 7 = .ok (.iconst 1, 1) := by decide +kernel
theorem dX4_finding_8 : decode cX4_finding 8 = .ok (.iadd, 1) := by decide +kernel
theorem dX4_finding_9 : decode cX4_finding 9 = .ok (.iastore, 1) := by decide +kernel
theorem dX4_finding_10 : decode cX4_finding 10 = .ok (.ldc 244, 2) := by decide +kernel
theorem dX4_finding_12 : decode cX4_finding 12 = .ok (.iload_n 1, 1) := by decide +kernel
theorem dX4_finding_13 : decode cX4_finding 13 = .ok (.isub, 1) := by decide +kernel
theorem dX4_finding_14 : decode cX4_finding 14 = .ok (.ireturn, 1) := by decide +kernel
theorem dX4_isWithin_0 : decode cX4_isWithin 0 = .ok (.iload_n 0, 1) := by decide +kernel
theorem dX4_isWithin_1 : decode cX4_isWithin 1 = .ok (.ifCond .lt 12, 3) := by decide +kernel
theorem dX4_isWithin_4 : decode cX4_isWithin 4 = .ok (.iload_n 0, 1) := by decide +kernel
theorem dX4_isWithin_5 : decode cX4_isWithin 5 = .ok (.iload_n 1, 1) := by decide +kernel
theorem dX4_isWithin_6 : decode cX4_isWithin 6 = .ok (.if_icmp .gt 7, 3) := by decide +kernel
theorem dX4_isWithin_9 : decode cX4_isWithin 9 = .ok (.iconst 1, 1) := by decide +kernel
theorem dX4_isWithin_10 : decode cX4_isWithin 10 = .ok (.goto 4, 3) := by decide +kernel
theorem dX4_isWithin_13 : decode cX4_isWithin 13 = .ok (.iconst 0, 1) := by decide +kernel
theorem dX4_isWithin_14 : decode cX4_isWithin 14 = .ok (.ireturn, 1) := by decide +kernel
theorem dX4_isPotter_0 : decode cX4_isPotter 0 = .ok (.iload_n 1, 1) := by decide +kernel
theorem dX4_isPotter_1 : decode cX4_isPotter 1 = .ok (.ifCond .lt 18, 3) := by decide +kernel
theorem dX4_isPotter_4 : decode cX4_isPotter 4 = .ok (.iload_n 1, 1) := by decide +kernel
theorem dX4_isPotter_5 : decode cX4_isPotter 5 = .ok (.aload_n 0, 1) := by decide +kernel
theorem dX4_isPotter_6 : decode cX4_isPotter 6 = .ok (.getfield 10, 3) := by decide +kernel
theorem dX4_isPotter_9 : decode cX4_isPotter 9 = .ok (.getfield 160, 3) := by decide +kernel
theorem dX4_isPotter_12 : decode cX4_isPotter 12 = .ok (.if_icmp .ge 7, 3) := by decide +kernel
theorem dX4_isPotter_15 : decode cX4_isPotter 15 = .ok (.iconst 1, 1) := by decide +kernel
theorem dX4_isPotter_16 : decode cX4_isPotter 16 = .ok (.goto 4, 3) := by decide +kernel
theorem dX4_isPotter_19 : decode cX4_isPotter 19 = .ok (.iconst 0, 1) := by decide +kernel
theorem dX4_isPotter_20 : decode cX4_isPotter 20 = .ok (.ireturn, 1) := by decide +kernel
theorem dX4_sheetFault_0 : decode cX4_sheetFault 0 = .ok (.iload_n 1, 1) := by decide +kernel
theorem dX4_sheetFault_1 : decode cX4_sheetFault 1 = .ok (.iconst 3, 1) := by decide +kernel
theorem dX4_sheetFault_2 : decode cX4_sheetFault 2 = .ok (.invokestatic 44, 3) := by decide +kernel
theorem dX4_sheetFault_5 : decode cX4_sheetFault 5 = .ok (.ifCond .ne 5, 3) := by decide +kernel
theorem dX4_sheetFault_8 : decode cX4_sheetFault 8 = .ok (.iconst 0, 1) := by decide +kernel
theorem dX4_sheetFault_9 : decode cX4_sheetFault 9 = .ok (.ireturn, 1) := by decide +kernel
theorem dX4_sheetFault_10 : decode cX4_sheetFault 10 = .ok (.aload_n 0, 1) := by decide +kernel
theorem dX4_sheetFault_11 : decode cX4_sheetFault 11 = .ok (.getfield 28, 3) := by decide +kernel
theorem dX4_sheetFault_14 : decode cX4_sheetFault 14 = .ok (.iload_n 1, 1) := by decide +kernel
theorem dX4_sheetFault_15 : decode cX4_sheetFault 15 = .ok (.aaload, 1) := by decide +kernel
theorem dX4_sheetFault_16 : decode cX4_sheetFault 16 = .ok (.getfield 229, 3) := by decide +kernel
theorem dX4_sheetFault_19 : decode cX4_sheetFault 19 = .ok (.ifCond .ne 7, 3) := by decide +kernel
theorem dX4_sheetFault_22 : decode cX4_sheetFault 22 = .ok (.iconst 5, 1) := by decide +kernel
theorem dX4_sheetFault_23 : decode cX4_sheetFault 23 = .ok (.goto 4, 3) := by decide +kernel
theorem dX4_sheetFault_26 : decode cX4_sheetFault 26 = .ok (.iconst (-1), 1) := by decide +kernel
theorem dX4_sheetFault_27 : decode cX4_sheetFault 27 = .ok (.ireturn, 1) := by decide +kernel
theorem dX4_mostOf_0 : decode cX4_mostOf 0 = .ok (.iload_n 0, 1) := by decide +kernel
theorem dX4_mostOf_1 : decode cX4_mostOf 1 = .ok (.tableswitch 51 0 4 #[35, 38, 41, 44, 48], 35) := by decide +kernel
theorem dX4_mostOf_36 : decode cX4_mostOf 36 = .ok (.bipush 6, 2) := by decide +kernel
theorem dX4_mostOf_38 : decode cX4_mostOf 38 = .ok (.ireturn, 1) := by decide +kernel
theorem dX4_mostOf_39 : decode cX4_mostOf 39 = .ok (.bipush 99, 2) := by decide +kernel
theorem dX4_mostOf_41 : decode cX4_mostOf 41 = .ok (.ireturn, 1) := by decide +kernel
theorem dX4_mostOf_42 : decode cX4_mostOf 42 = .ok (.bipush 9, 2) := by decide +kernel
theorem dX4_mostOf_44 : decode cX4_mostOf 44 = .ok (.ireturn, 1) := by decide +kernel
theorem dX4_mostOf_45 : decode cX4_mostOf 45 = .ok (.sipush 999, 3) := by decide +kernel
theorem dX4_mostOf_48 : decode cX4_mostOf 48 = .ok (.ireturn, 1) := by decide +kernel
theorem dX4_mostOf_49 : decode cX4_mostOf 49 = .ok (.bipush 7, 2) := by decide +kernel
theorem dX4_mostOf_51 : decode cX4_mostOf 51 = .ok (.ireturn, 1) := by decide +kernel
theorem dX4_mostOf_52 : decode cX4_mostOf 52 = .ok (.sipush 9999, 3) := by decide +kernel
theorem dX4_mostOf_55 : decode cX4_mostOf 55 = .ok (.ireturn, 1) := by decide +kernel
