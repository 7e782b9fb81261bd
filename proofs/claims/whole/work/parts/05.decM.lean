theorem dX5_init_0 : decode cX5_init 0 = .ok (.aload_n 0, 1) := by decide +kernel
theorem dX5_init_1 : decode cX5_init 1 = .ok (.invokespecial 1, 3) := by decide +kernel
theorem dX5_init_4 : decode cX5_init 4 = .ok (.aload_n 0, 1) := by decide +kernel
theorem dX5_init_5 : decode cX5_init 5 = .ok (.bipush 77, 2) := by decide +kernel
theorem dX5_init_7 : decode cX5_init 7 = .ok (.newarray .int, 2) := by decide +kernel
theorem dX5_init_9 : decode cX5_init 9 = .ok (.putfield 9, 3) := by decide +kernel
theorem dX5_init_12 : decode cX5_init 12 = .ok (.aload_n 0, 1) := by decide +kernel
theorem dX5_init_13 : decode cX5_init 13 = .ok (.bipush 77, 2) := by decide +kernel
theorem dX5_init_15 : decode cX5_init 15 = .ok (.newarray .int, 2) := by decide +kernel
theorem dX5_init_17 : decode cX5_init 17 = .ok (.putfield 13, 3) := by decide +kernel
theorem dX5_init_20 : decode cX5_init 20 = .ok (.aload_n 0, 1) := by decide +kernel
theorem dX5_init_21 : decode cX5_init 21 = .ok (.bipush 77, 2) := by decide +kernel
theorem dX5_init_23 : decode cX5_init 23 = .ok (.newarray .int, 2) := by decide +kernel
theorem dX5_init_25 : decode cX5_init 25 = .ok (.putfield 16, 3) := by decide +kernel
theorem dX5_init_28 : decode cX5_init 28 = .ok (.aload_n 0, 1) := by decide +kernel
theorem dX5_init_29 : decode cX5_init 29 = .ok (.bipush 8, 2) := by decide +kernel
theorem dX5_init_31 : decode cX5_init 31 = .ok (.newarray .int, 2) := by decide +kernel
theorem dX5_init_33 : decode cX5_init 33 = .ok (.putfield 19, 3) := by decide +kernel
theorem dX5_init_36 : decode cX5_init 36 = .ok (.aload_n 0, 1) := by decide +kernel
theorem dX5_init_37 : decode cX5_init 37 = .ok (.bipush 120, 2) := by decide +kernel
theorem dX5_init_39 : decode cX5_init 39 = .ok (.newarray .int, 2) := by decide +kernel
theorem dX5_init_41 : decode cX5_init 41 = .ok (.putfield 22, 3) := by decide +kernel
theorem dX5_init_44 : decode cX5_init 44 = .ok (.aload_n 0, 1) := by decide +kernel
theorem dX5_init_45 : decode cX5_init 45 = .ok (.bipush 7, 2) := by decide +kernel
theorem dX5_init_47 : decode cX5_init 47 = .ok (.anewarray 25, 3) := by decide +kernel
theorem dX5_init_50 : decode cX5_init 50 = .ok (.dup, 1) := by decide +kernel
theorem dX5_init_51 : decode cX5_init 51 = .ok (.iconst 0, 1) := by decide +kernel
theorem dX5_init_52 : decode cX5_init 52 = .ok (.ldc 27, 2) := by decide +kernel
theorem dX5_init_54 : decode cX5_init 54 = .ok (.aastore, 1) := by decide +kernel
theorem dX5_init_55 : decode cX5_init 55 = .ok (.dup, 1) := by decide +kernel
theorem dX5_init_56 : decode cX5_init 56 = .ok (.iconst 1, 1) := by decide +kernel
theorem dX5_init_57 : decode cX5_init 57 = .ok (.ldc 29, 2) := by decide +kernel
theorem dX5_init_59 : decode cX5_init 59 = .ok (.aastore, 1) := by decide +kernel
theorem dX5_init_60 : decode cX5_init 60 = .ok (.dup, 1) := by decide +kernel
theorem dX5_init_61 : decode cX5_init 61 = .ok (.iconst 2, 1) := by decide +kernel
theorem dX5_init_62 : decode cX5_init 62 = .ok (.ldc 31, 2) := by decide +kernel
theorem dX5_init_64 : decode cX5_init 64 = .ok (.aastore, 1) := by decide +kernel
theorem dX5_init_65 : decode cX5_init 65 = .ok (.dup, 1) := by decide +kernel
theorem dX5_init_66 : decode cX5_init 66 = .ok (.iconst 3, 1) := by decide +kernel
theorem dX5_init_67 : decode cX5_init 67 = .ok (.ldc 33, 2) := by decide +kernel
theorem dX5_init_69 : decode cX5_init 69 = .ok (.aastore, 1) := by decide +kernel
theorem dX5_init_70 : decode cX5_init 70 = .ok (.dup, 1) := by decide +kernel
theorem dX5_init_71 : decode cX5_init 71 = .ok (.iconst 4, 1) := by decide +kernel
theorem dX5_init_72 : decode cX5_init 72 = .ok (.ldc 35, 2) := by decide +kernel
theorem dX5_init_74 : decode cX5_init 74 = .ok (.aastore, 1) := by decide +kernel
theorem dX5_init_75 : decode cX5_init 75 = .ok (.dup, 1) := by decide +kernel
theorem dX5_init_76 : decode cX5_init 76 = .ok (.iconst 5, 1) := by decide +kernel
theorem dX5_init_77 : decode cX5_init 77 = .ok (.ldc 37, 2) := by decide +kernel
theorem dX5_init_79 : decode cX5_init 79 = .ok (.aastore, 1) := by decide +kernel
theorem dX5_init_80 : decode cX5_init 80 = .ok (.dup, 1) := by decide +kernel
theorem dX5_init_81 : decode cX5_init 81 = .ok (.bipush 6, 2) := by decide +kernel
theorem dX5_init_83 : decode cX5_init 83 = .ok (.ldc 39, 2) := by decide +kernel
theorem dX5_init_85 : decode cX5_init 85 = .ok (.aastore, 1) := by decide +kernel
theorem dX5_init_86 : decode cX5_init 86 = .ok (.putfield 41, 3) := by decide +kernel
theorem dX5_init_89 : decode cX5_init 89 = .ok (.aload_n 0, 1) := by decide +kernel
theorem dX5_init_90 : decode cX5_init 90 = .ok (.sipush 480, 3) := by decide +kernel
theorem dX5_init_93 : decode cX5_init 93 = .ok (.newarray .int, 2) := by decide +kernel
theorem dX5_init_95 : decode cX5_init 95 = .ok (.putfield 45, 3) := by decide +kernel
theorem dX5_init_98 : decode cX5_init 98 = .ok (.aload_n 0, 1) := by decide +kernel
theorem dX5_init_99 : decode cX5_init 99 = .ok (.iconst 4, 1) := by decide +kernel
theorem dX5_init_100 : decode cX5_init 100 = .ok (.newarray .int, 2) := by decide +kernel
theorem dX5_init_102 : decode cX5_init 102 = .ok (.putfield 48, 3) := by decide +kernel
theorem dX5_init_105 : decode cX5_init 105 = .ok (.aload_n 0, 1) := by decide +kernel
theorem dX5_init_106 : decode cX5_init 106 = .ok (.iconst 4, 1) := by decide +kernel
theorem dX5_init_107 : decode cX5_init 107 = .ok (.newarray .int, 2) := by decide +kernel
theorem dX5_init_109 : decode cX5_init 109 = .ok (.putfield 51, 3) := by decide +kernel
theorem dX5_init_112 : decode cX5_init 112 = .ok (.aload_n 0, 1) := by decide +kernel
theorem dX5_init_113 : decode cX5_init 113 = .ok (.sipush 160, 3) := by decide +kernel
theorem dX5_init_116 : decode cX5_init 116 = .ok (.newarray .int, 2) := by decide +kernel
theorem dX5_init_118 : decode cX5_init 118 = .ok (.putfield 54, 3) := by decide +kernel
theorem dX5_init_121 : decode cX5_init 121 = .ok (.aload_n 0, 1) := by decide +kernel
theorem dX5_init_122 : decode cX5_init 122 = .ok (.bipush 40, 2) := by decide +kernel
theorem dX5_init_124 : decode cX5_init 124 = .ok (.newarray .int, 2) := by decide +kernel
theorem dX5_init_126 : decode cX5_init 126 = .ok (.putfield 57, 3) := by decide +kernel
theorem dX5_init_129 : decode cX5_init 129 = .ok (.aload_n 0, 1) := by decide +kernel
theorem dX5_init_130 : decode cX5_init 130 = .ok (.getfield 9, 3) := by decide +kernel
theorem dX5_init_133 : decode cX5_init 133 = .ok (.iconst 2, 1) := by decide +kernel
theorem dX5_init_134 : decode cX5_init 134 = .ok (.iconst 1, 1) := by decide +kernel
theorem dX5_init_135 : decode cX5_init 135 = .ok (.iastore, 1) := by decide +kernel
theorem dX5_init_136 : decode cX5_init 136 = .ok (.iconst 0, 1) := by decide +kernel
theorem dX5_init_137 : decode cX5_init 137 = .ok (.istore_n 1, 1) := by decide +kernel
theorem dX5_init_138 : decode cX5_init 138 = .ok (.iload_n 1, 1) := by decide +kernel
theorem dX5_init_139 : decode cX5_init 139 = .ok (.bipush 10, 2) := by decide +kernel
theorem dX5_init_141 : decode cX5_init 141 = .ok (.if_icmp .ge 19, 3) := by decide +kernel
theorem dX5_init_144 : decode cX5_init 144 = .ok (.aload_n 0, 1) := by decide +kernel
theorem dX5_init_145 : decode cX5_init 145 = .ok (.getfield 9, 3) := by decide +kernel
theorem dX5_init_148 : decode cX5_init 148 = .ok (.bipush 11, 2) := by decide +kernel
theorem dX5_init_150 : decode cX5_init 150 = .ok (.iload_n 1, 1) := by decide +kernel
theorem dX5_init_151 : decode cX5_init 151 = .ok (.iadd, 1) := by decide +kernel
theorem dX5_init_152 : decode cX5_init 152 = .ok (.iconst (-1), 1) := by decide +kernel
theorem dX5_init_153 : decode cX5_init 153 = .ok (.iastore, 1) := by decide +kernel
theorem dX5_init_154 : decode cX5_init 154 = .ok (.iinc 1 1, 3) := by decide +kernel
theorem dX5_init_157 : decode cX5_init 157 = .ok (.goto (-19), 3) := by decide +kernel
theorem dX5_init_160 : decode cX5_init 160 = .ok (.return_, 1) := by decide +kernel
theorem dX5_finding_0 : decode cX5_finding 0 = .ok (.aload_n 0, 1) := by decide +kernel
theorem dX5_finding_1 : decode cX5_finding 1 = .ok (.getfield 19, 3) := by decide +kernel
theorem dX5_finding_4 : decode cX5_finding 4 = .ok (.ldc 60, 2) := by decide +kernel
theorem dX5_finding_6 : decode cX5_finding 6 = .ok (.iload_n 1, 1) := by decide +kernel
theorem dX5_finding_7 : decode cX5_finding 7 = .ok (.isub, 1) := by decide +kernel
theorem dX5_finding_8 : decode cX5_finding 8 = .ok (.iconst 1, 1) := by decide +kernel
theorem dX5_finding_9 : decode cX5_finding 9 = .ok (.iadd, 1) := by decide +kernel
theorem dX5_finding_10 : decode cX5_finding 10 = .ok (.dup2, 1) := by decide +kernel
theorem dX5_finding_11 : decode cX5_finding 11 = .ok (.iaload, 1) := by decide +kernel
theorem dX5_finding_12 : decode cX5_finding 12 = .ok (.iconst 1, 1) := by decide +kernel
theorem dX5_finding_13 : decode cX5_finding 13 = .ok (.iadd, 1) := by decide +kernel
theorem dX5_finding_14 : decode cX5_finding 14 = .ok (.iastore, 1) := by decide +kernel
theorem dX5_finding_15 : decode cX5_finding 15 = .ok (.aload_n 0, 1) := by decide +kernel
theorem dX5_finding_16 : decode cX5_finding 16 = .ok (.getfield 19, 3) := by decide +kernel
theorem dX5_finding_19 : decode cX5_finding 19 = .ok (.iconst 0, 1) := by decide +kernel
theorem dX5_finding_20 : decode cX5_finding 20 = .ok (.dup2, 1) := by decide +kernel
theorem dX5_finding_21 : decode cX5_finding 21 = .ok (.iaload, 1) := by decide +kernel
theorem dX5_finding_22 : decode cX5_finding 22 = .ok (.iconst 1, 1) := by decide +kernel
theorem dX5_finding_23 : decode cX5_finding 23 = .ok (.iadd, 1) := by decide +kernel
theorem dX5_finding_24 : decode cX5_finding 24 = .ok (.iastore, 1) := by decide +kernel
theorem dX5_finding_25 : decode cX5_finding 25 = .ok (.iload_n 1, 1) := by decide +kernel
theorem dX5_finding_26 : decode cX5_finding 26 = .ok (.ireturn, 1) := by decide +kernel
theorem dX5_within_0 : decode cX5_within 0 = .ok (.iload_n 0, 1) := by decide +kernel
theorem dX5_within_1 : decode cX5_within 1 = .ok (.iload_n 1, 1) := by decide +kernel
theorem dX5_within_2 : decode cX5_within 2 = .ok (.if_icmp .lt 12, 3) := by decide +kernel
theorem dX5_within_5 : decode cX5_within 5 = .ok (.iload_n 0, 1) := by decide +kernel
theorem dX5_within_6 : decode cX5_within 6 = .ok (.iload_n 2, 1) := by decide +kernel
theorem dX5_within_7 : decode cX5_within 7 = .ok (.if_icmp .gt 7, 3) := by decide +kernel
theorem dX5_within_10 : decode cX5_within 10 = .ok (.iconst 1, 1) := by decide +kernel
theorem dX5_within_11 : decode cX5_within 11 = .ok (.goto 4, 3) := by decide +kernel
theorem dX5_within_14 : decode cX5_within 14 = .ok (.iconst 0, 1) := by decide +kernel
theorem dX5_within_15 : decode cX5_within 15 = .ok (.ireturn, 1) := by decide +kernel
theorem dX5_become_0 : decode cX5_become 0 = .ok (.aload_n 0, 1) := by decide +kernel
theorem dX5_become_1 : decode cX5_become 1 = .ok (.getfield 9, 3) := by decide +kernel
theorem dX5_become_4 : decode cX5_become 4 = .ok (.iload_n 1, 1) := by decide +kernel
theorem dX5_become_5 : decode cX5_become 5 = .ok (.iaload, 1) := by decide +kernel
theorem dX5_become_6 : decode cX5_become 6 = .ok (.istore_n 3, 1) := by decide +kernel
theorem dX5_become_7 : decode cX5_become 7 = .ok (.aload_n 0, 1) := by decide +kernel
theorem dX5_become_8 : decode cX5_become 8 = .ok (.getfield 9, 3) := by decide +kernel
theorem dX5_become_11 : decode cX5_become 11 = .ok (.iload_n 1, 1) := by decide +kernel
theorem dX5_become_12 : decode cX5_become 12 = .ok (.iload_n 2, 1) := by decide +kernel
theorem dX5_become_13 : decode cX5_become 13 = .ok (.iastore, 1) := by decide +kernel
theorem dX5_become_14 : decode cX5_become 14 = .ok (.iload_n 3, 1) := by decide +kernel
theorem dX5_become_15 : decode cX5_become 15 = .ok (.ireturn, 1) := by decide +kernel
theorem dX5_copyRow_0 : decode cX5_copyRow 0 = .ok (.iconst 0, 1) := by decide +kernel
theorem dX5_copyRow_1 : decode cX5_copyRow 1 = .ok (.istore_n 2, 1) := by decide +kernel
theorem dX5_copyRow_2 : decode cX5_copyRow 2 = .ok (.iload_n 2, 1) := by decide +kernel
theorem dX5_copyRow_3 : decode cX5_copyRow 3 = .ok (.bipush 77, 2) := by decide +kernel
theorem dX5_copyRow_5 : decode cX5_copyRow 5 = .ok (.if_icmp .ge 15, 3) := by decide +kernel
theorem dX5_copyRow_8 : decode cX5_copyRow 8 = .ok (.aload_n 1, 1) := by decide +kernel
theorem dX5_copyRow_9 : decode cX5_copyRow 9 = .ok (.iload_n 2, 1) := by decide +kernel
theorem dX5_copyRow_10 : decode cX5_copyRow 10 = .ok (.aload_n 0, 1) := by decide +kernel
theorem dX5_copyRow_11 : decode cX5_copyRow 11 = .ok (.iload_n 2, 1) := by decide +kernel
theorem dX5_copyRow_12 : decode cX5_copyRow 12 = .ok (.iaload, 1) := by decide +kernel
theorem dX5_copyRow_13 : decode cX5_copyRow 13 = .ok (.iastore, 1) := by decide +kernel
theorem dX5_copyRow_14 : decode cX5_copyRow 14 = .ok (.iinc 2 1, 3) := by decide +kernel
theorem dX5_copyRow_17 : decode cX5_copyRow 17 = .ok (.goto (-15), 3) := by decide +kernel
theorem dX5_copyRow_20 : decode cX5_copyRow 20 = .ok (.return_, 1) := by decide +kernel
theorem dX5_putBack_0 : decode cX5_putBack 0 = .ok (.aload_n 0, 1) := by decide +kernel
theorem dX5_putBack_1 : decode cX5_putBack 1 = .ok (.getfield 16, 3) := by decide +kernel
theorem dX5_putBack_4 : decode cX5_putBack 4 = .ok (.aload_n 0, 1) := by decide +kernel
theorem dX5_putBack_5 : decode cX5_putBack 5 = .ok (.getfield 9, 3) := by decide +kernel
theorem dX5_putBack_8 : decode cX5_putBack 8 = .ok (.invokestatic 61, 3) := by decide +kernel
theorem dX5_putBack_11 : decode cX5_putBack 11 = .ok (.iload_n 1, 1) := by decide +kernel
theorem dX5_putBack_12 : decode cX5_putBack 12 = .ok (.ireturn, 1) := by decide +kernel
theorem dX5_orNone_0 : decode cX5_orNone 0 = .ok (.iload_n 1, 1) := by decide +kernel
theorem dX5_orNone_1 : decode cX5_orNone 1 = .ok (.ifCond .ge 12, 3) := by decide +kernel
theorem dX5_orNone_4 : decode cX5_orNone 4 = .ok (.aload_n 0, 1) := by decide +kernel
theorem dX5_orNone_5 : decode cX5_orNone 5 = .ok (.ldc 65, 2) := by decide +kernel
theorem dX5_orNone_7 : decode cX5_orNone 7 = .ok (.invokevirtual 66, 3) := by decide +kernel
theorem dX5_orNone_10 : decode cX5_orNone 10 = .ok (.goto 4, 3) := by decide +kernel
theorem dX5_orNone_13 : decode cX5_orNone 13 = .ok (.iload_n 1, 1) := by decide +kernel
theorem dX5_orNone_14 : decode cX5_orNone 14 = .ok (.ireturn, 1) := by decide +kernel
theorem dX5_bits_0 : decode cX5_bits 0 = .ok (.iconst 0, 1) := by decide +kernel
theorem dX5_bits_1 : decode cX5_bits 1 = .ok (.istore_n 1, 1) := by decide +kernel
theorem dX5_bits_2 : decode cX5_bits 2 = .ok (.iload_n 0, 1) := by decide +kernel
theorem dX5_bits_3 : decode cX5_bits 3 = .ok (.istore_n 2, 1) := by decide +kernel
theorem dX5_bits_4 : decode cX5_bits 4 = .ok (.iload_n 2, 1) := by decide +kernel
theorem dX5_bits_5 : decode cX5_bits 5 = .ok (.ifCond .eq 15, 3) := by decide +kernel
theorem dX5_bits_8 : decode cX5_bits 8 = .ok (.iinc 1 1, 3) := by decide +kernel
theorem dX5_bits_11 : decode cX5_bits 11 = .ok (.iload_n 2, 1) := by decide +kernel
theorem dX5_bits_12 : decode cX5_bits 12 = .ok (.iload_n 2, 1) := by decide +kernel
theorem dX5_bits_13 : decode cX5_bits 13 = .ok (.iconst 1, 1) := by decide +kernel
theorem dX5_bits_14 : decode cX5_bits 14 = .ok (.isub, 1) := by decide +kernel
theorem dX5_bits_15 : decode cX5_bits 15 = .ok (.iand, 1) := by decide +kernel
theorem dX5_bits_16 : decode cX5_bits 16 = .ok (.istore_n 2, 1) := by decide +kernel
theorem dX5_bits_17 : decode cX5_bits 17 = .ok (.goto (-13), 3) := by decide +kernel
theorem dX5_bits_20 : decode cX5_bits 20 = .ok (.iload_n 1, 1) := by decide +kernel
theorem dX5_bits_21 : decode cX5_bits 21 = .ok (.ireturn, 1) := by decide +kernel
theorem dX5_isListed_0 : decode cX5_isListed 0 = .ok (.iload_n 0, 1) := by decide +kernel
theorem dX5_isListed_1 : decode cX5_isListed 1 = .ok (.iconst 0, 1) := by decide +kernel
theorem dX5_isListed_2 : decode cX5_isListed 2 = .ok (.iconst 5, 1) := by decide +kernel
theorem dX5_isListed_3 : decode cX5_isListed 3 = .ok (.invokestatic 70, 3) := by decide +kernel
theorem dX5_isListed_6 : decode cX5_isListed 6 = .ok (.ireturn, 1) := by decide +kernel
theorem dX5_weather_0 : decode cX5_weather 0 = .ok (.iload_n 1, 1) := by decide +kernel
theorem dX5_weather_1 : decode cX5_weather 1 = .ok (.invokestatic 74, 3) := by decide +kernel
theorem dX5_weather_4 : decode cX5_weather 4 = .ok (.ifCond .eq 24, 3) := by decide +kernel
theorem dX5_weather_7 : decode cX5_weather 7 = .ok (.iload_n 2, 1) := by decide +kernel
theorem dX5_weather_8 : decode cX5_weather 8 = .ok (.iconst 0, 1) := by decide +kernel
theorem dX5_weather_9 : decode cX5_weather 9 = .ok (.bipush 99, 2) := by decide +kernel
theorem dX5_weather_11 : decode cX5_weather 11 = .ok (.invokestatic 70, 3) := by decide +kernel
theorem dX5_weather_14 : decode cX5_weather 14 = .ok (.ifCond .eq 14, 3) := by decide +kernel
theorem dX5_weather_17 : decode cX5_weather 17 = .ok (.aload_n 0, 1) := by decide +kernel
theorem dX5_weather_18 : decode cX5_weather 18 = .ok (.iconst 5, 1) := by decide +kernel
theorem dX5_weather_19 : decode cX5_weather 19 = .ok (.iload_n 1, 1) := by decide +kernel
theorem dX5_weather_20 : decode cX5_weather 20 = .ok (.iadd, 1) := by decide +kernel
theorem dX5_weather_21 : decode cX5_weather 21 = .ok (.iload_n 2, 1) := by decide +kernel
theorem dX5_weather_22 : decode cX5_weather 22 = .ok (.invokevirtual 78, 3) := by decide +kernel
theorem dX5_weather_25 : decode cX5_weather 25 = .ok (.goto 9, 3) := by decide +kernel
theorem dX5_weather_28 : decode cX5_weather 28 = .ok (.aload_n 0, 1) := by decide +kernel
theorem dX5_weather_29 : decode cX5_weather 29 = .ok (.ldc 60, 2) := by decide +kernel
theorem dX5_weather_31 : decode cX5_weather 31 = .ok (.invokevirtual 66, 3) := by decide +kernel
theorem dX5_weather_34 : decode cX5_weather 34 = .ok (.ireturn, 1) := by decide +kernel
theorem dX5_listed_0 : decode cX5_listed 0 = .ok (.iload_n 1, 1) := by decide +kernel
theorem dX5_listed_1 : decode cX5_listed 1 = .ok (.invokestatic 74, 3) := by decide +kernel
theorem dX5_listed_4 : decode cX5_listed 4 = .ok (.ifCond .eq 14, 3) := by decide +kernel
theorem dX5_listed_7 : decode cX5_listed 7 = .ok (.aload_n 0, 1) := by decide +kernel
theorem dX5_listed_8 : decode cX5_listed 8 = .ok (.getfield 9, 3) := by decide +kernel
theorem dX5_listed_11 : decode cX5_listed 11 = .ok (.iconst 5, 1) := by decide +kernel
theorem dX5_listed_12 : decode cX5_listed 12 = .ok (.iload_n 1, 1) := by decide +kernel
theorem dX5_listed_13 : decode cX5_listed 13 = .ok (.iadd, 1) := by decide +kernel
theorem dX5_listed_14 : decode cX5_listed 14 = .ok (.iaload, 1) := by decide +kernel
theorem dX5_listed_15 : decode cX5_listed 15 = .ok (.goto 9, 3) := by decide +kernel
theorem dX5_listed_18 : decode cX5_listed 18 = .ok (.aload_n 0, 1) := by decide +kernel
theorem dX5_listed_19 : decode cX5_listed 19 = .ok (.ldc 60, 2) := by decide +kernel
theorem dX5_listed_21 : decode cX5_listed 21 = .ok (.invokevirtual 66, 3) := by decide +kernel
theorem dX5_listed_24 : decode cX5_listed 24 = .ok (.ireturn, 1) := by decide +kernel
theorem dX5_onions_0 : decode cX5_onions 0 = .ok (.iload_n 1, 1) := by decide +kernel
theorem dX5_onions_1 : decode cX5_onions 1 = .ok (.iconst 0, 1) := by decide +kernel
theorem dX5_onions_2 : decode cX5_onions 2 = .ok (.bipush 99, 2) := by decide +kernel
theorem dX5_onions_4 : decode cX5_onions 4 = .ok (.invokestatic 70, 3) := by decide +kernel
theorem dX5_onions_7 : decode cX5_onions 7 = .ok (.ifCond .eq 12, 3) := by decide +kernel
theorem dX5_onions_10 : decode cX5_onions 10 = .ok (.aload_n 0, 1) := by decide +kernel
theorem dX5_onions_11 : decode cX5_onions 11 = .ok (.iconst 3, 1) := by decide +kernel
theorem dX5_onions_12 : decode cX5_onions 12 = .ok (.iload_n 1, 1) := by decide +kernel
theorem dX5_onions_13 : decode cX5_onions 13 = .ok (.invokevirtual 78, 3) := by decide +kernel
theorem dX5_onions_16 : decode cX5_onions 16 = .ok (.goto 9, 3) := by decide +kernel
theorem dX5_onions_19 : decode cX5_onions 19 = .ok (.aload_n 0, 1) := by decide +kernel
theorem dX5_onions_20 : decode cX5_onions 20 = .ok (.ldc 60, 2) := by decide +kernel
theorem dX5_onions_22 : decode cX5_onions 22 = .ok (.invokevirtual 66, 3) := by decide +kernel
theorem dX5_onions_25 : decode cX5_onions 25 = .ok (.ireturn, 1) := by decide +kernel
theorem dX5_potterAt_0 : decode cX5_potterAt 0 = .ok (.bipush 21, 2) := by decide +kernel
theorem dX5_potterAt_2 : decode cX5_potterAt 2 = .ok (.bipush 7, 2) := by decide +kernel
theorem dX5_potterAt_4 : decode cX5_potterAt 4 = .ok (.iload_n 0, 1) := by decide +kernel
theorem dX5_potterAt_5 : decode cX5_potterAt 5 = .ok (.imul, 1) := by decide +kernel
theorem dX5_potterAt_6 : decode cX5_potterAt 6 = .ok (.iadd, 1) := by decide +kernel
theorem dX5_potterAt_7 : decode cX5_potterAt 7 = .ok (.iload_n 1, 1) := by decide +kernel
theorem dX5_potterAt_8 : decode cX5_potterAt 8 = .ok (.iadd, 1) := by decide +kernel
theorem dX5_potterAt_9 : decode cX5_potterAt 9 = .ok (.ireturn, 1) := by decide +kernel
theorem dX5_potterIs_0 : decode cX5_potterIs 0 = .ok (.aload_n 0, 1) := by decide +kernel
theorem dX5_potterIs_1 : decode cX5_potterIs 1 = .ok (.getfield 9, 3) := by decide +kernel
theorem dX5_potterIs_4 : decode cX5_potterIs 4 = .ok (.iload_n 1, 1) := by decide +kernel
theorem dX5_potterIs_5 : decode cX5_potterIs 5 = .ok (.iload_n 2, 1) := by decide +kernel
theorem dX5_potterIs_6 : decode cX5_potterIs 6 = .ok (.invokestatic 82, 3) := by decide +kernel
theorem dX5_potterIs_9 : decode cX5_potterIs 9 = .ok (.iaload, 1) := by decide +kernel
theorem dX5_potterIs_10 : decode cX5_potterIs 10 = .ok (.ireturn, 1) := by decide +kernel
theorem dX5_isPotter_0 : decode cX5_isPotter 0 = .ok (.iload_n 1, 1) := by decide +kernel
theorem dX5_isPotter_1 : decode cX5_isPotter 1 = .ok (.iconst 0, 1) := by decide +kernel
theorem dX5_isPotter_2 : decode cX5_isPotter 2 = .ok (.aload_n 0, 1) := by decide +kernel
theorem dX5_isPotter_3 : decode cX5_isPotter 3 = .ok (.getfield 9, 3) := by decide +kernel
theorem dX5_isPotter_6 : decode cX5_isPotter 6 = .ok (.iconst 1, 1) := by decide +kernel
theorem dX5_isPotter_7 : decode cX5_isPotter 7 = .ok (.iaload, 1) := by decide +kernel
theorem dX5_isPotter_8 : decode cX5_isPotter 8 = .ok (.iconst 1, 1) := by decide +kernel
theorem dX5_isPotter_9 : decode cX5_isPotter 9 = .ok (.isub, 1) := by decide +kernel
theorem dX5_isPotter_10 : decode cX5_isPotter 10 = .ok (.invokestatic 70, 3) := by decide +kernel
theorem dX5_isPotter_13 : decode cX5_isPotter 13 = .ok (.ireturn, 1) := by decide +kernel
theorem dX5_isKind_0 : decode cX5_isKind 0 = .ok (.iload_n 0, 1) := by decide +kernel
theorem dX5_isKind_1 : decode cX5_isKind 1 = .ok (.iconst 0, 1) := by decide +kernel
theorem dX5_isKind_2 : decode cX5_isKind 2 = .ok (.bipush 6, 2) := by decide +kernel
theorem dX5_isKind_4 : decode cX5_isKind 4 = .ok (.invokestatic 70, 3) := by decide +kernel
theorem dX5_isKind_7 : decode cX5_isKind 7 = .ok (.ireturn, 1) := by decide +kernel
theorem dX5_comes_0 : decode cX5_comes 0 = .ok (.aload_n 0, 1) := by decide +kernel
theorem dX5_comes_1 : decode cX5_comes 1 = .ok (.getfield 9, 3) := by decide +kernel
theorem dX5_comes_4 : decode cX5_comes 4 = .ok (.iconst 1, 1) := by decide +kernel
theorem dX5_comes_5 : decode cX5_comes 5 = .ok (.iaload, 1) := by decide +kernel
theorem dX5_comes_6 : decode cX5_comes 6 = .ok (.istore_n 3, 1) := by decide +kernel
theorem dX5_comes_7 : decode cX5_comes 7 = .ok (.iconst 0, 1) := by decide +kernel
theorem dX5_comes_8 : decode cX5_comes 8 = .ok (.istore 4, 2) := by decide +kernel
theorem dX5_comes_10 : decode cX5_comes 10 = .ok (.iload 4, 2) := by decide +kernel
theorem dX5_comes_12 : decode cX5_comes 12 = .ok (.bipush 7, 2) := by decide +kernel
theorem dX5_comes_14 : decode cX5_comes 14 = .ok (.if_icmp .ge 21, 3) := by decide +kernel
theorem dX5_comes_17 : decode cX5_comes 17 = .ok (.aload_n 0, 1) := by decide +kernel
theorem dX5_comes_18 : decode cX5_comes 18 = .ok (.getfield 9, 3) := by decide +kernel
theorem dX5_comes_21 : decode cX5_comes 21 = .ok (.iload_n 3, 1) := by decide +kernel
theorem dX5_comes_22 : decode cX5_comes 22 = .ok (.iload 4, 2) := by decide +kernel
theorem dX5_comes_24 : decode cX5_comes 24 = .ok (.invokestatic 82, 3) := by decide +kernel
theorem dX5_comes_27 : decode cX5_comes 27 = .ok (.iconst 0, 1) := by decide +kernel
theorem dX5_comes_28 : decode cX5_comes 28 = .ok (.iastore, 1) := by decide +kernel
theorem dX5_comes_29 : decode cX5_comes 29 = .ok (.iinc 4 1, 3) := by decide +kernel
theorem dX5_comes_32 : decode cX5_comes 32 = .ok (.goto (-22), 3) := by decide +kernel
theorem dX5_comes_35 : decode cX5_comes 35 = .ok (.aload_n 0, 1) := by decide +kernel
theorem dX5_comes_36 : decode cX5_comes 36 = .ok (.getfield 9, 3) := by decide +kernel
theorem dX5_comes_39 : decode cX5_comes 39 = .ok (.iload_n 3, 1) := by decide +kernel
theorem dX5_comes_40 : decode cX5_comes 40 = .ok (.iconst 0, 1) := by decide +kernel
theorem dX5_comes_41 : decode cX5_comes 41 = .ok (.invokestatic 82, 3) := by decide +kernel
theorem dX5_comes_44 : decode cX5_comes 44 = .ok (.iload_n 1, 1) := by decide +kernel
theorem dX5_comes_45 : decode cX5_comes 45 = .ok (.iastore, 1) := by decide +kernel
theorem dX5_comes_46 : decode cX5_comes 46 = .ok (.aload_n 0, 1) := by decide +kernel
theorem dX5_comes_47 : decode cX5_comes 47 = .ok (.getfield 9, 3) := by decide +kernel
theorem dX5_comes_50 : decode cX5_comes 50 = .ok (.iload_n 3, 1) := by decide +kernel
theorem dX5_comes_51 : decode cX5_comes 51 = .ok (.iconst 1, 1) := by decide +kernel
theorem dX5_comes_52 : decode cX5_comes 52 = .ok (.invokestatic 82, 3) := by decide +kernel
theorem dX5_comes_55 : decode cX5_comes 55 = .ok (.iload_n 2, 1) := by decide +kernel
theorem dX5_comes_56 : decode cX5_comes 56 = .ok (.iastore, 1) := by decide +kernel
theorem dX5_comes_57 : decode cX5_comes 57 = .ok (.aload_n 0, 1) := by decide +kernel
theorem dX5_comes_58 : decode cX5_comes 58 = .ok (.getfield 9, 3) := by decide +kernel
theorem dX5_comes_61 : decode cX5_comes 61 = .ok (.iload_n 3, 1) := by decide +kernel
theorem dX5_comes_62 : decode cX5_comes 62 = .ok (.iconst 2, 1) := by decide +kernel
theorem dX5_comes_63 : decode cX5_comes 63 = .ok (.invokestatic 82, 3) := by decide +kernel
theorem dX5_comes_66 : decode cX5_comes 66 = .ok (.iconst 2, 1) := by decide +kernel
theorem dX5_comes_67 : decode cX5_comes 67 = .ok (.iastore, 1) := by decide +kernel
theorem dX5_comes_68 : decode cX5_comes 68 = .ok (.aload_n 0, 1) := by decide +kernel
theorem dX5_comes_69 : decode cX5_comes 69 = .ok (.getfield 9, 3) := by decide +kernel
theorem dX5_comes_72 : decode cX5_comes 72 = .ok (.iconst 1, 1) := by decide +kernel
theorem dX5_comes_73 : decode cX5_comes 73 = .ok (.dup2, 1) := by decide +kernel
theorem dX5_comes_74 : decode cX5_comes 74 = .ok (.iaload, 1) := by decide +kernel
theorem dX5_comes_75 : decode cX5_comes 75 = .ok (.iconst 1, 1) := by decide +kernel
theorem dX5_comes_76 : decode cX5_comes 76 = .ok (.iadd, 1) := by decide +kernel
theorem dX5_comes_77 : decode cX5_comes 77 = .ok (.iastore, 1) := by decide +kernel
theorem dX5_comes_78 : decode cX5_comes 78 = .ok (.iload_n 3, 1) := by decide +kernel
theorem dX5_comes_79 : decode cX5_comes 79 = .ok (.ireturn, 1) := by decide +kernel
theorem dX5_potter_0 : decode cX5_potter 0 = .ok (.iload_n 1, 1) := by decide +kernel
theorem dX5_potter_1 : decode cX5_potter 1 = .ok (.invokestatic 85, 3) := by decide +kernel
theorem dX5_potter_4 : decode cX5_potter 4 = .ok (.ifCond .eq 13, 3) := by decide +kernel
theorem dX5_potter_7 : decode cX5_potter 7 = .ok (.iload_n 2, 1) := by decide +kernel
theorem dX5_potter_8 : decode cX5_potter 8 = .ok (.iconst 0, 1) := by decide +kernel
theorem dX5_potter_9 : decode cX5_potter 9 = .ok (.bipush 99, 2) := by decide +kernel
theorem dX5_potter_11 : decode cX5_potter 11 = .ok (.invokestatic 70, 3) := by decide +kernel
theorem dX5_potter_14 : decode cX5_potter 14 = .ok (.ifCond .ne 10, 3) := by decide +kernel
theorem dX5_potter_17 : decode cX5_potter 17 = .ok (.aload_n 0, 1) := by decide +kernel
theorem dX5_potter_18 : decode cX5_potter 18 = .ok (.ldc 60, 2) := by decide +kernel
theorem dX5_potter_20 : decode cX5_potter 20 = .ok (.invokevirtual 66, 3) := by decide +kernel
theorem dX5_potter_23 : decode cX5_potter 23 = .ok (.ireturn, 1) := by decide +kernel
theorem dX5_potter_24 : decode cX5_potter 24 = .ok (.aload_n 0, 1) := by decide +kernel
theorem dX5_potter_25 : decode cX5_potter 25 = .ok (.getfield 9, 3) := by decide +kernel
theorem dX5_potter_28 : decode cX5_potter 28 = .ok (.iconst 1, 1) := by decide +kernel
theorem dX5_potter_29 : decode cX5_potter 29 = .ok (.iaload, 1) := by decide +kernel
theorem dX5_potter_30 : decode cX5_potter 30 = .ok (.bipush 8, 2) := by decide +kernel
theorem dX5_potter_32 : decode cX5_potter 32 = .ok (.if_icmp .ne 12, 3) := by decide +kernel
theorem dX5_potter_35 : decode cX5_potter 35 = .ok (.aload_n 0, 1) := by decide +kernel
theorem dX5_potter_36 : decode cX5_potter 36 = .ok (.ldc 88, 2) := by decide +kernel
theorem dX5_potter_38 : decode cX5_potter 38 = .ok (.invokevirtual 66, 3) := by decide +kernel
theorem dX5_potter_41 : decode cX5_potter 41 = .ok (.goto 9, 3) := by decide +kernel
theorem dX5_potter_44 : decode cX5_potter 44 = .ok (.aload_n 0, 1) := by decide +kernel
theorem dX5_potter_45 : decode cX5_potter 45 = .ok (.iload_n 1, 1) := by decide +kernel
theorem dX5_potter_46 : decode cX5_potter 46 = .ok (.iload_n 2, 1) := by decide +kernel
theorem dX5_potter_47 : decode cX5_potter 47 = .ok (.invokevirtual 89, 3) := by decide +kernel
theorem dX5_potter_50 : decode cX5_potter 50 = .ok (.ireturn, 1) := by decide +kernel
theorem dX5_cries_0 : decode cX5_cries 0 = .ok (.aload_n 0, 1) := by decide +kernel
theorem dX5_cries_1 : decode cX5_cries 1 = .ok (.iload_n 1, 1) := by decide +kernel
theorem dX5_cries_2 : decode cX5_cries 2 = .ok (.iconst 1, 1) := by decide +kernel
theorem dX5_cries_3 : decode cX5_cries 3 = .ok (.invokevirtual 92, 3) := by decide +kernel
theorem dX5_cries_6 : decode cX5_cries 6 = .ok (.bipush 10, 2) := by decide +kernel
theorem dX5_cries_8 : decode cX5_cries 8 = .ok (.idiv, 1) := by decide +kernel
theorem dX5_cries_9 : decode cX5_cries 9 = .ok (.istore_n 2, 1) := by decide +kernel
theorem dX5_cries_10 : decode cX5_cries 10 = .ok (.aload_n 0, 1) := by decide +kernel
theorem dX5_cries_11 : decode cX5_cries 11 = .ok (.iload_n 1, 1) := by decide +kernel
theorem dX5_cries_12 : decode cX5_cries 12 = .ok (.iconst 0, 1) := by decide +kernel
theorem dX5_cries_13 : decode cX5_cries 13 = .ok (.invokevirtual 92, 3) := by decide +kernel
theorem dX5_cries_16 : decode cX5_cries 16 = .ok (.tableswitch 90 1 6 #[40, 57, 61, 67, 88, 88], 40) := by decide +kernel
theorem dX5_cries_56 : decode cX5_cries 56 = .ok (.aload_n 0, 1) := by decide +kernel
theorem dX5_cries_57 : decode cX5_cries 57 = .ok (.getfield 9, 3) := by decide +kernel
theorem dX5_cries_60 : decode cX5_cries 60 = .ok (.iconst 3, 1) := by decide +kernel
theorem dX5_cries_61 : decode cX5_cries 61 = .ok (.iaload, 1) := by decide +kernel
theorem dX5_cries_62 : decode cX5_cries 62 = .ok (.ifCond .le 9, 3) := by decide +kernel
theorem dX5_cries_65 : decode cX5_cries 65 = .ok (.iload_n 2, 1) := by decide +kernel
theorem dX5_cries_66 : decode cX5_cries 66 = .ok (.iconst 3, 1) := by decide +kernel
theorem dX5_cries_67 : decode cX5_cries 67 = .ok (.iadd, 1) := by decide +kernel
theorem dX5_cries_68 : decode cX5_cries 68 = .ok (.goto 4, 3) := by decide +kernel
theorem dX5_cries_71 : decode cX5_cries 71 = .ok (.iload_n 2, 1) := by decide +kernel
theorem dX5_cries_72 : decode cX5_cries 72 = .ok (.ireturn, 1) := by decide +kernel
theorem dX5_cries_73 : decode cX5_cries 73 = .ok (.iconst 2, 1) := by decide +kernel
theorem dX5_cries_74 : decode cX5_cries 74 = .ok (.iload_n 2, 1) := by decide +kernel
theorem dX5_cries_75 : decode cX5_cries 75 = .ok (.imul, 1) := by decide +kernel
theorem dX5_cries_76 : decode cX5_cries 76 = .ok (.ireturn, 1) := by decide +kernel
theorem dX5_cries_77 : decode cX5_cries 77 = .ok (.iconst 2, 1) := by decide +kernel
theorem dX5_cries_78 : decode cX5_cries 78 = .ok (.iload_n 2, 1) := by decide +kernel
theorem dX5_cries_79 : decode cX5_cries 79 = .ok (.imul, 1) := by decide +kernel
theorem dX5_cries_80 : decode cX5_cries 80 = .ok (.iconst 2, 1) := by decide +kernel
theorem dX5_cries_81 : decode cX5_cries 81 = .ok (.iadd, 1) := by decide +kernel
theorem dX5_cries_82 : decode cX5_cries 82 = .ok (.ireturn, 1) := by decide +kernel
theorem dX5_cries_83 : decode cX5_cries 83 = .ok (.aload_n 0, 1) := by decide +kernel
theorem dX5_cries_84 : decode cX5_cries 84 = .ok (.iload_n 1, 1) := by decide +kernel
theorem dX5_cries_85 : decode cX5_cries 85 = .ok (.iconst 5, 1) := by decide +kernel
theorem dX5_cries_86 : decode cX5_cries 86 = .ok (.invokevirtual 92, 3) := by decide +kernel
theorem dX5_cries_89 : decode cX5_cries 89 = .ok (.bipush 50, 2) := by decide +kernel
theorem dX5_cries_91 : decode cX5_cries 91 = .ok (.if_icmp .ge 11, 3) := by decide +kernel
theorem dX5_cries_94 : decode cX5_cries 94 = .ok (.iconst 2, 1) := by decide +kernel
theorem dX5_cries_95 : decode cX5_cries 95 = .ok (.iload_n 2, 1) := by decide +kernel
theorem dX5_cries_96 : decode cX5_cries 96 = .ok (.imul, 1) := by decide +kernel
theorem dX5_cries_97 : decode cX5_cries 97 = .ok (.iconst 2, 1) := by decide +kernel
theorem dX5_cries_98 : decode cX5_cries 98 = .ok (.iadd, 1) := by decide +kernel
theorem dX5_cries_99 : decode cX5_cries 99 = .ok (.goto 4, 3) := by decide +kernel
theorem dX5_cries_102 : decode cX5_cries 102 = .ok (.iconst 0, 1) := by decide +kernel
theorem dX5_cries_103 : decode cX5_cries 103 = .ok (.ireturn, 1) := by decide +kernel
theorem dX5_cries_104 : decode cX5_cries 104 = .ok (.iconst 0, 1) := by decide +kernel
theorem dX5_cries_105 : decode cX5_cries 105 = .ok (.ireturn, 1) := by decide +kernel
theorem dX5_cries_106 : decode cX5_cries 106 = .ok (.iload_n 2, 1) := by decide +kernel
theorem dX5_cries_107 : decode cX5_cries 107 = .ok (.ireturn, 1) := by decide +kernel
theorem dX5_weathers_0 : decode cX5_weathers 0 = .ok (.iload_n 2, 1) := by decide +kernel
theorem dX5_weathers_1 : decode cX5_weathers 1 = .ok (.bipush 10, 2) := by decide +kernel
theorem dX5_weathers_3 : decode cX5_weathers 3 = .ok (.idiv, 1) := by decide +kernel
theorem dX5_weathers_4 : decode cX5_weathers 4 = .ok (.istore_n 3, 1) := by decide +kernel
theorem dX5_weathers_5 : decode cX5_weathers 5 = .ok (.iload_n 2, 1) := by decide +kernel
theorem dX5_weathers_6 : decode cX5_weathers 6 = .ok (.bipush 10, 2) := by decide +kernel
theorem dX5_weathers_8 : decode cX5_weathers 8 = .ok (.irem, 1) := by decide +kernel
theorem dX5_weathers_9 : decode cX5_weathers 9 = .ok (.istore 4, 2) := by decide +kernel
theorem dX5_weathers_11 : decode cX5_weathers 11 = .ok (.aload_n 0, 1) := by decide +kernel
theorem dX5_weathers_12 : decode cX5_weathers 12 = .ok (.iload_n 1, 1) := by decide +kernel
theorem dX5_weathers_13 : decode cX5_weathers 13 = .ok (.iconst 2, 1) := by decide +kernel
theorem dX5_weathers_14 : decode cX5_weathers 14 = .ok (.invokevirtual 92, 3) := by decide +kernel
theorem dX5_weathers_17 : decode cX5_weathers 17 = .ok (.istore 5, 2) := by decide +kernel
theorem dX5_weathers_19 : decode cX5_weathers 19 = .ok (.iload 5, 2) := by decide +kernel
theorem dX5_weathers_21 : decode cX5_weathers 21 = .ok (.iload_n 3, 1) := by decide +kernel
theorem dX5_weathers_22 : decode cX5_weathers 22 = .ok (.imul, 1) := by decide +kernel
theorem dX5_weathers_23 : decode cX5_weathers 23 = .ok (.iconst 2, 1) := by decide +kernel
theorem dX5_weathers_24 : decode cX5_weathers 24 = .ok (.idiv, 1) := by decide +kernel
theorem dX5_weathers_25 : decode cX5_weathers 25 = .ok (.iload 5, 2) := by decide +kernel
theorem dX5_weathers_27 : decode cX5_weathers 27 = .ok (.ifCond .le 8, 3) := by decide +kernel
theorem dX5_weathers_30 : decode cX5_weathers 30 = .ok (.iload 4, 2) := by decide +kernel
theorem dX5_weathers_32 : decode cX5_weathers 32 = .ok (.goto 4, 3) := by decide +kernel
theorem dX5_weathers_35 : decode cX5_weathers 35 = .ok (.iconst 0, 1) := by decide +kernel
theorem dX5_weathers_36 : decode cX5_weathers 36 = .ok (.iadd, 1) := by decide +kernel
theorem dX5_weathers_37 : decode cX5_weathers 37 = .ok (.istore 6, 2) := by decide +kernel
theorem dX5_weathers_39 : decode cX5_weathers 39 = .ok (.aload_n 0, 1) := by decide +kernel
theorem dX5_weathers_40 : decode cX5_weathers 40 = .ok (.iload_n 1, 1) := by decide +kernel
theorem dX5_weathers_41 : decode cX5_weathers 41 = .ok (.iconst 0, 1) := by decide +kernel
theorem dX5_weathers_42 : decode cX5_weathers 42 = .ok (.invokevirtual 92, 3) := by decide +kernel
theorem dX5_weathers_45 : decode cX5_weathers 45 = .ok (.tableswitch 66 2 6 #[35, 35, 35, 40, 50], 35) := by decide +kernel
theorem dX5_weathers_80 : decode cX5_weathers 80 = .ok (.iload 6, 2) := by decide +kernel
theorem dX5_weathers_82 : decode cX5_weathers 82 = .ok (.iconst 2, 1) := by decide +kernel
theorem dX5_weathers_83 : decode cX5_weathers 83 = .ok (.idiv, 1) := by decide +kernel
theorem dX5_weathers_84 : decode cX5_weathers 84 = .ok (.ireturn, 1) := by decide +kernel
theorem dX5_weathers_85 : decode cX5_weathers 85 = .ok (.iconst 0, 1) := by decide +kernel
theorem dX5_weathers_86 : decode cX5_weathers 86 = .ok (.iload 6, 2) := by decide +kernel
theorem dX5_weathers_88 : decode cX5_weathers 88 = .ok (.iload 4, 2) := by decide +kernel
theorem dX5_weathers_90 : decode cX5_weathers 90 = .ok (.isub, 1) := by decide +kernel
theorem dX5_weathers_91 : decode cX5_weathers 91 = .ok (.invokestatic 95, 3) := by decide +kernel
theorem dX5_weathers_94 : decode cX5_weathers 94 = .ok (.ireturn, 1) := by decide +kernel
theorem dX5_weathers_95 : decode cX5_weathers 95 = .ok (.iload_n 3, 1) := by decide +kernel
theorem dX5_weathers_96 : decode cX5_weathers 96 = .ok (.bipush 8, 2) := by decide +kernel
theorem dX5_weathers_98 : decode cX5_weathers 98 = .ok (.if_icmp .lt 10, 3) := by decide +kernel
theorem dX5_weathers_101 : decode cX5_weathers 101 = .ok (.iconst 2, 1) := by decide +kernel
theorem dX5_weathers_102 : decode cX5_weathers 102 = .ok (.iload 6, 2) := by decide +kernel
theorem dX5_weathers_104 : decode cX5_weathers 104 = .ok (.imul, 1) := by decide +kernel
theorem dX5_weathers_105 : decode cX5_weathers 105 = .ok (.goto 5, 3) := by decide +kernel
theorem dX5_weathers_108 : decode cX5_weathers 108 = .ok (.iload 6, 2) := by decide +kernel
theorem dX5_weathers_110 : decode cX5_weathers 110 = .ok (.ireturn, 1) := by decide +kernel
theorem dX5_weathers_111 : decode cX5_weathers 111 = .ok (.iload 6, 2) := by decide +kernel
theorem dX5_weathers_113 : decode cX5_weathers 113 = .ok (.ireturn, 1) := by decide +kernel
theorem dX5_today_0 : decode cX5_today 0 = .ok (.aload_n 0, 1) := by decide +kernel
theorem dX5_today_1 : decode cX5_today 1 = .ok (.getfield 9, 3) := by decide +kernel
theorem dX5_today_4 : decode cX5_today 4 = .ok (.iconst 5, 1) := by decide +kernel
theorem dX5_today_5 : decode cX5_today 5 = .ok (.aload_n 0, 1) := by decide +kernel
theorem dX5_today_6 : decode cX5_today 6 = .ok (.getfield 9, 3) := by decide +kernel
theorem dX5_today_9 : decode cX5_today 9 = .ok (.iconst 0, 1) := by decide +kernel
theorem dX5_today_10 : decode cX5_today 10 = .ok (.iaload, 1) := by decide +kernel
theorem dX5_today_11 : decode cX5_today 11 = .ok (.bipush 6, 2) := by decide +kernel
theorem dX5_today_13 : decode cX5_today 13 = .ok (.irem, 1) := by decide +kernel
theorem dX5_today_14 : decode cX5_today 14 = .ok (.iadd, 1) := by decide +kernel
theorem dX5_today_15 : decode cX5_today 15 = .ok (.iaload, 1) := by decide +kernel
theorem dX5_today_16 : decode cX5_today 16 = .ok (.ireturn, 1) := by decide +kernel
theorem dX5_needs_0 : decode cX5_needs 0 = .ok (.aload_n 0, 1) := by decide +kernel
theorem dX5_needs_1 : decode cX5_needs 1 = .ok (.iload_n 1, 1) := by decide +kernel
theorem dX5_needs_2 : decode cX5_needs 2 = .ok (.iconst 0, 1) := by decide +kernel
theorem dX5_needs_3 : decode cX5_needs 3 = .ok (.invokevirtual 92, 3) := by decide +kernel
theorem dX5_needs_6 : decode cX5_needs 6 = .ok (.tableswitch 47 1 6 #[38, 41, 41, 38, 44, 41], 38) := by decide +kernel
theorem dX5_needs_44 : decode cX5_needs 44 = .ok (.bipush 30, 2) := by decide +kernel
theorem dX5_needs_46 : decode cX5_needs 46 = .ok (.ireturn, 1) := by decide +kernel
theorem dX5_needs_47 : decode cX5_needs 47 = .ok (.bipush 50, 2) := by decide +kernel
theorem dX5_needs_49 : decode cX5_needs 49 = .ok (.ireturn, 1) := by decide +kernel
theorem dX5_needs_50 : decode cX5_needs 50 = .ok (.bipush 60, 2) := by decide +kernel
theorem dX5_needs_52 : decode cX5_needs 52 = .ok (.ireturn, 1) := by decide +kernel
theorem dX5_needs_53 : decode cX5_needs 53 = .ok (.bipush 40, 2) := by decide +kernel
theorem dX5_needs_55 : decode cX5_needs 55 = .ok (.ireturn, 1) := by decide +kernel
theorem dX5_tint_0 : decode cX5_tint 0 = .ok (.aload_n 0, 1) := by decide +kernel
theorem dX5_tint_1 : decode cX5_tint 1 = .ok (.iload_n 1, 1) := by decide +kernel
theorem dX5_tint_2 : decode cX5_tint 2 = .ok (.iconst 3, 1) := by decide +kernel
theorem dX5_tint_3 : decode cX5_tint 3 = .ok (.invokevirtual 92, 3) := by decide +kernel
theorem dX5_tint_6 : decode cX5_tint 6 = .ok (.istore_n 2, 1) := by decide +kernel
theorem dX5_tint_7 : decode cX5_tint 7 = .ok (.iload_n 2, 1) := by decide +kernel
theorem dX5_tint_8 : decode cX5_tint 8 = .ok (.bipush 10, 2) := by decide +kernel
theorem dX5_tint_10 : decode cX5_tint 10 = .ok (.idiv, 1) := by decide +kernel
theorem dX5_tint_11 : decode cX5_tint 11 = .ok (.bipush 8, 2) := by decide +kernel
theorem dX5_tint_13 : decode cX5_tint 13 = .ok (.irem, 1) := by decide +kernel
theorem dX5_tint_14 : decode cX5_tint 14 = .ok (.istore_n 3, 1) := by decide +kernel
theorem dX5_tint_15 : decode cX5_tint 15 = .ok (.aload_n 0, 1) := by decide +kernel
theorem dX5_tint_16 : decode cX5_tint 16 = .ok (.iload_n 1, 1) := by decide +kernel
theorem dX5_tint_17 : decode cX5_tint 17 = .ok (.iconst 0, 1) := by decide +kernel
theorem dX5_tint_18 : decode cX5_tint 18 = .ok (.invokevirtual 92, 3) := by decide +kernel
theorem dX5_tint_21 : decode cX5_tint 21 = .ok (.tableswitch 72 2 6 #[35, 35, 42, 72, 59], 35) := by decide +kernel
theorem dX5_tint_56 : decode cX5_tint 56 = .ok (.iload_n 3, 1) := by decide +kernel
theorem dX5_tint_57 : decode cX5_tint 57 = .ok (.iconst 3, 1) := by decide +kernel
theorem dX5_tint_58 : decode cX5_tint 58 = .ok (.iadd, 1) := by decide +kernel
theorem dX5_tint_59 : decode cX5_tint 59 = .ok (.bipush 8, 2) := by decide +kernel
theorem dX5_tint_61 : decode cX5_tint 61 = .ok (.irem, 1) := by decide +kernel
theorem dX5_tint_62 : decode cX5_tint 62 = .ok (.ireturn, 1) := by decide +kernel
theorem dX5_tint_63 : decode cX5_tint 63 = .ok (.aload_n 0, 1) := by decide +kernel
theorem dX5_tint_64 : decode cX5_tint 64 = .ok (.iload_n 1, 1) := by decide +kernel
theorem dX5_tint_65 : decode cX5_tint 65 = .ok (.iconst 1, 1) := by decide +kernel
theorem dX5_tint_66 : decode cX5_tint 66 = .ok (.invokevirtual 92, 3) := by decide +kernel
theorem dX5_tint_69 : decode cX5_tint 69 = .ok (.bipush 50, 2) := by decide +kernel
theorem dX5_tint_71 : decode cX5_tint 71 = .ok (.if_icmp .ge 7, 3) := by decide +kernel
theorem dX5_tint_74 : decode cX5_tint 74 = .ok (.iconst 0, 1) := by decide +kernel
theorem dX5_tint_75 : decode cX5_tint 75 = .ok (.goto 4, 3) := by decide +kernel
theorem dX5_tint_78 : decode cX5_tint 78 = .ok (.iconst 1, 1) := by decide +kernel
theorem dX5_tint_79 : decode cX5_tint 79 = .ok (.ireturn, 1) := by decide +kernel
theorem dX5_tint_80 : decode cX5_tint 80 = .ok (.iload_n 2, 1) := by decide +kernel
theorem dX5_tint_81 : decode cX5_tint 81 = .ok (.bipush 100, 2) := by decide +kernel
theorem dX5_tint_83 : decode cX5_tint 83 = .ok (.if_icmp .ge 7, 3) := by decide +kernel
theorem dX5_tint_86 : decode cX5_tint 86 = .ok (.iload_n 3, 1) := by decide +kernel
theorem dX5_tint_87 : decode cX5_tint 87 = .ok (.goto 5, 3) := by decide +kernel
theorem dX5_tint_90 : decode cX5_tint 90 = .ok (.bipush 7, 2) := by decide +kernel
theorem dX5_tint_92 : decode cX5_tint 92 = .ok (.ireturn, 1) := by decide +kernel
theorem dX5_tint_93 : decode cX5_tint 93 = .ok (.iload_n 3, 1) := by decide +kernel
theorem dX5_tint_94 : decode cX5_tint 94 = .ok (.ireturn, 1) := by decide +kernel
theorem dX5_fetches_0 : decode cX5_fetches 0 = .ok (.aload_n 0, 1) := by decide +kernel
theorem dX5_fetches_1 : decode cX5_fetches 1 = .ok (.iload_n 1, 1) := by decide +kernel
theorem dX5_fetches_2 : decode cX5_fetches 2 = .ok (.iconst 4, 1) := by decide +kernel
theorem dX5_fetches_3 : decode cX5_fetches 3 = .ok (.invokevirtual 92, 3) := by decide +kernel
theorem dX5_fetches_6 : decode cX5_fetches 6 = .ok (.istore_n 2, 1) := by decide +kernel
theorem dX5_fetches_7 : decode cX5_fetches 7 = .ok (.aload_n 0, 1) := by decide +kernel
theorem dX5_fetches_8 : decode cX5_fetches 8 = .ok (.iload_n 1, 1) := by decide +kernel
theorem dX5_fetches_9 : decode cX5_fetches 9 = .ok (.iconst 0, 1) := by decide +kernel
theorem dX5_fetches_10 : decode cX5_fetches 10 = .ok (.invokevirtual 92, 3) := by decide +kernel
theorem dX5_fetches_13 : decode cX5_fetches 13 = .ok (.tableswitch 71 1 6 #[39, 41, 41, 46, 53, 57], 39) := by decide +kernel
theorem dX5_fetches_52 : decode cX5_fetches 52 = .ok (.iconst 5, 1) := by decide +kernel
theorem dX5_fetches_53 : decode cX5_fetches 53 = .ok (.ireturn, 1) := by decide +kernel
theorem dX5_fetches_54 : decode cX5_fetches 54 = .ok (.bipush 20, 2) := by decide +kernel
theorem dX5_fetches_56 : decode cX5_fetches 56 = .ok (.iload_n 2, 1) := by decide +kernel
theorem dX5_fetches_57 : decode cX5_fetches 57 = .ok (.iadd, 1) := by decide +kernel
theorem dX5_fetches_58 : decode cX5_fetches 58 = .ok (.ireturn, 1) := by decide +kernel
theorem dX5_fetches_59 : decode cX5_fetches 59 = .ok (.iconst 3, 1) := by decide +kernel
theorem dX5_fetches_60 : decode cX5_fetches 60 = .ok (.bipush 20, 2) := by decide +kernel
theorem dX5_fetches_62 : decode cX5_fetches 62 = .ok (.iload_n 2, 1) := by decide +kernel
theorem dX5_fetches_63 : decode cX5_fetches 63 = .ok (.iadd, 1) := by decide +kernel
theorem dX5_fetches_64 : decode cX5_fetches 64 = .ok (.imul, 1) := by decide +kernel
theorem dX5_fetches_65 : decode cX5_fetches 65 = .ok (.ireturn, 1) := by decide +kernel
theorem dX5_fetches_66 : decode cX5_fetches 66 = .ok (.iconst 1, 1) := by decide +kernel
theorem dX5_fetches_67 : decode cX5_fetches 67 = .ok (.iload_n 2, 1) := by decide +kernel
theorem dX5_fetches_68 : decode cX5_fetches 68 = .ok (.iadd, 1) := by decide +kernel
theorem dX5_fetches_69 : decode cX5_fetches 69 = .ok (.ireturn, 1) := by decide +kernel
theorem dX5_fetches_70 : decode cX5_fetches 70 = .ok (.iload_n 2, 1) := by decide +kernel
theorem dX5_fetches_71 : decode cX5_fetches 71 = .ok (.bipush 7, 2) := by decide +kernel
theorem dX5_fetches_73 : decode cX5_fetches 73 = .ok (.if_icmp .ne 8, 3) := by decide +kernel
theorem dX5_fetches_76 : decode cX5_fetches 76 = .ok (.bipush 100, 2) := by decide +kernel
theorem dX5_fetches_78 : decode cX5_fetches 78 = .ok (.goto 5, 3) := by decide +kernel
theorem dX5_fetches_81 : decode cX5_fetches 81 = .ok (.bipush 10, 2) := by decide +kernel
theorem dX5_fetches_83 : decode cX5_fetches 83 = .ok (.ireturn, 1) := by decide +kernel
theorem dX5_fetches_84 : decode cX5_fetches 84 = .ok (.bipush 10, 2) := by decide +kernel
theorem dX5_fetches_86 : decode cX5_fetches 86 = .ok (.iload_n 2, 1) := by decide +kernel
theorem dX5_fetches_87 : decode cX5_fetches 87 = .ok (.iadd, 1) := by decide +kernel
theorem dX5_fetches_88 : decode cX5_fetches 88 = .ok (.ireturn, 1) := by decide +kernel
theorem dX5_heals_0 : decode cX5_heals 0 = .ok (.aload_n 0, 1) := by decide +kernel
theorem dX5_heals_1 : decode cX5_heals 1 = .ok (.iload_n 1, 1) := by decide +kernel
theorem dX5_heals_2 : decode cX5_heals 2 = .ok (.iconst 0, 1) := by decide +kernel
theorem dX5_heals_3 : decode cX5_heals 3 = .ok (.invokevirtual 92, 3) := by decide +kernel
theorem dX5_heals_6 : decode cX5_heals 6 = .ok (.tableswitch 44 1 6 #[38, 44, 40, 40, 42, 38], 38) := by decide +kernel
theorem dX5_heals_44 : decode cX5_heals 44 = .ok (.iconst 2, 1) := by decide +kernel
theorem dX5_heals_45 : decode cX5_heals 45 = .ok (.ireturn, 1) := by decide +kernel
theorem dX5_heals_46 : decode cX5_heals 46 = .ok (.iconst 0, 1) := by decide +kernel
theorem dX5_heals_47 : decode cX5_heals 47 = .ok (.ireturn, 1) := by decide +kernel
theorem dX5_heals_48 : decode cX5_heals 48 = .ok (.iconst 5, 1) := by decide +kernel
theorem dX5_heals_49 : decode cX5_heals 49 = .ok (.ireturn, 1) := by decide +kernel
theorem dX5_heals_50 : decode cX5_heals 50 = .ok (.iconst 1, 1) := by decide +kernel
theorem dX5_heals_51 : decode cX5_heals 51 = .ok (.ireturn, 1) := by decide +kernel
theorem dX5_told_0 : decode cX5_told 0 = .ok (.iload_n 2, 1) := by decide +kernel
theorem dX5_told_1 : decode cX5_told 1 = .ok (.tableswitch 79 7 12 #[39, 45, 55, 61, 67, 73], 39) := by decide +kernel
theorem dX5_told_40 : decode cX5_told 40 = .ok (.aload_n 0, 1) := by decide +kernel
theorem dX5_told_41 : decode cX5_told 41 = .ok (.iload_n 1, 1) := by decide +kernel
theorem dX5_told_42 : decode cX5_told 42 = .ok (.invokevirtual 100, 3) := by decide +kernel
theorem dX5_told_45 : decode cX5_told 45 = .ok (.ireturn, 1) := by decide +kernel
theorem dX5_told_46 : decode cX5_told 46 = .ok (.aload_n 0, 1) := by decide +kernel
theorem dX5_told_47 : decode cX5_told 47 = .ok (.iload_n 1, 1) := by decide +kernel
theorem dX5_told_48 : decode cX5_told 48 = .ok (.aload_n 0, 1) := by decide +kernel
theorem dX5_told_49 : decode cX5_told 49 = .ok (.invokevirtual 103, 3) := by decide +kernel
theorem dX5_told_52 : decode cX5_told 52 = .ok (.invokevirtual 107, 3) := by decide +kernel
theorem dX5_told_55 : decode cX5_told 55 = .ok (.ireturn, 1) := by decide +kernel
theorem dX5_told_56 : decode cX5_told 56 = .ok (.aload_n 0, 1) := by decide +kernel
theorem dX5_told_57 : decode cX5_told 57 = .ok (.iload_n 1, 1) := by decide +kernel
theorem dX5_told_58 : decode cX5_told 58 = .ok (.invokevirtual 110, 3) := by decide +kernel
theorem dX5_told_61 : decode cX5_told 61 = .ok (.ireturn, 1) := by decide +kernel
theorem dX5_told_62 : decode cX5_told 62 = .ok (.aload_n 0, 1) := by decide +kernel
theorem dX5_told_63 : decode cX5_told 63 = .ok (.iload_n 1, 1) := by decide +kernel
theorem dX5_told_64 : decode cX5_told 64 = .ok (.invokevirtual 113, 3) := by decide +kernel
theorem dX5_told_67 : decode cX5_told 67 = .ok (.ireturn, 1) := by decide +kernel
theorem dX5_told_68 : decode cX5_told 68 = .ok (.aload_n 0, 1) := by decide +kernel
theorem dX5_told_69 : decode cX5_told 69 = .ok (.iload_n 1, 1) := by decide +kernel
theorem dX5_told_70 : decode cX5_told 70 = .ok (.invokevirtual 116, 3) := by decide +kernel
theorem dX5_told_73 : decode cX5_told 73 = .ok (.ireturn, 1) := by decide +kernel
theorem dX5_told_74 : decode cX5_told 74 = .ok (.aload_n 0, 1) := by decide +kernel
theorem dX5_told_75 : decode cX5_told 75 = .ok (.iload_n 1, 1) := by decide +kernel
theorem dX5_told_76 : decode cX5_told 76 = .ok (.invokevirtual 119, 3) := by decide +kernel
theorem dX5_told_79 : decode cX5_told 79 = .ok (.ireturn, 1) := by decide +kernel
theorem dX5_told_80 : decode cX5_told 80 = .ok (.aload_n 0, 1) := by decide +kernel
theorem dX5_told_81 : decode cX5_told 81 = .ok (.iload_n 1, 1) := by decide +kernel
theorem dX5_told_82 : decode cX5_told 82 = .ok (.iload_n 2, 1) := by decide +kernel
theorem dX5_told_83 : decode cX5_told 83 = .ok (.invokevirtual 92, 3) := by decide +kernel
theorem dX5_told_86 : decode cX5_told 86 = .ok (.ireturn, 1) := by decide +kernel
theorem dX5_of_0 : decode cX5_of 0 = .ok (.aload_n 0, 1) := by decide +kernel
theorem dX5_of_1 : decode cX5_of 1 = .ok (.iload_n 1, 1) := by decide +kernel
theorem dX5_of_2 : decode cX5_of 2 = .ok (.invokevirtual 122, 3) := by decide +kernel
theorem dX5_of_5 : decode cX5_of 5 = .ok (.ifCond .eq 22, 3) := by decide +kernel
theorem dX5_of_8 : decode cX5_of 8 = .ok (.iload_n 2, 1) := by decide +kernel
theorem dX5_of_9 : decode cX5_of 9 = .ok (.iconst 0, 1) := by decide +kernel
theorem dX5_of_10 : decode cX5_of 10 = .ok (.bipush 12, 2) := by decide +kernel
theorem dX5_of_12 : decode cX5_of 12 = .ok (.invokestatic 70, 3) := by decide +kernel
theorem dX5_of_15 : decode cX5_of 15 = .ok (.ifCond .eq 12, 3) := by decide +kernel
theorem dX5_of_18 : decode cX5_of 18 = .ok (.aload_n 0, 1) := by decide +kernel
theorem dX5_of_19 : decode cX5_of 19 = .ok (.iload_n 1, 1) := by decide +kernel
theorem dX5_of_20 : decode cX5_of 20 = .ok (.iload_n 2, 1) := by decide +kernel
theorem dX5_of_21 : decode cX5_of 21 = .ok (.invokevirtual 125, 3) := by decide +kernel
theorem dX5_of_24 : decode cX5_of 24 = .ok (.goto 9, 3) := by decide +kernel
theorem dX5_of_27 : decode cX5_of 27 = .ok (.aload_n 0, 1) := by decide +kernel
theorem dX5_of_28 : decode cX5_of 28 = .ok (.ldc 60, 2) := by decide +kernel
theorem dX5_of_30 : decode cX5_of 30 = .ok (.invokevirtual 66, 3) := by decide +kernel
theorem dX5_of_33 : decode cX5_of 33 = .ok (.ireturn, 1) := by decide +kernel
theorem dX5_isField_0 : decode cX5_isField 0 = .ok (.iload_n 0, 1) := by decide +kernel
theorem dX5_isField_1 : decode cX5_isField 1 = .ok (.tableswitch 90 0 6 #[43, 48, 56, 64, 73, 81, 81], 43) := by decide +kernel
theorem dX5_isField_44 : decode cX5_isField 44 = .ok (.iload_n 1, 1) := by decide +kernel
theorem dX5_isField_45 : decode cX5_isField 45 = .ok (.invokestatic 85, 3) := by decide +kernel
theorem dX5_isField_48 : decode cX5_isField 48 = .ok (.ireturn, 1) := by decide +kernel
theorem dX5_isField_49 : decode cX5_isField 49 = .ok (.iload_n 1, 1) := by decide +kernel
theorem dX5_isField_50 : decode cX5_isField 50 = .ok (.iconst 0, 1) := by decide +kernel
theorem dX5_isField_51 : decode cX5_isField 51 = .ok (.bipush 99, 2) := by decide +kernel
theorem dX5_isField_53 : decode cX5_isField 53 = .ok (.invokestatic 70, 3) := by decide +kernel
theorem dX5_isField_56 : decode cX5_isField 56 = .ok (.ireturn, 1) := by decide +kernel
theorem dX5_isField_57 : decode cX5_isField 57 = .ok (.iload_n 1, 1) := by decide +kernel
theorem dX5_isField_58 : decode cX5_isField 58 = .ok (.iconst 0, 1) := by decide +kernel
theorem dX5_isField_59 : decode cX5_isField 59 = .ok (.bipush 9, 2) := by decide +kernel
theorem dX5_isField_61 : decode cX5_isField 61 = .ok (.invokestatic 70, 3) := by decide +kernel
theorem dX5_isField_64 : decode cX5_isField 64 = .ok (.ireturn, 1) := by decide +kernel
theorem dX5_isField_65 : decode cX5_isField 65 = .ok (.iload_n 1, 1) := by decide +kernel
theorem dX5_isField_66 : decode cX5_isField 66 = .ok (.iconst 0, 1) := by decide +kernel
theorem dX5_isField_67 : decode cX5_isField 67 = .ok (.sipush 999, 3) := by decide +kernel
theorem dX5_isField_70 : decode cX5_isField 70 = .ok (.invokestatic 70, 3) := by decide +kernel
theorem dX5_isField_73 : decode cX5_isField 73 = .ok (.ireturn, 1) := by decide +kernel
theorem dX5_isField_74 : decode cX5_isField 74 = .ok (.iload_n 1, 1) := by decide +kernel
theorem dX5_isField_75 : decode cX5_isField 75 = .ok (.iconst 0, 1) := by decide +kernel
theorem dX5_isField_76 : decode cX5_isField 76 = .ok (.bipush 7, 2) := by decide +kernel
theorem dX5_isField_78 : decode cX5_isField 78 = .ok (.invokestatic 70, 3) := by decide +kernel
theorem dX5_isField_81 : decode cX5_isField 81 = .ok (.ireturn, 1) := by decide +kernel
theorem dX5_isField_82 : decode cX5_isField 82 = .ok (.iload_n 1, 1) := by decide +kernel
theorem dX5_isField_83 : decode cX5_isField 83 = .ok (.iconst 0, 1) := by decide +kernel
theorem dX5_isField_84 : decode cX5_isField 84 = .ok (.sipush 9999, 3) := by decide +kernel
theorem dX5_isField_87 : decode cX5_isField 87 = .ok (.invokestatic 70, 3) := by decide +kernel
theorem dX5_isField_90 : decode cX5_isField 90 = .ok (.ireturn, 1) := by decide +kernel
theorem dX5_isField_91 : decode cX5_isField 91 = .ok (.iconst 0, 1) := by decide +kernel
theorem dX5_isField_92 : decode cX5_isField 92 = .ok (.ireturn, 1) := by decide +kernel
theorem dX5_change_0 : decode cX5_change 0 = .ok (.aload_n 0, 1) := by decide +kernel
theorem dX5_change_1 : decode cX5_change 1 = .ok (.iload_n 1, 1) := by decide +kernel
theorem dX5_change_2 : decode cX5_change 2 = .ok (.invokevirtual 122, 3) := by decide +kernel
theorem dX5_change_5 : decode cX5_change 5 = .ok (.ifCond .eq 24, 3) := by decide +kernel
theorem dX5_change_8 : decode cX5_change 8 = .ok (.iload_n 2, 1) := by decide +kernel
theorem dX5_change_9 : decode cX5_change 9 = .ok (.iload_n 3, 1) := by decide +kernel
theorem dX5_change_10 : decode cX5_change 10 = .ok (.invokestatic 128, 3) := by decide +kernel
theorem dX5_change_13 : decode cX5_change 13 = .ok (.ifCond .eq 16, 3) := by decide +kernel
theorem dX5_change_16 : decode cX5_change 16 = .ok (.aload_n 0, 1) := by decide +kernel
theorem dX5_change_17 : decode cX5_change 17 = .ok (.iload_n 1, 1) := by decide +kernel
theorem dX5_change_18 : decode cX5_change 18 = .ok (.iload_n 2, 1) := by decide +kernel
theorem dX5_change_19 : decode cX5_change 19 = .ok (.invokestatic 82, 3) := by decide +kernel
theorem dX5_change_22 : decode cX5_change 22 = .ok (.iload_n 3, 1) := by decide +kernel
theorem dX5_change_23 : decode cX5_change 23 = .ok (.invokevirtual 78, 3) := by decide +kernel
theorem dX5_change_26 : decode cX5_change 26 = .ok (.goto 9, 3) := by decide +kernel
theorem dX5_change_29 : decode cX5_change 29 = .ok (.aload_n 0, 1) := by decide +kernel
theorem dX5_change_30 : decode cX5_change 30 = .ok (.ldc 60, 2) := by decide +kernel
theorem dX5_change_32 : decode cX5_change 32 = .ok (.invokevirtual 66, 3) := by decide +kernel
theorem dX5_change_35 : decode cX5_change 35 = .ok (.ireturn, 1) := by decide +kernel
theorem dX5_isReady_0 : decode cX5_isReady 0 = .ok (.aload_n 0, 1) := by decide +kernel
theorem dX5_isReady_1 : decode cX5_isReady 1 = .ok (.iload_n 1, 1) := by decide +kernel
theorem dX5_isReady_2 : decode cX5_isReady 2 = .ok (.iconst 3, 1) := by decide +kernel
theorem dX5_isReady_3 : decode cX5_isReady 3 = .ok (.invokevirtual 92, 3) := by decide +kernel
theorem dX5_isReady_6 : decode cX5_isReady 6 = .ok (.aload_n 0, 1) := by decide +kernel
theorem dX5_isReady_7 : decode cX5_isReady 7 = .ok (.iload_n 1, 1) := by decide +kernel
theorem dX5_isReady_8 : decode cX5_isReady 8 = .ok (.invokevirtual 110, 3) := by decide +kernel
theorem dX5_isReady_11 : decode cX5_isReady 11 = .ok (.if_icmp .lt 7, 3) := by decide +kernel
theorem dX5_isReady_14 : decode cX5_isReady 14 = .ok (.iconst 1, 1) := by decide +kernel
theorem dX5_isReady_15 : decode cX5_isReady 15 = .ok (.goto 4, 3) := by decide +kernel
theorem dX5_isReady_18 : decode cX5_isReady 18 = .ok (.iconst 0, 1) := by decide +kernel
theorem dX5_isReady_19 : decode cX5_isReady 19 = .ok (.ireturn, 1) := by decide +kernel
theorem dX5_gathers_0 : decode cX5_gathers 0 = .ok (.aload_n 0, 1) := by decide +kernel
theorem dX5_gathers_1 : decode cX5_gathers 1 = .ok (.iload_n 1, 1) := by decide +kernel
theorem dX5_gathers_2 : decode cX5_gathers 2 = .ok (.invokevirtual 100, 3) := by decide +kernel
theorem dX5_gathers_5 : decode cX5_gathers 5 = .ok (.aload_n 0, 1) := by decide +kernel
theorem dX5_gathers_6 : decode cX5_gathers 6 = .ok (.iload_n 1, 1) := by decide +kernel
theorem dX5_gathers_7 : decode cX5_gathers 7 = .ok (.aload_n 0, 1) := by decide +kernel
theorem dX5_gathers_8 : decode cX5_gathers 8 = .ok (.invokevirtual 103, 3) := by decide +kernel
theorem dX5_gathers_11 : decode cX5_gathers 11 = .ok (.invokevirtual 107, 3) := by decide +kernel
theorem dX5_gathers_14 : decode cX5_gathers 14 = .ok (.iadd, 1) := by decide +kernel
theorem dX5_gathers_15 : decode cX5_gathers 15 = .ok (.istore_n 2, 1) := by decide +kernel
theorem dX5_gathers_16 : decode cX5_gathers 16 = .ok (.aload_n 0, 1) := by decide +kernel
theorem dX5_gathers_17 : decode cX5_gathers 17 = .ok (.iload_n 1, 1) := by decide +kernel
theorem dX5_gathers_18 : decode cX5_gathers 18 = .ok (.iconst 0, 1) := by decide +kernel
theorem dX5_gathers_19 : decode cX5_gathers 19 = .ok (.invokevirtual 92, 3) := by decide +kernel
theorem dX5_gathers_22 : decode cX5_gathers 22 = .ok (.iconst 1, 1) := by decide +kernel
theorem dX5_gathers_23 : decode cX5_gathers 23 = .ok (.if_icmp .ne 22, 3) := by decide +kernel
theorem dX5_gathers_26 : decode cX5_gathers 26 = .ok (.aload_n 0, 1) := by decide +kernel
theorem dX5_gathers_27 : decode cX5_gathers 27 = .ok (.getfield 9, 3) := by decide +kernel
theorem dX5_gathers_30 : decode cX5_gathers 30 = .ok (.iconst 3, 1) := by decide +kernel
theorem dX5_gathers_31 : decode cX5_gathers 31 = .ok (.iaload, 1) := by decide +kernel
theorem dX5_gathers_32 : decode cX5_gathers 32 = .ok (.ifCond .le 13, 3) := by decide +kernel
theorem dX5_gathers_35 : decode cX5_gathers 35 = .ok (.aload_n 0, 1) := by decide +kernel
theorem dX5_gathers_36 : decode cX5_gathers 36 = .ok (.getfield 9, 3) := by decide +kernel
theorem dX5_gathers_39 : decode cX5_gathers 39 = .ok (.iconst 3, 1) := by decide +kernel
theorem dX5_gathers_40 : decode cX5_gathers 40 = .ok (.dup2, 1) := by decide +kernel
theorem dX5_gathers_41 : decode cX5_gathers 41 = .ok (.iaload, 1) := by decide +kernel
theorem dX5_gathers_42 : decode cX5_gathers 42 = .ok (.iconst 1, 1) := by decide +kernel
theorem dX5_gathers_43 : decode cX5_gathers 43 = .ok (.isub, 1) := by decide +kernel
theorem dX5_gathers_44 : decode cX5_gathers 44 = .ok (.iastore, 1) := by decide +kernel
theorem dX5_gathers_45 : decode cX5_gathers 45 = .ok (.aload_n 0, 1) := by decide +kernel
theorem dX5_gathers_46 : decode cX5_gathers 46 = .ok (.getfield 9, 3) := by decide +kernel
theorem dX5_gathers_49 : decode cX5_gathers 49 = .ok (.iload_n 1, 1) := by decide +kernel
theorem dX5_gathers_50 : decode cX5_gathers 50 = .ok (.iconst 3, 1) := by decide +kernel
theorem dX5_gathers_51 : decode cX5_gathers 51 = .ok (.invokestatic 82, 3) := by decide +kernel
theorem dX5_gathers_54 : decode cX5_gathers 54 = .ok (.sipush 999, 3) := by decide +kernel
theorem dX5_gathers_57 : decode cX5_gathers 57 = .ok (.aload_n 0, 1) := by decide +kernel
theorem dX5_gathers_58 : decode cX5_gathers 58 = .ok (.iload_n 1, 1) := by decide +kernel
theorem dX5_gathers_59 : decode cX5_gathers 59 = .ok (.iconst 3, 1) := by decide +kernel
theorem dX5_gathers_60 : decode cX5_gathers 60 = .ok (.invokevirtual 92, 3) := by decide +kernel
theorem dX5_gathers_63 : decode cX5_gathers 63 = .ok (.iload_n 2, 1) := by decide +kernel
theorem dX5_gathers_64 : decode cX5_gathers 64 = .ok (.iadd, 1) := by decide +kernel
theorem dX5_gathers_65 : decode cX5_gathers 65 = .ok (.invokestatic 132, 3) := by decide +kernel
theorem dX5_gathers_68 : decode cX5_gathers 68 = .ok (.iastore, 1) := by decide +kernel
theorem dX5_gathers_69 : decode cX5_gathers 69 = .ok (.aload_n 0, 1) := by decide +kernel
theorem dX5_gathers_70 : decode cX5_gathers 70 = .ok (.getfield 9, 3) := by decide +kernel
theorem dX5_gathers_73 : decode cX5_gathers 73 = .ok (.iload_n 1, 1) := by decide +kernel
theorem dX5_gathers_74 : decode cX5_gathers 74 = .ok (.iconst 1, 1) := by decide +kernel
theorem dX5_gathers_75 : decode cX5_gathers 75 = .ok (.invokestatic 82, 3) := by decide +kernel
theorem dX5_gathers_78 : decode cX5_gathers 78 = .ok (.iconst 0, 1) := by decide +kernel
theorem dX5_gathers_79 : decode cX5_gathers 79 = .ok (.aload_n 0, 1) := by decide +kernel
theorem dX5_gathers_80 : decode cX5_gathers 80 = .ok (.iload_n 1, 1) := by decide +kernel
theorem dX5_gathers_81 : decode cX5_gathers 81 = .ok (.iconst 1, 1) := by decide +kernel
theorem dX5_gathers_82 : decode cX5_gathers 82 = .ok (.invokevirtual 92, 3) := by decide +kernel
theorem dX5_gathers_85 : decode cX5_gathers 85 = .ok (.aload_n 0, 1) := by decide +kernel
theorem dX5_gathers_86 : decode cX5_gathers 86 = .ok (.iload_n 1, 1) := by decide +kernel
theorem dX5_gathers_87 : decode cX5_gathers 87 = .ok (.invokevirtual 119, 3) := by decide +kernel
theorem dX5_gathers_90 : decode cX5_gathers 90 = .ok (.isub, 1) := by decide +kernel
theorem dX5_gathers_91 : decode cX5_gathers 91 = .ok (.invokestatic 95, 3) := by decide +kernel
theorem dX5_gathers_94 : decode cX5_gathers 94 = .ok (.iastore, 1) := by decide +kernel
theorem dX5_gathers_95 : decode cX5_gathers 95 = .ok (.return_, 1) := by decide +kernel
theorem dX5_fires_0 : decode cX5_fires 0 = .ok (.aload_n 0, 1) := by decide +kernel
theorem dX5_fires_1 : decode cX5_fires 1 = .ok (.iload_n 1, 1) := by decide +kernel
theorem dX5_fires_2 : decode cX5_fires 2 = .ok (.invokevirtual 135, 3) := by decide +kernel
theorem dX5_fires_5 : decode cX5_fires 5 = .ok (.ifCond .eq 68, 3) := by decide +kernel
theorem dX5_fires_8 : decode cX5_fires 8 = .ok (.aload_n 0, 1) := by decide +kernel
theorem dX5_fires_9 : decode cX5_fires 9 = .ok (.getfield 9, 3) := by decide +kernel
theorem dX5_fires_12 : decode cX5_fires 12 = .ok (.iload_n 1, 1) := by decide +kernel
theorem dX5_fires_13 : decode cX5_fires 13 = .ok (.iconst 4, 1) := by decide +kernel
theorem dX5_fires_14 : decode cX5_fires 14 = .ok (.invokestatic 82, 3) := by decide +kernel
theorem dX5_fires_17 : decode cX5_fires 17 = .ok (.aload_n 0, 1) := by decide +kernel
theorem dX5_fires_18 : decode cX5_fires 18 = .ok (.iload_n 1, 1) := by decide +kernel
theorem dX5_fires_19 : decode cX5_fires 19 = .ok (.invokevirtual 113, 3) := by decide +kernel
theorem dX5_fires_22 : decode cX5_fires 22 = .ok (.iastore, 1) := by decide +kernel
theorem dX5_fires_23 : decode cX5_fires 23 = .ok (.aload_n 0, 1) := by decide +kernel
theorem dX5_fires_24 : decode cX5_fires 24 = .ok (.getfield 9, 3) := by decide +kernel
theorem dX5_fires_27 : decode cX5_fires 27 = .ok (.iload_n 1, 1) := by decide +kernel
theorem dX5_fires_28 : decode cX5_fires 28 = .ok (.iconst 5, 1) := by decide +kernel
theorem dX5_fires_29 : decode cX5_fires 29 = .ok (.invokestatic 82, 3) := by decide +kernel
theorem dX5_fires_32 : decode cX5_fires 32 = .ok (.sipush 9999, 3) := by decide +kernel
theorem dX5_fires_35 : decode cX5_fires 35 = .ok (.aload_n 0, 1) := by decide +kernel
theorem dX5_fires_36 : decode cX5_fires 36 = .ok (.iload_n 1, 1) := by decide +kernel
theorem dX5_fires_37 : decode cX5_fires 37 = .ok (.iconst 5, 1) := by decide +kernel
theorem dX5_fires_38 : decode cX5_fires 38 = .ok (.invokevirtual 92, 3) := by decide +kernel
theorem dX5_fires_41 : decode cX5_fires 41 = .ok (.iconst 1, 1) := by decide +kernel
theorem dX5_fires_42 : decode cX5_fires 42 = .ok (.iadd, 1) := by decide +kernel
theorem dX5_fires_43 : decode cX5_fires 43 = .ok (.invokestatic 132, 3) := by decide +kernel
theorem dX5_fires_46 : decode cX5_fires 46 = .ok (.iastore, 1) := by decide +kernel
theorem dX5_fires_47 : decode cX5_fires 47 = .ok (.aload_n 0, 1) := by decide +kernel
theorem dX5_fires_48 : decode cX5_fires 48 = .ok (.getfield 9, 3) := by decide +kernel
theorem dX5_fires_51 : decode cX5_fires 51 = .ok (.iconst 4, 1) := by decide +kernel
theorem dX5_fires_52 : decode cX5_fires 52 = .ok (.ldc 138, 2) := by decide +kernel
theorem dX5_fires_54 : decode cX5_fires 54 = .ok (.aload_n 0, 1) := by decide +kernel
theorem dX5_fires_55 : decode cX5_fires 55 = .ok (.getfield 9, 3) := by decide +kernel
theorem dX5_fires_58 : decode cX5_fires 58 = .ok (.iconst 4, 1) := by decide +kernel
theorem dX5_fires_59 : decode cX5_fires 59 = .ok (.iaload, 1) := by decide +kernel
theorem dX5_fires_60 : decode cX5_fires 60 = .ok (.aload_n 0, 1) := by decide +kernel
theorem dX5_fires_61 : decode cX5_fires 61 = .ok (.iload_n 1, 1) := by decide +kernel
theorem dX5_fires_62 : decode cX5_fires 62 = .ok (.invokevirtual 116, 3) := by decide +kernel
theorem dX5_fires_65 : decode cX5_fires 65 = .ok (.iadd, 1) := by decide +kernel
theorem dX5_fires_66 : decode cX5_fires 66 = .ok (.invokestatic 132, 3) := by decide +kernel
theorem dX5_fires_69 : decode cX5_fires 69 = .ok (.iastore, 1) := by decide +kernel
theorem dX5_fires_70 : decode cX5_fires 70 = .ok (.goto 53, 3) := by decide +kernel
theorem dX5_fires_73 : decode cX5_fires 73 = .ok (.aload_n 0, 1) := by decide +kernel
theorem dX5_fires_74 : decode cX5_fires 74 = .ok (.getfield 9, 3) := by decide +kernel
theorem dX5_fires_77 : decode cX5_fires 77 = .ok (.iload_n 1, 1) := by decide +kernel
theorem dX5_fires_78 : decode cX5_fires 78 = .ok (.bipush 6, 2) := by decide +kernel
theorem dX5_fires_80 : decode cX5_fires 80 = .ok (.invokestatic 82, 3) := by decide +kernel
theorem dX5_fires_83 : decode cX5_fires 83 = .ok (.sipush 9999, 3) := by decide +kernel
theorem dX5_fires_86 : decode cX5_fires 86 = .ok (.aload_n 0, 1) := by decide +kernel
theorem dX5_fires_87 : decode cX5_fires 87 = .ok (.iload_n 1, 1) := by decide +kernel
theorem dX5_fires_88 : decode cX5_fires 88 = .ok (.bipush 6, 2) := by decide +kernel
theorem dX5_fires_90 : decode cX5_fires 90 = .ok (.invokevirtual 92, 3) := by decide +kernel
theorem dX5_fires_93 : decode cX5_fires 93 = .ok (.iconst 1, 1) := by decide +kernel
theorem dX5_fires_94 : decode cX5_fires 94 = .ok (.iadd, 1) := by decide +kernel
theorem dX5_fires_95 : decode cX5_fires 95 = .ok (.invokestatic 132, 3) := by decide +kernel
theorem dX5_fires_98 : decode cX5_fires 98 = .ok (.iastore, 1) := by decide +kernel
theorem dX5_fires_99 : decode cX5_fires 99 = .ok (.aload_n 0, 1) := by decide +kernel
theorem dX5_fires_100 : decode cX5_fires 100 = .ok (.getfield 9, 3) := by decide +kernel
theorem dX5_fires_103 : decode cX5_fires 103 = .ok (.iload_n 1, 1) := by decide +kernel
theorem dX5_fires_104 : decode cX5_fires 104 = .ok (.iconst 1, 1) := by decide +kernel
theorem dX5_fires_105 : decode cX5_fires 105 = .ok (.invokestatic 82, 3) := by decide +kernel
theorem dX5_fires_108 : decode cX5_fires 108 = .ok (.bipush 99, 2) := by decide +kernel
theorem dX5_fires_110 : decode cX5_fires 110 = .ok (.aload_n 0, 1) := by decide +kernel
theorem dX5_fires_111 : decode cX5_fires 111 = .ok (.iload_n 1, 1) := by decide +kernel
theorem dX5_fires_112 : decode cX5_fires 112 = .ok (.iconst 1, 1) := by decide +kernel
theorem dX5_fires_113 : decode cX5_fires 113 = .ok (.invokevirtual 92, 3) := by decide +kernel
theorem dX5_fires_116 : decode cX5_fires 116 = .ok (.bipush 15, 2) := by decide +kernel
theorem dX5_fires_118 : decode cX5_fires 118 = .ok (.iadd, 1) := by decide +kernel
theorem dX5_fires_119 : decode cX5_fires 119 = .ok (.invokestatic 132, 3) := by decide +kernel
theorem dX5_fires_122 : decode cX5_fires 122 = .ok (.iastore, 1) := by decide +kernel
theorem dX5_fires_123 : decode cX5_fires 123 = .ok (.aload_n 0, 1) := by decide +kernel
theorem dX5_fires_124 : decode cX5_fires 124 = .ok (.getfield 9, 3) := by decide +kernel
theorem dX5_fires_127 : decode cX5_fires 127 = .ok (.iload_n 1, 1) := by decide +kernel
theorem dX5_fires_128 : decode cX5_fires 128 = .ok (.iconst 3, 1) := by decide +kernel
theorem dX5_fires_129 : decode cX5_fires 129 = .ok (.invokestatic 82, 3) := by decide +kernel
theorem dX5_fires_132 : decode cX5_fires 132 = .ok (.iconst 0, 1) := by decide +kernel
theorem dX5_fires_133 : decode cX5_fires 133 = .ok (.iastore, 1) := by decide +kernel
theorem dX5_fires_134 : decode cX5_fires 134 = .ok (.return_, 1) := by decide +kernel
theorem dX5_day_0 : decode cX5_day 0 = .ok (.iconst 0, 1) := by decide +kernel
theorem dX5_day_1 : decode cX5_day 1 = .ok (.istore_n 1, 1) := by decide +kernel
theorem dX5_day_2 : decode cX5_day 2 = .ok (.iload_n 1, 1) := by decide +kernel
theorem dX5_day_3 : decode cX5_day 3 = .ok (.aload_n 0, 1) := by decide +kernel
theorem dX5_day_4 : decode cX5_day 4 = .ok (.getfield 9, 3) := by decide +kernel
theorem dX5_day_7 : decode cX5_day 7 = .ok (.iconst 1, 1) := by decide +kernel
theorem dX5_day_8 : decode cX5_day 8 = .ok (.iaload, 1) := by decide +kernel
theorem dX5_day_9 : decode cX5_day 9 = .ok (.if_icmp .ge 14, 3) := by decide +kernel
theorem dX5_day_12 : decode cX5_day 12 = .ok (.aload_n 0, 1) := by decide +kernel
theorem dX5_day_13 : decode cX5_day 13 = .ok (.iload_n 1, 1) := by decide +kernel
theorem dX5_day_14 : decode cX5_day 14 = .ok (.invokevirtual 139, 3) := by decide +kernel
theorem dX5_day_17 : decode cX5_day 17 = .ok (.iinc 1 1, 3) := by decide +kernel
theorem dX5_day_20 : decode cX5_day 20 = .ok (.goto (-18), 3) := by decide +kernel
theorem dX5_day_23 : decode cX5_day 23 = .ok (.iconst 0, 1) := by decide +kernel
theorem dX5_day_24 : decode cX5_day 24 = .ok (.istore_n 1, 1) := by decide +kernel
theorem dX5_day_25 : decode cX5_day 25 = .ok (.iload_n 1, 1) := by decide +kernel
theorem dX5_day_26 : decode cX5_day 26 = .ok (.aload_n 0, 1) := by decide +kernel
theorem dX5_day_27 : decode cX5_day 27 = .ok (.getfield 9, 3) := by decide +kernel
theorem dX5_day_30 : decode cX5_day 30 = .ok (.iconst 1, 1) := by decide +kernel
theorem dX5_day_31 : decode cX5_day 31 = .ok (.iaload, 1) := by decide +kernel
theorem dX5_day_32 : decode cX5_day 32 = .ok (.if_icmp .ge 28, 3) := by decide +kernel
theorem dX5_day_35 : decode cX5_day 35 = .ok (.aload_n 0, 1) := by decide +kernel
theorem dX5_day_36 : decode cX5_day 36 = .ok (.getfield 9, 3) := by decide +kernel
theorem dX5_day_39 : decode cX5_day 39 = .ok (.iconst 0, 1) := by decide +kernel
theorem dX5_day_40 : decode cX5_day 40 = .ok (.iaload, 1) := by decide +kernel
theorem dX5_day_41 : decode cX5_day 41 = .ok (.bipush 7, 2) := by decide +kernel
theorem dX5_day_43 : decode cX5_day 43 = .ok (.irem, 1) := by decide +kernel
theorem dX5_day_44 : decode cX5_day 44 = .ok (.bipush 6, 2) := by decide +kernel
theorem dX5_day_46 : decode cX5_day 46 = .ok (.if_icmp .ne 14, 3) := by decide +kernel
theorem dX5_day_49 : decode cX5_day 49 = .ok (.aload_n 0, 1) := by decide +kernel
theorem dX5_day_50 : decode cX5_day 50 = .ok (.iload_n 1, 1) := by decide +kernel
theorem dX5_day_51 : decode cX5_day 51 = .ok (.invokevirtual 143, 3) := by decide +kernel
theorem dX5_day_54 : decode cX5_day 54 = .ok (.iinc 1 1, 3) := by decide +kernel
theorem dX5_day_57 : decode cX5_day 57 = .ok (.goto (-32), 3) := by decide +kernel
theorem dX5_day_60 : decode cX5_day 60 = .ok (.aload_n 0, 1) := by decide +kernel
theorem dX5_day_61 : decode cX5_day 61 = .ok (.getfield 9, 3) := by decide +kernel
theorem dX5_day_64 : decode cX5_day 64 = .ok (.iconst 0, 1) := by decide +kernel
theorem dX5_day_65 : decode cX5_day 65 = .ok (.ldc 138, 2) := by decide +kernel
theorem dX5_day_67 : decode cX5_day 67 = .ok (.aload_n 0, 1) := by decide +kernel
theorem dX5_day_68 : decode cX5_day 68 = .ok (.getfield 9, 3) := by decide +kernel
theorem dX5_day_71 : decode cX5_day 71 = .ok (.iconst 0, 1) := by decide +kernel
theorem dX5_day_72 : decode cX5_day 72 = .ok (.iaload, 1) := by decide +kernel
theorem dX5_day_73 : decode cX5_day 73 = .ok (.iconst 1, 1) := by decide +kernel
theorem dX5_day_74 : decode cX5_day 74 = .ok (.iadd, 1) := by decide +kernel
theorem dX5_day_75 : decode cX5_day 75 = .ok (.invokestatic 132, 3) := by decide +kernel
theorem dX5_day_78 : decode cX5_day 78 = .ok (.iastore, 1) := by decide +kernel
theorem dX5_day_79 : decode cX5_day 79 = .ok (.return_, 1) := by decide +kernel
theorem dX5_daysGo_0 : decode cX5_daysGo 0 = .ok (.iconst 0, 1) := by decide +kernel
theorem dX5_daysGo_1 : decode cX5_daysGo 1 = .ok (.istore_n 2, 1) := by decide +kernel
theorem dX5_daysGo_2 : decode cX5_daysGo 2 = .ok (.iload_n 2, 1) := by decide +kernel
theorem dX5_daysGo_3 : decode cX5_daysGo 3 = .ok (.iload_n 1, 1) := by decide +kernel
theorem dX5_daysGo_4 : decode cX5_daysGo 4 = .ok (.if_icmp .ge 13, 3) := by decide +kernel
theorem dX5_daysGo_7 : decode cX5_daysGo 7 = .ok (.aload_n 0, 1) := by decide +kernel
theorem dX5_daysGo_8 : decode cX5_daysGo 8 = .ok (.invokevirtual 146, 3) := by decide +kernel
theorem dX5_daysGo_11 : decode cX5_daysGo 11 = .ok (.iinc 2 1, 3) := by decide +kernel
theorem dX5_daysGo_14 : decode cX5_daysGo 14 = .ok (.goto (-12), 3) := by decide +kernel
theorem dX5_daysGo_17 : decode cX5_daysGo 17 = .ok (.return_, 1) := by decide +kernel
theorem dX5_go_0 : decode cX5_go 0 = .ok (.iload_n 1, 1) := by decide +kernel
theorem dX5_go_1 : decode cX5_go 1 = .ok (.iconst 1, 1) := by decide +kernel
theorem dX5_go_2 : decode cX5_go 2 = .ok (.bipush 60, 2) := by decide +kernel
theorem dX5_go_4 : decode cX5_go 4 = .ok (.invokestatic 70, 3) := by decide +kernel
theorem dX5_go_7 : decode cX5_go 7 = .ok (.ifCond .ne 10, 3) := by decide +kernel
theorem dX5_go_10 : decode cX5_go 10 = .ok (.aload_n 0, 1) := by decide +kernel
theorem dX5_go_11 : decode cX5_go 11 = .ok (.ldc 60, 2) := by decide +kernel
theorem dX5_go_13 : decode cX5_go 13 = .ok (.invokevirtual 66, 3) := by decide +kernel
theorem dX5_go_16 : decode cX5_go 16 = .ok (.ireturn, 1) := by decide +kernel
theorem dX5_go_17 : decode cX5_go 17 = .ok (.aload_n 0, 1) := by decide +kernel
theorem dX5_go_18 : decode cX5_go 18 = .ok (.getfield 9, 3) := by decide +kernel
theorem dX5_go_21 : decode cX5_go 21 = .ok (.iconst 0, 1) := by decide +kernel
theorem dX5_go_22 : decode cX5_go 22 = .ok (.iaload, 1) := by decide +kernel
theorem dX5_go_23 : decode cX5_go 23 = .ok (.iload_n 1, 1) := by decide +kernel
theorem dX5_go_24 : decode cX5_go 24 = .ok (.iadd, 1) := by decide +kernel
theorem dX5_go_25 : decode cX5_go 25 = .ok (.ldc 138, 2) := by decide +kernel
theorem dX5_go_27 : decode cX5_go 27 = .ok (.if_icmp .le 10, 3) := by decide +kernel
theorem dX5_go_30 : decode cX5_go 30 = .ok (.aload_n 0, 1) := by decide +kernel
theorem dX5_go_31 : decode cX5_go 31 = .ok (.ldc 149, 2) := by decide +kernel
theorem dX5_go_33 : decode cX5_go 33 = .ok (.invokevirtual 66, 3) := by decide +kernel
theorem dX5_go_36 : decode cX5_go 36 = .ok (.ireturn, 1) := by decide +kernel
theorem dX5_go_37 : decode cX5_go 37 = .ok (.aload_n 0, 1) := by decide +kernel
theorem dX5_go_38 : decode cX5_go 38 = .ok (.iload_n 1, 1) := by decide +kernel
theorem dX5_go_39 : decode cX5_go 39 = .ok (.invokevirtual 150, 3) := by decide +kernel
theorem dX5_go_42 : decode cX5_go 42 = .ok (.aload_n 0, 1) := by decide +kernel
theorem dX5_go_43 : decode cX5_go 43 = .ok (.getfield 9, 3) := by decide +kernel
theorem dX5_go_46 : decode cX5_go 46 = .ok (.iconst 4, 1) := by decide +kernel
theorem dX5_go_47 : decode cX5_go 47 = .ok (.iaload, 1) := by decide +kernel
theorem dX5_go_48 : decode cX5_go 48 = .ok (.ireturn, 1) := by decide +kernel
theorem dX5_sumOf_0 : decode cX5_sumOf 0 = .ok (.iconst 0, 1) := by decide +kernel
theorem dX5_sumOf_1 : decode cX5_sumOf 1 = .ok (.istore_n 2, 1) := by decide +kernel
theorem dX5_sumOf_2 : decode cX5_sumOf 2 = .ok (.iconst 0, 1) := by decide +kernel
theorem dX5_sumOf_3 : decode cX5_sumOf 3 = .ok (.istore_n 3, 1) := by decide +kernel
theorem dX5_sumOf_4 : decode cX5_sumOf 4 = .ok (.iload_n 3, 1) := by decide +kernel
theorem dX5_sumOf_5 : decode cX5_sumOf 5 = .ok (.aload_n 0, 1) := by decide +kernel
theorem dX5_sumOf_6 : decode cX5_sumOf 6 = .ok (.getfield 9, 3) := by decide +kernel
theorem dX5_sumOf_9 : decode cX5_sumOf 9 = .ok (.iconst 1, 1) := by decide +kernel
theorem dX5_sumOf_10 : decode cX5_sumOf 10 = .ok (.iaload, 1) := by decide +kernel
theorem dX5_sumOf_11 : decode cX5_sumOf 11 = .ok (.if_icmp .ge 18, 3) := by decide +kernel
theorem dX5_sumOf_14 : decode cX5_sumOf 14 = .ok (.iload_n 2, 1) := by decide +kernel
theorem dX5_sumOf_15 : decode cX5_sumOf 15 = .ok (.aload_n 0, 1) := by decide +kernel
theorem dX5_sumOf_16 : decode cX5_sumOf 16 = .ok (.iload_n 3, 1) := by decide +kernel
theorem dX5_sumOf_17 : decode cX5_sumOf 17 = .ok (.iload_n 1, 1) := by decide +kernel
theorem dX5_sumOf_18 : decode cX5_sumOf 18 = .ok (.invokevirtual 92, 3) := by decide +kernel
theorem dX5_sumOf_21 : decode cX5_sumOf 21 = .ok (.iadd, 1) := by decide +kernel
theorem dX5_sumOf_22 : decode cX5_sumOf 22 = .ok (.istore_n 2, 1) := by decide +kernel
theorem dX5_sumOf_23 : decode cX5_sumOf 23 = .ok (.iinc 3 1, 3) := by decide +kernel
theorem dX5_sumOf_26 : decode cX5_sumOf 26 = .ok (.goto (-22), 3) := by decide +kernel
theorem dX5_sumOf_29 : decode cX5_sumOf 29 = .ok (.iload_n 2, 1) := by decide +kernel
theorem dX5_sumOf_30 : decode cX5_sumOf 30 = .ok (.ireturn, 1) := by decide +kernel
theorem dX5_colours_0 : decode cX5_colours 0 = .ok (.iconst 0, 1) := by decide +kernel
theorem dX5_colours_1 : decode cX5_colours 1 = .ok (.istore_n 1, 1) := by decide +kernel
theorem dX5_colours_2 : decode cX5_colours 2 = .ok (.iconst 0, 1) := by decide +kernel
theorem dX5_colours_3 : decode cX5_colours 3 = .ok (.istore_n 2, 1) := by decide +kernel
theorem dX5_colours_4 : decode cX5_colours 4 = .ok (.iload_n 2, 1) := by decide +kernel
theorem dX5_colours_5 : decode cX5_colours 5 = .ok (.aload_n 0, 1) := by decide +kernel
theorem dX5_colours_6 : decode cX5_colours 6 = .ok (.getfield 9, 3) := by decide +kernel
theorem dX5_colours_9 : decode cX5_colours 9 = .ok (.iconst 1, 1) := by decide +kernel
theorem dX5_colours_10 : decode cX5_colours 10 = .ok (.iaload, 1) := by decide +kernel
theorem dX5_colours_11 : decode cX5_colours 11 = .ok (.if_icmp .ge 33, 3) := by decide +kernel
theorem dX5_colours_14 : decode cX5_colours 14 = .ok (.iload_n 1, 1) := by decide +kernel
theorem dX5_colours_15 : decode cX5_colours 15 = .ok (.aload_n 0, 1) := by decide +kernel
theorem dX5_colours_16 : decode cX5_colours 16 = .ok (.iload_n 2, 1) := by decide +kernel
theorem dX5_colours_17 : decode cX5_colours 17 = .ok (.iconst 5, 1) := by decide +kernel
theorem dX5_colours_18 : decode cX5_colours 18 = .ok (.invokevirtual 92, 3) := by decide +kernel
theorem dX5_colours_21 : decode cX5_colours 21 = .ok (.ifCond .le 14, 3) := by decide +kernel
theorem dX5_colours_24 : decode cX5_colours 24 = .ok (.iconst 1, 1) := by decide +kernel
theorem dX5_colours_25 : decode cX5_colours 25 = .ok (.aload_n 0, 1) := by decide +kernel
theorem dX5_colours_26 : decode cX5_colours 26 = .ok (.iload_n 2, 1) := by decide +kernel
theorem dX5_colours_27 : decode cX5_colours 27 = .ok (.iconst 4, 1) := by decide +kernel
theorem dX5_colours_28 : decode cX5_colours 28 = .ok (.invokevirtual 92, 3) := by decide +kernel
theorem dX5_colours_31 : decode cX5_colours 31 = .ok (.ishl, 1) := by decide +kernel
theorem dX5_colours_32 : decode cX5_colours 32 = .ok (.goto 4, 3) := by decide +kernel
theorem dX5_colours_35 : decode cX5_colours 35 = .ok (.iconst 0, 1) := by decide +kernel
theorem dX5_colours_36 : decode cX5_colours 36 = .ok (.ior, 1) := by decide +kernel
theorem dX5_colours_37 : decode cX5_colours 37 = .ok (.istore_n 1, 1) := by decide +kernel
theorem dX5_colours_38 : decode cX5_colours 38 = .ok (.iinc 2 1, 3) := by decide +kernel
theorem dX5_colours_41 : decode cX5_colours 41 = .ok (.goto (-37), 3) := by decide +kernel
theorem dX5_colours_44 : decode cX5_colours 44 = .ok (.iload_n 1, 1) := by decide +kernel
theorem dX5_colours_45 : decode cX5_colours 45 = .ok (.ireturn, 1) := by decide +kernel
theorem dX5_ready_0 : decode cX5_ready 0 = .ok (.iconst 0, 1) := by decide +kernel
theorem dX5_ready_1 : decode cX5_ready 1 = .ok (.istore_n 1, 1) := by decide +kernel
theorem dX5_ready_2 : decode cX5_ready 2 = .ok (.iconst 0, 1) := by decide +kernel
theorem dX5_ready_3 : decode cX5_ready 3 = .ok (.istore_n 2, 1) := by decide +kernel
theorem dX5_ready_4 : decode cX5_ready 4 = .ok (.iload_n 2, 1) := by decide +kernel
theorem dX5_ready_5 : decode cX5_ready 5 = .ok (.aload_n 0, 1) := by decide +kernel
theorem dX5_ready_6 : decode cX5_ready 6 = .ok (.getfield 9, 3) := by decide +kernel
theorem dX5_ready_9 : decode cX5_ready 9 = .ok (.iconst 1, 1) := by decide +kernel
theorem dX5_ready_10 : decode cX5_ready 10 = .ok (.iaload, 1) := by decide +kernel
theorem dX5_ready_11 : decode cX5_ready 11 = .ok (.if_icmp .ge 27, 3) := by decide +kernel
theorem dX5_ready_14 : decode cX5_ready 14 = .ok (.iload_n 1, 1) := by decide +kernel
theorem dX5_ready_15 : decode cX5_ready 15 = .ok (.aload_n 0, 1) := by decide +kernel
theorem dX5_ready_16 : decode cX5_ready 16 = .ok (.iload_n 2, 1) := by decide +kernel
theorem dX5_ready_17 : decode cX5_ready 17 = .ok (.invokevirtual 135, 3) := by decide +kernel
theorem dX5_ready_20 : decode cX5_ready 20 = .ok (.ifCond .eq 9, 3) := by decide +kernel
theorem dX5_ready_23 : decode cX5_ready 23 = .ok (.iconst 1, 1) := by decide +kernel
theorem dX5_ready_24 : decode cX5_ready 24 = .ok (.iload_n 2, 1) := by decide +kernel
theorem dX5_ready_25 : decode cX5_ready 25 = .ok (.ishl, 1) := by decide +kernel
theorem dX5_ready_26 : decode cX5_ready 26 = .ok (.goto 4, 3) := by decide +kernel
theorem dX5_ready_29 : decode cX5_ready 29 = .ok (.iconst 0, 1) := by decide +kernel
theorem dX5_ready_30 : decode cX5_ready 30 = .ok (.ior, 1) := by decide +kernel
theorem dX5_ready_31 : decode cX5_ready 31 = .ok (.istore_n 1, 1) := by decide +kernel
theorem dX5_ready_32 : decode cX5_ready 32 = .ok (.iinc 2 1, 3) := by decide +kernel
theorem dX5_ready_35 : decode cX5_ready 35 = .ok (.goto (-31), 3) := by decide +kernel
theorem dX5_ready_38 : decode cX5_ready 38 = .ok (.iload_n 1, 1) := by decide +kernel
theorem dX5_ready_39 : decode cX5_ready 39 = .ok (.ireturn, 1) := by decide +kernel
theorem dX5_mostRun_0 : decode cX5_mostRun 0 = .ok (.iconst (-1), 1) := by decide +kernel
theorem dX5_mostRun_1 : decode cX5_mostRun 1 = .ok (.istore_n 1, 1) := by decide +kernel
theorem dX5_mostRun_2 : decode cX5_mostRun 2 = .ok (.iconst 0, 1) := by decide +kernel
theorem dX5_mostRun_3 : decode cX5_mostRun 3 = .ok (.istore_n 2, 1) := by decide +kernel
theorem dX5_mostRun_4 : decode cX5_mostRun 4 = .ok (.iload_n 2, 1) := by decide +kernel
theorem dX5_mostRun_5 : decode cX5_mostRun 5 = .ok (.aload_n 0, 1) := by decide +kernel
theorem dX5_mostRun_6 : decode cX5_mostRun 6 = .ok (.getfield 9, 3) := by decide +kernel
theorem dX5_mostRun_9 : decode cX5_mostRun 9 = .ok (.iconst 1, 1) := by decide +kernel
theorem dX5_mostRun_10 : decode cX5_mostRun 10 = .ok (.iaload, 1) := by decide +kernel
theorem dX5_mostRun_11 : decode cX5_mostRun 11 = .ok (.if_icmp .ge 34, 3) := by decide +kernel
theorem dX5_mostRun_14 : decode cX5_mostRun 14 = .ok (.iload_n 1, 1) := by decide +kernel
theorem dX5_mostRun_15 : decode cX5_mostRun 15 = .ok (.ifCond .lt 18, 3) := by decide +kernel
theorem dX5_mostRun_18 : decode cX5_mostRun 18 = .ok (.aload_n 0, 1) := by decide +kernel
theorem dX5_mostRun_19 : decode cX5_mostRun 19 = .ok (.iload_n 2, 1) := by decide +kernel
theorem dX5_mostRun_20 : decode cX5_mostRun 20 = .ok (.iconst 3, 1) := by decide +kernel
theorem dX5_mostRun_21 : decode cX5_mostRun 21 = .ok (.invokevirtual 92, 3) := by decide +kernel
theorem dX5_mostRun_24 : decode cX5_mostRun 24 = .ok (.aload_n 0, 1) := by decide +kernel
theorem dX5_mostRun_25 : decode cX5_mostRun 25 = .ok (.iload_n 1, 1) := by decide +kernel
theorem dX5_mostRun_26 : decode cX5_mostRun 26 = .ok (.iconst 3, 1) := by decide +kernel
theorem dX5_mostRun_27 : decode cX5_mostRun 27 = .ok (.invokevirtual 92, 3) := by decide +kernel
theorem dX5_mostRun_30 : decode cX5_mostRun 30 = .ok (.if_icmp .le 7, 3) := by decide +kernel
theorem dX5_mostRun_33 : decode cX5_mostRun 33 = .ok (.iload_n 2, 1) := by decide +kernel
theorem dX5_mostRun_34 : decode cX5_mostRun 34 = .ok (.goto 4, 3) := by decide +kernel
theorem dX5_mostRun_37 : decode cX5_mostRun 37 = .ok (.iload_n 1, 1) := by decide +kernel
theorem dX5_mostRun_38 : decode cX5_mostRun 38 = .ok (.istore_n 1, 1) := by decide +kernel
theorem dX5_mostRun_39 : decode cX5_mostRun 39 = .ok (.iinc 2 1, 3) := by decide +kernel
theorem dX5_mostRun_42 : decode cX5_mostRun 42 = .ok (.goto (-38), 3) := by decide +kernel
theorem dX5_mostRun_45 : decode cX5_mostRun 45 = .ok (.iload_n 1, 1) := by decide +kernel
theorem dX5_mostRun_46 : decode cX5_mostRun 46 = .ok (.ireturn, 1) := by decide +kernel
theorem dX5_now_0 : decode cX5_now 0 = .ok (.iload_n 1, 1) := by decide +kernel
theorem dX5_now_1 : decode cX5_now 1 = .ok (.tableswitch 96 0 7 #[47, 54, 61, 68, 74, 81, 86, 91], 47) := by decide +kernel
theorem dX5_now_48 : decode cX5_now 48 = .ok (.aload_n 0, 1) := by decide +kernel
theorem dX5_now_49 : decode cX5_now 49 = .ok (.getfield 9, 3) := by decide +kernel
theorem dX5_now_52 : decode cX5_now 52 = .ok (.iconst 0, 1) := by decide +kernel
theorem dX5_now_53 : decode cX5_now 53 = .ok (.iaload, 1) := by decide +kernel
theorem dX5_now_54 : decode cX5_now 54 = .ok (.ireturn, 1) := by decide +kernel
theorem dX5_now_55 : decode cX5_now 55 = .ok (.aload_n 0, 1) := by decide +kernel
theorem dX5_now_56 : decode cX5_now 56 = .ok (.getfield 9, 3) := by decide +kernel
theorem dX5_now_59 : decode cX5_now 59 = .ok (.iconst 4, 1) := by decide +kernel
theorem dX5_now_60 : decode cX5_now 60 = .ok (.iaload, 1) := by decide +kernel
theorem dX5_now_61 : decode cX5_now 61 = .ok (.ireturn, 1) := by decide +kernel
theorem dX5_now_62 : decode cX5_now 62 = .ok (.aload_n 0, 1) := by decide +kernel
theorem dX5_now_63 : decode cX5_now 63 = .ok (.getfield 9, 3) := by decide +kernel
theorem dX5_now_66 : decode cX5_now 66 = .ok (.iconst 3, 1) := by decide +kernel
theorem dX5_now_67 : decode cX5_now 67 = .ok (.iaload, 1) := by decide +kernel
theorem dX5_now_68 : decode cX5_now 68 = .ok (.ireturn, 1) := by decide +kernel
theorem dX5_now_69 : decode cX5_now 69 = .ok (.aload_n 0, 1) := by decide +kernel
theorem dX5_now_70 : decode cX5_now 70 = .ok (.iconst 5, 1) := by decide +kernel
theorem dX5_now_71 : decode cX5_now 71 = .ok (.invokevirtual 153, 3) := by decide +kernel
theorem dX5_now_74 : decode cX5_now 74 = .ok (.ireturn, 1) := by decide +kernel
theorem dX5_now_75 : decode cX5_now 75 = .ok (.aload_n 0, 1) := by decide +kernel
theorem dX5_now_76 : decode cX5_now 76 = .ok (.bipush 6, 2) := by decide +kernel
theorem dX5_now_78 : decode cX5_now 78 = .ok (.invokevirtual 153, 3) := by decide +kernel
theorem dX5_now_81 : decode cX5_now 81 = .ok (.ireturn, 1) := by decide +kernel
theorem dX5_now_82 : decode cX5_now 82 = .ok (.aload_n 0, 1) := by decide +kernel
theorem dX5_now_83 : decode cX5_now 83 = .ok (.invokevirtual 156, 3) := by decide +kernel
theorem dX5_now_86 : decode cX5_now 86 = .ok (.ireturn, 1) := by decide +kernel
theorem dX5_now_87 : decode cX5_now 87 = .ok (.aload_n 0, 1) := by decide +kernel
theorem dX5_now_88 : decode cX5_now 88 = .ok (.invokevirtual 159, 3) := by decide +kernel
theorem dX5_now_91 : decode cX5_now 91 = .ok (.ireturn, 1) := by decide +kernel
theorem dX5_now_92 : decode cX5_now 92 = .ok (.aload_n 0, 1) := by decide +kernel
theorem dX5_now_93 : decode cX5_now 93 = .ok (.invokevirtual 162, 3) := by decide +kernel
theorem dX5_now_96 : decode cX5_now 96 = .ok (.ireturn, 1) := by decide +kernel
theorem dX5_now_97 : decode cX5_now 97 = .ok (.aload_n 0, 1) := by decide +kernel
theorem dX5_now_98 : decode cX5_now 98 = .ok (.ldc 60, 2) := by decide +kernel
theorem dX5_now_100 : decode cX5_now 100 = .ok (.invokevirtual 66, 3) := by decide +kernel
theorem dX5_now_103 : decode cX5_now 103 = .ok (.ireturn, 1) := by decide +kernel
theorem dX5_behind_0 : decode cX5_behind 0 = .ok (.aload_n 0, 1) := by decide +kernel
theorem dX5_behind_1 : decode cX5_behind 1 = .ok (.getfield 9, 3) := by decide +kernel
theorem dX5_behind_4 : decode cX5_behind 4 = .ok (.aload_n 0, 1) := by decide +kernel
theorem dX5_behind_5 : decode cX5_behind 5 = .ok (.getfield 16, 3) := by decide +kernel
theorem dX5_behind_8 : decode cX5_behind 8 = .ok (.invokestatic 61, 3) := by decide +kernel
theorem dX5_behind_11 : decode cX5_behind 11 = .ok (.aload_n 0, 1) := by decide +kernel
theorem dX5_behind_12 : decode cX5_behind 12 = .ok (.iload_n 2, 1) := by decide +kernel
theorem dX5_behind_13 : decode cX5_behind 13 = .ok (.invokevirtual 150, 3) := by decide +kernel
theorem dX5_behind_16 : decode cX5_behind 16 = .ok (.aload_n 0, 1) := by decide +kernel
theorem dX5_behind_17 : decode cX5_behind 17 = .ok (.aload_n 0, 1) := by decide +kernel
theorem dX5_behind_18 : decode cX5_behind 18 = .ok (.getfield 9, 3) := by decide +kernel
theorem dX5_behind_21 : decode cX5_behind 21 = .ok (.iload_n 1, 1) := by decide +kernel
theorem dX5_behind_22 : decode cX5_behind 22 = .ok (.iaload, 1) := by decide +kernel
theorem dX5_behind_23 : decode cX5_behind 23 = .ok (.invokevirtual 165, 3) := by decide +kernel
theorem dX5_behind_26 : decode cX5_behind 26 = .ok (.ireturn, 1) := by decide +kernel
theorem dX5_ahead_0 : decode cX5_ahead 0 = .ok (.iload_n 2, 1) := by decide +kernel
theorem dX5_ahead_1 : decode cX5_ahead 1 = .ok (.iconst 1, 1) := by decide +kernel
theorem dX5_ahead_2 : decode cX5_ahead 2 = .ok (.if_icmp .eq 13, 3) := by decide +kernel
theorem dX5_ahead_5 : decode cX5_ahead 5 = .ok (.iload_n 2, 1) := by decide +kernel
theorem dX5_ahead_6 : decode cX5_ahead 6 = .ok (.iconst 3, 1) := by decide +kernel
theorem dX5_ahead_7 : decode cX5_ahead 7 = .ok (.bipush 6, 2) := by decide +kernel
theorem dX5_ahead_9 : decode cX5_ahead 9 = .ok (.invokestatic 70, 3) := by decide +kernel
theorem dX5_ahead_12 : decode cX5_ahead 12 = .ok (.ifCond .eq 7, 3) := by decide +kernel
theorem dX5_ahead_15 : decode cX5_ahead 15 = .ok (.iconst 1, 1) := by decide +kernel
theorem dX5_ahead_16 : decode cX5_ahead 16 = .ok (.goto 4, 3) := by decide +kernel
theorem dX5_ahead_19 : decode cX5_ahead 19 = .ok (.iconst 0, 1) := by decide +kernel
theorem dX5_ahead_20 : decode cX5_ahead 20 = .ok (.istore 4, 2) := by decide +kernel
theorem dX5_ahead_22 : decode cX5_ahead 22 = .ok (.aload_n 0, 1) := by decide +kernel
theorem dX5_ahead_23 : decode cX5_ahead 23 = .ok (.iload_n 1, 1) := by decide +kernel
theorem dX5_ahead_24 : decode cX5_ahead 24 = .ok (.invokevirtual 122, 3) := by decide +kernel
theorem dX5_ahead_27 : decode cX5_ahead 27 = .ok (.ifCond .eq 18, 3) := by decide +kernel
theorem dX5_ahead_30 : decode cX5_ahead 30 = .ok (.iload 4, 2) := by decide +kernel
theorem dX5_ahead_32 : decode cX5_ahead 32 = .ok (.ifCond .eq 13, 3) := by decide +kernel
theorem dX5_ahead_35 : decode cX5_ahead 35 = .ok (.iload_n 3, 1) := by decide +kernel
theorem dX5_ahead_36 : decode cX5_ahead 36 = .ok (.iconst 0, 1) := by decide +kernel
theorem dX5_ahead_37 : decode cX5_ahead 37 = .ok (.bipush 100, 2) := by decide +kernel
theorem dX5_ahead_39 : decode cX5_ahead 39 = .ok (.invokestatic 70, 3) := by decide +kernel
theorem dX5_ahead_42 : decode cX5_ahead 42 = .ok (.ifCond .ne 10, 3) := by decide +kernel
theorem dX5_ahead_45 : decode cX5_ahead 45 = .ok (.aload_n 0, 1) := by decide +kernel
theorem dX5_ahead_46 : decode cX5_ahead 46 = .ok (.ldc 60, 2) := by decide +kernel
theorem dX5_ahead_48 : decode cX5_ahead 48 = .ok (.invokevirtual 66, 3) := by decide +kernel
theorem dX5_ahead_51 : decode cX5_ahead 51 = .ok (.ireturn, 1) := by decide +kernel
theorem dX5_ahead_52 : decode cX5_ahead 52 = .ok (.aload_n 0, 1) := by decide +kernel
theorem dX5_ahead_53 : decode cX5_ahead 53 = .ok (.iload_n 1, 1) := by decide +kernel
theorem dX5_ahead_54 : decode cX5_ahead 54 = .ok (.iload_n 2, 1) := by decide +kernel
theorem dX5_ahead_55 : decode cX5_ahead 55 = .ok (.invokestatic 82, 3) := by decide +kernel
theorem dX5_ahead_58 : decode cX5_ahead 58 = .ok (.iload_n 3, 1) := by decide +kernel
theorem dX5_ahead_59 : decode cX5_ahead 59 = .ok (.invokevirtual 168, 3) := by decide +kernel
theorem dX5_ahead_62 : decode cX5_ahead 62 = .ok (.ireturn, 1) := by decide +kernel
theorem dX5_sold_0 : decode cX5_sold 0 = .ok (.iload_n 1, 1) := by decide +kernel
theorem dX5_sold_1 : decode cX5_sold 1 = .ok (.iconst 0, 1) := by decide +kernel
theorem dX5_sold_2 : decode cX5_sold 2 = .ok (.bipush 100, 2) := by decide +kernel
theorem dX5_sold_4 : decode cX5_sold 4 = .ok (.invokestatic 70, 3) := by decide +kernel
theorem dX5_sold_7 : decode cX5_sold 7 = .ok (.ifCond .eq 12, 3) := by decide +kernel
theorem dX5_sold_10 : decode cX5_sold 10 = .ok (.aload_n 0, 1) := by decide +kernel
theorem dX5_sold_11 : decode cX5_sold 11 = .ok (.iconst 4, 1) := by decide +kernel
theorem dX5_sold_12 : decode cX5_sold 12 = .ok (.iload_n 1, 1) := by decide +kernel
theorem dX5_sold_13 : decode cX5_sold 13 = .ok (.invokevirtual 168, 3) := by decide +kernel
theorem dX5_sold_16 : decode cX5_sold 16 = .ok (.goto 9, 3) := by decide +kernel
theorem dX5_sold_19 : decode cX5_sold 19 = .ok (.aload_n 0, 1) := by decide +kernel
theorem dX5_sold_20 : decode cX5_sold 20 = .ok (.ldc 60, 2) := by decide +kernel
theorem dX5_sold_22 : decode cX5_sold 22 = .ok (.invokevirtual 66, 3) := by decide +kernel
theorem dX5_sold_25 : decode cX5_sold 25 = .ok (.ireturn, 1) := by decide +kernel
theorem dX5_daysTo_0 : decode cX5_daysTo 0 = .ok (.aload_n 0, 1) := by decide +kernel
theorem dX5_daysTo_1 : decode cX5_daysTo 1 = .ok (.getfield 9, 3) := by decide +kernel
theorem dX5_daysTo_4 : decode cX5_daysTo 4 = .ok (.aload_n 0, 1) := by decide +kernel
theorem dX5_daysTo_5 : decode cX5_daysTo 5 = .ok (.getfield 16, 3) := by decide +kernel
theorem dX5_daysTo_8 : decode cX5_daysTo 8 = .ok (.invokestatic 61, 3) := by decide +kernel
theorem dX5_daysTo_11 : decode cX5_daysTo 11 = .ok (.iconst 0, 1) := by decide +kernel
theorem dX5_daysTo_12 : decode cX5_daysTo 12 = .ok (.istore_n 3, 1) := by decide +kernel
theorem dX5_daysTo_13 : decode cX5_daysTo 13 = .ok (.iload_n 3, 1) := by decide +kernel
theorem dX5_daysTo_14 : decode cX5_daysTo 14 = .ok (.sipush 200, 3) := by decide +kernel
theorem dX5_daysTo_17 : decode cX5_daysTo 17 = .ok (.if_icmp .ge 23, 3) := by decide +kernel
theorem dX5_daysTo_20 : decode cX5_daysTo 20 = .ok (.aload_n 0, 1) := by decide +kernel
theorem dX5_daysTo_21 : decode cX5_daysTo 21 = .ok (.getfield 9, 3) := by decide +kernel
theorem dX5_daysTo_24 : decode cX5_daysTo 24 = .ok (.iload_n 1, 1) := by decide +kernel
theorem dX5_daysTo_25 : decode cX5_daysTo 25 = .ok (.iaload, 1) := by decide +kernel
theorem dX5_daysTo_26 : decode cX5_daysTo 26 = .ok (.iload_n 2, 1) := by decide +kernel
theorem dX5_daysTo_27 : decode cX5_daysTo 27 = .ok (.if_icmp .ge 13, 3) := by decide +kernel
theorem dX5_daysTo_30 : decode cX5_daysTo 30 = .ok (.aload_n 0, 1) := by decide +kernel
theorem dX5_daysTo_31 : decode cX5_daysTo 31 = .ok (.invokevirtual 146, 3) := by decide +kernel
theorem dX5_daysTo_34 : decode cX5_daysTo 34 = .ok (.iinc 3 1, 3) := by decide +kernel
theorem dX5_daysTo_37 : decode cX5_daysTo 37 = .ok (.goto (-24), 3) := by decide +kernel
theorem dX5_daysTo_40 : decode cX5_daysTo 40 = .ok (.aload_n 0, 1) := by decide +kernel
theorem dX5_daysTo_41 : decode cX5_daysTo 41 = .ok (.aload_n 0, 1) := by decide +kernel
theorem dX5_daysTo_42 : decode cX5_daysTo 42 = .ok (.getfield 9, 3) := by decide +kernel
theorem dX5_daysTo_45 : decode cX5_daysTo 45 = .ok (.iload_n 1, 1) := by decide +kernel
theorem dX5_daysTo_46 : decode cX5_daysTo 46 = .ok (.iaload, 1) := by decide +kernel
theorem dX5_daysTo_47 : decode cX5_daysTo 47 = .ok (.iload_n 2, 1) := by decide +kernel
theorem dX5_daysTo_48 : decode cX5_daysTo 48 = .ok (.if_icmp .ge 7, 3) := by decide +kernel
theorem dX5_daysTo_51 : decode cX5_daysTo 51 = .ok (.iconst (-1), 1) := by decide +kernel
theorem dX5_daysTo_52 : decode cX5_daysTo 52 = .ok (.goto 4, 3) := by decide +kernel
theorem dX5_daysTo_55 : decode cX5_daysTo 55 = .ok (.iload_n 3, 1) := by decide +kernel
theorem dX5_daysTo_56 : decode cX5_daysTo 56 = .ok (.invokevirtual 165, 3) := by decide +kernel
theorem dX5_daysTo_59 : decode cX5_daysTo 59 = .ok (.ireturn, 1) := by decide +kernel
theorem dX5_when_0 : decode cX5_when 0 = .ok (.aload_n 0, 1) := by decide +kernel
theorem dX5_when_1 : decode cX5_when 1 = .ok (.iload_n 1, 1) := by decide +kernel
theorem dX5_when_2 : decode cX5_when 2 = .ok (.invokevirtual 122, 3) := by decide +kernel
theorem dX5_when_5 : decode cX5_when 5 = .ok (.ifCond .eq 31, 3) := by decide +kernel
theorem dX5_when_8 : decode cX5_when 8 = .ok (.iload_n 2, 1) := by decide +kernel
theorem dX5_when_9 : decode cX5_when 9 = .ok (.iconst 0, 1) := by decide +kernel
theorem dX5_when_10 : decode cX5_when 10 = .ok (.sipush 9999, 3) := by decide +kernel
theorem dX5_when_13 : decode cX5_when 13 = .ok (.invokestatic 70, 3) := by decide +kernel
theorem dX5_when_16 : decode cX5_when 16 = .ok (.ifCond .eq 20, 3) := by decide +kernel
theorem dX5_when_19 : decode cX5_when 19 = .ok (.aload_n 0, 1) := by decide +kernel
theorem dX5_when_20 : decode cX5_when 20 = .ok (.aload_n 0, 1) := by decide +kernel
theorem dX5_when_21 : decode cX5_when 21 = .ok (.iload_n 1, 1) := by decide +kernel
theorem dX5_when_22 : decode cX5_when 22 = .ok (.iconst 5, 1) := by decide +kernel
theorem dX5_when_23 : decode cX5_when 23 = .ok (.invokestatic 82, 3) := by decide +kernel
theorem dX5_when_26 : decode cX5_when 26 = .ok (.iload_n 2, 1) := by decide +kernel
theorem dX5_when_27 : decode cX5_when 27 = .ok (.invokevirtual 171, 3) := by decide +kernel
theorem dX5_when_30 : decode cX5_when 30 = .ok (.invokevirtual 174, 3) := by decide +kernel
theorem dX5_when_33 : decode cX5_when 33 = .ok (.goto 9, 3) := by decide +kernel
theorem dX5_when_36 : decode cX5_when 36 = .ok (.aload_n 0, 1) := by decide +kernel
theorem dX5_when_37 : decode cX5_when 37 = .ok (.ldc 60, 2) := by decide +kernel
theorem dX5_when_39 : decode cX5_when 39 = .ok (.invokevirtual 66, 3) := by decide +kernel
theorem dX5_when_42 : decode cX5_when 42 = .ok (.ireturn, 1) := by decide +kernel
theorem dX5_cracks_0 : decode cX5_cracks 0 = .ok (.aload_n 0, 1) := by decide +kernel
theorem dX5_cracks_1 : decode cX5_cracks 1 = .ok (.iload_n 1, 1) := by decide +kernel
theorem dX5_cracks_2 : decode cX5_cracks 2 = .ok (.invokevirtual 122, 3) := by decide +kernel
theorem dX5_cracks_5 : decode cX5_cracks 5 = .ok (.ifCond .eq 29, 3) := by decide +kernel
theorem dX5_cracks_8 : decode cX5_cracks 8 = .ok (.aload_n 0, 1) := by decide +kernel
theorem dX5_cracks_9 : decode cX5_cracks 9 = .ok (.aload_n 0, 1) := by decide +kernel
theorem dX5_cracks_10 : decode cX5_cracks 10 = .ok (.iload_n 1, 1) := by decide +kernel
theorem dX5_cracks_11 : decode cX5_cracks 11 = .ok (.bipush 6, 2) := by decide +kernel
theorem dX5_cracks_13 : decode cX5_cracks 13 = .ok (.invokestatic 82, 3) := by decide +kernel
theorem dX5_cracks_16 : decode cX5_cracks 16 = .ok (.aload_n 0, 1) := by decide +kernel
theorem dX5_cracks_17 : decode cX5_cracks 17 = .ok (.iload_n 1, 1) := by decide +kernel
theorem dX5_cracks_18 : decode cX5_cracks 18 = .ok (.bipush 6, 2) := by decide +kernel
theorem dX5_cracks_20 : decode cX5_cracks 20 = .ok (.invokevirtual 92, 3) := by decide +kernel
theorem dX5_cracks_23 : decode cX5_cracks 23 = .ok (.iconst 1, 1) := by decide +kernel
theorem dX5_cracks_24 : decode cX5_cracks 24 = .ok (.iadd, 1) := by decide +kernel
theorem dX5_cracks_25 : decode cX5_cracks 25 = .ok (.invokevirtual 171, 3) := by decide +kernel
theorem dX5_cracks_28 : decode cX5_cracks 28 = .ok (.invokevirtual 174, 3) := by decide +kernel
theorem dX5_cracks_31 : decode cX5_cracks 31 = .ok (.goto 9, 3) := by decide +kernel
theorem dX5_cracks_34 : decode cX5_cracks 34 = .ok (.aload_n 0, 1) := by decide +kernel
theorem dX5_cracks_35 : decode cX5_cracks 35 = .ok (.ldc 60, 2) := by decide +kernel
theorem dX5_cracks_37 : decode cX5_cracks 37 = .ok (.invokevirtual 66, 3) := by decide +kernel
theorem dX5_cracks_40 : decode cX5_cracks 40 = .ok (.ireturn, 1) := by decide +kernel
theorem dX5_hasColour_0 : decode cX5_hasColour 0 = .ok (.aload_n 0, 1) := by decide +kernel
theorem dX5_hasColour_1 : decode cX5_hasColour 1 = .ok (.iload_n 1, 1) := by decide +kernel
theorem dX5_hasColour_2 : decode cX5_hasColour 2 = .ok (.iconst 5, 1) := by decide +kernel
theorem dX5_hasColour_3 : decode cX5_hasColour 3 = .ok (.invokevirtual 92, 3) := by decide +kernel
theorem dX5_hasColour_6 : decode cX5_hasColour 6 = .ok (.ifCond .le 17, 3) := by decide +kernel
theorem dX5_hasColour_9 : decode cX5_hasColour 9 = .ok (.aload_n 0, 1) := by decide +kernel
theorem dX5_hasColour_10 : decode cX5_hasColour 10 = .ok (.iload_n 1, 1) := by decide +kernel
theorem dX5_hasColour_11 : decode cX5_hasColour 11 = .ok (.iconst 4, 1) := by decide +kernel
theorem dX5_hasColour_12 : decode cX5_hasColour 12 = .ok (.invokevirtual 92, 3) := by decide +kernel
theorem dX5_hasColour_15 : decode cX5_hasColour 15 = .ok (.iload_n 2, 1) := by decide +kernel
theorem dX5_hasColour_16 : decode cX5_hasColour 16 = .ok (.if_icmp .ne 7, 3) := by decide +kernel
theorem dX5_hasColour_19 : decode cX5_hasColour 19 = .ok (.iconst 1, 1) := by decide +kernel
theorem dX5_hasColour_20 : decode cX5_hasColour 20 = .ok (.goto 4, 3) := by decide +kernel
theorem dX5_hasColour_23 : decode cX5_hasColour 23 = .ok (.iconst 0, 1) := by decide +kernel
theorem dX5_hasColour_24 : decode cX5_hasColour 24 = .ok (.ireturn, 1) := by decide +kernel
theorem dX5_isColour_0 : decode cX5_isColour 0 = .ok (.iload_n 0, 1) := by decide +kernel
theorem dX5_isColour_1 : decode cX5_isColour 1 = .ok (.iconst 0, 1) := by decide +kernel
theorem dX5_isColour_2 : decode cX5_isColour 2 = .ok (.bipush 7, 2) := by decide +kernel
theorem dX5_isColour_4 : decode cX5_isColour 4 = .ok (.invokestatic 70, 3) := by decide +kernel
theorem dX5_isColour_7 : decode cX5_isColour 7 = .ok (.ireturn, 1) := by decide +kernel
theorem dX5_tinted_0 : decode cX5_tinted 0 = .ok (.aload_n 0, 1) := by decide +kernel
theorem dX5_tinted_1 : decode cX5_tinted 1 = .ok (.iload_n 1, 1) := by decide +kernel
theorem dX5_tinted_2 : decode cX5_tinted 2 = .ok (.invokevirtual 122, 3) := by decide +kernel
theorem dX5_tinted_5 : decode cX5_tinted 5 = .ok (.ifCond .eq 10, 3) := by decide +kernel
theorem dX5_tinted_8 : decode cX5_tinted 8 = .ok (.iload_n 2, 1) := by decide +kernel
theorem dX5_tinted_9 : decode cX5_tinted 9 = .ok (.invokestatic 177, 3) := by decide +kernel
theorem dX5_tinted_12 : decode cX5_tinted 12 = .ok (.ifCond .ne 10, 3) := by decide +kernel
theorem dX5_tinted_15 : decode cX5_tinted 15 = .ok (.aload_n 0, 1) := by decide +kernel
theorem dX5_tinted_16 : decode cX5_tinted 16 = .ok (.ldc 60, 2) := by decide +kernel
theorem dX5_tinted_18 : decode cX5_tinted 18 = .ok (.invokevirtual 66, 3) := by decide +kernel
theorem dX5_tinted_21 : decode cX5_tinted 21 = .ok (.ireturn, 1) := by decide +kernel
theorem dX5_tinted_22 : decode cX5_tinted 22 = .ok (.aload_n 0, 1) := by decide +kernel
theorem dX5_tinted_23 : decode cX5_tinted 23 = .ok (.getfield 9, 3) := by decide +kernel
theorem dX5_tinted_26 : decode cX5_tinted 26 = .ok (.aload_n 0, 1) := by decide +kernel
theorem dX5_tinted_27 : decode cX5_tinted 27 = .ok (.getfield 16, 3) := by decide +kernel
theorem dX5_tinted_30 : decode cX5_tinted 30 = .ok (.invokestatic 61, 3) := by decide +kernel
theorem dX5_tinted_33 : decode cX5_tinted 33 = .ok (.iconst 0, 1) := by decide +kernel
theorem dX5_tinted_34 : decode cX5_tinted 34 = .ok (.istore_n 3, 1) := by decide +kernel
theorem dX5_tinted_35 : decode cX5_tinted 35 = .ok (.iload_n 3, 1) := by decide +kernel
theorem dX5_tinted_36 : decode cX5_tinted 36 = .ok (.sipush 200, 3) := by decide +kernel
theorem dX5_tinted_39 : decode cX5_tinted 39 = .ok (.if_icmp .ge 22, 3) := by decide +kernel
theorem dX5_tinted_42 : decode cX5_tinted 42 = .ok (.aload_n 0, 1) := by decide +kernel
theorem dX5_tinted_43 : decode cX5_tinted 43 = .ok (.iload_n 1, 1) := by decide +kernel
theorem dX5_tinted_44 : decode cX5_tinted 44 = .ok (.iload_n 2, 1) := by decide +kernel
theorem dX5_tinted_45 : decode cX5_tinted 45 = .ok (.invokevirtual 180, 3) := by decide +kernel
theorem dX5_tinted_48 : decode cX5_tinted 48 = .ok (.ifCond .ne 13, 3) := by decide +kernel
theorem dX5_tinted_51 : decode cX5_tinted 51 = .ok (.aload_n 0, 1) := by decide +kernel
theorem dX5_tinted_52 : decode cX5_tinted 52 = .ok (.invokevirtual 146, 3) := by decide +kernel
theorem dX5_tinted_55 : decode cX5_tinted 55 = .ok (.iinc 3 1, 3) := by decide +kernel
theorem dX5_tinted_58 : decode cX5_tinted 58 = .ok (.goto (-23), 3) := by decide +kernel
theorem dX5_tinted_61 : decode cX5_tinted 61 = .ok (.aload_n 0, 1) := by decide +kernel
theorem dX5_tinted_62 : decode cX5_tinted 62 = .ok (.aload_n 0, 1) := by decide +kernel
theorem dX5_tinted_63 : decode cX5_tinted 63 = .ok (.aload_n 0, 1) := by decide +kernel
theorem dX5_tinted_64 : decode cX5_tinted 64 = .ok (.iload_n 1, 1) := by decide +kernel
theorem dX5_tinted_65 : decode cX5_tinted 65 = .ok (.iload_n 2, 1) := by decide +kernel
theorem dX5_tinted_66 : decode cX5_tinted 66 = .ok (.invokevirtual 180, 3) := by decide +kernel
theorem dX5_tinted_69 : decode cX5_tinted 69 = .ok (.ifCond .eq 7, 3) := by decide +kernel
theorem dX5_tinted_72 : decode cX5_tinted 72 = .ok (.iload_n 3, 1) := by decide +kernel
theorem dX5_tinted_73 : decode cX5_tinted 73 = .ok (.goto 4, 3) := by decide +kernel
theorem dX5_tinted_76 : decode cX5_tinted 76 = .ok (.iconst (-1), 1) := by decide +kernel
theorem dX5_tinted_77 : decode cX5_tinted 77 = .ok (.invokevirtual 165, 3) := by decide +kernel
theorem dX5_tinted_80 : decode cX5_tinted 80 = .ok (.invokevirtual 174, 3) := by decide +kernel
theorem dX5_tinted_83 : decode cX5_tinted 83 = .ok (.ireturn, 1) := by decide +kernel
theorem dX5_isThought_0 : decode cX5_isThought 0 = .ok (.iload_n 0, 1) := by decide +kernel
theorem dX5_isThought_1 : decode cX5_isThought 1 = .ok (.iconst 0, 1) := by decide +kernel
theorem dX5_isThought_2 : decode cX5_isThought 2 = .ok (.bipush 60, 2) := by decide +kernel
theorem dX5_isThought_4 : decode cX5_isThought 4 = .ok (.invokestatic 70, 3) := by decide +kernel
theorem dX5_isThought_7 : decode cX5_isThought 7 = .ok (.ireturn, 1) := by decide +kernel
theorem dX5_hoursFor_0 : decode cX5_hoursFor 0 = .ok (.aload_n 0, 1) := by decide +kernel
theorem dX5_hoursFor_1 : decode cX5_hoursFor 1 = .ok (.iload_n 1, 1) := by decide +kernel
theorem dX5_hoursFor_2 : decode cX5_hoursFor 2 = .ok (.invokevirtual 122, 3) := by decide +kernel
theorem dX5_hoursFor_5 : decode cX5_hoursFor 5 = .ok (.ifCond .eq 21, 3) := by decide +kernel
theorem dX5_hoursFor_8 : decode cX5_hoursFor 8 = .ok (.iload_n 2, 1) := by decide +kernel
theorem dX5_hoursFor_9 : decode cX5_hoursFor 9 = .ok (.iconst 0, 1) := by decide +kernel
theorem dX5_hoursFor_10 : decode cX5_hoursFor 10 = .ok (.sipush 9999, 3) := by decide +kernel
theorem dX5_hoursFor_13 : decode cX5_hoursFor 13 = .ok (.invokestatic 70, 3) := by decide +kernel
theorem dX5_hoursFor_16 : decode cX5_hoursFor 16 = .ok (.ifCond .eq 10, 3) := by decide +kernel
theorem dX5_hoursFor_19 : decode cX5_hoursFor 19 = .ok (.iload_n 3, 1) := by decide +kernel
theorem dX5_hoursFor_20 : decode cX5_hoursFor 20 = .ok (.invokestatic 183, 3) := by decide +kernel
theorem dX5_hoursFor_23 : decode cX5_hoursFor 23 = .ok (.ifCond .ne 10, 3) := by decide +kernel
theorem dX5_hoursFor_26 : decode cX5_hoursFor 26 = .ok (.aload_n 0, 1) := by decide +kernel
theorem dX5_hoursFor_27 : decode cX5_hoursFor 27 = .ok (.ldc 60, 2) := by decide +kernel
theorem dX5_hoursFor_29 : decode cX5_hoursFor 29 = .ok (.invokevirtual 66, 3) := by decide +kernel
theorem dX5_hoursFor_32 : decode cX5_hoursFor 32 = .ok (.ireturn, 1) := by decide +kernel
theorem dX5_hoursFor_33 : decode cX5_hoursFor 33 = .ok (.iload_n 1, 1) := by decide +kernel
theorem dX5_hoursFor_34 : decode cX5_hoursFor 34 = .ok (.iconst 2, 1) := by decide +kernel
theorem dX5_hoursFor_35 : decode cX5_hoursFor 35 = .ok (.invokestatic 82, 3) := by decide +kernel
theorem dX5_hoursFor_38 : decode cX5_hoursFor 38 = .ok (.istore 4, 2) := by decide +kernel
theorem dX5_hoursFor_40 : decode cX5_hoursFor 40 = .ok (.aload_n 0, 1) := by decide +kernel
theorem dX5_hoursFor_41 : decode cX5_hoursFor 41 = .ok (.getfield 9, 3) := by decide +kernel
theorem dX5_hoursFor_44 : decode cX5_hoursFor 44 = .ok (.iload 4, 2) := by decide +kernel
theorem dX5_hoursFor_46 : decode cX5_hoursFor 46 = .ok (.iaload, 1) := by decide +kernel
theorem dX5_hoursFor_47 : decode cX5_hoursFor 47 = .ok (.istore 5, 2) := by decide +kernel
theorem dX5_hoursFor_49 : decode cX5_hoursFor 49 = .ok (.iconst 0, 1) := by decide +kernel
theorem dX5_hoursFor_50 : decode cX5_hoursFor 50 = .ok (.istore 6, 2) := by decide +kernel
theorem dX5_hoursFor_52 : decode cX5_hoursFor 52 = .ok (.aload_n 0, 1) := by decide +kernel
theorem dX5_hoursFor_53 : decode cX5_hoursFor 53 = .ok (.getfield 9, 3) := by decide +kernel
theorem dX5_hoursFor_56 : decode cX5_hoursFor 56 = .ok (.iload 4, 2) := by decide +kernel
theorem dX5_hoursFor_58 : decode cX5_hoursFor 58 = .ok (.iconst 0, 1) := by decide +kernel
theorem dX5_hoursFor_59 : decode cX5_hoursFor 59 = .ok (.iastore, 1) := by decide +kernel
theorem dX5_hoursFor_60 : decode cX5_hoursFor 60 = .ok (.iload 6, 2) := by decide +kernel
theorem dX5_hoursFor_62 : decode cX5_hoursFor 62 = .ok (.bipush 9, 2) := by decide +kernel
theorem dX5_hoursFor_64 : decode cX5_hoursFor 64 = .ok (.if_icmp .gt 32, 3) := by decide +kernel
theorem dX5_hoursFor_67 : decode cX5_hoursFor 67 = .ok (.aload_n 0, 1) := by decide +kernel
theorem dX5_hoursFor_68 : decode cX5_hoursFor 68 = .ok (.iload_n 1, 1) := by decide +kernel
theorem dX5_hoursFor_69 : decode cX5_hoursFor 69 = .ok (.iconst 5, 1) := by decide +kernel
theorem dX5_hoursFor_70 : decode cX5_hoursFor 70 = .ok (.invokestatic 82, 3) := by decide +kernel
theorem dX5_hoursFor_73 : decode cX5_hoursFor 73 = .ok (.iload_n 3, 1) := by decide +kernel
theorem dX5_hoursFor_74 : decode cX5_hoursFor 74 = .ok (.invokevirtual 168, 3) := by decide +kernel
theorem dX5_hoursFor_77 : decode cX5_hoursFor 77 = .ok (.iload_n 2, 1) := by decide +kernel
theorem dX5_hoursFor_78 : decode cX5_hoursFor 78 = .ok (.if_icmp .ge 18, 3) := by decide +kernel
theorem dX5_hoursFor_81 : decode cX5_hoursFor 81 = .ok (.iinc 6 1, 3) := by decide +kernel
theorem dX5_hoursFor_84 : decode cX5_hoursFor 84 = .ok (.aload_n 0, 1) := by decide +kernel
theorem dX5_hoursFor_85 : decode cX5_hoursFor 85 = .ok (.getfield 9, 3) := by decide +kernel
theorem dX5_hoursFor_88 : decode cX5_hoursFor 88 = .ok (.iload 4, 2) := by decide +kernel
theorem dX5_hoursFor_90 : decode cX5_hoursFor 90 = .ok (.iload 6, 2) := by decide +kernel
theorem dX5_hoursFor_92 : decode cX5_hoursFor 92 = .ok (.iastore, 1) := by decide +kernel
theorem dX5_hoursFor_93 : decode cX5_hoursFor 93 = .ok (.goto (-33), 3) := by decide +kernel
theorem dX5_hoursFor_96 : decode cX5_hoursFor 96 = .ok (.aload_n 0, 1) := by decide +kernel
theorem dX5_hoursFor_97 : decode cX5_hoursFor 97 = .ok (.getfield 9, 3) := by decide +kernel
theorem dX5_hoursFor_100 : decode cX5_hoursFor 100 = .ok (.iload 4, 2) := by decide +kernel
theorem dX5_hoursFor_102 : decode cX5_hoursFor 102 = .ok (.iload 5, 2) := by decide +kernel
theorem dX5_hoursFor_104 : decode cX5_hoursFor 104 = .ok (.iastore, 1) := by decide +kernel
theorem dX5_hoursFor_105 : decode cX5_hoursFor 105 = .ok (.iload 6, 2) := by decide +kernel
theorem dX5_hoursFor_107 : decode cX5_hoursFor 107 = .ok (.bipush 9, 2) := by decide +kernel
theorem dX5_hoursFor_109 : decode cX5_hoursFor 109 = .ok (.if_icmp .gt 8, 3) := by decide +kernel
theorem dX5_hoursFor_112 : decode cX5_hoursFor 112 = .ok (.iload 6, 2) := by decide +kernel
theorem dX5_hoursFor_114 : decode cX5_hoursFor 114 = .ok (.goto 9, 3) := by decide +kernel
theorem dX5_hoursFor_117 : decode cX5_hoursFor 117 = .ok (.aload_n 0, 1) := by decide +kernel
theorem dX5_hoursFor_118 : decode cX5_hoursFor 118 = .ok (.ldc 65, 2) := by decide +kernel
theorem dX5_hoursFor_120 : decode cX5_hoursFor 120 = .ok (.invokevirtual 66, 3) := by decide +kernel
theorem dX5_hoursFor_123 : decode cX5_hoursFor 123 = .ok (.ireturn, 1) := by decide +kernel
theorem dX5_bestFor_0 : decode cX5_bestFor 0 = .ok (.aload_n 0, 1) := by decide +kernel
theorem dX5_bestFor_1 : decode cX5_bestFor 1 = .ok (.getfield 9, 3) := by decide +kernel
theorem dX5_bestFor_4 : decode cX5_bestFor 4 = .ok (.iload_n 1, 1) := by decide +kernel
theorem dX5_bestFor_5 : decode cX5_bestFor 5 = .ok (.iaload, 1) := by decide +kernel
theorem dX5_bestFor_6 : decode cX5_bestFor 6 = .ok (.istore 4, 2) := by decide +kernel
theorem dX5_bestFor_8 : decode cX5_bestFor 8 = .ok (.iconst 0, 1) := by decide +kernel
theorem dX5_bestFor_9 : decode cX5_bestFor 9 = .ok (.istore 5, 2) := by decide +kernel
theorem dX5_bestFor_11 : decode cX5_bestFor 11 = .ok (.iconst (-1), 1) := by decide +kernel
theorem dX5_bestFor_12 : decode cX5_bestFor 12 = .ok (.istore 6, 2) := by decide +kernel
theorem dX5_bestFor_14 : decode cX5_bestFor 14 = .ok (.iconst 0, 1) := by decide +kernel
theorem dX5_bestFor_15 : decode cX5_bestFor 15 = .ok (.istore 7, 2) := by decide +kernel
theorem dX5_bestFor_17 : decode cX5_bestFor 17 = .ok (.iload 7, 2) := by decide +kernel
theorem dX5_bestFor_19 : decode cX5_bestFor 19 = .ok (.iload_n 2, 1) := by decide +kernel
theorem dX5_bestFor_20 : decode cX5_bestFor 20 = .ok (.if_icmp .ge 40, 3) := by decide +kernel
theorem dX5_bestFor_23 : decode cX5_bestFor 23 = .ok (.aload_n 0, 1) := by decide +kernel
theorem dX5_bestFor_24 : decode cX5_bestFor 24 = .ok (.getfield 9, 3) := by decide +kernel
theorem dX5_bestFor_27 : decode cX5_bestFor 27 = .ok (.iload_n 1, 1) := by decide +kernel
theorem dX5_bestFor_28 : decode cX5_bestFor 28 = .ok (.iload 7, 2) := by decide +kernel
theorem dX5_bestFor_30 : decode cX5_bestFor 30 = .ok (.iastore, 1) := by decide +kernel
theorem dX5_bestFor_31 : decode cX5_bestFor 31 = .ok (.aload_n 0, 1) := by decide +kernel
theorem dX5_bestFor_32 : decode cX5_bestFor 32 = .ok (.iconst 4, 1) := by decide +kernel
theorem dX5_bestFor_33 : decode cX5_bestFor 33 = .ok (.iload_n 3, 1) := by decide +kernel
theorem dX5_bestFor_34 : decode cX5_bestFor 34 = .ok (.invokevirtual 168, 3) := by decide +kernel
theorem dX5_bestFor_37 : decode cX5_bestFor 37 = .ok (.istore 8, 2) := by decide +kernel
theorem dX5_bestFor_39 : decode cX5_bestFor 39 = .ok (.iload 8, 2) := by decide +kernel
theorem dX5_bestFor_41 : decode cX5_bestFor 41 = .ok (.iload 6, 2) := by decide +kernel
theorem dX5_bestFor_43 : decode cX5_bestFor 43 = .ok (.if_icmp .le 11, 3) := by decide +kernel
theorem dX5_bestFor_46 : decode cX5_bestFor 46 = .ok (.iload 7, 2) := by decide +kernel
theorem dX5_bestFor_48 : decode cX5_bestFor 48 = .ok (.istore 5, 2) := by decide +kernel
theorem dX5_bestFor_50 : decode cX5_bestFor 50 = .ok (.iload 8, 2) := by decide +kernel
theorem dX5_bestFor_52 : decode cX5_bestFor 52 = .ok (.istore 6, 2) := by decide +kernel
theorem dX5_bestFor_54 : decode cX5_bestFor 54 = .ok (.iinc 7 1, 3) := by decide +kernel
theorem dX5_bestFor_57 : decode cX5_bestFor 57 = .ok (.goto (-40), 3) := by decide +kernel
theorem dX5_bestFor_60 : decode cX5_bestFor 60 = .ok (.aload_n 0, 1) := by decide +kernel
theorem dX5_bestFor_61 : decode cX5_bestFor 61 = .ok (.getfield 9, 3) := by decide +kernel
theorem dX5_bestFor_64 : decode cX5_bestFor 64 = .ok (.iload_n 1, 1) := by decide +kernel
theorem dX5_bestFor_65 : decode cX5_bestFor 65 = .ok (.iload 4, 2) := by decide +kernel
theorem dX5_bestFor_67 : decode cX5_bestFor 67 = .ok (.iastore, 1) := by decide +kernel
theorem dX5_bestFor_68 : decode cX5_bestFor 68 = .ok (.iload 5, 2) := by decide +kernel
theorem dX5_bestFor_70 : decode cX5_bestFor 70 = .ok (.ireturn, 1) := by decide +kernel
theorem dX5_kindFor_0 : decode cX5_kindFor 0 = .ok (.aload_n 0, 1) := by decide +kernel
theorem dX5_kindFor_1 : decode cX5_kindFor 1 = .ok (.iload_n 1, 1) := by decide +kernel
theorem dX5_kindFor_2 : decode cX5_kindFor 2 = .ok (.invokevirtual 122, 3) := by decide +kernel
theorem dX5_kindFor_5 : decode cX5_kindFor 5 = .ok (.ifCond .eq 25, 3) := by decide +kernel
theorem dX5_kindFor_8 : decode cX5_kindFor 8 = .ok (.iload_n 2, 1) := by decide +kernel
theorem dX5_kindFor_9 : decode cX5_kindFor 9 = .ok (.invokestatic 183, 3) := by decide +kernel
theorem dX5_kindFor_12 : decode cX5_kindFor 12 = .ok (.ifCond .eq 18, 3) := by decide +kernel
theorem dX5_kindFor_15 : decode cX5_kindFor 15 = .ok (.aload_n 0, 1) := by decide +kernel
theorem dX5_kindFor_16 : decode cX5_kindFor 16 = .ok (.iload_n 1, 1) := by decide +kernel
theorem dX5_kindFor_17 : decode cX5_kindFor 17 = .ok (.iconst 0, 1) := by decide +kernel
theorem dX5_kindFor_18 : decode cX5_kindFor 18 = .ok (.invokestatic 82, 3) := by decide +kernel
theorem dX5_kindFor_21 : decode cX5_kindFor 21 = .ok (.bipush 7, 2) := by decide +kernel
theorem dX5_kindFor_23 : decode cX5_kindFor 23 = .ok (.iload_n 2, 1) := by decide +kernel
theorem dX5_kindFor_24 : decode cX5_kindFor 24 = .ok (.invokevirtual 186, 3) := by decide +kernel
theorem dX5_kindFor_27 : decode cX5_kindFor 27 = .ok (.goto 9, 3) := by decide +kernel
theorem dX5_kindFor_30 : decode cX5_kindFor 30 = .ok (.aload_n 0, 1) := by decide +kernel
theorem dX5_kindFor_31 : decode cX5_kindFor 31 = .ok (.ldc 60, 2) := by decide +kernel
theorem dX5_kindFor_33 : decode cX5_kindFor 33 = .ok (.invokevirtual 66, 3) := by decide +kernel
theorem dX5_kindFor_36 : decode cX5_kindFor 36 = .ok (.ireturn, 1) := by decide +kernel
theorem dX5_griefFor_0 : decode cX5_griefFor 0 = .ok (.aload_n 0, 1) := by decide +kernel
theorem dX5_griefFor_1 : decode cX5_griefFor 1 = .ok (.iload_n 1, 1) := by decide +kernel
theorem dX5_griefFor_2 : decode cX5_griefFor 2 = .ok (.invokevirtual 122, 3) := by decide +kernel
theorem dX5_griefFor_5 : decode cX5_griefFor 5 = .ok (.ifCond .eq 10, 3) := by decide +kernel
theorem dX5_griefFor_8 : decode cX5_griefFor 8 = .ok (.iload_n 2, 1) := by decide +kernel
theorem dX5_griefFor_9 : decode cX5_griefFor 9 = .ok (.invokestatic 183, 3) := by decide +kernel
theorem dX5_griefFor_12 : decode cX5_griefFor 12 = .ok (.ifCond .ne 10, 3) := by decide +kernel
theorem dX5_griefFor_15 : decode cX5_griefFor 15 = .ok (.aload_n 0, 1) := by decide +kernel
theorem dX5_griefFor_16 : decode cX5_griefFor 16 = .ok (.ldc 60, 2) := by decide +kernel
theorem dX5_griefFor_18 : decode cX5_griefFor 18 = .ok (.invokevirtual 66, 3) := by decide +kernel
theorem dX5_griefFor_21 : decode cX5_griefFor 21 = .ok (.ireturn, 1) := by decide +kernel
theorem dX5_griefFor_22 : decode cX5_griefFor 22 = .ok (.iload_n 1, 1) := by decide +kernel
theorem dX5_griefFor_23 : decode cX5_griefFor 23 = .ok (.iconst 1, 1) := by decide +kernel
theorem dX5_griefFor_24 : decode cX5_griefFor 24 = .ok (.invokestatic 82, 3) := by decide +kernel
theorem dX5_griefFor_27 : decode cX5_griefFor 27 = .ok (.istore_n 3, 1) := by decide +kernel
theorem dX5_griefFor_28 : decode cX5_griefFor 28 = .ok (.aload_n 0, 1) := by decide +kernel
theorem dX5_griefFor_29 : decode cX5_griefFor 29 = .ok (.getfield 9, 3) := by decide +kernel
theorem dX5_griefFor_32 : decode cX5_griefFor 32 = .ok (.iload_n 3, 1) := by decide +kernel
theorem dX5_griefFor_33 : decode cX5_griefFor 33 = .ok (.iaload, 1) := by decide +kernel
theorem dX5_griefFor_34 : decode cX5_griefFor 34 = .ok (.istore 4, 2) := by decide +kernel
theorem dX5_griefFor_36 : decode cX5_griefFor 36 = .ok (.aload_n 0, 1) := by decide +kernel
theorem dX5_griefFor_37 : decode cX5_griefFor 37 = .ok (.iload_n 1, 1) := by decide +kernel
theorem dX5_griefFor_38 : decode cX5_griefFor 38 = .ok (.bipush 6, 2) := by decide +kernel
theorem dX5_griefFor_40 : decode cX5_griefFor 40 = .ok (.invokevirtual 92, 3) := by decide +kernel
theorem dX5_griefFor_43 : decode cX5_griefFor 43 = .ok (.istore 5, 2) := by decide +kernel
theorem dX5_griefFor_45 : decode cX5_griefFor 45 = .ok (.iconst 0, 1) := by decide +kernel
theorem dX5_griefFor_46 : decode cX5_griefFor 46 = .ok (.istore 6, 2) := by decide +kernel
theorem dX5_griefFor_48 : decode cX5_griefFor 48 = .ok (.aload_n 0, 1) := by decide +kernel
theorem dX5_griefFor_49 : decode cX5_griefFor 49 = .ok (.getfield 9, 3) := by decide +kernel
theorem dX5_griefFor_52 : decode cX5_griefFor 52 = .ok (.iload_n 3, 1) := by decide +kernel
theorem dX5_griefFor_53 : decode cX5_griefFor 53 = .ok (.iconst 0, 1) := by decide +kernel
theorem dX5_griefFor_54 : decode cX5_griefFor 54 = .ok (.iastore, 1) := by decide +kernel
theorem dX5_griefFor_55 : decode cX5_griefFor 55 = .ok (.iload 6, 2) := by decide +kernel
theorem dX5_griefFor_57 : decode cX5_griefFor 57 = .ok (.bipush 99, 2) := by decide +kernel
theorem dX5_griefFor_59 : decode cX5_griefFor 59 = .ok (.if_icmp .gt 33, 3) := by decide +kernel
theorem dX5_griefFor_62 : decode cX5_griefFor 62 = .ok (.aload_n 0, 1) := by decide +kernel
theorem dX5_griefFor_63 : decode cX5_griefFor 63 = .ok (.iload_n 1, 1) := by decide +kernel
theorem dX5_griefFor_64 : decode cX5_griefFor 64 = .ok (.bipush 6, 2) := by decide +kernel
theorem dX5_griefFor_66 : decode cX5_griefFor 66 = .ok (.invokestatic 82, 3) := by decide +kernel
theorem dX5_griefFor_69 : decode cX5_griefFor 69 = .ok (.iload_n 2, 1) := by decide +kernel
theorem dX5_griefFor_70 : decode cX5_griefFor 70 = .ok (.invokevirtual 168, 3) := by decide +kernel
theorem dX5_griefFor_73 : decode cX5_griefFor 73 = .ok (.iload 5, 2) := by decide +kernel
theorem dX5_griefFor_75 : decode cX5_griefFor 75 = .ok (.if_icmp .eq 17, 3) := by decide +kernel
theorem dX5_griefFor_78 : decode cX5_griefFor 78 = .ok (.iinc 6 1, 3) := by decide +kernel
theorem dX5_griefFor_81 : decode cX5_griefFor 81 = .ok (.aload_n 0, 1) := by decide +kernel
theorem dX5_griefFor_82 : decode cX5_griefFor 82 = .ok (.getfield 9, 3) := by decide +kernel
theorem dX5_griefFor_85 : decode cX5_griefFor 85 = .ok (.iload_n 3, 1) := by decide +kernel
theorem dX5_griefFor_86 : decode cX5_griefFor 86 = .ok (.iload 6, 2) := by decide +kernel
theorem dX5_griefFor_88 : decode cX5_griefFor 88 = .ok (.iastore, 1) := by decide +kernel
theorem dX5_griefFor_89 : decode cX5_griefFor 89 = .ok (.goto (-34), 3) := by decide +kernel
theorem dX5_griefFor_92 : decode cX5_griefFor 92 = .ok (.aload_n 0, 1) := by decide +kernel
theorem dX5_griefFor_93 : decode cX5_griefFor 93 = .ok (.getfield 9, 3) := by decide +kernel
theorem dX5_griefFor_96 : decode cX5_griefFor 96 = .ok (.iload_n 3, 1) := by decide +kernel
theorem dX5_griefFor_97 : decode cX5_griefFor 97 = .ok (.iload 4, 2) := by decide +kernel
theorem dX5_griefFor_99 : decode cX5_griefFor 99 = .ok (.iastore, 1) := by decide +kernel
theorem dX5_griefFor_100 : decode cX5_griefFor 100 = .ok (.iload 6, 2) := by decide +kernel
theorem dX5_griefFor_102 : decode cX5_griefFor 102 = .ok (.bipush 99, 2) := by decide +kernel
theorem dX5_griefFor_104 : decode cX5_griefFor 104 = .ok (.if_icmp .gt 8, 3) := by decide +kernel
theorem dX5_griefFor_107 : decode cX5_griefFor 107 = .ok (.iload 6, 2) := by decide +kernel
theorem dX5_griefFor_109 : decode cX5_griefFor 109 = .ok (.goto 9, 3) := by decide +kernel
theorem dX5_griefFor_112 : decode cX5_griefFor 112 = .ok (.aload_n 0, 1) := by decide +kernel
theorem dX5_griefFor_113 : decode cX5_griefFor 113 = .ok (.ldc 65, 2) := by decide +kernel
theorem dX5_griefFor_115 : decode cX5_griefFor 115 = .ok (.invokevirtual 66, 3) := by decide +kernel
theorem dX5_griefFor_118 : decode cX5_griefFor 118 = .ok (.ireturn, 1) := by decide +kernel
theorem dX5_weatherFor_0 : decode cX5_weatherFor 0 = .ok (.iload_n 1, 1) := by decide +kernel
theorem dX5_weatherFor_1 : decode cX5_weatherFor 1 = .ok (.invokestatic 74, 3) := by decide +kernel
theorem dX5_weatherFor_4 : decode cX5_weatherFor 4 = .ok (.ifCond .eq 26, 3) := by decide +kernel
theorem dX5_weatherFor_7 : decode cX5_weatherFor 7 = .ok (.iload_n 2, 1) := by decide +kernel
theorem dX5_weatherFor_8 : decode cX5_weatherFor 8 = .ok (.iconst 0, 1) := by decide +kernel
theorem dX5_weatherFor_9 : decode cX5_weatherFor 9 = .ok (.bipush 40, 2) := by decide +kernel
theorem dX5_weatherFor_11 : decode cX5_weatherFor 11 = .ok (.invokestatic 70, 3) := by decide +kernel
theorem dX5_weatherFor_14 : decode cX5_weatherFor 14 = .ok (.ifCond .eq 16, 3) := by decide +kernel
theorem dX5_weatherFor_17 : decode cX5_weatherFor 17 = .ok (.aload_n 0, 1) := by decide +kernel
theorem dX5_weatherFor_18 : decode cX5_weatherFor 18 = .ok (.iconst 5, 1) := by decide +kernel
theorem dX5_weatherFor_19 : decode cX5_weatherFor 19 = .ok (.iload_n 1, 1) := by decide +kernel
theorem dX5_weatherFor_20 : decode cX5_weatherFor 20 = .ok (.iadd, 1) := by decide +kernel
theorem dX5_weatherFor_21 : decode cX5_weatherFor 21 = .ok (.bipush 100, 2) := by decide +kernel
theorem dX5_weatherFor_23 : decode cX5_weatherFor 23 = .ok (.iload_n 2, 1) := by decide +kernel
theorem dX5_weatherFor_24 : decode cX5_weatherFor 24 = .ok (.invokevirtual 186, 3) := by decide +kernel
theorem dX5_weatherFor_27 : decode cX5_weatherFor 27 = .ok (.goto 9, 3) := by decide +kernel
theorem dX5_weatherFor_30 : decode cX5_weatherFor 30 = .ok (.aload_n 0, 1) := by decide +kernel
theorem dX5_weatherFor_31 : decode cX5_weatherFor 31 = .ok (.ldc 60, 2) := by decide +kernel
theorem dX5_weatherFor_33 : decode cX5_weatherFor 33 = .ok (.invokevirtual 66, 3) := by decide +kernel
theorem dX5_weatherFor_36 : decode cX5_weatherFor 36 = .ok (.ireturn, 1) := by decide +kernel
theorem dX5_onionsFor_0 : decode cX5_onionsFor 0 = .ok (.iload_n 1, 1) := by decide +kernel
theorem dX5_onionsFor_1 : decode cX5_onionsFor 1 = .ok (.iconst 0, 1) := by decide +kernel
theorem dX5_onionsFor_2 : decode cX5_onionsFor 2 = .ok (.ldc 138, 2) := by decide +kernel
theorem dX5_onionsFor_4 : decode cX5_onionsFor 4 = .ok (.invokestatic 70, 3) := by decide +kernel
theorem dX5_onionsFor_7 : decode cX5_onionsFor 7 = .ok (.ifCond .eq 13, 3) := by decide +kernel
theorem dX5_onionsFor_10 : decode cX5_onionsFor 10 = .ok (.iload_n 2, 1) := by decide +kernel
theorem dX5_onionsFor_11 : decode cX5_onionsFor 11 = .ok (.iconst 0, 1) := by decide +kernel
theorem dX5_onionsFor_12 : decode cX5_onionsFor 12 = .ok (.bipush 40, 2) := by decide +kernel
theorem dX5_onionsFor_14 : decode cX5_onionsFor 14 = .ok (.invokestatic 70, 3) := by decide +kernel
theorem dX5_onionsFor_17 : decode cX5_onionsFor 17 = .ok (.ifCond .ne 10, 3) := by decide +kernel
theorem dX5_onionsFor_20 : decode cX5_onionsFor 20 = .ok (.aload_n 0, 1) := by decide +kernel
theorem dX5_onionsFor_21 : decode cX5_onionsFor 21 = .ok (.ldc 60, 2) := by decide +kernel
theorem dX5_onionsFor_23 : decode cX5_onionsFor 23 = .ok (.invokevirtual 66, 3) := by decide +kernel
theorem dX5_onionsFor_26 : decode cX5_onionsFor 26 = .ok (.ireturn, 1) := by decide +kernel
theorem dX5_onionsFor_27 : decode cX5_onionsFor 27 = .ok (.aload_n 0, 1) := by decide +kernel
theorem dX5_onionsFor_28 : decode cX5_onionsFor 28 = .ok (.getfield 9, 3) := by decide +kernel
theorem dX5_onionsFor_31 : decode cX5_onionsFor 31 = .ok (.iconst 3, 1) := by decide +kernel
theorem dX5_onionsFor_32 : decode cX5_onionsFor 32 = .ok (.iaload, 1) := by decide +kernel
theorem dX5_onionsFor_33 : decode cX5_onionsFor 33 = .ok (.istore_n 3, 1) := by decide +kernel
theorem dX5_onionsFor_34 : decode cX5_onionsFor 34 = .ok (.iconst 0, 1) := by decide +kernel
theorem dX5_onionsFor_35 : decode cX5_onionsFor 35 = .ok (.istore 4, 2) := by decide +kernel
theorem dX5_onionsFor_37 : decode cX5_onionsFor 37 = .ok (.aload_n 0, 1) := by decide +kernel
theorem dX5_onionsFor_38 : decode cX5_onionsFor 38 = .ok (.getfield 9, 3) := by decide +kernel
theorem dX5_onionsFor_41 : decode cX5_onionsFor 41 = .ok (.iconst 3, 1) := by decide +kernel
theorem dX5_onionsFor_42 : decode cX5_onionsFor 42 = .ok (.iconst 0, 1) := by decide +kernel
theorem dX5_onionsFor_43 : decode cX5_onionsFor 43 = .ok (.iastore, 1) := by decide +kernel
theorem dX5_onionsFor_44 : decode cX5_onionsFor 44 = .ok (.iload 4, 2) := by decide +kernel
theorem dX5_onionsFor_46 : decode cX5_onionsFor 46 = .ok (.bipush 99, 2) := by decide +kernel
theorem dX5_onionsFor_48 : decode cX5_onionsFor 48 = .ok (.if_icmp .gt 27, 3) := by decide +kernel
theorem dX5_onionsFor_51 : decode cX5_onionsFor 51 = .ok (.aload_n 0, 1) := by decide +kernel
theorem dX5_onionsFor_52 : decode cX5_onionsFor 52 = .ok (.iconst 4, 1) := by decide +kernel
theorem dX5_onionsFor_53 : decode cX5_onionsFor 53 = .ok (.iload_n 2, 1) := by decide +kernel
theorem dX5_onionsFor_54 : decode cX5_onionsFor 54 = .ok (.invokevirtual 168, 3) := by decide +kernel
theorem dX5_onionsFor_57 : decode cX5_onionsFor 57 = .ok (.iload_n 1, 1) := by decide +kernel
theorem dX5_onionsFor_58 : decode cX5_onionsFor 58 = .ok (.if_icmp .ge 17, 3) := by decide +kernel
theorem dX5_onionsFor_61 : decode cX5_onionsFor 61 = .ok (.iinc 4 1, 3) := by decide +kernel
theorem dX5_onionsFor_64 : decode cX5_onionsFor 64 = .ok (.aload_n 0, 1) := by decide +kernel
theorem dX5_onionsFor_65 : decode cX5_onionsFor 65 = .ok (.getfield 9, 3) := by decide +kernel
theorem dX5_onionsFor_68 : decode cX5_onionsFor 68 = .ok (.iconst 3, 1) := by decide +kernel
theorem dX5_onionsFor_69 : decode cX5_onionsFor 69 = .ok (.iload 4, 2) := by decide +kernel
theorem dX5_onionsFor_71 : decode cX5_onionsFor 71 = .ok (.iastore, 1) := by decide +kernel
theorem dX5_onionsFor_72 : decode cX5_onionsFor 72 = .ok (.goto (-28), 3) := by decide +kernel
theorem dX5_onionsFor_75 : decode cX5_onionsFor 75 = .ok (.aload_n 0, 1) := by decide +kernel
theorem dX5_onionsFor_76 : decode cX5_onionsFor 76 = .ok (.getfield 9, 3) := by decide +kernel
theorem dX5_onionsFor_79 : decode cX5_onionsFor 79 = .ok (.iconst 3, 1) := by decide +kernel
theorem dX5_onionsFor_80 : decode cX5_onionsFor 80 = .ok (.iload_n 3, 1) := by decide +kernel
theorem dX5_onionsFor_81 : decode cX5_onionsFor 81 = .ok (.iastore, 1) := by decide +kernel
theorem dX5_onionsFor_82 : decode cX5_onionsFor 82 = .ok (.iload 4, 2) := by decide +kernel
theorem dX5_onionsFor_84 : decode cX5_onionsFor 84 = .ok (.bipush 99, 2) := by decide +kernel
theorem dX5_onionsFor_86 : decode cX5_onionsFor 86 = .ok (.if_icmp .gt 8, 3) := by decide +kernel
theorem dX5_onionsFor_89 : decode cX5_onionsFor 89 = .ok (.iload 4, 2) := by decide +kernel
theorem dX5_onionsFor_91 : decode cX5_onionsFor 91 = .ok (.goto 9, 3) := by decide +kernel
theorem dX5_onionsFor_94 : decode cX5_onionsFor 94 = .ok (.aload_n 0, 1) := by decide +kernel
theorem dX5_onionsFor_95 : decode cX5_onionsFor 95 = .ok (.ldc 65, 2) := by decide +kernel
theorem dX5_onionsFor_97 : decode cX5_onionsFor 97 = .ok (.invokevirtual 66, 3) := by decide +kernel
theorem dX5_onionsFor_100 : decode cX5_onionsFor 100 = .ok (.ireturn, 1) := by decide +kernel
theorem dX5_isWithout_0 : decode cX5_isWithout 0 = .ok (.aload_n 0, 1) := by decide +kernel
theorem dX5_isWithout_1 : decode cX5_isWithout 1 = .ok (.getfield 9, 3) := by decide +kernel
theorem dX5_isWithout_4 : decode cX5_isWithout 4 = .ok (.aload_n 0, 1) := by decide +kernel
theorem dX5_isWithout_5 : decode cX5_isWithout 5 = .ok (.getfield 16, 3) := by decide +kernel
theorem dX5_isWithout_8 : decode cX5_isWithout 8 = .ok (.invokestatic 61, 3) := by decide +kernel
theorem dX5_isWithout_11 : decode cX5_isWithout 11 = .ok (.iconst 0, 1) := by decide +kernel
theorem dX5_isWithout_12 : decode cX5_isWithout 12 = .ok (.istore 4, 2) := by decide +kernel
theorem dX5_isWithout_14 : decode cX5_isWithout 14 = .ok (.iload 4, 2) := by decide +kernel
theorem dX5_isWithout_16 : decode cX5_isWithout 16 = .ok (.aload_n 0, 1) := by decide +kernel
theorem dX5_isWithout_17 : decode cX5_isWithout 17 = .ok (.getfield 9, 3) := by decide +kernel
theorem dX5_isWithout_20 : decode cX5_isWithout 20 = .ok (.iconst 1, 1) := by decide +kernel
theorem dX5_isWithout_21 : decode cX5_isWithout 21 = .ok (.iaload, 1) := by decide +kernel
theorem dX5_isWithout_22 : decode cX5_isWithout 22 = .ok (.if_icmp .ge 31, 3) := by decide +kernel
theorem dX5_isWithout_25 : decode cX5_isWithout 25 = .ok (.iload_n 1, 1) := by decide +kernel
theorem dX5_isWithout_26 : decode cX5_isWithout 26 = .ok (.iload 4, 2) := by decide +kernel
theorem dX5_isWithout_28 : decode cX5_isWithout 28 = .ok (.ishr, 1) := by decide +kernel
theorem dX5_isWithout_29 : decode cX5_isWithout 29 = .ok (.iconst 1, 1) := by decide +kernel
theorem dX5_isWithout_30 : decode cX5_isWithout 30 = .ok (.iand, 1) := by decide +kernel
theorem dX5_isWithout_31 : decode cX5_isWithout 31 = .ok (.iconst 1, 1) := by decide +kernel
theorem dX5_isWithout_32 : decode cX5_isWithout 32 = .ok (.if_icmp .ne 15, 3) := by decide +kernel
theorem dX5_isWithout_35 : decode cX5_isWithout 35 = .ok (.aload_n 0, 1) := by decide +kernel
theorem dX5_isWithout_36 : decode cX5_isWithout 36 = .ok (.getfield 9, 3) := by decide +kernel
theorem dX5_isWithout_39 : decode cX5_isWithout 39 = .ok (.iload 4, 2) := by decide +kernel
theorem dX5_isWithout_41 : decode cX5_isWithout 41 = .ok (.iconst 2, 1) := by decide +kernel
theorem dX5_isWithout_42 : decode cX5_isWithout 42 = .ok (.invokestatic 82, 3) := by decide +kernel
theorem dX5_isWithout_45 : decode cX5_isWithout 45 = .ok (.iconst 0, 1) := by decide +kernel
theorem dX5_isWithout_46 : decode cX5_isWithout 46 = .ok (.iastore, 1) := by decide +kernel
theorem dX5_isWithout_47 : decode cX5_isWithout 47 = .ok (.iinc 4 1, 3) := by decide +kernel
theorem dX5_isWithout_50 : decode cX5_isWithout 50 = .ok (.goto (-36), 3) := by decide +kernel
theorem dX5_isWithout_53 : decode cX5_isWithout 53 = .ok (.aload_n 0, 1) := by decide +kernel
theorem dX5_isWithout_54 : decode cX5_isWithout 54 = .ok (.iload_n 3, 1) := by decide +kernel
theorem dX5_isWithout_55 : decode cX5_isWithout 55 = .ok (.invokevirtual 150, 3) := by decide +kernel
theorem dX5_isWithout_58 : decode cX5_isWithout 58 = .ok (.aload_n 0, 1) := by decide +kernel
theorem dX5_isWithout_59 : decode cX5_isWithout 59 = .ok (.invokevirtual 156, 3) := by decide +kernel
theorem dX5_isWithout_62 : decode cX5_isWithout 62 = .ok (.iload_n 2, 1) := by decide +kernel
theorem dX5_isWithout_63 : decode cX5_isWithout 63 = .ok (.ishr, 1) := by decide +kernel
theorem dX5_isWithout_64 : decode cX5_isWithout 64 = .ok (.iconst 1, 1) := by decide +kernel
theorem dX5_isWithout_65 : decode cX5_isWithout 65 = .ok (.iand, 1) := by decide +kernel
theorem dX5_isWithout_66 : decode cX5_isWithout 66 = .ok (.ifCond .ne 7, 3) := by decide +kernel
theorem dX5_isWithout_69 : decode cX5_isWithout 69 = .ok (.iconst 1, 1) := by decide +kernel
theorem dX5_isWithout_70 : decode cX5_isWithout 70 = .ok (.goto 4, 3) := by decide +kernel
theorem dX5_isWithout_73 : decode cX5_isWithout 73 = .ok (.iconst 0, 1) := by decide +kernel
theorem dX5_isWithout_74 : decode cX5_isWithout 74 = .ok (.istore 4, 2) := by decide +kernel
theorem dX5_isWithout_76 : decode cX5_isWithout 76 = .ok (.aload_n 0, 1) := by decide +kernel
theorem dX5_isWithout_77 : decode cX5_isWithout 77 = .ok (.getfield 16, 3) := by decide +kernel
theorem dX5_isWithout_80 : decode cX5_isWithout 80 = .ok (.aload_n 0, 1) := by decide +kernel
theorem dX5_isWithout_81 : decode cX5_isWithout 81 = .ok (.getfield 9, 3) := by decide +kernel
theorem dX5_isWithout_84 : decode cX5_isWithout 84 = .ok (.invokestatic 61, 3) := by decide +kernel
theorem dX5_isWithout_87 : decode cX5_isWithout 87 = .ok (.iload 4, 2) := by decide +kernel
theorem dX5_isWithout_89 : decode cX5_isWithout 89 = .ok (.ireturn, 1) := by decide +kernel
theorem dX5_stayIn_0 : decode cX5_stayIn 0 = .ok (.iload_n 1, 1) := by decide +kernel
theorem dX5_stayIn_1 : decode cX5_stayIn 1 = .ok (.invokestatic 177, 3) := by decide +kernel
theorem dX5_stayIn_4 : decode cX5_stayIn 4 = .ok (.ifCond .eq 13, 3) := by decide +kernel
theorem dX5_stayIn_7 : decode cX5_stayIn 7 = .ok (.iload_n 2, 1) := by decide +kernel
theorem dX5_stayIn_8 : decode cX5_stayIn 8 = .ok (.iconst 0, 1) := by decide +kernel
theorem dX5_stayIn_9 : decode cX5_stayIn 9 = .ok (.bipush 20, 2) := by decide +kernel
theorem dX5_stayIn_11 : decode cX5_stayIn 11 = .ok (.invokestatic 70, 3) := by decide +kernel
theorem dX5_stayIn_14 : decode cX5_stayIn 14 = .ok (.ifCond .ne 10, 3) := by decide +kernel
