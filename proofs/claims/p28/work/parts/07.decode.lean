theorem d1_0 : decode (pm_c 1) 0 = .ok (.aload_n 0, 1) := by decide +kernel
theorem d1_1 : decode (pm_c 1) 1 = .ok (.iconst 0, 1) := by decide +kernel
theorem d1_2 : decode (pm_c 1) 2 = .ok (.putfield 18, 3) := by decide +kernel
theorem d1_5 : decode (pm_c 1) 5 = .ok (.iconst 0, 1) := by decide +kernel
theorem d1_6 : decode (pm_c 1) 6 = .ok (.istore_n 3, 1) := by decide +kernel
theorem d1_7 : decode (pm_c 1) 7 = .ok (.iload_n 3, 1) := by decide +kernel
theorem d1_8 : decode (pm_c 1) 8 = .ok (.aload_n 1, 1) := by decide +kernel
theorem d1_9 : decode (pm_c 1) 9 = .ok (.getfield 22, 3) := by decide +kernel
theorem d1_12 : decode (pm_c 1) 12 = .ok (.if_icmp .ge 72, 3) := by decide +kernel
theorem d1_15 : decode (pm_c 1) 15 = .ok (.iconst 0, 1) := by decide +kernel
theorem d1_16 : decode (pm_c 1) 16 = .ok (.istore 4, 2) := by decide +kernel
theorem d1_18 : decode (pm_c 1) 18 = .ok (.iload 4, 2) := by decide +kernel
theorem d1_20 : decode (pm_c 1) 20 = .ok (.aload_n 2, 1) := by decide +kernel
theorem d1_21 : decode (pm_c 1) 21 = .ok (.getfield 25, 3) := by decide +kernel
theorem d1_24 : decode (pm_c 1) 24 = .ok (.iload_n 3, 1) := by decide +kernel
theorem d1_25 : decode (pm_c 1) 25 = .ok (.iaload, 1) := by decide +kernel
theorem d1_26 : decode (pm_c 1) 26 = .ok (.if_icmp .ge 52, 3) := by decide +kernel
theorem d1_29 : decode (pm_c 1) 29 = .ok (.iload 4, 2) := by decide +kernel
theorem d1_31 : decode (pm_c 1) 31 = .ok (.iconst 1, 1) := by decide +kernel
theorem d1_32 : decode (pm_c 1) 32 = .ok (.iadd, 1) := by decide +kernel
theorem d1_33 : decode (pm_c 1) 33 = .ok (.istore 5, 2) := by decide +kernel
theorem d1_35 : decode (pm_c 1) 35 = .ok (.iload 5, 2) := by decide +kernel
theorem d1_37 : decode (pm_c 1) 37 = .ok (.aload_n 2, 1) := by decide +kernel
theorem d1_38 : decode (pm_c 1) 38 = .ok (.getfield 25, 3) := by decide +kernel
theorem d1_41 : decode (pm_c 1) 41 = .ok (.iload_n 3, 1) := by decide +kernel
theorem d1_42 : decode (pm_c 1) 42 = .ok (.iaload, 1) := by decide +kernel
theorem d1_43 : decode (pm_c 1) 43 = .ok (.if_icmp .ge 29, 3) := by decide +kernel
theorem d1_46 : decode (pm_c 1) 46 = .ok (.aload_n 0, 1) := by decide +kernel
theorem d1_47 : decode (pm_c 1) 47 = .ok (.aload_n 2, 1) := by decide +kernel
theorem d1_48 : decode (pm_c 1) 48 = .ok (.iload_n 3, 1) := by decide +kernel
theorem d1_49 : decode (pm_c 1) 49 = .ok (.iload_n 3, 1) := by decide +kernel
theorem d1_50 : decode (pm_c 1) 50 = .ok (.bipush 6, 2) := by decide +kernel
theorem d1_52 : decode (pm_c 1) 52 = .ok (.imul, 1) := by decide +kernel
theorem d1_53 : decode (pm_c 1) 53 = .ok (.iload 4, 2) := by decide +kernel
theorem d1_55 : decode (pm_c 1) 55 = .ok (.iadd, 1) := by decide +kernel
theorem d1_56 : decode (pm_c 1) 56 = .ok (.iload_n 3, 1) := by decide +kernel
theorem d1_57 : decode (pm_c 1) 57 = .ok (.bipush 6, 2) := by decide +kernel
theorem d1_59 : decode (pm_c 1) 59 = .ok (.imul, 1) := by decide +kernel
theorem d1_60 : decode (pm_c 1) 60 = .ok (.iload 5, 2) := by decide +kernel
theorem d1_62 : decode (pm_c 1) 62 = .ok (.iadd, 1) := by decide +kernel
theorem d1_63 : decode (pm_c 1) 63 = .ok (.invokevirtual 30, 3) := by decide +kernel
theorem d1_66 : decode (pm_c 1) 66 = .ok (.iinc 5 1, 3) := by decide +kernel
theorem d1_69 : decode (pm_c 1) 69 = .ok (.goto (-34), 3) := by decide +kernel
theorem d1_72 : decode (pm_c 1) 72 = .ok (.iinc 4 1, 3) := by decide +kernel
theorem d1_75 : decode (pm_c 1) 75 = .ok (.goto (-57), 3) := by decide +kernel
theorem d1_78 : decode (pm_c 1) 78 = .ok (.iinc 3 1, 3) := by decide +kernel
theorem d1_81 : decode (pm_c 1) 81 = .ok (.goto (-74), 3) := by decide +kernel
theorem d1_84 : decode (pm_c 1) 84 = .ok (.return_, 1) := by decide +kernel
theorem d2_0 : decode (pm_c 2) 0 = .ok (.aload_n 1, 1) := by decide +kernel
theorem d2_1 : decode (pm_c 2) 1 = .ok (.getfield 34, 3) := by decide +kernel
theorem d2_4 : decode (pm_c 2) 4 = .ok (.iload_n 3, 1) := by decide +kernel
theorem d2_5 : decode (pm_c 2) 5 = .ok (.iaload, 1) := by decide +kernel
theorem d2_6 : decode (pm_c 2) 6 = .ok (.istore 5, 2) := by decide +kernel
theorem d2_8 : decode (pm_c 2) 8 = .ok (.aload_n 1, 1) := by decide +kernel
theorem d2_9 : decode (pm_c 2) 9 = .ok (.getfield 34, 3) := by decide +kernel
theorem d2_12 : decode (pm_c 2) 12 = .ok (.iload 4, 2) := by decide +kernel
theorem d2_14 : decode (pm_c 2) 14 = .ok (.iaload, 1) := by decide +kernel
theorem d2_15 : decode (pm_c 2) 15 = .ok (.istore 6, 2) := by decide +kernel
theorem d2_17 : decode (pm_c 2) 17 = .ok (.aload_n 1, 1) := by decide +kernel
theorem d2_18 : decode (pm_c 2) 18 = .ok (.iload 5, 2) := by decide +kernel
theorem d2_20 : decode (pm_c 2) 20 = .ok (.iload 6, 2) := by decide +kernel
theorem d2_22 : decode (pm_c 2) 22 = .ok (.invokevirtual 37, 3) := by decide +kernel
theorem d2_25 : decode (pm_c 2) 25 = .ok (.istore 7, 2) := by decide +kernel
theorem d2_27 : decode (pm_c 2) 27 = .ok (.iload 5, 2) := by decide +kernel
theorem d2_29 : decode (pm_c 2) 29 = .ok (.iload_n 2, 1) := by decide +kernel
theorem d2_30 : decode (pm_c 2) 30 = .ok (.if_icmp .lt 19, 3) := by decide +kernel
theorem d2_33 : decode (pm_c 2) 33 = .ok (.iload 7, 2) := by decide +kernel
theorem d2_35 : decode (pm_c 2) 35 = .ok (.iconst (-1), 1) := by decide +kernel
theorem d2_36 : decode (pm_c 2) 36 = .ok (.if_icmp .eq 13, 3) := by decide +kernel
theorem d2_39 : decode (pm_c 2) 39 = .ok (.aload_n 0, 1) := by decide +kernel
theorem d2_40 : decode (pm_c 2) 40 = .ok (.getfield 18, 3) := by decide +kernel
theorem d2_43 : decode (pm_c 2) 43 = .ok (.sipush 288, 3) := by decide +kernel
theorem d2_46 : decode (pm_c 2) 46 = .ok (.if_icmp .lt 4, 3) := by decide +kernel
theorem d2_49 : decode (pm_c 2) 49 = .ok (.return_, 1) := by decide +kernel
theorem d2_50 : decode (pm_c 2) 50 = .ok (.aload_n 0, 1) := by decide +kernel
theorem d2_51 : decode (pm_c 2) 51 = .ok (.getfield 9, 3) := by decide +kernel
theorem d2_54 : decode (pm_c 2) 54 = .ok (.iconst 3, 1) := by decide +kernel
theorem d2_55 : decode (pm_c 2) 55 = .ok (.aload_n 0, 1) := by decide +kernel
theorem d2_56 : decode (pm_c 2) 56 = .ok (.getfield 18, 3) := by decide +kernel
theorem d2_59 : decode (pm_c 2) 59 = .ok (.imul, 1) := by decide +kernel
theorem d2_60 : decode (pm_c 2) 60 = .ok (.iload_n 2, 1) := by decide +kernel
theorem d2_61 : decode (pm_c 2) 61 = .ok (.iastore, 1) := by decide +kernel
theorem d2_62 : decode (pm_c 2) 62 = .ok (.aload_n 0, 1) := by decide +kernel
theorem d2_63 : decode (pm_c 2) 63 = .ok (.getfield 9, 3) := by decide +kernel
theorem d2_66 : decode (pm_c 2) 66 = .ok (.iconst 3, 1) := by decide +kernel
theorem d2_67 : decode (pm_c 2) 67 = .ok (.aload_n 0, 1) := by decide +kernel
theorem d2_68 : decode (pm_c 2) 68 = .ok (.getfield 18, 3) := by decide +kernel
theorem d2_71 : decode (pm_c 2) 71 = .ok (.imul, 1) := by decide +kernel
theorem d2_72 : decode (pm_c 2) 72 = .ok (.iconst 1, 1) := by decide +kernel
theorem d2_73 : decode (pm_c 2) 73 = .ok (.iadd, 1) := by decide +kernel
theorem d2_74 : decode (pm_c 2) 74 = .ok (.iload 5, 2) := by decide +kernel
theorem d2_76 : decode (pm_c 2) 76 = .ok (.iastore, 1) := by decide +kernel
theorem d2_77 : decode (pm_c 2) 77 = .ok (.aload_n 0, 1) := by decide +kernel
theorem d2_78 : decode (pm_c 2) 78 = .ok (.getfield 9, 3) := by decide +kernel
theorem d2_81 : decode (pm_c 2) 81 = .ok (.iconst 3, 1) := by decide +kernel
theorem d2_82 : decode (pm_c 2) 82 = .ok (.aload_n 0, 1) := by decide +kernel
theorem d2_83 : decode (pm_c 2) 83 = .ok (.getfield 18, 3) := by decide +kernel
theorem d2_86 : decode (pm_c 2) 86 = .ok (.imul, 1) := by decide +kernel
theorem d2_87 : decode (pm_c 2) 87 = .ok (.iconst 2, 1) := by decide +kernel
theorem d2_88 : decode (pm_c 2) 88 = .ok (.iadd, 1) := by decide +kernel
theorem d2_89 : decode (pm_c 2) 89 = .ok (.iload 6, 2) := by decide +kernel
theorem d2_91 : decode (pm_c 2) 91 = .ok (.iastore, 1) := by decide +kernel
theorem d2_92 : decode (pm_c 2) 92 = .ok (.aload_n 0, 1) := by decide +kernel
theorem d2_93 : decode (pm_c 2) 93 = .ok (.getfield 15, 3) := by decide +kernel
theorem d2_96 : decode (pm_c 2) 96 = .ok (.iconst 3, 1) := by decide +kernel
theorem d2_97 : decode (pm_c 2) 97 = .ok (.aload_n 0, 1) := by decide +kernel
theorem d2_98 : decode (pm_c 2) 98 = .ok (.getfield 18, 3) := by decide +kernel
theorem d2_101 : decode (pm_c 2) 101 = .ok (.imul, 1) := by decide +kernel
theorem d2_102 : decode (pm_c 2) 102 = .ok (.aload_n 1, 1) := by decide +kernel
theorem d2_103 : decode (pm_c 2) 103 = .ok (.getfield 41, 3) := by decide +kernel
theorem d2_106 : decode (pm_c 2) 106 = .ok (.iload_n 3, 1) := by decide +kernel
theorem d2_107 : decode (pm_c 2) 107 = .ok (.iaload, 1) := by decide +kernel
theorem d2_108 : decode (pm_c 2) 108 = .ok (.iastore, 1) := by decide +kernel
theorem d2_109 : decode (pm_c 2) 109 = .ok (.aload_n 0, 1) := by decide +kernel
theorem d2_110 : decode (pm_c 2) 110 = .ok (.getfield 15, 3) := by decide +kernel
theorem d2_113 : decode (pm_c 2) 113 = .ok (.iconst 3, 1) := by decide +kernel
theorem d2_114 : decode (pm_c 2) 114 = .ok (.aload_n 0, 1) := by decide +kernel
theorem d2_115 : decode (pm_c 2) 115 = .ok (.getfield 18, 3) := by decide +kernel
theorem d2_118 : decode (pm_c 2) 118 = .ok (.imul, 1) := by decide +kernel
theorem d2_119 : decode (pm_c 2) 119 = .ok (.iconst 1, 1) := by decide +kernel
theorem d2_120 : decode (pm_c 2) 120 = .ok (.iadd, 1) := by decide +kernel
theorem d2_121 : decode (pm_c 2) 121 = .ok (.aload_n 1, 1) := by decide +kernel
theorem d2_122 : decode (pm_c 2) 122 = .ok (.getfield 41, 3) := by decide +kernel
theorem d2_125 : decode (pm_c 2) 125 = .ok (.iload 4, 2) := by decide +kernel
theorem d2_127 : decode (pm_c 2) 127 = .ok (.iaload, 1) := by decide +kernel
theorem d2_128 : decode (pm_c 2) 128 = .ok (.iastore, 1) := by decide +kernel
theorem d2_129 : decode (pm_c 2) 129 = .ok (.aload_n 0, 1) := by decide +kernel
theorem d2_130 : decode (pm_c 2) 130 = .ok (.getfield 15, 3) := by decide +kernel
theorem d2_133 : decode (pm_c 2) 133 = .ok (.iconst 3, 1) := by decide +kernel
theorem d2_134 : decode (pm_c 2) 134 = .ok (.aload_n 0, 1) := by decide +kernel
theorem d2_135 : decode (pm_c 2) 135 = .ok (.getfield 18, 3) := by decide +kernel
theorem d2_138 : decode (pm_c 2) 138 = .ok (.imul, 1) := by decide +kernel
theorem d2_139 : decode (pm_c 2) 139 = .ok (.iconst 2, 1) := by decide +kernel
theorem d2_140 : decode (pm_c 2) 140 = .ok (.iadd, 1) := by decide +kernel
theorem d2_141 : decode (pm_c 2) 141 = .ok (.iload 7, 2) := by decide +kernel
theorem d2_143 : decode (pm_c 2) 143 = .ok (.iastore, 1) := by decide +kernel
theorem d2_144 : decode (pm_c 2) 144 = .ok (.aload_n 0, 1) := by decide +kernel
theorem d2_145 : decode (pm_c 2) 145 = .ok (.dup, 1) := by decide +kernel
theorem d2_146 : decode (pm_c 2) 146 = .ok (.getfield 18, 3) := by decide +kernel
theorem d2_149 : decode (pm_c 2) 149 = .ok (.iconst 1, 1) := by decide +kernel
theorem d2_150 : decode (pm_c 2) 150 = .ok (.iadd, 1) := by decide +kernel
theorem d2_151 : decode (pm_c 2) 151 = .ok (.putfield 18, 3) := by decide +kernel
theorem d2_154 : decode (pm_c 2) 154 = .ok (.return_, 1) := by decide +kernel
theorem d4_0 : decode (pm_c 4) 0 = .ok (.aload_n 0, 1) := by decide +kernel
theorem d4_1 : decode (pm_c 4) 1 = .ok (.getfield 18, 3) := by decide +kernel
theorem d4_4 : decode (pm_c 4) 4 = .ok (.bipush 6, 2) := by decide +kernel
theorem d4_6 : decode (pm_c 4) 6 = .ok (.if_icmp .lt 7, 3) := by decide +kernel
theorem d4_9 : decode (pm_c 4) 9 = .ok (.aload_n 0, 1) := by decide +kernel
theorem d4_10 : decode (pm_c 4) 10 = .ok (.invokevirtual 22, 3) := by decide +kernel
theorem d4_13 : decode (pm_c 4) 13 = .ok (.aload_n 0, 1) := by decide +kernel
theorem d4_14 : decode (pm_c 4) 14 = .ok (.getfield 11, 3) := by decide +kernel
theorem d4_17 : decode (pm_c 4) 17 = .ok (.aload_n 0, 1) := by decide +kernel
theorem d4_18 : decode (pm_c 4) 18 = .ok (.getfield 18, 3) := by decide +kernel
theorem d4_21 : decode (pm_c 4) 21 = .ok (.aaload, 1) := by decide +kernel
theorem d4_22 : decode (pm_c 4) 22 = .ok (.aload_n 1, 1) := by decide +kernel
theorem d4_23 : decode (pm_c 4) 23 = .ok (.invokevirtual 25, 3) := by decide +kernel
theorem d4_26 : decode (pm_c 4) 26 = .ok (.aload_n 0, 1) := by decide +kernel
theorem d4_27 : decode (pm_c 4) 27 = .ok (.dup, 1) := by decide +kernel
theorem d4_28 : decode (pm_c 4) 28 = .ok (.getfield 18, 3) := by decide +kernel
theorem d4_31 : decode (pm_c 4) 31 = .ok (.iconst 1, 1) := by decide +kernel
theorem d4_32 : decode (pm_c 4) 32 = .ok (.iadd, 1) := by decide +kernel
theorem d4_33 : decode (pm_c 4) 33 = .ok (.putfield 18, 3) := by decide +kernel
theorem d4_36 : decode (pm_c 4) 36 = .ok (.return_, 1) := by decide +kernel
theorem d5_0 : decode (pm_c 5) 0 = .ok (.aload_n 0, 1) := by decide +kernel
theorem d5_1 : decode (pm_c 5) 1 = .ok (.getfield 11, 3) := by decide +kernel
theorem d5_4 : decode (pm_c 5) 4 = .ok (.iconst 0, 1) := by decide +kernel
theorem d5_5 : decode (pm_c 5) 5 = .ok (.aaload, 1) := by decide +kernel
theorem d5_6 : decode (pm_c 5) 6 = .ok (.astore_n 1, 1) := by decide +kernel
theorem d5_7 : decode (pm_c 5) 7 = .ok (.iconst 1, 1) := by decide +kernel
theorem d5_8 : decode (pm_c 5) 8 = .ok (.istore_n 2, 1) := by decide +kernel
theorem d5_9 : decode (pm_c 5) 9 = .ok (.iload_n 2, 1) := by decide +kernel
theorem d5_10 : decode (pm_c 5) 10 = .ok (.bipush 6, 2) := by decide +kernel
theorem d5_12 : decode (pm_c 5) 12 = .ok (.if_icmp .ge 23, 3) := by decide +kernel
theorem d5_15 : decode (pm_c 5) 15 = .ok (.aload_n 0, 1) := by decide +kernel
theorem d5_16 : decode (pm_c 5) 16 = .ok (.getfield 11, 3) := by decide +kernel
theorem d5_19 : decode (pm_c 5) 19 = .ok (.iload_n 2, 1) := by decide +kernel
theorem d5_20 : decode (pm_c 5) 20 = .ok (.iconst 1, 1) := by decide +kernel
theorem d5_21 : decode (pm_c 5) 21 = .ok (.isub, 1) := by decide +kernel
theorem d5_22 : decode (pm_c 5) 22 = .ok (.aload_n 0, 1) := by decide +kernel
theorem d5_23 : decode (pm_c 5) 23 = .ok (.getfield 11, 3) := by decide +kernel
theorem d5_26 : decode (pm_c 5) 26 = .ok (.iload_n 2, 1) := by decide +kernel
theorem d5_27 : decode (pm_c 5) 27 = .ok (.aaload, 1) := by decide +kernel
theorem d5_28 : decode (pm_c 5) 28 = .ok (.aastore, 1) := by decide +kernel
theorem d5_29 : decode (pm_c 5) 29 = .ok (.iinc 2 1, 3) := by decide +kernel
theorem d5_32 : decode (pm_c 5) 32 = .ok (.goto (-23), 3) := by decide +kernel
theorem d5_35 : decode (pm_c 5) 35 = .ok (.aload_n 0, 1) := by decide +kernel
theorem d5_36 : decode (pm_c 5) 36 = .ok (.getfield 11, 3) := by decide +kernel
theorem d5_39 : decode (pm_c 5) 39 = .ok (.iconst 5, 1) := by decide +kernel
theorem d5_40 : decode (pm_c 5) 40 = .ok (.aload_n 1, 1) := by decide +kernel
theorem d5_41 : decode (pm_c 5) 41 = .ok (.aastore, 1) := by decide +kernel
theorem d5_42 : decode (pm_c 5) 42 = .ok (.aload_n 0, 1) := by decide +kernel
theorem d5_43 : decode (pm_c 5) 43 = .ok (.dup, 1) := by decide +kernel
theorem d5_44 : decode (pm_c 5) 44 = .ok (.getfield 18, 3) := by decide +kernel
theorem d5_47 : decode (pm_c 5) 47 = .ok (.iconst 1, 1) := by decide +kernel
theorem d5_48 : decode (pm_c 5) 48 = .ok (.isub, 1) := by decide +kernel
theorem d5_49 : decode (pm_c 5) 49 = .ok (.putfield 18, 3) := by decide +kernel
theorem d5_52 : decode (pm_c 5) 52 = .ok (.return_, 1) := by decide +kernel
theorem d6_0 : decode (pm_c 6) 0 = .ok (.aload_n 0, 1) := by decide +kernel
theorem d6_1 : decode (pm_c 6) 1 = .ok (.getfield 18, 3) := by decide +kernel
theorem d6_4 : decode (pm_c 6) 4 = .ok (.ifCond .gt 5, 3) := by decide +kernel
theorem d6_7 : decode (pm_c 6) 7 = .ok (.iconst 0, 1) := by decide +kernel
theorem d6_8 : decode (pm_c 6) 8 = .ok (.ireturn, 1) := by decide +kernel
theorem d6_9 : decode (pm_c 6) 9 = .ok (.aload_n 0, 1) := by decide +kernel
theorem d6_10 : decode (pm_c 6) 10 = .ok (.dup, 1) := by decide +kernel
theorem d6_11 : decode (pm_c 6) 11 = .ok (.getfield 18, 3) := by decide +kernel
theorem d6_14 : decode (pm_c 6) 14 = .ok (.iconst 1, 1) := by decide +kernel
theorem d6_15 : decode (pm_c 6) 15 = .ok (.isub, 1) := by decide +kernel
theorem d6_16 : decode (pm_c 6) 16 = .ok (.putfield 18, 3) := by decide +kernel
theorem d6_19 : decode (pm_c 6) 19 = .ok (.aload_n 1, 1) := by decide +kernel
theorem d6_20 : decode (pm_c 6) 20 = .ok (.aload_n 0, 1) := by decide +kernel
theorem d6_21 : decode (pm_c 6) 21 = .ok (.getfield 11, 3) := by decide +kernel
theorem d6_24 : decode (pm_c 6) 24 = .ok (.aload_n 0, 1) := by decide +kernel
theorem d6_25 : decode (pm_c 6) 25 = .ok (.getfield 18, 3) := by decide +kernel
theorem d6_28 : decode (pm_c 6) 28 = .ok (.aaload, 1) := by decide +kernel
theorem d6_29 : decode (pm_c 6) 29 = .ok (.invokevirtual 25, 3) := by decide +kernel
theorem d6_32 : decode (pm_c 6) 32 = .ok (.iconst 1, 1) := by decide +kernel
theorem d6_33 : decode (pm_c 6) 33 = .ok (.ireturn, 1) := by decide +kernel
theorem d8_0 : decode (pm_c 8) 0 = .ok (.aload_n 0, 1) := by decide +kernel
theorem d8_1 : decode (pm_c 8) 1 = .ok (.iload_n 1, 1) := by decide +kernel
theorem d8_2 : decode (pm_c 8) 2 = .ok (.putfield 21, 3) := by decide +kernel
theorem d8_5 : decode (pm_c 8) 5 = .ok (.aload_n 0, 1) := by decide +kernel
theorem d8_6 : decode (pm_c 8) 6 = .ok (.iconst 0, 1) := by decide +kernel
theorem d8_7 : decode (pm_c 8) 7 = .ok (.putfield 25, 3) := by decide +kernel
theorem d8_10 : decode (pm_c 8) 10 = .ok (.aload_n 0, 1) := by decide +kernel
theorem d8_11 : decode (pm_c 8) 11 = .ok (.getfield 21, 3) := by decide +kernel
theorem d8_14 : decode (pm_c 8) 14 = .ok (.istore_n 2, 1) := by decide +kernel
theorem d8_15 : decode (pm_c 8) 15 = .ok (.iload_n 2, 1) := by decide +kernel
theorem d8_16 : decode (pm_c 8) 16 = .ok (.aload_n 0, 1) := by decide +kernel
theorem d8_17 : decode (pm_c 8) 17 = .ok (.getfield 21, 3) := by decide +kernel
theorem d8_20 : decode (pm_c 8) 20 = .ok (.ineg, 1) := by decide +kernel
theorem d8_21 : decode (pm_c 8) 21 = .ok (.if_icmp .lt 68, 3) := by decide +kernel
theorem d8_24 : decode (pm_c 8) 24 = .ok (.aload_n 0, 1) := by decide +kernel
theorem d8_25 : decode (pm_c 8) 25 = .ok (.getfield 21, 3) := by decide +kernel
theorem d8_28 : decode (pm_c 8) 28 = .ok (.iload_n 2, 1) := by decide +kernel
theorem d8_29 : decode (pm_c 8) 29 = .ok (.invokestatic 28, 3) := by decide +kernel
theorem d8_32 : decode (pm_c 8) 32 = .ok (.isub, 1) := by decide +kernel
theorem d8_33 : decode (pm_c 8) 33 = .ok (.istore_n 3, 1) := by decide +kernel
theorem d8_34 : decode (pm_c 8) 34 = .ok (.iload_n 3, 1) := by decide +kernel
theorem d8_35 : decode (pm_c 8) 35 = .ok (.ineg, 1) := by decide +kernel
theorem d8_36 : decode (pm_c 8) 36 = .ok (.istore 4, 2) := by decide +kernel
theorem d8_38 : decode (pm_c 8) 38 = .ok (.iload 4, 2) := by decide +kernel
theorem d8_40 : decode (pm_c 8) 40 = .ok (.iload_n 3, 1) := by decide +kernel
theorem d8_41 : decode (pm_c 8) 41 = .ok (.if_icmp .gt 42, 3) := by decide +kernel
theorem d8_44 : decode (pm_c 8) 44 = .ok (.iload_n 3, 1) := by decide +kernel
theorem d8_45 : decode (pm_c 8) 45 = .ok (.iload 4, 2) := by decide +kernel
theorem d8_47 : decode (pm_c 8) 47 = .ok (.invokestatic 28, 3) := by decide +kernel
theorem d8_50 : decode (pm_c 8) 50 = .ok (.isub, 1) := by decide +kernel
theorem d8_51 : decode (pm_c 8) 51 = .ok (.istore 5, 2) := by decide +kernel
theorem d8_53 : decode (pm_c 8) 53 = .ok (.aload_n 0, 1) := by decide +kernel
theorem d8_54 : decode (pm_c 8) 54 = .ok (.iload 5, 2) := by decide +kernel
theorem d8_56 : decode (pm_c 8) 56 = .ok (.ineg, 1) := by decide +kernel
theorem d8_57 : decode (pm_c 8) 57 = .ok (.iload 4, 2) := by decide +kernel
theorem d8_59 : decode (pm_c 8) 59 = .ok (.iload_n 2, 1) := by decide +kernel
theorem d8_60 : decode (pm_c 8) 60 = .ok (.invokevirtual 34, 3) := by decide +kernel
theorem d8_63 : decode (pm_c 8) 63 = .ok (.iload 5, 2) := by decide +kernel
theorem d8_65 : decode (pm_c 8) 65 = .ok (.ifCond .le 12, 3) := by decide +kernel
theorem d8_68 : decode (pm_c 8) 68 = .ok (.aload_n 0, 1) := by decide +kernel
theorem d8_69 : decode (pm_c 8) 69 = .ok (.iload 5, 2) := by decide +kernel
theorem d8_71 : decode (pm_c 8) 71 = .ok (.iload 4, 2) := by decide +kernel
theorem d8_73 : decode (pm_c 8) 73 = .ok (.iload_n 2, 1) := by decide +kernel
theorem d8_74 : decode (pm_c 8) 74 = .ok (.invokevirtual 34, 3) := by decide +kernel
theorem d8_77 : decode (pm_c 8) 77 = .ok (.iinc 4 1, 3) := by decide +kernel
theorem d8_80 : decode (pm_c 8) 80 = .ok (.goto (-42), 3) := by decide +kernel
theorem d8_83 : decode (pm_c 8) 83 = .ok (.iinc 2 (-1), 3) := by decide +kernel
theorem d8_86 : decode (pm_c 8) 86 = .ok (.goto (-71), 3) := by decide +kernel
theorem d8_89 : decode (pm_c 8) 89 = .ok (.return_, 1) := by decide +kernel
theorem d9_0 : decode (pm_c 9) 0 = .ok (.aload_n 0, 1) := by decide +kernel
theorem d9_1 : decode (pm_c 9) 1 = .ok (.getfield 25, 3) := by decide +kernel
theorem d9_4 : decode (pm_c 9) 4 = .ok (.sipush 146, 3) := by decide +kernel
theorem d9_7 : decode (pm_c 9) 7 = .ok (.if_icmp .lt 4, 3) := by decide +kernel
theorem d9_10 : decode (pm_c 9) 10 = .ok (.return_, 1) := by decide +kernel
theorem d9_11 : decode (pm_c 9) 11 = .ok (.aload_n 0, 1) := by decide +kernel
theorem d9_12 : decode (pm_c 9) 12 = .ok (.getfield 9, 3) := by decide +kernel
theorem d9_15 : decode (pm_c 9) 15 = .ok (.aload_n 0, 1) := by decide +kernel
theorem d9_16 : decode (pm_c 9) 16 = .ok (.getfield 25, 3) := by decide +kernel
theorem d9_19 : decode (pm_c 9) 19 = .ok (.iload_n 1, 1) := by decide +kernel
theorem d9_20 : decode (pm_c 9) 20 = .ok (.iastore, 1) := by decide +kernel
theorem d9_21 : decode (pm_c 9) 21 = .ok (.aload_n 0, 1) := by decide +kernel
theorem d9_22 : decode (pm_c 9) 22 = .ok (.getfield 15, 3) := by decide +kernel
theorem d9_25 : decode (pm_c 9) 25 = .ok (.aload_n 0, 1) := by decide +kernel
theorem d9_26 : decode (pm_c 9) 26 = .ok (.getfield 25, 3) := by decide +kernel
theorem d9_29 : decode (pm_c 9) 29 = .ok (.iload_n 2, 1) := by decide +kernel
theorem d9_30 : decode (pm_c 9) 30 = .ok (.iastore, 1) := by decide +kernel
theorem d9_31 : decode (pm_c 9) 31 = .ok (.aload_n 0, 1) := by decide +kernel
theorem d9_32 : decode (pm_c 9) 32 = .ok (.getfield 18, 3) := by decide +kernel
theorem d9_35 : decode (pm_c 9) 35 = .ok (.aload_n 0, 1) := by decide +kernel
theorem d9_36 : decode (pm_c 9) 36 = .ok (.getfield 25, 3) := by decide +kernel
theorem d9_39 : decode (pm_c 9) 39 = .ok (.iload_n 3, 1) := by decide +kernel
theorem d9_40 : decode (pm_c 9) 40 = .ok (.iastore, 1) := by decide +kernel
theorem d9_41 : decode (pm_c 9) 41 = .ok (.aload_n 0, 1) := by decide +kernel
theorem d9_42 : decode (pm_c 9) 42 = .ok (.dup, 1) := by decide +kernel
theorem d9_43 : decode (pm_c 9) 43 = .ok (.getfield 25, 3) := by decide +kernel
theorem d9_46 : decode (pm_c 9) 46 = .ok (.iconst 1, 1) := by decide +kernel
theorem d9_47 : decode (pm_c 9) 47 = .ok (.iadd, 1) := by decide +kernel
theorem d9_48 : decode (pm_c 9) 48 = .ok (.putfield 25, 3) := by decide +kernel
theorem d9_51 : decode (pm_c 9) 51 = .ok (.return_, 1) := by decide +kernel
theorem d11_0 : decode (pm_c 11) 0 = .ok (.aload_n 0, 1) := by decide +kernel
theorem d11_1 : decode (pm_c 11) 1 = .ok (.getfield 9, 3) := by decide +kernel
theorem d11_4 : decode (pm_c 11) 4 = .ok (.iload_n 1, 1) := by decide +kernel
theorem d11_5 : decode (pm_c 11) 5 = .ok (.iaload, 1) := by decide +kernel
theorem d11_6 : decode (pm_c 11) 6 = .ok (.aload_n 0, 1) := by decide +kernel
theorem d11_7 : decode (pm_c 11) 7 = .ok (.getfield 9, 3) := by decide +kernel
theorem d11_10 : decode (pm_c 11) 10 = .ok (.iload_n 2, 1) := by decide +kernel
theorem d11_11 : decode (pm_c 11) 11 = .ok (.iaload, 1) := by decide +kernel
theorem d11_12 : decode (pm_c 11) 12 = .ok (.imul, 1) := by decide +kernel
theorem d11_13 : decode (pm_c 11) 13 = .ok (.aload_n 0, 1) := by decide +kernel
theorem d11_14 : decode (pm_c 11) 14 = .ok (.getfield 15, 3) := by decide +kernel
theorem d11_17 : decode (pm_c 11) 17 = .ok (.iload_n 1, 1) := by decide +kernel
theorem d11_18 : decode (pm_c 11) 18 = .ok (.iaload, 1) := by decide +kernel
theorem d11_19 : decode (pm_c 11) 19 = .ok (.aload_n 0, 1) := by decide +kernel
theorem d11_20 : decode (pm_c 11) 20 = .ok (.getfield 15, 3) := by decide +kernel
theorem d11_23 : decode (pm_c 11) 23 = .ok (.iload_n 2, 1) := by decide +kernel
theorem d11_24 : decode (pm_c 11) 24 = .ok (.iaload, 1) := by decide +kernel
theorem d11_25 : decode (pm_c 11) 25 = .ok (.imul, 1) := by decide +kernel
theorem d11_26 : decode (pm_c 11) 26 = .ok (.iadd, 1) := by decide +kernel
theorem d11_27 : decode (pm_c 11) 27 = .ok (.aload_n 0, 1) := by decide +kernel
theorem d11_28 : decode (pm_c 11) 28 = .ok (.getfield 18, 3) := by decide +kernel
theorem d11_31 : decode (pm_c 11) 31 = .ok (.iload_n 1, 1) := by decide +kernel
theorem d11_32 : decode (pm_c 11) 32 = .ok (.iaload, 1) := by decide +kernel
theorem d11_33 : decode (pm_c 11) 33 = .ok (.aload_n 0, 1) := by decide +kernel
theorem d11_34 : decode (pm_c 11) 34 = .ok (.getfield 18, 3) := by decide +kernel
theorem d11_37 : decode (pm_c 11) 37 = .ok (.iload_n 2, 1) := by decide +kernel
theorem d11_38 : decode (pm_c 11) 38 = .ok (.iaload, 1) := by decide +kernel
theorem d11_39 : decode (pm_c 11) 39 = .ok (.imul, 1) := by decide +kernel
theorem d11_40 : decode (pm_c 11) 40 = .ok (.iadd, 1) := by decide +kernel
theorem d11_41 : decode (pm_c 11) 41 = .ok (.ireturn, 1) := by decide +kernel
theorem d12_0 : decode (pm_c 12) 0 = .ok (.aload_n 0, 1) := by decide +kernel
theorem d12_1 : decode (pm_c 12) 1 = .ok (.getfield 9, 3) := by decide +kernel
theorem d12_4 : decode (pm_c 12) 4 = .ok (.iload_n 1, 1) := by decide +kernel
theorem d12_5 : decode (pm_c 12) 5 = .ok (.iaload, 1) := by decide +kernel
theorem d12_6 : decode (pm_c 12) 6 = .ok (.aload_n 0, 1) := by decide +kernel
theorem d12_7 : decode (pm_c 12) 7 = .ok (.getfield 9, 3) := by decide +kernel
theorem d12_10 : decode (pm_c 12) 10 = .ok (.iload_n 2, 1) := by decide +kernel
theorem d12_11 : decode (pm_c 12) 11 = .ok (.iaload, 1) := by decide +kernel
theorem d12_12 : decode (pm_c 12) 12 = .ok (.invokestatic 38, 3) := by decide +kernel
theorem d12_15 : decode (pm_c 12) 15 = .ok (.istore_n 3, 1) := by decide +kernel
theorem d12_16 : decode (pm_c 12) 16 = .ok (.aload_n 0, 1) := by decide +kernel
theorem d12_17 : decode (pm_c 12) 17 = .ok (.getfield 15, 3) := by decide +kernel
theorem d12_20 : decode (pm_c 12) 20 = .ok (.iload_n 1, 1) := by decide +kernel
theorem d12_21 : decode (pm_c 12) 21 = .ok (.iaload, 1) := by decide +kernel
theorem d12_22 : decode (pm_c 12) 22 = .ok (.aload_n 0, 1) := by decide +kernel
theorem d12_23 : decode (pm_c 12) 23 = .ok (.getfield 15, 3) := by decide +kernel
theorem d12_26 : decode (pm_c 12) 26 = .ok (.iload_n 2, 1) := by decide +kernel
theorem d12_27 : decode (pm_c 12) 27 = .ok (.iaload, 1) := by decide +kernel
theorem d12_28 : decode (pm_c 12) 28 = .ok (.invokestatic 38, 3) := by decide +kernel
theorem d12_31 : decode (pm_c 12) 31 = .ok (.istore 4, 2) := by decide +kernel
theorem d12_33 : decode (pm_c 12) 33 = .ok (.aload_n 0, 1) := by decide +kernel
theorem d12_34 : decode (pm_c 12) 34 = .ok (.getfield 18, 3) := by decide +kernel
theorem d12_37 : decode (pm_c 12) 37 = .ok (.iload_n 1, 1) := by decide +kernel
theorem d12_38 : decode (pm_c 12) 38 = .ok (.iaload, 1) := by decide +kernel
theorem d12_39 : decode (pm_c 12) 39 = .ok (.aload_n 0, 1) := by decide +kernel
theorem d12_40 : decode (pm_c 12) 40 = .ok (.getfield 18, 3) := by decide +kernel
theorem d12_43 : decode (pm_c 12) 43 = .ok (.iload_n 2, 1) := by decide +kernel
theorem d12_44 : decode (pm_c 12) 44 = .ok (.iaload, 1) := by decide +kernel
theorem d12_45 : decode (pm_c 12) 45 = .ok (.invokestatic 38, 3) := by decide +kernel
theorem d12_48 : decode (pm_c 12) 48 = .ok (.istore 5, 2) := by decide +kernel
theorem d12_50 : decode (pm_c 12) 50 = .ok (.iload_n 3, 1) := by decide +kernel
theorem d12_51 : decode (pm_c 12) 51 = .ok (.iconst 1, 1) := by decide +kernel
theorem d12_52 : decode (pm_c 12) 52 = .ok (.if_icmp .gt 30, 3) := by decide +kernel
theorem d12_55 : decode (pm_c 12) 55 = .ok (.iload 4, 2) := by decide +kernel
theorem d12_57 : decode (pm_c 12) 57 = .ok (.iconst 1, 1) := by decide +kernel
theorem d12_58 : decode (pm_c 12) 58 = .ok (.if_icmp .gt 24, 3) := by decide +kernel
theorem d12_61 : decode (pm_c 12) 61 = .ok (.iload 5, 2) := by decide +kernel
theorem d12_63 : decode (pm_c 12) 63 = .ok (.iconst 1, 1) := by decide +kernel
theorem d12_64 : decode (pm_c 12) 64 = .ok (.if_icmp .gt 18, 3) := by decide +kernel
theorem d12_67 : decode (pm_c 12) 67 = .ok (.iload_n 3, 1) := by decide +kernel
theorem d12_68 : decode (pm_c 12) 68 = .ok (.iload 4, 2) := by decide +kernel
theorem d12_70 : decode (pm_c 12) 70 = .ok (.iadd, 1) := by decide +kernel
theorem d12_71 : decode (pm_c 12) 71 = .ok (.iload 5, 2) := by decide +kernel
theorem d12_73 : decode (pm_c 12) 73 = .ok (.iadd, 1) := by decide +kernel
theorem d12_74 : decode (pm_c 12) 74 = .ok (.iconst 2, 1) := by decide +kernel
theorem d12_75 : decode (pm_c 12) 75 = .ok (.if_icmp .ne 7, 3) := by decide +kernel
theorem d12_78 : decode (pm_c 12) 78 = .ok (.iconst 1, 1) := by decide +kernel
theorem d12_79 : decode (pm_c 12) 79 = .ok (.goto 4, 3) := by decide +kernel
theorem d12_82 : decode (pm_c 12) 82 = .ok (.iconst 0, 1) := by decide +kernel
theorem d12_83 : decode (pm_c 12) 83 = .ok (.ireturn, 1) := by decide +kernel
theorem d13_0 : decode (pm_c 13) 0 = .ok (.iload_n 0, 1) := by decide +kernel
theorem d13_1 : decode (pm_c 13) 1 = .ok (.iload_n 1, 1) := by decide +kernel
theorem d13_2 : decode (pm_c 13) 2 = .ok (.imul, 1) := by decide +kernel
theorem d13_3 : decode (pm_c 13) 3 = .ok (.ifCond .ge 7, 3) := by decide +kernel
theorem d13_6 : decode (pm_c 13) 6 = .ok (.iconst 2, 1) := by decide +kernel
theorem d13_7 : decode (pm_c 13) 7 = .ok (.goto 15, 3) := by decide +kernel
theorem d13_10 : decode (pm_c 13) 10 = .ok (.iload_n 0, 1) := by decide +kernel
theorem d13_11 : decode (pm_c 13) 11 = .ok (.invokestatic 28, 3) := by decide +kernel
theorem d13_14 : decode (pm_c 13) 14 = .ok (.iload_n 1, 1) := by decide +kernel
theorem d13_15 : decode (pm_c 13) 15 = .ok (.invokestatic 28, 3) := by decide +kernel
theorem d13_18 : decode (pm_c 13) 18 = .ok (.isub, 1) := by decide +kernel
theorem d13_19 : decode (pm_c 13) 19 = .ok (.invokestatic 28, 3) := by decide +kernel
theorem d13_22 : decode (pm_c 13) 22 = .ok (.ireturn, 1) := by decide +kernel
theorem d18_0 : decode (pm_c 18) 0 = .ok (.aload_n 0, 1) := by decide +kernel
theorem d18_1 : decode (pm_c 18) 1 = .ok (.iconst 0, 1) := by decide +kernel
theorem d18_2 : decode (pm_c 18) 2 = .ok (.putfield 30, 3) := by decide +kernel
theorem d18_5 : decode (pm_c 18) 5 = .ok (.aload_n 0, 1) := by decide +kernel
theorem d18_6 : decode (pm_c 18) 6 = .ok (.aload_n 2, 1) := by decide +kernel
theorem d18_7 : decode (pm_c 18) 7 = .ok (.getfield 34, 3) := by decide +kernel
theorem d18_10 : decode (pm_c 18) 10 = .ok (.putfield 37, 3) := by decide +kernel
theorem d18_13 : decode (pm_c 18) 13 = .ok (.iconst 0, 1) := by decide +kernel
theorem d18_14 : decode (pm_c 18) 14 = .ok (.istore_n 3, 1) := by decide +kernel
theorem d18_15 : decode (pm_c 18) 15 = .ok (.iload_n 3, 1) := by decide +kernel
theorem d18_16 : decode (pm_c 18) 16 = .ok (.aload_n 0, 1) := by decide +kernel
theorem d18_17 : decode (pm_c 18) 17 = .ok (.getfield 37, 3) := by decide +kernel
theorem d18_20 : decode (pm_c 18) 20 = .ok (.if_icmp .ge 78, 3) := by decide +kernel
theorem d18_23 : decode (pm_c 18) 23 = .ok (.aload_n 2, 1) := by decide +kernel
theorem d18_24 : decode (pm_c 18) 24 = .ok (.getfield 40, 3) := by decide +kernel
theorem d18_27 : decode (pm_c 18) 27 = .ok (.iload_n 3, 1) := by decide +kernel
theorem d18_28 : decode (pm_c 18) 28 = .ok (.iaload, 1) := by decide +kernel
theorem d18_29 : decode (pm_c 18) 29 = .ok (.istore 4, 2) := by decide +kernel
theorem d18_31 : decode (pm_c 18) 31 = .ok (.aload_n 2, 1) := by decide +kernel
theorem d18_32 : decode (pm_c 18) 32 = .ok (.getfield 43, 3) := by decide +kernel
theorem d18_35 : decode (pm_c 18) 35 = .ok (.iload_n 3, 1) := by decide +kernel
theorem d18_36 : decode (pm_c 18) 36 = .ok (.iaload, 1) := by decide +kernel
theorem d18_37 : decode (pm_c 18) 37 = .ok (.istore 5, 2) := by decide +kernel
theorem d18_39 : decode (pm_c 18) 39 = .ok (.aload_n 0, 1) := by decide +kernel
theorem d18_40 : decode (pm_c 18) 40 = .ok (.getfield 9, 3) := by decide +kernel
theorem d18_43 : decode (pm_c 18) 43 = .ok (.iload_n 3, 1) := by decide +kernel
theorem d18_44 : decode (pm_c 18) 44 = .ok (.aload_n 1, 1) := by decide +kernel
theorem d18_45 : decode (pm_c 18) 45 = .ok (.iload 4, 2) := by decide +kernel
theorem d18_47 : decode (pm_c 18) 47 = .ok (.iload 5, 2) := by decide +kernel
theorem d18_49 : decode (pm_c 18) 49 = .ok (.invokevirtual 46, 3) := by decide +kernel
theorem d18_52 : decode (pm_c 18) 52 = .ok (.iastore, 1) := by decide +kernel
theorem d18_53 : decode (pm_c 18) 53 = .ok (.aload_n 0, 1) := by decide +kernel
theorem d18_54 : decode (pm_c 18) 54 = .ok (.getfield 15, 3) := by decide +kernel
theorem d18_57 : decode (pm_c 18) 57 = .ok (.iload_n 3, 1) := by decide +kernel
theorem d18_58 : decode (pm_c 18) 58 = .ok (.aload_n 1, 1) := by decide +kernel
theorem d18_59 : decode (pm_c 18) 59 = .ok (.iload 4, 2) := by decide +kernel
theorem d18_61 : decode (pm_c 18) 61 = .ok (.iload 4, 2) := by decide +kernel
theorem d18_63 : decode (pm_c 18) 63 = .ok (.invokevirtual 46, 3) := by decide +kernel
theorem d18_66 : decode (pm_c 18) 66 = .ok (.aload_n 1, 1) := by decide +kernel
theorem d18_67 : decode (pm_c 18) 67 = .ok (.iload 5, 2) := by decide +kernel
theorem d18_69 : decode (pm_c 18) 69 = .ok (.iload 5, 2) := by decide +kernel
theorem d18_71 : decode (pm_c 18) 71 = .ok (.invokevirtual 46, 3) := by decide +kernel
theorem d18_74 : decode (pm_c 18) 74 = .ok (.imul, 1) := by decide +kernel
theorem d18_75 : decode (pm_c 18) 75 = .ok (.iastore, 1) := by decide +kernel
theorem d18_76 : decode (pm_c 18) 76 = .ok (.aload_n 0, 1) := by decide +kernel
theorem d18_77 : decode (pm_c 18) 77 = .ok (.aload_n 0, 1) := by decide +kernel
theorem d18_78 : decode (pm_c 18) 78 = .ok (.getfield 9, 3) := by decide +kernel
theorem d18_81 : decode (pm_c 18) 81 = .ok (.iload_n 3, 1) := by decide +kernel
theorem d18_82 : decode (pm_c 18) 82 = .ok (.iaload, 1) := by decide +kernel
theorem d18_83 : decode (pm_c 18) 83 = .ok (.aload_n 0, 1) := by decide +kernel
theorem d18_84 : decode (pm_c 18) 84 = .ok (.getfield 15, 3) := by decide +kernel
theorem d18_87 : decode (pm_c 18) 87 = .ok (.iload_n 3, 1) := by decide +kernel
theorem d18_88 : decode (pm_c 18) 88 = .ok (.iaload, 1) := by decide +kernel
theorem d18_89 : decode (pm_c 18) 89 = .ok (.invokevirtual 52, 3) := by decide +kernel
theorem d18_92 : decode (pm_c 18) 92 = .ok (.iinc 3 1, 3) := by decide +kernel
theorem d18_95 : decode (pm_c 18) 95 = .ok (.goto (-80), 3) := by decide +kernel
theorem d18_98 : decode (pm_c 18) 98 = .ok (.iconst 0, 1) := by decide +kernel
theorem d18_99 : decode (pm_c 18) 99 = .ok (.istore_n 3, 1) := by decide +kernel
theorem d18_100 : decode (pm_c 18) 100 = .ok (.iload_n 3, 1) := by decide +kernel
theorem d18_101 : decode (pm_c 18) 101 = .ok (.aload_n 0, 1) := by decide +kernel
theorem d18_102 : decode (pm_c 18) 102 = .ok (.getfield 37, 3) := by decide +kernel
theorem d18_105 : decode (pm_c 18) 105 = .ok (.if_icmp .ge 31, 3) := by decide +kernel
theorem d18_108 : decode (pm_c 18) 108 = .ok (.aload_n 0, 1) := by decide +kernel
theorem d18_109 : decode (pm_c 18) 109 = .ok (.getfield 18, 3) := by decide +kernel
theorem d18_112 : decode (pm_c 18) 112 = .ok (.iload_n 3, 1) := by decide +kernel
theorem d18_113 : decode (pm_c 18) 113 = .ok (.aload_n 0, 1) := by decide +kernel
theorem d18_114 : decode (pm_c 18) 114 = .ok (.aload_n 0, 1) := by decide +kernel
theorem d18_115 : decode (pm_c 18) 115 = .ok (.getfield 9, 3) := by decide +kernel
theorem d18_118 : decode (pm_c 18) 118 = .ok (.iload_n 3, 1) := by decide +kernel
theorem d18_119 : decode (pm_c 18) 119 = .ok (.iaload, 1) := by decide +kernel
theorem d18_120 : decode (pm_c 18) 120 = .ok (.aload_n 0, 1) := by decide +kernel
theorem d18_121 : decode (pm_c 18) 121 = .ok (.getfield 15, 3) := by decide +kernel
theorem d18_124 : decode (pm_c 18) 124 = .ok (.iload_n 3, 1) := by decide +kernel
theorem d18_125 : decode (pm_c 18) 125 = .ok (.iaload, 1) := by decide +kernel
theorem d18_126 : decode (pm_c 18) 126 = .ok (.invokevirtual 56, 3) := by decide +kernel
theorem d18_129 : decode (pm_c 18) 129 = .ok (.iastore, 1) := by decide +kernel
theorem d18_130 : decode (pm_c 18) 130 = .ok (.iinc 3 1, 3) := by decide +kernel
theorem d18_133 : decode (pm_c 18) 133 = .ok (.goto (-33), 3) := by decide +kernel
theorem d18_136 : decode (pm_c 18) 136 = .ok (.aload_n 0, 1) := by decide +kernel
theorem d18_137 : decode (pm_c 18) 137 = .ok (.invokevirtual 59, 3) := by decide +kernel
theorem d18_140 : decode (pm_c 18) 140 = .ok (.return_, 1) := by decide +kernel
theorem d19_0 : decode (pm_c 19) 0 = .ok (.iconst 0, 1) := by decide +kernel
theorem d19_1 : decode (pm_c 19) 1 = .ok (.istore_n 3, 1) := by decide +kernel
theorem d19_2 : decode (pm_c 19) 2 = .ok (.iload_n 3, 1) := by decide +kernel
theorem d19_3 : decode (pm_c 19) 3 = .ok (.aload_n 0, 1) := by decide +kernel
theorem d19_4 : decode (pm_c 19) 4 = .ok (.getfield 30, 3) := by decide +kernel
theorem d19_7 : decode (pm_c 19) 7 = .ok (.if_icmp .ge 21, 3) := by decide +kernel
theorem d19_10 : decode (pm_c 19) 10 = .ok (.aload_n 0, 1) := by decide +kernel
theorem d19_11 : decode (pm_c 19) 11 = .ok (.iload_n 1, 1) := by decide +kernel
theorem d19_12 : decode (pm_c 19) 12 = .ok (.iload_n 2, 1) := by decide +kernel
theorem d19_13 : decode (pm_c 19) 13 = .ok (.iload_n 3, 1) := by decide +kernel
theorem d19_14 : decode (pm_c 19) 14 = .ok (.invokevirtual 62, 3) := by decide +kernel
theorem d19_17 : decode (pm_c 19) 17 = .ok (.ifCond .lt 5, 3) := by decide +kernel
theorem d19_20 : decode (pm_c 19) 20 = .ok (.iload_n 3, 1) := by decide +kernel
theorem d19_21 : decode (pm_c 19) 21 = .ok (.ireturn, 1) := by decide +kernel
theorem d19_22 : decode (pm_c 19) 22 = .ok (.iinc 3 1, 3) := by decide +kernel
theorem d19_25 : decode (pm_c 19) 25 = .ok (.goto (-23), 3) := by decide +kernel
theorem d19_28 : decode (pm_c 19) 28 = .ok (.aload_n 0, 1) := by decide +kernel
theorem d19_29 : decode (pm_c 19) 29 = .ok (.getfield 30, 3) := by decide +kernel
theorem d19_32 : decode (pm_c 19) 32 = .ok (.ireturn, 1) := by decide +kernel
theorem d20_0 : decode (pm_c 20) 0 = .ok (.iload_n 1, 1) := by decide +kernel
theorem d20_1 : decode (pm_c 20) 1 = .ok (.iload_n 1, 1) := by decide +kernel
theorem d20_2 : decode (pm_c 20) 2 = .ok (.imul, 1) := by decide +kernel
theorem d20_3 : decode (pm_c 20) 3 = .ok (.aload_n 0, 1) := by decide +kernel
theorem d20_4 : decode (pm_c 20) 4 = .ok (.getfield 27, 3) := by decide +kernel
theorem d20_7 : decode (pm_c 20) 7 = .ok (.iload_n 3, 1) := by decide +kernel
theorem d20_8 : decode (pm_c 20) 8 = .ok (.iaload, 1) := by decide +kernel
theorem d20_9 : decode (pm_c 20) 9 = .ok (.imul, 1) := by decide +kernel
theorem d20_10 : decode (pm_c 20) 10 = .ok (.aload_n 0, 1) := by decide +kernel
theorem d20_11 : decode (pm_c 20) 11 = .ok (.getfield 24, 3) := by decide +kernel
theorem d20_14 : decode (pm_c 20) 14 = .ok (.iload_n 3, 1) := by decide +kernel
theorem d20_15 : decode (pm_c 20) 15 = .ok (.iaload, 1) := by decide +kernel
theorem d20_16 : decode (pm_c 20) 16 = .ok (.aload_n 0, 1) := by decide +kernel
theorem d20_17 : decode (pm_c 20) 17 = .ok (.getfield 24, 3) := by decide +kernel
theorem d20_20 : decode (pm_c 20) 20 = .ok (.iload_n 3, 1) := by decide +kernel
theorem d20_21 : decode (pm_c 20) 21 = .ok (.iaload, 1) := by decide +kernel
theorem d20_22 : decode (pm_c 20) 22 = .ok (.imul, 1) := by decide +kernel
theorem d20_23 : decode (pm_c 20) 23 = .ok (.iload_n 2, 1) := by decide +kernel
theorem d20_24 : decode (pm_c 20) 24 = .ok (.imul, 1) := by decide +kernel
theorem d20_25 : decode (pm_c 20) 25 = .ok (.invokestatic 66, 3) := by decide +kernel
theorem d20_28 : decode (pm_c 20) 28 = .ok (.ireturn, 1) := by decide +kernel
theorem d21_0 : decode (pm_c 21) 0 = .ok (.aload_n 0, 1) := by decide +kernel
theorem d21_1 : decode (pm_c 21) 1 = .ok (.iload_n 1, 1) := by decide +kernel
theorem d21_2 : decode (pm_c 21) 2 = .ok (.iload_n 2, 1) := by decide +kernel
theorem d21_3 : decode (pm_c 21) 3 = .ok (.invokevirtual 56, 3) := by decide +kernel
theorem d21_6 : decode (pm_c 21) 6 = .ok (.istore_n 3, 1) := by decide +kernel
theorem d21_7 : decode (pm_c 21) 7 = .ok (.iload_n 3, 1) := by decide +kernel
theorem d21_8 : decode (pm_c 21) 8 = .ok (.aload_n 0, 1) := by decide +kernel
theorem d21_9 : decode (pm_c 21) 9 = .ok (.getfield 30, 3) := by decide +kernel
theorem d21_12 : decode (pm_c 21) 12 = .ok (.if_icmp .ge 17, 3) := by decide +kernel
theorem d21_15 : decode (pm_c 21) 15 = .ok (.aload_n 0, 1) := by decide +kernel
theorem d21_16 : decode (pm_c 21) 16 = .ok (.iload_n 1, 1) := by decide +kernel
theorem d21_17 : decode (pm_c 21) 17 = .ok (.iload_n 2, 1) := by decide +kernel
theorem d21_18 : decode (pm_c 21) 18 = .ok (.iload_n 3, 1) := by decide +kernel
theorem d21_19 : decode (pm_c 21) 19 = .ok (.invokevirtual 62, 3) := by decide +kernel
theorem d21_22 : decode (pm_c 21) 22 = .ok (.ifCond .ne 7, 3) := by decide +kernel
theorem d21_25 : decode (pm_c 21) 25 = .ok (.iconst 1, 1) := by decide +kernel
theorem d21_26 : decode (pm_c 21) 26 = .ok (.goto 4, 3) := by decide +kernel
theorem d21_29 : decode (pm_c 21) 29 = .ok (.iconst 0, 1) := by decide +kernel
theorem d21_30 : decode (pm_c 21) 30 = .ok (.istore 4, 2) := by decide +kernel
theorem d21_32 : decode (pm_c 21) 32 = .ok (.iload 4, 2) := by decide +kernel
theorem d21_34 : decode (pm_c 21) 34 = .ok (.ifCond .ne 12, 3) := by decide +kernel
theorem d21_37 : decode (pm_c 21) 37 = .ok (.aload_n 0, 1) := by decide +kernel
theorem d21_38 : decode (pm_c 21) 38 = .ok (.getfield 30, 3) := by decide +kernel
theorem d21_41 : decode (pm_c 21) 41 = .ok (.bipush 16, 2) := by decide +kernel
theorem d21_43 : decode (pm_c 21) 43 = .ok (.if_icmp .lt 4, 3) := by decide +kernel
theorem d21_46 : decode (pm_c 21) 46 = .ok (.return_, 1) := by decide +kernel
theorem d21_47 : decode (pm_c 21) 47 = .ok (.aload_n 0, 1) := by decide +kernel
theorem d21_48 : decode (pm_c 21) 48 = .ok (.getfield 30, 3) := by decide +kernel
theorem d21_51 : decode (pm_c 21) 51 = .ok (.istore 5, 2) := by decide +kernel
theorem d21_53 : decode (pm_c 21) 53 = .ok (.iload 5, 2) := by decide +kernel
theorem d21_55 : decode (pm_c 21) 55 = .ok (.iload_n 3, 1) := by decide +kernel
theorem d21_56 : decode (pm_c 21) 56 = .ok (.if_icmp .le 41, 3) := by decide +kernel
theorem d21_59 : decode (pm_c 21) 59 = .ok (.aload_n 0, 1) := by decide +kernel
theorem d21_60 : decode (pm_c 21) 60 = .ok (.getfield 24, 3) := by decide +kernel
theorem d21_63 : decode (pm_c 21) 63 = .ok (.iload 5, 2) := by decide +kernel
theorem d21_65 : decode (pm_c 21) 65 = .ok (.aload_n 0, 1) := by decide +kernel
theorem d21_66 : decode (pm_c 21) 66 = .ok (.getfield 24, 3) := by decide +kernel
theorem d21_69 : decode (pm_c 21) 69 = .ok (.iload 5, 2) := by decide +kernel
theorem d21_71 : decode (pm_c 21) 71 = .ok (.iconst 1, 1) := by decide +kernel
theorem d21_72 : decode (pm_c 21) 72 = .ok (.isub, 1) := by decide +kernel
theorem d21_73 : decode (pm_c 21) 73 = .ok (.iaload, 1) := by decide +kernel
theorem d21_74 : decode (pm_c 21) 74 = .ok (.iastore, 1) := by decide +kernel
theorem d21_75 : decode (pm_c 21) 75 = .ok (.aload_n 0, 1) := by decide +kernel
theorem d21_76 : decode (pm_c 21) 76 = .ok (.getfield 27, 3) := by decide +kernel
theorem d21_79 : decode (pm_c 21) 79 = .ok (.iload 5, 2) := by decide +kernel
theorem d21_81 : decode (pm_c 21) 81 = .ok (.aload_n 0, 1) := by decide +kernel
theorem d21_82 : decode (pm_c 21) 82 = .ok (.getfield 27, 3) := by decide +kernel
theorem d21_85 : decode (pm_c 21) 85 = .ok (.iload 5, 2) := by decide +kernel
theorem d21_87 : decode (pm_c 21) 87 = .ok (.iconst 1, 1) := by decide +kernel
theorem d21_88 : decode (pm_c 21) 88 = .ok (.isub, 1) := by decide +kernel
theorem d21_89 : decode (pm_c 21) 89 = .ok (.iaload, 1) := by decide +kernel
theorem d21_90 : decode (pm_c 21) 90 = .ok (.iastore, 1) := by decide +kernel
theorem d21_91 : decode (pm_c 21) 91 = .ok (.iinc 5 (-1), 3) := by decide +kernel
theorem d21_94 : decode (pm_c 21) 94 = .ok (.goto (-41), 3) := by decide +kernel
theorem d21_97 : decode (pm_c 21) 97 = .ok (.aload_n 0, 1) := by decide +kernel
theorem d21_98 : decode (pm_c 21) 98 = .ok (.getfield 24, 3) := by decide +kernel
theorem d21_101 : decode (pm_c 21) 101 = .ok (.iload_n 3, 1) := by decide +kernel
theorem d21_102 : decode (pm_c 21) 102 = .ok (.iload_n 1, 1) := by decide +kernel
theorem d21_103 : decode (pm_c 21) 103 = .ok (.iastore, 1) := by decide +kernel
theorem d21_104 : decode (pm_c 21) 104 = .ok (.aload_n 0, 1) := by decide +kernel
theorem d21_105 : decode (pm_c 21) 105 = .ok (.getfield 27, 3) := by decide +kernel
theorem d21_108 : decode (pm_c 21) 108 = .ok (.iload_n 3, 1) := by decide +kernel
theorem d21_109 : decode (pm_c 21) 109 = .ok (.iload_n 2, 1) := by decide +kernel
theorem d21_110 : decode (pm_c 21) 110 = .ok (.iastore, 1) := by decide +kernel
theorem d21_111 : decode (pm_c 21) 111 = .ok (.aload_n 0, 1) := by decide +kernel
theorem d21_112 : decode (pm_c 21) 112 = .ok (.dup, 1) := by decide +kernel
theorem d21_113 : decode (pm_c 21) 113 = .ok (.getfield 30, 3) := by decide +kernel
theorem d21_116 : decode (pm_c 21) 116 = .ok (.iconst 1, 1) := by decide +kernel
theorem d21_117 : decode (pm_c 21) 117 = .ok (.iadd, 1) := by decide +kernel
theorem d21_118 : decode (pm_c 21) 118 = .ok (.putfield 30, 3) := by decide +kernel
theorem d21_121 : decode (pm_c 21) 121 = .ok (.return_, 1) := by decide +kernel
theorem d22_0 : decode (pm_c 22) 0 = .ok (.iconst 0, 1) := by decide +kernel
theorem d22_1 : decode (pm_c 22) 1 = .ok (.istore_n 1, 1) := by decide +kernel
theorem d22_2 : decode (pm_c 22) 2 = .ok (.aload_n 0, 1) := by decide +kernel
theorem d22_3 : decode (pm_c 22) 3 = .ok (.getfield 30, 3) := by decide +kernel
theorem d22_6 : decode (pm_c 22) 6 = .ok (.iconst 1, 1) := by decide +kernel
theorem d22_7 : decode (pm_c 22) 7 = .ok (.isub, 1) := by decide +kernel
theorem d22_8 : decode (pm_c 22) 8 = .ok (.istore_n 2, 1) := by decide +kernel
theorem d22_9 : decode (pm_c 22) 9 = .ok (.iload_n 2, 1) := by decide +kernel
theorem d22_10 : decode (pm_c 22) 10 = .ok (.ifCond .lt 45, 3) := by decide +kernel
theorem d22_13 : decode (pm_c 22) 13 = .ok (.iconst 0, 1) := by decide +kernel
theorem d22_14 : decode (pm_c 22) 14 = .ok (.istore_n 3, 1) := by decide +kernel
theorem d22_15 : decode (pm_c 22) 15 = .ok (.iload_n 3, 1) := by decide +kernel
theorem d22_16 : decode (pm_c 22) 16 = .ok (.aload_n 0, 1) := by decide +kernel
theorem d22_17 : decode (pm_c 22) 17 = .ok (.getfield 37, 3) := by decide +kernel
theorem d22_20 : decode (pm_c 22) 20 = .ok (.if_icmp .ge 29, 3) := by decide +kernel
theorem d22_23 : decode (pm_c 22) 23 = .ok (.aload_n 0, 1) := by decide +kernel
theorem d22_24 : decode (pm_c 22) 24 = .ok (.getfield 18, 3) := by decide +kernel
theorem d22_27 : decode (pm_c 22) 27 = .ok (.iload_n 3, 1) := by decide +kernel
theorem d22_28 : decode (pm_c 22) 28 = .ok (.iaload, 1) := by decide +kernel
theorem d22_29 : decode (pm_c 22) 29 = .ok (.iload_n 2, 1) := by decide +kernel
theorem d22_30 : decode (pm_c 22) 30 = .ok (.if_icmp .ne 13, 3) := by decide +kernel
theorem d22_33 : decode (pm_c 22) 33 = .ok (.aload_n 0, 1) := by decide +kernel
theorem d22_34 : decode (pm_c 22) 34 = .ok (.getfield 21, 3) := by decide +kernel
theorem d22_37 : decode (pm_c 22) 37 = .ok (.iload_n 1, 1) := by decide +kernel
theorem d22_38 : decode (pm_c 22) 38 = .ok (.iload_n 3, 1) := by decide +kernel
theorem d22_39 : decode (pm_c 22) 39 = .ok (.iastore, 1) := by decide +kernel
theorem d22_40 : decode (pm_c 22) 40 = .ok (.iinc 1 1, 3) := by decide +kernel
theorem d22_43 : decode (pm_c 22) 43 = .ok (.iinc 3 1, 3) := by decide +kernel
theorem d22_46 : decode (pm_c 22) 46 = .ok (.goto (-31), 3) := by decide +kernel
theorem d22_49 : decode (pm_c 22) 49 = .ok (.iinc 2 (-1), 3) := by decide +kernel
theorem d22_52 : decode (pm_c 22) 52 = .ok (.goto (-43), 3) := by decide +kernel
theorem d22_55 : decode (pm_c 22) 55 = .ok (.return_, 1) := by decide +kernel
theorem d24_0 : decode (pm_c 24) 0 = .ok (.iconst 0, 1) := by decide +kernel
theorem d24_1 : decode (pm_c 24) 1 = .ok (.istore_n 3, 1) := by decide +kernel
theorem d24_2 : decode (pm_c 24) 2 = .ok (.sipush 2048, 3) := by decide +kernel
theorem d24_5 : decode (pm_c 24) 5 = .ok (.istore 4, 2) := by decide +kernel
theorem d24_7 : decode (pm_c 24) 7 = .ok (.iload 4, 2) := by decide +kernel
theorem d24_9 : decode (pm_c 24) 9 = .ok (.ifCond .le 30, 3) := by decide +kernel
theorem d24_12 : decode (pm_c 24) 12 = .ok (.aload_n 0, 1) := by decide +kernel
theorem d24_13 : decode (pm_c 24) 13 = .ok (.iload_n 3, 1) := by decide +kernel
theorem d24_14 : decode (pm_c 24) 14 = .ok (.iload 4, 2) := by decide +kernel
theorem d24_16 : decode (pm_c 24) 16 = .ok (.iadd, 1) := by decide +kernel
theorem d24_17 : decode (pm_c 24) 17 = .ok (.iload_n 1, 1) := by decide +kernel
theorem d24_18 : decode (pm_c 24) 18 = .ok (.iload_n 2, 1) := by decide +kernel
theorem d24_19 : decode (pm_c 24) 19 = .ok (.invokevirtual 71, 3) := by decide +kernel
theorem d24_22 : decode (pm_c 24) 22 = .ok (.ifCond .eq 8, 3) := by decide +kernel
theorem d24_25 : decode (pm_c 24) 25 = .ok (.iload_n 3, 1) := by decide +kernel
theorem d24_26 : decode (pm_c 24) 26 = .ok (.iload 4, 2) := by decide +kernel
theorem d24_28 : decode (pm_c 24) 28 = .ok (.iadd, 1) := by decide +kernel
theorem d24_29 : decode (pm_c 24) 29 = .ok (.istore_n 3, 1) := by decide +kernel
theorem d24_30 : decode (pm_c 24) 30 = .ok (.iload 4, 2) := by decide +kernel
theorem d24_32 : decode (pm_c 24) 32 = .ok (.iconst 1, 1) := by decide +kernel
theorem d24_33 : decode (pm_c 24) 33 = .ok (.ishr, 1) := by decide +kernel
theorem d24_34 : decode (pm_c 24) 34 = .ok (.istore 4, 2) := by decide +kernel
theorem d24_36 : decode (pm_c 24) 36 = .ok (.goto (-29), 3) := by decide +kernel
theorem d24_39 : decode (pm_c 24) 39 = .ok (.iload_n 3, 1) := by decide +kernel
theorem d24_40 : decode (pm_c 24) 40 = .ok (.ireturn, 1) := by decide +kernel
theorem d25_0 : decode (pm_c 25) 0 = .ok (.ldc2_w 75, 3) := by decide +kernel
theorem d25_3 : decode (pm_c 25) 3 = .ok (.iload_n 3, 1) := by decide +kernel
theorem d25_4 : decode (pm_c 25) 4 = .ok (.i2l, 1) := by decide +kernel
theorem d25_5 : decode (pm_c 25) 5 = .ok (.lmul, 1) := by decide +kernel
theorem d25_6 : decode (pm_c 25) 6 = .ok (.iload_n 3, 1) := by decide +kernel
theorem d25_7 : decode (pm_c 25) 7 = .ok (.i2l, 1) := by decide +kernel
theorem d25_8 : decode (pm_c 25) 8 = .ok (.lmul, 1) := by decide +kernel
theorem d25_9 : decode (pm_c 25) 9 = .ok (.lstore 4, 2) := by decide +kernel
theorem d25_11 : decode (pm_c 25) 11 = .ok (.lload 4, 2) := by decide +kernel
theorem d25_13 : decode (pm_c 25) 13 = .ok (.iload_n 1, 1) := by decide +kernel
theorem d25_14 : decode (pm_c 25) 14 = .ok (.i2l, 1) := by decide +kernel
theorem d25_15 : decode (pm_c 25) 15 = .ok (.iload_n 1, 1) := by decide +kernel
theorem d25_16 : decode (pm_c 25) 16 = .ok (.i2l, 1) := by decide +kernel
theorem d25_17 : decode (pm_c 25) 17 = .ok (.lmul, 1) := by decide +kernel
theorem d25_18 : decode (pm_c 25) 18 = .ok (.lsub, 1) := by decide +kernel
theorem d25_19 : decode (pm_c 25) 19 = .ok (.lstore 6, 2) := by decide +kernel
theorem d25_21 : decode (pm_c 25) 21 = .ok (.lload 6, 2) := by decide +kernel
theorem d25_23 : decode (pm_c 25) 23 = .ok (.lconst 0, 1) := by decide +kernel
theorem d25_24 : decode (pm_c 25) 24 = .ok (.lcmp, 1) := by decide +kernel
theorem d25_25 : decode (pm_c 25) 25 = .ok (.ifCond .lt 45, 3) := by decide +kernel
theorem d25_28 : decode (pm_c 25) 28 = .ok (.lload 6, 2) := by decide +kernel
theorem d25_30 : decode (pm_c 25) 30 = .ok (.lload 6, 2) := by decide +kernel
theorem d25_32 : decode (pm_c 25) 32 = .ok (.lmul, 1) := by decide +kernel
theorem d25_33 : decode (pm_c 25) 33 = .ok (.aload_n 0, 1) := by decide +kernel
theorem d25_34 : decode (pm_c 25) 34 = .ok (.getfield 27, 3) := by decide +kernel
theorem d25_37 : decode (pm_c 25) 37 = .ok (.iload_n 2, 1) := by decide +kernel
theorem d25_38 : decode (pm_c 25) 38 = .ok (.iaload, 1) := by decide +kernel
theorem d25_39 : decode (pm_c 25) 39 = .ok (.i2l, 1) := by decide +kernel
theorem d25_40 : decode (pm_c 25) 40 = .ok (.lmul, 1) := by decide +kernel
theorem d25_41 : decode (pm_c 25) 41 = .ok (.lload 4, 2) := by decide +kernel
theorem d25_43 : decode (pm_c 25) 43 = .ok (.lload 4, 2) := by decide +kernel
theorem d25_45 : decode (pm_c 25) 45 = .ok (.lmul, 1) := by decide +kernel
theorem d25_46 : decode (pm_c 25) 46 = .ok (.aload_n 0, 1) := by decide +kernel
theorem d25_47 : decode (pm_c 25) 47 = .ok (.getfield 24, 3) := by decide +kernel
theorem d25_50 : decode (pm_c 25) 50 = .ok (.iload_n 2, 1) := by decide +kernel
theorem d25_51 : decode (pm_c 25) 51 = .ok (.iaload, 1) := by decide +kernel
theorem d25_52 : decode (pm_c 25) 52 = .ok (.i2l, 1) := by decide +kernel
theorem d25_53 : decode (pm_c 25) 53 = .ok (.lmul, 1) := by decide +kernel
theorem d25_54 : decode (pm_c 25) 54 = .ok (.aload_n 0, 1) := by decide +kernel
theorem d25_55 : decode (pm_c 25) 55 = .ok (.getfield 24, 3) := by decide +kernel
theorem d25_58 : decode (pm_c 25) 58 = .ok (.iload_n 2, 1) := by decide +kernel
theorem d25_59 : decode (pm_c 25) 59 = .ok (.iaload, 1) := by decide +kernel
theorem d25_60 : decode (pm_c 25) 60 = .ok (.i2l, 1) := by decide +kernel
theorem d25_61 : decode (pm_c 25) 61 = .ok (.lmul, 1) := by decide +kernel
theorem d25_62 : decode (pm_c 25) 62 = .ok (.lcmp, 1) := by decide +kernel
theorem d25_63 : decode (pm_c 25) 63 = .ok (.ifCond .lt 7, 3) := by decide +kernel
theorem d25_66 : decode (pm_c 25) 66 = .ok (.iconst 1, 1) := by decide +kernel
theorem d25_67 : decode (pm_c 25) 67 = .ok (.goto 4, 3) := by decide +kernel
theorem d25_70 : decode (pm_c 25) 70 = .ok (.iconst 0, 1) := by decide +kernel
theorem d25_71 : decode (pm_c 25) 71 = .ok (.ireturn, 1) := by decide +kernel
theorem d30_0 : decode (pm_c 30) 0 = .ok (.aload_n 0, 1) := by decide +kernel
theorem d30_1 : decode (pm_c 30) 1 = .ok (.iconst 0, 1) := by decide +kernel
theorem d30_2 : decode (pm_c 30) 2 = .ok (.putfield 30, 3) := by decide +kernel
theorem d30_5 : decode (pm_c 30) 5 = .ok (.return_, 1) := by decide +kernel
theorem d31_0 : decode (pm_c 31) 0 = .ok (.aload_n 0, 1) := by decide +kernel
theorem d31_1 : decode (pm_c 31) 1 = .ok (.getfield 30, 3) := by decide +kernel
theorem d31_4 : decode (pm_c 31) 4 = .ok (.sipush 432, 3) := by decide +kernel
theorem d31_7 : decode (pm_c 31) 7 = .ok (.if_icmp .lt 4, 3) := by decide +kernel
theorem d31_10 : decode (pm_c 31) 10 = .ok (.return_, 1) := by decide +kernel
theorem d31_11 : decode (pm_c 31) 11 = .ok (.aload_n 0, 1) := by decide +kernel
theorem d31_12 : decode (pm_c 31) 12 = .ok (.getfield 9, 3) := by decide +kernel
theorem d31_15 : decode (pm_c 31) 15 = .ok (.aload_n 0, 1) := by decide +kernel
theorem d31_16 : decode (pm_c 31) 16 = .ok (.getfield 30, 3) := by decide +kernel
theorem d31_19 : decode (pm_c 31) 19 = .ok (.iload_n 1, 1) := by decide +kernel
theorem d31_20 : decode (pm_c 31) 20 = .ok (.iastore, 1) := by decide +kernel
theorem d31_21 : decode (pm_c 31) 21 = .ok (.aload_n 0, 1) := by decide +kernel
theorem d31_22 : decode (pm_c 31) 22 = .ok (.getfield 15, 3) := by decide +kernel
theorem d31_25 : decode (pm_c 31) 25 = .ok (.aload_n 0, 1) := by decide +kernel
theorem d31_26 : decode (pm_c 31) 26 = .ok (.getfield 30, 3) := by decide +kernel
theorem d31_29 : decode (pm_c 31) 29 = .ok (.iload_n 2, 1) := by decide +kernel
theorem d31_30 : decode (pm_c 31) 30 = .ok (.iastore, 1) := by decide +kernel
theorem d31_31 : decode (pm_c 31) 31 = .ok (.aload_n 0, 1) := by decide +kernel
theorem d31_32 : decode (pm_c 31) 32 = .ok (.dup, 1) := by decide +kernel
theorem d31_33 : decode (pm_c 31) 33 = .ok (.getfield 30, 3) := by decide +kernel
theorem d31_36 : decode (pm_c 31) 36 = .ok (.iconst 1, 1) := by decide +kernel
theorem d31_37 : decode (pm_c 31) 37 = .ok (.iadd, 1) := by decide +kernel
theorem d31_38 : decode (pm_c 31) 38 = .ok (.putfield 30, 3) := by decide +kernel
theorem d31_41 : decode (pm_c 31) 41 = .ok (.return_, 1) := by decide +kernel
theorem d32_0 : decode (pm_c 32) 0 = .ok (.iconst 0, 1) := by decide +kernel
theorem d32_1 : decode (pm_c 32) 1 = .ok (.istore_n 3, 1) := by decide +kernel
theorem d32_2 : decode (pm_c 32) 2 = .ok (.iload_n 3, 1) := by decide +kernel
theorem d32_3 : decode (pm_c 32) 3 = .ok (.aload_n 1, 1) := by decide +kernel
theorem d32_4 : decode (pm_c 32) 4 = .ok (.getfield 34, 3) := by decide +kernel
theorem d32_7 : decode (pm_c 32) 7 = .ok (.if_icmp .ge 21, 3) := by decide +kernel
theorem d32_10 : decode (pm_c 32) 10 = .ok (.aload_n 0, 1) := by decide +kernel
theorem d32_11 : decode (pm_c 32) 11 = .ok (.getfield 18, 3) := by decide +kernel
theorem d32_14 : decode (pm_c 32) 14 = .ok (.iload_n 3, 1) := by decide +kernel
theorem d32_15 : decode (pm_c 32) 15 = .ok (.aload_n 1, 1) := by decide +kernel
theorem d32_16 : decode (pm_c 32) 16 = .ok (.iload_n 3, 1) := by decide +kernel
theorem d32_17 : decode (pm_c 32) 17 = .ok (.iload_n 2, 1) := by decide +kernel
theorem d32_18 : decode (pm_c 32) 18 = .ok (.invokevirtual 39, 3) := by decide +kernel
theorem d32_21 : decode (pm_c 32) 21 = .ok (.iastore, 1) := by decide +kernel
theorem d32_22 : decode (pm_c 32) 22 = .ok (.iinc 3 1, 3) := by decide +kernel
theorem d32_25 : decode (pm_c 32) 25 = .ok (.goto (-23), 3) := by decide +kernel
theorem d32_28 : decode (pm_c 32) 28 = .ok (.return_, 1) := by decide +kernel
theorem d33_0 : decode (pm_c 33) 0 = .ok (.aload_n 0, 1) := by decide +kernel
theorem d33_1 : decode (pm_c 33) 1 = .ok (.getfield 30, 3) := by decide +kernel
theorem d33_4 : decode (pm_c 33) 4 = .ok (.ifCond .le 20, 3) := by decide +kernel
theorem d33_7 : decode (pm_c 33) 7 = .ok (.aload_n 0, 1) := by decide +kernel
theorem d33_8 : decode (pm_c 33) 8 = .ok (.getfield 18, 3) := by decide +kernel
theorem d33_11 : decode (pm_c 33) 11 = .ok (.aload_n 0, 1) := by decide +kernel
theorem d33_12 : decode (pm_c 33) 12 = .ok (.getfield 15, 3) := by decide +kernel
theorem d33_15 : decode (pm_c 33) 15 = .ok (.iconst 0, 1) := by decide +kernel
theorem d33_16 : decode (pm_c 33) 16 = .ok (.iaload, 1) := by decide +kernel
theorem d33_17 : decode (pm_c 33) 17 = .ok (.iaload, 1) := by decide +kernel
theorem d33_18 : decode (pm_c 33) 18 = .ok (.iload_n 2, 1) := by decide +kernel
theorem d33_19 : decode (pm_c 33) 19 = .ok (.if_icmp .le 5, 3) := by decide +kernel
theorem d33_22 : decode (pm_c 33) 22 = .ok (.iconst 0, 1) := by decide +kernel
theorem d33_23 : decode (pm_c 33) 23 = .ok (.ireturn, 1) := by decide +kernel
theorem d33_24 : decode (pm_c 33) 24 = .ok (.aload_n 0, 1) := by decide +kernel
theorem d33_25 : decode (pm_c 33) 25 = .ok (.invokevirtual 43, 3) := by decide +kernel
theorem d33_28 : decode (pm_c 33) 28 = .ok (.aload_n 0, 1) := by decide +kernel
theorem d33_29 : decode (pm_c 33) 29 = .ok (.getfield 30, 3) := by decide +kernel
theorem d33_32 : decode (pm_c 33) 32 = .ok (.iload_n 3, 1) := by decide +kernel
theorem d33_33 : decode (pm_c 33) 33 = .ok (.imul, 1) := by decide +kernel
theorem d33_34 : decode (pm_c 33) 34 = .ok (.iadd, 1) := by decide +kernel
theorem d33_35 : decode (pm_c 33) 35 = .ok (.iload_n 1, 1) := by decide +kernel
theorem d33_36 : decode (pm_c 33) 36 = .ok (.iload_n 2, 1) := by decide +kernel
theorem d33_37 : decode (pm_c 33) 37 = .ok (.iload_n 3, 1) := by decide +kernel
theorem d33_38 : decode (pm_c 33) 38 = .ok (.iadd, 1) := by decide +kernel
theorem d33_39 : decode (pm_c 33) 39 = .ok (.imul, 1) := by decide +kernel
theorem d33_40 : decode (pm_c 33) 40 = .ok (.if_icmp .le 5, 3) := by decide +kernel
theorem d33_43 : decode (pm_c 33) 43 = .ok (.iconst 0, 1) := by decide +kernel
theorem d33_44 : decode (pm_c 33) 44 = .ok (.ireturn, 1) := by decide +kernel
theorem d33_45 : decode (pm_c 33) 45 = .ok (.aload_n 0, 1) := by decide +kernel
theorem d33_46 : decode (pm_c 33) 46 = .ok (.iload_n 1, 1) := by decide +kernel
theorem d33_47 : decode (pm_c 33) 47 = .ok (.iload_n 2, 1) := by decide +kernel
theorem d33_48 : decode (pm_c 33) 48 = .ok (.iload_n 3, 1) := by decide +kernel
theorem d33_49 : decode (pm_c 33) 49 = .ok (.invokevirtual 47, 3) := by decide +kernel
theorem d33_52 : decode (pm_c 33) 52 = .ok (.ireturn, 1) := by decide +kernel
theorem d34_0 : decode (pm_c 34) 0 = .ok (.aload_n 0, 1) := by decide +kernel
theorem d34_1 : decode (pm_c 34) 1 = .ok (.iconst 0, 1) := by decide +kernel
theorem d34_2 : decode (pm_c 34) 2 = .ok (.putfield 51, 3) := by decide +kernel
theorem d34_5 : decode (pm_c 34) 5 = .ok (.iconst 0, 1) := by decide +kernel
theorem d34_6 : decode (pm_c 34) 6 = .ok (.istore 4, 2) := by decide +kernel
theorem d34_8 : decode (pm_c 34) 8 = .ok (.iconst 0, 1) := by decide +kernel
theorem d34_9 : decode (pm_c 34) 9 = .ok (.istore 5, 2) := by decide +kernel
theorem d34_11 : decode (pm_c 34) 11 = .ok (.iload 5, 2) := by decide +kernel
theorem d34_13 : decode (pm_c 34) 13 = .ok (.aload_n 0, 1) := by decide +kernel
theorem d34_14 : decode (pm_c 34) 14 = .ok (.getfield 30, 3) := by decide +kernel
theorem d34_17 : decode (pm_c 34) 17 = .ok (.if_icmp .ge 145, 3) := by decide +kernel
theorem d34_20 : decode (pm_c 34) 20 = .ok (.aload_n 0, 1) := by decide +kernel
theorem d34_21 : decode (pm_c 34) 21 = .ok (.getfield 18, 3) := by decide +kernel
theorem d34_24 : decode (pm_c 34) 24 = .ok (.aload_n 0, 1) := by decide +kernel
theorem d34_25 : decode (pm_c 34) 25 = .ok (.getfield 15, 3) := by decide +kernel
theorem d34_28 : decode (pm_c 34) 28 = .ok (.iload 5, 2) := by decide +kernel
theorem d34_30 : decode (pm_c 34) 30 = .ok (.iaload, 1) := by decide +kernel
theorem d34_31 : decode (pm_c 34) 31 = .ok (.iaload, 1) := by decide +kernel
theorem d34_32 : decode (pm_c 34) 32 = .ok (.istore 6, 2) := by decide +kernel
theorem d34_34 : decode (pm_c 34) 34 = .ok (.iload 5, 2) := by decide +kernel
theorem d34_36 : decode (pm_c 34) 36 = .ok (.ifCond .le 25, 3) := by decide +kernel
theorem d34_39 : decode (pm_c 34) 39 = .ok (.aload_n 0, 1) := by decide +kernel
theorem d34_40 : decode (pm_c 34) 40 = .ok (.getfield 15, 3) := by decide +kernel
theorem d34_43 : decode (pm_c 34) 43 = .ok (.iload 5, 2) := by decide +kernel
theorem d34_45 : decode (pm_c 34) 45 = .ok (.iaload, 1) := by decide +kernel
theorem d34_46 : decode (pm_c 34) 46 = .ok (.aload_n 0, 1) := by decide +kernel
theorem d34_47 : decode (pm_c 34) 47 = .ok (.getfield 15, 3) := by decide +kernel
theorem d34_50 : decode (pm_c 34) 50 = .ok (.iload 5, 2) := by decide +kernel
theorem d34_52 : decode (pm_c 34) 52 = .ok (.iconst 1, 1) := by decide +kernel
theorem d34_53 : decode (pm_c 34) 53 = .ok (.isub, 1) := by decide +kernel
theorem d34_54 : decode (pm_c 34) 54 = .ok (.iaload, 1) := by decide +kernel
theorem d34_55 : decode (pm_c 34) 55 = .ok (.if_icmp .eq 6, 3) := by decide +kernel
theorem d34_58 : decode (pm_c 34) 58 = .ok (.iconst 0, 1) := by decide +kernel
theorem d34_59 : decode (pm_c 34) 59 = .ok (.istore 4, 2) := by decide +kernel
theorem d34_61 : decode (pm_c 34) 61 = .ok (.iload 4, 2) := by decide +kernel
theorem d34_63 : decode (pm_c 34) 63 = .ok (.aload_n 0, 1) := by decide +kernel
theorem d34_64 : decode (pm_c 34) 64 = .ok (.getfield 51, 3) := by decide +kernel
theorem d34_67 : decode (pm_c 34) 67 = .ok (.if_icmp .ge 21, 3) := by decide +kernel
theorem d34_70 : decode (pm_c 34) 70 = .ok (.aload_n 0, 1) := by decide +kernel
theorem d34_71 : decode (pm_c 34) 71 = .ok (.getfield 21, 3) := by decide +kernel
theorem d34_74 : decode (pm_c 34) 74 = .ok (.iload 4, 2) := by decide +kernel
theorem d34_76 : decode (pm_c 34) 76 = .ok (.iaload, 1) := by decide +kernel
theorem d34_77 : decode (pm_c 34) 77 = .ok (.iload 6, 2) := by decide +kernel
theorem d34_79 : decode (pm_c 34) 79 = .ok (.if_icmp .ge 9, 3) := by decide +kernel
theorem d34_82 : decode (pm_c 34) 82 = .ok (.iinc 4 1, 3) := by decide +kernel
theorem d34_85 : decode (pm_c 34) 85 = .ok (.goto (-24), 3) := by decide +kernel
theorem d34_88 : decode (pm_c 34) 88 = .ok (.iload 4, 2) := by decide +kernel
theorem d34_90 : decode (pm_c 34) 90 = .ok (.aload_n 0, 1) := by decide +kernel
theorem d34_91 : decode (pm_c 34) 91 = .ok (.getfield 51, 3) := by decide +kernel
theorem d34_94 : decode (pm_c 34) 94 = .ok (.if_icmp .ne 14, 3) := by decide +kernel
theorem d34_97 : decode (pm_c 34) 97 = .ok (.aload_n 0, 1) := by decide +kernel
theorem d34_98 : decode (pm_c 34) 98 = .ok (.iload_n 1, 1) := by decide +kernel
theorem d34_99 : decode (pm_c 34) 99 = .ok (.iload_n 2, 1) := by decide +kernel
theorem d34_100 : decode (pm_c 34) 100 = .ok (.invokevirtual 54, 3) := by decide +kernel
theorem d34_103 : decode (pm_c 34) 103 = .ok (.ifCond .ne 5, 3) := by decide +kernel
theorem d34_106 : decode (pm_c 34) 106 = .ok (.iconst 0, 1) := by decide +kernel
theorem d34_107 : decode (pm_c 34) 107 = .ok (.ireturn, 1) := by decide +kernel
theorem d34_108 : decode (pm_c 34) 108 = .ok (.aload_n 0, 1) := by decide +kernel
theorem d34_109 : decode (pm_c 34) 109 = .ok (.getfield 21, 3) := by decide +kernel
theorem d34_112 : decode (pm_c 34) 112 = .ok (.iload 4, 2) := by decide +kernel
theorem d34_114 : decode (pm_c 34) 114 = .ok (.iconst 0, 1) := by decide +kernel
theorem d34_115 : decode (pm_c 34) 115 = .ok (.aload_n 0, 1) := by decide +kernel
theorem d34_116 : decode (pm_c 34) 116 = .ok (.getfield 21, 3) := by decide +kernel
theorem d34_119 : decode (pm_c 34) 119 = .ok (.iload 4, 2) := by decide +kernel
theorem d34_121 : decode (pm_c 34) 121 = .ok (.iaload, 1) := by decide +kernel
theorem d34_122 : decode (pm_c 34) 122 = .ok (.iload 6, 2) := by decide +kernel
theorem d34_124 : decode (pm_c 34) 124 = .ok (.isub, 1) := by decide +kernel
theorem d34_125 : decode (pm_c 34) 125 = .ok (.iload_n 3, 1) := by decide +kernel
theorem d34_126 : decode (pm_c 34) 126 = .ok (.isub, 1) := by decide +kernel
theorem d34_127 : decode (pm_c 34) 127 = .ok (.invokestatic 58, 3) := by decide +kernel
theorem d34_130 : decode (pm_c 34) 130 = .ok (.iastore, 1) := by decide +kernel
theorem d34_131 : decode (pm_c 34) 131 = .ok (.aload_n 0, 1) := by decide +kernel
theorem d34_132 : decode (pm_c 34) 132 = .ok (.getfield 24, 3) := by decide +kernel
theorem d34_135 : decode (pm_c 34) 135 = .ok (.iload 4, 2) := by decide +kernel
theorem d34_137 : decode (pm_c 34) 137 = .ok (.dup2, 1) := by decide +kernel
theorem d34_138 : decode (pm_c 34) 138 = .ok (.iaload, 1) := by decide +kernel
theorem d34_139 : decode (pm_c 34) 139 = .ok (.iconst 1, 1) := by decide +kernel
theorem d34_140 : decode (pm_c 34) 140 = .ok (.iadd, 1) := by decide +kernel
theorem d34_141 : decode (pm_c 34) 141 = .ok (.iastore, 1) := by decide +kernel
theorem d34_142 : decode (pm_c 34) 142 = .ok (.aload_n 0, 1) := by decide +kernel
theorem d34_143 : decode (pm_c 34) 143 = .ok (.getfield 27, 3) := by decide +kernel
theorem d34_146 : decode (pm_c 34) 146 = .ok (.aload_n 0, 1) := by decide +kernel
theorem d34_147 : decode (pm_c 34) 147 = .ok (.getfield 9, 3) := by decide +kernel
theorem d34_150 : decode (pm_c 34) 150 = .ok (.iload 5, 2) := by decide +kernel
theorem d34_152 : decode (pm_c 34) 152 = .ok (.iaload, 1) := by decide +kernel
theorem d34_153 : decode (pm_c 34) 153 = .ok (.iload 4, 2) := by decide +kernel
theorem d34_155 : decode (pm_c 34) 155 = .ok (.iastore, 1) := by decide +kernel
theorem d34_156 : decode (pm_c 34) 156 = .ok (.iinc 5 1, 3) := by decide +kernel
theorem d34_159 : decode (pm_c 34) 159 = .ok (.goto (-148), 3) := by decide +kernel
theorem d34_162 : decode (pm_c 34) 162 = .ok (.iconst 1, 1) := by decide +kernel
theorem d34_163 : decode (pm_c 34) 163 = .ok (.ireturn, 1) := by decide +kernel
theorem d35_0 : decode (pm_c 35) 0 = .ok (.aload_n 0, 1) := by decide +kernel
theorem d35_1 : decode (pm_c 35) 1 = .ok (.getfield 51, 3) := by decide +kernel
theorem d35_4 : decode (pm_c 35) 4 = .ok (.iload_n 1, 1) := by decide +kernel
theorem d35_5 : decode (pm_c 35) 5 = .ok (.if_icmp .ge 13, 3) := by decide +kernel
theorem d35_8 : decode (pm_c 35) 8 = .ok (.aload_n 0, 1) := by decide +kernel
theorem d35_9 : decode (pm_c 35) 9 = .ok (.getfield 51, 3) := by decide +kernel
theorem d35_12 : decode (pm_c 35) 12 = .ok (.sipush 432, 3) := by decide +kernel
theorem d35_15 : decode (pm_c 35) 15 = .ok (.if_icmp .lt 5, 3) := by decide +kernel
theorem d35_18 : decode (pm_c 35) 18 = .ok (.iconst 0, 1) := by decide +kernel
theorem d35_19 : decode (pm_c 35) 19 = .ok (.ireturn, 1) := by decide +kernel
theorem d35_20 : decode (pm_c 35) 20 = .ok (.aload_n 0, 1) := by decide +kernel
theorem d35_21 : decode (pm_c 35) 21 = .ok (.getfield 21, 3) := by decide +kernel
theorem d35_24 : decode (pm_c 35) 24 = .ok (.aload_n 0, 1) := by decide +kernel
theorem d35_25 : decode (pm_c 35) 25 = .ok (.getfield 51, 3) := by decide +kernel
theorem d35_28 : decode (pm_c 35) 28 = .ok (.iload_n 2, 1) := by decide +kernel
theorem d35_29 : decode (pm_c 35) 29 = .ok (.iastore, 1) := by decide +kernel
theorem d35_30 : decode (pm_c 35) 30 = .ok (.aload_n 0, 1) := by decide +kernel
theorem d35_31 : decode (pm_c 35) 31 = .ok (.getfield 24, 3) := by decide +kernel
theorem d35_34 : decode (pm_c 35) 34 = .ok (.aload_n 0, 1) := by decide +kernel
theorem d35_35 : decode (pm_c 35) 35 = .ok (.getfield 51, 3) := by decide +kernel
theorem d35_38 : decode (pm_c 35) 38 = .ok (.iconst 0, 1) := by decide +kernel
theorem d35_39 : decode (pm_c 35) 39 = .ok (.iastore, 1) := by decide +kernel
theorem d35_40 : decode (pm_c 35) 40 = .ok (.aload_n 0, 1) := by decide +kernel
theorem d35_41 : decode (pm_c 35) 41 = .ok (.dup, 1) := by decide +kernel
theorem d35_42 : decode (pm_c 35) 42 = .ok (.getfield 51, 3) := by decide +kernel
theorem d35_45 : decode (pm_c 35) 45 = .ok (.iconst 1, 1) := by decide +kernel
theorem d35_46 : decode (pm_c 35) 46 = .ok (.iadd, 1) := by decide +kernel
theorem d35_47 : decode (pm_c 35) 47 = .ok (.putfield 51, 3) := by decide +kernel
theorem d35_50 : decode (pm_c 35) 50 = .ok (.iconst 1, 1) := by decide +kernel
theorem d35_51 : decode (pm_c 35) 51 = .ok (.ireturn, 1) := by decide +kernel
theorem d36_0 : decode (pm_c 36) 0 = .ok (.iconst 0, 1) := by decide +kernel
theorem d36_1 : decode (pm_c 36) 1 = .ok (.istore_n 1, 1) := by decide +kernel
theorem d36_2 : decode (pm_c 36) 2 = .ok (.iconst 0, 1) := by decide +kernel
theorem d36_3 : decode (pm_c 36) 3 = .ok (.istore_n 2, 1) := by decide +kernel
theorem d36_4 : decode (pm_c 36) 4 = .ok (.iload_n 2, 1) := by decide +kernel
theorem d36_5 : decode (pm_c 36) 5 = .ok (.aload_n 0, 1) := by decide +kernel
theorem d36_6 : decode (pm_c 36) 6 = .ok (.getfield 30, 3) := by decide +kernel
theorem d36_9 : decode (pm_c 36) 9 = .ok (.if_icmp .ge 23, 3) := by decide +kernel
theorem d36_12 : decode (pm_c 36) 12 = .ok (.iload_n 1, 1) := by decide +kernel
theorem d36_13 : decode (pm_c 36) 13 = .ok (.aload_n 0, 1) := by decide +kernel
theorem d36_14 : decode (pm_c 36) 14 = .ok (.getfield 18, 3) := by decide +kernel
theorem d36_17 : decode (pm_c 36) 17 = .ok (.aload_n 0, 1) := by decide +kernel
theorem d36_18 : decode (pm_c 36) 18 = .ok (.getfield 15, 3) := by decide +kernel
theorem d36_21 : decode (pm_c 36) 21 = .ok (.iload_n 2, 1) := by decide +kernel
theorem d36_22 : decode (pm_c 36) 22 = .ok (.iaload, 1) := by decide +kernel
theorem d36_23 : decode (pm_c 36) 23 = .ok (.iaload, 1) := by decide +kernel
theorem d36_24 : decode (pm_c 36) 24 = .ok (.iadd, 1) := by decide +kernel
theorem d36_25 : decode (pm_c 36) 25 = .ok (.istore_n 1, 1) := by decide +kernel
theorem d36_26 : decode (pm_c 36) 26 = .ok (.iinc 2 1, 3) := by decide +kernel
theorem d36_29 : decode (pm_c 36) 29 = .ok (.goto (-25), 3) := by decide +kernel
theorem d36_32 : decode (pm_c 36) 32 = .ok (.iload_n 1, 1) := by decide +kernel
theorem d36_33 : decode (pm_c 36) 33 = .ok (.ireturn, 1) := by decide +kernel
theorem d37_0 : decode (pm_c 37) 0 = .ok (.iconst 0, 1) := by decide +kernel
theorem d37_1 : decode (pm_c 37) 1 = .ok (.istore_n 1, 1) := by decide +kernel
theorem d37_2 : decode (pm_c 37) 2 = .ok (.iconst 0, 1) := by decide +kernel
theorem d37_3 : decode (pm_c 37) 3 = .ok (.istore_n 2, 1) := by decide +kernel
theorem d37_4 : decode (pm_c 37) 4 = .ok (.iload_n 2, 1) := by decide +kernel
theorem d37_5 : decode (pm_c 37) 5 = .ok (.aload_n 0, 1) := by decide +kernel
theorem d37_6 : decode (pm_c 37) 6 = .ok (.getfield 51, 3) := by decide +kernel
theorem d37_9 : decode (pm_c 37) 9 = .ok (.if_icmp .ge 18, 3) := by decide +kernel
theorem d37_12 : decode (pm_c 37) 12 = .ok (.iload_n 1, 1) := by decide +kernel
theorem d37_13 : decode (pm_c 37) 13 = .ok (.aload_n 0, 1) := by decide +kernel
theorem d37_14 : decode (pm_c 37) 14 = .ok (.getfield 21, 3) := by decide +kernel
theorem d37_17 : decode (pm_c 37) 17 = .ok (.iload_n 2, 1) := by decide +kernel
theorem d37_18 : decode (pm_c 37) 18 = .ok (.iaload, 1) := by decide +kernel
theorem d37_19 : decode (pm_c 37) 19 = .ok (.iadd, 1) := by decide +kernel
theorem d37_20 : decode (pm_c 37) 20 = .ok (.istore_n 1, 1) := by decide +kernel
theorem d37_21 : decode (pm_c 37) 21 = .ok (.iinc 2 1, 3) := by decide +kernel
theorem d37_24 : decode (pm_c 37) 24 = .ok (.goto (-20), 3) := by decide +kernel
theorem d37_27 : decode (pm_c 37) 27 = .ok (.iload_n 1, 1) := by decide +kernel
theorem d37_28 : decode (pm_c 37) 28 = .ok (.ireturn, 1) := by decide +kernel
theorem d38_0 : decode (pm_c 38) 0 = .ok (.iconst 0, 1) := by decide +kernel
theorem d38_1 : decode (pm_c 38) 1 = .ok (.istore_n 1, 1) := by decide +kernel
theorem d38_2 : decode (pm_c 38) 2 = .ok (.iconst 0, 1) := by decide +kernel
theorem d38_3 : decode (pm_c 38) 3 = .ok (.istore_n 2, 1) := by decide +kernel
theorem d38_4 : decode (pm_c 38) 4 = .ok (.iload_n 2, 1) := by decide +kernel
theorem d38_5 : decode (pm_c 38) 5 = .ok (.aload_n 0, 1) := by decide +kernel
theorem d38_6 : decode (pm_c 38) 6 = .ok (.getfield 51, 3) := by decide +kernel
theorem d38_9 : decode (pm_c 38) 9 = .ok (.if_icmp .ge 20, 3) := by decide +kernel
theorem d38_12 : decode (pm_c 38) 12 = .ok (.iload_n 1, 1) := by decide +kernel
theorem d38_13 : decode (pm_c 38) 13 = .ok (.aload_n 0, 1) := by decide +kernel
theorem d38_14 : decode (pm_c 38) 14 = .ok (.getfield 24, 3) := by decide +kernel
theorem d38_17 : decode (pm_c 38) 17 = .ok (.iload_n 2, 1) := by decide +kernel
theorem d38_18 : decode (pm_c 38) 18 = .ok (.iaload, 1) := by decide +kernel
theorem d38_19 : decode (pm_c 38) 19 = .ok (.invokestatic 58, 3) := by decide +kernel
theorem d38_22 : decode (pm_c 38) 22 = .ok (.istore_n 1, 1) := by decide +kernel
theorem d38_23 : decode (pm_c 38) 23 = .ok (.iinc 2 1, 3) := by decide +kernel
theorem d38_26 : decode (pm_c 38) 26 = .ok (.goto (-22), 3) := by decide +kernel
theorem d38_29 : decode (pm_c 38) 29 = .ok (.iload_n 1, 1) := by decide +kernel
theorem d38_30 : decode (pm_c 38) 30 = .ok (.ireturn, 1) := by decide +kernel
theorem d40_0 : decode (pm_c 40) 0 = .ok (.aload_n 0, 1) := by decide +kernel
theorem d40_1 : decode (pm_c 40) 1 = .ok (.aload_n 1, 1) := by decide +kernel
theorem d40_2 : decode (pm_c 40) 2 = .ok (.getfield 9, 3) := by decide +kernel
theorem d40_5 : decode (pm_c 40) 5 = .ok (.putfield 9, 3) := by decide +kernel
theorem d40_8 : decode (pm_c 40) 8 = .ok (.aload_n 0, 1) := by decide +kernel
theorem d40_9 : decode (pm_c 40) 9 = .ok (.aload_n 1, 1) := by decide +kernel
theorem d40_10 : decode (pm_c 40) 10 = .ok (.getfield 15, 3) := by decide +kernel
theorem d40_13 : decode (pm_c 40) 13 = .ok (.putfield 15, 3) := by decide +kernel
theorem d40_16 : decode (pm_c 40) 16 = .ok (.aload_n 0, 1) := by decide +kernel
theorem d40_17 : decode (pm_c 40) 17 = .ok (.aload_n 1, 1) := by decide +kernel
theorem d40_18 : decode (pm_c 40) 18 = .ok (.getfield 18, 3) := by decide +kernel
theorem d40_21 : decode (pm_c 40) 21 = .ok (.putfield 18, 3) := by decide +kernel
theorem d40_24 : decode (pm_c 40) 24 = .ok (.aload_n 0, 1) := by decide +kernel
theorem d40_25 : decode (pm_c 40) 25 = .ok (.aload_n 1, 1) := by decide +kernel
theorem d40_26 : decode (pm_c 40) 26 = .ok (.getfield 21, 3) := by decide +kernel
theorem d40_29 : decode (pm_c 40) 29 = .ok (.putfield 21, 3) := by decide +kernel
theorem d40_32 : decode (pm_c 40) 32 = .ok (.aload_n 0, 1) := by decide +kernel
theorem d40_33 : decode (pm_c 40) 33 = .ok (.aload_n 1, 1) := by decide +kernel
theorem d40_34 : decode (pm_c 40) 34 = .ok (.getfield 24, 3) := by decide +kernel
theorem d40_37 : decode (pm_c 40) 37 = .ok (.putfield 24, 3) := by decide +kernel
theorem d40_40 : decode (pm_c 40) 40 = .ok (.aload_n 0, 1) := by decide +kernel
theorem d40_41 : decode (pm_c 40) 41 = .ok (.aload_n 1, 1) := by decide +kernel
theorem d40_42 : decode (pm_c 40) 42 = .ok (.getfield 27, 3) := by decide +kernel
theorem d40_45 : decode (pm_c 40) 45 = .ok (.putfield 27, 3) := by decide +kernel
theorem d40_48 : decode (pm_c 40) 48 = .ok (.aload_n 1, 1) := by decide +kernel
theorem d40_49 : decode (pm_c 40) 49 = .ok (.getfield 30, 3) := by decide +kernel
theorem d40_52 : decode (pm_c 40) 52 = .ok (.iconst 0, 1) := by decide +kernel
theorem d40_53 : decode (pm_c 40) 53 = .ok (.aload_n 0, 1) := by decide +kernel
theorem d40_54 : decode (pm_c 40) 54 = .ok (.getfield 30, 3) := by decide +kernel
theorem d40_57 : decode (pm_c 40) 57 = .ok (.iconst 0, 1) := by decide +kernel
theorem d40_58 : decode (pm_c 40) 58 = .ok (.sipush 432, 3) := by decide +kernel
theorem d40_61 : decode (pm_c 40) 61 = .ok (.invokestatic 34, 3) := by decide +kernel
theorem d40_64 : decode (pm_c 40) 64 = .ok (.return_, 1) := by decide +kernel
theorem d41_0 : decode (pm_c 41) 0 = .ok (.aload_n 0, 1) := by decide +kernel
theorem d41_1 : decode (pm_c 41) 1 = .ok (.getfield 30, 3) := by decide +kernel
theorem d41_4 : decode (pm_c 41) 4 = .ok (.iload_n 1, 1) := by decide +kernel
theorem d41_5 : decode (pm_c 41) 5 = .ok (.iconst 1, 1) := by decide +kernel
theorem d41_6 : decode (pm_c 41) 6 = .ok (.bastore, 1) := by decide +kernel
theorem d41_7 : decode (pm_c 41) 7 = .ok (.aload_n 0, 1) := by decide +kernel
theorem d41_8 : decode (pm_c 41) 8 = .ok (.dup, 1) := by decide +kernel
theorem d41_9 : decode (pm_c 41) 9 = .ok (.getfield 27, 3) := by decide +kernel
theorem d41_12 : decode (pm_c 41) 12 = .ok (.iconst 1, 1) := by decide +kernel
theorem d41_13 : decode (pm_c 41) 13 = .ok (.iadd, 1) := by decide +kernel
theorem d41_14 : decode (pm_c 41) 14 = .ok (.putfield 27, 3) := by decide +kernel
theorem d41_17 : decode (pm_c 41) 17 = .ok (.return_, 1) := by decide +kernel
theorem d42_0 : decode (pm_c 42) 0 = .ok (.aload_n 0, 1) := by decide +kernel
theorem d42_1 : decode (pm_c 42) 1 = .ok (.getfield 30, 3) := by decide +kernel
theorem d42_4 : decode (pm_c 42) 4 = .ok (.iload_n 1, 1) := by decide +kernel
theorem d42_5 : decode (pm_c 42) 5 = .ok (.iconst 0, 1) := by decide +kernel
theorem d42_6 : decode (pm_c 42) 6 = .ok (.bastore, 1) := by decide +kernel
theorem d42_7 : decode (pm_c 42) 7 = .ok (.aload_n 0, 1) := by decide +kernel
theorem d42_8 : decode (pm_c 42) 8 = .ok (.dup, 1) := by decide +kernel
theorem d42_9 : decode (pm_c 42) 9 = .ok (.getfield 27, 3) := by decide +kernel
theorem d42_12 : decode (pm_c 42) 12 = .ok (.iconst 1, 1) := by decide +kernel
theorem d42_13 : decode (pm_c 42) 13 = .ok (.isub, 1) := by decide +kernel
theorem d42_14 : decode (pm_c 42) 14 = .ok (.putfield 27, 3) := by decide +kernel
theorem d42_17 : decode (pm_c 42) 17 = .ok (.return_, 1) := by decide +kernel
theorem d43_0 : decode (pm_c 43) 0 = .ok (.iconst 0, 1) := by decide +kernel
theorem d43_1 : decode (pm_c 43) 1 = .ok (.istore_n 1, 1) := by decide +kernel
theorem d43_2 : decode (pm_c 43) 2 = .ok (.iload_n 1, 1) := by decide +kernel
theorem d43_3 : decode (pm_c 43) 3 = .ok (.sipush 432, 3) := by decide +kernel
theorem d43_6 : decode (pm_c 43) 6 = .ok (.if_icmp .ge 16, 3) := by decide +kernel
theorem d43_9 : decode (pm_c 43) 9 = .ok (.aload_n 0, 1) := by decide +kernel
theorem d43_10 : decode (pm_c 43) 10 = .ok (.getfield 30, 3) := by decide +kernel
theorem d43_13 : decode (pm_c 43) 13 = .ok (.iload_n 1, 1) := by decide +kernel
theorem d43_14 : decode (pm_c 43) 14 = .ok (.iconst 0, 1) := by decide +kernel
theorem d43_15 : decode (pm_c 43) 15 = .ok (.bastore, 1) := by decide +kernel
theorem d43_16 : decode (pm_c 43) 16 = .ok (.iinc 1 1, 3) := by decide +kernel
theorem d43_19 : decode (pm_c 43) 19 = .ok (.goto (-17), 3) := by decide +kernel
theorem d43_22 : decode (pm_c 43) 22 = .ok (.aload_n 0, 1) := by decide +kernel
theorem d43_23 : decode (pm_c 43) 23 = .ok (.iconst 0, 1) := by decide +kernel
theorem d43_24 : decode (pm_c 43) 24 = .ok (.putfield 27, 3) := by decide +kernel
theorem d43_27 : decode (pm_c 43) 27 = .ok (.return_, 1) := by decide +kernel
theorem d45_0 : decode (pm_c 45) 0 = .ok (.aload_n 0, 1) := by decide +kernel
theorem d45_1 : decode (pm_c 45) 1 = .ok (.iconst 0, 1) := by decide +kernel
theorem d45_2 : decode (pm_c 45) 2 = .ok (.putfield 27, 3) := by decide +kernel
theorem d45_5 : decode (pm_c 45) 5 = .ok (.aload_n 0, 1) := by decide +kernel
theorem d45_6 : decode (pm_c 45) 6 = .ok (.getfield 18, 3) := by decide +kernel
theorem d45_9 : decode (pm_c 45) 9 = .ok (.iconst 0, 1) := by decide +kernel
theorem d45_10 : decode (pm_c 45) 10 = .ok (.invokestatic 31, 3) := by decide +kernel
theorem d45_13 : decode (pm_c 45) 13 = .ok (.iconst 0, 1) := by decide +kernel
theorem d45_14 : decode (pm_c 45) 14 = .ok (.istore_n 2, 1) := by decide +kernel
theorem d45_15 : decode (pm_c 45) 15 = .ok (.iload_n 2, 1) := by decide +kernel
theorem d45_16 : decode (pm_c 45) 16 = .ok (.aload_n 1, 1) := by decide +kernel
theorem d45_17 : decode (pm_c 45) 17 = .ok (.getfield 37, 3) := by decide +kernel
theorem d45_20 : decode (pm_c 45) 20 = .ok (.if_icmp .ge 42, 3) := by decide +kernel
theorem d45_23 : decode (pm_c 45) 23 = .ok (.iload_n 2, 1) := by decide +kernel
theorem d45_24 : decode (pm_c 45) 24 = .ok (.iconst 1, 1) := by decide +kernel
theorem d45_25 : decode (pm_c 45) 25 = .ok (.iadd, 1) := by decide +kernel
theorem d45_26 : decode (pm_c 45) 26 = .ok (.istore_n 3, 1) := by decide +kernel
theorem d45_27 : decode (pm_c 45) 27 = .ok (.iload_n 3, 1) := by decide +kernel
theorem d45_28 : decode (pm_c 45) 28 = .ok (.aload_n 1, 1) := by decide +kernel
theorem d45_29 : decode (pm_c 45) 29 = .ok (.getfield 37, 3) := by decide +kernel
theorem d45_32 : decode (pm_c 45) 32 = .ok (.if_icmp .ge 24, 3) := by decide +kernel
theorem d45_35 : decode (pm_c 45) 35 = .ok (.aload_n 1, 1) := by decide +kernel
theorem d45_36 : decode (pm_c 45) 36 = .ok (.iload_n 2, 1) := by decide +kernel
theorem d45_37 : decode (pm_c 45) 37 = .ok (.iload_n 3, 1) := by decide +kernel
theorem d45_38 : decode (pm_c 45) 38 = .ok (.invokevirtual 40, 3) := by decide +kernel
theorem d45_41 : decode (pm_c 45) 41 = .ok (.ifCond .eq 9, 3) := by decide +kernel
theorem d45_44 : decode (pm_c 45) 44 = .ok (.aload_n 0, 1) := by decide +kernel
theorem d45_45 : decode (pm_c 45) 45 = .ok (.iload_n 2, 1) := by decide +kernel
theorem d45_46 : decode (pm_c 45) 46 = .ok (.iload_n 3, 1) := by decide +kernel
theorem d45_47 : decode (pm_c 45) 47 = .ok (.invokevirtual 44, 3) := by decide +kernel
theorem d45_50 : decode (pm_c 45) 50 = .ok (.iinc 3 1, 3) := by decide +kernel
theorem d45_53 : decode (pm_c 45) 53 = .ok (.goto (-26), 3) := by decide +kernel
theorem d45_56 : decode (pm_c 45) 56 = .ok (.iinc 2 1, 3) := by decide +kernel
theorem d45_59 : decode (pm_c 45) 59 = .ok (.goto (-44), 3) := by decide +kernel
theorem d45_62 : decode (pm_c 45) 62 = .ok (.return_, 1) := by decide +kernel
theorem d46_0 : decode (pm_c 46) 0 = .ok (.aload_n 0, 1) := by decide +kernel
theorem d46_1 : decode (pm_c 46) 1 = .ok (.getfield 27, 3) := by decide +kernel
theorem d46_4 : decode (pm_c 46) 4 = .ok (.sipush 432, 3) := by decide +kernel
theorem d46_7 : decode (pm_c 46) 7 = .ok (.if_icmp .ge 25, 3) := by decide +kernel
theorem d46_10 : decode (pm_c 46) 10 = .ok (.aload_n 0, 1) := by decide +kernel
theorem d46_11 : decode (pm_c 46) 11 = .ok (.getfield 18, 3) := by decide +kernel
theorem d46_14 : decode (pm_c 46) 14 = .ok (.iload_n 1, 1) := by decide +kernel
theorem d46_15 : decode (pm_c 46) 15 = .ok (.iaload, 1) := by decide +kernel
theorem d46_16 : decode (pm_c 46) 16 = .ok (.bipush 6, 2) := by decide +kernel
theorem d46_18 : decode (pm_c 46) 18 = .ok (.if_icmp .ge 14, 3) := by decide +kernel
theorem d46_21 : decode (pm_c 46) 21 = .ok (.aload_n 0, 1) := by decide +kernel
theorem d46_22 : decode (pm_c 46) 22 = .ok (.getfield 18, 3) := by decide +kernel
theorem d46_25 : decode (pm_c 46) 25 = .ok (.iload_n 2, 1) := by decide +kernel
theorem d46_26 : decode (pm_c 46) 26 = .ok (.iaload, 1) := by decide +kernel
theorem d46_27 : decode (pm_c 46) 27 = .ok (.bipush 6, 2) := by decide +kernel
theorem d46_29 : decode (pm_c 46) 29 = .ok (.if_icmp .lt 4, 3) := by decide +kernel
theorem d46_32 : decode (pm_c 46) 32 = .ok (.return_, 1) := by decide +kernel
theorem d46_33 : decode (pm_c 46) 33 = .ok (.aload_n 0, 1) := by decide +kernel
theorem d46_34 : decode (pm_c 46) 34 = .ok (.getfield 9, 3) := by decide +kernel
theorem d46_37 : decode (pm_c 46) 37 = .ok (.aload_n 0, 1) := by decide +kernel
theorem d46_38 : decode (pm_c 46) 38 = .ok (.getfield 27, 3) := by decide +kernel
theorem d46_41 : decode (pm_c 46) 41 = .ok (.iload_n 1, 1) := by decide +kernel
theorem d46_42 : decode (pm_c 46) 42 = .ok (.iastore, 1) := by decide +kernel
theorem d46_43 : decode (pm_c 46) 43 = .ok (.aload_n 0, 1) := by decide +kernel
theorem d46_44 : decode (pm_c 46) 44 = .ok (.getfield 15, 3) := by decide +kernel
theorem d46_47 : decode (pm_c 46) 47 = .ok (.aload_n 0, 1) := by decide +kernel
theorem d46_48 : decode (pm_c 46) 48 = .ok (.getfield 27, 3) := by decide +kernel
theorem d46_51 : decode (pm_c 46) 51 = .ok (.iload_n 2, 1) := by decide +kernel
theorem d46_52 : decode (pm_c 46) 52 = .ok (.iastore, 1) := by decide +kernel
theorem d46_53 : decode (pm_c 46) 53 = .ok (.aload_n 0, 1) := by decide +kernel
theorem d46_54 : decode (pm_c 46) 54 = .ok (.iload_n 1, 1) := by decide +kernel
theorem d46_55 : decode (pm_c 46) 55 = .ok (.iload_n 2, 1) := by decide +kernel
theorem d46_56 : decode (pm_c 46) 56 = .ok (.invokevirtual 48, 3) := by decide +kernel
theorem d46_59 : decode (pm_c 46) 59 = .ok (.aload_n 0, 1) := by decide +kernel
theorem d46_60 : decode (pm_c 46) 60 = .ok (.iload_n 2, 1) := by decide +kernel
theorem d46_61 : decode (pm_c 46) 61 = .ok (.iload_n 1, 1) := by decide +kernel
theorem d46_62 : decode (pm_c 46) 62 = .ok (.invokevirtual 48, 3) := by decide +kernel
theorem d46_65 : decode (pm_c 46) 65 = .ok (.aload_n 0, 1) := by decide +kernel
theorem d46_66 : decode (pm_c 46) 66 = .ok (.dup, 1) := by decide +kernel
theorem d46_67 : decode (pm_c 46) 67 = .ok (.getfield 27, 3) := by decide +kernel
theorem d46_70 : decode (pm_c 46) 70 = .ok (.iconst 1, 1) := by decide +kernel
theorem d46_71 : decode (pm_c 46) 71 = .ok (.iadd, 1) := by decide +kernel
theorem d46_72 : decode (pm_c 46) 72 = .ok (.putfield 27, 3) := by decide +kernel
theorem d46_75 : decode (pm_c 46) 75 = .ok (.return_, 1) := by decide +kernel
theorem d47_0 : decode (pm_c 47) 0 = .ok (.iload_n 1, 1) := by decide +kernel
theorem d47_1 : decode (pm_c 47) 1 = .ok (.bipush 6, 2) := by decide +kernel
theorem d47_3 : decode (pm_c 47) 3 = .ok (.imul, 1) := by decide +kernel
theorem d47_4 : decode (pm_c 47) 4 = .ok (.aload_n 0, 1) := by decide +kernel
theorem d47_5 : decode (pm_c 47) 5 = .ok (.getfield 18, 3) := by decide +kernel
theorem d47_8 : decode (pm_c 47) 8 = .ok (.iload_n 1, 1) := by decide +kernel
theorem d47_9 : decode (pm_c 47) 9 = .ok (.iaload, 1) := by decide +kernel
theorem d47_10 : decode (pm_c 47) 10 = .ok (.iadd, 1) := by decide +kernel
theorem d47_11 : decode (pm_c 47) 11 = .ok (.istore_n 3, 1) := by decide +kernel
theorem d47_12 : decode (pm_c 47) 12 = .ok (.aload_n 0, 1) := by decide +kernel
theorem d47_13 : decode (pm_c 47) 13 = .ok (.getfield 21, 3) := by decide +kernel
theorem d47_16 : decode (pm_c 47) 16 = .ok (.iload_n 3, 1) := by decide +kernel
theorem d47_17 : decode (pm_c 47) 17 = .ok (.iload_n 2, 1) := by decide +kernel
theorem d47_18 : decode (pm_c 47) 18 = .ok (.iastore, 1) := by decide +kernel
theorem d47_19 : decode (pm_c 47) 19 = .ok (.aload_n 0, 1) := by decide +kernel
theorem d47_20 : decode (pm_c 47) 20 = .ok (.getfield 24, 3) := by decide +kernel
theorem d47_23 : decode (pm_c 47) 23 = .ok (.iload_n 3, 1) := by decide +kernel
theorem d47_24 : decode (pm_c 47) 24 = .ok (.aload_n 0, 1) := by decide +kernel
theorem d47_25 : decode (pm_c 47) 25 = .ok (.getfield 27, 3) := by decide +kernel
theorem d47_28 : decode (pm_c 47) 28 = .ok (.iastore, 1) := by decide +kernel
theorem d47_29 : decode (pm_c 47) 29 = .ok (.aload_n 0, 1) := by decide +kernel
theorem d47_30 : decode (pm_c 47) 30 = .ok (.getfield 18, 3) := by decide +kernel
theorem d47_33 : decode (pm_c 47) 33 = .ok (.iload_n 1, 1) := by decide +kernel
theorem d47_34 : decode (pm_c 47) 34 = .ok (.dup2, 1) := by decide +kernel
theorem d47_35 : decode (pm_c 47) 35 = .ok (.iaload, 1) := by decide +kernel
theorem d47_36 : decode (pm_c 47) 36 = .ok (.iconst 1, 1) := by decide +kernel
theorem d47_37 : decode (pm_c 47) 37 = .ok (.iadd, 1) := by decide +kernel
theorem d47_38 : decode (pm_c 47) 38 = .ok (.iastore, 1) := by decide +kernel
theorem d47_39 : decode (pm_c 47) 39 = .ok (.return_, 1) := by decide +kernel
theorem d48_0 : decode (pm_c 48) 0 = .ok (.iconst 0, 1) := by decide +kernel
theorem d48_1 : decode (pm_c 48) 1 = .ok (.istore_n 3, 1) := by decide +kernel
theorem d48_2 : decode (pm_c 48) 2 = .ok (.iload_n 3, 1) := by decide +kernel
theorem d48_3 : decode (pm_c 48) 3 = .ok (.aload_n 0, 1) := by decide +kernel
theorem d48_4 : decode (pm_c 48) 4 = .ok (.getfield 18, 3) := by decide +kernel
theorem d48_7 : decode (pm_c 48) 7 = .ok (.iload_n 1, 1) := by decide +kernel
theorem d48_8 : decode (pm_c 48) 8 = .ok (.iaload, 1) := by decide +kernel
theorem d48_9 : decode (pm_c 48) 9 = .ok (.if_icmp .ge 36, 3) := by decide +kernel
theorem d48_12 : decode (pm_c 48) 12 = .ok (.aload_n 0, 1) := by decide +kernel
theorem d48_13 : decode (pm_c 48) 13 = .ok (.getfield 21, 3) := by decide +kernel
theorem d48_16 : decode (pm_c 48) 16 = .ok (.iload_n 1, 1) := by decide +kernel
theorem d48_17 : decode (pm_c 48) 17 = .ok (.bipush 6, 2) := by decide +kernel
theorem d48_19 : decode (pm_c 48) 19 = .ok (.imul, 1) := by decide +kernel
theorem d48_20 : decode (pm_c 48) 20 = .ok (.iload_n 3, 1) := by decide +kernel
theorem d48_21 : decode (pm_c 48) 21 = .ok (.iadd, 1) := by decide +kernel
theorem d48_22 : decode (pm_c 48) 22 = .ok (.iaload, 1) := by decide +kernel
theorem d48_23 : decode (pm_c 48) 23 = .ok (.iload_n 2, 1) := by decide +kernel
theorem d48_24 : decode (pm_c 48) 24 = .ok (.if_icmp .ne 15, 3) := by decide +kernel
theorem d48_27 : decode (pm_c 48) 27 = .ok (.aload_n 0, 1) := by decide +kernel
theorem d48_28 : decode (pm_c 48) 28 = .ok (.getfield 24, 3) := by decide +kernel
theorem d48_31 : decode (pm_c 48) 31 = .ok (.iload_n 1, 1) := by decide +kernel
theorem d48_32 : decode (pm_c 48) 32 = .ok (.bipush 6, 2) := by decide +kernel
theorem d48_34 : decode (pm_c 48) 34 = .ok (.imul, 1) := by decide +kernel
theorem d48_35 : decode (pm_c 48) 35 = .ok (.iload_n 3, 1) := by decide +kernel
theorem d48_36 : decode (pm_c 48) 36 = .ok (.iadd, 1) := by decide +kernel
theorem d48_37 : decode (pm_c 48) 37 = .ok (.iaload, 1) := by decide +kernel
theorem d48_38 : decode (pm_c 48) 38 = .ok (.ireturn, 1) := by decide +kernel
theorem d48_39 : decode (pm_c 48) 39 = .ok (.iinc 3 1, 3) := by decide +kernel
theorem d48_42 : decode (pm_c 48) 42 = .ok (.goto (-40), 3) := by decide +kernel
theorem d48_45 : decode (pm_c 48) 45 = .ok (.iconst (-1), 1) := by decide +kernel
theorem d48_46 : decode (pm_c 48) 46 = .ok (.ireturn, 1) := by decide +kernel
theorem d59_0 : decode (pm_c 59) 0 = .ok (.iload_n 1, 1) := by decide +kernel
theorem d59_1 : decode (pm_c 59) 1 = .ok (.iconst 1, 1) := by decide +kernel
theorem d59_2 : decode (pm_c 59) 2 = .ok (.bipush 6, 2) := by decide +kernel
theorem d59_4 : decode (pm_c 59) 4 = .ok (.invokestatic 86, 3) := by decide +kernel
theorem d59_7 : decode (pm_c 59) 7 = .ok (.ifCond .ne 7, 3) := by decide +kernel
theorem d59_10 : decode (pm_c 59) 10 = .ok (.sipush (-1001), 3) := by decide +kernel
theorem d59_13 : decode (pm_c 59) 13 = .ok (.ireturn, 1) := by decide +kernel
theorem d59_14 : decode (pm_c 59) 14 = .ok (.aload_n 0, 1) := by decide +kernel
theorem d59_15 : decode (pm_c 59) 15 = .ok (.getfield 47, 3) := by decide +kernel
theorem d59_18 : decode (pm_c 59) 18 = .ok (.aload_n 0, 1) := by decide +kernel
theorem d59_19 : decode (pm_c 59) 19 = .ok (.getfield 40, 3) := by decide +kernel
theorem d59_22 : decode (pm_c 59) 22 = .ok (.invokevirtual 90, 3) := by decide +kernel
theorem d59_25 : decode (pm_c 59) 25 = .ok (.aload_n 0, 1) := by decide +kernel
theorem d59_26 : decode (pm_c 59) 26 = .ok (.getfield 40, 3) := by decide +kernel
theorem d59_29 : decode (pm_c 59) 29 = .ok (.iload_n 1, 1) := by decide +kernel
theorem d59_30 : decode (pm_c 59) 30 = .ok (.putfield 94, 3) := by decide +kernel
theorem d59_33 : decode (pm_c 59) 33 = .ok (.aload_n 0, 1) := by decide +kernel
theorem d59_34 : decode (pm_c 59) 34 = .ok (.getfield 40, 3) := by decide +kernel
theorem d59_37 : decode (pm_c 59) 37 = .ok (.iload_n 1, 1) := by decide +kernel
theorem d59_38 : decode (pm_c 59) 38 = .ok (.ineg, 1) := by decide +kernel
theorem d59_39 : decode (pm_c 59) 39 = .ok (.putfield 98, 3) := by decide +kernel
theorem d59_42 : decode (pm_c 59) 42 = .ok (.aload_n 0, 1) := by decide +kernel
theorem d59_43 : decode (pm_c 59) 43 = .ok (.getfield 40, 3) := by decide +kernel
theorem d59_46 : decode (pm_c 59) 46 = .ok (.invokevirtual 101, 3) := by decide +kernel
theorem d59_49 : decode (pm_c 59) 49 = .ok (.aload_n 0, 1) := by decide +kernel
theorem d59_50 : decode (pm_c 59) 50 = .ok (.invokevirtual 83, 3) := by decide +kernel
theorem d59_53 : decode (pm_c 59) 53 = .ok (.aload_n 0, 1) := by decide +kernel
theorem d59_54 : decode (pm_c 59) 54 = .ok (.getfield 12, 3) := by decide +kernel
theorem d59_57 : decode (pm_c 59) 57 = .ok (.getfield 104, 3) := by decide +kernel
theorem d59_60 : decode (pm_c 59) 60 = .ok (.ireturn, 1) := by decide +kernel
theorem d60_0 : decode (pm_c 60) 0 = .ok (.iload_n 1, 1) := by decide +kernel
theorem d60_1 : decode (pm_c 60) 1 = .ok (.bipush 10, 2) := by decide +kernel
theorem d60_3 : decode (pm_c 60) 3 = .ok (.sipush 2000, 3) := by decide +kernel
theorem d60_6 : decode (pm_c 60) 6 = .ok (.invokestatic 86, 3) := by decide +kernel
theorem d60_9 : decode (pm_c 60) 9 = .ok (.ifCond .ne 7, 3) := by decide +kernel
theorem d60_12 : decode (pm_c 60) 12 = .ok (.sipush (-1001), 3) := by decide +kernel
theorem d60_15 : decode (pm_c 60) 15 = .ok (.ireturn, 1) := by decide +kernel
theorem d60_16 : decode (pm_c 60) 16 = .ok (.aload_n 0, 1) := by decide +kernel
theorem d60_17 : decode (pm_c 60) 17 = .ok (.getfield 47, 3) := by decide +kernel
theorem d60_20 : decode (pm_c 60) 20 = .ok (.aload_n 0, 1) := by decide +kernel
theorem d60_21 : decode (pm_c 60) 21 = .ok (.getfield 40, 3) := by decide +kernel
theorem d60_24 : decode (pm_c 60) 24 = .ok (.invokevirtual 90, 3) := by decide +kernel
theorem d60_27 : decode (pm_c 60) 27 = .ok (.aload_n 0, 1) := by decide +kernel
theorem d60_28 : decode (pm_c 60) 28 = .ok (.getfield 40, 3) := by decide +kernel
theorem d60_31 : decode (pm_c 60) 31 = .ok (.getfield 107, 3) := by decide +kernel
theorem d60_34 : decode (pm_c 60) 34 = .ok (.istore_n 2, 1) := by decide +kernel
theorem d60_35 : decode (pm_c 60) 35 = .ok (.aload_n 0, 1) := by decide +kernel
theorem d60_36 : decode (pm_c 60) 36 = .ok (.getfield 40, 3) := by decide +kernel
theorem d60_39 : decode (pm_c 60) 39 = .ok (.iload_n 1, 1) := by decide +kernel
theorem d60_40 : decode (pm_c 60) 40 = .ok (.putfield 107, 3) := by decide +kernel
theorem d60_43 : decode (pm_c 60) 43 = .ok (.iload_n 2, 1) := by decide +kernel
theorem d60_44 : decode (pm_c 60) 44 = .ok (.ireturn, 1) := by decide +kernel
theorem d61_0 : decode (pm_c 61) 0 = .ok (.iload_n 1, 1) := by decide +kernel
theorem d61_1 : decode (pm_c 61) 1 = .ok (.aload_n 0, 1) := by decide +kernel
theorem d61_2 : decode (pm_c 61) 2 = .ok (.getfield 40, 3) := by decide +kernel
theorem d61_5 : decode (pm_c 61) 5 = .ok (.getfield 94, 3) := by decide +kernel
theorem d61_8 : decode (pm_c 61) 8 = .ok (.ineg, 1) := by decide +kernel
theorem d61_9 : decode (pm_c 61) 9 = .ok (.aload_n 0, 1) := by decide +kernel
theorem d61_10 : decode (pm_c 61) 10 = .ok (.getfield 40, 3) := by decide +kernel
theorem d61_13 : decode (pm_c 61) 13 = .ok (.getfield 94, 3) := by decide +kernel
theorem d61_16 : decode (pm_c 61) 16 = .ok (.invokestatic 86, 3) := by decide +kernel
theorem d61_19 : decode (pm_c 61) 19 = .ok (.ifCond .ne 7, 3) := by decide +kernel
theorem d61_22 : decode (pm_c 61) 22 = .ok (.sipush (-1001), 3) := by decide +kernel
theorem d61_25 : decode (pm_c 61) 25 = .ok (.ireturn, 1) := by decide +kernel
theorem d61_26 : decode (pm_c 61) 26 = .ok (.aload_n 0, 1) := by decide +kernel
theorem d61_27 : decode (pm_c 61) 27 = .ok (.getfield 47, 3) := by decide +kernel
theorem d61_30 : decode (pm_c 61) 30 = .ok (.aload_n 0, 1) := by decide +kernel
theorem d61_31 : decode (pm_c 61) 31 = .ok (.getfield 40, 3) := by decide +kernel
theorem d61_34 : decode (pm_c 61) 34 = .ok (.invokevirtual 90, 3) := by decide +kernel
theorem d61_37 : decode (pm_c 61) 37 = .ok (.aload_n 0, 1) := by decide +kernel
theorem d61_38 : decode (pm_c 61) 38 = .ok (.getfield 40, 3) := by decide +kernel
theorem d61_41 : decode (pm_c 61) 41 = .ok (.iload_n 1, 1) := by decide +kernel
theorem d61_42 : decode (pm_c 61) 42 = .ok (.putfield 98, 3) := by decide +kernel
theorem d61_45 : decode (pm_c 61) 45 = .ok (.aload_n 0, 1) := by decide +kernel
theorem d61_46 : decode (pm_c 61) 46 = .ok (.invokevirtual 110, 3) := by decide +kernel
theorem d61_49 : decode (pm_c 61) 49 = .ok (.ireturn, 1) := by decide +kernel
theorem d62_0 : decode (pm_c 62) 0 = .ok (.iload_n 1, 1) := by decide +kernel
theorem d62_1 : decode (pm_c 62) 1 = .ok (.bipush 100, 2) := by decide +kernel
theorem d62_3 : decode (pm_c 62) 3 = .ok (.sipush 20000, 3) := by decide +kernel
theorem d62_6 : decode (pm_c 62) 6 = .ok (.invokestatic 86, 3) := by decide +kernel
theorem d62_9 : decode (pm_c 62) 9 = .ok (.ifCond .eq 13, 3) := by decide +kernel
theorem d62_12 : decode (pm_c 62) 12 = .ok (.iload_n 2, 1) := by decide +kernel
theorem d62_13 : decode (pm_c 62) 13 = .ok (.iconst 0, 1) := by decide +kernel
theorem d62_14 : decode (pm_c 62) 14 = .ok (.bipush 20, 2) := by decide +kernel
theorem d62_16 : decode (pm_c 62) 16 = .ok (.invokestatic 86, 3) := by decide +kernel
theorem d62_19 : decode (pm_c 62) 19 = .ok (.ifCond .ne 7, 3) := by decide +kernel
theorem d62_22 : decode (pm_c 62) 22 = .ok (.sipush (-1001), 3) := by decide +kernel
theorem d62_25 : decode (pm_c 62) 25 = .ok (.ireturn, 1) := by decide +kernel
theorem d62_26 : decode (pm_c 62) 26 = .ok (.aload_n 0, 1) := by decide +kernel
theorem d62_27 : decode (pm_c 62) 27 = .ok (.iload_n 1, 1) := by decide +kernel
theorem d62_28 : decode (pm_c 62) 28 = .ok (.iload_n 2, 1) := by decide +kernel
theorem d62_29 : decode (pm_c 62) 29 = .ok (.invokevirtual 114, 3) := by decide +kernel
theorem d62_32 : decode (pm_c 62) 32 = .ok (.ifCond .ne 7, 3) := by decide +kernel
theorem d62_35 : decode (pm_c 62) 35 = .ok (.sipush (-1002), 3) := by decide +kernel
theorem d62_38 : decode (pm_c 62) 38 = .ok (.ireturn, 1) := by decide +kernel
theorem d62_39 : decode (pm_c 62) 39 = .ok (.aload_n 0, 1) := by decide +kernel
theorem d62_40 : decode (pm_c 62) 40 = .ok (.getfield 47, 3) := by decide +kernel
theorem d62_43 : decode (pm_c 62) 43 = .ok (.aload_n 0, 1) := by decide +kernel
theorem d62_44 : decode (pm_c 62) 44 = .ok (.getfield 40, 3) := by decide +kernel
theorem d62_47 : decode (pm_c 62) 47 = .ok (.invokevirtual 90, 3) := by decide +kernel
theorem d62_50 : decode (pm_c 62) 50 = .ok (.aload_n 0, 1) := by decide +kernel
theorem d62_51 : decode (pm_c 62) 51 = .ok (.getfield 40, 3) := by decide +kernel
theorem d62_54 : decode (pm_c 62) 54 = .ok (.iload_n 1, 1) := by decide +kernel
theorem d62_55 : decode (pm_c 62) 55 = .ok (.putfield 118, 3) := by decide +kernel
theorem d62_58 : decode (pm_c 62) 58 = .ok (.aload_n 0, 1) := by decide +kernel
theorem d62_59 : decode (pm_c 62) 59 = .ok (.getfield 40, 3) := by decide +kernel
theorem d62_62 : decode (pm_c 62) 62 = .ok (.iload_n 2, 1) := by decide +kernel
theorem d62_63 : decode (pm_c 62) 63 = .ok (.putfield 121, 3) := by decide +kernel
theorem d62_66 : decode (pm_c 62) 66 = .ok (.aload_n 0, 1) := by decide +kernel
theorem d62_67 : decode (pm_c 62) 67 = .ok (.getfield 61, 3) := by decide +kernel
theorem d62_70 : decode (pm_c 62) 70 = .ok (.getfield 124, 3) := by decide +kernel
theorem d62_73 : decode (pm_c 62) 73 = .ok (.ireturn, 1) := by decide +kernel
theorem d63_0 : decode (pm_c 63) 0 = .ok (.iload_n 1, 1) := by decide +kernel
theorem d63_1 : decode (pm_c 63) 1 = .ok (.tableswitch 232 0 18 #[91, 99, 107, 115, 123, 131, 139, 147, 152, 157, 162, 167, 172, 177, 192, 200, 208, 216, 224], 91) := by decide +kernel
theorem d63_92 : decode (pm_c 63) 92 = .ok (.aload_n 0, 1) := by decide +kernel
theorem d63_93 : decode (pm_c 63) 93 = .ok (.getfield 40, 3) := by decide +kernel
theorem d63_96 : decode (pm_c 63) 96 = .ok (.getfield 94, 3) := by decide +kernel
theorem d63_99 : decode (pm_c 63) 99 = .ok (.ireturn, 1) := by decide +kernel
theorem d63_100 : decode (pm_c 63) 100 = .ok (.aload_n 0, 1) := by decide +kernel
theorem d63_101 : decode (pm_c 63) 101 = .ok (.getfield 12, 3) := by decide +kernel
theorem d63_104 : decode (pm_c 63) 104 = .ok (.getfield 104, 3) := by decide +kernel
theorem d63_107 : decode (pm_c 63) 107 = .ok (.ireturn, 1) := by decide +kernel
theorem d63_108 : decode (pm_c 63) 108 = .ok (.aload_n 0, 1) := by decide +kernel
theorem d63_109 : decode (pm_c 63) 109 = .ok (.getfield 19, 3) := by decide +kernel
theorem d63_112 : decode (pm_c 63) 112 = .ok (.getfield 127, 3) := by decide +kernel
theorem d63_115 : decode (pm_c 63) 115 = .ok (.ireturn, 1) := by decide +kernel
theorem d63_116 : decode (pm_c 63) 116 = .ok (.aload_n 0, 1) := by decide +kernel
theorem d63_117 : decode (pm_c 63) 117 = .ok (.getfield 33, 3) := by decide +kernel
theorem d63_120 : decode (pm_c 63) 120 = .ok (.getfield 128, 3) := by decide +kernel
theorem d63_123 : decode (pm_c 63) 123 = .ok (.ireturn, 1) := by decide +kernel
theorem d63_124 : decode (pm_c 63) 124 = .ok (.aload_n 0, 1) := by decide +kernel
theorem d63_125 : decode (pm_c 63) 125 = .ok (.getfield 26, 3) := by decide +kernel
theorem d63_128 : decode (pm_c 63) 128 = .ok (.getfield 129, 3) := by decide +kernel
theorem d63_131 : decode (pm_c 63) 131 = .ok (.ireturn, 1) := by decide +kernel
theorem d63_132 : decode (pm_c 63) 132 = .ok (.aload_n 0, 1) := by decide +kernel
theorem d63_133 : decode (pm_c 63) 133 = .ok (.getfield 40, 3) := by decide +kernel
theorem d63_136 : decode (pm_c 63) 136 = .ok (.getfield 107, 3) := by decide +kernel
theorem d63_139 : decode (pm_c 63) 139 = .ok (.ireturn, 1) := by decide +kernel
theorem d63_140 : decode (pm_c 63) 140 = .ok (.aload_n 0, 1) := by decide +kernel
theorem d63_141 : decode (pm_c 63) 141 = .ok (.getfield 40, 3) := by decide +kernel
theorem d63_144 : decode (pm_c 63) 144 = .ok (.getfield 98, 3) := by decide +kernel
theorem d63_147 : decode (pm_c 63) 147 = .ok (.ireturn, 1) := by decide +kernel
theorem d63_148 : decode (pm_c 63) 148 = .ok (.aload_n 0, 1) := by decide +kernel
theorem d63_149 : decode (pm_c 63) 149 = .ok (.invokevirtual 110, 3) := by decide +kernel
theorem d63_152 : decode (pm_c 63) 152 = .ok (.ireturn, 1) := by decide +kernel
theorem d63_153 : decode (pm_c 63) 153 = .ok (.aload_n 0, 1) := by decide +kernel
theorem d63_154 : decode (pm_c 63) 154 = .ok (.invokevirtual 130, 3) := by decide +kernel
theorem d63_157 : decode (pm_c 63) 157 = .ok (.ireturn, 1) := by decide +kernel
theorem d63_158 : decode (pm_c 63) 158 = .ok (.aload_n 0, 1) := by decide +kernel
theorem d63_159 : decode (pm_c 63) 159 = .ok (.invokevirtual 133, 3) := by decide +kernel
theorem d63_162 : decode (pm_c 63) 162 = .ok (.ireturn, 1) := by decide +kernel
theorem d63_163 : decode (pm_c 63) 163 = .ok (.aload_n 0, 1) := by decide +kernel
theorem d63_164 : decode (pm_c 63) 164 = .ok (.invokevirtual 136, 3) := by decide +kernel
theorem d63_167 : decode (pm_c 63) 167 = .ok (.ireturn, 1) := by decide +kernel
theorem d63_168 : decode (pm_c 63) 168 = .ok (.aload_n 0, 1) := by decide +kernel
theorem d63_169 : decode (pm_c 63) 169 = .ok (.invokevirtual 139, 3) := by decide +kernel
theorem d63_172 : decode (pm_c 63) 172 = .ok (.ireturn, 1) := by decide +kernel
theorem d63_173 : decode (pm_c 63) 173 = .ok (.aload_n 0, 1) := by decide +kernel
theorem d63_174 : decode (pm_c 63) 174 = .ok (.invokevirtual 142, 3) := by decide +kernel
theorem d63_177 : decode (pm_c 63) 177 = .ok (.ireturn, 1) := by decide +kernel
theorem d63_178 : decode (pm_c 63) 178 = .ok (.aload_n 0, 1) := by decide +kernel
theorem d63_179 : decode (pm_c 63) 179 = .ok (.invokevirtual 110, 3) := by decide +kernel
theorem d63_182 : decode (pm_c 63) 182 = .ok (.aload_n 0, 1) := by decide +kernel
theorem d63_183 : decode (pm_c 63) 183 = .ok (.invokevirtual 130, 3) := by decide +kernel
theorem d63_186 : decode (pm_c 63) 186 = .ok (.isub, 1) := by decide +kernel
theorem d63_187 : decode (pm_c 63) 187 = .ok (.aload_n 0, 1) := by decide +kernel
theorem d63_188 : decode (pm_c 63) 188 = .ok (.invokevirtual 133, 3) := by decide +kernel
theorem d63_191 : decode (pm_c 63) 191 = .ok (.iadd, 1) := by decide +kernel
theorem d63_192 : decode (pm_c 63) 192 = .ok (.ireturn, 1) := by decide +kernel
theorem d63_193 : decode (pm_c 63) 193 = .ok (.aload_n 0, 1) := by decide +kernel
theorem d63_194 : decode (pm_c 63) 194 = .ok (.getfield 40, 3) := by decide +kernel
theorem d63_197 : decode (pm_c 63) 197 = .ok (.getfield 118, 3) := by decide +kernel
theorem d63_200 : decode (pm_c 63) 200 = .ok (.ireturn, 1) := by decide +kernel
theorem d63_201 : decode (pm_c 63) 201 = .ok (.aload_n 0, 1) := by decide +kernel
theorem d63_202 : decode (pm_c 63) 202 = .ok (.getfield 40, 3) := by decide +kernel
theorem d63_205 : decode (pm_c 63) 205 = .ok (.getfield 121, 3) := by decide +kernel
theorem d63_208 : decode (pm_c 63) 208 = .ok (.ireturn, 1) := by decide +kernel
theorem d63_209 : decode (pm_c 63) 209 = .ok (.aload_n 0, 1) := by decide +kernel
theorem d63_210 : decode (pm_c 63) 210 = .ok (.getfield 47, 3) := by decide +kernel
theorem d63_213 : decode (pm_c 63) 213 = .ok (.getfield 145, 3) := by decide +kernel
theorem d63_216 : decode (pm_c 63) 216 = .ok (.ireturn, 1) := by decide +kernel
theorem d63_217 : decode (pm_c 63) 217 = .ok (.aload_n 0, 1) := by decide +kernel
theorem d63_218 : decode (pm_c 63) 218 = .ok (.getfield 68, 3) := by decide +kernel
theorem d63_221 : decode (pm_c 63) 221 = .ok (.getfield 146, 3) := by decide +kernel
theorem d63_224 : decode (pm_c 63) 224 = .ok (.ireturn, 1) := by decide +kernel
theorem d63_225 : decode (pm_c 63) 225 = .ok (.aload_n 0, 1) := by decide +kernel
theorem d63_226 : decode (pm_c 63) 226 = .ok (.getfield 40, 3) := by decide +kernel
theorem d63_229 : decode (pm_c 63) 229 = .ok (.getfield 149, 3) := by decide +kernel
theorem d63_232 : decode (pm_c 63) 232 = .ok (.ireturn, 1) := by decide +kernel
theorem d63_233 : decode (pm_c 63) 233 = .ok (.sipush (-1001), 3) := by decide +kernel
theorem d63_236 : decode (pm_c 63) 236 = .ok (.ireturn, 1) := by decide +kernel
theorem d64_0 : decode (pm_c 64) 0 = .ok (.aload_n 0, 1) := by decide +kernel
theorem d64_1 : decode (pm_c 64) 1 = .ok (.getfield 47, 3) := by decide +kernel
theorem d64_4 : decode (pm_c 64) 4 = .ok (.aload_n 0, 1) := by decide +kernel
theorem d64_5 : decode (pm_c 64) 5 = .ok (.getfield 40, 3) := by decide +kernel
theorem d64_8 : decode (pm_c 64) 8 = .ok (.invokevirtual 152, 3) := by decide +kernel
theorem d64_11 : decode (pm_c 64) 11 = .ok (.ifCond .ne 7, 3) := by decide +kernel
theorem d64_14 : decode (pm_c 64) 14 = .ok (.sipush (-1002), 3) := by decide +kernel
theorem d64_17 : decode (pm_c 64) 17 = .ok (.ireturn, 1) := by decide +kernel
theorem d64_18 : decode (pm_c 64) 18 = .ok (.aload_n 0, 1) := by decide +kernel
theorem d64_19 : decode (pm_c 64) 19 = .ok (.invokevirtual 83, 3) := by decide +kernel
theorem d64_22 : decode (pm_c 64) 22 = .ok (.aload_n 0, 1) := by decide +kernel
theorem d64_23 : decode (pm_c 64) 23 = .ok (.getfield 47, 3) := by decide +kernel
theorem d64_26 : decode (pm_c 64) 26 = .ok (.getfield 145, 3) := by decide +kernel
theorem d64_29 : decode (pm_c 64) 29 = .ok (.ireturn, 1) := by decide +kernel
theorem d71_0 : decode (pm_c 71) 0 = .ok (.aload_n 0, 1) := by decide +kernel
theorem d71_1 : decode (pm_c 71) 1 = .ok (.iload_n 1, 1) := by decide +kernel
theorem d71_2 : decode (pm_c 71) 2 = .ok (.invokevirtual 209, 3) := by decide +kernel
theorem d71_5 : decode (pm_c 71) 5 = .ok (.ifCond .ne 7, 3) := by decide +kernel
theorem d71_8 : decode (pm_c 71) 8 = .ok (.sipush (-1001), 3) := by decide +kernel
theorem d71_11 : decode (pm_c 71) 11 = .ok (.ireturn, 1) := by decide +kernel
theorem d71_12 : decode (pm_c 71) 12 = .ok (.iload_n 2, 1) := by decide +kernel
theorem d71_13 : decode (pm_c 71) 13 = .ok (.tableswitch 163 0 8 #[51, 61, 71, 81, 105, 119, 137, 147, 157], 51) := by decide +kernel
theorem d71_64 : decode (pm_c 71) 64 = .ok (.aload_n 0, 1) := by decide +kernel
theorem d71_65 : decode (pm_c 71) 65 = .ok (.getfield 19, 3) := by decide +kernel
theorem d71_68 : decode (pm_c 71) 68 = .ok (.getfield 212, 3) := by decide +kernel
theorem d71_71 : decode (pm_c 71) 71 = .ok (.iload_n 1, 1) := by decide +kernel
theorem d71_72 : decode (pm_c 71) 72 = .ok (.iaload, 1) := by decide +kernel
theorem d71_73 : decode (pm_c 71) 73 = .ok (.ireturn, 1) := by decide +kernel
theorem d71_74 : decode (pm_c 71) 74 = .ok (.aload_n 0, 1) := by decide +kernel
theorem d71_75 : decode (pm_c 71) 75 = .ok (.getfield 19, 3) := by decide +kernel
theorem d71_78 : decode (pm_c 71) 78 = .ok (.getfield 215, 3) := by decide +kernel
theorem d71_81 : decode (pm_c 71) 81 = .ok (.iload_n 1, 1) := by decide +kernel
theorem d71_82 : decode (pm_c 71) 82 = .ok (.iaload, 1) := by decide +kernel
theorem d71_83 : decode (pm_c 71) 83 = .ok (.ireturn, 1) := by decide +kernel
theorem d71_84 : decode (pm_c 71) 84 = .ok (.aload_n 0, 1) := by decide +kernel
theorem d71_85 : decode (pm_c 71) 85 = .ok (.getfield 26, 3) := by decide +kernel
theorem d71_88 : decode (pm_c 71) 88 = .ok (.getfield 218, 3) := by decide +kernel
theorem d71_91 : decode (pm_c 71) 91 = .ok (.iload_n 1, 1) := by decide +kernel
theorem d71_92 : decode (pm_c 71) 92 = .ok (.iaload, 1) := by decide +kernel
theorem d71_93 : decode (pm_c 71) 93 = .ok (.ireturn, 1) := by decide +kernel
theorem d71_94 : decode (pm_c 71) 94 = .ok (.aload_n 0, 1) := by decide +kernel
theorem d71_95 : decode (pm_c 71) 95 = .ok (.getfield 26, 3) := by decide +kernel
theorem d71_98 : decode (pm_c 71) 98 = .ok (.aload_n 0, 1) := by decide +kernel
theorem d71_99 : decode (pm_c 71) 99 = .ok (.getfield 26, 3) := by decide +kernel
theorem d71_102 : decode (pm_c 71) 102 = .ok (.getfield 218, 3) := by decide +kernel
theorem d71_105 : decode (pm_c 71) 105 = .ok (.iload_n 1, 1) := by decide +kernel
theorem d71_106 : decode (pm_c 71) 106 = .ok (.iaload, 1) := by decide +kernel
theorem d71_107 : decode (pm_c 71) 107 = .ok (.aload_n 0, 1) := by decide +kernel
theorem d71_108 : decode (pm_c 71) 108 = .ok (.getfield 40, 3) := by decide +kernel
theorem d71_111 : decode (pm_c 71) 111 = .ok (.getfield 107, 3) := by decide +kernel
theorem d71_114 : decode (pm_c 71) 114 = .ok (.invokevirtual 221, 3) := by decide +kernel
theorem d71_117 : decode (pm_c 71) 117 = .ok (.ireturn, 1) := by decide +kernel
theorem d71_118 : decode (pm_c 71) 118 = .ok (.aload_n 0, 1) := by decide +kernel
theorem d71_119 : decode (pm_c 71) 119 = .ok (.iload_n 1, 1) := by decide +kernel
theorem d71_120 : decode (pm_c 71) 120 = .ok (.invokevirtual 224, 3) := by decide +kernel
theorem d71_123 : decode (pm_c 71) 123 = .ok (.ifCond .eq 7, 3) := by decide +kernel
theorem d71_126 : decode (pm_c 71) 126 = .ok (.iconst 1, 1) := by decide +kernel
theorem d71_127 : decode (pm_c 71) 127 = .ok (.goto 4, 3) := by decide +kernel
theorem d71_130 : decode (pm_c 71) 130 = .ok (.iconst 0, 1) := by decide +kernel
theorem d71_131 : decode (pm_c 71) 131 = .ok (.ireturn, 1) := by decide +kernel
theorem d71_132 : decode (pm_c 71) 132 = .ok (.aload_n 0, 1) := by decide +kernel
theorem d71_133 : decode (pm_c 71) 133 = .ok (.getfield 40, 3) := by decide +kernel
theorem d71_136 : decode (pm_c 71) 136 = .ok (.getfield 227, 3) := by decide +kernel
theorem d71_139 : decode (pm_c 71) 139 = .ok (.iload_n 1, 1) := by decide +kernel
theorem d71_140 : decode (pm_c 71) 140 = .ok (.baload, 1) := by decide +kernel
theorem d71_141 : decode (pm_c 71) 141 = .ok (.ifCond .eq 7, 3) := by decide +kernel
theorem d71_144 : decode (pm_c 71) 144 = .ok (.iconst 1, 1) := by decide +kernel
theorem d71_145 : decode (pm_c 71) 145 = .ok (.goto 4, 3) := by decide +kernel
theorem d71_148 : decode (pm_c 71) 148 = .ok (.iconst 0, 1) := by decide +kernel
theorem d71_149 : decode (pm_c 71) 149 = .ok (.ireturn, 1) := by decide +kernel
theorem d71_150 : decode (pm_c 71) 150 = .ok (.aload_n 0, 1) := by decide +kernel
theorem d71_151 : decode (pm_c 71) 151 = .ok (.getfield 26, 3) := by decide +kernel
theorem d71_154 : decode (pm_c 71) 154 = .ok (.getfield 231, 3) := by decide +kernel
theorem d71_157 : decode (pm_c 71) 157 = .ok (.iload_n 1, 1) := by decide +kernel
theorem d71_158 : decode (pm_c 71) 158 = .ok (.iaload, 1) := by decide +kernel
theorem d71_159 : decode (pm_c 71) 159 = .ok (.ireturn, 1) := by decide +kernel
theorem d71_160 : decode (pm_c 71) 160 = .ok (.aload_n 0, 1) := by decide +kernel
theorem d71_161 : decode (pm_c 71) 161 = .ok (.getfield 26, 3) := by decide +kernel
theorem d71_164 : decode (pm_c 71) 164 = .ok (.getfield 234, 3) := by decide +kernel
theorem d71_167 : decode (pm_c 71) 167 = .ok (.iload_n 1, 1) := by decide +kernel
theorem d71_168 : decode (pm_c 71) 168 = .ok (.iaload, 1) := by decide +kernel
theorem d71_169 : decode (pm_c 71) 169 = .ok (.ireturn, 1) := by decide +kernel
theorem d71_170 : decode (pm_c 71) 170 = .ok (.aload_n 0, 1) := by decide +kernel
theorem d71_171 : decode (pm_c 71) 171 = .ok (.iload_n 1, 1) := by decide +kernel
theorem d71_172 : decode (pm_c 71) 172 = .ok (.invokevirtual 237, 3) := by decide +kernel
theorem d71_175 : decode (pm_c 71) 175 = .ok (.ireturn, 1) := by decide +kernel
theorem d71_176 : decode (pm_c 71) 176 = .ok (.sipush (-1001), 3) := by decide +kernel
theorem d71_179 : decode (pm_c 71) 179 = .ok (.ireturn, 1) := by decide +kernel
theorem d74_0 : decode (pm_c 74) 0 = .ok (.aload_n 0, 1) := by decide +kernel
theorem d74_1 : decode (pm_c 74) 1 = .ok (.iload_n 1, 1) := by decide +kernel
theorem d74_2 : decode (pm_c 74) 2 = .ok (.invokevirtual 209, 3) := by decide +kernel
theorem d74_5 : decode (pm_c 74) 5 = .ok (.ifCond .ne 7, 3) := by decide +kernel
theorem d74_8 : decode (pm_c 74) 8 = .ok (.sipush (-1001), 3) := by decide +kernel
theorem d74_11 : decode (pm_c 74) 11 = .ok (.ireturn, 1) := by decide +kernel
theorem d74_12 : decode (pm_c 74) 12 = .ok (.aload_n 0, 1) := by decide +kernel
theorem d74_13 : decode (pm_c 74) 13 = .ok (.getfield 40, 3) := by decide +kernel
theorem d74_16 : decode (pm_c 74) 16 = .ok (.getfield 227, 3) := by decide +kernel
theorem d74_19 : decode (pm_c 74) 19 = .ok (.iload_n 1, 1) := by decide +kernel
theorem d74_20 : decode (pm_c 74) 20 = .ok (.baload, 1) := by decide +kernel
theorem d74_21 : decode (pm_c 74) 21 = .ok (.ifCond .eq 7, 3) := by decide +kernel
theorem d74_24 : decode (pm_c 74) 24 = .ok (.sipush (-1002), 3) := by decide +kernel
theorem d74_27 : decode (pm_c 74) 27 = .ok (.ireturn, 1) := by decide +kernel
theorem d74_28 : decode (pm_c 74) 28 = .ok (.aload_n 0, 1) := by decide +kernel
theorem d74_29 : decode (pm_c 74) 29 = .ok (.getfield 40, 3) := by decide +kernel
theorem d74_32 : decode (pm_c 74) 32 = .ok (.getfield 149, 3) := by decide +kernel
theorem d74_35 : decode (pm_c 74) 35 = .ok (.bipush 40, 2) := by decide +kernel
theorem d74_37 : decode (pm_c 74) 37 = .ok (.if_icmp .lt 7, 3) := by decide +kernel
theorem d74_40 : decode (pm_c 74) 40 = .ok (.sipush (-1003), 3) := by decide +kernel
theorem d74_43 : decode (pm_c 74) 43 = .ok (.ireturn, 1) := by decide +kernel
theorem d74_44 : decode (pm_c 74) 44 = .ok (.aload_n 0, 1) := by decide +kernel
theorem d74_45 : decode (pm_c 74) 45 = .ok (.getfield 47, 3) := by decide +kernel
theorem d74_48 : decode (pm_c 74) 48 = .ok (.aload_n 0, 1) := by decide +kernel
theorem d74_49 : decode (pm_c 74) 49 = .ok (.getfield 40, 3) := by decide +kernel
theorem d74_52 : decode (pm_c 74) 52 = .ok (.invokevirtual 90, 3) := by decide +kernel
theorem d74_55 : decode (pm_c 74) 55 = .ok (.aload_n 0, 1) := by decide +kernel
theorem d74_56 : decode (pm_c 74) 56 = .ok (.iload_n 1, 1) := by decide +kernel
theorem d74_57 : decode (pm_c 74) 57 = .ok (.invokevirtual 262, 3) := by decide +kernel
theorem d74_60 : decode (pm_c 74) 60 = .ok (.istore_n 2, 1) := by decide +kernel
theorem d74_61 : decode (pm_c 74) 61 = .ok (.aload_n 0, 1) := by decide +kernel
theorem d74_62 : decode (pm_c 74) 62 = .ok (.getfield 40, 3) := by decide +kernel
theorem d74_65 : decode (pm_c 74) 65 = .ok (.iload_n 1, 1) := by decide +kernel
theorem d74_66 : decode (pm_c 74) 66 = .ok (.invokevirtual 265, 3) := by decide +kernel
theorem d74_69 : decode (pm_c 74) 69 = .ok (.iload_n 2, 1) := by decide +kernel
theorem d74_70 : decode (pm_c 74) 70 = .ok (.ireturn, 1) := by decide +kernel
theorem d75_0 : decode (pm_c 75) 0 = .ok (.aload_n 0, 1) := by decide +kernel
theorem d75_1 : decode (pm_c 75) 1 = .ok (.iload_n 1, 1) := by decide +kernel
theorem d75_2 : decode (pm_c 75) 2 = .ok (.invokevirtual 209, 3) := by decide +kernel
theorem d75_5 : decode (pm_c 75) 5 = .ok (.ifCond .ne 7, 3) := by decide +kernel
theorem d75_8 : decode (pm_c 75) 8 = .ok (.sipush (-1001), 3) := by decide +kernel
theorem d75_11 : decode (pm_c 75) 11 = .ok (.ireturn, 1) := by decide +kernel
theorem d75_12 : decode (pm_c 75) 12 = .ok (.aload_n 0, 1) := by decide +kernel
theorem d75_13 : decode (pm_c 75) 13 = .ok (.getfield 40, 3) := by decide +kernel
theorem d75_16 : decode (pm_c 75) 16 = .ok (.getfield 227, 3) := by decide +kernel
theorem d75_19 : decode (pm_c 75) 19 = .ok (.iload_n 1, 1) := by decide +kernel
theorem d75_20 : decode (pm_c 75) 20 = .ok (.baload, 1) := by decide +kernel
theorem d75_21 : decode (pm_c 75) 21 = .ok (.ifCond .ne 7, 3) := by decide +kernel
theorem d75_24 : decode (pm_c 75) 24 = .ok (.sipush (-1002), 3) := by decide +kernel
theorem d75_27 : decode (pm_c 75) 27 = .ok (.ireturn, 1) := by decide +kernel
theorem d75_28 : decode (pm_c 75) 28 = .ok (.aload_n 0, 1) := by decide +kernel
theorem d75_29 : decode (pm_c 75) 29 = .ok (.getfield 47, 3) := by decide +kernel
theorem d75_32 : decode (pm_c 75) 32 = .ok (.aload_n 0, 1) := by decide +kernel
theorem d75_33 : decode (pm_c 75) 33 = .ok (.getfield 40, 3) := by decide +kernel
theorem d75_36 : decode (pm_c 75) 36 = .ok (.invokevirtual 90, 3) := by decide +kernel
theorem d75_39 : decode (pm_c 75) 39 = .ok (.aload_n 0, 1) := by decide +kernel
theorem d75_40 : decode (pm_c 75) 40 = .ok (.getfield 40, 3) := by decide +kernel
theorem d75_43 : decode (pm_c 75) 43 = .ok (.iload_n 1, 1) := by decide +kernel
theorem d75_44 : decode (pm_c 75) 44 = .ok (.invokevirtual 268, 3) := by decide +kernel
theorem d75_47 : decode (pm_c 75) 47 = .ok (.aload_n 0, 1) := by decide +kernel
theorem d75_48 : decode (pm_c 75) 48 = .ok (.iload_n 1, 1) := by decide +kernel
theorem d75_49 : decode (pm_c 75) 49 = .ok (.invokevirtual 262, 3) := by decide +kernel
theorem d75_52 : decode (pm_c 75) 52 = .ok (.ireturn, 1) := by decide +kernel
theorem d76_0 : decode (pm_c 76) 0 = .ok (.aload_n 0, 1) := by decide +kernel
theorem d76_1 : decode (pm_c 76) 1 = .ok (.getfield 47, 3) := by decide +kernel
theorem d76_4 : decode (pm_c 76) 4 = .ok (.aload_n 0, 1) := by decide +kernel
theorem d76_5 : decode (pm_c 76) 5 = .ok (.getfield 40, 3) := by decide +kernel
theorem d76_8 : decode (pm_c 76) 8 = .ok (.invokevirtual 90, 3) := by decide +kernel
theorem d76_11 : decode (pm_c 76) 11 = .ok (.aload_n 0, 1) := by decide +kernel
theorem d76_12 : decode (pm_c 76) 12 = .ok (.getfield 40, 3) := by decide +kernel
theorem d76_15 : decode (pm_c 76) 15 = .ok (.getfield 149, 3) := by decide +kernel
theorem d76_18 : decode (pm_c 76) 18 = .ok (.istore_n 1, 1) := by decide +kernel
theorem d76_19 : decode (pm_c 76) 19 = .ok (.aload_n 0, 1) := by decide +kernel
theorem d76_20 : decode (pm_c 76) 20 = .ok (.getfield 40, 3) := by decide +kernel
theorem d76_23 : decode (pm_c 76) 23 = .ok (.invokevirtual 101, 3) := by decide +kernel
theorem d76_26 : decode (pm_c 76) 26 = .ok (.iload_n 1, 1) := by decide +kernel
theorem d76_27 : decode (pm_c 76) 27 = .ok (.ireturn, 1) := by decide +kernel
theorem d77_0 : decode (pm_c 77) 0 = .ok (.aload_n 0, 1) := by decide +kernel
theorem d77_1 : decode (pm_c 77) 1 = .ok (.invokevirtual 271, 3) := by decide +kernel
theorem d77_4 : decode (pm_c 77) 4 = .ok (.iconst (-1), 1) := by decide +kernel
theorem d77_5 : decode (pm_c 77) 5 = .ok (.istore_n 1, 1) := by decide +kernel
theorem d77_6 : decode (pm_c 77) 6 = .ok (.iconst 0, 1) := by decide +kernel
theorem d77_7 : decode (pm_c 77) 7 = .ok (.istore_n 2, 1) := by decide +kernel
theorem d77_8 : decode (pm_c 77) 8 = .ok (.iload_n 2, 1) := by decide +kernel
theorem d77_9 : decode (pm_c 77) 9 = .ok (.aload_n 0, 1) := by decide +kernel
theorem d77_10 : decode (pm_c 77) 10 = .ok (.getfield 19, 3) := by decide +kernel
theorem d77_13 : decode (pm_c 77) 13 = .ok (.getfield 127, 3) := by decide +kernel
theorem d77_16 : decode (pm_c 77) 16 = .ok (.if_icmp .ge 54, 3) := by decide +kernel
theorem d77_19 : decode (pm_c 77) 19 = .ok (.aload_n 0, 1) := by decide +kernel
theorem d77_20 : decode (pm_c 77) 20 = .ok (.iload_n 2, 1) := by decide +kernel
theorem d77_21 : decode (pm_c 77) 21 = .ok (.invokevirtual 224, 3) := by decide +kernel
theorem d77_24 : decode (pm_c 77) 24 = .ok (.ifCond .eq 40, 3) := by decide +kernel
theorem d77_27 : decode (pm_c 77) 27 = .ok (.aload_n 0, 1) := by decide +kernel
theorem d77_28 : decode (pm_c 77) 28 = .ok (.getfield 40, 3) := by decide +kernel
theorem d77_31 : decode (pm_c 77) 31 = .ok (.getfield 227, 3) := by decide +kernel
theorem d77_34 : decode (pm_c 77) 34 = .ok (.iload_n 2, 1) := by decide +kernel
theorem d77_35 : decode (pm_c 77) 35 = .ok (.baload, 1) := by decide +kernel
theorem d77_36 : decode (pm_c 77) 36 = .ok (.ifCond .eq 6, 3) := by decide +kernel
theorem d77_39 : decode (pm_c 77) 39 = .ok (.goto 25, 3) := by decide +kernel
theorem d77_42 : decode (pm_c 77) 42 = .ok (.iload_n 1, 1) := by decide +kernel
theorem d77_43 : decode (pm_c 77) 43 = .ok (.iconst (-1), 1) := by decide +kernel
theorem d77_44 : decode (pm_c 77) 44 = .ok (.if_icmp .eq 18, 3) := by decide +kernel
theorem d77_47 : decode (pm_c 77) 47 = .ok (.aload_n 0, 1) := by decide +kernel
theorem d77_48 : decode (pm_c 77) 48 = .ok (.getfield 79, 3) := by decide +kernel
theorem d77_51 : decode (pm_c 77) 51 = .ok (.iload_n 2, 1) := by decide +kernel
theorem d77_52 : decode (pm_c 77) 52 = .ok (.iaload, 1) := by decide +kernel
theorem d77_53 : decode (pm_c 77) 53 = .ok (.aload_n 0, 1) := by decide +kernel
theorem d77_54 : decode (pm_c 77) 54 = .ok (.getfield 79, 3) := by decide +kernel
theorem d77_57 : decode (pm_c 77) 57 = .ok (.iload_n 1, 1) := by decide +kernel
theorem d77_58 : decode (pm_c 77) 58 = .ok (.iaload, 1) := by decide +kernel
theorem d77_59 : decode (pm_c 77) 59 = .ok (.if_icmp .le 5, 3) := by decide +kernel
theorem d77_62 : decode (pm_c 77) 62 = .ok (.iload_n 2, 1) := by decide +kernel
theorem d77_63 : decode (pm_c 77) 63 = .ok (.istore_n 1, 1) := by decide +kernel
theorem d77_64 : decode (pm_c 77) 64 = .ok (.iinc 2 1, 3) := by decide +kernel
theorem d77_67 : decode (pm_c 77) 67 = .ok (.goto (-59), 3) := by decide +kernel
theorem d77_70 : decode (pm_c 77) 70 = .ok (.iload_n 1, 1) := by decide +kernel
theorem d77_71 : decode (pm_c 77) 71 = .ok (.iconst (-1), 1) := by decide +kernel
theorem d77_72 : decode (pm_c 77) 72 = .ok (.if_icmp .ne 9, 3) := by decide +kernel
theorem d77_75 : decode (pm_c 77) 75 = .ok (.sipush (-1004), 3) := by decide +kernel
theorem d77_78 : decode (pm_c 77) 78 = .ok (.goto 4, 3) := by decide +kernel
theorem d77_81 : decode (pm_c 77) 81 = .ok (.iload_n 1, 1) := by decide +kernel
theorem d77_82 : decode (pm_c 77) 82 = .ok (.ireturn, 1) := by decide +kernel
theorem d78_0 : decode (pm_c 78) 0 = .ok (.iload_n 1, 1) := by decide +kernel
theorem d78_1 : decode (pm_c 78) 1 = .ok (.iconst 0, 1) := by decide +kernel
theorem d78_2 : decode (pm_c 78) 2 = .ok (.iconst 3, 1) := by decide +kernel
theorem d78_3 : decode (pm_c 78) 3 = .ok (.invokestatic 86, 3) := by decide +kernel
theorem d78_6 : decode (pm_c 78) 6 = .ok (.ifCond .ne 7, 3) := by decide +kernel
theorem d78_9 : decode (pm_c 78) 9 = .ok (.sipush (-1001), 3) := by decide +kernel
theorem d78_12 : decode (pm_c 78) 12 = .ok (.ireturn, 1) := by decide +kernel
theorem d78_13 : decode (pm_c 78) 13 = .ok (.aload_n 0, 1) := by decide +kernel
theorem d78_14 : decode (pm_c 78) 14 = .ok (.aload_n 0, 1) := by decide +kernel
theorem d78_15 : decode (pm_c 78) 15 = .ok (.getfield 40, 3) := by decide +kernel
theorem d78_18 : decode (pm_c 78) 18 = .ok (.getfield 118, 3) := by decide +kernel
theorem d78_21 : decode (pm_c 78) 21 = .ok (.aload_n 0, 1) := by decide +kernel
theorem d78_22 : decode (pm_c 78) 22 = .ok (.getfield 40, 3) := by decide +kernel
theorem d78_25 : decode (pm_c 78) 25 = .ok (.getfield 121, 3) := by decide +kernel
theorem d78_28 : decode (pm_c 78) 28 = .ok (.invokevirtual 114, 3) := by decide +kernel
theorem d78_31 : decode (pm_c 78) 31 = .ok (.ifCond .ne 7, 3) := by decide +kernel
theorem d78_34 : decode (pm_c 78) 34 = .ok (.sipush (-1002), 3) := by decide +kernel
theorem d78_37 : decode (pm_c 78) 37 = .ok (.ireturn, 1) := by decide +kernel
theorem d78_38 : decode (pm_c 78) 38 = .ok (.iload_n 1, 1) := by decide +kernel
theorem d78_39 : decode (pm_c 78) 39 = .ok (.tableswitch 49 0 2 #[25, 33, 41], 25) := by decide +kernel
theorem d78_64 : decode (pm_c 78) 64 = .ok (.aload_n 0, 1) := by decide +kernel
theorem d78_65 : decode (pm_c 78) 65 = .ok (.getfield 61, 3) := by decide +kernel
theorem d78_68 : decode (pm_c 78) 68 = .ok (.getfield 124, 3) := by decide +kernel
theorem d78_71 : decode (pm_c 78) 71 = .ok (.ireturn, 1) := by decide +kernel
theorem d78_72 : decode (pm_c 78) 72 = .ok (.aload_n 0, 1) := by decide +kernel
theorem d78_73 : decode (pm_c 78) 73 = .ok (.getfield 61, 3) := by decide +kernel
theorem d78_76 : decode (pm_c 78) 76 = .ok (.invokevirtual 274, 3) := by decide +kernel
theorem d78_79 : decode (pm_c 78) 79 = .ok (.ireturn, 1) := by decide +kernel
theorem d78_80 : decode (pm_c 78) 80 = .ok (.aload_n 0, 1) := by decide +kernel
theorem d78_81 : decode (pm_c 78) 81 = .ok (.getfield 61, 3) := by decide +kernel
theorem d78_84 : decode (pm_c 78) 84 = .ok (.invokevirtual 277, 3) := by decide +kernel
theorem d78_87 : decode (pm_c 78) 87 = .ok (.ireturn, 1) := by decide +kernel
theorem d78_88 : decode (pm_c 78) 88 = .ok (.aload_n 0, 1) := by decide +kernel
theorem d78_89 : decode (pm_c 78) 89 = .ok (.getfield 61, 3) := by decide +kernel
theorem d78_92 : decode (pm_c 78) 92 = .ok (.invokevirtual 280, 3) := by decide +kernel
theorem d78_95 : decode (pm_c 78) 95 = .ok (.ireturn, 1) := by decide +kernel
theorem d79_0 : decode (pm_c 79) 0 = .ok (.iload_n 1, 1) := by decide +kernel
theorem d79_1 : decode (pm_c 79) 1 = .ok (.iconst 1, 1) := by decide +kernel
theorem d79_2 : decode (pm_c 79) 2 = .ok (.sipush 1000, 3) := by decide +kernel
theorem d79_5 : decode (pm_c 79) 5 = .ok (.invokestatic 86, 3) := by decide +kernel
theorem d79_8 : decode (pm_c 79) 8 = .ok (.ifCond .ne 7, 3) := by decide +kernel
theorem d79_11 : decode (pm_c 79) 11 = .ok (.sipush (-1001), 3) := by decide +kernel
theorem d79_14 : decode (pm_c 79) 14 = .ok (.ireturn, 1) := by decide +kernel
theorem d79_15 : decode (pm_c 79) 15 = .ok (.aload_n 0, 1) := by decide +kernel
theorem d79_16 : decode (pm_c 79) 16 = .ok (.invokevirtual 283, 3) := by decide +kernel
theorem d79_19 : decode (pm_c 79) 19 = .ok (.sipush 2000, 3) := by decide +kernel
theorem d79_22 : decode (pm_c 79) 22 = .ok (.istore_n 2, 1) := by decide +kernel
theorem d79_23 : decode (pm_c 79) 23 = .ok (.iload_n 2, 1) := by decide +kernel
theorem d79_24 : decode (pm_c 79) 24 = .ok (.bipush 10, 2) := by decide +kernel
theorem d79_26 : decode (pm_c 79) 26 = .ok (.if_icmp .lt 48, 3) := by decide +kernel
theorem d79_29 : decode (pm_c 79) 29 = .ok (.aload_n 0, 1) := by decide +kernel
theorem d79_30 : decode (pm_c 79) 30 = .ok (.getfield 61, 3) := by decide +kernel
theorem d79_33 : decode (pm_c 79) 33 = .ok (.aload_n 0, 1) := by decide +kernel
theorem d79_34 : decode (pm_c 79) 34 = .ok (.getfield 26, 3) := by decide +kernel
theorem d79_37 : decode (pm_c 79) 37 = .ok (.iload_n 2, 1) := by decide +kernel
theorem d79_38 : decode (pm_c 79) 38 = .ok (.invokevirtual 286, 3) := by decide +kernel
theorem d79_41 : decode (pm_c 79) 41 = .ok (.aload_n 0, 1) := by decide +kernel
theorem d79_42 : decode (pm_c 79) 42 = .ok (.getfield 61, 3) := by decide +kernel
theorem d79_45 : decode (pm_c 79) 45 = .ok (.iload_n 1, 1) := by decide +kernel
theorem d79_46 : decode (pm_c 79) 46 = .ok (.aload_n 0, 1) := by decide +kernel
theorem d79_47 : decode (pm_c 79) 47 = .ok (.getfield 40, 3) := by decide +kernel
theorem d79_50 : decode (pm_c 79) 50 = .ok (.getfield 118, 3) := by decide +kernel
theorem d79_53 : decode (pm_c 79) 53 = .ok (.aload_n 0, 1) := by decide +kernel
theorem d79_54 : decode (pm_c 79) 54 = .ok (.getfield 40, 3) := by decide +kernel
theorem d79_57 : decode (pm_c 79) 57 = .ok (.getfield 121, 3) := by decide +kernel
theorem d79_60 : decode (pm_c 79) 60 = .ok (.invokevirtual 290, 3) := by decide +kernel
theorem d79_63 : decode (pm_c 79) 63 = .ok (.ifCond .eq 5, 3) := by decide +kernel
theorem d79_66 : decode (pm_c 79) 66 = .ok (.iload_n 2, 1) := by decide +kernel
theorem d79_67 : decode (pm_c 79) 67 = .ok (.ireturn, 1) := by decide +kernel
theorem d79_68 : decode (pm_c 79) 68 = .ok (.iinc 2 (-1), 3) := by decide +kernel
theorem d79_71 : decode (pm_c 79) 71 = .ok (.goto (-48), 3) := by decide +kernel
theorem d79_74 : decode (pm_c 79) 74 = .ok (.sipush (-1004), 3) := by decide +kernel
theorem d79_77 : decode (pm_c 79) 77 = .ok (.ireturn, 1) := by decide +kernel
theorem d84_0 : decode (pm_c 84) 0 = .ok (.iload_n 0, 1) := by decide +kernel
theorem d84_1 : decode (pm_c 84) 1 = .ok (.iload_n 1, 1) := by decide +kernel
theorem d84_2 : decode (pm_c 84) 2 = .ok (.if_icmp .lt 12, 3) := by decide +kernel
theorem d84_5 : decode (pm_c 84) 5 = .ok (.iload_n 0, 1) := by decide +kernel
theorem d84_6 : decode (pm_c 84) 6 = .ok (.iload_n 2, 1) := by decide +kernel
theorem d84_7 : decode (pm_c 84) 7 = .ok (.if_icmp .gt 7, 3) := by decide +kernel
theorem d84_10 : decode (pm_c 84) 10 = .ok (.iconst 1, 1) := by decide +kernel
theorem d84_11 : decode (pm_c 84) 11 = .ok (.goto 4, 3) := by decide +kernel
theorem d84_14 : decode (pm_c 84) 14 = .ok (.iconst 0, 1) := by decide +kernel
theorem d84_15 : decode (pm_c 84) 15 = .ok (.ireturn, 1) := by decide +kernel
theorem d87_0 : decode (pm_c 87) 0 = .ok (.iload_n 1, 1) := by decide +kernel
theorem d87_1 : decode (pm_c 87) 1 = .ok (.iconst 0, 1) := by decide +kernel
theorem d87_2 : decode (pm_c 87) 2 = .ok (.aload_n 0, 1) := by decide +kernel
theorem d87_3 : decode (pm_c 87) 3 = .ok (.getfield 19, 3) := by decide +kernel
theorem d87_6 : decode (pm_c 87) 6 = .ok (.getfield 127, 3) := by decide +kernel
theorem d87_9 : decode (pm_c 87) 9 = .ok (.iconst 1, 1) := by decide +kernel
theorem d87_10 : decode (pm_c 87) 10 = .ok (.isub, 1) := by decide +kernel
theorem d87_11 : decode (pm_c 87) 11 = .ok (.invokestatic 86, 3) := by decide +kernel
theorem d87_14 : decode (pm_c 87) 14 = .ok (.ireturn, 1) := by decide +kernel
theorem d88_0 : decode (pm_c 88) 0 = .ok (.aload_n 0, 1) := by decide +kernel
theorem d88_1 : decode (pm_c 88) 1 = .ok (.getfield 12, 3) := by decide +kernel
theorem d88_4 : decode (pm_c 88) 4 = .ok (.getfield 309, 3) := by decide +kernel
theorem d88_7 : decode (pm_c 88) 7 = .ok (.aload_n 0, 1) := by decide +kernel
theorem d88_8 : decode (pm_c 88) 8 = .ok (.getfield 40, 3) := by decide +kernel
theorem d88_11 : decode (pm_c 88) 11 = .ok (.getfield 94, 3) := by decide +kernel
theorem d88_14 : decode (pm_c 88) 14 = .ok (.if_icmp .ne 4, 3) := by decide +kernel
theorem d88_17 : decode (pm_c 88) 17 = .ok (.return_, 1) := by decide +kernel
theorem d88_18 : decode (pm_c 88) 18 = .ok (.aload_n 0, 1) := by decide +kernel
theorem d88_19 : decode (pm_c 88) 19 = .ok (.getfield 12, 3) := by decide +kernel
theorem d88_22 : decode (pm_c 88) 22 = .ok (.aload_n 0, 1) := by decide +kernel
theorem d88_23 : decode (pm_c 88) 23 = .ok (.getfield 40, 3) := by decide +kernel
theorem d88_26 : decode (pm_c 88) 26 = .ok (.getfield 94, 3) := by decide +kernel
theorem d88_29 : decode (pm_c 88) 29 = .ok (.invokevirtual 310, 3) := by decide +kernel
theorem d88_32 : decode (pm_c 88) 32 = .ok (.aload_n 0, 1) := by decide +kernel
theorem d88_33 : decode (pm_c 88) 33 = .ok (.getfield 19, 3) := by decide +kernel
theorem d88_36 : decode (pm_c 88) 36 = .ok (.aload_n 0, 1) := by decide +kernel
theorem d88_37 : decode (pm_c 88) 37 = .ok (.getfield 12, 3) := by decide +kernel
theorem d88_40 : decode (pm_c 88) 40 = .ok (.invokevirtual 313, 3) := by decide +kernel
theorem d88_43 : decode (pm_c 88) 43 = .ok (.aload_n 0, 1) := by decide +kernel
theorem d88_44 : decode (pm_c 88) 44 = .ok (.getfield 26, 3) := by decide +kernel
theorem d88_47 : decode (pm_c 88) 47 = .ok (.aload_n 0, 1) := by decide +kernel
theorem d88_48 : decode (pm_c 88) 48 = .ok (.getfield 12, 3) := by decide +kernel
theorem d88_51 : decode (pm_c 88) 51 = .ok (.aload_n 0, 1) := by decide +kernel
theorem d88_52 : decode (pm_c 88) 52 = .ok (.getfield 19, 3) := by decide +kernel
theorem d88_55 : decode (pm_c 88) 55 = .ok (.invokevirtual 316, 3) := by decide +kernel
theorem d88_58 : decode (pm_c 88) 58 = .ok (.aload_n 0, 1) := by decide +kernel
theorem d88_59 : decode (pm_c 88) 59 = .ok (.getfield 33, 3) := by decide +kernel
theorem d88_62 : decode (pm_c 88) 62 = .ok (.aload_n 0, 1) := by decide +kernel
theorem d88_63 : decode (pm_c 88) 63 = .ok (.getfield 12, 3) := by decide +kernel
theorem d88_66 : decode (pm_c 88) 66 = .ok (.aload_n 0, 1) := by decide +kernel
theorem d88_67 : decode (pm_c 88) 67 = .ok (.getfield 19, 3) := by decide +kernel
theorem d88_70 : decode (pm_c 88) 70 = .ok (.invokevirtual 319, 3) := by decide +kernel
theorem d88_73 : decode (pm_c 88) 73 = .ok (.return_, 1) := by decide +kernel
theorem d89_0 : decode (pm_c 89) 0 = .ok (.aload_n 0, 1) := by decide +kernel
theorem d89_1 : decode (pm_c 89) 1 = .ok (.getfield 12, 3) := by decide +kernel
theorem d89_4 : decode (pm_c 89) 4 = .ok (.getfield 166, 3) := by decide +kernel
theorem d89_7 : decode (pm_c 89) 7 = .ok (.iload_n 1, 1) := by decide +kernel
theorem d89_8 : decode (pm_c 89) 8 = .ok (.iaload, 1) := by decide +kernel
theorem d89_9 : decode (pm_c 89) 9 = .ok (.aload_n 0, 1) := by decide +kernel
theorem d89_10 : decode (pm_c 89) 10 = .ok (.getfield 40, 3) := by decide +kernel
theorem d89_13 : decode (pm_c 89) 13 = .ok (.getfield 98, 3) := by decide +kernel
theorem d89_16 : decode (pm_c 89) 16 = .ok (.if_icmp .lt 7, 3) := by decide +kernel
theorem d89_19 : decode (pm_c 89) 19 = .ok (.iconst 1, 1) := by decide +kernel
theorem d89_20 : decode (pm_c 89) 20 = .ok (.goto 4, 3) := by decide +kernel
theorem d89_23 : decode (pm_c 89) 23 = .ok (.iconst 0, 1) := by decide +kernel
theorem d89_24 : decode (pm_c 89) 24 = .ok (.ireturn, 1) := by decide +kernel
theorem d90_0 : decode (pm_c 90) 0 = .ok (.aload_n 0, 1) := by decide +kernel
theorem d90_1 : decode (pm_c 90) 1 = .ok (.aload_n 0, 1) := by decide +kernel
theorem d90_2 : decode (pm_c 90) 2 = .ok (.getfield 19, 3) := by decide +kernel
theorem d90_5 : decode (pm_c 90) 5 = .ok (.getfield 212, 3) := by decide +kernel
theorem d90_8 : decode (pm_c 90) 8 = .ok (.iload_n 1, 1) := by decide +kernel
theorem d90_9 : decode (pm_c 90) 9 = .ok (.iaload, 1) := by decide +kernel
theorem d90_10 : decode (pm_c 90) 10 = .ok (.invokevirtual 176, 3) := by decide +kernel
theorem d90_13 : decode (pm_c 90) 13 = .ok (.ifCond .eq 23, 3) := by decide +kernel
theorem d90_16 : decode (pm_c 90) 16 = .ok (.aload_n 0, 1) := by decide +kernel
theorem d90_17 : decode (pm_c 90) 17 = .ok (.aload_n 0, 1) := by decide +kernel
theorem d90_18 : decode (pm_c 90) 18 = .ok (.getfield 19, 3) := by decide +kernel
theorem d90_21 : decode (pm_c 90) 21 = .ok (.getfield 215, 3) := by decide +kernel
theorem d90_24 : decode (pm_c 90) 24 = .ok (.iload_n 1, 1) := by decide +kernel
theorem d90_25 : decode (pm_c 90) 25 = .ok (.iaload, 1) := by decide +kernel
theorem d90_26 : decode (pm_c 90) 26 = .ok (.invokevirtual 176, 3) := by decide +kernel
theorem d90_29 : decode (pm_c 90) 29 = .ok (.ifCond .eq 7, 3) := by decide +kernel
theorem d90_32 : decode (pm_c 90) 32 = .ok (.iconst 1, 1) := by decide +kernel
theorem d90_33 : decode (pm_c 90) 33 = .ok (.goto 4, 3) := by decide +kernel
theorem d90_36 : decode (pm_c 90) 36 = .ok (.iconst 0, 1) := by decide +kernel
theorem d90_37 : decode (pm_c 90) 37 = .ok (.ireturn, 1) := by decide +kernel
theorem d91_0 : decode (pm_c 91) 0 = .ok (.aload_n 0, 1) := by decide +kernel
theorem d91_1 : decode (pm_c 91) 1 = .ok (.aload_n 0, 1) := by decide +kernel
theorem d91_2 : decode (pm_c 91) 2 = .ok (.getfield 33, 3) := by decide +kernel
theorem d91_5 : decode (pm_c 91) 5 = .ok (.getfield 247, 3) := by decide +kernel
theorem d91_8 : decode (pm_c 91) 8 = .ok (.iconst 3, 1) := by decide +kernel
theorem d91_9 : decode (pm_c 91) 9 = .ok (.iload_n 1, 1) := by decide +kernel
theorem d91_10 : decode (pm_c 91) 10 = .ok (.imul, 1) := by decide +kernel
theorem d91_11 : decode (pm_c 91) 11 = .ok (.iaload, 1) := by decide +kernel
theorem d91_12 : decode (pm_c 91) 12 = .ok (.invokevirtual 176, 3) := by decide +kernel
theorem d91_15 : decode (pm_c 91) 15 = .ok (.ifCond .eq 47, 3) := by decide +kernel
theorem d91_18 : decode (pm_c 91) 18 = .ok (.aload_n 0, 1) := by decide +kernel
theorem d91_19 : decode (pm_c 91) 19 = .ok (.aload_n 0, 1) := by decide +kernel
theorem d91_20 : decode (pm_c 91) 20 = .ok (.getfield 33, 3) := by decide +kernel
theorem d91_23 : decode (pm_c 91) 23 = .ok (.getfield 247, 3) := by decide +kernel
theorem d91_26 : decode (pm_c 91) 26 = .ok (.iconst 3, 1) := by decide +kernel
theorem d91_27 : decode (pm_c 91) 27 = .ok (.iload_n 1, 1) := by decide +kernel
theorem d91_28 : decode (pm_c 91) 28 = .ok (.imul, 1) := by decide +kernel
theorem d91_29 : decode (pm_c 91) 29 = .ok (.iconst 1, 1) := by decide +kernel
theorem d91_30 : decode (pm_c 91) 30 = .ok (.iadd, 1) := by decide +kernel
theorem d91_31 : decode (pm_c 91) 31 = .ok (.iaload, 1) := by decide +kernel
theorem d91_32 : decode (pm_c 91) 32 = .ok (.invokevirtual 176, 3) := by decide +kernel
theorem d91_35 : decode (pm_c 91) 35 = .ok (.ifCond .eq 27, 3) := by decide +kernel
theorem d91_38 : decode (pm_c 91) 38 = .ok (.aload_n 0, 1) := by decide +kernel
theorem d91_39 : decode (pm_c 91) 39 = .ok (.aload_n 0, 1) := by decide +kernel
theorem d91_40 : decode (pm_c 91) 40 = .ok (.getfield 33, 3) := by decide +kernel
theorem d91_43 : decode (pm_c 91) 43 = .ok (.getfield 247, 3) := by decide +kernel
theorem d91_46 : decode (pm_c 91) 46 = .ok (.iconst 3, 1) := by decide +kernel
theorem d91_47 : decode (pm_c 91) 47 = .ok (.iload_n 1, 1) := by decide +kernel
theorem d91_48 : decode (pm_c 91) 48 = .ok (.imul, 1) := by decide +kernel
theorem d91_49 : decode (pm_c 91) 49 = .ok (.iconst 2, 1) := by decide +kernel
theorem d91_50 : decode (pm_c 91) 50 = .ok (.iadd, 1) := by decide +kernel
theorem d91_51 : decode (pm_c 91) 51 = .ok (.iaload, 1) := by decide +kernel
theorem d91_52 : decode (pm_c 91) 52 = .ok (.invokevirtual 176, 3) := by decide +kernel
theorem d91_55 : decode (pm_c 91) 55 = .ok (.ifCond .eq 7, 3) := by decide +kernel
theorem d91_58 : decode (pm_c 91) 58 = .ok (.iconst 1, 1) := by decide +kernel
theorem d91_59 : decode (pm_c 91) 59 = .ok (.goto 4, 3) := by decide +kernel
theorem d91_62 : decode (pm_c 91) 62 = .ok (.iconst 0, 1) := by decide +kernel
theorem d91_63 : decode (pm_c 91) 63 = .ok (.ireturn, 1) := by decide +kernel
theorem d92_0 : decode (pm_c 92) 0 = .ok (.aload_n 0, 1) := by decide +kernel
theorem d92_1 : decode (pm_c 92) 1 = .ok (.iload_n 1, 1) := by decide +kernel
theorem d92_2 : decode (pm_c 92) 2 = .ok (.invokevirtual 250, 3) := by decide +kernel
theorem d92_5 : decode (pm_c 92) 5 = .ok (.ifCond .eq 77, 3) := by decide +kernel
theorem d92_8 : decode (pm_c 92) 8 = .ok (.aload_n 0, 1) := by decide +kernel
theorem d92_9 : decode (pm_c 92) 9 = .ok (.getfield 40, 3) := by decide +kernel
theorem d92_12 : decode (pm_c 92) 12 = .ok (.getfield 227, 3) := by decide +kernel
theorem d92_15 : decode (pm_c 92) 15 = .ok (.aload_n 0, 1) := by decide +kernel
theorem d92_16 : decode (pm_c 92) 16 = .ok (.getfield 33, 3) := by decide +kernel
theorem d92_19 : decode (pm_c 92) 19 = .ok (.getfield 320, 3) := by decide +kernel
theorem d92_22 : decode (pm_c 92) 22 = .ok (.iconst 3, 1) := by decide +kernel
theorem d92_23 : decode (pm_c 92) 23 = .ok (.iload_n 1, 1) := by decide +kernel
theorem d92_24 : decode (pm_c 92) 24 = .ok (.imul, 1) := by decide +kernel
theorem d92_25 : decode (pm_c 92) 25 = .ok (.iaload, 1) := by decide +kernel
theorem d92_26 : decode (pm_c 92) 26 = .ok (.baload, 1) := by decide +kernel
theorem d92_27 : decode (pm_c 92) 27 = .ok (.ifCond .ne 55, 3) := by decide +kernel
theorem d92_30 : decode (pm_c 92) 30 = .ok (.aload_n 0, 1) := by decide +kernel
theorem d92_31 : decode (pm_c 92) 31 = .ok (.getfield 40, 3) := by decide +kernel
theorem d92_34 : decode (pm_c 92) 34 = .ok (.getfield 227, 3) := by decide +kernel
theorem d92_37 : decode (pm_c 92) 37 = .ok (.aload_n 0, 1) := by decide +kernel
theorem d92_38 : decode (pm_c 92) 38 = .ok (.getfield 33, 3) := by decide +kernel
theorem d92_41 : decode (pm_c 92) 41 = .ok (.getfield 320, 3) := by decide +kernel
theorem d92_44 : decode (pm_c 92) 44 = .ok (.iconst 3, 1) := by decide +kernel
theorem d92_45 : decode (pm_c 92) 45 = .ok (.iload_n 1, 1) := by decide +kernel
theorem d92_46 : decode (pm_c 92) 46 = .ok (.imul, 1) := by decide +kernel
theorem d92_47 : decode (pm_c 92) 47 = .ok (.iconst 1, 1) := by decide +kernel
theorem d92_48 : decode (pm_c 92) 48 = .ok (.iadd, 1) := by decide +kernel
theorem d92_49 : decode (pm_c 92) 49 = .ok (.iaload, 1) := by decide +kernel
theorem d92_50 : decode (pm_c 92) 50 = .ok (.baload, 1) := by decide +kernel
theorem d92_51 : decode (pm_c 92) 51 = .ok (.ifCond .ne 31, 3) := by decide +kernel
theorem d92_54 : decode (pm_c 92) 54 = .ok (.aload_n 0, 1) := by decide +kernel
theorem d92_55 : decode (pm_c 92) 55 = .ok (.getfield 40, 3) := by decide +kernel
theorem d92_58 : decode (pm_c 92) 58 = .ok (.getfield 227, 3) := by decide +kernel
theorem d92_61 : decode (pm_c 92) 61 = .ok (.aload_n 0, 1) := by decide +kernel
theorem d92_62 : decode (pm_c 92) 62 = .ok (.getfield 33, 3) := by decide +kernel
theorem d92_65 : decode (pm_c 92) 65 = .ok (.getfield 320, 3) := by decide +kernel
theorem d92_68 : decode (pm_c 92) 68 = .ok (.iconst 3, 1) := by decide +kernel
theorem d92_69 : decode (pm_c 92) 69 = .ok (.iload_n 1, 1) := by decide +kernel
theorem d92_70 : decode (pm_c 92) 70 = .ok (.imul, 1) := by decide +kernel
theorem d92_71 : decode (pm_c 92) 71 = .ok (.iconst 2, 1) := by decide +kernel
theorem d92_72 : decode (pm_c 92) 72 = .ok (.iadd, 1) := by decide +kernel
theorem d92_73 : decode (pm_c 92) 73 = .ok (.iaload, 1) := by decide +kernel
theorem d92_74 : decode (pm_c 92) 74 = .ok (.baload, 1) := by decide +kernel
theorem d92_75 : decode (pm_c 92) 75 = .ok (.ifCond .ne 7, 3) := by decide +kernel
theorem d92_78 : decode (pm_c 92) 78 = .ok (.iconst 1, 1) := by decide +kernel
theorem d92_79 : decode (pm_c 92) 79 = .ok (.goto 4, 3) := by decide +kernel
theorem d92_82 : decode (pm_c 92) 82 = .ok (.iconst 0, 1) := by decide +kernel
theorem d92_83 : decode (pm_c 92) 83 = .ok (.ireturn, 1) := by decide +kernel
theorem d93_0 : decode (pm_c 93) 0 = .ok (.aload_n 0, 1) := by decide +kernel
theorem d93_1 : decode (pm_c 93) 1 = .ok (.iload_n 1, 1) := by decide +kernel
theorem d93_2 : decode (pm_c 93) 2 = .ok (.invokevirtual 176, 3) := by decide +kernel
theorem d93_5 : decode (pm_c 93) 5 = .ok (.ifCond .ne 5, 3) := by decide +kernel
theorem d93_8 : decode (pm_c 93) 8 = .ok (.iconst 0, 1) := by decide +kernel
theorem d93_9 : decode (pm_c 93) 9 = .ok (.ireturn, 1) := by decide +kernel
theorem d93_10 : decode (pm_c 93) 10 = .ok (.iconst 0, 1) := by decide +kernel
theorem d93_11 : decode (pm_c 93) 11 = .ok (.istore_n 2, 1) := by decide +kernel
theorem d93_12 : decode (pm_c 93) 12 = .ok (.iload_n 2, 1) := by decide +kernel
theorem d93_13 : decode (pm_c 93) 13 = .ok (.aload_n 0, 1) := by decide +kernel
theorem d93_14 : decode (pm_c 93) 14 = .ok (.getfield 19, 3) := by decide +kernel
theorem d93_17 : decode (pm_c 93) 17 = .ok (.getfield 169, 3) := by decide +kernel
theorem d93_20 : decode (pm_c 93) 20 = .ok (.iload_n 1, 1) := by decide +kernel
theorem d93_21 : decode (pm_c 93) 21 = .ok (.iaload, 1) := by decide +kernel
theorem d93_22 : decode (pm_c 93) 22 = .ok (.if_icmp .ge 32, 3) := by decide +kernel
theorem d93_25 : decode (pm_c 93) 25 = .ok (.aload_n 0, 1) := by decide +kernel
theorem d93_26 : decode (pm_c 93) 26 = .ok (.aload_n 0, 1) := by decide +kernel
theorem d93_27 : decode (pm_c 93) 27 = .ok (.getfield 19, 3) := by decide +kernel
theorem d93_30 : decode (pm_c 93) 30 = .ok (.getfield 196, 3) := by decide +kernel
theorem d93_33 : decode (pm_c 93) 33 = .ok (.iload_n 1, 1) := by decide +kernel
theorem d93_34 : decode (pm_c 93) 34 = .ok (.bipush 6, 2) := by decide +kernel
theorem d93_36 : decode (pm_c 93) 36 = .ok (.imul, 1) := by decide +kernel
theorem d93_37 : decode (pm_c 93) 37 = .ok (.iload_n 2, 1) := by decide +kernel
theorem d93_38 : decode (pm_c 93) 38 = .ok (.iadd, 1) := by decide +kernel
theorem d93_39 : decode (pm_c 93) 39 = .ok (.iaload, 1) := by decide +kernel
theorem d93_40 : decode (pm_c 93) 40 = .ok (.invokevirtual 176, 3) := by decide +kernel
theorem d93_43 : decode (pm_c 93) 43 = .ok (.ifCond .ne 5, 3) := by decide +kernel
theorem d93_46 : decode (pm_c 93) 46 = .ok (.iconst 1, 1) := by decide +kernel
theorem d93_47 : decode (pm_c 93) 47 = .ok (.ireturn, 1) := by decide +kernel
theorem d93_48 : decode (pm_c 93) 48 = .ok (.iinc 2 1, 3) := by decide +kernel
theorem d93_51 : decode (pm_c 93) 51 = .ok (.goto (-39), 3) := by decide +kernel
theorem d93_54 : decode (pm_c 93) 54 = .ok (.iconst 0, 1) := by decide +kernel
theorem d93_55 : decode (pm_c 93) 55 = .ok (.ireturn, 1) := by decide +kernel
theorem d95_0 : decode (pm_c 95) 0 = .ok (.iconst 0, 1) := by decide +kernel
theorem d95_1 : decode (pm_c 95) 1 = .ok (.istore_n 1, 1) := by decide +kernel
theorem d95_2 : decode (pm_c 95) 2 = .ok (.iconst 0, 1) := by decide +kernel
theorem d95_3 : decode (pm_c 95) 3 = .ok (.istore_n 2, 1) := by decide +kernel
theorem d95_4 : decode (pm_c 95) 4 = .ok (.iload_n 2, 1) := by decide +kernel
theorem d95_5 : decode (pm_c 95) 5 = .ok (.aload_n 0, 1) := by decide +kernel
theorem d95_6 : decode (pm_c 95) 6 = .ok (.getfield 12, 3) := by decide +kernel
theorem d95_9 : decode (pm_c 95) 9 = .ok (.getfield 104, 3) := by decide +kernel
theorem d95_12 : decode (pm_c 95) 12 = .ok (.if_icmp .ge 20, 3) := by decide +kernel
theorem d95_15 : decode (pm_c 95) 15 = .ok (.aload_n 0, 1) := by decide +kernel
theorem d95_16 : decode (pm_c 95) 16 = .ok (.iload_n 2, 1) := by decide +kernel
theorem d95_17 : decode (pm_c 95) 17 = .ok (.invokevirtual 176, 3) := by decide +kernel
theorem d95_20 : decode (pm_c 95) 20 = .ok (.ifCond .eq 6, 3) := by decide +kernel
theorem d95_23 : decode (pm_c 95) 23 = .ok (.iinc 1 1, 3) := by decide +kernel
theorem d95_26 : decode (pm_c 95) 26 = .ok (.iinc 2 1, 3) := by decide +kernel
theorem d95_29 : decode (pm_c 95) 29 = .ok (.goto (-25), 3) := by decide +kernel
theorem d95_32 : decode (pm_c 95) 32 = .ok (.iload_n 1, 1) := by decide +kernel
theorem d95_33 : decode (pm_c 95) 33 = .ok (.ireturn, 1) := by decide +kernel
theorem d96_0 : decode (pm_c 96) 0 = .ok (.iconst 0, 1) := by decide +kernel
theorem d96_1 : decode (pm_c 96) 1 = .ok (.istore_n 1, 1) := by decide +kernel
theorem d96_2 : decode (pm_c 96) 2 = .ok (.iconst 0, 1) := by decide +kernel
theorem d96_3 : decode (pm_c 96) 3 = .ok (.istore_n 2, 1) := by decide +kernel
theorem d96_4 : decode (pm_c 96) 4 = .ok (.iload_n 2, 1) := by decide +kernel
theorem d96_5 : decode (pm_c 96) 5 = .ok (.aload_n 0, 1) := by decide +kernel
theorem d96_6 : decode (pm_c 96) 6 = .ok (.getfield 12, 3) := by decide +kernel
theorem d96_9 : decode (pm_c 96) 9 = .ok (.getfield 104, 3) := by decide +kernel
theorem d96_12 : decode (pm_c 96) 12 = .ok (.if_icmp .ge 20, 3) := by decide +kernel
theorem d96_15 : decode (pm_c 96) 15 = .ok (.aload_n 0, 1) := by decide +kernel
theorem d96_16 : decode (pm_c 96) 16 = .ok (.iload_n 2, 1) := by decide +kernel
theorem d96_17 : decode (pm_c 96) 17 = .ok (.invokevirtual 179, 3) := by decide +kernel
theorem d96_20 : decode (pm_c 96) 20 = .ok (.ifCond .eq 6, 3) := by decide +kernel
theorem d96_23 : decode (pm_c 96) 23 = .ok (.iinc 1 1, 3) := by decide +kernel
theorem d96_26 : decode (pm_c 96) 26 = .ok (.iinc 2 1, 3) := by decide +kernel
theorem d96_29 : decode (pm_c 96) 29 = .ok (.goto (-25), 3) := by decide +kernel
theorem d96_32 : decode (pm_c 96) 32 = .ok (.iload_n 1, 1) := by decide +kernel
theorem d96_33 : decode (pm_c 96) 33 = .ok (.ireturn, 1) := by decide +kernel
theorem d97_0 : decode (pm_c 97) 0 = .ok (.iconst 0, 1) := by decide +kernel
theorem d97_1 : decode (pm_c 97) 1 = .ok (.istore_n 1, 1) := by decide +kernel
theorem d97_2 : decode (pm_c 97) 2 = .ok (.iconst 0, 1) := by decide +kernel
theorem d97_3 : decode (pm_c 97) 3 = .ok (.istore_n 2, 1) := by decide +kernel
theorem d97_4 : decode (pm_c 97) 4 = .ok (.iload_n 2, 1) := by decide +kernel
theorem d97_5 : decode (pm_c 97) 5 = .ok (.aload_n 0, 1) := by decide +kernel
theorem d97_6 : decode (pm_c 97) 6 = .ok (.getfield 19, 3) := by decide +kernel
theorem d97_9 : decode (pm_c 97) 9 = .ok (.getfield 127, 3) := by decide +kernel
theorem d97_12 : decode (pm_c 97) 12 = .ok (.if_icmp .ge 20, 3) := by decide +kernel
theorem d97_15 : decode (pm_c 97) 15 = .ok (.aload_n 0, 1) := by decide +kernel
theorem d97_16 : decode (pm_c 97) 16 = .ok (.iload_n 2, 1) := by decide +kernel
theorem d97_17 : decode (pm_c 97) 17 = .ok (.invokevirtual 224, 3) := by decide +kernel
theorem d97_20 : decode (pm_c 97) 20 = .ok (.ifCond .eq 6, 3) := by decide +kernel
theorem d97_23 : decode (pm_c 97) 23 = .ok (.iinc 1 1, 3) := by decide +kernel
theorem d97_26 : decode (pm_c 97) 26 = .ok (.iinc 2 1, 3) := by decide +kernel
theorem d97_29 : decode (pm_c 97) 29 = .ok (.goto (-25), 3) := by decide +kernel
theorem d97_32 : decode (pm_c 97) 32 = .ok (.iload_n 1, 1) := by decide +kernel
theorem d97_33 : decode (pm_c 97) 33 = .ok (.ireturn, 1) := by decide +kernel
theorem d98_0 : decode (pm_c 98) 0 = .ok (.iconst 0, 1) := by decide +kernel
theorem d98_1 : decode (pm_c 98) 1 = .ok (.istore_n 1, 1) := by decide +kernel
theorem d98_2 : decode (pm_c 98) 2 = .ok (.iconst 0, 1) := by decide +kernel
theorem d98_3 : decode (pm_c 98) 3 = .ok (.istore_n 2, 1) := by decide +kernel
theorem d98_4 : decode (pm_c 98) 4 = .ok (.iload_n 2, 1) := by decide +kernel
theorem d98_5 : decode (pm_c 98) 5 = .ok (.aload_n 0, 1) := by decide +kernel
theorem d98_6 : decode (pm_c 98) 6 = .ok (.getfield 19, 3) := by decide +kernel
theorem d98_9 : decode (pm_c 98) 9 = .ok (.getfield 127, 3) := by decide +kernel
theorem d98_12 : decode (pm_c 98) 12 = .ok (.if_icmp .ge 32, 3) := by decide +kernel
theorem d98_15 : decode (pm_c 98) 15 = .ok (.aload_n 0, 1) := by decide +kernel
theorem d98_16 : decode (pm_c 98) 16 = .ok (.iload_n 2, 1) := by decide +kernel
theorem d98_17 : decode (pm_c 98) 17 = .ok (.invokevirtual 224, 3) := by decide +kernel
theorem d98_20 : decode (pm_c 98) 20 = .ok (.ifCond .eq 18, 3) := by decide +kernel
theorem d98_23 : decode (pm_c 98) 23 = .ok (.aload_n 0, 1) := by decide +kernel
theorem d98_24 : decode (pm_c 98) 24 = .ok (.getfield 40, 3) := by decide +kernel
theorem d98_27 : decode (pm_c 98) 27 = .ok (.getfield 227, 3) := by decide +kernel
theorem d98_30 : decode (pm_c 98) 30 = .ok (.iload_n 2, 1) := by decide +kernel
theorem d98_31 : decode (pm_c 98) 31 = .ok (.baload, 1) := by decide +kernel
theorem d98_32 : decode (pm_c 98) 32 = .ok (.ifCond .eq 6, 3) := by decide +kernel
theorem d98_35 : decode (pm_c 98) 35 = .ok (.iinc 1 1, 3) := by decide +kernel
theorem d98_38 : decode (pm_c 98) 38 = .ok (.iinc 2 1, 3) := by decide +kernel
theorem d98_41 : decode (pm_c 98) 41 = .ok (.goto (-37), 3) := by decide +kernel
theorem d98_44 : decode (pm_c 98) 44 = .ok (.iload_n 1, 1) := by decide +kernel
theorem d98_45 : decode (pm_c 98) 45 = .ok (.ireturn, 1) := by decide +kernel
theorem d99_0 : decode (pm_c 99) 0 = .ok (.iconst 0, 1) := by decide +kernel
theorem d99_1 : decode (pm_c 99) 1 = .ok (.istore_n 1, 1) := by decide +kernel
theorem d99_2 : decode (pm_c 99) 2 = .ok (.iconst 0, 1) := by decide +kernel
theorem d99_3 : decode (pm_c 99) 3 = .ok (.istore_n 2, 1) := by decide +kernel
theorem d99_4 : decode (pm_c 99) 4 = .ok (.iload_n 2, 1) := by decide +kernel
theorem d99_5 : decode (pm_c 99) 5 = .ok (.aload_n 0, 1) := by decide +kernel
theorem d99_6 : decode (pm_c 99) 6 = .ok (.getfield 33, 3) := by decide +kernel
theorem d99_9 : decode (pm_c 99) 9 = .ok (.getfield 128, 3) := by decide +kernel
theorem d99_12 : decode (pm_c 99) 12 = .ok (.if_icmp .ge 20, 3) := by decide +kernel
theorem d99_15 : decode (pm_c 99) 15 = .ok (.aload_n 0, 1) := by decide +kernel
theorem d99_16 : decode (pm_c 99) 16 = .ok (.iload_n 2, 1) := by decide +kernel
theorem d99_17 : decode (pm_c 99) 17 = .ok (.invokevirtual 250, 3) := by decide +kernel
theorem d99_20 : decode (pm_c 99) 20 = .ok (.ifCond .eq 6, 3) := by decide +kernel
theorem d99_23 : decode (pm_c 99) 23 = .ok (.iinc 1 1, 3) := by decide +kernel
theorem d99_26 : decode (pm_c 99) 26 = .ok (.iinc 2 1, 3) := by decide +kernel
theorem d99_29 : decode (pm_c 99) 29 = .ok (.goto (-25), 3) := by decide +kernel
theorem d99_32 : decode (pm_c 99) 32 = .ok (.iload_n 1, 1) := by decide +kernel
theorem d99_33 : decode (pm_c 99) 33 = .ok (.ireturn, 1) := by decide +kernel
theorem d100_0 : decode (pm_c 100) 0 = .ok (.iconst 0, 1) := by decide +kernel
theorem d100_1 : decode (pm_c 100) 1 = .ok (.istore_n 1, 1) := by decide +kernel
theorem d100_2 : decode (pm_c 100) 2 = .ok (.iconst 0, 1) := by decide +kernel
theorem d100_3 : decode (pm_c 100) 3 = .ok (.istore_n 2, 1) := by decide +kernel
theorem d100_4 : decode (pm_c 100) 4 = .ok (.iload_n 2, 1) := by decide +kernel
theorem d100_5 : decode (pm_c 100) 5 = .ok (.aload_n 0, 1) := by decide +kernel
theorem d100_6 : decode (pm_c 100) 6 = .ok (.getfield 33, 3) := by decide +kernel
theorem d100_9 : decode (pm_c 100) 9 = .ok (.getfield 128, 3) := by decide +kernel
theorem d100_12 : decode (pm_c 100) 12 = .ok (.if_icmp .ge 28, 3) := by decide +kernel
theorem d100_15 : decode (pm_c 100) 15 = .ok (.aload_n 0, 1) := by decide +kernel
theorem d100_16 : decode (pm_c 100) 16 = .ok (.iload_n 2, 1) := by decide +kernel
theorem d100_17 : decode (pm_c 100) 17 = .ok (.invokevirtual 250, 3) := by decide +kernel
theorem d100_20 : decode (pm_c 100) 20 = .ok (.ifCond .eq 14, 3) := by decide +kernel
theorem d100_23 : decode (pm_c 100) 23 = .ok (.aload_n 0, 1) := by decide +kernel
theorem d100_24 : decode (pm_c 100) 24 = .ok (.iload_n 2, 1) := by decide +kernel
theorem d100_25 : decode (pm_c 100) 25 = .ok (.invokevirtual 253, 3) := by decide +kernel
theorem d100_28 : decode (pm_c 100) 28 = .ok (.ifCond .ne 6, 3) := by decide +kernel
theorem d100_31 : decode (pm_c 100) 31 = .ok (.iinc 1 1, 3) := by decide +kernel
theorem d100_34 : decode (pm_c 100) 34 = .ok (.iinc 2 1, 3) := by decide +kernel
theorem d100_37 : decode (pm_c 100) 37 = .ok (.goto (-33), 3) := by decide +kernel
theorem d100_40 : decode (pm_c 100) 40 = .ok (.iload_n 1, 1) := by decide +kernel
theorem d100_41 : decode (pm_c 100) 41 = .ok (.ireturn, 1) := by decide +kernel
theorem d104_0 : decode (pm_c 104) 0 = .ok (.aload_n 0, 1) := by decide +kernel
theorem d104_1 : decode (pm_c 104) 1 = .ok (.getfield 79, 3) := by decide +kernel
theorem d104_4 : decode (pm_c 104) 4 = .ok (.iconst 0, 1) := by decide +kernel
theorem d104_5 : decode (pm_c 104) 5 = .ok (.invokestatic 326, 3) := by decide +kernel
theorem d104_8 : decode (pm_c 104) 8 = .ok (.iconst 0, 1) := by decide +kernel
theorem d104_9 : decode (pm_c 104) 9 = .ok (.istore_n 1, 1) := by decide +kernel
theorem d104_10 : decode (pm_c 104) 10 = .ok (.iload_n 1, 1) := by decide +kernel
theorem d104_11 : decode (pm_c 104) 11 = .ok (.aload_n 0, 1) := by decide +kernel
theorem d104_12 : decode (pm_c 104) 12 = .ok (.getfield 33, 3) := by decide +kernel
theorem d104_15 : decode (pm_c 104) 15 = .ok (.getfield 128, 3) := by decide +kernel
theorem d104_18 : decode (pm_c 104) 18 = .ok (.if_icmp .ge 81, 3) := by decide +kernel
theorem d104_21 : decode (pm_c 104) 21 = .ok (.aload_n 0, 1) := by decide +kernel
theorem d104_22 : decode (pm_c 104) 22 = .ok (.iload_n 1, 1) := by decide +kernel
theorem d104_23 : decode (pm_c 104) 23 = .ok (.invokevirtual 253, 3) := by decide +kernel
theorem d104_26 : decode (pm_c 104) 26 = .ok (.ifCond .eq 67, 3) := by decide +kernel
theorem d104_29 : decode (pm_c 104) 29 = .ok (.aload_n 0, 1) := by decide +kernel
theorem d104_30 : decode (pm_c 104) 30 = .ok (.getfield 79, 3) := by decide +kernel
theorem d104_33 : decode (pm_c 104) 33 = .ok (.aload_n 0, 1) := by decide +kernel
theorem d104_34 : decode (pm_c 104) 34 = .ok (.getfield 33, 3) := by decide +kernel
theorem d104_37 : decode (pm_c 104) 37 = .ok (.getfield 320, 3) := by decide +kernel
theorem d104_40 : decode (pm_c 104) 40 = .ok (.iconst 3, 1) := by decide +kernel
theorem d104_41 : decode (pm_c 104) 41 = .ok (.iload_n 1, 1) := by decide +kernel
theorem d104_42 : decode (pm_c 104) 42 = .ok (.imul, 1) := by decide +kernel
theorem d104_43 : decode (pm_c 104) 43 = .ok (.iaload, 1) := by decide +kernel
theorem d104_44 : decode (pm_c 104) 44 = .ok (.dup2, 1) := by decide +kernel
theorem d104_45 : decode (pm_c 104) 45 = .ok (.iaload, 1) := by decide +kernel
theorem d104_46 : decode (pm_c 104) 46 = .ok (.iconst 1, 1) := by decide +kernel
theorem d104_47 : decode (pm_c 104) 47 = .ok (.iadd, 1) := by decide +kernel
theorem d104_48 : decode (pm_c 104) 48 = .ok (.iastore, 1) := by decide +kernel
theorem d104_49 : decode (pm_c 104) 49 = .ok (.aload_n 0, 1) := by decide +kernel
theorem d104_50 : decode (pm_c 104) 50 = .ok (.getfield 79, 3) := by decide +kernel
theorem d104_53 : decode (pm_c 104) 53 = .ok (.aload_n 0, 1) := by decide +kernel
theorem d104_54 : decode (pm_c 104) 54 = .ok (.getfield 33, 3) := by decide +kernel
theorem d104_57 : decode (pm_c 104) 57 = .ok (.getfield 320, 3) := by decide +kernel
theorem d104_60 : decode (pm_c 104) 60 = .ok (.iconst 3, 1) := by decide +kernel
theorem d104_61 : decode (pm_c 104) 61 = .ok (.iload_n 1, 1) := by decide +kernel
theorem d104_62 : decode (pm_c 104) 62 = .ok (.imul, 1) := by decide +kernel
theorem d104_63 : decode (pm_c 104) 63 = .ok (.iconst 1, 1) := by decide +kernel
theorem d104_64 : decode (pm_c 104) 64 = .ok (.iadd, 1) := by decide +kernel
theorem d104_65 : decode (pm_c 104) 65 = .ok (.iaload, 1) := by decide +kernel
theorem d104_66 : decode (pm_c 104) 66 = .ok (.dup2, 1) := by decide +kernel
theorem d104_67 : decode (pm_c 104) 67 = .ok (.iaload, 1) := by decide +kernel
theorem d104_68 : decode (pm_c 104) 68 = .ok (.iconst 1, 1) := by decide +kernel
theorem d104_69 : decode (pm_c 104) 69 = .ok (.iadd, 1) := by decide +kernel
theorem d104_70 : decode (pm_c 104) 70 = .ok (.iastore, 1) := by decide +kernel
theorem d104_71 : decode (pm_c 104) 71 = .ok (.aload_n 0, 1) := by decide +kernel
theorem d104_72 : decode (pm_c 104) 72 = .ok (.getfield 79, 3) := by decide +kernel
theorem d104_75 : decode (pm_c 104) 75 = .ok (.aload_n 0, 1) := by decide +kernel
theorem d104_76 : decode (pm_c 104) 76 = .ok (.getfield 33, 3) := by decide +kernel
theorem d104_79 : decode (pm_c 104) 79 = .ok (.getfield 320, 3) := by decide +kernel
theorem d104_82 : decode (pm_c 104) 82 = .ok (.iconst 3, 1) := by decide +kernel
theorem d104_83 : decode (pm_c 104) 83 = .ok (.iload_n 1, 1) := by decide +kernel
theorem d104_84 : decode (pm_c 104) 84 = .ok (.imul, 1) := by decide +kernel
theorem d104_85 : decode (pm_c 104) 85 = .ok (.iconst 2, 1) := by decide +kernel
theorem d104_86 : decode (pm_c 104) 86 = .ok (.iadd, 1) := by decide +kernel
theorem d104_87 : decode (pm_c 104) 87 = .ok (.iaload, 1) := by decide +kernel
theorem d104_88 : decode (pm_c 104) 88 = .ok (.dup2, 1) := by decide +kernel
theorem d104_89 : decode (pm_c 104) 89 = .ok (.iaload, 1) := by decide +kernel
theorem d104_90 : decode (pm_c 104) 90 = .ok (.iconst 1, 1) := by decide +kernel
theorem d104_91 : decode (pm_c 104) 91 = .ok (.iadd, 1) := by decide +kernel
theorem d104_92 : decode (pm_c 104) 92 = .ok (.iastore, 1) := by decide +kernel
theorem d104_93 : decode (pm_c 104) 93 = .ok (.iinc 1 1, 3) := by decide +kernel
theorem d104_96 : decode (pm_c 104) 96 = .ok (.goto (-86), 3) := by decide +kernel
theorem d104_99 : decode (pm_c 104) 99 = .ok (.return_, 1) := by decide +kernel
theorem d105_0 : decode (pm_c 105) 0 = .ok (.aload_n 0, 1) := by decide +kernel
theorem d105_1 : decode (pm_c 105) 1 = .ok (.invokevirtual 271, 3) := by decide +kernel
theorem d105_4 : decode (pm_c 105) 4 = .ok (.aload_n 0, 1) := by decide +kernel
theorem d105_5 : decode (pm_c 105) 5 = .ok (.getfield 79, 3) := by decide +kernel
theorem d105_8 : decode (pm_c 105) 8 = .ok (.iload_n 1, 1) := by decide +kernel
theorem d105_9 : decode (pm_c 105) 9 = .ok (.iaload, 1) := by decide +kernel
theorem d105_10 : decode (pm_c 105) 10 = .ok (.ireturn, 1) := by decide +kernel
theorem d107_0 : decode (pm_c 107) 0 = .ok (.aload_n 0, 1) := by decide +kernel
theorem d107_1 : decode (pm_c 107) 1 = .ok (.getfield 61, 3) := by decide +kernel
theorem d107_4 : decode (pm_c 107) 4 = .ok (.invokevirtual 345, 3) := by decide +kernel
theorem d107_7 : decode (pm_c 107) 7 = .ok (.iconst 0, 1) := by decide +kernel
theorem d107_8 : decode (pm_c 107) 8 = .ok (.istore_n 1, 1) := by decide +kernel
theorem d107_9 : decode (pm_c 107) 9 = .ok (.iload_n 1, 1) := by decide +kernel
theorem d107_10 : decode (pm_c 107) 10 = .ok (.aload_n 0, 1) := by decide +kernel
theorem d107_11 : decode (pm_c 107) 11 = .ok (.getfield 19, 3) := by decide +kernel
theorem d107_14 : decode (pm_c 107) 14 = .ok (.getfield 127, 3) := by decide +kernel
theorem d107_17 : decode (pm_c 107) 17 = .ok (.if_icmp .ge 44, 3) := by decide +kernel
theorem d107_20 : decode (pm_c 107) 20 = .ok (.aload_n 0, 1) := by decide +kernel
theorem d107_21 : decode (pm_c 107) 21 = .ok (.getfield 26, 3) := by decide +kernel
theorem d107_24 : decode (pm_c 107) 24 = .ok (.getfield 348, 3) := by decide +kernel
theorem d107_27 : decode (pm_c 107) 27 = .ok (.iload_n 1, 1) := by decide +kernel
theorem d107_28 : decode (pm_c 107) 28 = .ok (.iaload, 1) := by decide +kernel
theorem d107_29 : decode (pm_c 107) 29 = .ok (.istore_n 2, 1) := by decide +kernel
theorem d107_30 : decode (pm_c 107) 30 = .ok (.aload_n 0, 1) := by decide +kernel
theorem d107_31 : decode (pm_c 107) 31 = .ok (.iload_n 2, 1) := by decide +kernel
theorem d107_32 : decode (pm_c 107) 32 = .ok (.invokevirtual 224, 3) := by decide +kernel
theorem d107_35 : decode (pm_c 107) 35 = .ok (.ifCond .eq 20, 3) := by decide +kernel
theorem d107_38 : decode (pm_c 107) 38 = .ok (.aload_n 0, 1) := by decide +kernel
theorem d107_39 : decode (pm_c 107) 39 = .ok (.getfield 61, 3) := by decide +kernel
theorem d107_42 : decode (pm_c 107) 42 = .ok (.iload_n 2, 1) := by decide +kernel
theorem d107_43 : decode (pm_c 107) 43 = .ok (.aload_n 0, 1) := by decide +kernel
theorem d107_44 : decode (pm_c 107) 44 = .ok (.getfield 26, 3) := by decide +kernel
theorem d107_47 : decode (pm_c 107) 47 = .ok (.getfield 218, 3) := by decide +kernel
theorem d107_50 : decode (pm_c 107) 50 = .ok (.iload_n 2, 1) := by decide +kernel
theorem d107_51 : decode (pm_c 107) 51 = .ok (.iaload, 1) := by decide +kernel
theorem d107_52 : decode (pm_c 107) 52 = .ok (.invokevirtual 351, 3) := by decide +kernel
theorem d107_55 : decode (pm_c 107) 55 = .ok (.iinc 1 1, 3) := by decide +kernel
theorem d107_58 : decode (pm_c 107) 58 = .ok (.goto (-49), 3) := by decide +kernel
theorem d107_61 : decode (pm_c 107) 61 = .ok (.return_, 1) := by decide +kernel
theorem d108_0 : decode (pm_c 108) 0 = .ok (.aload_n 0, 1) := by decide +kernel
theorem d108_1 : decode (pm_c 108) 1 = .ok (.invokevirtual 283, 3) := by decide +kernel
theorem d108_4 : decode (pm_c 108) 4 = .ok (.aload_n 0, 1) := by decide +kernel
theorem d108_5 : decode (pm_c 108) 5 = .ok (.getfield 61, 3) := by decide +kernel
theorem d108_8 : decode (pm_c 108) 8 = .ok (.aload_n 0, 1) := by decide +kernel
theorem d108_9 : decode (pm_c 108) 9 = .ok (.getfield 26, 3) := by decide +kernel
theorem d108_12 : decode (pm_c 108) 12 = .ok (.aload_n 0, 1) := by decide +kernel
theorem d108_13 : decode (pm_c 108) 13 = .ok (.getfield 40, 3) := by decide +kernel
theorem d108_16 : decode (pm_c 108) 16 = .ok (.getfield 107, 3) := by decide +kernel
theorem d108_19 : decode (pm_c 108) 19 = .ok (.invokevirtual 286, 3) := by decide +kernel
theorem d108_22 : decode (pm_c 108) 22 = .ok (.aload_n 0, 1) := by decide +kernel
theorem d108_23 : decode (pm_c 108) 23 = .ok (.getfield 61, 3) := by decide +kernel
theorem d108_26 : decode (pm_c 108) 26 = .ok (.sipush 432, 3) := by decide +kernel
theorem d108_29 : decode (pm_c 108) 29 = .ok (.iload_n 1, 1) := by decide +kernel
theorem d108_30 : decode (pm_c 108) 30 = .ok (.iload_n 2, 1) := by decide +kernel
theorem d108_31 : decode (pm_c 108) 31 = .ok (.invokevirtual 290, 3) := by decide +kernel
theorem d108_34 : decode (pm_c 108) 34 = .ok (.ireturn, 1) := by decide +kernel
theorem d109_0 : decode (pm_c 109) 0 = .ok (.aload_n 0, 1) := by decide +kernel
theorem d109_1 : decode (pm_c 109) 1 = .ok (.aload_n 0, 1) := by decide +kernel
theorem d109_2 : decode (pm_c 109) 2 = .ok (.getfield 40, 3) := by decide +kernel
theorem d109_5 : decode (pm_c 109) 5 = .ok (.getfield 118, 3) := by decide +kernel
theorem d109_8 : decode (pm_c 109) 8 = .ok (.aload_n 0, 1) := by decide +kernel
theorem d109_9 : decode (pm_c 109) 9 = .ok (.getfield 40, 3) := by decide +kernel
theorem d109_12 : decode (pm_c 109) 12 = .ok (.getfield 121, 3) := by decide +kernel
theorem d109_15 : decode (pm_c 109) 15 = .ok (.invokevirtual 114, 3) := by decide +kernel
theorem d109_18 : decode (pm_c 109) 18 = .ok (.ifCond .ne 7, 3) := by decide +kernel
theorem d109_21 : decode (pm_c 109) 21 = .ok (.sipush (-1002), 3) := by decide +kernel
theorem d109_24 : decode (pm_c 109) 24 = .ok (.ireturn, 1) := by decide +kernel
theorem d109_25 : decode (pm_c 109) 25 = .ok (.aload_n 0, 1) := by decide +kernel
theorem d109_26 : decode (pm_c 109) 26 = .ok (.iload_n 1, 1) := by decide +kernel
theorem d109_27 : decode (pm_c 109) 27 = .ok (.invokevirtual 224, 3) := by decide +kernel
theorem d109_30 : decode (pm_c 109) 30 = .ok (.ifCond .eq 15, 3) := by decide +kernel
theorem d109_33 : decode (pm_c 109) 33 = .ok (.aload_n 0, 1) := by decide +kernel
theorem d109_34 : decode (pm_c 109) 34 = .ok (.getfield 61, 3) := by decide +kernel
theorem d109_37 : decode (pm_c 109) 37 = .ok (.getfield 354, 3) := by decide +kernel
theorem d109_40 : decode (pm_c 109) 40 = .ok (.iload_n 1, 1) := by decide +kernel
theorem d109_41 : decode (pm_c 109) 41 = .ok (.iaload, 1) := by decide +kernel
theorem d109_42 : decode (pm_c 109) 42 = .ok (.goto 6, 3) := by decide +kernel
theorem d109_45 : decode (pm_c 109) 45 = .ok (.sipush (-1004), 3) := by decide +kernel
theorem d109_48 : decode (pm_c 109) 48 = .ok (.ireturn, 1) := by decide +kernel
theorem d183_0 : decode (pm_c 183) 0 = .ok (.iload_n 0, 1) := by decide +kernel
theorem d183_1 : decode (pm_c 183) 1 = .ok (.iload_n 1, 1) := by decide +kernel
theorem d183_2 : decode (pm_c 183) 2 = .ok (.if_icmp .ge 7, 3) := by decide +kernel
theorem d183_5 : decode (pm_c 183) 5 = .ok (.iconst (-1), 1) := by decide +kernel
theorem d183_6 : decode (pm_c 183) 6 = .ok (.goto 13, 3) := by decide +kernel
theorem d183_9 : decode (pm_c 183) 9 = .ok (.iload_n 0, 1) := by decide +kernel
theorem d183_10 : decode (pm_c 183) 10 = .ok (.iload_n 1, 1) := by decide +kernel
theorem d183_11 : decode (pm_c 183) 11 = .ok (.if_icmp .ne 7, 3) := by decide +kernel
theorem d183_14 : decode (pm_c 183) 14 = .ok (.iconst 0, 1) := by decide +kernel
theorem d183_15 : decode (pm_c 183) 15 = .ok (.goto 4, 3) := by decide +kernel
theorem d183_18 : decode (pm_c 183) 18 = .ok (.iconst 1, 1) := by decide +kernel
theorem d183_19 : decode (pm_c 183) 19 = .ok (.ireturn, 1) := by decide +kernel
theorem d184_0 : decode (pm_c 184) 0 = .ok (.iconst 0, 1) := by decide +kernel
theorem d184_1 : decode (pm_c 184) 1 = .ok (.istore_n 2, 1) := by decide +kernel
theorem d184_2 : decode (pm_c 184) 2 = .ok (.aload_n 0, 1) := by decide +kernel
theorem d184_3 : decode (pm_c 184) 3 = .ok (.arraylength, 1) := by decide +kernel
theorem d184_4 : decode (pm_c 184) 4 = .ok (.istore_n 3, 1) := by decide +kernel
theorem d184_5 : decode (pm_c 184) 5 = .ok (.iload_n 2, 1) := by decide +kernel
theorem d184_6 : decode (pm_c 184) 6 = .ok (.iload_n 3, 1) := by decide +kernel
theorem d184_7 : decode (pm_c 184) 7 = .ok (.if_icmp .ge 13, 3) := by decide +kernel
theorem d184_10 : decode (pm_c 184) 10 = .ok (.aload_n 0, 1) := by decide +kernel
theorem d184_11 : decode (pm_c 184) 11 = .ok (.iload_n 2, 1) := by decide +kernel
theorem d184_12 : decode (pm_c 184) 12 = .ok (.iload_n 1, 1) := by decide +kernel
theorem d184_13 : decode (pm_c 184) 13 = .ok (.iastore, 1) := by decide +kernel
theorem d184_14 : decode (pm_c 184) 14 = .ok (.iinc 2 1, 3) := by decide +kernel
theorem d184_17 : decode (pm_c 184) 17 = .ok (.goto (-12), 3) := by decide +kernel
theorem d184_20 : decode (pm_c 184) 20 = .ok (.return_, 1) := by decide +kernel
theorem d185_0 : decode (pm_c 185) 0 = .ok (.iload_n 0, 1) := by decide +kernel
theorem d185_1 : decode (pm_c 185) 1 = .ok (.ifCond .ge 8, 3) := by decide +kernel
theorem d185_4 : decode (pm_c 185) 4 = .ok (.iload_n 0, 1) := by decide +kernel
theorem d185_5 : decode (pm_c 185) 5 = .ok (.ineg, 1) := by decide +kernel
theorem d185_6 : decode (pm_c 185) 6 = .ok (.goto 4, 3) := by decide +kernel
theorem d185_9 : decode (pm_c 185) 9 = .ok (.iload_n 0, 1) := by decide +kernel
theorem d185_10 : decode (pm_c 185) 10 = .ok (.ireturn, 1) := by decide +kernel
theorem d186_0 : decode (pm_c 186) 0 = .ok (.iload_n 0, 1) := by decide +kernel
theorem d186_1 : decode (pm_c 186) 1 = .ok (.iload_n 1, 1) := by decide +kernel
theorem d186_2 : decode (pm_c 186) 2 = .ok (.if_icmp .lt 7, 3) := by decide +kernel
theorem d186_5 : decode (pm_c 186) 5 = .ok (.iload_n 0, 1) := by decide +kernel
theorem d186_6 : decode (pm_c 186) 6 = .ok (.goto 4, 3) := by decide +kernel
theorem d186_9 : decode (pm_c 186) 9 = .ok (.iload_n 1, 1) := by decide +kernel
theorem d186_10 : decode (pm_c 186) 10 = .ok (.ireturn, 1) := by decide +kernel
theorem d188_0 : decode (pm_c 188) 0 = .ok (.iload_n 1, 1) := by decide +kernel
theorem d188_1 : decode (pm_c 188) 1 = .ok (.aload_n 0, 1) := by decide +kernel
theorem d188_2 : decode (pm_c 188) 2 = .ok (.arraylength, 1) := by decide +kernel
theorem d188_3 : decode (pm_c 188) 3 = .ok (.if_icmp .ge 9, 3) := by decide +kernel
theorem d188_6 : decode (pm_c 188) 6 = .ok (.aload_n 0, 1) := by decide +kernel
theorem d188_7 : decode (pm_c 188) 7 = .ok (.iload_n 1, 1) := by decide +kernel
theorem d188_8 : decode (pm_c 188) 8 = .ok (.iaload, 1) := by decide +kernel
theorem d188_9 : decode (pm_c 188) 9 = .ok (.goto 15, 3) := by decide +kernel
theorem d188_12 : decode (pm_c 188) 12 = .ok (.sipush 7919, 3) := by decide +kernel
theorem d188_15 : decode (pm_c 188) 15 = .ok (.iload_n 1, 1) := by decide +kernel
theorem d188_16 : decode (pm_c 188) 16 = .ok (.iconst 3, 1) := by decide +kernel
theorem d188_17 : decode (pm_c 188) 17 = .ok (.iadd, 1) := by decide +kernel
theorem d188_18 : decode (pm_c 188) 18 = .ok (.imul, 1) := by decide +kernel
theorem d188_19 : decode (pm_c 188) 19 = .ok (.iload_n 1, 1) := by decide +kernel
theorem d188_20 : decode (pm_c 188) 20 = .ok (.bipush 11, 2) := by decide +kernel
theorem d188_22 : decode (pm_c 188) 22 = .ok (.iadd, 1) := by decide +kernel
theorem d188_23 : decode (pm_c 188) 23 = .ok (.imul, 1) := by decide +kernel
theorem d188_24 : decode (pm_c 188) 24 = .ok (.ireturn, 1) := by decide +kernel
theorem d189_0 : decode (pm_c 189) 0 = .ok (.iload_n 0, 1) := by decide +kernel
theorem d189_1 : decode (pm_c 189) 1 = .ok (.ldc 7, 2) := by decide +kernel
theorem d189_3 : decode (pm_c 189) 3 = .ok (.iand, 1) := by decide +kernel
theorem d189_4 : decode (pm_c 189) 4 = .ok (.iload_n 1, 1) := by decide +kernel
theorem d189_5 : decode (pm_c 189) 5 = .ok (.irem, 1) := by decide +kernel
theorem d189_6 : decode (pm_c 189) 6 = .ok (.ireturn, 1) := by decide +kernel
theorem d190_0 : decode (pm_c 190) 0 = .ok (.ldc2_w 8, 3) := by decide +kernel
theorem d190_3 : decode (pm_c 190) 3 = .ok (.lstore_n 1, 1) := by decide +kernel
theorem d190_4 : decode (pm_c 190) 4 = .ok (.iconst 0, 1) := by decide +kernel
theorem d190_5 : decode (pm_c 190) 5 = .ok (.istore_n 3, 1) := by decide +kernel
theorem d190_6 : decode (pm_c 190) 6 = .ok (.iload_n 3, 1) := by decide +kernel
theorem d190_7 : decode (pm_c 190) 7 = .ok (.bipush 19, 2) := by decide +kernel
theorem d190_9 : decode (pm_c 190) 9 = .ok (.if_icmp .ge 32, 3) := by decide +kernel
theorem d190_12 : decode (pm_c 190) 12 = .ok (.lload_n 1, 1) := by decide +kernel
theorem d190_13 : decode (pm_c 190) 13 = .ok (.ldc2_w 10, 3) := by decide +kernel
theorem d190_16 : decode (pm_c 190) 16 = .ok (.lmul, 1) := by decide +kernel
theorem d190_17 : decode (pm_c 190) 17 = .ok (.iload_n 3, 1) := by decide +kernel
theorem d190_18 : decode (pm_c 190) 18 = .ok (.bipush 16, 2) := by decide +kernel
theorem d190_20 : decode (pm_c 190) 20 = .ok (.if_icmp .ne 7, 3) := by decide +kernel
theorem d190_23 : decode (pm_c 190) 23 = .ok (.iconst 0, 1) := by decide +kernel
theorem d190_24 : decode (pm_c 190) 24 = .ok (.goto 8, 3) := by decide +kernel
theorem d190_27 : decode (pm_c 190) 27 = .ok (.aload_n 0, 1) := by decide +kernel
theorem d190_28 : decode (pm_c 190) 28 = .ok (.iload_n 3, 1) := by decide +kernel
theorem d190_29 : decode (pm_c 190) 29 = .ok (.invokevirtual 12, 3) := by decide +kernel
theorem d190_32 : decode (pm_c 190) 32 = .ok (.i2l, 1) := by decide +kernel
theorem d190_33 : decode (pm_c 190) 33 = .ok (.ladd, 1) := by decide +kernel
theorem d190_34 : decode (pm_c 190) 34 = .ok (.lstore_n 1, 1) := by decide +kernel
theorem d190_35 : decode (pm_c 190) 35 = .ok (.iinc 3 1, 3) := by decide +kernel
theorem d190_38 : decode (pm_c 190) 38 = .ok (.goto (-32), 3) := by decide +kernel
theorem d190_41 : decode (pm_c 190) 41 = .ok (.iconst 0, 1) := by decide +kernel
theorem d190_42 : decode (pm_c 190) 42 = .ok (.istore_n 3, 1) := by decide +kernel
theorem d190_43 : decode (pm_c 190) 43 = .ok (.iload_n 3, 1) := by decide +kernel
theorem d190_44 : decode (pm_c 190) 44 = .ok (.aload_n 0, 1) := by decide +kernel
theorem d190_45 : decode (pm_c 190) 45 = .ok (.iconst 2, 1) := by decide +kernel
theorem d190_46 : decode (pm_c 190) 46 = .ok (.invokevirtual 12, 3) := by decide +kernel
theorem d190_49 : decode (pm_c 190) 49 = .ok (.if_icmp .ge 47, 3) := by decide +kernel
theorem d190_52 : decode (pm_c 190) 52 = .ok (.lload_n 1, 1) := by decide +kernel
theorem d190_53 : decode (pm_c 190) 53 = .ok (.ldc2_w 18, 3) := by decide +kernel
theorem d190_56 : decode (pm_c 190) 56 = .ok (.lmul, 1) := by decide +kernel
theorem d190_57 : decode (pm_c 190) 57 = .ok (.aload_n 0, 1) := by decide +kernel
theorem d190_58 : decode (pm_c 190) 58 = .ok (.iload_n 3, 1) := by decide +kernel
theorem d190_59 : decode (pm_c 190) 59 = .ok (.iconst 3, 1) := by decide +kernel
theorem d190_60 : decode (pm_c 190) 60 = .ok (.invokevirtual 20, 3) := by decide +kernel
theorem d190_63 : decode (pm_c 190) 63 = .ok (.i2l, 1) := by decide +kernel
theorem d190_64 : decode (pm_c 190) 64 = .ok (.ladd, 1) := by decide +kernel
theorem d190_65 : decode (pm_c 190) 65 = .ok (.ldc2_w 8, 3) := by decide +kernel
theorem d190_68 : decode (pm_c 190) 68 = .ok (.aload_n 0, 1) := by decide +kernel
theorem d190_69 : decode (pm_c 190) 69 = .ok (.iload_n 3, 1) := by decide +kernel
theorem d190_70 : decode (pm_c 190) 70 = .ok (.iconst 4, 1) := by decide +kernel
theorem d190_71 : decode (pm_c 190) 71 = .ok (.invokevirtual 20, 3) := by decide +kernel
theorem d190_74 : decode (pm_c 190) 74 = .ok (.i2l, 1) := by decide +kernel
theorem d190_75 : decode (pm_c 190) 75 = .ok (.lmul, 1) := by decide +kernel
theorem d190_76 : decode (pm_c 190) 76 = .ok (.ladd, 1) := by decide +kernel
theorem d190_77 : decode (pm_c 190) 77 = .ok (.ldc2_w 24, 3) := by decide +kernel
theorem d190_80 : decode (pm_c 190) 80 = .ok (.aload_n 0, 1) := by decide +kernel
theorem d190_81 : decode (pm_c 190) 81 = .ok (.iload_n 3, 1) := by decide +kernel
theorem d190_82 : decode (pm_c 190) 82 = .ok (.iconst 5, 1) := by decide +kernel
theorem d190_83 : decode (pm_c 190) 83 = .ok (.invokevirtual 20, 3) := by decide +kernel
theorem d190_86 : decode (pm_c 190) 86 = .ok (.i2l, 1) := by decide +kernel
theorem d190_87 : decode (pm_c 190) 87 = .ok (.lmul, 1) := by decide +kernel
theorem d190_88 : decode (pm_c 190) 88 = .ok (.ladd, 1) := by decide +kernel
theorem d190_89 : decode (pm_c 190) 89 = .ok (.lstore_n 1, 1) := by decide +kernel
theorem d190_90 : decode (pm_c 190) 90 = .ok (.iinc 3 3, 3) := by decide +kernel
theorem d190_93 : decode (pm_c 190) 93 = .ok (.goto (-50), 3) := by decide +kernel
theorem d190_96 : decode (pm_c 190) 96 = .ok (.lload_n 1, 1) := by decide +kernel
theorem d190_97 : decode (pm_c 190) 97 = .ok (.lreturn, 1) := by decide +kernel
theorem d191_0 : decode (pm_c 191) 0 = .ok (.iload_n 1, 1) := by decide +kernel
theorem d191_1 : decode (pm_c 191) 1 = .ok (.bipush 15, 2) := by decide +kernel
theorem d191_3 : decode (pm_c 191) 3 = .ok (.iand, 1) := by decide +kernel
theorem d191_4 : decode (pm_c 191) 4 = .ok (.tableswitch 156 0 8 #[52, 66, 83, 83, 109, 135, 140, 140, 140], 52) := by decide +kernel
theorem d191_56 : decode (pm_c 191) 56 = .ok (.aload_n 0, 1) := by decide +kernel
theorem d191_57 : decode (pm_c 191) 57 = .ok (.iconst 1, 1) := by decide +kernel
theorem d191_58 : decode (pm_c 191) 58 = .ok (.iload_n 1, 1) := by decide +kernel
theorem d191_59 : decode (pm_c 191) 59 = .ok (.iconst 4, 1) := by decide +kernel
theorem d191_60 : decode (pm_c 191) 60 = .ok (.ishr, 1) := by decide +kernel
theorem d191_61 : decode (pm_c 191) 61 = .ok (.iconst 3, 1) := by decide +kernel
theorem d191_62 : decode (pm_c 191) 62 = .ok (.invokestatic 26, 3) := by decide +kernel
theorem d191_65 : decode (pm_c 191) 65 = .ok (.iadd, 1) := by decide +kernel
theorem d191_66 : decode (pm_c 191) 66 = .ok (.invokevirtual 31, 3) := by decide +kernel
theorem d191_69 : decode (pm_c 191) 69 = .ok (.ireturn, 1) := by decide +kernel
theorem d191_70 : decode (pm_c 191) 70 = .ok (.aload_n 0, 1) := by decide +kernel
theorem d191_71 : decode (pm_c 191) 71 = .ok (.bipush 10, 2) := by decide +kernel
theorem d191_73 : decode (pm_c 191) 73 = .ok (.iload_n 1, 1) := by decide +kernel
theorem d191_74 : decode (pm_c 191) 74 = .ok (.iconst 4, 1) := by decide +kernel
theorem d191_75 : decode (pm_c 191) 75 = .ok (.ishr, 1) := by decide +kernel
theorem d191_76 : decode (pm_c 191) 76 = .ok (.sipush 1991, 3) := by decide +kernel
theorem d191_79 : decode (pm_c 191) 79 = .ok (.invokestatic 26, 3) := by decide +kernel
theorem d191_82 : decode (pm_c 191) 82 = .ok (.iadd, 1) := by decide +kernel
theorem d191_83 : decode (pm_c 191) 83 = .ok (.invokevirtual 34, 3) := by decide +kernel
theorem d191_86 : decode (pm_c 191) 86 = .ok (.ireturn, 1) := by decide +kernel
theorem d191_87 : decode (pm_c 191) 87 = .ok (.aload_n 0, 1) := by decide +kernel
theorem d191_88 : decode (pm_c 191) 88 = .ok (.iload_n 1, 1) := by decide +kernel
theorem d191_89 : decode (pm_c 191) 89 = .ok (.iconst 4, 1) := by decide +kernel
theorem d191_90 : decode (pm_c 191) 90 = .ok (.ishr, 1) := by decide +kernel
theorem d191_91 : decode (pm_c 191) 91 = .ok (.iconst 2, 1) := by decide +kernel
theorem d191_92 : decode (pm_c 191) 92 = .ok (.aload_n 0, 1) := by decide +kernel
theorem d191_93 : decode (pm_c 191) 93 = .ok (.iconst 0, 1) := by decide +kernel
theorem d191_94 : decode (pm_c 191) 94 = .ok (.invokevirtual 12, 3) := by decide +kernel
theorem d191_97 : decode (pm_c 191) 97 = .ok (.imul, 1) := by decide +kernel
theorem d191_98 : decode (pm_c 191) 98 = .ok (.iconst 1, 1) := by decide +kernel
theorem d191_99 : decode (pm_c 191) 99 = .ok (.iadd, 1) := by decide +kernel
theorem d191_100 : decode (pm_c 191) 100 = .ok (.invokestatic 26, 3) := by decide +kernel
theorem d191_103 : decode (pm_c 191) 103 = .ok (.aload_n 0, 1) := by decide +kernel
theorem d191_104 : decode (pm_c 191) 104 = .ok (.iconst 0, 1) := by decide +kernel
theorem d191_105 : decode (pm_c 191) 105 = .ok (.invokevirtual 12, 3) := by decide +kernel
theorem d191_108 : decode (pm_c 191) 108 = .ok (.isub, 1) := by decide +kernel
theorem d191_109 : decode (pm_c 191) 109 = .ok (.invokevirtual 37, 3) := by decide +kernel
theorem d191_112 : decode (pm_c 191) 112 = .ok (.ireturn, 1) := by decide +kernel
theorem d191_113 : decode (pm_c 191) 113 = .ok (.aload_n 0, 1) := by decide +kernel
theorem d191_114 : decode (pm_c 191) 114 = .ok (.bipush 100, 2) := by decide +kernel
theorem d191_116 : decode (pm_c 191) 116 = .ok (.iload_n 1, 1) := by decide +kernel
theorem d191_117 : decode (pm_c 191) 117 = .ok (.iconst 4, 1) := by decide +kernel
theorem d191_118 : decode (pm_c 191) 118 = .ok (.ishr, 1) := by decide +kernel
theorem d191_119 : decode (pm_c 191) 119 = .ok (.sipush 6000, 3) := by decide +kernel
theorem d191_122 : decode (pm_c 191) 122 = .ok (.invokestatic 26, 3) := by decide +kernel
theorem d191_125 : decode (pm_c 191) 125 = .ok (.iadd, 1) := by decide +kernel
theorem d191_126 : decode (pm_c 191) 126 = .ok (.iload_n 1, 1) := by decide +kernel
theorem d191_127 : decode (pm_c 191) 127 = .ok (.bipush 17, 2) := by decide +kernel
theorem d191_129 : decode (pm_c 191) 129 = .ok (.ishr, 1) := by decide +kernel
theorem d191_130 : decode (pm_c 191) 130 = .ok (.bipush 21, 2) := by decide +kernel
theorem d191_132 : decode (pm_c 191) 132 = .ok (.invokestatic 26, 3) := by decide +kernel
theorem d191_135 : decode (pm_c 191) 135 = .ok (.invokevirtual 40, 3) := by decide +kernel
theorem d191_138 : decode (pm_c 191) 138 = .ok (.ireturn, 1) := by decide +kernel
theorem d191_139 : decode (pm_c 191) 139 = .ok (.aload_n 0, 1) := by decide +kernel
theorem d191_140 : decode (pm_c 191) 140 = .ok (.invokevirtual 43, 3) := by decide +kernel
theorem d191_143 : decode (pm_c 191) 143 = .ok (.ireturn, 1) := by decide +kernel
theorem d191_144 : decode (pm_c 191) 144 = .ok (.aload_n 0, 1) := by decide +kernel
theorem d191_145 : decode (pm_c 191) 145 = .ok (.iload_n 1, 1) := by decide +kernel
theorem d191_146 : decode (pm_c 191) 146 = .ok (.iconst 4, 1) := by decide +kernel
theorem d191_147 : decode (pm_c 191) 147 = .ok (.ishr, 1) := by decide +kernel
theorem d191_148 : decode (pm_c 191) 148 = .ok (.aload_n 0, 1) := by decide +kernel
theorem d191_149 : decode (pm_c 191) 149 = .ok (.iconst 2, 1) := by decide +kernel
theorem d191_150 : decode (pm_c 191) 150 = .ok (.invokevirtual 12, 3) := by decide +kernel
theorem d191_153 : decode (pm_c 191) 153 = .ok (.invokestatic 26, 3) := by decide +kernel
theorem d191_156 : decode (pm_c 191) 156 = .ok (.invokevirtual 47, 3) := by decide +kernel
theorem d191_159 : decode (pm_c 191) 159 = .ok (.ireturn, 1) := by decide +kernel
theorem d191_160 : decode (pm_c 191) 160 = .ok (.aload_n 0, 1) := by decide +kernel
theorem d191_161 : decode (pm_c 191) 161 = .ok (.iload_n 1, 1) := by decide +kernel
theorem d191_162 : decode (pm_c 191) 162 = .ok (.iconst 4, 1) := by decide +kernel
theorem d191_163 : decode (pm_c 191) 163 = .ok (.ishr, 1) := by decide +kernel
theorem d191_164 : decode (pm_c 191) 164 = .ok (.aload_n 0, 1) := by decide +kernel
theorem d191_165 : decode (pm_c 191) 165 = .ok (.iconst 2, 1) := by decide +kernel
theorem d191_166 : decode (pm_c 191) 166 = .ok (.invokevirtual 12, 3) := by decide +kernel
theorem d191_169 : decode (pm_c 191) 169 = .ok (.invokestatic 26, 3) := by decide +kernel
theorem d191_172 : decode (pm_c 191) 172 = .ok (.invokevirtual 50, 3) := by decide +kernel
theorem d191_175 : decode (pm_c 191) 175 = .ok (.ireturn, 1) := by decide +kernel
