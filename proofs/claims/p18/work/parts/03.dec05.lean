theorem dX12_isNamed_80 : decode cX12_isNamed 80 = .ok (.if_icmp .ne 7, 3) := by decide +kernel
theorem dX12_isNamed_83 : decode cX12_isNamed 83 = .ok (.iconst 1, 1) := by decide +kernel
theorem dX12_isNamed_84 : decode cX12_isNamed 84 = .ok (.goto 4, 3) := by decide +kernel
theorem dX12_isNamed_87 : decode cX12_isNamed 87 = .ok (.iconst 0, 1) := by decide +kernel
theorem dX12_isNamed_88 : decode cX12_isNamed 88 = .ok (.istore_n 3, 1) := by decide +kernel
theorem dX12_isNamed_89 : decode cX12_isNamed 89 = .ok (.iinc 4 1, 3) := by decide +kernel
theorem dX12_isNamed_92 : decode cX12_isNamed 92 = .ok (.goto (-70), 3) := by decide +kernel
theorem dX12_isNamed_95 : decode cX12_isNamed 95 = .ok (.iload_n 3, 1) := by decide +kernel
theorem dX12_isNamed_96 : decode cX12_isNamed 96 = .ok (.ireturn, 1) := by decide +kernel
theorem dX12_in_0 : decode cX12_in 0 = .ok (.iconst 0, 1) := by decide +kernel
theorem dX12_in_1 : decode cX12_in 1 = .ok (.istore_n 2, 1) := by decide +kernel
theorem dX12_in_2 : decode cX12_in 2 = .ok (.iload_n 2, 1) := by decide +kernel
theorem dX12_in_3 : decode cX12_in 3 = .ok (.aload_n 0, 1) := by decide +kernel
theorem dX12_in_4 : decode cX12_in 4 = .ok (.iconst 2, 1) := by decide +kernel
theorem dX12_in_5 : decode cX12_in 5 = .ok (.invokevirtual 118, 3) := by decide +kernel
theorem dX12_in_8 : decode cX12_in 8 = .ok (.ifCond .eq 7, 3) := by decide +kernel
theorem dX12_in_11 : decode cX12_in 11 = .ok (.iconst 2, 1) := by decide +kernel
theorem dX12_in_12 : decode cX12_in 12 = .ok (.goto 4, 3) := by decide +kernel
theorem dX12_in_15 : decode cX12_in 15 = .ok (.iconst 1, 1) := by decide +kernel
theorem dX12_in_16 : decode cX12_in 16 = .ok (.if_icmp .ge 63, 3) := by decide +kernel
theorem dX12_in_19 : decode cX12_in 19 = .ok (.iconst 1, 1) := by decide +kernel
theorem dX12_in_20 : decode cX12_in 20 = .ok (.istore_n 3, 1) := by decide +kernel
theorem dX12_in_21 : decode cX12_in 21 = .ok (.iload_n 3, 1) := by decide +kernel
theorem dX12_in_22 : decode cX12_in 22 = .ok (.aload_n 0, 1) := by decide +kernel
theorem dX12_in_23 : decode cX12_in 23 = .ok (.getfield 115, 3) := by decide +kernel
theorem dX12_in_26 : decode cX12_in 26 = .ok (.if_icmp .ge 47, 3) := by decide +kernel
theorem dX12_in_29 : decode cX12_in 29 = .ok (.aload_n 0, 1) := by decide +kernel
theorem dX12_in_30 : decode cX12_in 30 = .ok (.getfield 23, 3) := by decide +kernel
theorem dX12_in_33 : decode cX12_in 33 = .ok (.iload_n 3, 1) := by decide +kernel
theorem dX12_in_34 : decode cX12_in 34 = .ok (.baload, 1) := by decide +kernel
theorem dX12_in_35 : decode cX12_in 35 = .ok (.ifCond .ne 32, 3) := by decide +kernel
theorem dX12_in_38 : decode cX12_in 38 = .ok (.aload_n 0, 1) := by decide +kernel
theorem dX12_in_39 : decode cX12_in 39 = .ok (.getfield 26, 3) := by decide +kernel
theorem dX12_in_42 : decode cX12_in 42 = .ok (.iload_n 3, 1) := by decide +kernel
theorem dX12_in_43 : decode cX12_in 43 = .ok (.iaload, 1) := by decide +kernel
theorem dX12_in_44 : decode cX12_in 44 = .ok (.iload_n 1, 1) := by decide +kernel
theorem dX12_in_45 : decode cX12_in 45 = .ok (.if_icmp .ne 22, 3) := by decide +kernel
theorem dX12_in_48 : decode cX12_in 48 = .ok (.aload_n 0, 1) := by decide +kernel
theorem dX12_in_49 : decode cX12_in 49 = .ok (.iload_n 3, 1) := by decide +kernel
theorem dX12_in_50 : decode cX12_in 50 = .ok (.iload_n 2, 1) := by decide +kernel
theorem dX12_in_51 : decode cX12_in 51 = .ok (.ifCond .ne 7, 3) := by decide +kernel
theorem dX12_in_54 : decode cX12_in 54 = .ok (.iconst 1, 1) := by decide +kernel
theorem dX12_in_55 : decode cX12_in 55 = .ok (.goto 4, 3) := by decide +kernel
theorem dX12_in_58 : decode cX12_in 58 = .ok (.iconst 0, 1) := by decide +kernel
theorem dX12_in_59 : decode cX12_in 59 = .ok (.invokevirtual 155, 3) := by decide +kernel
theorem dX12_in_62 : decode cX12_in 62 = .ok (.ifCond .eq 5, 3) := by decide +kernel
theorem dX12_in_65 : decode cX12_in 65 = .ok (.iload_n 3, 1) := by decide +kernel
theorem dX12_in_66 : decode cX12_in 66 = .ok (.ireturn, 1) := by decide +kernel
theorem dX12_in_67 : decode cX12_in 67 = .ok (.iinc 3 1, 3) := by decide +kernel
theorem dX12_in_70 : decode cX12_in 70 = .ok (.goto (-49), 3) := by decide +kernel
theorem dX12_in_73 : decode cX12_in 73 = .ok (.iinc 2 1, 3) := by decide +kernel
theorem dX12_in_76 : decode cX12_in 76 = .ok (.goto (-74), 3) := by decide +kernel
theorem dX12_in_79 : decode cX12_in 79 = .ok (.iconst (-1), 1) := by decide +kernel
theorem dX12_in_80 : decode cX12_in 80 = .ok (.ireturn, 1) := by decide +kernel
theorem dX12_partWord_0 : decode cX12_partWord 0 = .ok (.aload_n 0, 1) := by decide +kernel
theorem dX12_partWord_1 : decode cX12_partWord 1 = .ok (.aload_n 0, 1) := by decide +kernel
theorem dX12_partWord_2 : decode cX12_partWord 2 = .ok (.getfield 51, 3) := by decide +kernel
theorem dX12_partWord_5 : decode cX12_partWord 5 = .ok (.bipush 8, 2) := by decide +kernel
theorem dX12_partWord_7 : decode cX12_partWord 7 = .ok (.iload_n 1, 1) := by decide +kernel
theorem dX12_partWord_8 : decode cX12_partWord 8 = .ok (.imul, 1) := by decide +kernel
theorem dX12_partWord_9 : decode cX12_partWord 9 = .ok (.iload_n 2, 1) := by decide +kernel
theorem dX12_partWord_10 : decode cX12_partWord 10 = .ok (.iadd, 1) := by decide +kernel
theorem dX12_partWord_11 : decode cX12_partWord 11 = .ok (.iaload, 1) := by decide +kernel
theorem dX12_partWord_12 : decode cX12_partWord 12 = .ok (.putfield 107, 3) := by decide +kernel
theorem dX12_partWord_15 : decode cX12_partWord 15 = .ok (.iconst 0, 1) := by decide +kernel
theorem dX12_partWord_16 : decode cX12_partWord 16 = .ok (.istore_n 3, 1) := by decide +kernel
theorem dX12_partWord_17 : decode cX12_partWord 17 = .ok (.iload_n 3, 1) := by decide +kernel
theorem dX12_partWord_18 : decode cX12_partWord 18 = .ok (.aload_n 0, 1) := by decide +kernel
theorem dX12_partWord_19 : decode cX12_partWord 19 = .ok (.getfield 107, 3) := by decide +kernel
theorem dX12_partWord_22 : decode cX12_partWord 22 = .ok (.if_icmp .ge 31, 3) := by decide +kernel
theorem dX12_partWord_25 : decode cX12_partWord 25 = .ok (.aload_n 0, 1) := by decide +kernel
theorem dX12_partWord_26 : decode cX12_partWord 26 = .ok (.getfield 86, 3) := by decide +kernel
theorem dX12_partWord_29 : decode cX12_partWord 29 = .ok (.iload_n 3, 1) := by decide +kernel
theorem dX12_partWord_30 : decode cX12_partWord 30 = .ok (.aload_n 0, 1) := by decide +kernel
theorem dX12_partWord_31 : decode cX12_partWord 31 = .ok (.getfield 54, 3) := by decide +kernel
theorem dX12_partWord_34 : decode cX12_partWord 34 = .ok (.bipush 16, 2) := by decide +kernel
theorem dX12_partWord_36 : decode cX12_partWord 36 = .ok (.bipush 8, 2) := by decide +kernel
theorem dX12_partWord_38 : decode cX12_partWord 38 = .ok (.iload_n 1, 1) := by decide +kernel
theorem dX12_partWord_39 : decode cX12_partWord 39 = .ok (.imul, 1) := by decide +kernel
theorem dX12_partWord_40 : decode cX12_partWord 40 = .ok (.iload_n 2, 1) := by decide +kernel
theorem dX12_partWord_41 : decode cX12_partWord 41 = .ok (.iadd, 1) := by decide +kernel
theorem dX12_partWord_42 : decode cX12_partWord 42 = .ok (.imul, 1) := by decide +kernel
theorem dX12_partWord_43 : decode cX12_partWord 43 = .ok (.iload_n 3, 1) := by decide +kernel
theorem dX12_partWord_44 : decode cX12_partWord 44 = .ok (.iadd, 1) := by decide +kernel
theorem dX12_partWord_45 : decode cX12_partWord 45 = .ok (.iaload, 1) := by decide +kernel
theorem dX12_partWord_46 : decode cX12_partWord 46 = .ok (.iastore, 1) := by decide +kernel
theorem dX12_partWord_47 : decode cX12_partWord 47 = .ok (.iinc 3 1, 3) := by decide +kernel
theorem dX12_partWord_50 : decode cX12_partWord 50 = .ok (.goto (-33), 3) := by decide +kernel
theorem dX12_partWord_53 : decode cX12_partWord 53 = .ok (.return_, 1) := by decide +kernel
theorem dX12_isInside_0 : decode cX12_isInside 0 = .ok (.iload_n 1, 1) := by decide +kernel
theorem dX12_isInside_1 : decode cX12_isInside 1 = .ok (.istore_n 2, 1) := by decide +kernel
theorem dX12_isInside_2 : decode cX12_isInside 2 = .ok (.iload_n 2, 1) := by decide +kernel
theorem dX12_isInside_3 : decode cX12_isInside 3 = .ok (.iconst 1, 1) := by decide +kernel
theorem dX12_isInside_4 : decode cX12_isInside 4 = .ok (.if_icmp .le 13, 3) := by decide +kernel
theorem dX12_isInside_7 : decode cX12_isInside 7 = .ok (.aload_n 0, 1) := by decide +kernel
theorem dX12_isInside_8 : decode cX12_isInside 8 = .ok (.getfield 26, 3) := by decide +kernel
theorem dX12_isInside_11 : decode cX12_isInside 11 = .ok (.iload_n 2, 1) := by decide +kernel
theorem dX12_isInside_12 : decode cX12_isInside 12 = .ok (.iaload, 1) := by decide +kernel
theorem dX12_isInside_13 : decode cX12_isInside 13 = .ok (.istore_n 2, 1) := by decide +kernel
theorem dX12_isInside_14 : decode cX12_isInside 14 = .ok (.goto (-12), 3) := by decide +kernel
theorem dX12_isInside_17 : decode cX12_isInside 17 = .ok (.iload_n 2, 1) := by decide +kernel
theorem dX12_isInside_18 : decode cX12_isInside 18 = .ok (.iconst 1, 1) := by decide +kernel
theorem dX12_isInside_19 : decode cX12_isInside 19 = .ok (.if_icmp .ne 7, 3) := by decide +kernel
theorem dX12_isInside_22 : decode cX12_isInside 22 = .ok (.iconst 1, 1) := by decide +kernel
theorem dX12_isInside_23 : decode cX12_isInside 23 = .ok (.goto 4, 3) := by decide +kernel
theorem dX12_isInside_26 : decode cX12_isInside 26 = .ok (.iconst 0, 1) := by decide +kernel
theorem dX12_isInside_27 : decode cX12_isInside 27 = .ok (.ireturn, 1) := by decide +kernel
theorem dX12_nextWord_0 : decode cX12_nextWord 0 = .ok (.aload_n 0, 1) := by decide +kernel
theorem dX12_nextWord_1 : decode cX12_nextWord 1 = .ok (.getfield 159, 3) := by decide +kernel
theorem dX12_nextWord_4 : decode cX12_nextWord 4 = .ok (.ifCond .le 161, 3) := by decide +kernel
theorem dX12_nextWord_7 : decode cX12_nextWord 7 = .ok (.aload_n 0, 1) := by decide +kernel
theorem dX12_nextWord_8 : decode cX12_nextWord 8 = .ok (.getfield 89, 3) := by decide +kernel
theorem dX12_nextWord_11 : decode cX12_nextWord 11 = .ok (.aload_n 0, 1) := by decide +kernel
theorem dX12_nextWord_12 : decode cX12_nextWord 12 = .ok (.getfield 159, 3) := by decide +kernel
theorem dX12_nextWord_15 : decode cX12_nextWord 15 = .ok (.iconst 1, 1) := by decide +kernel
theorem dX12_nextWord_16 : decode cX12_nextWord 16 = .ok (.isub, 1) := by decide +kernel
theorem dX12_nextWord_17 : decode cX12_nextWord 17 = .ok (.iaload, 1) := by decide +kernel
theorem dX12_nextWord_18 : decode cX12_nextWord 18 = .ok (.istore_n 1, 1) := by decide +kernel
theorem dX12_nextWord_19 : decode cX12_nextWord 19 = .ok (.aload_n 0, 1) := by decide +kernel
theorem dX12_nextWord_20 : decode cX12_nextWord 20 = .ok (.getfield 92, 3) := by decide +kernel
theorem dX12_nextWord_23 : decode cX12_nextWord 23 = .ok (.aload_n 0, 1) := by decide +kernel
theorem dX12_nextWord_24 : decode cX12_nextWord 24 = .ok (.getfield 159, 3) := by decide +kernel
theorem dX12_nextWord_27 : decode cX12_nextWord 27 = .ok (.iconst 1, 1) := by decide +kernel
theorem dX12_nextWord_28 : decode cX12_nextWord 28 = .ok (.isub, 1) := by decide +kernel
theorem dX12_nextWord_29 : decode cX12_nextWord 29 = .ok (.iaload, 1) := by decide +kernel
theorem dX12_nextWord_30 : decode cX12_nextWord 30 = .ok (.istore_n 2, 1) := by decide +kernel
theorem dX12_nextWord_31 : decode cX12_nextWord 31 = .ok (.aload_n 0, 1) := by decide +kernel
theorem dX12_nextWord_32 : decode cX12_nextWord 32 = .ok (.iconst 0, 1) := by decide +kernel
theorem dX12_nextWord_33 : decode cX12_nextWord 33 = .ok (.putfield 107, 3) := by decide +kernel
theorem dX12_nextWord_36 : decode cX12_nextWord 36 = .ok (.iload_n 2, 1) := by decide +kernel
theorem dX12_nextWord_37 : decode cX12_nextWord 37 = .ok (.aload_n 0, 1) := by decide +kernel
theorem dX12_nextWord_38 : decode cX12_nextWord 38 = .ok (.getfield 57, 3) := by decide +kernel
theorem dX12_nextWord_41 : decode cX12_nextWord 41 = .ok (.iload_n 1, 1) := by decide +kernel
theorem dX12_nextWord_42 : decode cX12_nextWord 42 = .ok (.iaload, 1) := by decide +kernel
theorem dX12_nextWord_43 : decode cX12_nextWord 43 = .ok (.if_icmp .ge 57, 3) := by decide +kernel
theorem dX12_nextWord_46 : decode cX12_nextWord 46 = .ok (.aload_n 0, 1) := by decide +kernel
theorem dX12_nextWord_47 : decode cX12_nextWord 47 = .ok (.aload_n 0, 1) := by decide +kernel
theorem dX12_nextWord_48 : decode cX12_nextWord 48 = .ok (.getfield 60, 3) := by decide +kernel
theorem dX12_nextWord_51 : decode cX12_nextWord 51 = .ok (.bipush 40, 2) := by decide +kernel
theorem dX12_nextWord_53 : decode cX12_nextWord 53 = .ok (.iload_n 1, 1) := by decide +kernel
theorem dX12_nextWord_54 : decode cX12_nextWord 54 = .ok (.imul, 1) := by decide +kernel
theorem dX12_nextWord_55 : decode cX12_nextWord 55 = .ok (.iload_n 2, 1) := by decide +kernel
theorem dX12_nextWord_56 : decode cX12_nextWord 56 = .ok (.iadd, 1) := by decide +kernel
theorem dX12_nextWord_57 : decode cX12_nextWord 57 = .ok (.iaload, 1) := by decide +kernel
theorem dX12_nextWord_58 : decode cX12_nextWord 58 = .ok (.invokevirtual 125, 3) := by decide +kernel
theorem dX12_nextWord_61 : decode cX12_nextWord 61 = .ok (.ifCond .ne 39, 3) := by decide +kernel
theorem dX12_nextWord_64 : decode cX12_nextWord 64 = .ok (.aload_n 0, 1) := by decide +kernel
theorem dX12_nextWord_65 : decode cX12_nextWord 65 = .ok (.getfield 86, 3) := by decide +kernel
theorem dX12_nextWord_68 : decode cX12_nextWord 68 = .ok (.aload_n 0, 1) := by decide +kernel
theorem dX12_nextWord_69 : decode cX12_nextWord 69 = .ok (.getfield 107, 3) := by decide +kernel
theorem dX12_nextWord_72 : decode cX12_nextWord 72 = .ok (.aload_n 0, 1) := by decide +kernel
theorem dX12_nextWord_73 : decode cX12_nextWord 73 = .ok (.getfield 60, 3) := by decide +kernel
theorem dX12_nextWord_76 : decode cX12_nextWord 76 = .ok (.bipush 40, 2) := by decide +kernel
theorem dX12_nextWord_78 : decode cX12_nextWord 78 = .ok (.iload_n 1, 1) := by decide +kernel
theorem dX12_nextWord_79 : decode cX12_nextWord 79 = .ok (.imul, 1) := by decide +kernel
theorem dX12_nextWord_80 : decode cX12_nextWord 80 = .ok (.iload_n 2, 1) := by decide +kernel
theorem dX12_nextWord_81 : decode cX12_nextWord 81 = .ok (.iadd, 1) := by decide +kernel
theorem dX12_nextWord_82 : decode cX12_nextWord 82 = .ok (.iaload, 1) := by decide +kernel
theorem dX12_nextWord_83 : decode cX12_nextWord 83 = .ok (.iastore, 1) := by decide +kernel
theorem dX12_nextWord_84 : decode cX12_nextWord 84 = .ok (.aload_n 0, 1) := by decide +kernel
theorem dX12_nextWord_85 : decode cX12_nextWord 85 = .ok (.dup, 1) := by decide +kernel
theorem dX12_nextWord_86 : decode cX12_nextWord 86 = .ok (.getfield 107, 3) := by decide +kernel
theorem dX12_nextWord_89 : decode cX12_nextWord 89 = .ok (.iconst 1, 1) := by decide +kernel
theorem dX12_nextWord_90 : decode cX12_nextWord 90 = .ok (.iadd, 1) := by decide +kernel
theorem dX12_nextWord_91 : decode cX12_nextWord 91 = .ok (.putfield 107, 3) := by decide +kernel
theorem dX12_nextWord_94 : decode cX12_nextWord 94 = .ok (.iinc 2 1, 3) := by decide +kernel
theorem dX12_nextWord_97 : decode cX12_nextWord 97 = .ok (.goto (-61), 3) := by decide +kernel
theorem dX12_nextWord_100 : decode cX12_nextWord 100 = .ok (.aload_n 0, 1) := by decide +kernel
theorem dX12_nextWord_101 : decode cX12_nextWord 101 = .ok (.getfield 92, 3) := by decide +kernel
theorem dX12_nextWord_104 : decode cX12_nextWord 104 = .ok (.aload_n 0, 1) := by decide +kernel
theorem dX12_nextWord_105 : decode cX12_nextWord 105 = .ok (.getfield 159, 3) := by decide +kernel
theorem dX12_nextWord_108 : decode cX12_nextWord 108 = .ok (.iconst 1, 1) := by decide +kernel
theorem dX12_nextWord_109 : decode cX12_nextWord 109 = .ok (.isub, 1) := by decide +kernel
theorem dX12_nextWord_110 : decode cX12_nextWord 110 = .ok (.iload_n 2, 1) := by decide +kernel
theorem dX12_nextWord_111 : decode cX12_nextWord 111 = .ok (.iconst 1, 1) := by decide +kernel
theorem dX12_nextWord_112 : decode cX12_nextWord 112 = .ok (.iadd, 1) := by decide +kernel
theorem dX12_nextWord_113 : decode cX12_nextWord 113 = .ok (.iastore, 1) := by decide +kernel
theorem dX12_nextWord_114 : decode cX12_nextWord 114 = .ok (.iload_n 2, 1) := by decide +kernel
theorem dX12_nextWord_115 : decode cX12_nextWord 115 = .ok (.aload_n 0, 1) := by decide +kernel
theorem dX12_nextWord_116 : decode cX12_nextWord 116 = .ok (.getfield 57, 3) := by decide +kernel
theorem dX12_nextWord_119 : decode cX12_nextWord 119 = .ok (.iload_n 1, 1) := by decide +kernel
theorem dX12_nextWord_120 : decode cX12_nextWord 120 = .ok (.iaload, 1) := by decide +kernel
theorem dX12_nextWord_121 : decode cX12_nextWord 121 = .ok (.if_icmp .lt 13, 3) := by decide +kernel
theorem dX12_nextWord_124 : decode cX12_nextWord 124 = .ok (.aload_n 0, 1) := by decide +kernel
theorem dX12_nextWord_125 : decode cX12_nextWord 125 = .ok (.dup, 1) := by decide +kernel
theorem dX12_nextWord_126 : decode cX12_nextWord 126 = .ok (.getfield 159, 3) := by decide +kernel
theorem dX12_nextWord_129 : decode cX12_nextWord 129 = .ok (.iconst 1, 1) := by decide +kernel
theorem dX12_nextWord_130 : decode cX12_nextWord 130 = .ok (.isub, 1) := by decide +kernel
theorem dX12_nextWord_131 : decode cX12_nextWord 131 = .ok (.putfield 159, 3) := by decide +kernel
theorem dX12_nextWord_134 : decode cX12_nextWord 134 = .ok (.aload_n 0, 1) := by decide +kernel
theorem dX12_nextWord_135 : decode cX12_nextWord 135 = .ok (.getfield 107, 3) := by decide +kernel
theorem dX12_nextWord_138 : decode cX12_nextWord 138 = .ok (.ifCond .le 24, 3) := by decide +kernel
theorem dX12_nextWord_141 : decode cX12_nextWord 141 = .ok (.aload_n 0, 1) := by decide +kernel
theorem dX12_nextWord_142 : decode cX12_nextWord 142 = .ok (.getfield 107, 3) := by decide +kernel
theorem dX12_nextWord_145 : decode cX12_nextWord 145 = .ok (.iconst 1, 1) := by decide +kernel
theorem dX12_nextWord_146 : decode cX12_nextWord 146 = .ok (.if_icmp .ne 14, 3) := by decide +kernel
theorem dX12_nextWord_149 : decode cX12_nextWord 149 = .ok (.aload_n 0, 1) := by decide +kernel
theorem dX12_nextWord_150 : decode cX12_nextWord 150 = .ok (.getfield 86, 3) := by decide +kernel
theorem dX12_nextWord_153 : decode cX12_nextWord 153 = .ok (.iconst 0, 1) := by decide +kernel
theorem dX12_nextWord_154 : decode cX12_nextWord 154 = .ok (.iaload, 1) := by decide +kernel
theorem dX12_nextWord_155 : decode cX12_nextWord 155 = .ok (.bipush 46, 2) := by decide +kernel
theorem dX12_nextWord_157 : decode cX12_nextWord 157 = .ok (.if_icmp .eq 5, 3) := by decide +kernel
theorem dX12_nextWord_160 : decode cX12_nextWord 160 = .ok (.iconst 1, 1) := by decide +kernel
theorem dX12_nextWord_161 : decode cX12_nextWord 161 = .ok (.ireturn, 1) := by decide +kernel
theorem dX12_nextWord_162 : decode cX12_nextWord 162 = .ok (.goto (-162), 3) := by decide +kernel
theorem dX12_nextWord_165 : decode cX12_nextWord 165 = .ok (.iconst 0, 1) := by decide +kernel
theorem dX12_nextWord_166 : decode cX12_nextWord 166 = .ok (.ireturn, 1) := by decide +kernel
theorem dX12_isLeft_0 : decode cX12_isLeft 0 = .ok (.iconst 0, 1) := by decide +kernel
theorem dX12_isLeft_1 : decode cX12_isLeft 1 = .ok (.istore_n 1, 1) := by decide +kernel
theorem dX12_isLeft_2 : decode cX12_isLeft 2 = .ok (.iload_n 1, 1) := by decide +kernel
theorem dX12_isLeft_3 : decode cX12_isLeft 3 = .ok (.aload_n 0, 1) := by decide +kernel
theorem dX12_isLeft_4 : decode cX12_isLeft 4 = .ok (.getfield 159, 3) := by decide +kernel
theorem dX12_isLeft_7 : decode cX12_isLeft 7 = .ok (.if_icmp .ge 128, 3) := by decide +kernel
theorem dX12_isLeft_10 : decode cX12_isLeft 10 = .ok (.aload_n 0, 1) := by decide +kernel
theorem dX12_isLeft_11 : decode cX12_isLeft 11 = .ok (.getfield 89, 3) := by decide +kernel
theorem dX12_isLeft_14 : decode cX12_isLeft 14 = .ok (.iload_n 1, 1) := by decide +kernel
theorem dX12_isLeft_15 : decode cX12_isLeft 15 = .ok (.iaload, 1) := by decide +kernel
theorem dX12_isLeft_16 : decode cX12_isLeft 16 = .ok (.istore_n 2, 1) := by decide +kernel
theorem dX12_isLeft_17 : decode cX12_isLeft 17 = .ok (.iconst 0, 1) := by decide +kernel
theorem dX12_isLeft_18 : decode cX12_isLeft 18 = .ok (.istore_n 3, 1) := by decide +kernel
theorem dX12_isLeft_19 : decode cX12_isLeft 19 = .ok (.iconst 0, 1) := by decide +kernel
theorem dX12_isLeft_20 : decode cX12_isLeft 20 = .ok (.istore 4, 2) := by decide +kernel
theorem dX12_isLeft_22 : decode cX12_isLeft 22 = .ok (.aload_n 0, 1) := by decide +kernel
theorem dX12_isLeft_23 : decode cX12_isLeft 23 = .ok (.getfield 92, 3) := by decide +kernel
theorem dX12_isLeft_26 : decode cX12_isLeft 26 = .ok (.iload_n 1, 1) := by decide +kernel
theorem dX12_isLeft_27 : decode cX12_isLeft 27 = .ok (.iaload, 1) := by decide +kernel
theorem dX12_isLeft_28 : decode cX12_isLeft 28 = .ok (.istore 5, 2) := by decide +kernel
theorem dX12_isLeft_30 : decode cX12_isLeft 30 = .ok (.iload 5, 2) := by decide +kernel
theorem dX12_isLeft_32 : decode cX12_isLeft 32 = .ok (.aload_n 0, 1) := by decide +kernel
theorem dX12_isLeft_33 : decode cX12_isLeft 33 = .ok (.getfield 57, 3) := by decide +kernel
theorem dX12_isLeft_36 : decode cX12_isLeft 36 = .ok (.iload_n 2, 1) := by decide +kernel
theorem dX12_isLeft_37 : decode cX12_isLeft 37 = .ok (.iaload, 1) := by decide +kernel
theorem dX12_isLeft_38 : decode cX12_isLeft 38 = .ok (.if_icmp .gt 91, 3) := by decide +kernel
theorem dX12_isLeft_41 : decode cX12_isLeft 41 = .ok (.iload 5, 2) := by decide +kernel
theorem dX12_isLeft_43 : decode cX12_isLeft 43 = .ok (.aload_n 0, 1) := by decide +kernel
theorem dX12_isLeft_44 : decode cX12_isLeft 44 = .ok (.getfield 57, 3) := by decide +kernel
theorem dX12_isLeft_47 : decode cX12_isLeft 47 = .ok (.iload_n 2, 1) := by decide +kernel
theorem dX12_isLeft_48 : decode cX12_isLeft 48 = .ok (.iaload, 1) := by decide +kernel
theorem dX12_isLeft_49 : decode cX12_isLeft 49 = .ok (.if_icmp .eq 22, 3) := by decide +kernel
theorem dX12_isLeft_52 : decode cX12_isLeft 52 = .ok (.aload_n 0, 1) := by decide +kernel
theorem dX12_isLeft_53 : decode cX12_isLeft 53 = .ok (.aload_n 0, 1) := by decide +kernel
theorem dX12_isLeft_54 : decode cX12_isLeft 54 = .ok (.getfield 60, 3) := by decide +kernel
theorem dX12_isLeft_57 : decode cX12_isLeft 57 = .ok (.bipush 40, 2) := by decide +kernel
theorem dX12_isLeft_59 : decode cX12_isLeft 59 = .ok (.iload_n 2, 1) := by decide +kernel
theorem dX12_isLeft_60 : decode cX12_isLeft 60 = .ok (.imul, 1) := by decide +kernel
theorem dX12_isLeft_61 : decode cX12_isLeft 61 = .ok (.iload 5, 2) := by decide +kernel
theorem dX12_isLeft_63 : decode cX12_isLeft 63 = .ok (.iadd, 1) := by decide +kernel
theorem dX12_isLeft_64 : decode cX12_isLeft 64 = .ok (.iaload, 1) := by decide +kernel
theorem dX12_isLeft_65 : decode cX12_isLeft 65 = .ok (.invokevirtual 125, 3) := by decide +kernel
theorem dX12_isLeft_68 : decode cX12_isLeft 68 = .ok (.ifCond .eq 28, 3) := by decide +kernel
theorem dX12_isLeft_71 : decode cX12_isLeft 71 = .ok (.iload_n 3, 1) := by decide +kernel
theorem dX12_isLeft_72 : decode cX12_isLeft 72 = .ok (.iconst 1, 1) := by decide +kernel
theorem dX12_isLeft_73 : decode cX12_isLeft 73 = .ok (.if_icmp .gt 13, 3) := by decide +kernel
theorem dX12_isLeft_76 : decode cX12_isLeft 76 = .ok (.iload_n 3, 1) := by decide +kernel
theorem dX12_isLeft_77 : decode cX12_isLeft 77 = .ok (.iconst 1, 1) := by decide +kernel
theorem dX12_isLeft_78 : decode cX12_isLeft 78 = .ok (.if_icmp .ne 10, 3) := by decide +kernel
theorem dX12_isLeft_81 : decode cX12_isLeft 81 = .ok (.iload 4, 2) := by decide +kernel
theorem dX12_isLeft_83 : decode cX12_isLeft 83 = .ok (.ifCond .eq 5, 3) := by decide +kernel
theorem dX12_isLeft_86 : decode cX12_isLeft 86 = .ok (.iconst 1, 1) := by decide +kernel
theorem dX12_isLeft_87 : decode cX12_isLeft 87 = .ok (.ireturn, 1) := by decide +kernel
theorem dX12_isLeft_88 : decode cX12_isLeft 88 = .ok (.iconst 0, 1) := by decide +kernel
theorem dX12_isLeft_89 : decode cX12_isLeft 89 = .ok (.istore_n 3, 1) := by decide +kernel
theorem dX12_isLeft_90 : decode cX12_isLeft 90 = .ok (.iconst 0, 1) := by decide +kernel
theorem dX12_isLeft_91 : decode cX12_isLeft 91 = .ok (.istore 4, 2) := by decide +kernel
theorem dX12_isLeft_93 : decode cX12_isLeft 93 = .ok (.goto 30, 3) := by decide +kernel
theorem dX12_isLeft_96 : decode cX12_isLeft 96 = .ok (.iinc 3 1, 3) := by decide +kernel
theorem dX12_isLeft_99 : decode cX12_isLeft 99 = .ok (.aload_n 0, 1) := by decide +kernel
theorem dX12_isLeft_100 : decode cX12_isLeft 100 = .ok (.getfield 60, 3) := by decide +kernel
theorem dX12_isLeft_103 : decode cX12_isLeft 103 = .ok (.bipush 40, 2) := by decide +kernel
theorem dX12_isLeft_105 : decode cX12_isLeft 105 = .ok (.iload_n 2, 1) := by decide +kernel
theorem dX12_isLeft_106 : decode cX12_isLeft 106 = .ok (.imul, 1) := by decide +kernel
theorem dX12_isLeft_107 : decode cX12_isLeft 107 = .ok (.iload 5, 2) := by decide +kernel
theorem dX12_isLeft_109 : decode cX12_isLeft 109 = .ok (.iadd, 1) := by decide +kernel
theorem dX12_isLeft_110 : decode cX12_isLeft 110 = .ok (.iaload, 1) := by decide +kernel
theorem dX12_isLeft_111 : decode cX12_isLeft 111 = .ok (.bipush 46, 2) := by decide +kernel
theorem dX12_isLeft_113 : decode cX12_isLeft 113 = .ok (.if_icmp .eq 7, 3) := by decide +kernel
theorem dX12_isLeft_116 : decode cX12_isLeft 116 = .ok (.iconst 1, 1) := by decide +kernel
theorem dX12_isLeft_117 : decode cX12_isLeft 117 = .ok (.goto 4, 3) := by decide +kernel
theorem dX12_isLeft_120 : decode cX12_isLeft 120 = .ok (.iconst 0, 1) := by decide +kernel
theorem dX12_isLeft_121 : decode cX12_isLeft 121 = .ok (.istore 4, 2) := by decide +kernel
theorem dX12_isLeft_123 : decode cX12_isLeft 123 = .ok (.iinc 5 1, 3) := by decide +kernel
theorem dX12_isLeft_126 : decode cX12_isLeft 126 = .ok (.goto (-96), 3) := by decide +kernel
theorem dX12_isLeft_129 : decode cX12_isLeft 129 = .ok (.iinc 1 1, 3) := by decide +kernel
theorem dX12_isLeft_132 : decode cX12_isLeft 132 = .ok (.goto (-130), 3) := by decide +kernel
theorem dX12_isLeft_135 : decode cX12_isLeft 135 = .ok (.iconst 0, 1) := by decide +kernel
theorem dX12_isLeft_136 : decode cX12_isLeft 136 = .ok (.ireturn, 1) := by decide +kernel
theorem dX12_startOf_0 : decode cX12_startOf 0 = .ok (.aload_n 0, 1) := by decide +kernel
theorem dX12_startOf_1 : decode cX12_startOf 1 = .ok (.aload_n 0, 1) := by decide +kernel
theorem dX12_startOf_2 : decode cX12_startOf 2 = .ok (.getfield 60, 3) := by decide +kernel
theorem dX12_startOf_5 : decode cX12_startOf 5 = .ok (.bipush 40, 2) := by decide +kernel
theorem dX12_startOf_7 : decode cX12_startOf 7 = .ok (.iload_n 1, 1) := by decide +kernel
theorem dX12_startOf_8 : decode cX12_startOf 8 = .ok (.imul, 1) := by decide +kernel
theorem dX12_startOf_9 : decode cX12_startOf 9 = .ok (.iaload, 1) := by decide +kernel
theorem dX12_startOf_10 : decode cX12_startOf 10 = .ok (.invokevirtual 125, 3) := by decide +kernel
theorem dX12_startOf_13 : decode cX12_startOf 13 = .ok (.ifCond .eq 7, 3) := by decide +kernel
theorem dX12_startOf_16 : decode cX12_startOf 16 = .ok (.iconst 0, 1) := by decide +kernel
theorem dX12_startOf_17 : decode cX12_startOf 17 = .ok (.goto 4, 3) := by decide +kernel
theorem dX12_startOf_20 : decode cX12_startOf 20 = .ok (.iload_n 2, 1) := by decide +kernel
theorem dX12_startOf_21 : decode cX12_startOf 21 = .ok (.ireturn, 1) := by decide +kernel
theorem dX12_leads_0 : decode cX12_leads 0 = .ok (.aload_n 0, 1) := by decide +kernel
theorem dX12_leads_1 : decode cX12_leads 1 = .ok (.getfield 89, 3) := by decide +kernel
theorem dX12_leads_4 : decode cX12_leads 4 = .ok (.iconst 0, 1) := by decide +kernel
theorem dX12_leads_5 : decode cX12_leads 5 = .ok (.iload_n 1, 1) := by decide +kernel
theorem dX12_leads_6 : decode cX12_leads 6 = .ok (.iastore, 1) := by decide +kernel
theorem dX12_leads_7 : decode cX12_leads 7 = .ok (.aload_n 0, 1) := by decide +kernel
theorem dX12_leads_8 : decode cX12_leads 8 = .ok (.getfield 92, 3) := by decide +kernel
theorem dX12_leads_11 : decode cX12_leads 11 = .ok (.iconst 0, 1) := by decide +kernel
theorem dX12_leads_12 : decode cX12_leads 12 = .ok (.iconst 0, 1) := by decide +kernel
theorem dX12_leads_13 : decode cX12_leads 13 = .ok (.iastore, 1) := by decide +kernel
theorem dX12_leads_14 : decode cX12_leads 14 = .ok (.aload_n 0, 1) := by decide +kernel
theorem dX12_leads_15 : decode cX12_leads 15 = .ok (.iconst 1, 1) := by decide +kernel
theorem dX12_leads_16 : decode cX12_leads 16 = .ok (.putfield 159, 3) := by decide +kernel
theorem dX12_leads_19 : decode cX12_leads 19 = .ok (.aload_n 0, 1) := by decide +kernel
theorem dX12_leads_20 : decode cX12_leads 20 = .ok (.iload_n 1, 1) := by decide +kernel
theorem dX12_leads_21 : decode cX12_leads 21 = .ok (.iload_n 2, 1) := by decide +kernel
theorem dX12_leads_22 : decode cX12_leads 22 = .ok (.invokevirtual 162, 3) := by decide +kernel
theorem dX12_leads_25 : decode cX12_leads 25 = .ok (.istore 4, 2) := by decide +kernel
theorem dX12_leads_27 : decode cX12_leads 27 = .ok (.iload 4, 2) := by decide +kernel
theorem dX12_leads_29 : decode cX12_leads 29 = .ok (.iload_n 2, 1) := by decide +kernel
theorem dX12_leads_30 : decode cX12_leads 30 = .ok (.if_icmp .ne 7, 3) := by decide +kernel
theorem dX12_leads_33 : decode cX12_leads 33 = .ok (.iload_n 3, 1) := by decide +kernel
theorem dX12_leads_34 : decode cX12_leads 34 = .ok (.goto 4, 3) := by decide +kernel
theorem dX12_leads_37 : decode cX12_leads 37 = .ok (.iconst 0, 1) := by decide +kernel
theorem dX12_leads_38 : decode cX12_leads 38 = .ok (.istore 5, 2) := by decide +kernel
theorem dX12_leads_40 : decode cX12_leads 40 = .ok (.aload_n 0, 1) := by decide +kernel
theorem dX12_leads_41 : decode cX12_leads 41 = .ok (.aload_n 0, 1) := by decide +kernel
theorem dX12_leads_42 : decode cX12_leads 42 = .ok (.getfield 60, 3) := by decide +kernel
theorem dX12_leads_45 : decode cX12_leads 45 = .ok (.bipush 40, 2) := by decide +kernel
theorem dX12_leads_47 : decode cX12_leads 47 = .ok (.iload_n 1, 1) := by decide +kernel
theorem dX12_leads_48 : decode cX12_leads 48 = .ok (.imul, 1) := by decide +kernel
theorem dX12_leads_49 : decode cX12_leads 49 = .ok (.iaload, 1) := by decide +kernel
theorem dX12_leads_50 : decode cX12_leads 50 = .ok (.invokevirtual 125, 3) := by decide +kernel
theorem dX12_leads_53 : decode cX12_leads 53 = .ok (.ifCond .eq 6, 3) := by decide +kernel
theorem dX12_leads_56 : decode cX12_leads 56 = .ok (.iconst 0, 1) := by decide +kernel
theorem dX12_leads_57 : decode cX12_leads 57 = .ok (.istore 5, 2) := by decide +kernel
theorem dX12_leads_59 : decode cX12_leads 59 = .ok (.iconst 0, 1) := by decide +kernel
theorem dX12_leads_60 : decode cX12_leads 60 = .ok (.istore 6, 2) := by decide +kernel
theorem dX12_leads_62 : decode cX12_leads 62 = .ok (.aload_n 0, 1) := by decide +kernel
theorem dX12_leads_63 : decode cX12_leads 63 = .ok (.iload 4, 2) := by decide +kernel
theorem dX12_leads_65 : decode cX12_leads 65 = .ok (.invokevirtual 165, 3) := by decide +kernel
theorem dX12_leads_68 : decode cX12_leads 68 = .ok (.ifCond .ne 5, 3) := by decide +kernel
theorem dX12_leads_71 : decode cX12_leads 71 = .ok (.iconst (-1), 1) := by decide +kernel
theorem dX12_leads_72 : decode cX12_leads 72 = .ok (.ireturn, 1) := by decide +kernel
theorem dX12_leads_73 : decode cX12_leads 73 = .ok (.aload_n 0, 1) := by decide +kernel
theorem dX12_leads_74 : decode cX12_leads 74 = .ok (.invokevirtual 168, 3) := by decide +kernel
theorem dX12_leads_77 : decode cX12_leads 77 = .ok (.ifCond .eq 198, 3) := by decide +kernel
theorem dX12_leads_80 : decode cX12_leads 80 = .ok (.iload 5, 2) := by decide +kernel
theorem dX12_leads_82 : decode cX12_leads 82 = .ok (.ifCond .le 23, 3) := by decide +kernel
theorem dX12_leads_85 : decode cX12_leads 85 = .ok (.iload 5, 2) := by decide +kernel
theorem dX12_leads_87 : decode cX12_leads 87 = .ok (.aload_n 0, 1) := by decide +kernel
theorem dX12_leads_88 : decode cX12_leads 88 = .ok (.invokevirtual 139, 3) := by decide +kernel
theorem dX12_leads_91 : decode cX12_leads 91 = .ok (.ifCond .eq 7, 3) := by decide +kernel
theorem dX12_leads_94 : decode cX12_leads 94 = .ok (.iconst (-1), 1) := by decide +kernel
theorem dX12_leads_95 : decode cX12_leads 95 = .ok (.goto 4, 3) := by decide +kernel
theorem dX12_leads_98 : decode cX12_leads 98 = .ok (.iconst 1, 1) := by decide +kernel
theorem dX12_leads_99 : decode cX12_leads 99 = .ok (.iadd, 1) := by decide +kernel
theorem dX12_leads_100 : decode cX12_leads 100 = .ok (.istore 5, 2) := by decide +kernel
theorem dX12_leads_102 : decode cX12_leads 102 = .ok (.goto 162, 3) := by decide +kernel
theorem dX12_leads_105 : decode cX12_leads 105 = .ok (.aload_n 0, 1) := by decide +kernel
theorem dX12_leads_106 : decode cX12_leads 106 = .ok (.invokevirtual 139, 3) := by decide +kernel
theorem dX12_leads_109 : decode cX12_leads 109 = .ok (.ifCond .eq 15, 3) := by decide +kernel
theorem dX12_leads_112 : decode cX12_leads 112 = .ok (.aload_n 0, 1) := by decide +kernel
theorem dX12_leads_113 : decode cX12_leads 113 = .ok (.getfield 26, 3) := by decide +kernel
theorem dX12_leads_116 : decode cX12_leads 116 = .ok (.iload 4, 2) := by decide +kernel
theorem dX12_leads_118 : decode cX12_leads 118 = .ok (.iaload, 1) := by decide +kernel
theorem dX12_leads_119 : decode cX12_leads 119 = .ok (.istore 4, 2) := by decide +kernel
theorem dX12_leads_121 : decode cX12_leads 121 = .ok (.goto 143, 3) := by decide +kernel
theorem dX12_leads_124 : decode cX12_leads 124 = .ok (.aload_n 0, 1) := by decide +kernel
theorem dX12_leads_125 : decode cX12_leads 125 = .ok (.iload 4, 2) := by decide +kernel
theorem dX12_leads_127 : decode cX12_leads 127 = .ok (.invokevirtual 171, 3) := by decide +kernel
theorem dX12_leads_130 : decode cX12_leads 130 = .ok (.istore 7, 2) := by decide +kernel
theorem dX12_leads_132 : decode cX12_leads 132 = .ok (.iload 7, 2) := by decide +kernel
theorem dX12_leads_134 : decode cX12_leads 134 = .ok (.iconst (-1), 1) := by decide +kernel
theorem dX12_leads_135 : decode cX12_leads 135 = .ok (.if_icmp .ne 9, 3) := by decide +kernel
theorem dX12_leads_138 : decode cX12_leads 138 = .ok (.iconst 1, 1) := by decide +kernel
theorem dX12_leads_139 : decode cX12_leads 139 = .ok (.istore 5, 2) := by decide +kernel
theorem dX12_leads_141 : decode cX12_leads 141 = .ok (.goto 123, 3) := by decide +kernel
theorem dX12_leads_144 : decode cX12_leads 144 = .ok (.aload_n 0, 1) := by decide +kernel
theorem dX12_leads_145 : decode cX12_leads 145 = .ok (.getfield 13, 3) := by decide +kernel
theorem dX12_leads_148 : decode cX12_leads 148 = .ok (.iload 7, 2) := by decide +kernel
theorem dX12_leads_150 : decode cX12_leads 150 = .ok (.iaload, 1) := by decide +kernel
theorem dX12_leads_151 : decode cX12_leads 151 = .ok (.ifCond .ne 10, 3) := by decide +kernel
theorem dX12_leads_154 : decode cX12_leads 154 = .ok (.iload 7, 2) := by decide +kernel
theorem dX12_leads_156 : decode cX12_leads 156 = .ok (.istore 4, 2) := by decide +kernel
theorem dX12_leads_158 : decode cX12_leads 158 = .ok (.goto 106, 3) := by decide +kernel
theorem dX12_leads_161 : decode cX12_leads 161 = .ok (.aload_n 0, 1) := by decide +kernel
theorem dX12_leads_162 : decode cX12_leads 162 = .ok (.getfield 13, 3) := by decide +kernel
theorem dX12_leads_165 : decode cX12_leads 165 = .ok (.iload 7, 2) := by decide +kernel
theorem dX12_leads_167 : decode cX12_leads 167 = .ok (.iaload, 1) := by decide +kernel
theorem dX12_leads_168 : decode cX12_leads 168 = .ok (.iconst 2, 1) := by decide +kernel
theorem dX12_leads_169 : decode cX12_leads 169 = .ok (.if_icmp .ne 80, 3) := by decide +kernel
theorem dX12_leads_172 : decode cX12_leads 172 = .ok (.aload_n 0, 1) := by decide +kernel
theorem dX12_leads_173 : decode cX12_leads 173 = .ok (.getfield 20, 3) := by decide +kernel
theorem dX12_leads_176 : decode cX12_leads 176 = .ok (.iload 7, 2) := by decide +kernel
theorem dX12_leads_178 : decode cX12_leads 178 = .ok (.baload, 1) := by decide +kernel
theorem dX12_leads_179 : decode cX12_leads 179 = .ok (.ifCond .ne 70, 3) := by decide +kernel
theorem dX12_leads_182 : decode cX12_leads 182 = .ok (.iload 6, 2) := by decide +kernel
theorem dX12_leads_184 : decode cX12_leads 184 = .ok (.bipush 20, 2) := by decide +kernel
theorem dX12_leads_186 : decode cX12_leads 186 = .ok (.if_icmp .ne 6, 3) := by decide +kernel
theorem dX12_leads_189 : decode cX12_leads 189 = .ok (.bipush (-3), 2) := by decide +kernel
theorem dX12_leads_191 : decode cX12_leads 191 = .ok (.ireturn, 1) := by decide +kernel
theorem dX12_leads_192 : decode cX12_leads 192 = .ok (.iinc 6 1, 3) := by decide +kernel
theorem dX12_leads_195 : decode cX12_leads 195 = .ok (.aload_n 0, 1) := by decide +kernel
theorem dX12_leads_196 : decode cX12_leads 196 = .ok (.getfield 89, 3) := by decide +kernel
theorem dX12_leads_199 : decode cX12_leads 199 = .ok (.aload_n 0, 1) := by decide +kernel
theorem dX12_leads_200 : decode cX12_leads 200 = .ok (.getfield 159, 3) := by decide +kernel
theorem dX12_leads_203 : decode cX12_leads 203 = .ok (.aload_n 0, 1) := by decide +kernel
theorem dX12_leads_204 : decode cX12_leads 204 = .ok (.getfield 29, 3) := by decide +kernel
theorem dX12_leads_207 : decode cX12_leads 207 = .ok (.iload 7, 2) := by decide +kernel
theorem dX12_leads_209 : decode cX12_leads 209 = .ok (.iaload, 1) := by decide +kernel
theorem dX12_leads_210 : decode cX12_leads 210 = .ok (.iastore, 1) := by decide +kernel
theorem dX12_leads_211 : decode cX12_leads 211 = .ok (.aload_n 0, 1) := by decide +kernel
theorem dX12_leads_212 : decode cX12_leads 212 = .ok (.getfield 92, 3) := by decide +kernel
theorem dX12_leads_215 : decode cX12_leads 215 = .ok (.aload_n 0, 1) := by decide +kernel
theorem dX12_leads_216 : decode cX12_leads 216 = .ok (.getfield 159, 3) := by decide +kernel
theorem dX12_leads_219 : decode cX12_leads 219 = .ok (.iconst 0, 1) := by decide +kernel
theorem dX12_leads_220 : decode cX12_leads 220 = .ok (.iastore, 1) := by decide +kernel
theorem dX12_leads_221 : decode cX12_leads 221 = .ok (.aload_n 0, 1) := by decide +kernel
theorem dX12_leads_222 : decode cX12_leads 222 = .ok (.dup, 1) := by decide +kernel
theorem dX12_leads_223 : decode cX12_leads 223 = .ok (.getfield 159, 3) := by decide +kernel
theorem dX12_leads_226 : decode cX12_leads 226 = .ok (.iconst 1, 1) := by decide +kernel
theorem dX12_leads_227 : decode cX12_leads 227 = .ok (.iadd, 1) := by decide +kernel
theorem dX12_leads_228 : decode cX12_leads 228 = .ok (.putfield 159, 3) := by decide +kernel
theorem dX12_leads_231 : decode cX12_leads 231 = .ok (.aload_n 0, 1) := by decide +kernel
theorem dX12_leads_232 : decode cX12_leads 232 = .ok (.aload_n 0, 1) := by decide +kernel
theorem dX12_leads_233 : decode cX12_leads 233 = .ok (.getfield 29, 3) := by decide +kernel
theorem dX12_leads_236 : decode cX12_leads 236 = .ok (.iload 7, 2) := by decide +kernel
theorem dX12_leads_238 : decode cX12_leads 238 = .ok (.iaload, 1) := by decide +kernel
theorem dX12_leads_239 : decode cX12_leads 239 = .ok (.iload 4, 2) := by decide +kernel
theorem dX12_leads_241 : decode cX12_leads 241 = .ok (.invokevirtual 162, 3) := by decide +kernel
theorem dX12_leads_244 : decode cX12_leads 244 = .ok (.istore 4, 2) := by decide +kernel
theorem dX12_leads_246 : decode cX12_leads 246 = .ok (.goto 18, 3) := by decide +kernel
theorem dX12_leads_249 : decode cX12_leads 249 = .ok (.aload_n 0, 1) := by decide +kernel
theorem dX12_leads_250 : decode cX12_leads 250 = .ok (.invokevirtual 174, 3) := by decide +kernel
theorem dX12_leads_253 : decode cX12_leads 253 = .ok (.ifCond .eq 8, 3) := by decide +kernel
theorem dX12_leads_256 : decode cX12_leads 256 = .ok (.bipush (-2), 2) := by decide +kernel
theorem dX12_leads_258 : decode cX12_leads 258 = .ok (.goto 5, 3) := by decide +kernel
theorem dX12_leads_261 : decode cX12_leads 261 = .ok (.iload 7, 2) := by decide +kernel
theorem dX12_leads_263 : decode cX12_leads 263 = .ok (.ireturn, 1) := by decide +kernel
theorem dX12_leads_264 : decode cX12_leads 264 = .ok (.aload_n 0, 1) := by decide +kernel
theorem dX12_leads_265 : decode cX12_leads 265 = .ok (.iload 4, 2) := by decide +kernel
theorem dX12_leads_267 : decode cX12_leads 267 = .ok (.invokevirtual 165, 3) := by decide +kernel
theorem dX12_leads_270 : decode cX12_leads 270 = .ok (.ifCond .ne (-197), 3) := by decide +kernel
theorem dX12_leads_273 : decode cX12_leads 273 = .ok (.iconst (-1), 1) := by decide +kernel
theorem dX12_leads_274 : decode cX12_leads 274 = .ok (.ireturn, 1) := by decide +kernel
theorem dX12_leads_275 : decode cX12_leads 275 = .ok (.iload 5, 2) := by decide +kernel
theorem dX12_leads_277 : decode cX12_leads 277 = .ok (.ifCond .le 8, 3) := by decide +kernel
theorem dX12_leads_280 : decode cX12_leads 280 = .ok (.bipush (-2), 2) := by decide +kernel
theorem dX12_leads_282 : decode cX12_leads 282 = .ok (.goto 5, 3) := by decide +kernel
theorem dX12_leads_285 : decode cX12_leads 285 = .ok (.iload 4, 2) := by decide +kernel
theorem dX12_leads_287 : decode cX12_leads 287 = .ok (.ireturn, 1) := by decide +kernel
theorem dX12_lead_0 : decode cX12_lead 0 = .ok (.iload_n 1, 1) := by decide +kernel
theorem dX12_lead_1 : decode cX12_lead 1 = .ok (.ifCond .lt 20, 3) := by decide +kernel
theorem dX12_lead_4 : decode cX12_lead 4 = .ok (.iload_n 1, 1) := by decide +kernel
theorem dX12_lead_5 : decode cX12_lead 5 = .ok (.aload_n 0, 1) := by decide +kernel
theorem dX12_lead_6 : decode cX12_lead 6 = .ok (.getfield 115, 3) := by decide +kernel
theorem dX12_lead_9 : decode cX12_lead 9 = .ok (.if_icmp .ge 12, 3) := by decide +kernel
theorem dX12_lead_12 : decode cX12_lead 12 = .ok (.aload_n 0, 1) := by decide +kernel
theorem dX12_lead_13 : decode cX12_lead 13 = .ok (.getfield 23, 3) := by decide +kernel
theorem dX12_lead_16 : decode cX12_lead 16 = .ok (.iload_n 1, 1) := by decide +kernel
theorem dX12_lead_17 : decode cX12_lead 17 = .ok (.baload, 1) := by decide +kernel
theorem dX12_lead_18 : decode cX12_lead 18 = .ok (.ifCond .eq 6, 3) := by decide +kernel
theorem dX12_lead_21 : decode cX12_lead 21 = .ok (.bipush (-7), 2) := by decide +kernel
theorem dX12_lead_23 : decode cX12_lead 23 = .ok (.ireturn, 1) := by decide +kernel
theorem dX12_lead_24 : decode cX12_lead 24 = .ok (.aload_n 0, 1) := by decide +kernel
theorem dX12_lead_25 : decode cX12_lead 25 = .ok (.getfield 13, 3) := by decide +kernel
theorem dX12_lead_28 : decode cX12_lead 28 = .ok (.iload_n 1, 1) := by decide +kernel
theorem dX12_lead_29 : decode cX12_lead 29 = .ok (.iaload, 1) := by decide +kernel
theorem dX12_lead_30 : decode cX12_lead 30 = .ok (.iconst 2, 1) := by decide +kernel
theorem dX12_lead_31 : decode cX12_lead 31 = .ok (.if_icmp .eq 5, 3) := by decide +kernel
theorem dX12_lead_34 : decode cX12_lead 34 = .ok (.iload_n 1, 1) := by decide +kernel
theorem dX12_lead_35 : decode cX12_lead 35 = .ok (.ireturn, 1) := by decide +kernel
theorem dX12_lead_36 : decode cX12_lead 36 = .ok (.aload_n 0, 1) := by decide +kernel
theorem dX12_lead_37 : decode cX12_lead 37 = .ok (.getfield 20, 3) := by decide +kernel
theorem dX12_lead_40 : decode cX12_lead 40 = .ok (.iload_n 1, 1) := by decide +kernel
theorem dX12_lead_41 : decode cX12_lead 41 = .ok (.baload, 1) := by decide +kernel
theorem dX12_lead_42 : decode cX12_lead 42 = .ok (.ifCond .eq 8, 3) := by decide +kernel
theorem dX12_lead_45 : decode cX12_lead 45 = .ok (.bipush (-2), 2) := by decide +kernel
theorem dX12_lead_47 : decode cX12_lead 47 = .ok (.goto 20, 3) := by decide +kernel
theorem dX12_lead_50 : decode cX12_lead 50 = .ok (.aload_n 0, 1) := by decide +kernel
theorem dX12_lead_51 : decode cX12_lead 51 = .ok (.aload_n 0, 1) := by decide +kernel
theorem dX12_lead_52 : decode cX12_lead 52 = .ok (.getfield 29, 3) := by decide +kernel
theorem dX12_lead_55 : decode cX12_lead 55 = .ok (.iload_n 1, 1) := by decide +kernel
theorem dX12_lead_56 : decode cX12_lead 56 = .ok (.iaload, 1) := by decide +kernel
theorem dX12_lead_57 : decode cX12_lead 57 = .ok (.aload_n 0, 1) := by decide +kernel
theorem dX12_lead_58 : decode cX12_lead 58 = .ok (.getfield 26, 3) := by decide +kernel
theorem dX12_lead_61 : decode cX12_lead 61 = .ok (.iload_n 1, 1) := by decide +kernel
theorem dX12_lead_62 : decode cX12_lead 62 = .ok (.iaload, 1) := by decide +kernel
theorem dX12_lead_63 : decode cX12_lead 63 = .ok (.iconst 0, 1) := by decide +kernel
theorem dX12_lead_64 : decode cX12_lead 64 = .ok (.invokevirtual 177, 3) := by decide +kernel
theorem dX12_lead_67 : decode cX12_lead 67 = .ok (.ireturn, 1) := by decide +kernel
theorem dX12_entry_0 : decode cX12_entry 0 = .ok (.iload_n 1, 1) := by decide +kernel
theorem dX12_entry_1 : decode cX12_entry 1 = .ok (.ifCond .lt 16, 3) := by decide +kernel
theorem dX12_entry_4 : decode cX12_entry 4 = .ok (.iload_n 1, 1) := by decide +kernel
theorem dX12_entry_5 : decode cX12_entry 5 = .ok (.iconst 4, 1) := by decide +kernel
theorem dX12_entry_6 : decode cX12_entry 6 = .ok (.if_icmp .gt 11, 3) := by decide +kernel
theorem dX12_entry_9 : decode cX12_entry 9 = .ok (.aload_n 0, 1) := by decide +kernel
theorem dX12_entry_10 : decode cX12_entry 10 = .ok (.iload_n 2, 1) := by decide +kernel
theorem dX12_entry_11 : decode cX12_entry 11 = .ok (.invokevirtual 149, 3) := by decide +kernel
theorem dX12_entry_14 : decode cX12_entry 14 = .ok (.ifCond .ne 6, 3) := by decide +kernel
theorem dX12_entry_17 : decode cX12_entry 17 = .ok (.bipush (-7), 2) := by decide +kernel
theorem dX12_entry_19 : decode cX12_entry 19 = .ok (.ireturn, 1) := by decide +kernel
theorem dX12_entry_20 : decode cX12_entry 20 = .ok (.iload_n 1, 1) := by decide +kernel
theorem dX12_entry_21 : decode cX12_entry 21 = .ok (.ifCond .ne 20, 3) := by decide +kernel
theorem dX12_entry_24 : decode cX12_entry 24 = .ok (.iload_n 3, 1) := by decide +kernel
theorem dX12_entry_25 : decode cX12_entry 25 = .ok (.ifCond .eq 8, 3) := by decide +kernel
theorem dX12_entry_28 : decode cX12_entry 28 = .ok (.iload_n 3, 1) := by decide +kernel
theorem dX12_entry_29 : decode cX12_entry 29 = .ok (.iconst 1, 1) := by decide +kernel
theorem dX12_entry_30 : decode cX12_entry 30 = .ok (.if_icmp .ne 7, 3) := by decide +kernel
theorem dX12_entry_33 : decode cX12_entry 33 = .ok (.iconst 1, 1) := by decide +kernel
theorem dX12_entry_34 : decode cX12_entry 34 = .ok (.goto 79, 3) := by decide +kernel
theorem dX12_entry_37 : decode cX12_entry 37 = .ok (.iconst 0, 1) := by decide +kernel
theorem dX12_entry_38 : decode cX12_entry 38 = .ok (.goto 75, 3) := by decide +kernel
theorem dX12_entry_41 : decode cX12_entry 41 = .ok (.iload_n 1, 1) := by decide +kernel
theorem dX12_entry_42 : decode cX12_entry 42 = .ok (.iconst 1, 1) := by decide +kernel
theorem dX12_entry_43 : decode cX12_entry 43 = .ok (.if_icmp .ne 27, 3) := by decide +kernel
theorem dX12_entry_46 : decode cX12_entry 46 = .ok (.lload 4, 2) := by decide +kernel
theorem dX12_entry_48 : decode cX12_entry 48 = .ok (.lconst 0, 1) := by decide +kernel
theorem dX12_entry_49 : decode cX12_entry 49 = .ok (.lcmp, 1) := by decide +kernel
theorem dX12_entry_50 : decode cX12_entry 50 = .ok (.ifCond .lt 16, 3) := by decide +kernel
theorem dX12_entry_53 : decode cX12_entry 53 = .ok (.lload 4, 2) := by decide +kernel
theorem dX12_entry_55 : decode cX12_entry 55 = .ok (.ldc2_w 181, 3) := by decide +kernel
theorem dX12_entry_58 : decode cX12_entry 58 = .ok (.lcmp, 1) := by decide +kernel
theorem dX12_entry_59 : decode cX12_entry 59 = .ok (.ifCond .gt 7, 3) := by decide +kernel
theorem dX12_entry_62 : decode cX12_entry 62 = .ok (.iconst 1, 1) := by decide +kernel
theorem dX12_entry_63 : decode cX12_entry 63 = .ok (.goto 50, 3) := by decide +kernel
theorem dX12_entry_66 : decode cX12_entry 66 = .ok (.iconst 0, 1) := by decide +kernel
theorem dX12_entry_67 : decode cX12_entry 67 = .ok (.goto 46, 3) := by decide +kernel
theorem dX12_entry_70 : decode cX12_entry 70 = .ok (.iload_n 1, 1) := by decide +kernel
theorem dX12_entry_71 : decode cX12_entry 71 = .ok (.iconst 2, 1) := by decide +kernel
theorem dX12_entry_72 : decode cX12_entry 72 = .ok (.if_icmp .ne 23, 3) := by decide +kernel
theorem dX12_entry_75 : decode cX12_entry 75 = .ok (.iload_n 3, 1) := by decide +kernel
theorem dX12_entry_76 : decode cX12_entry 76 = .ok (.ifCond .lt 15, 3) := by decide +kernel
theorem dX12_entry_79 : decode cX12_entry 79 = .ok (.iload_n 3, 1) := by decide +kernel
theorem dX12_entry_80 : decode cX12_entry 80 = .ok (.aload_n 0, 1) := by decide +kernel
theorem dX12_entry_81 : decode cX12_entry 81 = .ok (.getfield 152, 3) := by decide +kernel
theorem dX12_entry_84 : decode cX12_entry 84 = .ok (.if_icmp .ge 7, 3) := by decide +kernel
theorem dX12_entry_87 : decode cX12_entry 87 = .ok (.iconst 1, 1) := by decide +kernel
theorem dX12_entry_88 : decode cX12_entry 88 = .ok (.goto 25, 3) := by decide +kernel
theorem dX12_entry_91 : decode cX12_entry 91 = .ok (.iconst 0, 1) := by decide +kernel
theorem dX12_entry_92 : decode cX12_entry 92 = .ok (.goto 21, 3) := by decide +kernel
theorem dX12_entry_95 : decode cX12_entry 95 = .ok (.iload_n 1, 1) := by decide +kernel
theorem dX12_entry_96 : decode cX12_entry 96 = .ok (.iconst 4, 1) := by decide +kernel
theorem dX12_entry_97 : decode cX12_entry 97 = .ok (.if_icmp .eq 11, 3) := by decide +kernel
theorem dX12_entry_100 : decode cX12_entry 100 = .ok (.aload_n 0, 1) := by decide +kernel
theorem dX12_entry_101 : decode cX12_entry 101 = .ok (.iload_n 3, 1) := by decide +kernel
theorem dX12_entry_102 : decode cX12_entry 102 = .ok (.invokevirtual 149, 3) := by decide +kernel
theorem dX12_entry_105 : decode cX12_entry 105 = .ok (.ifCond .eq 7, 3) := by decide +kernel
theorem dX12_entry_108 : decode cX12_entry 108 = .ok (.iconst 1, 1) := by decide +kernel
theorem dX12_entry_109 : decode cX12_entry 109 = .ok (.goto 4, 3) := by decide +kernel
theorem dX12_entry_112 : decode cX12_entry 112 = .ok (.iconst 0, 1) := by decide +kernel
theorem dX12_entry_113 : decode cX12_entry 113 = .ok (.istore 6, 2) := by decide +kernel
theorem dX12_entry_115 : decode cX12_entry 115 = .ok (.iload 6, 2) := by decide +kernel
theorem dX12_entry_117 : decode cX12_entry 117 = .ok (.ifCond .ne 6, 3) := by decide +kernel
theorem dX12_entry_120 : decode cX12_entry 120 = .ok (.bipush (-7), 2) := by decide +kernel
theorem dX12_entry_122 : decode cX12_entry 122 = .ok (.ireturn, 1) := by decide +kernel
theorem dX12_entry_123 : decode cX12_entry 123 = .ok (.aload_n 0, 1) := by decide +kernel
theorem dX12_entry_124 : decode cX12_entry 124 = .ok (.getfield 183, 3) := by decide +kernel
theorem dX12_entry_127 : decode cX12_entry 127 = .ok (.bipush 100, 2) := by decide +kernel
theorem dX12_entry_129 : decode cX12_entry 129 = .ok (.if_icmp .ne 6, 3) := by decide +kernel
theorem dX12_entry_132 : decode cX12_entry 132 = .ok (.bipush (-6), 2) := by decide +kernel
theorem dX12_entry_134 : decode cX12_entry 134 = .ok (.ireturn, 1) := by decide +kernel
theorem dX12_entry_135 : decode cX12_entry 135 = .ok (.aload_n 0, 1) := by decide +kernel
theorem dX12_entry_136 : decode cX12_entry 136 = .ok (.getfield 63, 3) := by decide +kernel
theorem dX12_entry_139 : decode cX12_entry 139 = .ok (.aload_n 0, 1) := by decide +kernel
theorem dX12_entry_140 : decode cX12_entry 140 = .ok (.getfield 183, 3) := by decide +kernel
theorem dX12_entry_143 : decode cX12_entry 143 = .ok (.iload_n 1, 1) := by decide +kernel
theorem dX12_entry_144 : decode cX12_entry 144 = .ok (.iastore, 1) := by decide +kernel
theorem dX12_entry_145 : decode cX12_entry 145 = .ok (.aload_n 0, 1) := by decide +kernel
theorem dX12_entry_146 : decode cX12_entry 146 = .ok (.getfield 66, 3) := by decide +kernel
theorem dX12_entry_149 : decode cX12_entry 149 = .ok (.aload_n 0, 1) := by decide +kernel
theorem dX12_entry_150 : decode cX12_entry 150 = .ok (.getfield 183, 3) := by decide +kernel
theorem dX12_entry_153 : decode cX12_entry 153 = .ok (.iload_n 2, 1) := by decide +kernel
theorem dX12_entry_154 : decode cX12_entry 154 = .ok (.iastore, 1) := by decide +kernel
theorem dX12_entry_155 : decode cX12_entry 155 = .ok (.aload_n 0, 1) := by decide +kernel
theorem dX12_entry_156 : decode cX12_entry 156 = .ok (.getfield 69, 3) := by decide +kernel
theorem dX12_entry_159 : decode cX12_entry 159 = .ok (.aload_n 0, 1) := by decide +kernel
theorem dX12_entry_160 : decode cX12_entry 160 = .ok (.getfield 183, 3) := by decide +kernel
theorem dX12_entry_163 : decode cX12_entry 163 = .ok (.iload_n 3, 1) := by decide +kernel
theorem dX12_entry_164 : decode cX12_entry 164 = .ok (.iastore, 1) := by decide +kernel
theorem dX12_entry_165 : decode cX12_entry 165 = .ok (.aload_n 0, 1) := by decide +kernel
theorem dX12_entry_166 : decode cX12_entry 166 = .ok (.getfield 72, 3) := by decide +kernel
theorem dX12_entry_169 : decode cX12_entry 169 = .ok (.aload_n 0, 1) := by decide +kernel
theorem dX12_entry_170 : decode cX12_entry 170 = .ok (.getfield 183, 3) := by decide +kernel
theorem dX12_entry_173 : decode cX12_entry 173 = .ok (.lload 4, 2) := by decide +kernel
theorem dX12_entry_175 : decode cX12_entry 175 = .ok (.lastore, 1) := by decide +kernel
theorem dX12_entry_176 : decode cX12_entry 176 = .ok (.aload_n 0, 1) := by decide +kernel
theorem dX12_entry_177 : decode cX12_entry 177 = .ok (.dup, 1) := by decide +kernel
theorem dX12_entry_178 : decode cX12_entry 178 = .ok (.getfield 183, 3) := by decide +kernel
theorem dX12_entry_181 : decode cX12_entry 181 = .ok (.iconst 1, 1) := by decide +kernel
theorem dX12_entry_182 : decode cX12_entry 182 = .ok (.iadd, 1) := by decide +kernel
theorem dX12_entry_183 : decode cX12_entry 183 = .ok (.putfield 183, 3) := by decide +kernel
theorem dX12_entry_186 : decode cX12_entry 186 = .ok (.aload_n 0, 1) := by decide +kernel
theorem dX12_entry_187 : decode cX12_entry 187 = .ok (.getfield 183, 3) := by decide +kernel
theorem dX12_entry_190 : decode cX12_entry 190 = .ok (.iconst 1, 1) := by decide +kernel
theorem dX12_entry_191 : decode cX12_entry 191 = .ok (.isub, 1) := by decide +kernel
theorem dX12_entry_192 : decode cX12_entry 192 = .ok (.ireturn, 1) := by decide +kernel
theorem dX12_walk_0 : decode cX12_walk 0 = .ok (.iconst 1, 1) := by decide +kernel
theorem dX12_walk_1 : decode cX12_walk 1 = .ok (.istore_n 3, 1) := by decide +kernel
theorem dX12_walk_2 : decode cX12_walk 2 = .ok (.aload_n 0, 1) := by decide +kernel
theorem dX12_walk_3 : decode cX12_walk 3 = .ok (.iconst 0, 1) := by decide +kernel
theorem dX12_walk_4 : decode cX12_walk 4 = .ok (.putfield 186, 3) := by decide +kernel
theorem dX12_walk_7 : decode cX12_walk 7 = .ok (.iconst 0, 1) := by decide +kernel
theorem dX12_walk_8 : decode cX12_walk 8 = .ok (.istore 4, 2) := by decide +kernel
theorem dX12_walk_10 : decode cX12_walk 10 = .ok (.iload 4, 2) := by decide +kernel
theorem dX12_walk_12 : decode cX12_walk 12 = .ok (.aload_n 0, 1) := by decide +kernel
theorem dX12_walk_13 : decode cX12_walk 13 = .ok (.getfield 48, 3) := by decide +kernel
theorem dX12_walk_16 : decode cX12_walk 16 = .ok (.iload_n 1, 1) := by decide +kernel
theorem dX12_walk_17 : decode cX12_walk 17 = .ok (.iaload, 1) := by decide +kernel
theorem dX12_walk_18 : decode cX12_walk 18 = .ok (.if_icmp .ge 169, 3) := by decide +kernel
theorem dX12_walk_21 : decode cX12_walk 21 = .ok (.iload 4, 2) := by decide +kernel
theorem dX12_walk_23 : decode cX12_walk 23 = .ok (.aload_n 0, 1) := by decide +kernel
theorem dX12_walk_24 : decode cX12_walk 24 = .ok (.getfield 48, 3) := by decide +kernel
theorem dX12_walk_27 : decode cX12_walk 27 = .ok (.iload_n 1, 1) := by decide +kernel
theorem dX12_walk_28 : decode cX12_walk 28 = .ok (.iaload, 1) := by decide +kernel
theorem dX12_walk_29 : decode cX12_walk 29 = .ok (.iconst 1, 1) := by decide +kernel
theorem dX12_walk_30 : decode cX12_walk 30 = .ok (.isub, 1) := by decide +kernel
theorem dX12_walk_31 : decode cX12_walk 31 = .ok (.if_icmp .ne 7, 3) := by decide +kernel
theorem dX12_walk_34 : decode cX12_walk 34 = .ok (.iconst 1, 1) := by decide +kernel
theorem dX12_walk_35 : decode cX12_walk 35 = .ok (.goto 4, 3) := by decide +kernel
theorem dX12_walk_38 : decode cX12_walk 38 = .ok (.iconst 0, 1) := by decide +kernel
theorem dX12_walk_39 : decode cX12_walk 39 = .ok (.istore 5, 2) := by decide +kernel
theorem dX12_walk_41 : decode cX12_walk 41 = .ok (.aload_n 0, 1) := by decide +kernel
theorem dX12_walk_42 : decode cX12_walk 42 = .ok (.iload_n 1, 1) := by decide +kernel
theorem dX12_walk_43 : decode cX12_walk 43 = .ok (.iload 4, 2) := by decide +kernel
theorem dX12_walk_45 : decode cX12_walk 45 = .ok (.invokevirtual 189, 3) := by decide +kernel
theorem dX12_walk_48 : decode cX12_walk 48 = .ok (.aload_n 0, 1) := by decide +kernel
theorem dX12_walk_49 : decode cX12_walk 49 = .ok (.getfield 186, 3) := by decide +kernel
theorem dX12_walk_52 : decode cX12_walk 52 = .ok (.ifCond .le 7, 3) := by decide +kernel
theorem dX12_walk_55 : decode cX12_walk 55 = .ok (.iconst (-1), 1) := by decide +kernel
theorem dX12_walk_56 : decode cX12_walk 56 = .ok (.goto 8, 3) := by decide +kernel
theorem dX12_walk_59 : decode cX12_walk 59 = .ok (.aload_n 0, 1) := by decide +kernel
theorem dX12_walk_60 : decode cX12_walk 60 = .ok (.iload_n 3, 1) := by decide +kernel
theorem dX12_walk_61 : decode cX12_walk 61 = .ok (.invokevirtual 171, 3) := by decide +kernel
theorem dX12_walk_64 : decode cX12_walk 64 = .ok (.istore 6, 2) := by decide +kernel
theorem dX12_walk_66 : decode cX12_walk 66 = .ok (.iload 6, 2) := by decide +kernel
theorem dX12_walk_68 : decode cX12_walk 68 = .ok (.iconst (-1), 1) := by decide +kernel
theorem dX12_walk_69 : decode cX12_walk 69 = .ok (.if_icmp .eq 25, 3) := by decide +kernel
theorem dX12_walk_72 : decode cX12_walk 72 = .ok (.aload_n 0, 1) := by decide +kernel
theorem dX12_walk_73 : decode cX12_walk 73 = .ok (.iload 6, 2) := by decide +kernel
theorem dX12_walk_75 : decode cX12_walk 75 = .ok (.iconst 1, 1) := by decide +kernel
theorem dX12_walk_76 : decode cX12_walk 76 = .ok (.invokevirtual 155, 3) := by decide +kernel
theorem dX12_walk_79 : decode cX12_walk 79 = .ok (.ifCond .ne 15, 3) := by decide +kernel
theorem dX12_walk_82 : decode cX12_walk 82 = .ok (.aload_n 0, 1) := by decide +kernel
theorem dX12_walk_83 : decode cX12_walk 83 = .ok (.bipush 16, 2) := by decide +kernel
theorem dX12_walk_85 : decode cX12_walk 85 = .ok (.invokevirtual 118, 3) := by decide +kernel
theorem dX12_walk_88 : decode cX12_walk 88 = .ok (.ifCond .ne 6, 3) := by decide +kernel
theorem dX12_walk_91 : decode cX12_walk 91 = .ok (.bipush (-12), 2) := by decide +kernel
theorem dX12_walk_93 : decode cX12_walk 93 = .ok (.ireturn, 1) := by decide +kernel
theorem dX12_walk_94 : decode cX12_walk 94 = .ok (.aload_n 0, 1) := by decide +kernel
theorem dX12_walk_95 : decode cX12_walk 95 = .ok (.iload 6, 2) := by decide +kernel
theorem dX12_walk_97 : decode cX12_walk 97 = .ok (.putfield 193, 3) := by decide +kernel
theorem dX12_walk_100 : decode cX12_walk 100 = .ok (.iload 5, 2) := by decide +kernel
theorem dX12_walk_102 : decode cX12_walk 102 = .ok (.ifCond .ne 79, 3) := by decide +kernel
theorem dX12_walk_105 : decode cX12_walk 105 = .ok (.iload 6, 2) := by decide +kernel
theorem dX12_walk_107 : decode cX12_walk 107 = .ok (.iconst (-1), 1) := by decide +kernel
theorem dX12_walk_108 : decode cX12_walk 108 = .ok (.if_icmp .ne 42, 3) := by decide +kernel
theorem dX12_walk_111 : decode cX12_walk 111 = .ok (.iload_n 2, 1) := by decide +kernel
theorem dX12_walk_112 : decode cX12_walk 112 = .ok (.ifCond .ne 6, 3) := by decide +kernel
theorem dX12_walk_115 : decode cX12_walk 115 = .ok (.bipush (-13), 2) := by decide +kernel
theorem dX12_walk_117 : decode cX12_walk 117 = .ok (.ireturn, 1) := by decide +kernel
theorem dX12_walk_118 : decode cX12_walk 118 = .ok (.aload_n 0, 1) := by decide +kernel
theorem dX12_walk_119 : decode cX12_walk 119 = .ok (.getfield 186, 3) := by decide +kernel
theorem dX12_walk_122 : decode cX12_walk 122 = .ok (.ifCond .ne 15, 3) := by decide +kernel
theorem dX12_walk_125 : decode cX12_walk 125 = .ok (.aload_n 0, 1) := by decide +kernel
theorem dX12_walk_126 : decode cX12_walk 126 = .ok (.getfield 16, 3) := by decide +kernel
theorem dX12_walk_129 : decode cX12_walk 129 = .ok (.iload_n 3, 1) := by decide +kernel
theorem dX12_walk_130 : decode cX12_walk 130 = .ok (.baload, 1) := by decide +kernel
theorem dX12_walk_131 : decode cX12_walk 131 = .ok (.ifCond .eq 6, 3) := by decide +kernel
theorem dX12_walk_134 : decode cX12_walk 134 = .ok (.bipush (-16), 2) := by decide +kernel
theorem dX12_walk_136 : decode cX12_walk 136 = .ok (.ireturn, 1) := by decide +kernel
theorem dX12_walk_137 : decode cX12_walk 137 = .ok (.aload_n 0, 1) := by decide +kernel
theorem dX12_walk_138 : decode cX12_walk 138 = .ok (.dup, 1) := by decide +kernel
theorem dX12_walk_139 : decode cX12_walk 139 = .ok (.getfield 186, 3) := by decide +kernel
theorem dX12_walk_142 : decode cX12_walk 142 = .ok (.iconst 1, 1) := by decide +kernel
theorem dX12_walk_143 : decode cX12_walk 143 = .ok (.iadd, 1) := by decide +kernel
theorem dX12_walk_144 : decode cX12_walk 144 = .ok (.putfield 186, 3) := by decide +kernel
theorem dX12_walk_147 : decode cX12_walk 147 = .ok (.goto 34, 3) := by decide +kernel
theorem dX12_walk_150 : decode cX12_walk 150 = .ok (.aload_n 0, 1) := by decide +kernel
theorem dX12_walk_151 : decode cX12_walk 151 = .ok (.getfield 13, 3) := by decide +kernel
theorem dX12_walk_154 : decode cX12_walk 154 = .ok (.iload 6, 2) := by decide +kernel
theorem dX12_walk_156 : decode cX12_walk 156 = .ok (.iaload, 1) := by decide +kernel
theorem dX12_walk_157 : decode cX12_walk 157 = .ok (.iconst 2, 1) := by decide +kernel
theorem dX12_walk_158 : decode cX12_walk 158 = .ok (.if_icmp .ne 6, 3) := by decide +kernel
theorem dX12_walk_161 : decode cX12_walk 161 = .ok (.bipush (-14), 2) := by decide +kernel
theorem dX12_walk_163 : decode cX12_walk 163 = .ok (.ireturn, 1) := by decide +kernel
theorem dX12_walk_164 : decode cX12_walk 164 = .ok (.aload_n 0, 1) := by decide +kernel
theorem dX12_walk_165 : decode cX12_walk 165 = .ok (.getfield 13, 3) := by decide +kernel
theorem dX12_walk_168 : decode cX12_walk 168 = .ok (.iload 6, 2) := by decide +kernel
theorem dX12_walk_170 : decode cX12_walk 170 = .ok (.iaload, 1) := by decide +kernel
theorem dX12_walk_171 : decode cX12_walk 171 = .ok (.iconst 1, 1) := by decide +kernel
theorem dX12_walk_172 : decode cX12_walk 172 = .ok (.if_icmp .ne 6, 3) := by decide +kernel
theorem dX12_walk_175 : decode cX12_walk 175 = .ok (.bipush (-15), 2) := by decide +kernel
theorem dX12_walk_177 : decode cX12_walk 177 = .ok (.ireturn, 1) := by decide +kernel
theorem dX12_walk_178 : decode cX12_walk 178 = .ok (.iload 6, 2) := by decide +kernel
theorem dX12_walk_180 : decode cX12_walk 180 = .ok (.istore_n 3, 1) := by decide +kernel
theorem dX12_walk_181 : decode cX12_walk 181 = .ok (.iinc 4 1, 3) := by decide +kernel
theorem dX12_walk_184 : decode cX12_walk 184 = .ok (.goto (-174), 3) := by decide +kernel
theorem dX12_walk_187 : decode cX12_walk 187 = .ok (.aload_n 0, 1) := by decide +kernel
theorem dX12_walk_188 : decode cX12_walk 188 = .ok (.iload_n 3, 1) := by decide +kernel
theorem dX12_walk_189 : decode cX12_walk 189 = .ok (.putfield 196, 3) := by decide +kernel
theorem dX12_walk_192 : decode cX12_walk 192 = .ok (.iconst 0, 1) := by decide +kernel
theorem dX12_walk_193 : decode cX12_walk 193 = .ok (.ireturn, 1) := by decide +kernel
theorem dX12_fileAt_0 : decode cX12_fileAt 0 = .ok (.aload_n 0, 1) := by decide +kernel
theorem dX12_fileAt_1 : decode cX12_fileAt 1 = .ok (.iload_n 1, 1) := by decide +kernel
theorem dX12_fileAt_2 : decode cX12_fileAt 2 = .ok (.iconst 0, 1) := by decide +kernel
theorem dX12_fileAt_3 : decode cX12_fileAt 3 = .ok (.invokevirtual 199, 3) := by decide +kernel
theorem dX12_fileAt_6 : decode cX12_fileAt 6 = .ok (.istore_n 2, 1) := by decide +kernel
theorem dX12_fileAt_7 : decode cX12_fileAt 7 = .ok (.iload_n 2, 1) := by decide +kernel
theorem dX12_fileAt_8 : decode cX12_fileAt 8 = .ok (.ifCond .ne 31, 3) := by decide +kernel
theorem dX12_fileAt_11 : decode cX12_fileAt 11 = .ok (.aload_n 0, 1) := by decide +kernel
theorem dX12_fileAt_12 : decode cX12_fileAt 12 = .ok (.getfield 193, 3) := by decide +kernel
theorem dX12_fileAt_15 : decode cX12_fileAt 15 = .ok (.iconst (-1), 1) := by decide +kernel
theorem dX12_fileAt_16 : decode cX12_fileAt 16 = .ok (.if_icmp .eq 23, 3) := by decide +kernel
theorem dX12_fileAt_19 : decode cX12_fileAt 19 = .ok (.aload_n 0, 1) := by decide +kernel
theorem dX12_fileAt_20 : decode cX12_fileAt 20 = .ok (.getfield 13, 3) := by decide +kernel
theorem dX12_fileAt_23 : decode cX12_fileAt 23 = .ok (.aload_n 0, 1) := by decide +kernel
theorem dX12_fileAt_24 : decode cX12_fileAt 24 = .ok (.getfield 193, 3) := by decide +kernel
theorem dX12_fileAt_27 : decode cX12_fileAt 27 = .ok (.iaload, 1) := by decide +kernel
theorem dX12_fileAt_28 : decode cX12_fileAt 28 = .ok (.iconst 1, 1) := by decide +kernel
theorem dX12_fileAt_29 : decode cX12_fileAt 29 = .ok (.if_icmp .ne 10, 3) := by decide +kernel
theorem dX12_fileAt_32 : decode cX12_fileAt 32 = .ok (.aload_n 0, 1) := by decide +kernel
theorem dX12_fileAt_33 : decode cX12_fileAt 33 = .ok (.getfield 193, 3) := by decide +kernel
theorem dX12_fileAt_36 : decode cX12_fileAt 36 = .ok (.goto 4, 3) := by decide +kernel
theorem dX12_fileAt_39 : decode cX12_fileAt 39 = .ok (.iconst (-1), 1) := by decide +kernel
theorem dX12_fileAt_40 : decode cX12_fileAt 40 = .ok (.ireturn, 1) := by decide +kernel
theorem dX12_isThere_0 : decode cX12_isThere 0 = .ok (.iload_n 2, 1) := by decide +kernel
theorem dX12_isThere_1 : decode cX12_isThere 1 = .ok (.ifCond .ne 16, 3) := by decide +kernel
theorem dX12_isThere_4 : decode cX12_isThere 4 = .ok (.aload_n 0, 1) := by decide +kernel
theorem dX12_isThere_5 : decode cX12_isThere 5 = .ok (.getfield 16, 3) := by decide +kernel
theorem dX12_isThere_8 : decode cX12_isThere 8 = .ok (.iload_n 1, 1) := by decide +kernel
theorem dX12_isThere_9 : decode cX12_isThere 9 = .ok (.baload, 1) := by decide +kernel
theorem dX12_isThere_10 : decode cX12_isThere 10 = .ok (.ifCond .eq 7, 3) := by decide +kernel
theorem dX12_isThere_13 : decode cX12_isThere 13 = .ok (.iconst 1, 1) := by decide +kernel
theorem dX12_isThere_14 : decode cX12_isThere 14 = .ok (.goto 4, 3) := by decide +kernel
theorem dX12_isThere_17 : decode cX12_isThere 17 = .ok (.iconst 0, 1) := by decide +kernel
theorem dX12_isThere_18 : decode cX12_isThere 18 = .ok (.ireturn, 1) := by decide +kernel
theorem dX12_takes_0 : decode cX12_takes 0 = .ok (.aload_n 0, 1) := by decide +kernel
theorem dX12_takes_1 : decode cX12_takes 1 = .ok (.getfield 66, 3) := by decide +kernel
theorem dX12_takes_4 : decode cX12_takes 4 = .ok (.iload_n 1, 1) := by decide +kernel
theorem dX12_takes_5 : decode cX12_takes 5 = .ok (.iaload, 1) := by decide +kernel
theorem dX12_takes_6 : decode cX12_takes 6 = .ok (.istore_n 3, 1) := by decide +kernel
theorem dX12_takes_7 : decode cX12_takes 7 = .ok (.aload_n 0, 1) := by decide +kernel
theorem dX12_takes_8 : decode cX12_takes 8 = .ok (.iload_n 3, 1) := by decide +kernel
theorem dX12_takes_9 : decode cX12_takes 9 = .ok (.aload_n 0, 1) := by decide +kernel
theorem dX12_takes_10 : decode cX12_takes 10 = .ok (.bipush 32, 2) := by decide +kernel
theorem dX12_takes_12 : decode cX12_takes 12 = .ok (.invokevirtual 118, 3) := by decide +kernel
theorem dX12_takes_15 : decode cX12_takes 15 = .ok (.invokevirtual 199, 3) := by decide +kernel
theorem dX12_takes_18 : decode cX12_takes 18 = .ok (.istore 4, 2) := by decide +kernel
theorem dX12_takes_20 : decode cX12_takes 20 = .ok (.iload 4, 2) := by decide +kernel
theorem dX12_takes_22 : decode cX12_takes 22 = .ok (.ifCond .eq 6, 3) := by decide +kernel
theorem dX12_takes_25 : decode cX12_takes 25 = .ok (.iload 4, 2) := by decide +kernel
theorem dX12_takes_27 : decode cX12_takes 27 = .ok (.ireturn, 1) := by decide +kernel
theorem dX12_takes_28 : decode cX12_takes 28 = .ok (.aload_n 0, 1) := by decide +kernel
theorem dX12_takes_29 : decode cX12_takes 29 = .ok (.getfield 196, 3) := by decide +kernel
theorem dX12_takes_32 : decode cX12_takes 32 = .ok (.istore 5, 2) := by decide +kernel
theorem dX12_takes_34 : decode cX12_takes 34 = .ok (.aload_n 0, 1) := by decide +kernel
theorem dX12_takes_35 : decode cX12_takes 35 = .ok (.getfield 186, 3) := by decide +kernel
theorem dX12_takes_38 : decode cX12_takes 38 = .ok (.istore 6, 2) := by decide +kernel
theorem dX12_takes_40 : decode cX12_takes 40 = .ok (.aload_n 0, 1) := by decide +kernel
theorem dX12_takes_41 : decode cX12_takes 41 = .ok (.getfield 193, 3) := by decide +kernel
theorem dX12_takes_44 : decode cX12_takes 44 = .ok (.istore 7, 2) := by decide +kernel
theorem dX12_takes_46 : decode cX12_takes 46 = .ok (.aload_n 0, 1) := by decide +kernel
theorem dX12_takes_47 : decode cX12_takes 47 = .ok (.getfield 63, 3) := by decide +kernel
theorem dX12_takes_50 : decode cX12_takes 50 = .ok (.iload_n 1, 1) := by decide +kernel
theorem dX12_takes_51 : decode cX12_takes 51 = .ok (.iaload, 1) := by decide +kernel
theorem dX12_takes_52 : decode cX12_takes 52 = .ok (.istore 8, 2) := by decide +kernel
theorem dX12_takes_54 : decode cX12_takes 54 = .ok (.iload 8, 2) := by decide +kernel
theorem dX12_takes_56 : decode cX12_takes 56 = .ok (.iconst 4, 1) := by decide +kernel
theorem dX12_takes_57 : decode cX12_takes 57 = .ok (.if_icmp .ne 24, 3) := by decide +kernel
theorem dX12_takes_60 : decode cX12_takes 60 = .ok (.aload_n 0, 1) := by decide +kernel
theorem dX12_takes_61 : decode cX12_takes 61 = .ok (.dup, 1) := by decide +kernel
theorem dX12_takes_62 : decode cX12_takes 62 = .ok (.getfield 203, 3) := by decide +kernel
theorem dX12_takes_65 : decode cX12_takes 65 = .ok (.iload_n 2, 1) := by decide +kernel
theorem dX12_takes_66 : decode cX12_takes 66 = .ok (.ifCond .eq 7, 3) := by decide +kernel
theorem dX12_takes_69 : decode cX12_takes 69 = .ok (.iconst 1, 1) := by decide +kernel
theorem dX12_takes_70 : decode cX12_takes 70 = .ok (.goto 4, 3) := by decide +kernel
theorem dX12_takes_73 : decode cX12_takes 73 = .ok (.iconst 0, 1) := by decide +kernel
theorem dX12_takes_74 : decode cX12_takes 74 = .ok (.iadd, 1) := by decide +kernel
theorem dX12_takes_75 : decode cX12_takes 75 = .ok (.putfield 203, 3) := by decide +kernel
theorem dX12_takes_78 : decode cX12_takes 78 = .ok (.bipush (-20), 2) := by decide +kernel
theorem dX12_takes_80 : decode cX12_takes 80 = .ok (.ireturn, 1) := by decide +kernel
theorem dX12_takes_81 : decode cX12_takes 81 = .ok (.iload 8, 2) := by decide +kernel
theorem dX12_takes_83 : decode cX12_takes 83 = .ok (.ifCond .ne 38, 3) := by decide +kernel
theorem dX12_takes_86 : decode cX12_takes 86 = .ok (.iload 7, 2) := by decide +kernel
theorem dX12_takes_88 : decode cX12_takes 88 = .ok (.iconst (-1), 1) := by decide +kernel
theorem dX12_takes_89 : decode cX12_takes 89 = .ok (.if_icmp .eq 32, 3) := by decide +kernel
theorem dX12_takes_92 : decode cX12_takes 92 = .ok (.aload_n 0, 1) := by decide +kernel
theorem dX12_takes_93 : decode cX12_takes 93 = .ok (.getfield 13, 3) := by decide +kernel
theorem dX12_takes_96 : decode cX12_takes 96 = .ok (.iload 7, 2) := by decide +kernel
theorem dX12_takes_98 : decode cX12_takes 98 = .ok (.iaload, 1) := by decide +kernel
theorem dX12_takes_99 : decode cX12_takes 99 = .ok (.ifCond .eq 6, 3) := by decide +kernel
theorem dX12_takes_102 : decode cX12_takes 102 = .ok (.bipush (-17), 2) := by decide +kernel
theorem dX12_takes_104 : decode cX12_takes 104 = .ok (.ireturn, 1) := by decide +kernel
theorem dX12_takes_105 : decode cX12_takes 105 = .ok (.aload_n 0, 1) := by decide +kernel
theorem dX12_takes_106 : decode cX12_takes 106 = .ok (.iload 7, 2) := by decide +kernel
theorem dX12_takes_108 : decode cX12_takes 108 = .ok (.aload_n 0, 1) := by decide +kernel
theorem dX12_takes_109 : decode cX12_takes 109 = .ok (.getfield 69, 3) := by decide +kernel
theorem dX12_takes_112 : decode cX12_takes 112 = .ok (.iload_n 1, 1) := by decide +kernel
theorem dX12_takes_113 : decode cX12_takes 113 = .ok (.iaload, 1) := by decide +kernel
theorem dX12_takes_114 : decode cX12_takes 114 = .ok (.iload_n 2, 1) := by decide +kernel
theorem dX12_takes_115 : decode cX12_takes 115 = .ok (.invokevirtual 206, 3) := by decide +kernel
theorem dX12_takes_118 : decode cX12_takes 118 = .ok (.iload 7, 2) := by decide +kernel
theorem dX12_takes_120 : decode cX12_takes 120 = .ok (.ireturn, 1) := by decide +kernel
theorem dX12_takes_121 : decode cX12_takes 121 = .ok (.iload 7, 2) := by decide +kernel
theorem dX12_takes_123 : decode cX12_takes 123 = .ok (.iconst (-1), 1) := by decide +kernel
theorem dX12_takes_124 : decode cX12_takes 124 = .ok (.if_icmp .eq 16, 3) := by decide +kernel
theorem dX12_takes_127 : decode cX12_takes 127 = .ok (.aload_n 0, 1) := by decide +kernel
theorem dX12_takes_128 : decode cX12_takes 128 = .ok (.getfield 13, 3) := by decide +kernel
theorem dX12_takes_131 : decode cX12_takes 131 = .ok (.iload 7, 2) := by decide +kernel
theorem dX12_takes_133 : decode cX12_takes 133 = .ok (.iaload, 1) := by decide +kernel
theorem dX12_takes_134 : decode cX12_takes 134 = .ok (.ifCond .ne 6, 3) := by decide +kernel
theorem dX12_takes_137 : decode cX12_takes 137 = .ok (.bipush (-17), 2) := by decide +kernel
theorem dX12_takes_139 : decode cX12_takes 139 = .ok (.ireturn, 1) := by decide +kernel
theorem dX12_takes_140 : decode cX12_takes 140 = .ok (.aload_n 0, 1) := by decide +kernel
theorem dX12_takes_141 : decode cX12_takes 141 = .ok (.iload 5, 2) := by decide +kernel
theorem dX12_takes_143 : decode cX12_takes 143 = .ok (.iload 6, 2) := by decide +kernel
theorem dX12_takes_145 : decode cX12_takes 145 = .ok (.invokevirtual 210, 3) := by decide +kernel
theorem dX12_takes_148 : decode cX12_takes 148 = .ok (.ifCond .eq 6, 3) := by decide +kernel
theorem dX12_takes_151 : decode cX12_takes 151 = .ok (.bipush (-16), 2) := by decide +kernel
theorem dX12_takes_153 : decode cX12_takes 153 = .ok (.ireturn, 1) := by decide +kernel
theorem dX12_takes_154 : decode cX12_takes 154 = .ok (.iconst 0, 1) := by decide +kernel
theorem dX12_takes_155 : decode cX12_takes 155 = .ok (.istore 9, 2) := by decide +kernel
theorem dX12_takes_157 : decode cX12_takes 157 = .ok (.iconst (-1), 1) := by decide +kernel
theorem dX12_takes_158 : decode cX12_takes 158 = .ok (.istore 10, 2) := by decide +kernel
theorem dX12_takes_160 : decode cX12_takes 160 = .ok (.iload 8, 2) := by decide +kernel
theorem dX12_takes_162 : decode cX12_takes 162 = .ok (.iconst 2, 1) := by decide +kernel
theorem dX12_takes_163 : decode cX12_takes 163 = .ok (.if_icmp .ne 44, 3) := by decide +kernel
theorem dX12_takes_166 : decode cX12_takes 166 = .ok (.aload_n 0, 1) := by decide +kernel
theorem dX12_takes_167 : decode cX12_takes 167 = .ok (.aload_n 0, 1) := by decide +kernel
theorem dX12_takes_168 : decode cX12_takes 168 = .ok (.getfield 69, 3) := by decide +kernel
theorem dX12_takes_171 : decode cX12_takes 171 = .ok (.iload_n 1, 1) := by decide +kernel
theorem dX12_takes_172 : decode cX12_takes 172 = .ok (.iaload, 1) := by decide +kernel
theorem dX12_takes_173 : decode cX12_takes 173 = .ok (.iload 5, 2) := by decide +kernel
theorem dX12_takes_175 : decode cX12_takes 175 = .ok (.iload 6, 2) := by decide +kernel
theorem dX12_takes_177 : decode cX12_takes 177 = .ok (.invokevirtual 177, 3) := by decide +kernel
theorem dX12_takes_180 : decode cX12_takes 180 = .ok (.iconst (-1), 1) := by decide +kernel
theorem dX12_takes_181 : decode cX12_takes 181 = .ok (.if_icmp .ne 7, 3) := by decide +kernel
theorem dX12_takes_184 : decode cX12_takes 184 = .ok (.iconst 1, 1) := by decide +kernel
theorem dX12_takes_185 : decode cX12_takes 185 = .ok (.goto 4, 3) := by decide +kernel
theorem dX12_takes_188 : decode cX12_takes 188 = .ok (.iconst 0, 1) := by decide +kernel
theorem dX12_takes_189 : decode cX12_takes 189 = .ok (.istore 9, 2) := by decide +kernel
theorem dX12_takes_191 : decode cX12_takes 191 = .ok (.iload 9, 2) := by decide +kernel
theorem dX12_takes_193 : decode cX12_takes 193 = .ok (.ifCond .eq 60, 3) := by decide +kernel
theorem dX12_takes_196 : decode cX12_takes 196 = .ok (.aload_n 0, 1) := by decide +kernel
theorem dX12_takes_197 : decode cX12_takes 197 = .ok (.iconst 4, 1) := by decide +kernel
theorem dX12_takes_198 : decode cX12_takes 198 = .ok (.invokevirtual 118, 3) := by decide +kernel
theorem dX12_takes_201 : decode cX12_takes 201 = .ok (.ifCond .ne 52, 3) := by decide +kernel
theorem dX12_takes_204 : decode cX12_takes 204 = .ok (.bipush (-18), 2) := by decide +kernel
theorem dX12_takes_206 : decode cX12_takes 206 = .ok (.ireturn, 1) := by decide +kernel
theorem dX12_takes_207 : decode cX12_takes 207 = .ok (.iload 8, 2) := by decide +kernel
theorem dX12_takes_209 : decode cX12_takes 209 = .ok (.iconst 3, 1) := by decide +kernel
theorem dX12_takes_210 : decode cX12_takes 210 = .ok (.if_icmp .ne 43, 3) := by decide +kernel
theorem dX12_takes_213 : decode cX12_takes 213 = .ok (.aload_n 0, 1) := by decide +kernel
theorem dX12_takes_214 : decode cX12_takes 214 = .ok (.aload_n 0, 1) := by decide +kernel
theorem dX12_takes_215 : decode cX12_takes 215 = .ok (.getfield 69, 3) := by decide +kernel
theorem dX12_takes_218 : decode cX12_takes 218 = .ok (.iload_n 1, 1) := by decide +kernel
theorem dX12_takes_219 : decode cX12_takes 219 = .ok (.iaload, 1) := by decide +kernel
theorem dX12_takes_220 : decode cX12_takes 220 = .ok (.invokevirtual 214, 3) := by decide +kernel
theorem dX12_takes_223 : decode cX12_takes 223 = .ok (.istore 11, 2) := by decide +kernel
theorem dX12_takes_225 : decode cX12_takes 225 = .ok (.iload 11, 2) := by decide +kernel
theorem dX12_takes_227 : decode cX12_takes 227 = .ok (.iconst (-1), 1) := by decide +kernel
theorem dX12_takes_228 : decode cX12_takes 228 = .ok (.if_icmp .ne 6, 3) := by decide +kernel
theorem dX12_takes_231 : decode cX12_takes 231 = .ok (.bipush (-19), 2) := by decide +kernel
theorem dX12_takes_233 : decode cX12_takes 233 = .ok (.ireturn, 1) := by decide +kernel
theorem dX12_takes_234 : decode cX12_takes 234 = .ok (.iload 11, 2) := by decide +kernel
theorem dX12_takes_236 : decode cX12_takes 236 = .ok (.iload 7, 2) := by decide +kernel
theorem dX12_takes_238 : decode cX12_takes 238 = .ok (.if_icmp .ne 6, 3) := by decide +kernel
theorem dX12_takes_241 : decode cX12_takes 241 = .ok (.iload 7, 2) := by decide +kernel
theorem dX12_takes_243 : decode cX12_takes 243 = .ok (.ireturn, 1) := by decide +kernel
theorem dX12_takes_244 : decode cX12_takes 244 = .ok (.aload_n 0, 1) := by decide +kernel
theorem dX12_takes_245 : decode cX12_takes 245 = .ok (.getfield 29, 3) := by decide +kernel
theorem dX12_takes_248 : decode cX12_takes 248 = .ok (.iload 11, 2) := by decide +kernel
theorem dX12_takes_250 : decode cX12_takes 250 = .ok (.iaload, 1) := by decide +kernel
theorem dX12_takes_251 : decode cX12_takes 251 = .ok (.istore 10, 2) := by decide +kernel
theorem dX12_takes_253 : decode cX12_takes 253 = .ok (.aload_n 0, 1) := by decide +kernel
theorem dX12_takes_254 : decode cX12_takes 254 = .ok (.getfield 217, 3) := by decide +kernel
theorem dX12_takes_257 : decode cX12_takes 257 = .ok (.iload 6, 2) := by decide +kernel
theorem dX12_takes_259 : decode cX12_takes 259 = .ok (.iadd, 1) := by decide +kernel
theorem dX12_takes_260 : decode cX12_takes 260 = .ok (.i2l, 1) := by decide +kernel
theorem dX12_takes_261 : decode cX12_takes 261 = .ok (.lconst 1, 1) := by decide +kernel
theorem dX12_takes_262 : decode cX12_takes 262 = .ok (.ladd, 1) := by decide +kernel
theorem dX12_takes_263 : decode cX12_takes 263 = .ok (.aload_n 0, 1) := by decide +kernel
theorem dX12_takes_264 : decode cX12_takes 264 = .ok (.getfield 77, 3) := by decide +kernel
theorem dX12_takes_267 : decode cX12_takes 267 = .ok (.lcmp, 1) := by decide +kernel
theorem dX12_takes_268 : decode cX12_takes 268 = .ok (.ifCond .gt 28, 3) := by decide +kernel
theorem dX12_takes_271 : decode cX12_takes 271 = .ok (.iload 8, 2) := by decide +kernel
theorem dX12_takes_273 : decode cX12_takes 273 = .ok (.iconst 1, 1) := by decide +kernel
theorem dX12_takes_274 : decode cX12_takes 274 = .ok (.if_icmp .ne 25, 3) := by decide +kernel
theorem dX12_takes_277 : decode cX12_takes 277 = .ok (.aload_n 0, 1) := by decide +kernel
theorem dX12_takes_278 : decode cX12_takes 278 = .ok (.getfield 220, 3) := by decide +kernel
theorem dX12_takes_281 : decode cX12_takes 281 = .ok (.aload_n 0, 1) := by decide +kernel
theorem dX12_takes_282 : decode cX12_takes 282 = .ok (.getfield 72, 3) := by decide +kernel
theorem dX12_takes_285 : decode cX12_takes 285 = .ok (.iload_n 1, 1) := by decide +kernel
theorem dX12_takes_286 : decode cX12_takes 286 = .ok (.laload, 1) := by decide +kernel
theorem dX12_takes_287 : decode cX12_takes 287 = .ok (.ladd, 1) := by decide +kernel
theorem dX12_takes_288 : decode cX12_takes 288 = .ok (.aload_n 0, 1) := by decide +kernel
theorem dX12_takes_289 : decode cX12_takes 289 = .ok (.getfield 83, 3) := by decide +kernel
theorem dX12_takes_292 : decode cX12_takes 292 = .ok (.lcmp, 1) := by decide +kernel
theorem dX12_takes_293 : decode cX12_takes 293 = .ok (.ifCond .le 6, 3) := by decide +kernel
