theorem dX10_goThrough_48 : decode cX10_goThrough 48 = .ok (.iconst (-1), 1) := by decide +kernel
theorem dX10_goThrough_49 : decode cX10_goThrough 49 = .ok (.ireturn, 1) := by decide +kernel
theorem dX10_goThrough_50 : decode cX10_goThrough 50 = .ok (.aload_n 0, 1) := by decide +kernel
theorem dX10_goThrough_51 : decode cX10_goThrough 51 = .ok (.getfield 18, 3) := by decide +kernel
theorem dX10_goThrough_54 : decode cX10_goThrough 54 = .ok (.invokevirtual 49, 3) := by decide +kernel
theorem dX10_goThrough_57 : decode cX10_goThrough 57 = .ok (.ifCond .eq 23, 3) := by decide +kernel
theorem dX10_goThrough_60 : decode cX10_goThrough 60 = .ok (.aload_n 0, 1) := by decide +kernel
theorem dX10_goThrough_61 : decode cX10_goThrough 61 = .ok (.getfield 31, 3) := by decide +kernel
theorem dX10_goThrough_64 : decode cX10_goThrough 64 = .ok (.ifCond .le 8, 3) := by decide +kernel
theorem dX10_goThrough_67 : decode cX10_goThrough 67 = .ok (.bipush (-2), 2) := by decide +kernel
theorem dX10_goThrough_69 : decode cX10_goThrough 69 = .ok (.goto 10, 3) := by decide +kernel
theorem dX10_goThrough_72 : decode cX10_goThrough 72 = .ok (.aload_n 0, 1) := by decide +kernel
theorem dX10_goThrough_73 : decode cX10_goThrough 73 = .ok (.getfield 28, 3) := by decide +kernel
theorem dX10_goThrough_76 : decode cX10_goThrough 76 = .ok (.getfield 53, 3) := by decide +kernel
theorem dX10_goThrough_79 : decode cX10_goThrough 79 = .ok (.ireturn, 1) := by decide +kernel
theorem dX10_goThrough_80 : decode cX10_goThrough 80 = .ok (.aload_n 0, 1) := by decide +kernel
theorem dX10_goThrough_81 : decode cX10_goThrough 81 = .ok (.getfield 18, 3) := by decide +kernel
theorem dX10_goThrough_84 : decode cX10_goThrough 84 = .ok (.aload_n 0, 1) := by decide +kernel
theorem dX10_goThrough_85 : decode cX10_goThrough 85 = .ok (.getfield 18, 3) := by decide +kernel
theorem dX10_goThrough_88 : decode cX10_goThrough 88 = .ok (.invokevirtual 58, 3) := by decide +kernel
theorem dX10_goThrough_91 : decode cX10_goThrough 91 = .ok (.iconst 1, 1) := by decide +kernel
theorem dX10_goThrough_92 : decode cX10_goThrough 92 = .ok (.isub, 1) := by decide +kernel
theorem dX10_goThrough_93 : decode cX10_goThrough 93 = .ok (.invokevirtual 62, 3) := by decide +kernel
theorem dX10_goThrough_96 : decode cX10_goThrough 96 = .ok (.checkcast 66, 3) := by decide +kernel
theorem dX10_goThrough_99 : decode cX10_goThrough 99 = .ok (.astore 5, 2) := by decide +kernel
theorem dX10_goThrough_101 : decode cX10_goThrough 101 = .ok (.aload 5, 2) := by decide +kernel
theorem dX10_goThrough_103 : decode cX10_goThrough 103 = .ok (.invokevirtual 68, 3) := by decide +kernel
theorem dX10_goThrough_106 : decode cX10_goThrough 106 = .ok (.ifCond .eq 10, 3) := by decide +kernel
theorem dX10_goThrough_109 : decode cX10_goThrough 109 = .ok (.aload_n 0, 1) := by decide +kernel
theorem dX10_goThrough_110 : decode cX10_goThrough 110 = .ok (.invokevirtual 71, 3) := by decide +kernel
theorem dX10_goThrough_113 : decode cX10_goThrough 113 = .ok (.goto 31, 3) := by decide +kernel
theorem dX10_goThrough_116 : decode cX10_goThrough 116 = .ok (.aload_n 0, 1) := by decide +kernel
theorem dX10_goThrough_117 : decode cX10_goThrough 117 = .ok (.aload_n 0, 1) := by decide +kernel
theorem dX10_goThrough_118 : decode cX10_goThrough 118 = .ok (.getfield 31, 3) := by decide +kernel
theorem dX10_goThrough_121 : decode cX10_goThrough 121 = .ok (.ifCond .le 7, 3) := by decide +kernel
theorem dX10_goThrough_124 : decode cX10_goThrough 124 = .ok (.aconst_null, 1) := by decide +kernel
theorem dX10_goThrough_125 : decode cX10_goThrough 125 = .ok (.goto 16, 3) := by decide +kernel
theorem dX10_goThrough_128 : decode cX10_goThrough 128 = .ok (.aload_n 0, 1) := by decide +kernel
theorem dX10_goThrough_129 : decode cX10_goThrough 129 = .ok (.getfield 9, 3) := by decide +kernel
theorem dX10_goThrough_132 : decode cX10_goThrough 132 = .ok (.aload_n 0, 1) := by decide +kernel
theorem dX10_goThrough_133 : decode cX10_goThrough 133 = .ok (.getfield 28, 3) := by decide +kernel
theorem dX10_goThrough_136 : decode cX10_goThrough 136 = .ok (.aload 5, 2) := by decide +kernel
theorem dX10_goThrough_138 : decode cX10_goThrough 138 = .ok (.invokevirtual 74, 3) := by decide +kernel
theorem dX10_goThrough_141 : decode cX10_goThrough 141 = .ok (.invokevirtual 78, 3) := by decide +kernel
theorem dX10_goThrough_144 : decode cX10_goThrough 144 = .ok (.istore 6, 2) := by decide +kernel
theorem dX10_goThrough_146 : decode cX10_goThrough 146 = .ok (.iload 6, 2) := by decide +kernel
theorem dX10_goThrough_148 : decode cX10_goThrough 148 = .ok (.bipush (-4), 2) := by decide +kernel
theorem dX10_goThrough_150 : decode cX10_goThrough 150 = .ok (.if_icmp .eq 6, 3) := by decide +kernel
theorem dX10_goThrough_153 : decode cX10_goThrough 153 = .ok (.iload 6, 2) := by decide +kernel
theorem dX10_goThrough_155 : decode cX10_goThrough 155 = .ok (.ireturn, 1) := by decide +kernel
theorem dX10_goThrough_156 : decode cX10_goThrough 156 = .ok (.iinc 4 1, 3) := by decide +kernel
theorem dX10_goThrough_159 : decode cX10_goThrough 159 = .ok (.goto (-133), 3) := by decide +kernel
theorem dX10_goThrough_162 : decode cX10_goThrough 162 = .ok (.bipush (-3), 2) := by decide +kernel
theorem dX10_goThrough_164 : decode cX10_goThrough 164 = .ok (.ireturn, 1) := by decide +kernel
theorem dX10_begin_0 : decode cX10_begin 0 = .ok (.aload_n 0, 1) := by decide +kernel
theorem dX10_begin_1 : decode cX10_begin 1 = .ok (.aload_n 1, 1) := by decide +kernel
theorem dX10_begin_2 : decode cX10_begin 2 = .ok (.getfield 82, 3) := by decide +kernel
theorem dX10_begin_5 : decode cX10_begin 5 = .ok (.ifCond .eq 13, 3) := by decide +kernel
theorem dX10_begin_8 : decode cX10_begin 8 = .ok (.aload_n 0, 1) := by decide +kernel
theorem dX10_begin_9 : decode cX10_begin 9 = .ok (.getfield 9, 3) := by decide +kernel
theorem dX10_begin_12 : decode cX10_begin 12 = .ok (.getfield 88, 3) := by decide +kernel
theorem dX10_begin_15 : decode cX10_begin 15 = .ok (.goto 4, 3) := by decide +kernel
theorem dX10_begin_18 : decode cX10_begin 18 = .ok (.aload_n 2, 1) := by decide +kernel
theorem dX10_begin_19 : decode cX10_begin 19 = .ok (.putfield 28, 3) := by decide +kernel
theorem dX10_begin_22 : decode cX10_begin 22 = .ok (.aload_n 1, 1) := by decide +kernel
theorem dX10_begin_23 : decode cX10_begin 23 = .ok (.invokevirtual 91, 3) := by decide +kernel
theorem dX10_begin_26 : decode cX10_begin 26 = .ok (.iconst 1, 1) := by decide +kernel
theorem dX10_begin_27 : decode cX10_begin 27 = .ok (.isub, 1) := by decide +kernel
theorem dX10_begin_28 : decode cX10_begin 28 = .ok (.istore_n 3, 1) := by decide +kernel
theorem dX10_begin_29 : decode cX10_begin 29 = .ok (.iload_n 3, 1) := by decide +kernel
theorem dX10_begin_30 : decode cX10_begin 30 = .ok (.ifCond .lt 22, 3) := by decide +kernel
theorem dX10_begin_33 : decode cX10_begin 33 = .ok (.aload_n 0, 1) := by decide +kernel
theorem dX10_begin_34 : decode cX10_begin 34 = .ok (.getfield 18, 3) := by decide +kernel
theorem dX10_begin_37 : decode cX10_begin 37 = .ok (.aload_n 1, 1) := by decide +kernel
theorem dX10_begin_38 : decode cX10_begin 38 = .ok (.iload_n 3, 1) := by decide +kernel
theorem dX10_begin_39 : decode cX10_begin 39 = .ok (.invokevirtual 94, 3) := by decide +kernel
theorem dX10_begin_42 : decode cX10_begin 42 = .ok (.invokevirtual 98, 3) := by decide +kernel
theorem dX10_begin_45 : decode cX10_begin 45 = .ok (.pop, 1) := by decide +kernel
theorem dX10_begin_46 : decode cX10_begin 46 = .ok (.iinc 3 (-1), 3) := by decide +kernel
theorem dX10_begin_49 : decode cX10_begin 49 = .ok (.goto (-20), 3) := by decide +kernel
theorem dX10_begin_52 : decode cX10_begin 52 = .ok (.return_, 1) := by decide +kernel
theorem dX10_goUp_0 : decode cX10_goUp 0 = .ok (.aload_n 0, 1) := by decide +kernel
theorem dX10_goUp_1 : decode cX10_goUp 1 = .ok (.getfield 31, 3) := by decide +kernel
theorem dX10_goUp_4 : decode cX10_goUp 4 = .ok (.ifCond .le 16, 3) := by decide +kernel
theorem dX10_goUp_7 : decode cX10_goUp 7 = .ok (.aload_n 0, 1) := by decide +kernel
theorem dX10_goUp_8 : decode cX10_goUp 8 = .ok (.dup, 1) := by decide +kernel
theorem dX10_goUp_9 : decode cX10_goUp 9 = .ok (.getfield 31, 3) := by decide +kernel
theorem dX10_goUp_12 : decode cX10_goUp 12 = .ok (.iconst 1, 1) := by decide +kernel
theorem dX10_goUp_13 : decode cX10_goUp 13 = .ok (.isub, 1) := by decide +kernel
theorem dX10_goUp_14 : decode cX10_goUp 14 = .ok (.putfield 31, 3) := by decide +kernel
theorem dX10_goUp_17 : decode cX10_goUp 17 = .ok (.goto 14, 3) := by decide +kernel
theorem dX10_goUp_20 : decode cX10_goUp 20 = .ok (.aload_n 0, 1) := by decide +kernel
theorem dX10_goUp_21 : decode cX10_goUp 21 = .ok (.aload_n 0, 1) := by decide +kernel
theorem dX10_goUp_22 : decode cX10_goUp 22 = .ok (.getfield 28, 3) := by decide +kernel
theorem dX10_goUp_25 : decode cX10_goUp 25 = .ok (.invokevirtual 102, 3) := by decide +kernel
theorem dX10_goUp_28 : decode cX10_goUp 28 = .ok (.putfield 28, 3) := by decide +kernel
theorem dX10_goUp_31 : decode cX10_goUp 31 = .ok (.bipush (-4), 2) := by decide +kernel
theorem dX10_goUp_33 : decode cX10_goUp 33 = .ok (.ireturn, 1) := by decide +kernel
theorem dX10_goTo_0 : decode cX10_goTo 0 = .ok (.aload_n 1, 1) := by decide +kernel
theorem dX10_goTo_1 : decode cX10_goTo 1 = .ok (.ifnonnull 16, 3) := by decide +kernel
theorem dX10_goTo_4 : decode cX10_goTo 4 = .ok (.aload_n 0, 1) := by decide +kernel
theorem dX10_goTo_5 : decode cX10_goTo 5 = .ok (.dup, 1) := by decide +kernel
theorem dX10_goTo_6 : decode cX10_goTo 6 = .ok (.getfield 31, 3) := by decide +kernel
theorem dX10_goTo_9 : decode cX10_goTo 9 = .ok (.iconst 1, 1) := by decide +kernel
theorem dX10_goTo_10 : decode cX10_goTo 10 = .ok (.iadd, 1) := by decide +kernel
theorem dX10_goTo_11 : decode cX10_goTo 11 = .ok (.putfield 31, 3) := by decide +kernel
theorem dX10_goTo_14 : decode cX10_goTo 14 = .ok (.bipush (-4), 2) := by decide +kernel
theorem dX10_goTo_16 : decode cX10_goTo 16 = .ok (.ireturn, 1) := by decide +kernel
theorem dX10_goTo_17 : decode cX10_goTo 17 = .ok (.aload_n 1, 1) := by decide +kernel
theorem dX10_goTo_18 : decode cX10_goTo 18 = .ok (.invokevirtual 106, 3) := by decide +kernel
theorem dX10_goTo_21 : decode cX10_goTo 21 = .ok (.ifCond .eq 11, 3) := by decide +kernel
theorem dX10_goTo_24 : decode cX10_goTo 24 = .ok (.aload_n 0, 1) := by decide +kernel
theorem dX10_goTo_25 : decode cX10_goTo 25 = .ok (.aload_n 1, 1) := by decide +kernel
theorem dX10_goTo_26 : decode cX10_goTo 26 = .ok (.putfield 28, 3) := by decide +kernel
theorem dX10_goTo_29 : decode cX10_goTo 29 = .ok (.bipush (-4), 2) := by decide +kernel
theorem dX10_goTo_31 : decode cX10_goTo 31 = .ok (.ireturn, 1) := by decide +kernel
theorem dX10_goTo_32 : decode cX10_goTo 32 = .ok (.aload_n 1, 1) := by decide +kernel
theorem dX10_goTo_33 : decode cX10_goTo 33 = .ok (.getfield 109, 3) := by decide +kernel
theorem dX10_goTo_36 : decode cX10_goTo 36 = .ok (.ifnull 10, 3) := by decide +kernel
theorem dX10_goTo_39 : decode cX10_goTo 39 = .ok (.aload_n 1, 1) := by decide +kernel
theorem dX10_goTo_40 : decode cX10_goTo 40 = .ok (.getfield 113, 3) := by decide +kernel
theorem dX10_goTo_43 : decode cX10_goTo 43 = .ok (.ifCond .eq 23, 3) := by decide +kernel
theorem dX10_goTo_46 : decode cX10_goTo 46 = .ok (.aload_n 0, 1) := by decide +kernel
theorem dX10_goTo_47 : decode cX10_goTo 47 = .ok (.getfield 18, 3) := by decide +kernel
theorem dX10_goTo_50 : decode cX10_goTo 50 = .ok (.invokevirtual 49, 3) := by decide +kernel
theorem dX10_goTo_53 : decode cX10_goTo 53 = .ok (.ifCond .eq 10, 3) := by decide +kernel
theorem dX10_goTo_56 : decode cX10_goTo 56 = .ok (.aload_n 1, 1) := by decide +kernel
theorem dX10_goTo_57 : decode cX10_goTo 57 = .ok (.getfield 53, 3) := by decide +kernel
theorem dX10_goTo_60 : decode cX10_goTo 60 = .ok (.goto 5, 3) := by decide +kernel
theorem dX10_goTo_63 : decode cX10_goTo 63 = .ok (.bipush (-2), 2) := by decide +kernel
theorem dX10_goTo_65 : decode cX10_goTo 65 = .ok (.ireturn, 1) := by decide +kernel
theorem dX10_goTo_66 : decode cX10_goTo 66 = .ok (.aload_n 0, 1) := by decide +kernel
theorem dX10_goTo_67 : decode cX10_goTo 67 = .ok (.getfield 35, 3) := by decide +kernel
theorem dX10_goTo_70 : decode cX10_goTo 70 = .ok (.bipush 20, 2) := by decide +kernel
theorem dX10_goTo_72 : decode cX10_goTo 72 = .ok (.if_icmp .lt 6, 3) := by decide +kernel
theorem dX10_goTo_75 : decode cX10_goTo 75 = .ok (.bipush (-3), 2) := by decide +kernel
theorem dX10_goTo_77 : decode cX10_goTo 77 = .ok (.ireturn, 1) := by decide +kernel
theorem dX10_goTo_78 : decode cX10_goTo 78 = .ok (.aload_n 0, 1) := by decide +kernel
theorem dX10_goTo_79 : decode cX10_goTo 79 = .ok (.dup, 1) := by decide +kernel
theorem dX10_goTo_80 : decode cX10_goTo 80 = .ok (.getfield 35, 3) := by decide +kernel
theorem dX10_goTo_83 : decode cX10_goTo 83 = .ok (.iconst 1, 1) := by decide +kernel
theorem dX10_goTo_84 : decode cX10_goTo 84 = .ok (.iadd, 1) := by decide +kernel
theorem dX10_goTo_85 : decode cX10_goTo 85 = .ok (.putfield 35, 3) := by decide +kernel
theorem dX10_goTo_88 : decode cX10_goTo 88 = .ok (.aload_n 0, 1) := by decide +kernel
theorem dX10_goTo_89 : decode cX10_goTo 89 = .ok (.aload_n 1, 1) := by decide +kernel
theorem dX10_goTo_90 : decode cX10_goTo 90 = .ok (.getfield 109, 3) := by decide +kernel
theorem dX10_goTo_93 : decode cX10_goTo 93 = .ok (.aload_n 1, 1) := by decide +kernel
theorem dX10_goTo_94 : decode cX10_goTo 94 = .ok (.invokevirtual 102, 3) := by decide +kernel
theorem dX10_goTo_97 : decode cX10_goTo 97 = .ok (.invokevirtual 41, 3) := by decide +kernel
theorem dX10_goTo_100 : decode cX10_goTo 100 = .ok (.bipush (-4), 2) := by decide +kernel
theorem dX10_goTo_102 : decode cX10_goTo 102 = .ok (.ireturn, 1) := by decide +kernel
theorem dX11_init_0 : decode cX11_init 0 = .ok (.aload_n 0, 1) := by decide +kernel
theorem dX11_init_1 : decode cX11_init 1 = .ok (.invokespecial 1, 3) := by decide +kernel
theorem dX11_init_4 : decode cX11_init 4 = .ok (.aload_n 0, 1) := by decide +kernel
theorem dX11_init_5 : decode cX11_init 5 = .ok (.new 7, 3) := by decide +kernel
theorem dX11_init_8 : decode cX11_init 8 = .ok (.dup, 1) := by decide +kernel
theorem dX11_init_9 : decode cX11_init 9 = .ok (.iload_n 1, 1) := by decide +kernel
theorem dX11_init_10 : decode cX11_init 10 = .ok (.invokespecial 9, 3) := by decide +kernel
theorem dX11_init_13 : decode cX11_init 13 = .ok (.putfield 12, 3) := by decide +kernel
theorem dX11_init_16 : decode cX11_init 16 = .ok (.aload_n 0, 1) := by decide +kernel
theorem dX11_init_17 : decode cX11_init 17 = .ok (.new 18, 3) := by decide +kernel
theorem dX11_init_20 : decode cX11_init 20 = .ok (.dup, 1) := by decide +kernel
theorem dX11_init_21 : decode cX11_init 21 = .ok (.invokespecial 20, 3) := by decide +kernel
theorem dX11_init_24 : decode cX11_init 24 = .ok (.putfield 21, 3) := by decide +kernel
theorem dX11_init_27 : decode cX11_init 27 = .ok (.aload_n 0, 1) := by decide +kernel
theorem dX11_init_28 : decode cX11_init 28 = .ok (.new 25, 3) := by decide +kernel
theorem dX11_init_31 : decode cX11_init 31 = .ok (.dup, 1) := by decide +kernel
theorem dX11_init_32 : decode cX11_init 32 = .ok (.invokespecial 27, 3) := by decide +kernel
theorem dX11_init_35 : decode cX11_init 35 = .ok (.putfield 28, 3) := by decide +kernel
theorem dX11_init_38 : decode cX11_init 38 = .ok (.aload_n 0, 1) := by decide +kernel
theorem dX11_init_39 : decode cX11_init 39 = .ok (.new 25, 3) := by decide +kernel
theorem dX11_init_42 : decode cX11_init 42 = .ok (.dup, 1) := by decide +kernel
theorem dX11_init_43 : decode cX11_init 43 = .ok (.invokespecial 27, 3) := by decide +kernel
theorem dX11_init_46 : decode cX11_init 46 = .ok (.putfield 32, 3) := by decide +kernel
theorem dX11_init_49 : decode cX11_init 49 = .ok (.aload_n 0, 1) := by decide +kernel
theorem dX11_init_50 : decode cX11_init 50 = .ok (.new 25, 3) := by decide +kernel
theorem dX11_init_53 : decode cX11_init 53 = .ok (.dup, 1) := by decide +kernel
theorem dX11_init_54 : decode cX11_init 54 = .ok (.invokespecial 27, 3) := by decide +kernel
theorem dX11_init_57 : decode cX11_init 57 = .ok (.putfield 35, 3) := by decide +kernel
theorem dX11_init_60 : decode cX11_init 60 = .ok (.aload_n 0, 1) := by decide +kernel
theorem dX11_init_61 : decode cX11_init 61 = .ok (.new 38, 3) := by decide +kernel
theorem dX11_init_64 : decode cX11_init 64 = .ok (.dup, 1) := by decide +kernel
theorem dX11_init_65 : decode cX11_init 65 = .ok (.aload_n 0, 1) := by decide +kernel
theorem dX11_init_66 : decode cX11_init 66 = .ok (.getfield 12, 3) := by decide +kernel
theorem dX11_init_69 : decode cX11_init 69 = .ok (.invokespecial 40, 3) := by decide +kernel
theorem dX11_init_72 : decode cX11_init 72 = .ok (.putfield 43, 3) := by decide +kernel
theorem dX11_init_75 : decode cX11_init 75 = .ok (.aload_n 0, 1) := by decide +kernel
theorem dX11_init_76 : decode cX11_init 76 = .ok (.new 47, 3) := by decide +kernel
theorem dX11_init_79 : decode cX11_init 79 = .ok (.dup, 1) := by decide +kernel
theorem dX11_init_80 : decode cX11_init 80 = .ok (.aload_n 0, 1) := by decide +kernel
theorem dX11_init_81 : decode cX11_init 81 = .ok (.getfield 43, 3) := by decide +kernel
theorem dX11_init_84 : decode cX11_init 84 = .ok (.invokespecial 49, 3) := by decide +kernel
theorem dX11_init_87 : decode cX11_init 87 = .ok (.putfield 52, 3) := by decide +kernel
theorem dX11_init_90 : decode cX11_init 90 = .ok (.aload_n 0, 1) := by decide +kernel
theorem dX11_init_91 : decode cX11_init 91 = .ok (.new 56, 3) := by decide +kernel
theorem dX11_init_94 : decode cX11_init 94 = .ok (.dup, 1) := by decide +kernel
theorem dX11_init_95 : decode cX11_init 95 = .ok (.aload_n 0, 1) := by decide +kernel
theorem dX11_init_96 : decode cX11_init 96 = .ok (.getfield 12, 3) := by decide +kernel
theorem dX11_init_99 : decode cX11_init 99 = .ok (.aload_n 0, 1) := by decide +kernel
theorem dX11_init_100 : decode cX11_init 100 = .ok (.getfield 43, 3) := by decide +kernel
theorem dX11_init_103 : decode cX11_init 103 = .ok (.aload_n 0, 1) := by decide +kernel
theorem dX11_init_104 : decode cX11_init 104 = .ok (.getfield 52, 3) := by decide +kernel
theorem dX11_init_107 : decode cX11_init 107 = .ok (.invokespecial 58, 3) := by decide +kernel
theorem dX11_init_110 : decode cX11_init 110 = .ok (.putfield 61, 3) := by decide +kernel
theorem dX11_init_113 : decode cX11_init 113 = .ok (.aload_n 0, 1) := by decide +kernel
theorem dX11_init_114 : decode cX11_init 114 = .ok (.iconst 0, 1) := by decide +kernel
theorem dX11_init_115 : decode cX11_init 115 = .ok (.putfield 65, 3) := by decide +kernel
theorem dX11_init_118 : decode cX11_init 118 = .ok (.return_, 1) := by decide +kernel
theorem dX11_put_0 : decode cX11_put 0 = .ok (.aload_n 0, 1) := by decide +kernel
theorem dX11_put_1 : decode cX11_put 1 = .ok (.getfield 21, 3) := by decide +kernel
theorem dX11_put_4 : decode cX11_put 4 = .ok (.iload_n 1, 1) := by decide +kernel
theorem dX11_put_5 : decode cX11_put 5 = .ok (.invokevirtual 69, 3) := by decide +kernel
theorem dX11_put_8 : decode cX11_put 8 = .ok (.ireturn, 1) := by decide +kernel
theorem dX11_path_0 : decode cX11_path 0 = .ok (.aload_n 0, 1) := by decide +kernel
theorem dX11_path_1 : decode cX11_path 1 = .ok (.getfield 21, 3) := by decide +kernel
theorem dX11_path_4 : decode cX11_path 4 = .ok (.aload_n 0, 1) := by decide +kernel
theorem dX11_path_5 : decode cX11_path 5 = .ok (.getfield 12, 3) := by decide +kernel
theorem dX11_path_8 : decode cX11_path 8 = .ok (.invokevirtual 73, 3) := by decide +kernel
theorem dX11_path_11 : decode cX11_path 11 = .ok (.astore_n 1, 1) := by decide +kernel
theorem dX11_path_12 : decode cX11_path 12 = .ok (.aload_n 0, 1) := by decide +kernel
theorem dX11_path_13 : decode cX11_path 13 = .ok (.aload_n 1, 1) := by decide +kernel
theorem dX11_path_14 : decode cX11_path 14 = .ok (.invokevirtual 77, 3) := by decide +kernel
theorem dX11_path_17 : decode cX11_path 17 = .ok (.istore_n 2, 1) := by decide +kernel
theorem dX11_path_18 : decode cX11_path 18 = .ok (.iload_n 2, 1) := by decide +kernel
theorem dX11_path_19 : decode cX11_path 19 = .ok (.ifCond .ne 29, 3) := by decide +kernel
theorem dX11_path_22 : decode cX11_path 22 = .ok (.aload_n 0, 1) := by decide +kernel
theorem dX11_path_23 : decode cX11_path 23 = .ok (.getfield 28, 3) := by decide +kernel
theorem dX11_path_26 : decode cX11_path 26 = .ok (.invokevirtual 81, 3) := by decide +kernel
theorem dX11_path_29 : decode cX11_path 29 = .ok (.istore_n 2, 1) := by decide +kernel
theorem dX11_path_30 : decode cX11_path 30 = .ok (.aload_n 0, 1) := by decide +kernel
theorem dX11_path_31 : decode cX11_path 31 = .ok (.getfield 28, 3) := by decide +kernel
theorem dX11_path_34 : decode cX11_path 34 = .ok (.new 85, 3) := by decide +kernel
theorem dX11_path_37 : decode cX11_path 37 = .ok (.dup, 1) := by decide +kernel
theorem dX11_path_38 : decode cX11_path 38 = .ok (.iload_n 2, 1) := by decide +kernel
theorem dX11_path_39 : decode cX11_path 39 = .ok (.iconst 0, 1) := by decide +kernel
theorem dX11_path_40 : decode cX11_path 40 = .ok (.aload_n 1, 1) := by decide +kernel
theorem dX11_path_41 : decode cX11_path 41 = .ok (.invokespecial 87, 3) := by decide +kernel
theorem dX11_path_44 : decode cX11_path 44 = .ok (.invokevirtual 90, 3) := by decide +kernel
theorem dX11_path_47 : decode cX11_path 47 = .ok (.pop, 1) := by decide +kernel
theorem dX11_path_48 : decode cX11_path 48 = .ok (.aload_n 0, 1) := by decide +kernel
theorem dX11_path_49 : decode cX11_path 49 = .ok (.getfield 21, 3) := by decide +kernel
theorem dX11_path_52 : decode cX11_path 52 = .ok (.invokevirtual 94, 3) := by decide +kernel
theorem dX11_path_55 : decode cX11_path 55 = .ok (.iload_n 2, 1) := by decide +kernel
theorem dX11_path_56 : decode cX11_path 56 = .ok (.ireturn, 1) := by decide +kernel
theorem dX11_part_0 : decode cX11_part 0 = .ok (.aload_n 0, 1) := by decide +kernel
theorem dX11_part_1 : decode cX11_part 1 = .ok (.getfield 28, 3) := by decide +kernel
theorem dX11_part_4 : decode cX11_part 4 = .ok (.iload_n 1, 1) := by decide +kernel
theorem dX11_part_5 : decode cX11_part 5 = .ok (.invokestatic 97, 3) := by decide +kernel
theorem dX11_part_8 : decode cX11_part 8 = .ok (.astore 4, 2) := by decide +kernel
theorem dX11_part_10 : decode cX11_part 10 = .ok (.aload 4, 2) := by decide +kernel
theorem dX11_part_12 : decode cX11_part 12 = .ok (.ifnonnull 7, 3) := by decide +kernel
theorem dX11_part_15 : decode cX11_part 15 = .ok (.iconst (-1), 1) := by decide +kernel
theorem dX11_part_16 : decode cX11_part 16 = .ok (.goto 13, 3) := by decide +kernel
theorem dX11_part_19 : decode cX11_part 19 = .ok (.aload 4, 2) := by decide +kernel
theorem dX11_part_21 : decode cX11_part 21 = .ok (.iload_n 2, 1) := by decide +kernel
theorem dX11_part_22 : decode cX11_part 22 = .ok (.invokevirtual 101, 3) := by decide +kernel
theorem dX11_part_25 : decode cX11_part 25 = .ok (.iload_n 3, 1) := by decide +kernel
theorem dX11_part_26 : decode cX11_part 26 = .ok (.invokevirtual 105, 3) := by decide +kernel
theorem dX11_part_29 : decode cX11_part 29 = .ok (.ireturn, 1) := by decide +kernel
theorem dX11_meets_0 : decode cX11_meets 0 = .ok (.aload_n 0, 1) := by decide +kernel
theorem dX11_meets_1 : decode cX11_meets 1 = .ok (.getfield 28, 3) := by decide +kernel
theorem dX11_meets_4 : decode cX11_meets 4 = .ok (.iload_n 1, 1) := by decide +kernel
theorem dX11_meets_5 : decode cX11_meets 5 = .ok (.invokestatic 97, 3) := by decide +kernel
theorem dX11_meets_8 : decode cX11_meets 8 = .ok (.astore_n 3, 1) := by decide +kernel
theorem dX11_meets_9 : decode cX11_meets 9 = .ok (.aload_n 0, 1) := by decide +kernel
theorem dX11_meets_10 : decode cX11_meets 10 = .ok (.getfield 28, 3) := by decide +kernel
theorem dX11_meets_13 : decode cX11_meets 13 = .ok (.iload_n 2, 1) := by decide +kernel
theorem dX11_meets_14 : decode cX11_meets 14 = .ok (.invokestatic 97, 3) := by decide +kernel
theorem dX11_meets_17 : decode cX11_meets 17 = .ok (.astore 4, 2) := by decide +kernel
theorem dX11_meets_19 : decode cX11_meets 19 = .ok (.aload_n 3, 1) := by decide +kernel
theorem dX11_meets_20 : decode cX11_meets 20 = .ok (.ifnull 8, 3) := by decide +kernel
theorem dX11_meets_23 : decode cX11_meets 23 = .ok (.aload 4, 2) := by decide +kernel
theorem dX11_meets_25 : decode cX11_meets 25 = .ok (.ifnonnull 6, 3) := by decide +kernel
theorem dX11_meets_28 : decode cX11_meets 28 = .ok (.bipush (-7), 2) := by decide +kernel
theorem dX11_meets_30 : decode cX11_meets 30 = .ok (.ireturn, 1) := by decide +kernel
theorem dX11_meets_31 : decode cX11_meets 31 = .ok (.aload_n 3, 1) := by decide +kernel
theorem dX11_meets_32 : decode cX11_meets 32 = .ok (.invokevirtual 110, 3) := by decide +kernel
theorem dX11_meets_35 : decode cX11_meets 35 = .ok (.aload 4, 2) := by decide +kernel
theorem dX11_meets_37 : decode cX11_meets 37 = .ok (.invokevirtual 110, 3) := by decide +kernel
theorem dX11_meets_40 : decode cX11_meets 40 = .ok (.if_icmp .eq 5, 3) := by decide +kernel
theorem dX11_meets_43 : decode cX11_meets 43 = .ok (.iconst 0, 1) := by decide +kernel
theorem dX11_meets_44 : decode cX11_meets 44 = .ok (.ireturn, 1) := by decide +kernel
theorem dX11_meets_45 : decode cX11_meets 45 = .ok (.iconst 0, 1) := by decide +kernel
theorem dX11_meets_46 : decode cX11_meets 46 = .ok (.istore 5, 2) := by decide +kernel
theorem dX11_meets_48 : decode cX11_meets 48 = .ok (.iload 5, 2) := by decide +kernel
theorem dX11_meets_50 : decode cX11_meets 50 = .ok (.aload_n 3, 1) := by decide +kernel
theorem dX11_meets_51 : decode cX11_meets 51 = .ok (.invokevirtual 110, 3) := by decide +kernel
theorem dX11_meets_54 : decode cX11_meets 54 = .ok (.if_icmp .ge 34, 3) := by decide +kernel
theorem dX11_meets_57 : decode cX11_meets 57 = .ok (.aload_n 0, 1) := by decide +kernel
theorem dX11_meets_58 : decode cX11_meets 58 = .ok (.getfield 12, 3) := by decide +kernel
theorem dX11_meets_61 : decode cX11_meets 61 = .ok (.aload_n 3, 1) := by decide +kernel
theorem dX11_meets_62 : decode cX11_meets 62 = .ok (.iload 5, 2) := by decide +kernel
theorem dX11_meets_64 : decode cX11_meets 64 = .ok (.invokevirtual 101, 3) := by decide +kernel
theorem dX11_meets_67 : decode cX11_meets 67 = .ok (.aload 4, 2) := by decide +kernel
theorem dX11_meets_69 : decode cX11_meets 69 = .ok (.iload 5, 2) := by decide +kernel
theorem dX11_meets_71 : decode cX11_meets 71 = .ok (.invokevirtual 101, 3) := by decide +kernel
theorem dX11_meets_74 : decode cX11_meets 74 = .ok (.invokevirtual 113, 3) := by decide +kernel
theorem dX11_meets_77 : decode cX11_meets 77 = .ok (.ifCond .ne 5, 3) := by decide +kernel
theorem dX11_meets_80 : decode cX11_meets 80 = .ok (.iconst 0, 1) := by decide +kernel
theorem dX11_meets_81 : decode cX11_meets 81 = .ok (.ireturn, 1) := by decide +kernel
theorem dX11_meets_82 : decode cX11_meets 82 = .ok (.iinc 5 1, 3) := by decide +kernel
theorem dX11_meets_85 : decode cX11_meets 85 = .ok (.goto (-37), 3) := by decide +kernel
theorem dX11_meets_88 : decode cX11_meets 88 = .ok (.iconst 1, 1) := by decide +kernel
theorem dX11_meets_89 : decode cX11_meets 89 = .ok (.ireturn, 1) := by decide +kernel
theorem dX11_target_0 : decode cX11_target 0 = .ok (.aload_n 0, 1) := by decide +kernel
theorem dX11_target_1 : decode cX11_target 1 = .ok (.invokevirtual 117, 3) := by decide +kernel
theorem dX11_target_4 : decode cX11_target 4 = .ok (.istore_n 1, 1) := by decide +kernel
theorem dX11_target_5 : decode cX11_target 5 = .ok (.iload_n 1, 1) := by decide +kernel
theorem dX11_target_6 : decode cX11_target 6 = .ok (.ifCond .ne 49, 3) := by decide +kernel
theorem dX11_target_9 : decode cX11_target 9 = .ok (.aload_n 0, 1) := by decide +kernel
theorem dX11_target_10 : decode cX11_target 10 = .ok (.getfield 32, 3) := by decide +kernel
theorem dX11_target_13 : decode cX11_target 13 = .ok (.invokevirtual 81, 3) := by decide +kernel
theorem dX11_target_16 : decode cX11_target 16 = .ok (.istore_n 1, 1) := by decide +kernel
theorem dX11_target_17 : decode cX11_target 17 = .ok (.aload_n 0, 1) := by decide +kernel
theorem dX11_target_18 : decode cX11_target 18 = .ok (.getfield 32, 3) := by decide +kernel
theorem dX11_target_21 : decode cX11_target 21 = .ok (.new 85, 3) := by decide +kernel
theorem dX11_target_24 : decode cX11_target 24 = .ok (.dup, 1) := by decide +kernel
theorem dX11_target_25 : decode cX11_target 25 = .ok (.iload_n 1, 1) := by decide +kernel
theorem dX11_target_26 : decode cX11_target 26 = .ok (.aload_n 0, 1) := by decide +kernel
theorem dX11_target_27 : decode cX11_target 27 = .ok (.getfield 21, 3) := by decide +kernel
theorem dX11_target_30 : decode cX11_target 30 = .ok (.aload_n 0, 1) := by decide +kernel
theorem dX11_target_31 : decode cX11_target 31 = .ok (.getfield 12, 3) := by decide +kernel
theorem dX11_target_34 : decode cX11_target 34 = .ok (.invokevirtual 120, 3) := by decide +kernel
theorem dX11_target_37 : decode cX11_target 37 = .ok (.aload_n 0, 1) := by decide +kernel
theorem dX11_target_38 : decode cX11_target 38 = .ok (.getfield 21, 3) := by decide +kernel
theorem dX11_target_41 : decode cX11_target 41 = .ok (.aload_n 0, 1) := by decide +kernel
theorem dX11_target_42 : decode cX11_target 42 = .ok (.getfield 12, 3) := by decide +kernel
theorem dX11_target_45 : decode cX11_target 45 = .ok (.invokevirtual 73, 3) := by decide +kernel
theorem dX11_target_48 : decode cX11_target 48 = .ok (.invokespecial 87, 3) := by decide +kernel
theorem dX11_target_51 : decode cX11_target 51 = .ok (.invokevirtual 90, 3) := by decide +kernel
theorem dX11_target_54 : decode cX11_target 54 = .ok (.pop, 1) := by decide +kernel
theorem dX11_target_55 : decode cX11_target 55 = .ok (.aload_n 0, 1) := by decide +kernel
theorem dX11_target_56 : decode cX11_target 56 = .ok (.getfield 21, 3) := by decide +kernel
theorem dX11_target_59 : decode cX11_target 59 = .ok (.invokevirtual 94, 3) := by decide +kernel
theorem dX11_target_62 : decode cX11_target 62 = .ok (.iload_n 1, 1) := by decide +kernel
theorem dX11_target_63 : decode cX11_target 63 = .ok (.ireturn, 1) := by decide +kernel
theorem dX11_entry_0 : decode cX11_entry 0 = .ok (.iload_n 1, 1) := by decide +kernel
theorem dX11_entry_1 : decode cX11_entry 1 = .ok (.ifCond .lt 8, 3) := by decide +kernel
theorem dX11_entry_4 : decode cX11_entry 4 = .ok (.iload_n 1, 1) := by decide +kernel
theorem dX11_entry_5 : decode cX11_entry 5 = .ok (.iconst 4, 1) := by decide +kernel
theorem dX11_entry_6 : decode cX11_entry 6 = .ok (.if_icmp .le 6, 3) := by decide +kernel
theorem dX11_entry_9 : decode cX11_entry 9 = .ok (.bipush (-7), 2) := by decide +kernel
theorem dX11_entry_11 : decode cX11_entry 11 = .ok (.ireturn, 1) := by decide +kernel
theorem dX11_entry_12 : decode cX11_entry 12 = .ok (.aload_n 0, 1) := by decide +kernel
theorem dX11_entry_13 : decode cX11_entry 13 = .ok (.getfield 28, 3) := by decide +kernel
theorem dX11_entry_16 : decode cX11_entry 16 = .ok (.iload_n 2, 1) := by decide +kernel
theorem dX11_entry_17 : decode cX11_entry 17 = .ok (.invokestatic 97, 3) := by decide +kernel
theorem dX11_entry_20 : decode cX11_entry 20 = .ok (.astore 6, 2) := by decide +kernel
theorem dX11_entry_22 : decode cX11_entry 22 = .ok (.aload_n 0, 1) := by decide +kernel
theorem dX11_entry_23 : decode cX11_entry 23 = .ok (.iload_n 1, 1) := by decide +kernel
theorem dX11_entry_24 : decode cX11_entry 24 = .ok (.iload_n 3, 1) := by decide +kernel
theorem dX11_entry_25 : decode cX11_entry 25 = .ok (.aload 6, 2) := by decide +kernel
theorem dX11_entry_27 : decode cX11_entry 27 = .ok (.invokevirtual 124, 3) := by decide +kernel
theorem dX11_entry_30 : decode cX11_entry 30 = .ok (.astore 7, 2) := by decide +kernel
theorem dX11_entry_32 : decode cX11_entry 32 = .ok (.aload 6, 2) := by decide +kernel
theorem dX11_entry_34 : decode cX11_entry 34 = .ok (.ifnull 8, 3) := by decide +kernel
theorem dX11_entry_37 : decode cX11_entry 37 = .ok (.aload 7, 2) := by decide +kernel
theorem dX11_entry_39 : decode cX11_entry 39 = .ok (.ifnonnull 6, 3) := by decide +kernel
theorem dX11_entry_42 : decode cX11_entry 42 = .ok (.bipush (-7), 2) := by decide +kernel
theorem dX11_entry_44 : decode cX11_entry 44 = .ok (.ireturn, 1) := by decide +kernel
theorem dX11_entry_45 : decode cX11_entry 45 = .ok (.iload_n 1, 1) := by decide +kernel
theorem dX11_entry_46 : decode cX11_entry 46 = .ok (.ifCond .ne 15, 3) := by decide +kernel
theorem dX11_entry_49 : decode cX11_entry 49 = .ok (.iload_n 3, 1) := by decide +kernel
theorem dX11_entry_50 : decode cX11_entry 50 = .ok (.ifCond .eq 11, 3) := by decide +kernel
theorem dX11_entry_53 : decode cX11_entry 53 = .ok (.iload_n 3, 1) := by decide +kernel
theorem dX11_entry_54 : decode cX11_entry 54 = .ok (.iconst 1, 1) := by decide +kernel
theorem dX11_entry_55 : decode cX11_entry 55 = .ok (.if_icmp .eq 6, 3) := by decide +kernel
theorem dX11_entry_58 : decode cX11_entry 58 = .ok (.bipush (-7), 2) := by decide +kernel
theorem dX11_entry_60 : decode cX11_entry 60 = .ok (.ireturn, 1) := by decide +kernel
theorem dX11_entry_61 : decode cX11_entry 61 = .ok (.iload_n 1, 1) := by decide +kernel
theorem dX11_entry_62 : decode cX11_entry 62 = .ok (.iconst 1, 1) := by decide +kernel
theorem dX11_entry_63 : decode cX11_entry 63 = .ok (.if_icmp .ne 22, 3) := by decide +kernel
theorem dX11_entry_66 : decode cX11_entry 66 = .ok (.lload 4, 2) := by decide +kernel
theorem dX11_entry_68 : decode cX11_entry 68 = .ok (.lconst 0, 1) := by decide +kernel
theorem dX11_entry_69 : decode cX11_entry 69 = .ok (.lcmp, 1) := by decide +kernel
theorem dX11_entry_70 : decode cX11_entry 70 = .ok (.ifCond .lt 12, 3) := by decide +kernel
theorem dX11_entry_73 : decode cX11_entry 73 = .ok (.lload 4, 2) := by decide +kernel
theorem dX11_entry_75 : decode cX11_entry 75 = .ok (.ldc2_w 128, 3) := by decide +kernel
theorem dX11_entry_78 : decode cX11_entry 78 = .ok (.lcmp, 1) := by decide +kernel
theorem dX11_entry_79 : decode cX11_entry 79 = .ok (.ifCond .le 6, 3) := by decide +kernel
theorem dX11_entry_82 : decode cX11_entry 82 = .ok (.bipush (-7), 2) := by decide +kernel
theorem dX11_entry_84 : decode cX11_entry 84 = .ok (.ireturn, 1) := by decide +kernel
theorem dX11_entry_85 : decode cX11_entry 85 = .ok (.aload_n 0, 1) := by decide +kernel
theorem dX11_entry_86 : decode cX11_entry 86 = .ok (.getfield 35, 3) := by decide +kernel
theorem dX11_entry_89 : decode cX11_entry 89 = .ok (.invokevirtual 81, 3) := by decide +kernel
theorem dX11_entry_92 : decode cX11_entry 92 = .ok (.bipush 100, 2) := by decide +kernel
theorem dX11_entry_94 : decode cX11_entry 94 = .ok (.if_icmp .lt 6, 3) := by decide +kernel
theorem dX11_entry_97 : decode cX11_entry 97 = .ok (.bipush (-6), 2) := by decide +kernel
theorem dX11_entry_99 : decode cX11_entry 99 = .ok (.ireturn, 1) := by decide +kernel
theorem dX11_entry_100 : decode cX11_entry 100 = .ok (.aload_n 0, 1) := by decide +kernel
theorem dX11_entry_101 : decode cX11_entry 101 = .ok (.getfield 35, 3) := by decide +kernel
theorem dX11_entry_104 : decode cX11_entry 104 = .ok (.new 130, 3) := by decide +kernel
theorem dX11_entry_107 : decode cX11_entry 107 = .ok (.dup, 1) := by decide +kernel
theorem dX11_entry_108 : decode cX11_entry 108 = .ok (.iload_n 1, 1) := by decide +kernel
theorem dX11_entry_109 : decode cX11_entry 109 = .ok (.aload 6, 2) := by decide +kernel
theorem dX11_entry_111 : decode cX11_entry 111 = .ok (.aload 7, 2) := by decide +kernel
theorem dX11_entry_113 : decode cX11_entry 113 = .ok (.iload_n 3, 1) := by decide +kernel
theorem dX11_entry_114 : decode cX11_entry 114 = .ok (.lload 4, 2) := by decide +kernel
theorem dX11_entry_116 : decode cX11_entry 116 = .ok (.invokespecial 132, 3) := by decide +kernel
theorem dX11_entry_119 : decode cX11_entry 119 = .ok (.invokevirtual 90, 3) := by decide +kernel
theorem dX11_entry_122 : decode cX11_entry 122 = .ok (.pop, 1) := by decide +kernel
theorem dX11_entry_123 : decode cX11_entry 123 = .ok (.aload_n 0, 1) := by decide +kernel
theorem dX11_entry_124 : decode cX11_entry 124 = .ok (.getfield 35, 3) := by decide +kernel
theorem dX11_entry_127 : decode cX11_entry 127 = .ok (.invokevirtual 81, 3) := by decide +kernel
theorem dX11_entry_130 : decode cX11_entry 130 = .ok (.iconst 1, 1) := by decide +kernel
theorem dX11_entry_131 : decode cX11_entry 131 = .ok (.isub, 1) := by decide +kernel
theorem dX11_entry_132 : decode cX11_entry 132 = .ok (.ireturn, 1) := by decide +kernel
theorem dX11_take_0 : decode cX11_take 0 = .ok (.iload_n 1, 1) := by decide +kernel
theorem dX11_take_1 : decode cX11_take 1 = .ok (.ifCond .lt 14, 3) := by decide +kernel
theorem dX11_take_4 : decode cX11_take 4 = .ok (.iload_n 1, 1) := by decide +kernel
theorem dX11_take_5 : decode cX11_take 5 = .ok (.aload_n 0, 1) := by decide +kernel
theorem dX11_take_6 : decode cX11_take 6 = .ok (.getfield 35, 3) := by decide +kernel
theorem dX11_take_9 : decode cX11_take 9 = .ok (.invokevirtual 81, 3) := by decide +kernel
theorem dX11_take_12 : decode cX11_take 12 = .ok (.if_icmp .lt 6, 3) := by decide +kernel
theorem dX11_take_15 : decode cX11_take 15 = .ok (.bipush (-7), 2) := by decide +kernel
theorem dX11_take_17 : decode cX11_take 17 = .ok (.ireturn, 1) := by decide +kernel
theorem dX11_take_18 : decode cX11_take 18 = .ok (.aload_n 0, 1) := by decide +kernel
theorem dX11_take_19 : decode cX11_take 19 = .ok (.getfield 35, 3) := by decide +kernel
theorem dX11_take_22 : decode cX11_take 22 = .ok (.iload_n 1, 1) := by decide +kernel
theorem dX11_take_23 : decode cX11_take 23 = .ok (.invokevirtual 135, 3) := by decide +kernel
theorem dX11_take_26 : decode cX11_take 26 = .ok (.checkcast 130, 3) := by decide +kernel
theorem dX11_take_29 : decode cX11_take 29 = .ok (.astore_n 2, 1) := by decide +kernel
theorem dX11_take_30 : decode cX11_take 30 = .ok (.aload_n 0, 1) := by decide +kernel
theorem dX11_take_31 : decode cX11_take 31 = .ok (.getfield 61, 3) := by decide +kernel
theorem dX11_take_34 : decode cX11_take 34 = .ok (.aload_n 2, 1) := by decide +kernel
theorem dX11_take_35 : decode cX11_take 35 = .ok (.invokevirtual 139, 3) := by decide +kernel
theorem dX11_take_38 : decode cX11_take 38 = .ok (.istore_n 3, 1) := by decide +kernel
theorem dX11_take_39 : decode cX11_take 39 = .ok (.iload_n 3, 1) := by decide +kernel
theorem dX11_take_40 : decode cX11_take 40 = .ok (.bipush (-20), 2) := by decide +kernel
theorem dX11_take_42 : decode cX11_take 42 = .ok (.if_icmp .ne 13, 3) := by decide +kernel
theorem dX11_take_45 : decode cX11_take 45 = .ok (.aload_n 0, 1) := by decide +kernel
theorem dX11_take_46 : decode cX11_take 46 = .ok (.dup, 1) := by decide +kernel
theorem dX11_take_47 : decode cX11_take 47 = .ok (.getfield 65, 3) := by decide +kernel
theorem dX11_take_50 : decode cX11_take 50 = .ok (.iconst 1, 1) := by decide +kernel
theorem dX11_take_51 : decode cX11_take 51 = .ok (.iadd, 1) := by decide +kernel
theorem dX11_take_52 : decode cX11_take 52 = .ok (.putfield 65, 3) := by decide +kernel
theorem dX11_take_55 : decode cX11_take 55 = .ok (.iload_n 3, 1) := by decide +kernel
theorem dX11_take_56 : decode cX11_take 56 = .ok (.ifCond .ne 14, 3) := by decide +kernel
theorem dX11_take_59 : decode cX11_take 59 = .ok (.aload_n 0, 1) := by decide +kernel
theorem dX11_take_60 : decode cX11_take 60 = .ok (.getfield 61, 3) := by decide +kernel
theorem dX11_take_63 : decode cX11_take 63 = .ok (.aload_n 2, 1) := by decide +kernel
theorem dX11_take_64 : decode cX11_take 64 = .ok (.invokevirtual 143, 3) := by decide +kernel
theorem dX11_take_67 : decode cX11_take 67 = .ok (.goto 4, 3) := by decide +kernel
theorem dX11_take_70 : decode cX11_take 70 = .ok (.iload_n 3, 1) := by decide +kernel
theorem dX11_take_71 : decode cX11_take 71 = .ok (.ireturn, 1) := by decide +kernel
theorem dX11_dry_0 : decode cX11_dry 0 = .ok (.iload_n 1, 1) := by decide +kernel
theorem dX11_dry_1 : decode cX11_dry 1 = .ok (.ifCond .lt 14, 3) := by decide +kernel
theorem dX11_dry_4 : decode cX11_dry 4 = .ok (.iload_n 1, 1) := by decide +kernel
theorem dX11_dry_5 : decode cX11_dry 5 = .ok (.aload_n 0, 1) := by decide +kernel
theorem dX11_dry_6 : decode cX11_dry 6 = .ok (.getfield 35, 3) := by decide +kernel
theorem dX11_dry_9 : decode cX11_dry 9 = .ok (.invokevirtual 81, 3) := by decide +kernel
theorem dX11_dry_12 : decode cX11_dry 12 = .ok (.if_icmp .lt 6, 3) := by decide +kernel
theorem dX11_dry_15 : decode cX11_dry 15 = .ok (.bipush (-7), 2) := by decide +kernel
theorem dX11_dry_17 : decode cX11_dry 17 = .ok (.ireturn, 1) := by decide +kernel
theorem dX11_dry_18 : decode cX11_dry 18 = .ok (.aload_n 0, 1) := by decide +kernel
theorem dX11_dry_19 : decode cX11_dry 19 = .ok (.getfield 61, 3) := by decide +kernel
theorem dX11_dry_22 : decode cX11_dry 22 = .ok (.aload_n 0, 1) := by decide +kernel
theorem dX11_dry_23 : decode cX11_dry 23 = .ok (.getfield 35, 3) := by decide +kernel
theorem dX11_dry_26 : decode cX11_dry 26 = .ok (.iload_n 1, 1) := by decide +kernel
theorem dX11_dry_27 : decode cX11_dry 27 = .ok (.invokevirtual 135, 3) := by decide +kernel
theorem dX11_dry_30 : decode cX11_dry 30 = .ok (.checkcast 130, 3) := by decide +kernel
theorem dX11_dry_33 : decode cX11_dry 33 = .ok (.invokevirtual 139, 3) := by decide +kernel
theorem dX11_dry_36 : decode cX11_dry 36 = .ok (.ireturn, 1) := by decide +kernel
theorem dX11_finish_0 : decode cX11_finish 0 = .ok (.aload_n 0, 1) := by decide +kernel
theorem dX11_finish_1 : decode cX11_finish 1 = .ok (.getfield 61, 3) := by decide +kernel
theorem dX11_finish_4 : decode cX11_finish 4 = .ok (.invokevirtual 146, 3) := by decide +kernel
theorem dX11_finish_7 : decode cX11_finish 7 = .ok (.aload_n 0, 1) := by decide +kernel
theorem dX11_finish_8 : decode cX11_finish 8 = .ok (.getfield 43, 3) := by decide +kernel
theorem dX11_finish_11 : decode cX11_finish 11 = .ok (.invokevirtual 149, 3) := by decide +kernel
theorem dX11_finish_14 : decode cX11_finish 14 = .ok (.ireturn, 1) := by decide +kernel
theorem dX11_limit_0 : decode cX11_limit 0 = .ok (.lload_n 2, 1) := by decide +kernel
theorem dX11_limit_1 : decode cX11_limit 1 = .ok (.lconst 0, 1) := by decide +kernel
theorem dX11_limit_2 : decode cX11_limit 2 = .ok (.lcmp, 1) := by decide +kernel
theorem dX11_limit_3 : decode cX11_limit 3 = .ok (.ifCond .ge 7, 3) := by decide +kernel
theorem dX11_limit_6 : decode cX11_limit 6 = .ok (.ldc2_w 152, 3) := by decide +kernel
theorem dX11_limit_9 : decode cX11_limit 9 = .ok (.lreturn, 1) := by decide +kernel
theorem dX11_limit_10 : decode cX11_limit 10 = .ok (.iload_n 1, 1) := by decide +kernel
theorem dX11_limit_11 : decode cX11_limit 11 = .ok (.ifCond .ne 12, 3) := by decide +kernel
theorem dX11_limit_14 : decode cX11_limit 14 = .ok (.aload_n 0, 1) := by decide +kernel
theorem dX11_limit_15 : decode cX11_limit 15 = .ok (.getfield 61, 3) := by decide +kernel
theorem dX11_limit_18 : decode cX11_limit 18 = .ok (.lload_n 2, 1) := by decide +kernel
theorem dX11_limit_19 : decode cX11_limit 19 = .ok (.invokevirtual 154, 3) := by decide +kernel
theorem dX11_limit_22 : decode cX11_limit 22 = .ok (.lreturn, 1) := by decide +kernel
theorem dX11_limit_23 : decode cX11_limit 23 = .ok (.iload_n 1, 1) := by decide +kernel
theorem dX11_limit_24 : decode cX11_limit 24 = .ok (.iconst 1, 1) := by decide +kernel
theorem dX11_limit_25 : decode cX11_limit 25 = .ok (.if_icmp .ne 12, 3) := by decide +kernel
theorem dX11_limit_28 : decode cX11_limit 28 = .ok (.aload_n 0, 1) := by decide +kernel
theorem dX11_limit_29 : decode cX11_limit 29 = .ok (.getfield 61, 3) := by decide +kernel
theorem dX11_limit_32 : decode cX11_limit 32 = .ok (.lload_n 2, 1) := by decide +kernel
theorem dX11_limit_33 : decode cX11_limit 33 = .ok (.invokevirtual 158, 3) := by decide +kernel
theorem dX11_limit_36 : decode cX11_limit 36 = .ok (.lreturn, 1) := by decide +kernel
theorem dX11_limit_37 : decode cX11_limit 37 = .ok (.ldc2_w 152, 3) := by decide +kernel
theorem dX11_limit_40 : decode cX11_limit 40 = .ok (.lreturn, 1) := by decide +kernel
theorem dX11_lead_0 : decode cX11_lead 0 = .ok (.aload_n 0, 1) := by decide +kernel
theorem dX11_lead_1 : decode cX11_lead 1 = .ok (.getfield 43, 3) := by decide +kernel
theorem dX11_lead_4 : decode cX11_lead 4 = .ok (.iload_n 1, 1) := by decide +kernel
theorem dX11_lead_5 : decode cX11_lead 5 = .ok (.invokevirtual 161, 3) := by decide +kernel
theorem dX11_lead_8 : decode cX11_lead 8 = .ok (.astore_n 2, 1) := by decide +kernel
theorem dX11_lead_9 : decode cX11_lead 9 = .ok (.aload_n 2, 1) := by decide +kernel
theorem dX11_lead_10 : decode cX11_lead 10 = .ok (.ifnull 10, 3) := by decide +kernel
theorem dX11_lead_13 : decode cX11_lead 13 = .ok (.aload_n 2, 1) := by decide +kernel
theorem dX11_lead_14 : decode cX11_lead 14 = .ok (.getfield 164, 3) := by decide +kernel
theorem dX11_lead_17 : decode cX11_lead 17 = .ok (.ifCond .eq 6, 3) := by decide +kernel
theorem dX11_lead_20 : decode cX11_lead 20 = .ok (.bipush (-7), 2) := by decide +kernel
theorem dX11_lead_22 : decode cX11_lead 22 = .ok (.ireturn, 1) := by decide +kernel
theorem dX11_lead_23 : decode cX11_lead 23 = .ok (.aload_n 2, 1) := by decide +kernel
theorem dX11_lead_24 : decode cX11_lead 24 = .ok (.getfield 170, 3) := by decide +kernel
theorem dX11_lead_27 : decode cX11_lead 27 = .ok (.ifnonnull 8, 3) := by decide +kernel
theorem dX11_lead_30 : decode cX11_lead 30 = .ok (.aload_n 2, 1) := by decide +kernel
theorem dX11_lead_31 : decode cX11_lead 31 = .ok (.getfield 174, 3) := by decide +kernel
theorem dX11_lead_34 : decode cX11_lead 34 = .ok (.ireturn, 1) := by decide +kernel
theorem dX11_lead_35 : decode cX11_lead 35 = .ok (.aload_n 2, 1) := by decide +kernel
theorem dX11_lead_36 : decode cX11_lead 36 = .ok (.getfield 177, 3) := by decide +kernel
theorem dX11_lead_39 : decode cX11_lead 39 = .ok (.ifCond .eq 8, 3) := by decide +kernel
theorem dX11_lead_42 : decode cX11_lead 42 = .ok (.bipush (-2), 2) := by decide +kernel
theorem dX11_lead_44 : decode cX11_lead 44 = .ok (.goto 19, 3) := by decide +kernel
theorem dX11_lead_47 : decode cX11_lead 47 = .ok (.aload_n 0, 1) := by decide +kernel
theorem dX11_lead_48 : decode cX11_lead 48 = .ok (.getfield 52, 3) := by decide +kernel
theorem dX11_lead_51 : decode cX11_lead 51 = .ok (.aload_n 2, 1) := by decide +kernel
theorem dX11_lead_52 : decode cX11_lead 52 = .ok (.getfield 170, 3) := by decide +kernel
theorem dX11_lead_55 : decode cX11_lead 55 = .ok (.aload_n 2, 1) := by decide +kernel
theorem dX11_lead_56 : decode cX11_lead 56 = .ok (.invokevirtual 180, 3) := by decide +kernel
theorem dX11_lead_59 : decode cX11_lead 59 = .ok (.iconst 0, 1) := by decide +kernel
theorem dX11_lead_60 : decode cX11_lead 60 = .ok (.invokevirtual 184, 3) := by decide +kernel
theorem dX11_lead_63 : decode cX11_lead 63 = .ok (.ireturn, 1) := by decide +kernel
theorem dX11_find_0 : decode cX11_find 0 = .ok (.aload_n 0, 1) := by decide +kernel
theorem dX11_find_1 : decode cX11_find 1 = .ok (.getfield 28, 3) := by decide +kernel
theorem dX11_find_4 : decode cX11_find 4 = .ok (.iload_n 1, 1) := by decide +kernel
theorem dX11_find_5 : decode cX11_find 5 = .ok (.invokestatic 97, 3) := by decide +kernel
theorem dX11_find_8 : decode cX11_find 8 = .ok (.astore_n 2, 1) := by decide +kernel
theorem dX11_find_9 : decode cX11_find 9 = .ok (.aload_n 2, 1) := by decide +kernel
theorem dX11_find_10 : decode cX11_find 10 = .ok (.ifnonnull 6, 3) := by decide +kernel
theorem dX11_find_13 : decode cX11_find 13 = .ok (.bipush (-7), 2) := by decide +kernel
theorem dX11_find_15 : decode cX11_find 15 = .ok (.ireturn, 1) := by decide +kernel
theorem dX11_find_16 : decode cX11_find 16 = .ok (.aload_n 0, 1) := by decide +kernel
theorem dX11_find_17 : decode cX11_find 17 = .ok (.getfield 43, 3) := by decide +kernel
theorem dX11_find_20 : decode cX11_find 20 = .ok (.aload_n 2, 1) := by decide +kernel
theorem dX11_find_21 : decode cX11_find 21 = .ok (.iconst 0, 1) := by decide +kernel
theorem dX11_find_22 : decode cX11_find 22 = .ok (.invokevirtual 188, 3) := by decide +kernel
theorem dX11_find_25 : decode cX11_find 25 = .ok (.astore_n 3, 1) := by decide +kernel
theorem dX11_find_26 : decode cX11_find 26 = .ok (.aload_n 3, 1) := by decide +kernel
theorem dX11_find_27 : decode cX11_find 27 = .ok (.ifnonnull 8, 3) := by decide +kernel
theorem dX11_find_30 : decode cX11_find 30 = .ok (.bipush (-2), 2) := by decide +kernel
theorem dX11_find_32 : decode cX11_find 32 = .ok (.goto 7, 3) := by decide +kernel
theorem dX11_find_35 : decode cX11_find 35 = .ok (.aload_n 3, 1) := by decide +kernel
theorem dX11_find_36 : decode cX11_find 36 = .ok (.getfield 174, 3) := by decide +kernel
theorem dX11_find_39 : decode cX11_find 39 = .ok (.ireturn, 1) := by decide +kernel
theorem dX11_node_0 : decode cX11_node 0 = .ok (.aload_n 0, 1) := by decide +kernel
theorem dX11_node_1 : decode cX11_node 1 = .ok (.getfield 43, 3) := by decide +kernel
theorem dX11_node_4 : decode cX11_node 4 = .ok (.iload_n 1, 1) := by decide +kernel
theorem dX11_node_5 : decode cX11_node 5 = .ok (.invokevirtual 161, 3) := by decide +kernel
theorem dX11_node_8 : decode cX11_node 8 = .ok (.astore_n 3, 1) := by decide +kernel
theorem dX11_node_9 : decode cX11_node 9 = .ok (.aload_n 3, 1) := by decide +kernel
theorem dX11_node_10 : decode cX11_node 10 = .ok (.ifnonnull 6, 3) := by decide +kernel
theorem dX11_node_13 : decode cX11_node 13 = .ok (.bipush (-7), 2) := by decide +kernel
theorem dX11_node_15 : decode cX11_node 15 = .ok (.ireturn, 1) := by decide +kernel
theorem dX11_node_16 : decode cX11_node 16 = .ok (.iload_n 2, 1) := by decide +kernel
theorem dX11_node_17 : decode cX11_node 17 = .ok (.tableswitch 61 0 3 #[31, 36, 44, 53], 31) := by decide +kernel
theorem dX11_node_48 : decode cX11_node 48 = .ok (.aload_n 3, 1) := by decide +kernel
theorem dX11_node_49 : decode cX11_node 49 = .ok (.invokevirtual 192, 3) := by decide +kernel
theorem dX11_node_52 : decode cX11_node 52 = .ok (.ireturn, 1) := by decide +kernel
theorem dX11_node_53 : decode cX11_node 53 = .ok (.aload_n 3, 1) := by decide +kernel
theorem dX11_node_54 : decode cX11_node 54 = .ok (.invokevirtual 180, 3) := by decide +kernel
theorem dX11_node_57 : decode cX11_node 57 = .ok (.getfield 174, 3) := by decide +kernel
theorem dX11_node_60 : decode cX11_node 60 = .ok (.ireturn, 1) := by decide +kernel
theorem dX11_node_61 : decode cX11_node 61 = .ok (.aload_n 0, 1) := by decide +kernel
theorem dX11_node_62 : decode cX11_node 62 = .ok (.getfield 43, 3) := by decide +kernel
theorem dX11_node_65 : decode cX11_node 65 = .ok (.aload_n 3, 1) := by decide +kernel
theorem dX11_node_66 : decode cX11_node 66 = .ok (.invokevirtual 195, 3) := by decide +kernel
theorem dX11_node_69 : decode cX11_node 69 = .ok (.ireturn, 1) := by decide +kernel
theorem dX11_node_70 : decode cX11_node 70 = .ok (.aload_n 3, 1) := by decide +kernel
theorem dX11_node_71 : decode cX11_node 71 = .ok (.getfield 199, 3) := by decide +kernel
theorem dX11_node_74 : decode cX11_node 74 = .ok (.invokevirtual 203, 3) := by decide +kernel
theorem dX11_node_77 : decode cX11_node 77 = .ok (.ireturn, 1) := by decide +kernel
theorem dX11_node_78 : decode cX11_node 78 = .ok (.bipush (-7), 2) := by decide +kernel
theorem dX11_node_80 : decode cX11_node 80 = .ok (.ireturn, 1) := by decide +kernel
theorem dX11_name_0 : decode cX11_name 0 = .ok (.aload_n 0, 1) := by decide +kernel
theorem dX11_name_1 : decode cX11_name 1 = .ok (.getfield 43, 3) := by decide +kernel
theorem dX11_name_4 : decode cX11_name 4 = .ok (.iload_n 1, 1) := by decide +kernel
theorem dX11_name_5 : decode cX11_name 5 = .ok (.invokevirtual 161, 3) := by decide +kernel
theorem dX11_name_8 : decode cX11_name 8 = .ok (.astore_n 3, 1) := by decide +kernel
theorem dX11_name_9 : decode cX11_name 9 = .ok (.aload_n 3, 1) := by decide +kernel
theorem dX11_name_10 : decode cX11_name 10 = .ok (.ifnonnull 7, 3) := by decide +kernel
theorem dX11_name_13 : decode cX11_name 13 = .ok (.iconst (-1), 1) := by decide +kernel
theorem dX11_name_14 : decode cX11_name 14 = .ok (.goto 11, 3) := by decide +kernel
theorem dX11_name_17 : decode cX11_name 17 = .ok (.aload_n 3, 1) := by decide +kernel
theorem dX11_name_18 : decode cX11_name 18 = .ok (.getfield 199, 3) := by decide +kernel
theorem dX11_name_21 : decode cX11_name 21 = .ok (.iload_n 2, 1) := by decide +kernel
theorem dX11_name_22 : decode cX11_name 22 = .ok (.invokevirtual 105, 3) := by decide +kernel
theorem dX11_name_25 : decode cX11_name 25 = .ok (.ireturn, 1) := by decide +kernel
theorem dX11_body_0 : decode cX11_body 0 = .ok (.aload_n 0, 1) := by decide +kernel
theorem dX11_body_1 : decode cX11_body 1 = .ok (.getfield 43, 3) := by decide +kernel
theorem dX11_body_4 : decode cX11_body 4 = .ok (.iload_n 1, 1) := by decide +kernel
theorem dX11_body_5 : decode cX11_body 5 = .ok (.invokevirtual 206, 3) := by decide +kernel
theorem dX11_body_8 : decode cX11_body 8 = .ok (.astore_n 3, 1) := by decide +kernel
theorem dX11_body_9 : decode cX11_body 9 = .ok (.aload_n 3, 1) := by decide +kernel
theorem dX11_body_10 : decode cX11_body 10 = .ok (.ifnonnull 7, 3) := by decide +kernel
theorem dX11_body_13 : decode cX11_body 13 = .ok (.ldc2_w 152, 3) := by decide +kernel
theorem dX11_body_16 : decode cX11_body 16 = .ok (.lreturn, 1) := by decide +kernel
theorem dX11_body_17 : decode cX11_body 17 = .ok (.iload_n 2, 1) := by decide +kernel
theorem dX11_body_18 : decode cX11_body 18 = .ok (.tableswitch 47 0 2 #[26, 31, 37], 26) := by decide +kernel
theorem dX11_body_44 : decode cX11_body 44 = .ok (.aload_n 3, 1) := by decide +kernel
theorem dX11_body_45 : decode cX11_body 45 = .ok (.getfield 210, 3) := by decide +kernel
theorem dX11_body_48 : decode cX11_body 48 = .ok (.lreturn, 1) := by decide +kernel
theorem dX11_body_49 : decode cX11_body 49 = .ok (.aload_n 3, 1) := by decide +kernel
theorem dX11_body_50 : decode cX11_body 50 = .ok (.getfield 215, 3) := by decide +kernel
theorem dX11_body_53 : decode cX11_body 53 = .ok (.i2l, 1) := by decide +kernel
theorem dX11_body_54 : decode cX11_body 54 = .ok (.lreturn, 1) := by decide +kernel
theorem dX11_body_55 : decode cX11_body 55 = .ok (.aload_n 0, 1) := by decide +kernel
theorem dX11_body_56 : decode cX11_body 56 = .ok (.getfield 43, 3) := by decide +kernel
theorem dX11_body_59 : decode cX11_body 59 = .ok (.aload_n 3, 1) := by decide +kernel
theorem dX11_body_60 : decode cX11_body 60 = .ok (.invokevirtual 218, 3) := by decide +kernel
theorem dX11_body_63 : decode cX11_body 63 = .ok (.i2l, 1) := by decide +kernel
theorem dX11_body_64 : decode cX11_body 64 = .ok (.lreturn, 1) := by decide +kernel
theorem dX11_body_65 : decode cX11_body 65 = .ok (.ldc2_w 152, 3) := by decide +kernel
theorem dX11_body_68 : decode cX11_body 68 = .ok (.lreturn, 1) := by decide +kernel
theorem dX11_inside_0 : decode cX11_inside 0 = .ok (.aload_n 0, 1) := by decide +kernel
theorem dX11_inside_1 : decode cX11_inside 1 = .ok (.getfield 43, 3) := by decide +kernel
theorem dX11_inside_4 : decode cX11_inside 4 = .ok (.invokevirtual 222, 3) := by decide +kernel
theorem dX11_inside_7 : decode cX11_inside 7 = .ok (.ifCond .eq 17, 3) := by decide +kernel
theorem dX11_inside_10 : decode cX11_inside 10 = .ok (.aload_n 0, 1) := by decide +kernel
theorem dX11_inside_11 : decode cX11_inside 11 = .ok (.getfield 43, 3) := by decide +kernel
theorem dX11_inside_14 : decode cX11_inside 14 = .ok (.invokevirtual 226, 3) := by decide +kernel
theorem dX11_inside_17 : decode cX11_inside 17 = .ok (.ifCond .eq 7, 3) := by decide +kernel
theorem dX11_inside_20 : decode cX11_inside 20 = .ok (.iconst 1, 1) := by decide +kernel
theorem dX11_inside_21 : decode cX11_inside 21 = .ok (.goto 4, 3) := by decide +kernel
theorem dX11_inside_24 : decode cX11_inside 24 = .ok (.iconst 0, 1) := by decide +kernel
theorem dX11_inside_25 : decode cX11_inside 25 = .ok (.ireturn, 1) := by decide +kernel
theorem dX11_told_0 : decode cX11_told 0 = .ok (.iload_n 1, 1) := by decide +kernel
theorem dX11_told_1 : decode cX11_told 1 = .ok (.tableswitch 108 0 7 #[47, 55, 63, 71, 79, 87, 95, 100], 47) := by decide +kernel
theorem dX11_told_48 : decode cX11_told 48 = .ok (.aload_n 0, 1) := by decide +kernel
theorem dX11_told_49 : decode cX11_told 49 = .ok (.getfield 43, 3) := by decide +kernel
theorem dX11_told_52 : decode cX11_told 52 = .ok (.invokevirtual 229, 3) := by decide +kernel
theorem dX11_told_55 : decode cX11_told 55 = .ok (.ireturn, 1) := by decide +kernel
theorem dX11_told_56 : decode cX11_told 56 = .ok (.aload_n 0, 1) := by decide +kernel
theorem dX11_told_57 : decode cX11_told 57 = .ok (.getfield 43, 3) := by decide +kernel
theorem dX11_told_60 : decode cX11_told 60 = .ok (.invokevirtual 232, 3) := by decide +kernel
theorem dX11_told_63 : decode cX11_told 63 = .ok (.ireturn, 1) := by decide +kernel
theorem dX11_told_64 : decode cX11_told 64 = .ok (.aload_n 0, 1) := by decide +kernel
theorem dX11_told_65 : decode cX11_told 65 = .ok (.getfield 28, 3) := by decide +kernel
theorem dX11_told_68 : decode cX11_told 68 = .ok (.invokevirtual 81, 3) := by decide +kernel
theorem dX11_told_71 : decode cX11_told 71 = .ok (.ireturn, 1) := by decide +kernel
theorem dX11_told_72 : decode cX11_told 72 = .ok (.aload_n 0, 1) := by decide +kernel
theorem dX11_told_73 : decode cX11_told 73 = .ok (.getfield 32, 3) := by decide +kernel
theorem dX11_told_76 : decode cX11_told 76 = .ok (.invokevirtual 81, 3) := by decide +kernel
theorem dX11_told_79 : decode cX11_told 79 = .ok (.ireturn, 1) := by decide +kernel
theorem dX11_told_80 : decode cX11_told 80 = .ok (.aload_n 0, 1) := by decide +kernel
theorem dX11_told_81 : decode cX11_told 81 = .ok (.getfield 35, 3) := by decide +kernel
theorem dX11_told_84 : decode cX11_told 84 = .ok (.invokevirtual 81, 3) := by decide +kernel
theorem dX11_told_87 : decode cX11_told 87 = .ok (.ireturn, 1) := by decide +kernel
theorem dX11_told_88 : decode cX11_told 88 = .ok (.aload_n 0, 1) := by decide +kernel
theorem dX11_told_89 : decode cX11_told 89 = .ok (.getfield 61, 3) := by decide +kernel
theorem dX11_told_92 : decode cX11_told 92 = .ok (.getfield 235, 3) := by decide +kernel
theorem dX11_told_95 : decode cX11_told 95 = .ok (.ireturn, 1) := by decide +kernel
theorem dX11_told_96 : decode cX11_told 96 = .ok (.aload_n 0, 1) := by decide +kernel
theorem dX11_told_97 : decode cX11_told 97 = .ok (.getfield 65, 3) := by decide +kernel
theorem dX11_told_100 : decode cX11_told 100 = .ok (.ireturn, 1) := by decide +kernel
theorem dX11_told_101 : decode cX11_told 101 = .ok (.aload_n 0, 1) := by decide +kernel
theorem dX11_told_102 : decode cX11_told 102 = .ok (.getfield 61, 3) := by decide +kernel
theorem dX11_told_105 : decode cX11_told 105 = .ok (.invokevirtual 238, 3) := by decide +kernel
theorem dX11_told_108 : decode cX11_told 108 = .ok (.ireturn, 1) := by decide +kernel
theorem dX11_told_109 : decode cX11_told 109 = .ok (.bipush (-7), 2) := by decide +kernel
theorem dX11_told_111 : decode cX11_told 111 = .ok (.ireturn, 1) := by decide +kernel
theorem dX11_judgeAsPath_0 : decode cX11_judgeAsPath 0 = .ok (.aload_n 1, 1) := by decide +kernel
theorem dX11_judgeAsPath_1 : decode cX11_judgeAsPath 1 = .ok (.invokevirtual 241, 3) := by decide +kernel
theorem dX11_judgeAsPath_4 : decode cX11_judgeAsPath 4 = .ok (.ifCond .eq 5, 3) := by decide +kernel
theorem dX11_judgeAsPath_7 : decode cX11_judgeAsPath 7 = .ok (.iconst (-1), 1) := by decide +kernel
theorem dX11_judgeAsPath_8 : decode cX11_judgeAsPath 8 = .ok (.ireturn, 1) := by decide +kernel
theorem dX11_judgeAsPath_9 : decode cX11_judgeAsPath 9 = .ok (.aload_n 0, 1) := by decide +kernel
theorem dX11_judgeAsPath_10 : decode cX11_judgeAsPath 10 = .ok (.getfield 21, 3) := by decide +kernel
theorem dX11_judgeAsPath_13 : decode cX11_judgeAsPath 13 = .ok (.aload_n 0, 1) := by decide +kernel
theorem dX11_judgeAsPath_14 : decode cX11_judgeAsPath 14 = .ok (.getfield 12, 3) := by decide +kernel
theorem dX11_judgeAsPath_17 : decode cX11_judgeAsPath 17 = .ok (.invokevirtual 120, 3) := by decide +kernel
theorem dX11_judgeAsPath_20 : decode cX11_judgeAsPath 20 = .ok (.ifCond .ne 13, 3) := by decide +kernel
theorem dX11_judgeAsPath_23 : decode cX11_judgeAsPath 23 = .ok (.aload_n 0, 1) := by decide +kernel
theorem dX11_judgeAsPath_24 : decode cX11_judgeAsPath 24 = .ok (.getfield 21, 3) := by decide +kernel
theorem dX11_judgeAsPath_27 : decode cX11_judgeAsPath 27 = .ok (.invokevirtual 244, 3) := by decide +kernel
theorem dX11_judgeAsPath_30 : decode cX11_judgeAsPath 30 = .ok (.ifCond .eq 6, 3) := by decide +kernel
theorem dX11_judgeAsPath_33 : decode cX11_judgeAsPath 33 = .ok (.bipush (-2), 2) := by decide +kernel
theorem dX11_judgeAsPath_35 : decode cX11_judgeAsPath 35 = .ok (.ireturn, 1) := by decide +kernel
theorem dX11_judgeAsPath_36 : decode cX11_judgeAsPath 36 = .ok (.aload_n 1, 1) := by decide +kernel
theorem dX11_judgeAsPath_37 : decode cX11_judgeAsPath 37 = .ok (.invokevirtual 81, 3) := by decide +kernel
theorem dX11_judgeAsPath_40 : decode cX11_judgeAsPath 40 = .ok (.bipush 8, 2) := by decide +kernel
theorem dX11_judgeAsPath_42 : decode cX11_judgeAsPath 42 = .ok (.if_icmp .le 8, 3) := by decide +kernel
theorem dX11_judgeAsPath_45 : decode cX11_judgeAsPath 45 = .ok (.bipush (-5), 2) := by decide +kernel
theorem dX11_judgeAsPath_47 : decode cX11_judgeAsPath 47 = .ok (.goto 4, 3) := by decide +kernel
theorem dX11_judgeAsPath_50 : decode cX11_judgeAsPath 50 = .ok (.iconst 0, 1) := by decide +kernel
theorem dX11_judgeAsPath_51 : decode cX11_judgeAsPath 51 = .ok (.istore_n 2, 1) := by decide +kernel
theorem dX11_judgeAsPath_52 : decode cX11_judgeAsPath 52 = .ok (.iconst 0, 1) := by decide +kernel
theorem dX11_judgeAsPath_53 : decode cX11_judgeAsPath 53 = .ok (.istore_n 3, 1) := by decide +kernel
theorem dX11_judgeAsPath_54 : decode cX11_judgeAsPath 54 = .ok (.iload_n 3, 1) := by decide +kernel
theorem dX11_judgeAsPath_55 : decode cX11_judgeAsPath 55 = .ok (.aload_n 1, 1) := by decide +kernel
theorem dX11_judgeAsPath_56 : decode cX11_judgeAsPath 56 = .ok (.invokevirtual 81, 3) := by decide +kernel
theorem dX11_judgeAsPath_59 : decode cX11_judgeAsPath 59 = .ok (.if_icmp .ge 29, 3) := by decide +kernel
theorem dX11_judgeAsPath_62 : decode cX11_judgeAsPath 62 = .ok (.iload_n 2, 1) := by decide +kernel
theorem dX11_judgeAsPath_63 : decode cX11_judgeAsPath 63 = .ok (.aload_n 1, 1) := by decide +kernel
theorem dX11_judgeAsPath_64 : decode cX11_judgeAsPath 64 = .ok (.iload_n 3, 1) := by decide +kernel
theorem dX11_judgeAsPath_65 : decode cX11_judgeAsPath 65 = .ok (.invokevirtual 135, 3) := by decide +kernel
theorem dX11_judgeAsPath_68 : decode cX11_judgeAsPath 68 = .ok (.checkcast 106, 3) := by decide +kernel
theorem dX11_judgeAsPath_71 : decode cX11_judgeAsPath 71 = .ok (.aload_n 0, 1) := by decide +kernel
theorem dX11_judgeAsPath_72 : decode cX11_judgeAsPath 72 = .ok (.getfield 12, 3) := by decide +kernel
theorem dX11_judgeAsPath_75 : decode cX11_judgeAsPath 75 = .ok (.invokevirtual 247, 3) := by decide +kernel
theorem dX11_judgeAsPath_78 : decode cX11_judgeAsPath 78 = .ok (.invokestatic 250, 3) := by decide +kernel
theorem dX11_judgeAsPath_81 : decode cX11_judgeAsPath 81 = .ok (.istore_n 2, 1) := by decide +kernel
theorem dX11_judgeAsPath_82 : decode cX11_judgeAsPath 82 = .ok (.iinc 3 1, 3) := by decide +kernel
theorem dX11_judgeAsPath_85 : decode cX11_judgeAsPath 85 = .ok (.goto (-31), 3) := by decide +kernel
theorem dX11_judgeAsPath_88 : decode cX11_judgeAsPath 88 = .ok (.iload_n 2, 1) := by decide +kernel
theorem dX11_judgeAsPath_89 : decode cX11_judgeAsPath 89 = .ok (.aload_n 0, 1) := by decide +kernel
theorem dX11_judgeAsPath_90 : decode cX11_judgeAsPath 90 = .ok (.getfield 28, 3) := by decide +kernel
theorem dX11_judgeAsPath_93 : decode cX11_judgeAsPath 93 = .ok (.invokevirtual 81, 3) := by decide +kernel
theorem dX11_judgeAsPath_96 : decode cX11_judgeAsPath 96 = .ok (.bipush 60, 2) := by decide +kernel
theorem dX11_judgeAsPath_98 : decode cX11_judgeAsPath 98 = .ok (.if_icmp .lt 8, 3) := by decide +kernel
theorem dX11_judgeAsPath_101 : decode cX11_judgeAsPath 101 = .ok (.bipush (-6), 2) := by decide +kernel
theorem dX11_judgeAsPath_103 : decode cX11_judgeAsPath 103 = .ok (.goto 4, 3) := by decide +kernel
theorem dX11_judgeAsPath_106 : decode cX11_judgeAsPath 106 = .ok (.iconst 0, 1) := by decide +kernel
theorem dX11_judgeAsPath_107 : decode cX11_judgeAsPath 107 = .ok (.invokestatic 250, 3) := by decide +kernel
theorem dX11_judgeAsPath_110 : decode cX11_judgeAsPath 110 = .ok (.ireturn, 1) := by decide +kernel
theorem dX11_earlierOf_0 : decode cX11_earlierOf 0 = .ok (.iload_n 0, 1) := by decide +kernel
theorem dX11_earlierOf_1 : decode cX11_earlierOf 1 = .ok (.ifCond .eq 7, 3) := by decide +kernel
theorem dX11_earlierOf_4 : decode cX11_earlierOf 4 = .ok (.iload_n 1, 1) := by decide +kernel
theorem dX11_earlierOf_5 : decode cX11_earlierOf 5 = .ok (.ifCond .ne 9, 3) := by decide +kernel
theorem dX11_earlierOf_8 : decode cX11_earlierOf 8 = .ok (.iload_n 0, 1) := by decide +kernel
theorem dX11_earlierOf_9 : decode cX11_earlierOf 9 = .ok (.iload_n 1, 1) := by decide +kernel
theorem dX11_earlierOf_10 : decode cX11_earlierOf 10 = .ok (.invokestatic 254, 3) := by decide +kernel
theorem dX11_earlierOf_13 : decode cX11_earlierOf 13 = .ok (.ireturn, 1) := by decide +kernel
theorem dX11_earlierOf_14 : decode cX11_earlierOf 14 = .ok (.iload_n 0, 1) := by decide +kernel
theorem dX11_earlierOf_15 : decode cX11_earlierOf 15 = .ok (.iload_n 1, 1) := by decide +kernel
theorem dX11_earlierOf_16 : decode cX11_earlierOf 16 = .ok (.invokestatic 259, 3) := by decide +kernel
theorem dX11_earlierOf_19 : decode cX11_earlierOf 19 = .ok (.ireturn, 1) := by decide +kernel
theorem dX11_judgeAsTarget_0 : decode cX11_judgeAsTarget 0 = .ok (.aload_n 0, 1) := by decide +kernel
theorem dX11_judgeAsTarget_1 : decode cX11_judgeAsTarget 1 = .ok (.getfield 21, 3) := by decide +kernel
theorem dX11_judgeAsTarget_4 : decode cX11_judgeAsTarget 4 = .ok (.invokevirtual 262, 3) := by decide +kernel
theorem dX11_judgeAsTarget_7 : decode cX11_judgeAsTarget 7 = .ok (.iconst 1, 1) := by decide +kernel
theorem dX11_judgeAsTarget_8 : decode cX11_judgeAsTarget 8 = .ok (.if_icmp .lt 15, 3) := by decide +kernel
theorem dX11_judgeAsTarget_11 : decode cX11_judgeAsTarget 11 = .ok (.aload_n 0, 1) := by decide +kernel
theorem dX11_judgeAsTarget_12 : decode cX11_judgeAsTarget 12 = .ok (.getfield 21, 3) := by decide +kernel
theorem dX11_judgeAsTarget_15 : decode cX11_judgeAsTarget 15 = .ok (.invokevirtual 262, 3) := by decide +kernel
theorem dX11_judgeAsTarget_18 : decode cX11_judgeAsTarget 18 = .ok (.bipush 40, 2) := by decide +kernel
theorem dX11_judgeAsTarget_20 : decode cX11_judgeAsTarget 20 = .ok (.if_icmp .le 5, 3) := by decide +kernel
theorem dX11_judgeAsTarget_23 : decode cX11_judgeAsTarget 23 = .ok (.iconst (-1), 1) := by decide +kernel
theorem dX11_judgeAsTarget_24 : decode cX11_judgeAsTarget 24 = .ok (.ireturn, 1) := by decide +kernel
theorem dX11_judgeAsTarget_25 : decode cX11_judgeAsTarget 25 = .ok (.aload_n 0, 1) := by decide +kernel
theorem dX11_judgeAsTarget_26 : decode cX11_judgeAsTarget 26 = .ok (.getfield 32, 3) := by decide +kernel
theorem dX11_judgeAsTarget_29 : decode cX11_judgeAsTarget 29 = .ok (.invokevirtual 81, 3) := by decide +kernel
theorem dX11_judgeAsTarget_32 : decode cX11_judgeAsTarget 32 = .ok (.bipush 40, 2) := by decide +kernel
theorem dX11_judgeAsTarget_34 : decode cX11_judgeAsTarget 34 = .ok (.if_icmp .lt 8, 3) := by decide +kernel
theorem dX11_judgeAsTarget_37 : decode cX11_judgeAsTarget 37 = .ok (.bipush (-6), 2) := by decide +kernel
theorem dX11_judgeAsTarget_39 : decode cX11_judgeAsTarget 39 = .ok (.goto 4, 3) := by decide +kernel
theorem dX11_judgeAsTarget_42 : decode cX11_judgeAsTarget 42 = .ok (.iconst 0, 1) := by decide +kernel
theorem dX11_judgeAsTarget_43 : decode cX11_judgeAsTarget 43 = .ok (.ireturn, 1) := by decide +kernel
theorem dX11_otherOf_0 : decode cX11_otherOf 0 = .ok (.iload_n 1, 1) := by decide +kernel
theorem dX11_otherOf_1 : decode cX11_otherOf 1 = .ok (.iconst 2, 1) := by decide +kernel
theorem dX11_otherOf_2 : decode cX11_otherOf 2 = .ok (.if_icmp .ne 12, 3) := by decide +kernel
theorem dX11_otherOf_5 : decode cX11_otherOf 5 = .ok (.aload_n 0, 1) := by decide +kernel
theorem dX11_otherOf_6 : decode cX11_otherOf 6 = .ok (.getfield 32, 3) := by decide +kernel
theorem dX11_otherOf_9 : decode cX11_otherOf 9 = .ok (.iload_n 2, 1) := by decide +kernel
theorem dX11_otherOf_10 : decode cX11_otherOf 10 = .ok (.invokestatic 97, 3) := by decide +kernel
theorem dX11_otherOf_13 : decode cX11_otherOf 13 = .ok (.areturn, 1) := by decide +kernel
theorem dX11_otherOf_14 : decode cX11_otherOf 14 = .ok (.iload_n 1, 1) := by decide +kernel
theorem dX11_otherOf_15 : decode cX11_otherOf 15 = .ok (.iconst 3, 1) := by decide +kernel
theorem dX11_otherOf_16 : decode cX11_otherOf 16 = .ok (.if_icmp .ne 14, 3) := by decide +kernel
theorem dX11_otherOf_19 : decode cX11_otherOf 19 = .ok (.aload_n 0, 1) := by decide +kernel
theorem dX11_otherOf_20 : decode cX11_otherOf 20 = .ok (.getfield 28, 3) := by decide +kernel
theorem dX11_otherOf_23 : decode cX11_otherOf 23 = .ok (.iload_n 2, 1) := by decide +kernel
theorem dX11_otherOf_24 : decode cX11_otherOf 24 = .ok (.invokestatic 97, 3) := by decide +kernel
theorem dX11_otherOf_27 : decode cX11_otherOf 27 = .ok (.goto 4, 3) := by decide +kernel
theorem dX11_otherOf_30 : decode cX11_otherOf 30 = .ok (.aload_n 3, 1) := by decide +kernel
theorem dX11_otherOf_31 : decode cX11_otherOf 31 = .ok (.areturn, 1) := by decide +kernel
theorem dX11_memberOf_0 : decode cX11_memberOf 0 = .ok (.iload_n 1, 1) := by decide +kernel
theorem dX11_memberOf_1 : decode cX11_memberOf 1 = .ok (.ifCond .lt 22, 3) := by decide +kernel
theorem dX11_memberOf_4 : decode cX11_memberOf 4 = .ok (.iload_n 1, 1) := by decide +kernel
theorem dX11_memberOf_5 : decode cX11_memberOf 5 = .ok (.aload_n 0, 1) := by decide +kernel
theorem dX11_memberOf_6 : decode cX11_memberOf 6 = .ok (.invokevirtual 81, 3) := by decide +kernel
theorem dX11_memberOf_9 : decode cX11_memberOf 9 = .ok (.if_icmp .ge 14, 3) := by decide +kernel
theorem dX11_memberOf_12 : decode cX11_memberOf 12 = .ok (.aload_n 0, 1) := by decide +kernel
theorem dX11_memberOf_13 : decode cX11_memberOf 13 = .ok (.iload_n 1, 1) := by decide +kernel
theorem dX11_memberOf_14 : decode cX11_memberOf 14 = .ok (.invokevirtual 135, 3) := by decide +kernel
theorem dX11_memberOf_17 : decode cX11_memberOf 17 = .ok (.checkcast 85, 3) := by decide +kernel
theorem dX11_memberOf_20 : decode cX11_memberOf 20 = .ok (.goto 4, 3) := by decide +kernel
theorem dX11_memberOf_23 : decode cX11_memberOf 23 = .ok (.aconst_null, 1) := by decide +kernel
theorem dX11_memberOf_24 : decode cX11_memberOf 24 = .ok (.areturn, 1) := by decide +kernel
theorem dX12_init_0 : decode cX12_init 0 = .ok (.aload_n 0, 1) := by decide +kernel
theorem dX12_init_1 : decode cX12_init 1 = .ok (.invokespecial 1, 3) := by decide +kernel
theorem dX12_init_4 : decode cX12_init 4 = .ok (.aload_n 0, 1) := by decide +kernel
theorem dX12_init_5 : decode cX12_init 5 = .ok (.sipush 160, 3) := by decide +kernel
theorem dX12_init_8 : decode cX12_init 8 = .ok (.newarray .int, 2) := by decide +kernel
theorem dX12_init_10 : decode cX12_init 10 = .ok (.putfield 7, 3) := by decide +kernel
theorem dX12_init_13 : decode cX12_init 13 = .ok (.aload_n 0, 1) := by decide +kernel
theorem dX12_init_14 : decode cX12_init 14 = .ok (.sipush 200, 3) := by decide +kernel
theorem dX12_init_17 : decode cX12_init 17 = .ok (.newarray .int, 2) := by decide +kernel
theorem dX12_init_19 : decode cX12_init 19 = .ok (.putfield 13, 3) := by decide +kernel
theorem dX12_init_22 : decode cX12_init 22 = .ok (.aload_n 0, 1) := by decide +kernel
theorem dX12_init_23 : decode cX12_init 23 = .ok (.sipush 200, 3) := by decide +kernel
theorem dX12_init_26 : decode cX12_init 26 = .ok (.newarray .boolean, 2) := by decide +kernel
theorem dX12_init_28 : decode cX12_init 28 = .ok (.putfield 16, 3) := by decide +kernel
theorem dX12_init_31 : decode cX12_init 31 = .ok (.aload_n 0, 1) := by decide +kernel
theorem dX12_init_32 : decode cX12_init 32 = .ok (.sipush 200, 3) := by decide +kernel
theorem dX12_init_35 : decode cX12_init 35 = .ok (.newarray .boolean, 2) := by decide +kernel
theorem dX12_init_37 : decode cX12_init 37 = .ok (.putfield 20, 3) := by decide +kernel
theorem dX12_init_40 : decode cX12_init 40 = .ok (.aload_n 0, 1) := by decide +kernel
theorem dX12_init_41 : decode cX12_init 41 = .ok (.sipush 200, 3) := by decide +kernel
theorem dX12_init_44 : decode cX12_init 44 = .ok (.newarray .boolean, 2) := by decide +kernel
theorem dX12_init_46 : decode cX12_init 46 = .ok (.putfield 23, 3) := by decide +kernel
theorem dX12_init_49 : decode cX12_init 49 = .ok (.aload_n 0, 1) := by decide +kernel
theorem dX12_init_50 : decode cX12_init 50 = .ok (.sipush 200, 3) := by decide +kernel
theorem dX12_init_53 : decode cX12_init 53 = .ok (.newarray .int, 2) := by decide +kernel
theorem dX12_init_55 : decode cX12_init 55 = .ok (.putfield 26, 3) := by decide +kernel
theorem dX12_init_58 : decode cX12_init 58 = .ok (.aload_n 0, 1) := by decide +kernel
theorem dX12_init_59 : decode cX12_init 59 = .ok (.sipush 200, 3) := by decide +kernel
theorem dX12_init_62 : decode cX12_init 62 = .ok (.newarray .int, 2) := by decide +kernel
theorem dX12_init_64 : decode cX12_init 64 = .ok (.putfield 29, 3) := by decide +kernel
theorem dX12_init_67 : decode cX12_init 67 = .ok (.aload_n 0, 1) := by decide +kernel
theorem dX12_init_68 : decode cX12_init 68 = .ok (.sipush 200, 3) := by decide +kernel
theorem dX12_init_71 : decode cX12_init 71 = .ok (.newarray .int, 2) := by decide +kernel
theorem dX12_init_73 : decode cX12_init 73 = .ok (.putfield 32, 3) := by decide +kernel
theorem dX12_init_76 : decode cX12_init 76 = .ok (.aload_n 0, 1) := by decide +kernel
theorem dX12_init_77 : decode cX12_init 77 = .ok (.sipush 3200, 3) := by decide +kernel
theorem dX12_init_80 : decode cX12_init 80 = .ok (.newarray .int, 2) := by decide +kernel
theorem dX12_init_82 : decode cX12_init 82 = .ok (.putfield 35, 3) := by decide +kernel
theorem dX12_init_85 : decode cX12_init 85 = .ok (.aload_n 0, 1) := by decide +kernel
theorem dX12_init_86 : decode cX12_init 86 = .ok (.sipush 200, 3) := by decide +kernel
theorem dX12_init_89 : decode cX12_init 89 = .ok (.newarray .int, 2) := by decide +kernel
theorem dX12_init_91 : decode cX12_init 91 = .ok (.putfield 38, 3) := by decide +kernel
theorem dX12_init_94 : decode cX12_init 94 = .ok (.aload_n 0, 1) := by decide +kernel
theorem dX12_init_95 : decode cX12_init 95 = .ok (.sipush 204, 3) := by decide +kernel
theorem dX12_init_98 : decode cX12_init 98 = .ok (.newarray .long, 2) := by decide +kernel
theorem dX12_init_100 : decode cX12_init 100 = .ok (.putfield 41, 3) := by decide +kernel
theorem dX12_init_103 : decode cX12_init 103 = .ok (.aload_n 0, 1) := by decide +kernel
theorem dX12_init_104 : decode cX12_init 104 = .ok (.sipush 204, 3) := by decide +kernel
theorem dX12_init_107 : decode cX12_init 107 = .ok (.newarray .int, 2) := by decide +kernel
theorem dX12_init_109 : decode cX12_init 109 = .ok (.putfield 45, 3) := by decide +kernel
theorem dX12_init_112 : decode cX12_init 112 = .ok (.aload_n 0, 1) := by decide +kernel
theorem dX12_init_113 : decode cX12_init 113 = .ok (.bipush 60, 2) := by decide +kernel
theorem dX12_init_115 : decode cX12_init 115 = .ok (.newarray .int, 2) := by decide +kernel
theorem dX12_init_117 : decode cX12_init 117 = .ok (.putfield 48, 3) := by decide +kernel
theorem dX12_init_120 : decode cX12_init 120 = .ok (.aload_n 0, 1) := by decide +kernel
theorem dX12_init_121 : decode cX12_init 121 = .ok (.sipush 480, 3) := by decide +kernel
theorem dX12_init_124 : decode cX12_init 124 = .ok (.newarray .int, 2) := by decide +kernel
theorem dX12_init_126 : decode cX12_init 126 = .ok (.putfield 51, 3) := by decide +kernel
theorem dX12_init_129 : decode cX12_init 129 = .ok (.aload_n 0, 1) := by decide +kernel
theorem dX12_init_130 : decode cX12_init 130 = .ok (.sipush 7680, 3) := by decide +kernel
theorem dX12_init_133 : decode cX12_init 133 = .ok (.newarray .int, 2) := by decide +kernel
theorem dX12_init_135 : decode cX12_init 135 = .ok (.putfield 54, 3) := by decide +kernel
theorem dX12_init_138 : decode cX12_init 138 = .ok (.aload_n 0, 1) := by decide +kernel
theorem dX12_init_139 : decode cX12_init 139 = .ok (.bipush 40, 2) := by decide +kernel
theorem dX12_init_141 : decode cX12_init 141 = .ok (.newarray .int, 2) := by decide +kernel
theorem dX12_init_143 : decode cX12_init 143 = .ok (.putfield 57, 3) := by decide +kernel
theorem dX12_init_146 : decode cX12_init 146 = .ok (.aload_n 0, 1) := by decide +kernel
theorem dX12_init_147 : decode cX12_init 147 = .ok (.sipush 1600, 3) := by decide +kernel
theorem dX12_init_150 : decode cX12_init 150 = .ok (.newarray .int, 2) := by decide +kernel
theorem dX12_init_152 : decode cX12_init 152 = .ok (.putfield 60, 3) := by decide +kernel
theorem dX12_init_155 : decode cX12_init 155 = .ok (.aload_n 0, 1) := by decide +kernel
theorem dX12_init_156 : decode cX12_init 156 = .ok (.bipush 100, 2) := by decide +kernel
theorem dX12_init_158 : decode cX12_init 158 = .ok (.newarray .int, 2) := by decide +kernel
theorem dX12_init_160 : decode cX12_init 160 = .ok (.putfield 63, 3) := by decide +kernel
theorem dX12_init_163 : decode cX12_init 163 = .ok (.aload_n 0, 1) := by decide +kernel
theorem dX12_init_164 : decode cX12_init 164 = .ok (.bipush 100, 2) := by decide +kernel
theorem dX12_init_166 : decode cX12_init 166 = .ok (.newarray .int, 2) := by decide +kernel
theorem dX12_init_168 : decode cX12_init 168 = .ok (.putfield 66, 3) := by decide +kernel
theorem dX12_init_171 : decode cX12_init 171 = .ok (.aload_n 0, 1) := by decide +kernel
theorem dX12_init_172 : decode cX12_init 172 = .ok (.bipush 100, 2) := by decide +kernel
theorem dX12_init_174 : decode cX12_init 174 = .ok (.newarray .int, 2) := by decide +kernel
theorem dX12_init_176 : decode cX12_init 176 = .ok (.putfield 69, 3) := by decide +kernel
theorem dX12_init_179 : decode cX12_init 179 = .ok (.aload_n 0, 1) := by decide +kernel
theorem dX12_init_180 : decode cX12_init 180 = .ok (.bipush 100, 2) := by decide +kernel
theorem dX12_init_182 : decode cX12_init 182 = .ok (.newarray .long, 2) := by decide +kernel
theorem dX12_init_184 : decode cX12_init 184 = .ok (.putfield 72, 3) := by decide +kernel
theorem dX12_init_187 : decode cX12_init 187 = .ok (.aload_n 0, 1) := by decide +kernel
theorem dX12_init_188 : decode cX12_init 188 = .ok (.ldc2_w 75, 3) := by decide +kernel
theorem dX12_init_191 : decode cX12_init 191 = .ok (.putfield 77, 3) := by decide +kernel
theorem dX12_init_194 : decode cX12_init 194 = .ok (.aload_n 0, 1) := by decide +kernel
theorem dX12_init_195 : decode cX12_init 195 = .ok (.ldc2_w 81, 3) := by decide +kernel
theorem dX12_init_198 : decode cX12_init 198 = .ok (.putfield 83, 3) := by decide +kernel
theorem dX12_init_201 : decode cX12_init 201 = .ok (.aload_n 0, 1) := by decide +kernel
theorem dX12_init_202 : decode cX12_init 202 = .ok (.sipush 160, 3) := by decide +kernel
theorem dX12_init_205 : decode cX12_init 205 = .ok (.newarray .int, 2) := by decide +kernel
theorem dX12_init_207 : decode cX12_init 207 = .ok (.putfield 86, 3) := by decide +kernel
theorem dX12_init_210 : decode cX12_init 210 = .ok (.aload_n 0, 1) := by decide +kernel
theorem dX12_init_211 : decode cX12_init 211 = .ok (.bipush 24, 2) := by decide +kernel
theorem dX12_init_213 : decode cX12_init 213 = .ok (.newarray .int, 2) := by decide +kernel
theorem dX12_init_215 : decode cX12_init 215 = .ok (.putfield 89, 3) := by decide +kernel
theorem dX12_init_218 : decode cX12_init 218 = .ok (.aload_n 0, 1) := by decide +kernel
theorem dX12_init_219 : decode cX12_init 219 = .ok (.bipush 24, 2) := by decide +kernel
theorem dX12_init_221 : decode cX12_init 221 = .ok (.newarray .int, 2) := by decide +kernel
theorem dX12_init_223 : decode cX12_init 223 = .ok (.putfield 92, 3) := by decide +kernel
theorem dX12_init_226 : decode cX12_init 226 = .ok (.aload_n 0, 1) := by decide +kernel
theorem dX12_init_227 : decode cX12_init 227 = .ok (.iload_n 1, 1) := by decide +kernel
theorem dX12_init_228 : decode cX12_init 228 = .ok (.bipush 63, 2) := by decide +kernel
theorem dX12_init_230 : decode cX12_init 230 = .ok (.iand, 1) := by decide +kernel
theorem dX12_init_231 : decode cX12_init 231 = .ok (.putfield 95, 3) := by decide +kernel
theorem dX12_init_234 : decode cX12_init 234 = .ok (.aload_n 0, 1) := by decide +kernel
theorem dX12_init_235 : decode cX12_init 235 = .ok (.iconst 0, 1) := by decide +kernel
theorem dX12_init_236 : decode cX12_init 236 = .ok (.iconst 0, 1) := by decide +kernel
theorem dX12_init_237 : decode cX12_init 237 = .ok (.invokevirtual 99, 3) := by decide +kernel
theorem dX12_init_240 : decode cX12_init 240 = .ok (.pop, 1) := by decide +kernel
theorem dX12_init_241 : decode cX12_init 241 = .ok (.aload_n 0, 1) := by decide +kernel
theorem dX12_init_242 : decode cX12_init 242 = .ok (.bipush 111, 2) := by decide +kernel
theorem dX12_init_244 : decode cX12_init 244 = .ok (.bipush 117, 2) := by decide +kernel
theorem dX12_init_246 : decode cX12_init 246 = .ok (.bipush 116, 2) := by decide +kernel
theorem dX12_init_248 : decode cX12_init 248 = .ok (.invokevirtual 103, 3) := by decide +kernel
