theorem dX8_judgeWay_21 : decode cX8_judgeWay 21 = .ok (.istore_n 3, 1) := by decide +kernel
theorem dX8_judgeWay_22 : decode cX8_judgeWay 22 = .ok (.iload_n 3, 1) := by decide +kernel
theorem dX8_judgeWay_23 : decode cX8_judgeWay 23 = .ok (.ifCond .eq 5, 3) := by decide +kernel
theorem dX8_judgeWay_26 : decode cX8_judgeWay 26 = .ok (.iload_n 3, 1) := by decide +kernel
theorem dX8_judgeWay_27 : decode cX8_judgeWay 27 = .ok (.ireturn, 1) := by decide +kernel
theorem dX8_judgeWay_28 : decode cX8_judgeWay 28 = .ok (.iinc 2 1, 3) := by decide +kernel
theorem dX8_judgeWay_31 : decode cX8_judgeWay 31 = .ok (.goto (-29), 3) := by decide +kernel
theorem dX8_judgeWay_34 : decode cX8_judgeWay 34 = .ok (.iconst 0, 1) := by decide +kernel
theorem dX8_judgeWay_35 : decode cX8_judgeWay 35 = .ok (.ireturn, 1) := by decide +kernel
theorem dX8_judgeWayPart_0 : decode cX8_judgeWayPart 0 = .ok (.aload_n 0, 1) := by decide +kernel
theorem dX8_judgeWayPart_1 : decode cX8_judgeWayPart 1 = .ok (.aload_n 1, 1) := by decide +kernel
theorem dX8_judgeWayPart_2 : decode cX8_judgeWayPart 2 = .ok (.invokevirtual 130, 3) := by decide +kernel
theorem dX8_judgeWayPart_5 : decode cX8_judgeWayPart 5 = .ok (.astore_n 2, 1) := by decide +kernel
theorem dX8_judgeWayPart_6 : decode cX8_judgeWayPart 6 = .ok (.aload_n 2, 1) := by decide +kernel
theorem dX8_judgeWayPart_7 : decode cX8_judgeWayPart 7 = .ok (.ifnonnull 8, 3) := by decide +kernel
theorem dX8_judgeWayPart_10 : decode cX8_judgeWayPart 10 = .ok (.aload_n 0, 1) := by decide +kernel
theorem dX8_judgeWayPart_11 : decode cX8_judgeWayPart 11 = .ok (.invokevirtual 134, 3) := by decide +kernel
theorem dX8_judgeWayPart_14 : decode cX8_judgeWayPart 14 = .ok (.ireturn, 1) := by decide +kernel
theorem dX8_judgeWayPart_15 : decode cX8_judgeWayPart 15 = .ok (.aload_n 0, 1) := by decide +kernel
theorem dX8_judgeWayPart_16 : decode cX8_judgeWayPart 16 = .ok (.aload_n 2, 1) := by decide +kernel
theorem dX8_judgeWayPart_17 : decode cX8_judgeWayPart 17 = .ok (.aload_n 1, 1) := by decide +kernel
theorem dX8_judgeWayPart_18 : decode cX8_judgeWayPart 18 = .ok (.invokevirtual 137, 3) := by decide +kernel
theorem dX8_judgeWayPart_21 : decode cX8_judgeWayPart 21 = .ok (.ifCond .eq 6, 3) := by decide +kernel
theorem dX8_judgeWayPart_24 : decode cX8_judgeWayPart 24 = .ok (.bipush (-12), 2) := by decide +kernel
theorem dX8_judgeWayPart_26 : decode cX8_judgeWayPart 26 = .ok (.ireturn, 1) := by decide +kernel
theorem dX8_judgeWayPart_27 : decode cX8_judgeWayPart 27 = .ok (.aload_n 2, 1) := by decide +kernel
theorem dX8_judgeWayPart_28 : decode cX8_judgeWayPart 28 = .ok (.getfield 141, 3) := by decide +kernel
theorem dX8_judgeWayPart_31 : decode cX8_judgeWayPart 31 = .ok (.ifnull 6, 3) := by decide +kernel
theorem dX8_judgeWayPart_34 : decode cX8_judgeWayPart 34 = .ok (.bipush (-14), 2) := by decide +kernel
theorem dX8_judgeWayPart_36 : decode cX8_judgeWayPart 36 = .ok (.ireturn, 1) := by decide +kernel
theorem dX8_judgeWayPart_37 : decode cX8_judgeWayPart 37 = .ok (.aload_n 2, 1) := by decide +kernel
theorem dX8_judgeWayPart_38 : decode cX8_judgeWayPart 38 = .ok (.getfield 144, 3) := by decide +kernel
theorem dX8_judgeWayPart_41 : decode cX8_judgeWayPart 41 = .ok (.ifnull 6, 3) := by decide +kernel
theorem dX8_judgeWayPart_44 : decode cX8_judgeWayPart 44 = .ok (.bipush (-15), 2) := by decide +kernel
theorem dX8_judgeWayPart_46 : decode cX8_judgeWayPart 46 = .ok (.ireturn, 1) := by decide +kernel
theorem dX8_judgeWayPart_47 : decode cX8_judgeWayPart 47 = .ok (.aload_n 0, 1) := by decide +kernel
theorem dX8_judgeWayPart_48 : decode cX8_judgeWayPart 48 = .ok (.aload_n 2, 1) := by decide +kernel
theorem dX8_judgeWayPart_49 : decode cX8_judgeWayPart 49 = .ok (.putfield 54, 3) := by decide +kernel
theorem dX8_judgeWayPart_52 : decode cX8_judgeWayPart 52 = .ok (.iconst 0, 1) := by decide +kernel
theorem dX8_judgeWayPart_53 : decode cX8_judgeWayPart 53 = .ok (.ireturn, 1) := by decide +kernel
theorem dX8_nextBy_0 : decode cX8_nextBy 0 = .ok (.aload_n 0, 1) := by decide +kernel
theorem dX8_nextBy_1 : decode cX8_nextBy 1 = .ok (.getfield 57, 3) := by decide +kernel
theorem dX8_nextBy_4 : decode cX8_nextBy 4 = .ok (.ifCond .le 7, 3) := by decide +kernel
theorem dX8_nextBy_7 : decode cX8_nextBy 7 = .ok (.aconst_null, 1) := by decide +kernel
theorem dX8_nextBy_8 : decode cX8_nextBy 8 = .ok (.goto 15, 3) := by decide +kernel
theorem dX8_nextBy_11 : decode cX8_nextBy 11 = .ok (.aload_n 0, 1) := by decide +kernel
theorem dX8_nextBy_12 : decode cX8_nextBy 12 = .ok (.getfield 15, 3) := by decide +kernel
theorem dX8_nextBy_15 : decode cX8_nextBy 15 = .ok (.aload_n 0, 1) := by decide +kernel
theorem dX8_nextBy_16 : decode cX8_nextBy 16 = .ok (.getfield 54, 3) := by decide +kernel
theorem dX8_nextBy_19 : decode cX8_nextBy 19 = .ok (.aload_n 1, 1) := by decide +kernel
theorem dX8_nextBy_20 : decode cX8_nextBy 20 = .ok (.invokevirtual 147, 3) := by decide +kernel
theorem dX8_nextBy_23 : decode cX8_nextBy 23 = .ok (.areturn, 1) := by decide +kernel
theorem dX8_judgeLack_0 : decode cX8_judgeLack 0 = .ok (.aload_n 0, 1) := by decide +kernel
theorem dX8_judgeLack_1 : decode cX8_judgeLack 1 = .ok (.getfield 9, 3) := by decide +kernel
theorem dX8_judgeLack_4 : decode cX8_judgeLack 4 = .ok (.getfield 151, 3) := by decide +kernel
theorem dX8_judgeLack_7 : decode cX8_judgeLack 7 = .ok (.ifCond .ne 6, 3) := by decide +kernel
theorem dX8_judgeLack_10 : decode cX8_judgeLack 10 = .ok (.bipush (-13), 2) := by decide +kernel
theorem dX8_judgeLack_12 : decode cX8_judgeLack 12 = .ok (.ireturn, 1) := by decide +kernel
theorem dX8_judgeLack_13 : decode cX8_judgeLack 13 = .ok (.aload_n 0, 1) := by decide +kernel
theorem dX8_judgeLack_14 : decode cX8_judgeLack 14 = .ok (.invokevirtual 156, 3) := by decide +kernel
theorem dX8_judgeLack_17 : decode cX8_judgeLack 17 = .ok (.ifCond .eq 6, 3) := by decide +kernel
theorem dX8_judgeLack_20 : decode cX8_judgeLack 20 = .ok (.bipush (-16), 2) := by decide +kernel
theorem dX8_judgeLack_22 : decode cX8_judgeLack 22 = .ok (.ireturn, 1) := by decide +kernel
theorem dX8_judgeLack_23 : decode cX8_judgeLack 23 = .ok (.aload_n 0, 1) := by decide +kernel
theorem dX8_judgeLack_24 : decode cX8_judgeLack 24 = .ok (.dup, 1) := by decide +kernel
theorem dX8_judgeLack_25 : decode cX8_judgeLack 25 = .ok (.getfield 57, 3) := by decide +kernel
theorem dX8_judgeLack_28 : decode cX8_judgeLack 28 = .ok (.iconst 1, 1) := by decide +kernel
theorem dX8_judgeLack_29 : decode cX8_judgeLack 29 = .ok (.iadd, 1) := by decide +kernel
theorem dX8_judgeLack_30 : decode cX8_judgeLack 30 = .ok (.putfield 57, 3) := by decide +kernel
theorem dX8_judgeLack_33 : decode cX8_judgeLack 33 = .ok (.iconst 0, 1) := by decide +kernel
theorem dX8_judgeLack_34 : decode cX8_judgeLack 34 = .ok (.ireturn, 1) := by decide +kernel
theorem dX8_isShut_0 : decode cX8_isShut 0 = .ok (.aload_n 0, 1) := by decide +kernel
theorem dX8_isShut_1 : decode cX8_isShut 1 = .ok (.getfield 57, 3) := by decide +kernel
theorem dX8_isShut_4 : decode cX8_isShut 4 = .ok (.ifCond .ne 17, 3) := by decide +kernel
theorem dX8_isShut_7 : decode cX8_isShut 7 = .ok (.aload_n 0, 1) := by decide +kernel
theorem dX8_isShut_8 : decode cX8_isShut 8 = .ok (.getfield 54, 3) := by decide +kernel
theorem dX8_isShut_11 : decode cX8_isShut 11 = .ok (.getfield 88, 3) := by decide +kernel
theorem dX8_isShut_14 : decode cX8_isShut 14 = .ok (.ifCond .eq 7, 3) := by decide +kernel
theorem dX8_isShut_17 : decode cX8_isShut 17 = .ok (.iconst 1, 1) := by decide +kernel
theorem dX8_isShut_18 : decode cX8_isShut 18 = .ok (.goto 4, 3) := by decide +kernel
theorem dX8_isShut_21 : decode cX8_isShut 21 = .ok (.iconst 0, 1) := by decide +kernel
theorem dX8_isShut_22 : decode cX8_isShut 22 = .ok (.ireturn, 1) := by decide +kernel
theorem dX8_isRefusedMeeting_0 : decode cX8_isRefusedMeeting 0 = .ok (.aload_n 0, 1) := by decide +kernel
theorem dX8_isRefusedMeeting_1 : decode cX8_isRefusedMeeting 1 = .ok (.getfield 9, 3) := by decide +kernel
theorem dX8_isRefusedMeeting_4 : decode cX8_isRefusedMeeting 4 = .ok (.getfield 160, 3) := by decide +kernel
theorem dX8_isRefusedMeeting_7 : decode cX8_isRefusedMeeting 7 = .ok (.ifCond .ne 18, 3) := by decide +kernel
theorem dX8_isRefusedMeeting_10 : decode cX8_isRefusedMeeting 10 = .ok (.aload_n 1, 1) := by decide +kernel
theorem dX8_isRefusedMeeting_11 : decode cX8_isRefusedMeeting 11 = .ok (.getfield 163, 3) := by decide +kernel
theorem dX8_isRefusedMeeting_14 : decode cX8_isRefusedMeeting 14 = .ok (.aload_n 2, 1) := by decide +kernel
theorem dX8_isRefusedMeeting_15 : decode cX8_isRefusedMeeting 15 = .ok (.invokevirtual 167, 3) := by decide +kernel
theorem dX8_isRefusedMeeting_18 : decode cX8_isRefusedMeeting 18 = .ok (.ifCond .ne 7, 3) := by decide +kernel
theorem dX8_isRefusedMeeting_21 : decode cX8_isRefusedMeeting 21 = .ok (.iconst 1, 1) := by decide +kernel
theorem dX8_isRefusedMeeting_22 : decode cX8_isRefusedMeeting 22 = .ok (.goto 4, 3) := by decide +kernel
theorem dX8_isRefusedMeeting_25 : decode cX8_isRefusedMeeting 25 = .ok (.iconst 0, 1) := by decide +kernel
theorem dX8_isRefusedMeeting_26 : decode cX8_isRefusedMeeting 26 = .ok (.ireturn, 1) := by decide +kernel
theorem dX8_judgeLast_0 : decode cX8_judgeLast 0 = .ok (.aload_n 0, 1) := by decide +kernel
theorem dX8_judgeLast_1 : decode cX8_judgeLast 1 = .ok (.aload_n 0, 1) := by decide +kernel
theorem dX8_judgeLast_2 : decode cX8_judgeLast 2 = .ok (.aload_n 1, 1) := by decide +kernel
theorem dX8_judgeLast_3 : decode cX8_judgeLast 3 = .ok (.invokevirtual 130, 3) := by decide +kernel
theorem dX8_judgeLast_6 : decode cX8_judgeLast 6 = .ok (.putfield 60, 3) := by decide +kernel
theorem dX8_judgeLast_9 : decode cX8_judgeLast 9 = .ok (.aload_n 0, 1) := by decide +kernel
theorem dX8_judgeLast_10 : decode cX8_judgeLast 10 = .ok (.getfield 60, 3) := by decide +kernel
theorem dX8_judgeLast_13 : decode cX8_judgeLast 13 = .ok (.ifnull 20, 3) := by decide +kernel
theorem dX8_judgeLast_16 : decode cX8_judgeLast 16 = .ok (.aload_n 0, 1) := by decide +kernel
theorem dX8_judgeLast_17 : decode cX8_judgeLast 17 = .ok (.aload_n 0, 1) := by decide +kernel
theorem dX8_judgeLast_18 : decode cX8_judgeLast 18 = .ok (.getfield 60, 3) := by decide +kernel
theorem dX8_judgeLast_21 : decode cX8_judgeLast 21 = .ok (.aload_n 1, 1) := by decide +kernel
theorem dX8_judgeLast_22 : decode cX8_judgeLast 22 = .ok (.invokevirtual 137, 3) := by decide +kernel
theorem dX8_judgeLast_25 : decode cX8_judgeLast 25 = .ok (.ifCond .eq 8, 3) := by decide +kernel
theorem dX8_judgeLast_28 : decode cX8_judgeLast 28 = .ok (.bipush (-12), 2) := by decide +kernel
theorem dX8_judgeLast_30 : decode cX8_judgeLast 30 = .ok (.goto 4, 3) := by decide +kernel
theorem dX8_judgeLast_33 : decode cX8_judgeLast 33 = .ok (.iconst 0, 1) := by decide +kernel
theorem dX8_judgeLast_34 : decode cX8_judgeLast 34 = .ok (.ireturn, 1) := by decide +kernel
theorem dX8_judgeKind_0 : decode cX8_judgeKind 0 = .ok (.aload_n 1, 1) := by decide +kernel
theorem dX8_judgeKind_1 : decode cX8_judgeKind 1 = .ok (.getfield 173, 3) := by decide +kernel
theorem dX8_judgeKind_4 : decode cX8_judgeKind 4 = .ok (.iconst 4, 1) := by decide +kernel
theorem dX8_judgeKind_5 : decode cX8_judgeKind 5 = .ok (.if_icmp .ne 6, 3) := by decide +kernel
theorem dX8_judgeKind_8 : decode cX8_judgeKind 8 = .ok (.bipush (-20), 2) := by decide +kernel
theorem dX8_judgeKind_10 : decode cX8_judgeKind 10 = .ok (.ireturn, 1) := by decide +kernel
theorem dX8_judgeKind_11 : decode cX8_judgeKind 11 = .ok (.aload_n 1, 1) := by decide +kernel
theorem dX8_judgeKind_12 : decode cX8_judgeKind 12 = .ok (.getfield 173, 3) := by decide +kernel
theorem dX8_judgeKind_15 : decode cX8_judgeKind 15 = .ok (.ifCond .ne 30, 3) := by decide +kernel
theorem dX8_judgeKind_18 : decode cX8_judgeKind 18 = .ok (.aload_n 0, 1) := by decide +kernel
theorem dX8_judgeKind_19 : decode cX8_judgeKind 19 = .ok (.getfield 60, 3) := by decide +kernel
theorem dX8_judgeKind_22 : decode cX8_judgeKind 22 = .ok (.ifnull 23, 3) := by decide +kernel
theorem dX8_judgeKind_25 : decode cX8_judgeKind 25 = .ok (.aload_n 0, 1) := by decide +kernel
theorem dX8_judgeKind_26 : decode cX8_judgeKind 26 = .ok (.getfield 60, 3) := by decide +kernel
theorem dX8_judgeKind_29 : decode cX8_judgeKind 29 = .ok (.invokevirtual 176, 3) := by decide +kernel
theorem dX8_judgeKind_32 : decode cX8_judgeKind 32 = .ok (.ifCond .eq 13, 3) := by decide +kernel
theorem dX8_judgeKind_35 : decode cX8_judgeKind 35 = .ok (.aload_n 0, 1) := by decide +kernel
theorem dX8_judgeKind_36 : decode cX8_judgeKind 36 = .ok (.aload_n 0, 1) := by decide +kernel
theorem dX8_judgeKind_37 : decode cX8_judgeKind 37 = .ok (.getfield 60, 3) := by decide +kernel
theorem dX8_judgeKind_40 : decode cX8_judgeKind 40 = .ok (.putfield 63, 3) := by decide +kernel
theorem dX8_judgeKind_43 : decode cX8_judgeKind 43 = .ok (.iconst 0, 1) := by decide +kernel
theorem dX8_judgeKind_44 : decode cX8_judgeKind 44 = .ok (.ireturn, 1) := by decide +kernel
theorem dX8_judgeKind_45 : decode cX8_judgeKind 45 = .ok (.aload_n 0, 1) := by decide +kernel
theorem dX8_judgeKind_46 : decode cX8_judgeKind 46 = .ok (.aload_n 1, 1) := by decide +kernel
theorem dX8_judgeKind_47 : decode cX8_judgeKind 47 = .ok (.getfield 173, 3) := by decide +kernel
theorem dX8_judgeKind_50 : decode cX8_judgeKind 50 = .ok (.invokevirtual 179, 3) := by decide +kernel
theorem dX8_judgeKind_53 : decode cX8_judgeKind 53 = .ok (.ifCond .eq 6, 3) := by decide +kernel
theorem dX8_judgeKind_56 : decode cX8_judgeKind 56 = .ok (.bipush (-17), 2) := by decide +kernel
theorem dX8_judgeKind_58 : decode cX8_judgeKind 58 = .ok (.ireturn, 1) := by decide +kernel
theorem dX8_judgeKind_59 : decode cX8_judgeKind 59 = .ok (.aload_n 0, 1) := by decide +kernel
theorem dX8_judgeKind_60 : decode cX8_judgeKind 60 = .ok (.invokevirtual 156, 3) := by decide +kernel
theorem dX8_judgeKind_63 : decode cX8_judgeKind 63 = .ok (.ifCond .eq 6, 3) := by decide +kernel
theorem dX8_judgeKind_66 : decode cX8_judgeKind 66 = .ok (.bipush (-16), 2) := by decide +kernel
theorem dX8_judgeKind_68 : decode cX8_judgeKind 68 = .ok (.ireturn, 1) := by decide +kernel
theorem dX8_judgeKind_69 : decode cX8_judgeKind 69 = .ok (.aload_n 1, 1) := by decide +kernel
theorem dX8_judgeKind_70 : decode cX8_judgeKind 70 = .ok (.getfield 173, 3) := by decide +kernel
theorem dX8_judgeKind_73 : decode cX8_judgeKind 73 = .ok (.iconst 2, 1) := by decide +kernel
theorem dX8_judgeKind_74 : decode cX8_judgeKind 74 = .ok (.if_icmp .ne 59, 3) := by decide +kernel
theorem dX8_judgeKind_77 : decode cX8_judgeKind 77 = .ok (.aload_n 0, 1) := by decide +kernel
theorem dX8_judgeKind_78 : decode cX8_judgeKind 78 = .ok (.aload_n 0, 1) := by decide +kernel
theorem dX8_judgeKind_79 : decode cX8_judgeKind 79 = .ok (.getfield 19, 3) := by decide +kernel
theorem dX8_judgeKind_82 : decode cX8_judgeKind 82 = .ok (.aload_n 1, 1) := by decide +kernel
theorem dX8_judgeKind_83 : decode cX8_judgeKind 83 = .ok (.getfield 183, 3) := by decide +kernel
theorem dX8_judgeKind_86 : decode cX8_judgeKind 86 = .ok (.aload_n 0, 1) := by decide +kernel
theorem dX8_judgeKind_87 : decode cX8_judgeKind 87 = .ok (.getfield 54, 3) := by decide +kernel
theorem dX8_judgeKind_90 : decode cX8_judgeKind 90 = .ok (.aload_n 0, 1) := by decide +kernel
theorem dX8_judgeKind_91 : decode cX8_judgeKind 91 = .ok (.getfield 57, 3) := by decide +kernel
theorem dX8_judgeKind_94 : decode cX8_judgeKind 94 = .ok (.invokevirtual 186, 3) := by decide +kernel
theorem dX8_judgeKind_97 : decode cX8_judgeKind 97 = .ok (.iconst (-1), 1) := by decide +kernel
theorem dX8_judgeKind_98 : decode cX8_judgeKind 98 = .ok (.if_icmp .ne 7, 3) := by decide +kernel
theorem dX8_judgeKind_101 : decode cX8_judgeKind 101 = .ok (.iconst 1, 1) := by decide +kernel
theorem dX8_judgeKind_102 : decode cX8_judgeKind 102 = .ok (.goto 4, 3) := by decide +kernel
theorem dX8_judgeKind_105 : decode cX8_judgeKind 105 = .ok (.iconst 0, 1) := by decide +kernel
theorem dX8_judgeKind_106 : decode cX8_judgeKind 106 = .ok (.putfield 70, 3) := by decide +kernel
theorem dX8_judgeKind_109 : decode cX8_judgeKind 109 = .ok (.aload_n 0, 1) := by decide +kernel
theorem dX8_judgeKind_110 : decode cX8_judgeKind 110 = .ok (.getfield 70, 3) := by decide +kernel
theorem dX8_judgeKind_113 : decode cX8_judgeKind 113 = .ok (.ifCond .eq 18, 3) := by decide +kernel
theorem dX8_judgeKind_116 : decode cX8_judgeKind 116 = .ok (.aload_n 0, 1) := by decide +kernel
theorem dX8_judgeKind_117 : decode cX8_judgeKind 117 = .ok (.getfield 9, 3) := by decide +kernel
theorem dX8_judgeKind_120 : decode cX8_judgeKind 120 = .ok (.getfield 192, 3) := by decide +kernel
theorem dX8_judgeKind_123 : decode cX8_judgeKind 123 = .ok (.ifCond .ne 8, 3) := by decide +kernel
theorem dX8_judgeKind_126 : decode cX8_judgeKind 126 = .ok (.bipush (-18), 2) := by decide +kernel
theorem dX8_judgeKind_128 : decode cX8_judgeKind 128 = .ok (.goto 4, 3) := by decide +kernel
theorem dX8_judgeKind_131 : decode cX8_judgeKind 131 = .ok (.iconst 0, 1) := by decide +kernel
theorem dX8_judgeKind_132 : decode cX8_judgeKind 132 = .ok (.ireturn, 1) := by decide +kernel
theorem dX8_judgeKind_133 : decode cX8_judgeKind 133 = .ok (.aload_n 1, 1) := by decide +kernel
theorem dX8_judgeKind_134 : decode cX8_judgeKind 134 = .ok (.getfield 173, 3) := by decide +kernel
theorem dX8_judgeKind_137 : decode cX8_judgeKind 137 = .ok (.iconst 3, 1) := by decide +kernel
theorem dX8_judgeKind_138 : decode cX8_judgeKind 138 = .ok (.if_icmp .ne 14, 3) := by decide +kernel
theorem dX8_judgeKind_141 : decode cX8_judgeKind 141 = .ok (.aload_n 0, 1) := by decide +kernel
theorem dX8_judgeKind_142 : decode cX8_judgeKind 142 = .ok (.aload_n 1, 1) := by decide +kernel
theorem dX8_judgeKind_143 : decode cX8_judgeKind 143 = .ok (.getfield 183, 3) := by decide +kernel
theorem dX8_judgeKind_146 : decode cX8_judgeKind 146 = .ok (.invokevirtual 195, 3) := by decide +kernel
theorem dX8_judgeKind_149 : decode cX8_judgeKind 149 = .ok (.goto 4, 3) := by decide +kernel
theorem dX8_judgeKind_152 : decode cX8_judgeKind 152 = .ok (.iconst 0, 1) := by decide +kernel
theorem dX8_judgeKind_153 : decode cX8_judgeKind 153 = .ok (.ireturn, 1) := by decide +kernel
theorem dX8_isPlaceTaken_0 : decode cX8_isPlaceTaken 0 = .ok (.aload_n 0, 1) := by decide +kernel
theorem dX8_isPlaceTaken_1 : decode cX8_isPlaceTaken 1 = .ok (.getfield 60, 3) := by decide +kernel
theorem dX8_isPlaceTaken_4 : decode cX8_isPlaceTaken 4 = .ok (.ifnull 21, 3) := by decide +kernel
theorem dX8_isPlaceTaken_7 : decode cX8_isPlaceTaken 7 = .ok (.iload_n 1, 1) := by decide +kernel
theorem dX8_isPlaceTaken_8 : decode cX8_isPlaceTaken 8 = .ok (.ifCond .eq 13, 3) := by decide +kernel
theorem dX8_isPlaceTaken_11 : decode cX8_isPlaceTaken 11 = .ok (.aload_n 0, 1) := by decide +kernel
theorem dX8_isPlaceTaken_12 : decode cX8_isPlaceTaken 12 = .ok (.getfield 60, 3) := by decide +kernel
theorem dX8_isPlaceTaken_15 : decode cX8_isPlaceTaken 15 = .ok (.invokevirtual 176, 3) := by decide +kernel
theorem dX8_isPlaceTaken_18 : decode cX8_isPlaceTaken 18 = .ok (.ifCond .eq 7, 3) := by decide +kernel
theorem dX8_isPlaceTaken_21 : decode cX8_isPlaceTaken 21 = .ok (.iconst 1, 1) := by decide +kernel
theorem dX8_isPlaceTaken_22 : decode cX8_isPlaceTaken 22 = .ok (.goto 4, 3) := by decide +kernel
theorem dX8_isPlaceTaken_25 : decode cX8_isPlaceTaken 25 = .ok (.iconst 0, 1) := by decide +kernel
theorem dX8_isPlaceTaken_26 : decode cX8_isPlaceTaken 26 = .ok (.ireturn, 1) := by decide +kernel
theorem dX8_judgeSharing_0 : decode cX8_judgeSharing 0 = .ok (.aload_n 0, 1) := by decide +kernel
theorem dX8_judgeSharing_1 : decode cX8_judgeSharing 1 = .ok (.getfield 15, 3) := by decide +kernel
theorem dX8_judgeSharing_4 : decode cX8_judgeSharing 4 = .ok (.aload_n 1, 1) := by decide +kernel
theorem dX8_judgeSharing_5 : decode cX8_judgeSharing 5 = .ok (.aload_n 0, 1) := by decide +kernel
theorem dX8_judgeSharing_6 : decode cX8_judgeSharing 6 = .ok (.getfield 9, 3) := by decide +kernel
theorem dX8_judgeSharing_9 : decode cX8_judgeSharing 9 = .ok (.getfield 160, 3) := by decide +kernel
theorem dX8_judgeSharing_12 : decode cX8_judgeSharing 12 = .ok (.ifCond .ne 7, 3) := by decide +kernel
theorem dX8_judgeSharing_15 : decode cX8_judgeSharing 15 = .ok (.iconst 1, 1) := by decide +kernel
theorem dX8_judgeSharing_16 : decode cX8_judgeSharing 16 = .ok (.goto 4, 3) := by decide +kernel
theorem dX8_judgeSharing_19 : decode cX8_judgeSharing 19 = .ok (.iconst 0, 1) := by decide +kernel
theorem dX8_judgeSharing_20 : decode cX8_judgeSharing 20 = .ok (.invokevirtual 198, 3) := by decide +kernel
theorem dX8_judgeSharing_23 : decode cX8_judgeSharing 23 = .ok (.astore_n 2, 1) := by decide +kernel
theorem dX8_judgeSharing_24 : decode cX8_judgeSharing 24 = .ok (.aload_n 2, 1) := by decide +kernel
theorem dX8_judgeSharing_25 : decode cX8_judgeSharing 25 = .ok (.ifnull 10, 3) := by decide +kernel
theorem dX8_judgeSharing_28 : decode cX8_judgeSharing 28 = .ok (.aload_n 2, 1) := by decide +kernel
theorem dX8_judgeSharing_29 : decode cX8_judgeSharing 29 = .ok (.getfield 144, 3) := by decide +kernel
theorem dX8_judgeSharing_32 : decode cX8_judgeSharing 32 = .ok (.ifnonnull 6, 3) := by decide +kernel
theorem dX8_judgeSharing_35 : decode cX8_judgeSharing 35 = .ok (.bipush (-19), 2) := by decide +kernel
theorem dX8_judgeSharing_37 : decode cX8_judgeSharing 37 = .ok (.ireturn, 1) := by decide +kernel
theorem dX8_judgeSharing_38 : decode cX8_judgeSharing 38 = .ok (.aload_n 0, 1) := by decide +kernel
theorem dX8_judgeSharing_39 : decode cX8_judgeSharing 39 = .ok (.aload_n 2, 1) := by decide +kernel
theorem dX8_judgeSharing_40 : decode cX8_judgeSharing 40 = .ok (.getfield 144, 3) := by decide +kernel
theorem dX8_judgeSharing_43 : decode cX8_judgeSharing 43 = .ok (.putfield 66, 3) := by decide +kernel
theorem dX8_judgeSharing_46 : decode cX8_judgeSharing 46 = .ok (.aload_n 2, 1) := by decide +kernel
theorem dX8_judgeSharing_47 : decode cX8_judgeSharing 47 = .ok (.aload_n 0, 1) := by decide +kernel
theorem dX8_judgeSharing_48 : decode cX8_judgeSharing 48 = .ok (.getfield 60, 3) := by decide +kernel
theorem dX8_judgeSharing_51 : decode cX8_judgeSharing 51 = .ok (.if_acmp .ne 8, 3) := by decide +kernel
theorem dX8_judgeSharing_54 : decode cX8_judgeSharing 54 = .ok (.aload_n 0, 1) := by decide +kernel
theorem dX8_judgeSharing_55 : decode cX8_judgeSharing 55 = .ok (.aload_n 2, 1) := by decide +kernel
theorem dX8_judgeSharing_56 : decode cX8_judgeSharing 56 = .ok (.putfield 63, 3) := by decide +kernel
theorem dX8_judgeSharing_59 : decode cX8_judgeSharing 59 = .ok (.iconst 0, 1) := by decide +kernel
theorem dX8_judgeSharing_60 : decode cX8_judgeSharing 60 = .ok (.ireturn, 1) := by decide +kernel
theorem dX8_judgeLimits_0 : decode cX8_judgeLimits 0 = .ok (.aload_n 0, 1) := by decide +kernel
theorem dX8_judgeLimits_1 : decode cX8_judgeLimits 1 = .ok (.getfield 57, 3) := by decide +kernel
theorem dX8_judgeLimits_4 : decode cX8_judgeLimits 4 = .ok (.iconst 1, 1) := by decide +kernel
theorem dX8_judgeLimits_5 : decode cX8_judgeLimits 5 = .ok (.iadd, 1) := by decide +kernel
theorem dX8_judgeLimits_6 : decode cX8_judgeLimits 6 = .ok (.istore_n 2, 1) := by decide +kernel
theorem dX8_judgeLimits_7 : decode cX8_judgeLimits 7 = .ok (.aload_n 0, 1) := by decide +kernel
theorem dX8_judgeLimits_8 : decode cX8_judgeLimits 8 = .ok (.getfield 41, 3) := by decide +kernel
theorem dX8_judgeLimits_11 : decode cX8_judgeLimits 11 = .ok (.iload_n 2, 1) := by decide +kernel
theorem dX8_judgeLimits_12 : decode cX8_judgeLimits 12 = .ok (.iadd, 1) := by decide +kernel
theorem dX8_judgeLimits_13 : decode cX8_judgeLimits 13 = .ok (.i2l, 1) := by decide +kernel
theorem dX8_judgeLimits_14 : decode cX8_judgeLimits 14 = .ok (.aload_n 0, 1) := by decide +kernel
theorem dX8_judgeLimits_15 : decode cX8_judgeLimits 15 = .ok (.getfield 32, 3) := by decide +kernel
theorem dX8_judgeLimits_18 : decode cX8_judgeLimits 18 = .ok (.lcmp, 1) := by decide +kernel
theorem dX8_judgeLimits_19 : decode cX8_judgeLimits 19 = .ok (.ifCond .le 6, 3) := by decide +kernel
theorem dX8_judgeLimits_22 : decode cX8_judgeLimits 22 = .ok (.bipush (-21), 2) := by decide +kernel
theorem dX8_judgeLimits_24 : decode cX8_judgeLimits 24 = .ok (.ireturn, 1) := by decide +kernel
theorem dX8_judgeLimits_25 : decode cX8_judgeLimits 25 = .ok (.aload_n 1, 1) := by decide +kernel
theorem dX8_judgeLimits_26 : decode cX8_judgeLimits 26 = .ok (.getfield 173, 3) := by decide +kernel
theorem dX8_judgeLimits_29 : decode cX8_judgeLimits 29 = .ok (.iconst 1, 1) := by decide +kernel
theorem dX8_judgeLimits_30 : decode cX8_judgeLimits 30 = .ok (.if_icmp .ne 23, 3) := by decide +kernel
theorem dX8_judgeLimits_33 : decode cX8_judgeLimits 33 = .ok (.aload_n 0, 1) := by decide +kernel
theorem dX8_judgeLimits_34 : decode cX8_judgeLimits 34 = .ok (.getfield 45, 3) := by decide +kernel
theorem dX8_judgeLimits_37 : decode cX8_judgeLimits 37 = .ok (.aload_n 1, 1) := by decide +kernel
theorem dX8_judgeLimits_38 : decode cX8_judgeLimits 38 = .ok (.getfield 202, 3) := by decide +kernel
theorem dX8_judgeLimits_41 : decode cX8_judgeLimits 41 = .ok (.ladd, 1) := by decide +kernel
theorem dX8_judgeLimits_42 : decode cX8_judgeLimits 42 = .ok (.aload_n 0, 1) := by decide +kernel
theorem dX8_judgeLimits_43 : decode cX8_judgeLimits 43 = .ok (.getfield 38, 3) := by decide +kernel
theorem dX8_judgeLimits_46 : decode cX8_judgeLimits 46 = .ok (.lcmp, 1) := by decide +kernel
theorem dX8_judgeLimits_47 : decode cX8_judgeLimits 47 = .ok (.ifCond .le 6, 3) := by decide +kernel
theorem dX8_judgeLimits_50 : decode cX8_judgeLimits 50 = .ok (.bipush (-21), 2) := by decide +kernel
theorem dX8_judgeLimits_52 : decode cX8_judgeLimits 52 = .ok (.ireturn, 1) := by decide +kernel
theorem dX8_judgeLimits_53 : decode cX8_judgeLimits 53 = .ok (.aload_n 0, 1) := by decide +kernel
theorem dX8_judgeLimits_54 : decode cX8_judgeLimits 54 = .ok (.getfield 15, 3) := by decide +kernel
theorem dX8_judgeLimits_57 : decode cX8_judgeLimits 57 = .ok (.invokevirtual 204, 3) := by decide +kernel
theorem dX8_judgeLimits_60 : decode cX8_judgeLimits 60 = .ok (.iload_n 2, 1) := by decide +kernel
theorem dX8_judgeLimits_61 : decode cX8_judgeLimits 61 = .ok (.iadd, 1) := by decide +kernel
theorem dX8_judgeLimits_62 : decode cX8_judgeLimits 62 = .ok (.sipush 200, 3) := by decide +kernel
theorem dX8_judgeLimits_65 : decode cX8_judgeLimits 65 = .ok (.if_icmp .le 8, 3) := by decide +kernel
theorem dX8_judgeLimits_68 : decode cX8_judgeLimits 68 = .ok (.bipush (-6), 2) := by decide +kernel
theorem dX8_judgeLimits_70 : decode cX8_judgeLimits 70 = .ok (.goto 4, 3) := by decide +kernel
theorem dX8_judgeLimits_73 : decode cX8_judgeLimits 73 = .ok (.iconst 0, 1) := by decide +kernel
theorem dX8_judgeLimits_74 : decode cX8_judgeLimits 74 = .ok (.ireturn, 1) := by decide +kernel
theorem dX8_carryOut_0 : decode cX8_carryOut 0 = .ok (.aload_n 0, 1) := by decide +kernel
theorem dX8_carryOut_1 : decode cX8_carryOut 1 = .ok (.getfield 63, 3) := by decide +kernel
theorem dX8_carryOut_4 : decode cX8_carryOut 4 = .ok (.ifnonnull 11, 3) := by decide +kernel
theorem dX8_carryOut_7 : decode cX8_carryOut 7 = .ok (.aload_n 0, 1) := by decide +kernel
theorem dX8_carryOut_8 : decode cX8_carryOut 8 = .ok (.aload_n 1, 1) := by decide +kernel
theorem dX8_carryOut_9 : decode cX8_carryOut 9 = .ok (.invokevirtual 207, 3) := by decide +kernel
theorem dX8_carryOut_12 : decode cX8_carryOut 12 = .ok (.goto 7, 3) := by decide +kernel
theorem dX8_carryOut_15 : decode cX8_carryOut 15 = .ok (.aload_n 0, 1) := by decide +kernel
theorem dX8_carryOut_16 : decode cX8_carryOut 16 = .ok (.getfield 63, 3) := by decide +kernel
theorem dX8_carryOut_19 : decode cX8_carryOut 19 = .ok (.astore_n 2, 1) := by decide +kernel
theorem dX8_carryOut_20 : decode cX8_carryOut 20 = .ok (.aload_n 1, 1) := by decide +kernel
theorem dX8_carryOut_21 : decode cX8_carryOut 21 = .ok (.getfield 173, 3) := by decide +kernel
theorem dX8_carryOut_24 : decode cX8_carryOut 24 = .ok (.ifCond .ne 45, 3) := by decide +kernel
theorem dX8_carryOut_27 : decode cX8_carryOut 27 = .ok (.aload_n 0, 1) := by decide +kernel
theorem dX8_carryOut_28 : decode cX8_carryOut 28 = .ok (.getfield 26, 3) := by decide +kernel
theorem dX8_carryOut_31 : decode cX8_carryOut 31 = .ok (.invokevirtual 74, 3) := by decide +kernel
theorem dX8_carryOut_34 : decode cX8_carryOut 34 = .ok (.sipush 512, 3) := by decide +kernel
theorem dX8_carryOut_37 : decode cX8_carryOut 37 = .ok (.if_icmp .ge 32, 3) := by decide +kernel
theorem dX8_carryOut_40 : decode cX8_carryOut 40 = .ok (.aload_n 0, 1) := by decide +kernel
theorem dX8_carryOut_41 : decode cX8_carryOut 41 = .ok (.getfield 26, 3) := by decide +kernel
theorem dX8_carryOut_44 : decode cX8_carryOut 44 = .ok (.new 82, 3) := by decide +kernel
theorem dX8_carryOut_47 : decode cX8_carryOut 47 = .ok (.dup, 1) := by decide +kernel
theorem dX8_carryOut_48 : decode cX8_carryOut 48 = .ok (.aload_n 2, 1) := by decide +kernel
theorem dX8_carryOut_49 : decode cX8_carryOut 49 = .ok (.aload_n 1, 1) := by decide +kernel
theorem dX8_carryOut_50 : decode cX8_carryOut 50 = .ok (.getfield 211, 3) := by decide +kernel
theorem dX8_carryOut_53 : decode cX8_carryOut 53 = .ok (.iconst 1, 1) := by decide +kernel
theorem dX8_carryOut_54 : decode cX8_carryOut 54 = .ok (.if_icmp .ne 7, 3) := by decide +kernel
theorem dX8_carryOut_57 : decode cX8_carryOut 57 = .ok (.iconst 1, 1) := by decide +kernel
theorem dX8_carryOut_58 : decode cX8_carryOut 58 = .ok (.goto 4, 3) := by decide +kernel
theorem dX8_carryOut_61 : decode cX8_carryOut 61 = .ok (.iconst 0, 1) := by decide +kernel
theorem dX8_carryOut_62 : decode cX8_carryOut 62 = .ok (.invokespecial 214, 3) := by decide +kernel
theorem dX8_carryOut_65 : decode cX8_carryOut 65 = .ok (.invokevirtual 217, 3) := by decide +kernel
theorem dX8_carryOut_68 : decode cX8_carryOut 68 = .ok (.pop, 1) := by decide +kernel
theorem dX8_carryOut_69 : decode cX8_carryOut 69 = .ok (.aload_n 2, 1) := by decide +kernel
theorem dX8_carryOut_70 : decode cX8_carryOut 70 = .ok (.getfield 221, 3) := by decide +kernel
theorem dX8_carryOut_73 : decode cX8_carryOut 73 = .ok (.ireturn, 1) := by decide +kernel
theorem dX8_bring_0 : decode cX8_bring 0 = .ok (.aload_n 1, 1) := by decide +kernel
theorem dX8_bring_1 : decode cX8_bring 1 = .ok (.getfield 97, 3) := by decide +kernel
theorem dX8_bring_4 : decode cX8_bring 4 = .ok (.invokevirtual 107, 3) := by decide +kernel
theorem dX8_bring_7 : decode cX8_bring 7 = .ok (.iconst 1, 1) := by decide +kernel
theorem dX8_bring_8 : decode cX8_bring 8 = .ok (.isub, 1) := by decide +kernel
theorem dX8_bring_9 : decode cX8_bring 9 = .ok (.istore_n 2, 1) := by decide +kernel
theorem dX8_bring_10 : decode cX8_bring 10 = .ok (.aload_n 0, 1) := by decide +kernel
theorem dX8_bring_11 : decode cX8_bring 11 = .ok (.getfield 54, 3) := by decide +kernel
theorem dX8_bring_14 : decode cX8_bring 14 = .ok (.astore_n 3, 1) := by decide +kernel
theorem dX8_bring_15 : decode cX8_bring 15 = .ok (.iload_n 2, 1) := by decide +kernel
theorem dX8_bring_16 : decode cX8_bring 16 = .ok (.aload_n 0, 1) := by decide +kernel
theorem dX8_bring_17 : decode cX8_bring 17 = .ok (.getfield 57, 3) := by decide +kernel
theorem dX8_bring_20 : decode cX8_bring 20 = .ok (.isub, 1) := by decide +kernel
theorem dX8_bring_21 : decode cX8_bring 21 = .ok (.istore 4, 2) := by decide +kernel
theorem dX8_bring_23 : decode cX8_bring 23 = .ok (.iload 4, 2) := by decide +kernel
theorem dX8_bring_25 : decode cX8_bring 25 = .ok (.iload_n 2, 1) := by decide +kernel
theorem dX8_bring_26 : decode cX8_bring 26 = .ok (.if_icmp .ge 30, 3) := by decide +kernel
theorem dX8_bring_29 : decode cX8_bring 29 = .ok (.aload_n 0, 1) := by decide +kernel
theorem dX8_bring_30 : decode cX8_bring 30 = .ok (.getfield 15, 3) := by decide +kernel
theorem dX8_bring_33 : decode cX8_bring 33 = .ok (.aload_n 3, 1) := by decide +kernel
theorem dX8_bring_34 : decode cX8_bring 34 = .ok (.aload_n 1, 1) := by decide +kernel
theorem dX8_bring_35 : decode cX8_bring 35 = .ok (.getfield 97, 3) := by decide +kernel
theorem dX8_bring_38 : decode cX8_bring 38 = .ok (.iload 4, 2) := by decide +kernel
theorem dX8_bring_40 : decode cX8_bring 40 = .ok (.invokevirtual 112, 3) := by decide +kernel
theorem dX8_bring_43 : decode cX8_bring 43 = .ok (.aconst_null, 1) := by decide +kernel
theorem dX8_bring_44 : decode cX8_bring 44 = .ok (.aconst_null, 1) := by decide +kernel
theorem dX8_bring_45 : decode cX8_bring 45 = .ok (.iconst 0, 1) := by decide +kernel
theorem dX8_bring_46 : decode cX8_bring 46 = .ok (.invokevirtual 224, 3) := by decide +kernel
theorem dX8_bring_49 : decode cX8_bring 49 = .ok (.astore_n 3, 1) := by decide +kernel
theorem dX8_bring_50 : decode cX8_bring 50 = .ok (.iinc 4 1, 3) := by decide +kernel
theorem dX8_bring_53 : decode cX8_bring 53 = .ok (.goto (-30), 3) := by decide +kernel
theorem dX8_bring_56 : decode cX8_bring 56 = .ok (.aload_n 0, 1) := by decide +kernel
theorem dX8_bring_57 : decode cX8_bring 57 = .ok (.getfield 60, 3) := by decide +kernel
theorem dX8_bring_60 : decode cX8_bring 60 = .ok (.ifnull 11, 3) := by decide +kernel
theorem dX8_bring_63 : decode cX8_bring 63 = .ok (.aload_n 0, 1) := by decide +kernel
theorem dX8_bring_64 : decode cX8_bring 64 = .ok (.getfield 60, 3) := by decide +kernel
theorem dX8_bring_67 : decode cX8_bring 67 = .ok (.iconst 1, 1) := by decide +kernel
theorem dX8_bring_68 : decode cX8_bring 68 = .ok (.putfield 228, 3) := by decide +kernel
theorem dX8_bring_71 : decode cX8_bring 71 = .ok (.aload_n 0, 1) := by decide +kernel
theorem dX8_bring_72 : decode cX8_bring 72 = .ok (.dup, 1) := by decide +kernel
theorem dX8_bring_73 : decode cX8_bring 73 = .ok (.getfield 41, 3) := by decide +kernel
theorem dX8_bring_76 : decode cX8_bring 76 = .ok (.aload_n 0, 1) := by decide +kernel
theorem dX8_bring_77 : decode cX8_bring 77 = .ok (.getfield 57, 3) := by decide +kernel
theorem dX8_bring_80 : decode cX8_bring 80 = .ok (.iconst 1, 1) := by decide +kernel
theorem dX8_bring_81 : decode cX8_bring 81 = .ok (.iadd, 1) := by decide +kernel
theorem dX8_bring_82 : decode cX8_bring 82 = .ok (.iadd, 1) := by decide +kernel
theorem dX8_bring_83 : decode cX8_bring 83 = .ok (.putfield 41, 3) := by decide +kernel
theorem dX8_bring_86 : decode cX8_bring 86 = .ok (.aload_n 1, 1) := by decide +kernel
theorem dX8_bring_87 : decode cX8_bring 87 = .ok (.getfield 173, 3) := by decide +kernel
theorem dX8_bring_90 : decode cX8_bring 90 = .ok (.iconst 2, 1) := by decide +kernel
theorem dX8_bring_91 : decode cX8_bring 91 = .ok (.if_icmp .ne 10, 3) := by decide +kernel
theorem dX8_bring_94 : decode cX8_bring 94 = .ok (.aload_n 1, 1) := by decide +kernel
theorem dX8_bring_95 : decode cX8_bring 95 = .ok (.getfield 183, 3) := by decide +kernel
theorem dX8_bring_98 : decode cX8_bring 98 = .ok (.goto 4, 3) := by decide +kernel
theorem dX8_bring_101 : decode cX8_bring 101 = .ok (.aconst_null, 1) := by decide +kernel
theorem dX8_bring_102 : decode cX8_bring 102 = .ok (.astore 4, 2) := by decide +kernel
theorem dX8_bring_104 : decode cX8_bring 104 = .ok (.aload_n 0, 1) := by decide +kernel
theorem dX8_bring_105 : decode cX8_bring 105 = .ok (.getfield 15, 3) := by decide +kernel
theorem dX8_bring_108 : decode cX8_bring 108 = .ok (.aload_n 3, 1) := by decide +kernel
theorem dX8_bring_109 : decode cX8_bring 109 = .ok (.aload_n 1, 1) := by decide +kernel
theorem dX8_bring_110 : decode cX8_bring 110 = .ok (.getfield 97, 3) := by decide +kernel
theorem dX8_bring_113 : decode cX8_bring 113 = .ok (.iload_n 2, 1) := by decide +kernel
theorem dX8_bring_114 : decode cX8_bring 114 = .ok (.invokevirtual 112, 3) := by decide +kernel
theorem dX8_bring_117 : decode cX8_bring 117 = .ok (.aload_n 0, 1) := by decide +kernel
theorem dX8_bring_118 : decode cX8_bring 118 = .ok (.aload_n 1, 1) := by decide +kernel
theorem dX8_bring_119 : decode cX8_bring 119 = .ok (.invokevirtual 231, 3) := by decide +kernel
theorem dX8_bring_122 : decode cX8_bring 122 = .ok (.aload 4, 2) := by decide +kernel
theorem dX8_bring_124 : decode cX8_bring 124 = .ok (.aload_n 0, 1) := by decide +kernel
theorem dX8_bring_125 : decode cX8_bring 125 = .ok (.getfield 70, 3) := by decide +kernel
theorem dX8_bring_128 : decode cX8_bring 128 = .ok (.invokevirtual 224, 3) := by decide +kernel
theorem dX8_bring_131 : decode cX8_bring 131 = .ok (.areturn, 1) := by decide +kernel
theorem dX8_bodyFor_0 : decode cX8_bodyFor 0 = .ok (.aload_n 1, 1) := by decide +kernel
theorem dX8_bodyFor_1 : decode cX8_bodyFor 1 = .ok (.getfield 173, 3) := by decide +kernel
theorem dX8_bodyFor_4 : decode cX8_bodyFor 4 = .ok (.iconst 1, 1) := by decide +kernel
theorem dX8_bodyFor_5 : decode cX8_bodyFor 5 = .ok (.if_icmp .eq 8, 3) := by decide +kernel
theorem dX8_bodyFor_8 : decode cX8_bodyFor 8 = .ok (.aload_n 0, 1) := by decide +kernel
theorem dX8_bodyFor_9 : decode cX8_bodyFor 9 = .ok (.getfield 66, 3) := by decide +kernel
theorem dX8_bodyFor_12 : decode cX8_bodyFor 12 = .ok (.areturn, 1) := by decide +kernel
theorem dX8_bodyFor_13 : decode cX8_bodyFor 13 = .ok (.aload_n 0, 1) := by decide +kernel
theorem dX8_bodyFor_14 : decode cX8_bodyFor 14 = .ok (.dup, 1) := by decide +kernel
theorem dX8_bodyFor_15 : decode cX8_bodyFor 15 = .ok (.getfield 45, 3) := by decide +kernel
theorem dX8_bodyFor_18 : decode cX8_bodyFor 18 = .ok (.aload_n 1, 1) := by decide +kernel
theorem dX8_bodyFor_19 : decode cX8_bodyFor 19 = .ok (.getfield 202, 3) := by decide +kernel
theorem dX8_bodyFor_22 : decode cX8_bodyFor 22 = .ok (.ladd, 1) := by decide +kernel
theorem dX8_bodyFor_23 : decode cX8_bodyFor 23 = .ok (.putfield 45, 3) := by decide +kernel
theorem dX8_bodyFor_26 : decode cX8_bodyFor 26 = .ok (.aload_n 0, 1) := by decide +kernel
theorem dX8_bodyFor_27 : decode cX8_bodyFor 27 = .ok (.getfield 15, 3) := by decide +kernel
theorem dX8_bodyFor_30 : decode cX8_bodyFor 30 = .ok (.aload_n 1, 1) := by decide +kernel
theorem dX8_bodyFor_31 : decode cX8_bodyFor 31 = .ok (.getfield 202, 3) := by decide +kernel
theorem dX8_bodyFor_34 : decode cX8_bodyFor 34 = .ok (.aload_n 1, 1) := by decide +kernel
theorem dX8_bodyFor_35 : decode cX8_bodyFor 35 = .ok (.getfield 211, 3) := by decide +kernel
theorem dX8_bodyFor_38 : decode cX8_bodyFor 38 = .ok (.invokevirtual 235, 3) := by decide +kernel
theorem dX8_bodyFor_41 : decode cX8_bodyFor 41 = .ok (.areturn, 1) := by decide +kernel
theorem dX9_init_0 : decode cX9_init 0 = .ok (.aload_n 0, 1) := by decide +kernel
theorem dX9_init_1 : decode cX9_init 1 = .ok (.invokespecial 1, 3) := by decide +kernel
theorem dX9_init_4 : decode cX9_init 4 = .ok (.aload_n 0, 1) := by decide +kernel
theorem dX9_init_5 : decode cX9_init 5 = .ok (.aload_n 1, 1) := by decide +kernel
theorem dX9_init_6 : decode cX9_init 6 = .ok (.putfield 7, 3) := by decide +kernel
theorem dX9_init_9 : decode cX9_init 9 = .ok (.aload_n 0, 1) := by decide +kernel
theorem dX9_init_10 : decode cX9_init 10 = .ok (.new 13, 3) := by decide +kernel
theorem dX9_init_13 : decode cX9_init 13 = .ok (.dup, 1) := by decide +kernel
theorem dX9_init_14 : decode cX9_init 14 = .ok (.invokespecial 15, 3) := by decide +kernel
theorem dX9_init_17 : decode cX9_init 17 = .ok (.putfield 16, 3) := by decide +kernel
theorem dX9_init_20 : decode cX9_init 20 = .ok (.aload_n 0, 1) := by decide +kernel
theorem dX9_init_21 : decode cX9_init 21 = .ok (.new 13, 3) := by decide +kernel
theorem dX9_init_24 : decode cX9_init 24 = .ok (.dup, 1) := by decide +kernel
theorem dX9_init_25 : decode cX9_init 25 = .ok (.invokespecial 15, 3) := by decide +kernel
theorem dX9_init_28 : decode cX9_init 28 = .ok (.putfield 20, 3) := by decide +kernel
theorem dX9_init_31 : decode cX9_init 31 = .ok (.new 23, 3) := by decide +kernel
theorem dX9_init_34 : decode cX9_init 34 = .ok (.dup, 1) := by decide +kernel
theorem dX9_init_35 : decode cX9_init 35 = .ok (.iconst 0, 1) := by decide +kernel
theorem dX9_init_36 : decode cX9_init 36 = .ok (.ldc2_w 25, 3) := by decide +kernel
theorem dX9_init_39 : decode cX9_init 39 = .ok (.bipush 42, 2) := by decide +kernel
theorem dX9_init_41 : decode cX9_init 41 = .ok (.invokespecial 27, 3) := by decide +kernel
theorem dX9_init_44 : decode cX9_init 44 = .ok (.astore_n 2, 1) := by decide +kernel
theorem dX9_init_45 : decode cX9_init 45 = .ok (.aload_n 0, 1) := by decide +kernel
theorem dX9_init_46 : decode cX9_init 46 = .ok (.new 30, 3) := by decide +kernel
theorem dX9_init_49 : decode cX9_init 49 = .ok (.dup, 1) := by decide +kernel
theorem dX9_init_50 : decode cX9_init 50 = .ok (.iconst 0, 1) := by decide +kernel
theorem dX9_init_51 : decode cX9_init 51 = .ok (.aconst_null, 1) := by decide +kernel
theorem dX9_init_52 : decode cX9_init 52 = .ok (.new 32, 3) := by decide +kernel
theorem dX9_init_55 : decode cX9_init 55 = .ok (.dup, 1) := by decide +kernel
theorem dX9_init_56 : decode cX9_init 56 = .ok (.getstatic 34, 3) := by decide +kernel
theorem dX9_init_59 : decode cX9_init 59 = .ok (.iconst 0, 1) := by decide +kernel
theorem dX9_init_60 : decode cX9_init 60 = .ok (.iconst 0, 1) := by decide +kernel
theorem dX9_init_61 : decode cX9_init 61 = .ok (.invokespecial 40, 3) := by decide +kernel
theorem dX9_init_64 : decode cX9_init 64 = .ok (.aconst_null, 1) := by decide +kernel
theorem dX9_init_65 : decode cX9_init 65 = .ok (.aconst_null, 1) := by decide +kernel
theorem dX9_init_66 : decode cX9_init 66 = .ok (.iconst 0, 1) := by decide +kernel
theorem dX9_init_67 : decode cX9_init 67 = .ok (.invokespecial 43, 3) := by decide +kernel
theorem dX9_init_70 : decode cX9_init 70 = .ok (.putfield 46, 3) := by decide +kernel
theorem dX9_init_73 : decode cX9_init 73 = .ok (.aload_n 0, 1) := by decide +kernel
theorem dX9_init_74 : decode cX9_init 74 = .ok (.new 30, 3) := by decide +kernel
theorem dX9_init_77 : decode cX9_init 77 = .ok (.dup, 1) := by decide +kernel
theorem dX9_init_78 : decode cX9_init 78 = .ok (.iconst 1, 1) := by decide +kernel
theorem dX9_init_79 : decode cX9_init 79 = .ok (.aload_n 0, 1) := by decide +kernel
theorem dX9_init_80 : decode cX9_init 80 = .ok (.getfield 46, 3) := by decide +kernel
theorem dX9_init_83 : decode cX9_init 83 = .ok (.new 32, 3) := by decide +kernel
theorem dX9_init_86 : decode cX9_init 86 = .ok (.dup, 1) := by decide +kernel
theorem dX9_init_87 : decode cX9_init 87 = .ok (.getstatic 50, 3) := by decide +kernel
theorem dX9_init_90 : decode cX9_init 90 = .ok (.iconst 0, 1) := by decide +kernel
theorem dX9_init_91 : decode cX9_init 91 = .ok (.getstatic 50, 3) := by decide +kernel
theorem dX9_init_94 : decode cX9_init 94 = .ok (.arraylength, 1) := by decide +kernel
theorem dX9_init_95 : decode cX9_init 95 = .ok (.invokespecial 40, 3) := by decide +kernel
theorem dX9_init_98 : decode cX9_init 98 = .ok (.aconst_null, 1) := by decide +kernel
theorem dX9_init_99 : decode cX9_init 99 = .ok (.aconst_null, 1) := by decide +kernel
theorem dX9_init_100 : decode cX9_init 100 = .ok (.iconst 0, 1) := by decide +kernel
theorem dX9_init_101 : decode cX9_init 101 = .ok (.invokespecial 43, 3) := by decide +kernel
theorem dX9_init_104 : decode cX9_init 104 = .ok (.putfield 53, 3) := by decide +kernel
theorem dX9_init_107 : decode cX9_init 107 = .ok (.aload_n 0, 1) := by decide +kernel
theorem dX9_init_108 : decode cX9_init 108 = .ok (.new 30, 3) := by decide +kernel
theorem dX9_init_111 : decode cX9_init 111 = .ok (.dup, 1) := by decide +kernel
theorem dX9_init_112 : decode cX9_init 112 = .ok (.iconst 2, 1) := by decide +kernel
theorem dX9_init_113 : decode cX9_init 113 = .ok (.aload_n 0, 1) := by decide +kernel
theorem dX9_init_114 : decode cX9_init 114 = .ok (.getfield 46, 3) := by decide +kernel
theorem dX9_init_117 : decode cX9_init 117 = .ok (.new 32, 3) := by decide +kernel
theorem dX9_init_120 : decode cX9_init 120 = .ok (.dup, 1) := by decide +kernel
theorem dX9_init_121 : decode cX9_init 121 = .ok (.getstatic 56, 3) := by decide +kernel
theorem dX9_init_124 : decode cX9_init 124 = .ok (.iconst 0, 1) := by decide +kernel
theorem dX9_init_125 : decode cX9_init 125 = .ok (.getstatic 56, 3) := by decide +kernel
theorem dX9_init_128 : decode cX9_init 128 = .ok (.arraylength, 1) := by decide +kernel
theorem dX9_init_129 : decode cX9_init 129 = .ok (.invokespecial 40, 3) := by decide +kernel
theorem dX9_init_132 : decode cX9_init 132 = .ok (.aconst_null, 1) := by decide +kernel
theorem dX9_init_133 : decode cX9_init 133 = .ok (.aconst_null, 1) := by decide +kernel
theorem dX9_init_134 : decode cX9_init 134 = .ok (.iconst 0, 1) := by decide +kernel
theorem dX9_init_135 : decode cX9_init 135 = .ok (.invokespecial 43, 3) := by decide +kernel
theorem dX9_init_138 : decode cX9_init 138 = .ok (.putfield 59, 3) := by decide +kernel
theorem dX9_init_141 : decode cX9_init 141 = .ok (.aload_n 0, 1) := by decide +kernel
theorem dX9_init_142 : decode cX9_init 142 = .ok (.new 30, 3) := by decide +kernel
theorem dX9_init_145 : decode cX9_init 145 = .ok (.dup, 1) := by decide +kernel
theorem dX9_init_146 : decode cX9_init 146 = .ok (.iconst 3, 1) := by decide +kernel
theorem dX9_init_147 : decode cX9_init 147 = .ok (.aload_n 0, 1) := by decide +kernel
theorem dX9_init_148 : decode cX9_init 148 = .ok (.getfield 59, 3) := by decide +kernel
theorem dX9_init_151 : decode cX9_init 151 = .ok (.new 32, 3) := by decide +kernel
theorem dX9_init_154 : decode cX9_init 154 = .ok (.dup, 1) := by decide +kernel
theorem dX9_init_155 : decode cX9_init 155 = .ok (.getstatic 62, 3) := by decide +kernel
theorem dX9_init_158 : decode cX9_init 158 = .ok (.iconst 0, 1) := by decide +kernel
theorem dX9_init_159 : decode cX9_init 159 = .ok (.getstatic 62, 3) := by decide +kernel
theorem dX9_init_162 : decode cX9_init 162 = .ok (.arraylength, 1) := by decide +kernel
theorem dX9_init_163 : decode cX9_init 163 = .ok (.invokespecial 40, 3) := by decide +kernel
theorem dX9_init_166 : decode cX9_init 166 = .ok (.aload_n 2, 1) := by decide +kernel
theorem dX9_init_167 : decode cX9_init 167 = .ok (.aconst_null, 1) := by decide +kernel
theorem dX9_init_168 : decode cX9_init 168 = .ok (.iconst 0, 1) := by decide +kernel
theorem dX9_init_169 : decode cX9_init 169 = .ok (.invokespecial 43, 3) := by decide +kernel
theorem dX9_init_172 : decode cX9_init 172 = .ok (.putfield 65, 3) := by decide +kernel
theorem dX9_init_175 : decode cX9_init 175 = .ok (.aload_n 0, 1) := by decide +kernel
theorem dX9_init_176 : decode cX9_init 176 = .ok (.getfield 20, 3) := by decide +kernel
theorem dX9_init_179 : decode cX9_init 179 = .ok (.aload_n 2, 1) := by decide +kernel
theorem dX9_init_180 : decode cX9_init 180 = .ok (.invokevirtual 68, 3) := by decide +kernel
theorem dX9_init_183 : decode cX9_init 183 = .ok (.pop, 1) := by decide +kernel
theorem dX9_init_184 : decode cX9_init 184 = .ok (.aload_n 0, 1) := by decide +kernel
theorem dX9_init_185 : decode cX9_init 185 = .ok (.getfield 16, 3) := by decide +kernel
theorem dX9_init_188 : decode cX9_init 188 = .ok (.aload_n 0, 1) := by decide +kernel
theorem dX9_init_189 : decode cX9_init 189 = .ok (.getfield 46, 3) := by decide +kernel
theorem dX9_init_192 : decode cX9_init 192 = .ok (.invokevirtual 68, 3) := by decide +kernel
theorem dX9_init_195 : decode cX9_init 195 = .ok (.pop, 1) := by decide +kernel
theorem dX9_init_196 : decode cX9_init 196 = .ok (.aload_n 0, 1) := by decide +kernel
theorem dX9_init_197 : decode cX9_init 197 = .ok (.getfield 16, 3) := by decide +kernel
theorem dX9_init_200 : decode cX9_init 200 = .ok (.aload_n 0, 1) := by decide +kernel
theorem dX9_init_201 : decode cX9_init 201 = .ok (.getfield 53, 3) := by decide +kernel
theorem dX9_init_204 : decode cX9_init 204 = .ok (.invokevirtual 68, 3) := by decide +kernel
theorem dX9_init_207 : decode cX9_init 207 = .ok (.pop, 1) := by decide +kernel
theorem dX9_init_208 : decode cX9_init 208 = .ok (.aload_n 0, 1) := by decide +kernel
theorem dX9_init_209 : decode cX9_init 209 = .ok (.getfield 16, 3) := by decide +kernel
theorem dX9_init_212 : decode cX9_init 212 = .ok (.aload_n 0, 1) := by decide +kernel
theorem dX9_init_213 : decode cX9_init 213 = .ok (.getfield 59, 3) := by decide +kernel
theorem dX9_init_216 : decode cX9_init 216 = .ok (.invokevirtual 68, 3) := by decide +kernel
theorem dX9_init_219 : decode cX9_init 219 = .ok (.pop, 1) := by decide +kernel
theorem dX9_init_220 : decode cX9_init 220 = .ok (.aload_n 0, 1) := by decide +kernel
theorem dX9_init_221 : decode cX9_init 221 = .ok (.getfield 16, 3) := by decide +kernel
theorem dX9_init_224 : decode cX9_init 224 = .ok (.aload_n 0, 1) := by decide +kernel
theorem dX9_init_225 : decode cX9_init 225 = .ok (.getfield 65, 3) := by decide +kernel
theorem dX9_init_228 : decode cX9_init 228 = .ok (.invokevirtual 68, 3) := by decide +kernel
theorem dX9_init_231 : decode cX9_init 231 = .ok (.pop, 1) := by decide +kernel
theorem dX9_init_232 : decode cX9_init 232 = .ok (.return_, 1) := by decide +kernel
theorem dX9_nodeCount_0 : decode cX9_nodeCount 0 = .ok (.aload_n 0, 1) := by decide +kernel
theorem dX9_nodeCount_1 : decode cX9_nodeCount 1 = .ok (.getfield 16, 3) := by decide +kernel
theorem dX9_nodeCount_4 : decode cX9_nodeCount 4 = .ok (.invokevirtual 72, 3) := by decide +kernel
theorem dX9_nodeCount_7 : decode cX9_nodeCount 7 = .ok (.ireturn, 1) := by decide +kernel
theorem dX9_bodyCount_0 : decode cX9_bodyCount 0 = .ok (.aload_n 0, 1) := by decide +kernel
theorem dX9_bodyCount_1 : decode cX9_bodyCount 1 = .ok (.getfield 20, 3) := by decide +kernel
theorem dX9_bodyCount_4 : decode cX9_bodyCount 4 = .ok (.invokevirtual 72, 3) := by decide +kernel
theorem dX9_bodyCount_7 : decode cX9_bodyCount 7 = .ok (.ireturn, 1) := by decide +kernel
theorem dX9_at_0 : decode cX9_at 0 = .ok (.iload_n 1, 1) := by decide +kernel
theorem dX9_at_1 : decode cX9_at 1 = .ok (.ifCond .lt 28, 3) := by decide +kernel
theorem dX9_at_4 : decode cX9_at 4 = .ok (.iload_n 1, 1) := by decide +kernel
theorem dX9_at_5 : decode cX9_at 5 = .ok (.aload_n 0, 1) := by decide +kernel
theorem dX9_at_6 : decode cX9_at 6 = .ok (.getfield 16, 3) := by decide +kernel
theorem dX9_at_9 : decode cX9_at 9 = .ok (.invokevirtual 72, 3) := by decide +kernel
theorem dX9_at_12 : decode cX9_at 12 = .ok (.if_icmp .ge 17, 3) := by decide +kernel
theorem dX9_at_15 : decode cX9_at 15 = .ok (.aload_n 0, 1) := by decide +kernel
theorem dX9_at_16 : decode cX9_at 16 = .ok (.getfield 16, 3) := by decide +kernel
theorem dX9_at_19 : decode cX9_at 19 = .ok (.iload_n 1, 1) := by decide +kernel
theorem dX9_at_20 : decode cX9_at 20 = .ok (.invokevirtual 76, 3) := by decide +kernel
theorem dX9_at_23 : decode cX9_at 23 = .ok (.checkcast 30, 3) := by decide +kernel
theorem dX9_at_26 : decode cX9_at 26 = .ok (.goto 4, 3) := by decide +kernel
theorem dX9_at_29 : decode cX9_at 29 = .ok (.aconst_null, 1) := by decide +kernel
theorem dX9_at_30 : decode cX9_at 30 = .ok (.areturn, 1) := by decide +kernel
theorem dX9_bodyAt_0 : decode cX9_bodyAt 0 = .ok (.iload_n 1, 1) := by decide +kernel
theorem dX9_bodyAt_1 : decode cX9_bodyAt 1 = .ok (.ifCond .lt 28, 3) := by decide +kernel
theorem dX9_bodyAt_4 : decode cX9_bodyAt 4 = .ok (.iload_n 1, 1) := by decide +kernel
theorem dX9_bodyAt_5 : decode cX9_bodyAt 5 = .ok (.aload_n 0, 1) := by decide +kernel
theorem dX9_bodyAt_6 : decode cX9_bodyAt 6 = .ok (.getfield 20, 3) := by decide +kernel
theorem dX9_bodyAt_9 : decode cX9_bodyAt 9 = .ok (.invokevirtual 72, 3) := by decide +kernel
theorem dX9_bodyAt_12 : decode cX9_bodyAt 12 = .ok (.if_icmp .ge 17, 3) := by decide +kernel
theorem dX9_bodyAt_15 : decode cX9_bodyAt 15 = .ok (.aload_n 0, 1) := by decide +kernel
theorem dX9_bodyAt_16 : decode cX9_bodyAt 16 = .ok (.getfield 20, 3) := by decide +kernel
theorem dX9_bodyAt_19 : decode cX9_bodyAt 19 = .ok (.iload_n 1, 1) := by decide +kernel
theorem dX9_bodyAt_20 : decode cX9_bodyAt 20 = .ok (.invokevirtual 76, 3) := by decide +kernel
theorem dX9_bodyAt_23 : decode cX9_bodyAt 23 = .ok (.checkcast 23, 3) := by decide +kernel
theorem dX9_bodyAt_26 : decode cX9_bodyAt 26 = .ok (.goto 4, 3) := by decide +kernel
theorem dX9_bodyAt_29 : decode cX9_bodyAt 29 = .ok (.aconst_null, 1) := by decide +kernel
theorem dX9_bodyAt_30 : decode cX9_bodyAt 30 = .ok (.areturn, 1) := by decide +kernel
theorem dX9_addNode_0 : decode cX9_addNode 0 = .ok (.new 30, 3) := by decide +kernel
theorem dX9_addNode_3 : decode cX9_addNode 3 = .ok (.dup, 1) := by decide +kernel
theorem dX9_addNode_4 : decode cX9_addNode 4 = .ok (.aload_n 0, 1) := by decide +kernel
theorem dX9_addNode_5 : decode cX9_addNode 5 = .ok (.getfield 16, 3) := by decide +kernel
theorem dX9_addNode_8 : decode cX9_addNode 8 = .ok (.invokevirtual 72, 3) := by decide +kernel
theorem dX9_addNode_11 : decode cX9_addNode 11 = .ok (.aload_n 1, 1) := by decide +kernel
theorem dX9_addNode_12 : decode cX9_addNode 12 = .ok (.aload_n 2, 1) := by decide +kernel
theorem dX9_addNode_13 : decode cX9_addNode 13 = .ok (.aload_n 3, 1) := by decide +kernel
theorem dX9_addNode_14 : decode cX9_addNode 14 = .ok (.aload 4, 2) := by decide +kernel
theorem dX9_addNode_16 : decode cX9_addNode 16 = .ok (.iload 5, 2) := by decide +kernel
theorem dX9_addNode_18 : decode cX9_addNode 18 = .ok (.invokespecial 43, 3) := by decide +kernel
theorem dX9_addNode_21 : decode cX9_addNode 21 = .ok (.astore 6, 2) := by decide +kernel
theorem dX9_addNode_23 : decode cX9_addNode 23 = .ok (.aload_n 0, 1) := by decide +kernel
theorem dX9_addNode_24 : decode cX9_addNode 24 = .ok (.getfield 16, 3) := by decide +kernel
theorem dX9_addNode_27 : decode cX9_addNode 27 = .ok (.aload 6, 2) := by decide +kernel
theorem dX9_addNode_29 : decode cX9_addNode 29 = .ok (.invokevirtual 68, 3) := by decide +kernel
theorem dX9_addNode_32 : decode cX9_addNode 32 = .ok (.pop, 1) := by decide +kernel
theorem dX9_addNode_33 : decode cX9_addNode 33 = .ok (.aload 6, 2) := by decide +kernel
theorem dX9_addNode_35 : decode cX9_addNode 35 = .ok (.areturn, 1) := by decide +kernel
theorem dX9_addBody_0 : decode cX9_addBody 0 = .ok (.new 23, 3) := by decide +kernel
theorem dX9_addBody_3 : decode cX9_addBody 3 = .ok (.dup, 1) := by decide +kernel
theorem dX9_addBody_4 : decode cX9_addBody 4 = .ok (.aload_n 0, 1) := by decide +kernel
theorem dX9_addBody_5 : decode cX9_addBody 5 = .ok (.getfield 20, 3) := by decide +kernel
theorem dX9_addBody_8 : decode cX9_addBody 8 = .ok (.invokevirtual 72, 3) := by decide +kernel
theorem dX9_addBody_11 : decode cX9_addBody 11 = .ok (.lload_n 1, 1) := by decide +kernel
theorem dX9_addBody_12 : decode cX9_addBody 12 = .ok (.iload_n 3, 1) := by decide +kernel
theorem dX9_addBody_13 : decode cX9_addBody 13 = .ok (.invokespecial 27, 3) := by decide +kernel
theorem dX9_addBody_16 : decode cX9_addBody 16 = .ok (.astore 4, 2) := by decide +kernel
theorem dX9_addBody_18 : decode cX9_addBody 18 = .ok (.aload_n 0, 1) := by decide +kernel
theorem dX9_addBody_19 : decode cX9_addBody 19 = .ok (.getfield 20, 3) := by decide +kernel
theorem dX9_addBody_22 : decode cX9_addBody 22 = .ok (.aload 4, 2) := by decide +kernel
theorem dX9_addBody_24 : decode cX9_addBody 24 = .ok (.invokevirtual 68, 3) := by decide +kernel
theorem dX9_addBody_27 : decode cX9_addBody 27 = .ok (.pop, 1) := by decide +kernel
theorem dX9_addBody_28 : decode cX9_addBody 28 = .ok (.aload 4, 2) := by decide +kernel
theorem dX9_addBody_30 : decode cX9_addBody 30 = .ok (.areturn, 1) := by decide +kernel
theorem dX9_childOf_0 : decode cX9_childOf 0 = .ok (.aconst_null, 1) := by decide +kernel
theorem dX9_childOf_1 : decode cX9_childOf 1 = .ok (.astore_n 3, 1) := by decide +kernel
theorem dX9_childOf_2 : decode cX9_childOf 2 = .ok (.iconst 0, 1) := by decide +kernel
theorem dX9_childOf_3 : decode cX9_childOf 3 = .ok (.istore 4, 2) := by decide +kernel
theorem dX9_childOf_5 : decode cX9_childOf 5 = .ok (.iload 4, 2) := by decide +kernel
theorem dX9_childOf_7 : decode cX9_childOf 7 = .ok (.aload_n 0, 1) := by decide +kernel
theorem dX9_childOf_8 : decode cX9_childOf 8 = .ok (.getfield 16, 3) := by decide +kernel
theorem dX9_childOf_11 : decode cX9_childOf 11 = .ok (.invokevirtual 72, 3) := by decide +kernel
theorem dX9_childOf_14 : decode cX9_childOf 14 = .ok (.if_icmp .ge 87, 3) := by decide +kernel
theorem dX9_childOf_17 : decode cX9_childOf 17 = .ok (.aload_n 0, 1) := by decide +kernel
theorem dX9_childOf_18 : decode cX9_childOf 18 = .ok (.getfield 16, 3) := by decide +kernel
theorem dX9_childOf_21 : decode cX9_childOf 21 = .ok (.iload 4, 2) := by decide +kernel
theorem dX9_childOf_23 : decode cX9_childOf 23 = .ok (.invokevirtual 76, 3) := by decide +kernel
theorem dX9_childOf_26 : decode cX9_childOf 26 = .ok (.checkcast 30, 3) := by decide +kernel
theorem dX9_childOf_29 : decode cX9_childOf 29 = .ok (.astore 5, 2) := by decide +kernel
theorem dX9_childOf_31 : decode cX9_childOf 31 = .ok (.aload 5, 2) := by decide +kernel
theorem dX9_childOf_33 : decode cX9_childOf 33 = .ok (.getfield 80, 3) := by decide +kernel
theorem dX9_childOf_36 : decode cX9_childOf 36 = .ok (.ifCond .ne 59, 3) := by decide +kernel
theorem dX9_childOf_39 : decode cX9_childOf 39 = .ok (.aload 5, 2) := by decide +kernel
theorem dX9_childOf_41 : decode cX9_childOf 41 = .ok (.invokevirtual 84, 3) := by decide +kernel
theorem dX9_childOf_44 : decode cX9_childOf 44 = .ok (.aload_n 1, 1) := by decide +kernel
theorem dX9_childOf_45 : decode cX9_childOf 45 = .ok (.if_acmp .eq 6, 3) := by decide +kernel
theorem dX9_childOf_48 : decode cX9_childOf 48 = .ok (.goto 47, 3) := by decide +kernel
theorem dX9_childOf_51 : decode cX9_childOf 51 = .ok (.aload 5, 2) := by decide +kernel
theorem dX9_childOf_53 : decode cX9_childOf 53 = .ok (.getfield 88, 3) := by decide +kernel
theorem dX9_childOf_56 : decode cX9_childOf 56 = .ok (.aload_n 2, 1) := by decide +kernel
theorem dX9_childOf_57 : decode cX9_childOf 57 = .ok (.invokevirtual 92, 3) := by decide +kernel
theorem dX9_childOf_60 : decode cX9_childOf 60 = .ok (.ifCond .eq 6, 3) := by decide +kernel
theorem dX9_childOf_63 : decode cX9_childOf 63 = .ok (.aload 5, 2) := by decide +kernel
theorem dX9_childOf_65 : decode cX9_childOf 65 = .ok (.areturn, 1) := by decide +kernel
theorem dX9_childOf_66 : decode cX9_childOf 66 = .ok (.aload_n 3, 1) := by decide +kernel
theorem dX9_childOf_67 : decode cX9_childOf 67 = .ok (.ifnonnull 28, 3) := by decide +kernel
theorem dX9_childOf_70 : decode cX9_childOf 70 = .ok (.aload_n 0, 1) := by decide +kernel
theorem dX9_childOf_71 : decode cX9_childOf 71 = .ok (.getfield 7, 3) := by decide +kernel
theorem dX9_childOf_74 : decode cX9_childOf 74 = .ok (.getfield 96, 3) := by decide +kernel
theorem dX9_childOf_77 : decode cX9_childOf 77 = .ok (.ifCond .eq 18, 3) := by decide +kernel
theorem dX9_childOf_80 : decode cX9_childOf 80 = .ok (.aload 5, 2) := by decide +kernel
theorem dX9_childOf_82 : decode cX9_childOf 82 = .ok (.getfield 88, 3) := by decide +kernel
theorem dX9_childOf_85 : decode cX9_childOf 85 = .ok (.aload_n 2, 1) := by decide +kernel
theorem dX9_childOf_86 : decode cX9_childOf 86 = .ok (.invokevirtual 101, 3) := by decide +kernel
theorem dX9_childOf_89 : decode cX9_childOf 89 = .ok (.ifCond .eq 6, 3) := by decide +kernel
theorem dX9_childOf_92 : decode cX9_childOf 92 = .ok (.aload 5, 2) := by decide +kernel
theorem dX9_childOf_94 : decode cX9_childOf 94 = .ok (.astore_n 3, 1) := by decide +kernel
theorem dX9_childOf_95 : decode cX9_childOf 95 = .ok (.iinc 4 1, 3) := by decide +kernel
theorem dX9_childOf_98 : decode cX9_childOf 98 = .ok (.goto (-93), 3) := by decide +kernel
theorem dX9_childOf_101 : decode cX9_childOf 101 = .ok (.aload_n 3, 1) := by decide +kernel
theorem dX9_childOf_102 : decode cX9_childOf 102 = .ok (.areturn, 1) := by decide +kernel
theorem dX9_reach_0 : decode cX9_reach 0 = .ok (.aload_n 0, 1) := by decide +kernel
theorem dX9_reach_1 : decode cX9_reach 1 = .ok (.getfield 53, 3) := by decide +kernel
theorem dX9_reach_4 : decode cX9_reach 4 = .ok (.astore_n 3, 1) := by decide +kernel
theorem dX9_reach_5 : decode cX9_reach 5 = .ok (.iconst 0, 1) := by decide +kernel
theorem dX9_reach_6 : decode cX9_reach 6 = .ok (.istore 4, 2) := by decide +kernel
theorem dX9_reach_8 : decode cX9_reach 8 = .ok (.iload 4, 2) := by decide +kernel
theorem dX9_reach_10 : decode cX9_reach 10 = .ok (.aload_n 1, 1) := by decide +kernel
theorem dX9_reach_11 : decode cX9_reach 11 = .ok (.invokevirtual 104, 3) := by decide +kernel
theorem dX9_reach_14 : decode cX9_reach 14 = .ok (.if_icmp .ge 62, 3) := by decide +kernel
theorem dX9_reach_17 : decode cX9_reach 17 = .ok (.aload_n 3, 1) := by decide +kernel
theorem dX9_reach_18 : decode cX9_reach 18 = .ok (.invokevirtual 109, 3) := by decide +kernel
theorem dX9_reach_21 : decode cX9_reach 21 = .ok (.ifCond .ne 5, 3) := by decide +kernel
theorem dX9_reach_24 : decode cX9_reach 24 = .ok (.aconst_null, 1) := by decide +kernel
theorem dX9_reach_25 : decode cX9_reach 25 = .ok (.areturn, 1) := by decide +kernel
theorem dX9_reach_26 : decode cX9_reach 26 = .ok (.aload_n 0, 1) := by decide +kernel
theorem dX9_reach_27 : decode cX9_reach 27 = .ok (.aload_n 3, 1) := by decide +kernel
theorem dX9_reach_28 : decode cX9_reach 28 = .ok (.aload_n 1, 1) := by decide +kernel
theorem dX9_reach_29 : decode cX9_reach 29 = .ok (.iload 4, 2) := by decide +kernel
theorem dX9_reach_31 : decode cX9_reach 31 = .ok (.invokevirtual 113, 3) := by decide +kernel
theorem dX9_reach_34 : decode cX9_reach 34 = .ok (.invokevirtual 117, 3) := by decide +kernel
theorem dX9_reach_37 : decode cX9_reach 37 = .ok (.astore 5, 2) := by decide +kernel
theorem dX9_reach_39 : decode cX9_reach 39 = .ok (.aload 5, 2) := by decide +kernel
theorem dX9_reach_41 : decode cX9_reach 41 = .ok (.ifnull 24, 3) := by decide +kernel
theorem dX9_reach_44 : decode cX9_reach 44 = .ok (.iload_n 2, 1) := by decide +kernel
theorem dX9_reach_45 : decode cX9_reach 45 = .ok (.ifCond .eq 22, 3) := by decide +kernel
theorem dX9_reach_48 : decode cX9_reach 48 = .ok (.aload 5, 2) := by decide +kernel
theorem dX9_reach_50 : decode cX9_reach 50 = .ok (.getfield 88, 3) := by decide +kernel
theorem dX9_reach_53 : decode cX9_reach 53 = .ok (.aload_n 1, 1) := by decide +kernel
theorem dX9_reach_54 : decode cX9_reach 54 = .ok (.iload 4, 2) := by decide +kernel
theorem dX9_reach_56 : decode cX9_reach 56 = .ok (.invokevirtual 113, 3) := by decide +kernel
theorem dX9_reach_59 : decode cX9_reach 59 = .ok (.invokevirtual 92, 3) := by decide +kernel
theorem dX9_reach_62 : decode cX9_reach 62 = .ok (.ifCond .ne 5, 3) := by decide +kernel
theorem dX9_reach_65 : decode cX9_reach 65 = .ok (.aconst_null, 1) := by decide +kernel
theorem dX9_reach_66 : decode cX9_reach 66 = .ok (.areturn, 1) := by decide +kernel
theorem dX9_reach_67 : decode cX9_reach 67 = .ok (.aload 5, 2) := by decide +kernel
theorem dX9_reach_69 : decode cX9_reach 69 = .ok (.astore_n 3, 1) := by decide +kernel
theorem dX9_reach_70 : decode cX9_reach 70 = .ok (.iinc 4 1, 3) := by decide +kernel
theorem dX9_reach_73 : decode cX9_reach 73 = .ok (.goto (-65), 3) := by decide +kernel
theorem dX9_reach_76 : decode cX9_reach 76 = .ok (.aload_n 3, 1) := by decide +kernel
theorem dX9_reach_77 : decode cX9_reach 77 = .ok (.areturn, 1) := by decide +kernel
theorem dX9_isOutside_0 : decode cX9_isOutside 0 = .ok (.aload_n 1, 1) := by decide +kernel
theorem dX9_isOutside_1 : decode cX9_isOutside 1 = .ok (.astore_n 2, 1) := by decide +kernel
theorem dX9_isOutside_2 : decode cX9_isOutside 2 = .ok (.aload_n 2, 1) := by decide +kernel
theorem dX9_isOutside_3 : decode cX9_isOutside 3 = .ok (.ifnull 21, 3) := by decide +kernel
theorem dX9_isOutside_6 : decode cX9_isOutside 6 = .ok (.aload_n 2, 1) := by decide +kernel
theorem dX9_isOutside_7 : decode cX9_isOutside 7 = .ok (.aload_n 0, 1) := by decide +kernel
theorem dX9_isOutside_8 : decode cX9_isOutside 8 = .ok (.getfield 53, 3) := by decide +kernel
theorem dX9_isOutside_11 : decode cX9_isOutside 11 = .ok (.if_acmp .ne 5, 3) := by decide +kernel
theorem dX9_isOutside_14 : decode cX9_isOutside 14 = .ok (.iconst 0, 1) := by decide +kernel
theorem dX9_isOutside_15 : decode cX9_isOutside 15 = .ok (.ireturn, 1) := by decide +kernel
theorem dX9_isOutside_16 : decode cX9_isOutside 16 = .ok (.aload_n 2, 1) := by decide +kernel
theorem dX9_isOutside_17 : decode cX9_isOutside 17 = .ok (.getfield 121, 3) := by decide +kernel
theorem dX9_isOutside_20 : decode cX9_isOutside 20 = .ok (.astore_n 2, 1) := by decide +kernel
theorem dX9_isOutside_21 : decode cX9_isOutside 21 = .ok (.goto (-19), 3) := by decide +kernel
theorem dX9_isOutside_24 : decode cX9_isOutside 24 = .ok (.iconst 1, 1) := by decide +kernel
theorem dX9_isOutside_25 : decode cX9_isOutside 25 = .ok (.ireturn, 1) := by decide +kernel
theorem dX9_isUntouchedOutside_0 : decode cX9_isUntouchedOutside 0 = .ok (.aload_n 0, 1) := by decide +kernel
theorem dX9_isUntouchedOutside_1 : decode cX9_isUntouchedOutside 1 = .ok (.getfield 46, 3) := by decide +kernel
theorem dX9_isUntouchedOutside_4 : decode cX9_isUntouchedOutside 4 = .ok (.invokevirtual 124, 3) := by decide +kernel
theorem dX9_isUntouchedOutside_7 : decode cX9_isUntouchedOutside 7 = .ok (.ifCond .ne 38, 3) := by decide +kernel
theorem dX9_isUntouchedOutside_10 : decode cX9_isUntouchedOutside 10 = .ok (.aload_n 0, 1) := by decide +kernel
theorem dX9_isUntouchedOutside_11 : decode cX9_isUntouchedOutside 11 = .ok (.getfield 59, 3) := by decide +kernel
theorem dX9_isUntouchedOutside_14 : decode cX9_isUntouchedOutside 14 = .ok (.invokevirtual 124, 3) := by decide +kernel
theorem dX9_isUntouchedOutside_17 : decode cX9_isUntouchedOutside 17 = .ok (.ifCond .ne 28, 3) := by decide +kernel
theorem dX9_isUntouchedOutside_20 : decode cX9_isUntouchedOutside 20 = .ok (.aload_n 0, 1) := by decide +kernel
theorem dX9_isUntouchedOutside_21 : decode cX9_isUntouchedOutside 21 = .ok (.getfield 65, 3) := by decide +kernel
theorem dX9_isUntouchedOutside_24 : decode cX9_isUntouchedOutside 24 = .ok (.invokevirtual 124, 3) := by decide +kernel
theorem dX9_isUntouchedOutside_27 : decode cX9_isUntouchedOutside 27 = .ok (.iconst 2, 1) := by decide +kernel
theorem dX9_isUntouchedOutside_28 : decode cX9_isUntouchedOutside 28 = .ok (.if_icmp .ne 17, 3) := by decide +kernel
theorem dX9_isUntouchedOutside_31 : decode cX9_isUntouchedOutside 31 = .ok (.aload_n 0, 1) := by decide +kernel
theorem dX9_isUntouchedOutside_32 : decode cX9_isUntouchedOutside 32 = .ok (.getfield 53, 3) := by decide +kernel
theorem dX9_isUntouchedOutside_35 : decode cX9_isUntouchedOutside 35 = .ok (.getfield 80, 3) := by decide +kernel
theorem dX9_isUntouchedOutside_38 : decode cX9_isUntouchedOutside 38 = .ok (.ifCond .ne 7, 3) := by decide +kernel
theorem dX9_isUntouchedOutside_41 : decode cX9_isUntouchedOutside 41 = .ok (.iconst 1, 1) := by decide +kernel
theorem dX9_isUntouchedOutside_42 : decode cX9_isUntouchedOutside 42 = .ok (.goto 4, 3) := by decide +kernel
theorem dX9_isUntouchedOutside_45 : decode cX9_isUntouchedOutside 45 = .ok (.iconst 0, 1) := by decide +kernel
theorem dX9_isUntouchedOutside_46 : decode cX9_isUntouchedOutside 46 = .ok (.ireturn, 1) := by decide +kernel
theorem dX9_isAllElseBelowRoot_0 : decode cX9_isAllElseBelowRoot 0 = .ok (.aload_n 0, 1) := by decide +kernel
theorem dX9_isAllElseBelowRoot_1 : decode cX9_isAllElseBelowRoot 1 = .ok (.getfield 65, 3) := by decide +kernel
theorem dX9_isAllElseBelowRoot_4 : decode cX9_isAllElseBelowRoot 4 = .ok (.getfield 127, 3) := by decide +kernel
theorem dX9_isAllElseBelowRoot_7 : decode cX9_isAllElseBelowRoot 7 = .ok (.iconst 1, 1) := by decide +kernel
theorem dX9_isAllElseBelowRoot_8 : decode cX9_isAllElseBelowRoot 8 = .ok (.iadd, 1) := by decide +kernel
theorem dX9_isAllElseBelowRoot_9 : decode cX9_isAllElseBelowRoot 9 = .ok (.istore_n 1, 1) := by decide +kernel
theorem dX9_isAllElseBelowRoot_10 : decode cX9_isAllElseBelowRoot 10 = .ok (.iload_n 1, 1) := by decide +kernel
theorem dX9_isAllElseBelowRoot_11 : decode cX9_isAllElseBelowRoot 11 = .ok (.aload_n 0, 1) := by decide +kernel
theorem dX9_isAllElseBelowRoot_12 : decode cX9_isAllElseBelowRoot 12 = .ok (.getfield 16, 3) := by decide +kernel
theorem dX9_isAllElseBelowRoot_15 : decode cX9_isAllElseBelowRoot 15 = .ok (.invokevirtual 72, 3) := by decide +kernel
theorem dX9_isAllElseBelowRoot_18 : decode cX9_isAllElseBelowRoot 18 = .ok (.if_icmp .ge 46, 3) := by decide +kernel
theorem dX9_isAllElseBelowRoot_21 : decode cX9_isAllElseBelowRoot 21 = .ok (.aload_n 0, 1) := by decide +kernel
theorem dX9_isAllElseBelowRoot_22 : decode cX9_isAllElseBelowRoot 22 = .ok (.getfield 16, 3) := by decide +kernel
theorem dX9_isAllElseBelowRoot_25 : decode cX9_isAllElseBelowRoot 25 = .ok (.iload_n 1, 1) := by decide +kernel
theorem dX9_isAllElseBelowRoot_26 : decode cX9_isAllElseBelowRoot 26 = .ok (.invokevirtual 76, 3) := by decide +kernel
theorem dX9_isAllElseBelowRoot_29 : decode cX9_isAllElseBelowRoot 29 = .ok (.checkcast 30, 3) := by decide +kernel
theorem dX9_isAllElseBelowRoot_32 : decode cX9_isAllElseBelowRoot 32 = .ok (.getfield 80, 3) := by decide +kernel
theorem dX9_isAllElseBelowRoot_35 : decode cX9_isAllElseBelowRoot 35 = .ok (.ifCond .ne 23, 3) := by decide +kernel
theorem dX9_isAllElseBelowRoot_38 : decode cX9_isAllElseBelowRoot 38 = .ok (.aload_n 0, 1) := by decide +kernel
theorem dX9_isAllElseBelowRoot_39 : decode cX9_isAllElseBelowRoot 39 = .ok (.aload_n 0, 1) := by decide +kernel
theorem dX9_isAllElseBelowRoot_40 : decode cX9_isAllElseBelowRoot 40 = .ok (.getfield 16, 3) := by decide +kernel
theorem dX9_isAllElseBelowRoot_43 : decode cX9_isAllElseBelowRoot 43 = .ok (.iload_n 1, 1) := by decide +kernel
theorem dX9_isAllElseBelowRoot_44 : decode cX9_isAllElseBelowRoot 44 = .ok (.invokevirtual 76, 3) := by decide +kernel
theorem dX9_isAllElseBelowRoot_47 : decode cX9_isAllElseBelowRoot 47 = .ok (.checkcast 30, 3) := by decide +kernel
theorem dX9_isAllElseBelowRoot_50 : decode cX9_isAllElseBelowRoot 50 = .ok (.invokevirtual 131, 3) := by decide +kernel
theorem dX9_isAllElseBelowRoot_53 : decode cX9_isAllElseBelowRoot 53 = .ok (.ifCond .eq 5, 3) := by decide +kernel
theorem dX9_isAllElseBelowRoot_56 : decode cX9_isAllElseBelowRoot 56 = .ok (.iconst 0, 1) := by decide +kernel
theorem dX9_isAllElseBelowRoot_57 : decode cX9_isAllElseBelowRoot 57 = .ok (.ireturn, 1) := by decide +kernel
theorem dX9_isAllElseBelowRoot_58 : decode cX9_isAllElseBelowRoot 58 = .ok (.iinc 1 1, 3) := by decide +kernel
theorem dX9_isAllElseBelowRoot_61 : decode cX9_isAllElseBelowRoot 61 = .ok (.goto (-51), 3) := by decide +kernel
theorem dX9_isAllElseBelowRoot_64 : decode cX9_isAllElseBelowRoot 64 = .ok (.iconst 1, 1) := by decide +kernel
theorem dX9_isAllElseBelowRoot_65 : decode cX9_isAllElseBelowRoot 65 = .ok (.ireturn, 1) := by decide +kernel
theorem dX9_contentOf_0 : decode cX9_contentOf 0 = .ok (.aload_n 1, 1) := by decide +kernel
theorem dX9_contentOf_1 : decode cX9_contentOf 1 = .ok (.getfield 80, 3) := by decide +kernel
theorem dX9_contentOf_4 : decode cX9_contentOf 4 = .ok (.ifCond .eq 5, 3) := by decide +kernel
theorem dX9_contentOf_7 : decode cX9_contentOf 7 = .ok (.iconst (-1), 1) := by decide +kernel
theorem dX9_contentOf_8 : decode cX9_contentOf 8 = .ok (.ireturn, 1) := by decide +kernel
theorem dX9_contentOf_9 : decode cX9_contentOf 9 = .ok (.aload_n 1, 1) := by decide +kernel
theorem dX9_contentOf_10 : decode cX9_contentOf 10 = .ok (.getfield 135, 3) := by decide +kernel
theorem dX9_contentOf_13 : decode cX9_contentOf 13 = .ok (.ifnull 11, 3) := by decide +kernel
theorem dX9_contentOf_16 : decode cX9_contentOf 16 = .ok (.aload_n 1, 1) := by decide +kernel
theorem dX9_contentOf_17 : decode cX9_contentOf 17 = .ok (.getfield 135, 3) := by decide +kernel
theorem dX9_contentOf_20 : decode cX9_contentOf 20 = .ok (.getfield 139, 3) := by decide +kernel
theorem dX9_contentOf_23 : decode cX9_contentOf 23 = .ok (.ireturn, 1) := by decide +kernel
theorem dX9_contentOf_24 : decode cX9_contentOf 24 = .ok (.aload_n 1, 1) := by decide +kernel
theorem dX9_contentOf_25 : decode cX9_contentOf 25 = .ok (.getfield 140, 3) := by decide +kernel
theorem dX9_contentOf_28 : decode cX9_contentOf 28 = .ok (.ifnull 13, 3) := by decide +kernel
theorem dX9_contentOf_31 : decode cX9_contentOf 31 = .ok (.aload_n 1, 1) := by decide +kernel
theorem dX9_contentOf_32 : decode cX9_contentOf 32 = .ok (.getfield 140, 3) := by decide +kernel
theorem dX9_contentOf_35 : decode cX9_contentOf 35 = .ok (.getfield 144, 3) := by decide +kernel
theorem dX9_contentOf_38 : decode cX9_contentOf 38 = .ok (.goto 8, 3) := by decide +kernel
theorem dX9_contentOf_41 : decode cX9_contentOf 41 = .ok (.aload_n 0, 1) := by decide +kernel
theorem dX9_contentOf_42 : decode cX9_contentOf 42 = .ok (.aload_n 1, 1) := by decide +kernel
theorem dX9_contentOf_43 : decode cX9_contentOf 43 = .ok (.invokevirtual 145, 3) := by decide +kernel
theorem dX9_contentOf_46 : decode cX9_contentOf 46 = .ok (.ireturn, 1) := by decide +kernel
theorem dX9_countIn_0 : decode cX9_countIn 0 = .ok (.iconst 0, 1) := by decide +kernel
theorem dX9_countIn_1 : decode cX9_countIn 1 = .ok (.istore_n 2, 1) := by decide +kernel
theorem dX9_countIn_2 : decode cX9_countIn 2 = .ok (.iconst 0, 1) := by decide +kernel
theorem dX9_countIn_3 : decode cX9_countIn 3 = .ok (.istore_n 3, 1) := by decide +kernel
theorem dX9_countIn_4 : decode cX9_countIn 4 = .ok (.iload_n 3, 1) := by decide +kernel
theorem dX9_countIn_5 : decode cX9_countIn 5 = .ok (.aload_n 0, 1) := by decide +kernel
theorem dX9_countIn_6 : decode cX9_countIn 6 = .ok (.getfield 16, 3) := by decide +kernel
theorem dX9_countIn_9 : decode cX9_countIn 9 = .ok (.invokevirtual 72, 3) := by decide +kernel
theorem dX9_countIn_12 : decode cX9_countIn 12 = .ok (.if_icmp .ge 42, 3) := by decide +kernel
theorem dX9_countIn_15 : decode cX9_countIn 15 = .ok (.aload_n 0, 1) := by decide +kernel
theorem dX9_countIn_16 : decode cX9_countIn 16 = .ok (.getfield 16, 3) := by decide +kernel
theorem dX9_countIn_19 : decode cX9_countIn 19 = .ok (.iload_n 3, 1) := by decide +kernel
theorem dX9_countIn_20 : decode cX9_countIn 20 = .ok (.invokevirtual 76, 3) := by decide +kernel
theorem dX9_countIn_23 : decode cX9_countIn 23 = .ok (.checkcast 30, 3) := by decide +kernel
theorem dX9_countIn_26 : decode cX9_countIn 26 = .ok (.astore 4, 2) := by decide +kernel
theorem dX9_countIn_28 : decode cX9_countIn 28 = .ok (.aload 4, 2) := by decide +kernel
theorem dX9_countIn_30 : decode cX9_countIn 30 = .ok (.getfield 80, 3) := by decide +kernel
theorem dX9_countIn_33 : decode cX9_countIn 33 = .ok (.ifCond .ne 15, 3) := by decide +kernel
theorem dX9_countIn_36 : decode cX9_countIn 36 = .ok (.aload 4, 2) := by decide +kernel
theorem dX9_countIn_38 : decode cX9_countIn 38 = .ok (.invokevirtual 84, 3) := by decide +kernel
theorem dX9_countIn_41 : decode cX9_countIn 41 = .ok (.aload_n 1, 1) := by decide +kernel
theorem dX9_countIn_42 : decode cX9_countIn 42 = .ok (.if_acmp .ne 6, 3) := by decide +kernel
theorem dX9_countIn_45 : decode cX9_countIn 45 = .ok (.iinc 2 1, 3) := by decide +kernel
theorem dX9_countIn_48 : decode cX9_countIn 48 = .ok (.iinc 3 1, 3) := by decide +kernel
theorem dX9_countIn_51 : decode cX9_countIn 51 = .ok (.goto (-47), 3) := by decide +kernel
theorem dX9_countIn_54 : decode cX9_countIn 54 = .ok (.iload_n 2, 1) := by decide +kernel
theorem dX9_countIn_55 : decode cX9_countIn 55 = .ok (.ireturn, 1) := by decide +kernel
theorem dX9_countShut_0 : decode cX9_countShut 0 = .ok (.iconst 0, 1) := by decide +kernel
theorem dX9_countShut_1 : decode cX9_countShut 1 = .ok (.istore_n 1, 1) := by decide +kernel
theorem dX9_countShut_2 : decode cX9_countShut 2 = .ok (.iconst 0, 1) := by decide +kernel
theorem dX9_countShut_3 : decode cX9_countShut 3 = .ok (.istore_n 2, 1) := by decide +kernel
theorem dX9_countShut_4 : decode cX9_countShut 4 = .ok (.iload_n 2, 1) := by decide +kernel
theorem dX9_countShut_5 : decode cX9_countShut 5 = .ok (.aload_n 0, 1) := by decide +kernel
theorem dX9_countShut_6 : decode cX9_countShut 6 = .ok (.getfield 16, 3) := by decide +kernel
theorem dX9_countShut_9 : decode cX9_countShut 9 = .ok (.invokevirtual 72, 3) := by decide +kernel
theorem dX9_countShut_12 : decode cX9_countShut 12 = .ok (.if_icmp .ge 30, 3) := by decide +kernel
theorem dX9_countShut_15 : decode cX9_countShut 15 = .ok (.aload_n 0, 1) := by decide +kernel
theorem dX9_countShut_16 : decode cX9_countShut 16 = .ok (.getfield 16, 3) := by decide +kernel
theorem dX9_countShut_19 : decode cX9_countShut 19 = .ok (.iload_n 2, 1) := by decide +kernel
theorem dX9_countShut_20 : decode cX9_countShut 20 = .ok (.invokevirtual 76, 3) := by decide +kernel
theorem dX9_countShut_23 : decode cX9_countShut 23 = .ok (.checkcast 30, 3) := by decide +kernel
theorem dX9_countShut_26 : decode cX9_countShut 26 = .ok (.invokevirtual 124, 3) := by decide +kernel
theorem dX9_countShut_29 : decode cX9_countShut 29 = .ok (.iconst 1, 1) := by decide +kernel
theorem dX9_countShut_30 : decode cX9_countShut 30 = .ok (.if_icmp .ne 6, 3) := by decide +kernel
theorem dX9_countShut_33 : decode cX9_countShut 33 = .ok (.iinc 1 1, 3) := by decide +kernel
theorem dX9_countShut_36 : decode cX9_countShut 36 = .ok (.iinc 2 1, 3) := by decide +kernel
theorem dX9_countShut_39 : decode cX9_countShut 39 = .ok (.goto (-35), 3) := by decide +kernel
theorem dX9_countShut_42 : decode cX9_countShut 42 = .ok (.iload_n 1, 1) := by decide +kernel
theorem dX9_countShut_43 : decode cX9_countShut 43 = .ok (.ireturn, 1) := by decide +kernel
theorem dX9_countFilesWith_0 : decode cX9_countFilesWith 0 = .ok (.iconst 0, 1) := by decide +kernel
theorem dX9_countFilesWith_1 : decode cX9_countFilesWith 1 = .ok (.istore_n 2, 1) := by decide +kernel
theorem dX9_countFilesWith_2 : decode cX9_countFilesWith 2 = .ok (.iconst 0, 1) := by decide +kernel
theorem dX9_countFilesWith_3 : decode cX9_countFilesWith 3 = .ok (.istore_n 3, 1) := by decide +kernel
theorem dX9_countFilesWith_4 : decode cX9_countFilesWith 4 = .ok (.iload_n 3, 1) := by decide +kernel
theorem dX9_countFilesWith_5 : decode cX9_countFilesWith 5 = .ok (.aload_n 0, 1) := by decide +kernel
theorem dX9_countFilesWith_6 : decode cX9_countFilesWith 6 = .ok (.getfield 16, 3) := by decide +kernel
theorem dX9_countFilesWith_9 : decode cX9_countFilesWith 9 = .ok (.invokevirtual 72, 3) := by decide +kernel
theorem dX9_countFilesWith_12 : decode cX9_countFilesWith 12 = .ok (.if_icmp .ge 42, 3) := by decide +kernel
theorem dX9_countFilesWith_15 : decode cX9_countFilesWith 15 = .ok (.aload_n 0, 1) := by decide +kernel
theorem dX9_countFilesWith_16 : decode cX9_countFilesWith 16 = .ok (.getfield 16, 3) := by decide +kernel
theorem dX9_countFilesWith_19 : decode cX9_countFilesWith 19 = .ok (.iload_n 3, 1) := by decide +kernel
theorem dX9_countFilesWith_20 : decode cX9_countFilesWith 20 = .ok (.invokevirtual 76, 3) := by decide +kernel
theorem dX9_countFilesWith_23 : decode cX9_countFilesWith 23 = .ok (.checkcast 30, 3) := by decide +kernel
theorem dX9_countFilesWith_26 : decode cX9_countFilesWith 26 = .ok (.astore 4, 2) := by decide +kernel
theorem dX9_countFilesWith_28 : decode cX9_countFilesWith 28 = .ok (.aload 4, 2) := by decide +kernel
theorem dX9_countFilesWith_30 : decode cX9_countFilesWith 30 = .ok (.getfield 80, 3) := by decide +kernel
theorem dX9_countFilesWith_33 : decode cX9_countFilesWith 33 = .ok (.ifCond .ne 15, 3) := by decide +kernel
theorem dX9_countFilesWith_36 : decode cX9_countFilesWith 36 = .ok (.aload 4, 2) := by decide +kernel
theorem dX9_countFilesWith_38 : decode cX9_countFilesWith 38 = .ok (.getfield 135, 3) := by decide +kernel
theorem dX9_countFilesWith_41 : decode cX9_countFilesWith 41 = .ok (.aload_n 1, 1) := by decide +kernel
theorem dX9_countFilesWith_42 : decode cX9_countFilesWith 42 = .ok (.if_acmp .ne 6, 3) := by decide +kernel
theorem dX9_countFilesWith_45 : decode cX9_countFilesWith 45 = .ok (.iinc 2 1, 3) := by decide +kernel
theorem dX9_countFilesWith_48 : decode cX9_countFilesWith 48 = .ok (.iinc 3 1, 3) := by decide +kernel
theorem dX9_countFilesWith_51 : decode cX9_countFilesWith 51 = .ok (.goto (-47), 3) := by decide +kernel
theorem dX9_countFilesWith_54 : decode cX9_countFilesWith 54 = .ok (.iload_n 2, 1) := by decide +kernel
theorem dX9_countFilesWith_55 : decode cX9_countFilesWith 55 = .ok (.ireturn, 1) := by decide +kernel
theorem dX10_init_0 : decode cX10_init 0 = .ok (.aload_n 0, 1) := by decide +kernel
theorem dX10_init_1 : decode cX10_init 1 = .ok (.invokespecial 3, 3) := by decide +kernel
theorem dX10_init_4 : decode cX10_init 4 = .ok (.aload_n 0, 1) := by decide +kernel
theorem dX10_init_5 : decode cX10_init 5 = .ok (.aload_n 1, 1) := by decide +kernel
theorem dX10_init_6 : decode cX10_init 6 = .ok (.putfield 9, 3) := by decide +kernel
theorem dX10_init_9 : decode cX10_init 9 = .ok (.aload_n 0, 1) := by decide +kernel
theorem dX10_init_10 : decode cX10_init 10 = .ok (.new 15, 3) := by decide +kernel
theorem dX10_init_13 : decode cX10_init 13 = .ok (.dup, 1) := by decide +kernel
theorem dX10_init_14 : decode cX10_init 14 = .ok (.invokespecial 17, 3) := by decide +kernel
theorem dX10_init_17 : decode cX10_init 17 = .ok (.putfield 18, 3) := by decide +kernel
theorem dX10_init_20 : decode cX10_init 20 = .ok (.aload_n 0, 1) := by decide +kernel
theorem dX10_init_21 : decode cX10_init 21 = .ok (.aload_n 1, 1) := by decide +kernel
theorem dX10_init_22 : decode cX10_init 22 = .ok (.getfield 22, 3) := by decide +kernel
theorem dX10_init_25 : decode cX10_init 25 = .ok (.putfield 28, 3) := by decide +kernel
theorem dX10_init_28 : decode cX10_init 28 = .ok (.aload_n 0, 1) := by decide +kernel
theorem dX10_init_29 : decode cX10_init 29 = .ok (.iconst 0, 1) := by decide +kernel
theorem dX10_init_30 : decode cX10_init 30 = .ok (.putfield 31, 3) := by decide +kernel
theorem dX10_init_33 : decode cX10_init 33 = .ok (.aload_n 0, 1) := by decide +kernel
theorem dX10_init_34 : decode cX10_init 34 = .ok (.iconst 0, 1) := by decide +kernel
theorem dX10_init_35 : decode cX10_init 35 = .ok (.putfield 35, 3) := by decide +kernel
theorem dX10_init_38 : decode cX10_init 38 = .ok (.return_, 1) := by decide +kernel
theorem dX10_goThrough_0 : decode cX10_goThrough 0 = .ok (.aload_n 0, 1) := by decide +kernel
theorem dX10_goThrough_1 : decode cX10_goThrough 1 = .ok (.getfield 18, 3) := by decide +kernel
theorem dX10_goThrough_4 : decode cX10_goThrough 4 = .ok (.invokevirtual 38, 3) := by decide +kernel
theorem dX10_goThrough_7 : decode cX10_goThrough 7 = .ok (.aload_n 0, 1) := by decide +kernel
theorem dX10_goThrough_8 : decode cX10_goThrough 8 = .ok (.iload_n 3, 1) := by decide +kernel
theorem dX10_goThrough_9 : decode cX10_goThrough 9 = .ok (.putfield 31, 3) := by decide +kernel
theorem dX10_goThrough_12 : decode cX10_goThrough 12 = .ok (.aload_n 0, 1) := by decide +kernel
theorem dX10_goThrough_13 : decode cX10_goThrough 13 = .ok (.iconst 0, 1) := by decide +kernel
theorem dX10_goThrough_14 : decode cX10_goThrough 14 = .ok (.putfield 35, 3) := by decide +kernel
theorem dX10_goThrough_17 : decode cX10_goThrough 17 = .ok (.aload_n 0, 1) := by decide +kernel
theorem dX10_goThrough_18 : decode cX10_goThrough 18 = .ok (.aload_n 1, 1) := by decide +kernel
theorem dX10_goThrough_19 : decode cX10_goThrough 19 = .ok (.aload_n 2, 1) := by decide +kernel
theorem dX10_goThrough_20 : decode cX10_goThrough 20 = .ok (.invokevirtual 41, 3) := by decide +kernel
theorem dX10_goThrough_23 : decode cX10_goThrough 23 = .ok (.iconst 0, 1) := by decide +kernel
theorem dX10_goThrough_24 : decode cX10_goThrough 24 = .ok (.istore 4, 2) := by decide +kernel
theorem dX10_goThrough_26 : decode cX10_goThrough 26 = .ok (.iload 4, 2) := by decide +kernel
theorem dX10_goThrough_28 : decode cX10_goThrough 28 = .ok (.sipush 1000, 3) := by decide +kernel
theorem dX10_goThrough_31 : decode cX10_goThrough 31 = .ok (.if_icmp .ge 131, 3) := by decide +kernel
theorem dX10_goThrough_34 : decode cX10_goThrough 34 = .ok (.aload_n 0, 1) := by decide +kernel
theorem dX10_goThrough_35 : decode cX10_goThrough 35 = .ok (.getfield 9, 3) := by decide +kernel
theorem dX10_goThrough_38 : decode cX10_goThrough 38 = .ok (.aload_n 0, 1) := by decide +kernel
theorem dX10_goThrough_39 : decode cX10_goThrough 39 = .ok (.getfield 28, 3) := by decide +kernel
theorem dX10_goThrough_42 : decode cX10_goThrough 42 = .ok (.invokevirtual 45, 3) := by decide +kernel
theorem dX10_goThrough_45 : decode cX10_goThrough 45 = .ok (.ifCond .eq 5, 3) := by decide +kernel
