theorem dX0_init_0 : decode cX0_init 0 = .ok (.aload_n 0, 1) := by decide +kernel
theorem dX0_init_1 : decode cX0_init 1 = .ok (.invokespecial 1, 3) := by decide +kernel
theorem dX0_init_4 : decode cX0_init 4 = .ok (.aload_n 0, 1) := by decide +kernel
theorem dX0_init_5 : decode cX0_init 5 = .ok (.iload_n 1, 1) := by decide +kernel
theorem dX0_init_6 : decode cX0_init 6 = .ok (.putfield 7, 3) := by decide +kernel
theorem dX0_init_9 : decode cX0_init 9 = .ok (.aload_n 0, 1) := by decide +kernel
theorem dX0_init_10 : decode cX0_init 10 = .ok (.lload_n 2, 1) := by decide +kernel
theorem dX0_init_11 : decode cX0_init 11 = .ok (.putfield 13, 3) := by decide +kernel
theorem dX0_init_14 : decode cX0_init 14 = .ok (.aload_n 0, 1) := by decide +kernel
theorem dX0_init_15 : decode cX0_init 15 = .ok (.iload 4, 2) := by decide +kernel
theorem dX0_init_17 : decode cX0_init 17 = .ok (.putfield 17, 3) := by decide +kernel
theorem dX0_init_20 : decode cX0_init 20 = .ok (.return_, 1) := by decide +kernel
theorem dX1_init_0 : decode cX1_init 0 = .ok (.aload_n 0, 1) := by decide +kernel
theorem dX1_init_1 : decode cX1_init 1 = .ok (.invokespecial 3, 3) := by decide +kernel
theorem dX1_init_4 : decode cX1_init 4 = .ok (.aload_n 0, 1) := by decide +kernel
theorem dX1_init_5 : decode cX1_init 5 = .ok (.sipush 160, 3) := by decide +kernel
theorem dX1_init_8 : decode cX1_init 8 = .ok (.newarray .int, 2) := by decide +kernel
theorem dX1_init_10 : decode cX1_init 10 = .ok (.putfield 9, 3) := by decide +kernel
theorem dX1_init_13 : decode cX1_init 13 = .ok (.aload_n 0, 1) := by decide +kernel
theorem dX1_init_14 : decode cX1_init 14 = .ok (.iconst 0, 1) := by decide +kernel
theorem dX1_init_15 : decode cX1_init 15 = .ok (.putfield 15, 3) := by decide +kernel
theorem dX1_init_18 : decode cX1_init 18 = .ok (.return_, 1) := by decide +kernel
theorem dX1_append_0 : decode cX1_append 0 = .ok (.aload_n 0, 1) := by decide +kernel
theorem dX1_append_1 : decode cX1_append 1 = .ok (.getfield 15, 3) := by decide +kernel
theorem dX1_append_4 : decode cX1_append 4 = .ok (.aload_n 0, 1) := by decide +kernel
theorem dX1_append_5 : decode cX1_append 5 = .ok (.getfield 9, 3) := by decide +kernel
theorem dX1_append_8 : decode cX1_append 8 = .ok (.arraylength, 1) := by decide +kernel
theorem dX1_append_9 : decode cX1_append 9 = .ok (.if_icmp .ge 14, 3) := by decide +kernel
theorem dX1_append_12 : decode cX1_append 12 = .ok (.iload_n 1, 1) := by decide +kernel
theorem dX1_append_13 : decode cX1_append 13 = .ok (.ifCond .lt 10, 3) := by decide +kernel
theorem dX1_append_16 : decode cX1_append 16 = .ok (.iload_n 1, 1) := by decide +kernel
theorem dX1_append_17 : decode cX1_append 17 = .ok (.sipush 255, 3) := by decide +kernel
theorem dX1_append_20 : decode cX1_append 20 = .ok (.if_icmp .le 6, 3) := by decide +kernel
theorem dX1_append_23 : decode cX1_append 23 = .ok (.bipush (-5), 2) := by decide +kernel
theorem dX1_append_25 : decode cX1_append 25 = .ok (.ireturn, 1) := by decide +kernel
theorem dX1_append_26 : decode cX1_append 26 = .ok (.aload_n 0, 1) := by decide +kernel
theorem dX1_append_27 : decode cX1_append 27 = .ok (.getfield 9, 3) := by decide +kernel
theorem dX1_append_30 : decode cX1_append 30 = .ok (.aload_n 0, 1) := by decide +kernel
theorem dX1_append_31 : decode cX1_append 31 = .ok (.getfield 15, 3) := by decide +kernel
theorem dX1_append_34 : decode cX1_append 34 = .ok (.iload_n 1, 1) := by decide +kernel
theorem dX1_append_35 : decode cX1_append 35 = .ok (.iastore, 1) := by decide +kernel
theorem dX1_append_36 : decode cX1_append 36 = .ok (.aload_n 0, 1) := by decide +kernel
theorem dX1_append_37 : decode cX1_append 37 = .ok (.dup, 1) := by decide +kernel
theorem dX1_append_38 : decode cX1_append 38 = .ok (.getfield 15, 3) := by decide +kernel
theorem dX1_append_41 : decode cX1_append 41 = .ok (.iconst 1, 1) := by decide +kernel
theorem dX1_append_42 : decode cX1_append 42 = .ok (.iadd, 1) := by decide +kernel
theorem dX1_append_43 : decode cX1_append 43 = .ok (.putfield 15, 3) := by decide +kernel
theorem dX1_append_46 : decode cX1_append 46 = .ok (.aload_n 0, 1) := by decide +kernel
theorem dX1_append_47 : decode cX1_append 47 = .ok (.getfield 15, 3) := by decide +kernel
theorem dX1_append_50 : decode cX1_append 50 = .ok (.ireturn, 1) := by decide +kernel
theorem dX1_clear_0 : decode cX1_clear 0 = .ok (.aload_n 0, 1) := by decide +kernel
theorem dX1_clear_1 : decode cX1_clear 1 = .ok (.iconst 0, 1) := by decide +kernel
theorem dX1_clear_2 : decode cX1_clear 2 = .ok (.putfield 15, 3) := by decide +kernel
theorem dX1_clear_5 : decode cX1_clear 5 = .ok (.return_, 1) := by decide +kernel
theorem dX1_length_0 : decode cX1_length 0 = .ok (.aload_n 0, 1) := by decide +kernel
theorem dX1_length_1 : decode cX1_length 1 = .ok (.getfield 15, 3) := by decide +kernel
theorem dX1_length_4 : decode cX1_length 4 = .ok (.ireturn, 1) := by decide +kernel
theorem dX1_beginsWithDivider_0 : decode cX1_beginsWithDivider 0 = .ok (.aload_n 0, 1) := by decide +kernel
theorem dX1_beginsWithDivider_1 : decode cX1_beginsWithDivider 1 = .ok (.getfield 15, 3) := by decide +kernel
theorem dX1_beginsWithDivider_4 : decode cX1_beginsWithDivider 4 = .ok (.ifCond .le 20, 3) := by decide +kernel
theorem dX1_beginsWithDivider_7 : decode cX1_beginsWithDivider 7 = .ok (.aload_n 1, 1) := by decide +kernel
theorem dX1_beginsWithDivider_8 : decode cX1_beginsWithDivider 8 = .ok (.aload_n 0, 1) := by decide +kernel
theorem dX1_beginsWithDivider_9 : decode cX1_beginsWithDivider 9 = .ok (.getfield 9, 3) := by decide +kernel
theorem dX1_beginsWithDivider_12 : decode cX1_beginsWithDivider 12 = .ok (.iconst 0, 1) := by decide +kernel
theorem dX1_beginsWithDivider_13 : decode cX1_beginsWithDivider 13 = .ok (.iaload, 1) := by decide +kernel
theorem dX1_beginsWithDivider_14 : decode cX1_beginsWithDivider 14 = .ok (.invokevirtual 19, 3) := by decide +kernel
theorem dX1_beginsWithDivider_17 : decode cX1_beginsWithDivider 17 = .ok (.ifCond .eq 7, 3) := by decide +kernel
theorem dX1_beginsWithDivider_20 : decode cX1_beginsWithDivider 20 = .ok (.iconst 1, 1) := by decide +kernel
theorem dX1_beginsWithDivider_21 : decode cX1_beginsWithDivider 21 = .ok (.goto 4, 3) := by decide +kernel
theorem dX1_beginsWithDivider_24 : decode cX1_beginsWithDivider 24 = .ok (.iconst 0, 1) := by decide +kernel
theorem dX1_beginsWithDivider_25 : decode cX1_beginsWithDivider 25 = .ok (.ireturn, 1) := by decide +kernel
theorem dX1_beginsWithDrive_0 : decode cX1_beginsWithDrive 0 = .ok (.aload_n 0, 1) := by decide +kernel
theorem dX1_beginsWithDrive_1 : decode cX1_beginsWithDrive 1 = .ok (.getfield 15, 3) := by decide +kernel
theorem dX1_beginsWithDrive_4 : decode cX1_beginsWithDrive 4 = .ok (.iconst 2, 1) := by decide +kernel
theorem dX1_beginsWithDrive_5 : decode cX1_beginsWithDrive 5 = .ok (.if_icmp .lt 14, 3) := by decide +kernel
theorem dX1_beginsWithDrive_8 : decode cX1_beginsWithDrive 8 = .ok (.aload_n 0, 1) := by decide +kernel
theorem dX1_beginsWithDrive_9 : decode cX1_beginsWithDrive 9 = .ok (.getfield 9, 3) := by decide +kernel
theorem dX1_beginsWithDrive_12 : decode cX1_beginsWithDrive 12 = .ok (.iconst 1, 1) := by decide +kernel
theorem dX1_beginsWithDrive_13 : decode cX1_beginsWithDrive 13 = .ok (.iaload, 1) := by decide +kernel
theorem dX1_beginsWithDrive_14 : decode cX1_beginsWithDrive 14 = .ok (.bipush 58, 2) := by decide +kernel
theorem dX1_beginsWithDrive_16 : decode cX1_beginsWithDrive 16 = .ok (.if_icmp .eq 5, 3) := by decide +kernel
theorem dX1_beginsWithDrive_19 : decode cX1_beginsWithDrive 19 = .ok (.iconst 0, 1) := by decide +kernel
theorem dX1_beginsWithDrive_20 : decode cX1_beginsWithDrive 20 = .ok (.ireturn, 1) := by decide +kernel
theorem dX1_beginsWithDrive_21 : decode cX1_beginsWithDrive 21 = .ok (.aload_n 0, 1) := by decide +kernel
theorem dX1_beginsWithDrive_22 : decode cX1_beginsWithDrive 22 = .ok (.getfield 9, 3) := by decide +kernel
theorem dX1_beginsWithDrive_25 : decode cX1_beginsWithDrive 25 = .ok (.iconst 0, 1) := by decide +kernel
theorem dX1_beginsWithDrive_26 : decode cX1_beginsWithDrive 26 = .ok (.iaload, 1) := by decide +kernel
theorem dX1_beginsWithDrive_27 : decode cX1_beginsWithDrive 27 = .ok (.istore_n 1, 1) := by decide +kernel
theorem dX1_beginsWithDrive_28 : decode cX1_beginsWithDrive 28 = .ok (.iload_n 1, 1) := by decide +kernel
theorem dX1_beginsWithDrive_29 : decode cX1_beginsWithDrive 29 = .ok (.bipush 65, 2) := by decide +kernel
theorem dX1_beginsWithDrive_31 : decode cX1_beginsWithDrive 31 = .ok (.if_icmp .lt 9, 3) := by decide +kernel
theorem dX1_beginsWithDrive_34 : decode cX1_beginsWithDrive 34 = .ok (.iload_n 1, 1) := by decide +kernel
theorem dX1_beginsWithDrive_35 : decode cX1_beginsWithDrive 35 = .ok (.bipush 90, 2) := by decide +kernel
theorem dX1_beginsWithDrive_37 : decode cX1_beginsWithDrive 37 = .ok (.if_icmp .le 15, 3) := by decide +kernel
theorem dX1_beginsWithDrive_40 : decode cX1_beginsWithDrive 40 = .ok (.iload_n 1, 1) := by decide +kernel
theorem dX1_beginsWithDrive_41 : decode cX1_beginsWithDrive 41 = .ok (.bipush 97, 2) := by decide +kernel
theorem dX1_beginsWithDrive_43 : decode cX1_beginsWithDrive 43 = .ok (.if_icmp .lt 13, 3) := by decide +kernel
theorem dX1_beginsWithDrive_46 : decode cX1_beginsWithDrive 46 = .ok (.iload_n 1, 1) := by decide +kernel
theorem dX1_beginsWithDrive_47 : decode cX1_beginsWithDrive 47 = .ok (.bipush 122, 2) := by decide +kernel
theorem dX1_beginsWithDrive_49 : decode cX1_beginsWithDrive 49 = .ok (.if_icmp .gt 7, 3) := by decide +kernel
theorem dX1_beginsWithDrive_52 : decode cX1_beginsWithDrive 52 = .ok (.iconst 1, 1) := by decide +kernel
theorem dX1_beginsWithDrive_53 : decode cX1_beginsWithDrive 53 = .ok (.goto 4, 3) := by decide +kernel
theorem dX1_beginsWithDrive_56 : decode cX1_beginsWithDrive 56 = .ok (.iconst 0, 1) := by decide +kernel
theorem dX1_beginsWithDrive_57 : decode cX1_beginsWithDrive 57 = .ok (.ireturn, 1) := by decide +kernel
theorem dX1_cut_0 : decode cX1_cut 0 = .ok (.new 25, 3) := by decide +kernel
theorem dX1_cut_3 : decode cX1_cut 3 = .ok (.dup, 1) := by decide +kernel
theorem dX1_cut_4 : decode cX1_cut 4 = .ok (.invokespecial 27, 3) := by decide +kernel
theorem dX1_cut_7 : decode cX1_cut 7 = .ok (.astore_n 2, 1) := by decide +kernel
theorem dX1_cut_8 : decode cX1_cut 8 = .ok (.iconst 0, 1) := by decide +kernel
theorem dX1_cut_9 : decode cX1_cut 9 = .ok (.istore_n 3, 1) := by decide +kernel
theorem dX1_cut_10 : decode cX1_cut 10 = .ok (.iconst 0, 1) := by decide +kernel
theorem dX1_cut_11 : decode cX1_cut 11 = .ok (.istore 4, 2) := by decide +kernel
theorem dX1_cut_13 : decode cX1_cut 13 = .ok (.iload 4, 2) := by decide +kernel
theorem dX1_cut_15 : decode cX1_cut 15 = .ok (.aload_n 0, 1) := by decide +kernel
theorem dX1_cut_16 : decode cX1_cut 16 = .ok (.getfield 15, 3) := by decide +kernel
theorem dX1_cut_19 : decode cX1_cut 19 = .ok (.if_icmp .gt 45, 3) := by decide +kernel
theorem dX1_cut_22 : decode cX1_cut 22 = .ok (.iload 4, 2) := by decide +kernel
theorem dX1_cut_24 : decode cX1_cut 24 = .ok (.aload_n 0, 1) := by decide +kernel
theorem dX1_cut_25 : decode cX1_cut 25 = .ok (.getfield 15, 3) := by decide +kernel
theorem dX1_cut_28 : decode cX1_cut 28 = .ok (.if_icmp .eq 17, 3) := by decide +kernel
theorem dX1_cut_31 : decode cX1_cut 31 = .ok (.aload_n 1, 1) := by decide +kernel
theorem dX1_cut_32 : decode cX1_cut 32 = .ok (.aload_n 0, 1) := by decide +kernel
theorem dX1_cut_33 : decode cX1_cut 33 = .ok (.getfield 9, 3) := by decide +kernel
theorem dX1_cut_36 : decode cX1_cut 36 = .ok (.iload 4, 2) := by decide +kernel
theorem dX1_cut_38 : decode cX1_cut 38 = .ok (.iaload, 1) := by decide +kernel
theorem dX1_cut_39 : decode cX1_cut 39 = .ok (.invokevirtual 19, 3) := by decide +kernel
theorem dX1_cut_42 : decode cX1_cut 42 = .ok (.ifCond .eq 16, 3) := by decide +kernel
theorem dX1_cut_45 : decode cX1_cut 45 = .ok (.aload_n 0, 1) := by decide +kernel
theorem dX1_cut_46 : decode cX1_cut 46 = .ok (.aload_n 2, 1) := by decide +kernel
theorem dX1_cut_47 : decode cX1_cut 47 = .ok (.iload_n 3, 1) := by decide +kernel
theorem dX1_cut_48 : decode cX1_cut 48 = .ok (.iload 4, 2) := by decide +kernel
theorem dX1_cut_50 : decode cX1_cut 50 = .ok (.invokevirtual 28, 3) := by decide +kernel
theorem dX1_cut_53 : decode cX1_cut 53 = .ok (.iload 4, 2) := by decide +kernel
theorem dX1_cut_55 : decode cX1_cut 55 = .ok (.iconst 1, 1) := by decide +kernel
theorem dX1_cut_56 : decode cX1_cut 56 = .ok (.iadd, 1) := by decide +kernel
theorem dX1_cut_57 : decode cX1_cut 57 = .ok (.istore_n 3, 1) := by decide +kernel
theorem dX1_cut_58 : decode cX1_cut 58 = .ok (.iinc 4 1, 3) := by decide +kernel
theorem dX1_cut_61 : decode cX1_cut 61 = .ok (.goto (-48), 3) := by decide +kernel
theorem dX1_cut_64 : decode cX1_cut 64 = .ok (.aload_n 2, 1) := by decide +kernel
theorem dX1_cut_65 : decode cX1_cut 65 = .ok (.areturn, 1) := by decide +kernel
theorem dX1_addUnlessPassedOver_0 : decode cX1_addUnlessPassedOver 0 = .ok (.iload_n 2, 1) := by decide +kernel
theorem dX1_addUnlessPassedOver_1 : decode cX1_addUnlessPassedOver 1 = .ok (.iload_n 3, 1) := by decide +kernel
theorem dX1_addUnlessPassedOver_2 : decode cX1_addUnlessPassedOver 2 = .ok (.if_icmp .lt 4, 3) := by decide +kernel
theorem dX1_addUnlessPassedOver_5 : decode cX1_addUnlessPassedOver 5 = .ok (.return_, 1) := by decide +kernel
theorem dX1_addUnlessPassedOver_6 : decode cX1_addUnlessPassedOver 6 = .ok (.new 32, 3) := by decide +kernel
theorem dX1_addUnlessPassedOver_9 : decode cX1_addUnlessPassedOver 9 = .ok (.dup, 1) := by decide +kernel
theorem dX1_addUnlessPassedOver_10 : decode cX1_addUnlessPassedOver 10 = .ok (.aload_n 0, 1) := by decide +kernel
theorem dX1_addUnlessPassedOver_11 : decode cX1_addUnlessPassedOver 11 = .ok (.getfield 9, 3) := by decide +kernel
theorem dX1_addUnlessPassedOver_14 : decode cX1_addUnlessPassedOver 14 = .ok (.iload_n 2, 1) := by decide +kernel
theorem dX1_addUnlessPassedOver_15 : decode cX1_addUnlessPassedOver 15 = .ok (.iload_n 3, 1) := by decide +kernel
theorem dX1_addUnlessPassedOver_16 : decode cX1_addUnlessPassedOver 16 = .ok (.invokespecial 34, 3) := by decide +kernel
theorem dX1_addUnlessPassedOver_19 : decode cX1_addUnlessPassedOver 19 = .ok (.astore 4, 2) := by decide +kernel
theorem dX1_addUnlessPassedOver_21 : decode cX1_addUnlessPassedOver 21 = .ok (.aload 4, 2) := by decide +kernel
theorem dX1_addUnlessPassedOver_23 : decode cX1_addUnlessPassedOver 23 = .ok (.invokevirtual 37, 3) := by decide +kernel
theorem dX1_addUnlessPassedOver_26 : decode cX1_addUnlessPassedOver 26 = .ok (.ifCond .ne 10, 3) := by decide +kernel
theorem dX1_addUnlessPassedOver_29 : decode cX1_addUnlessPassedOver 29 = .ok (.aload_n 1, 1) := by decide +kernel
theorem dX1_addUnlessPassedOver_30 : decode cX1_addUnlessPassedOver 30 = .ok (.aload 4, 2) := by decide +kernel
theorem dX1_addUnlessPassedOver_32 : decode cX1_addUnlessPassedOver 32 = .ok (.invokevirtual 41, 3) := by decide +kernel
theorem dX1_addUnlessPassedOver_35 : decode cX1_addUnlessPassedOver 35 = .ok (.pop, 1) := by decide +kernel
theorem dX1_addUnlessPassedOver_36 : decode cX1_addUnlessPassedOver 36 = .ok (.return_, 1) := by decide +kernel
theorem dX2_init_0 : decode cX2_init 0 = .ok (.aload_n 0, 1) := by decide +kernel
theorem dX2_init_1 : decode cX2_init 1 = .ok (.invokespecial 1, 3) := by decide +kernel
theorem dX2_init_4 : decode cX2_init 4 = .ok (.aload_n 0, 1) := by decide +kernel
theorem dX2_init_5 : decode cX2_init 5 = .ok (.iload_n 1, 1) := by decide +kernel
theorem dX2_init_6 : decode cX2_init 6 = .ok (.putfield 7, 3) := by decide +kernel
theorem dX2_init_9 : decode cX2_init 9 = .ok (.aload_n 0, 1) := by decide +kernel
theorem dX2_init_10 : decode cX2_init 10 = .ok (.aload_n 2, 1) := by decide +kernel
theorem dX2_init_11 : decode cX2_init 11 = .ok (.putfield 13, 3) := by decide +kernel
theorem dX2_init_14 : decode cX2_init 14 = .ok (.aload_n 0, 1) := by decide +kernel
theorem dX2_init_15 : decode cX2_init 15 = .ok (.aload_n 3, 1) := by decide +kernel
theorem dX2_init_16 : decode cX2_init 16 = .ok (.putfield 17, 3) := by decide +kernel
theorem dX2_init_19 : decode cX2_init 19 = .ok (.aload_n 0, 1) := by decide +kernel
theorem dX2_init_20 : decode cX2_init 20 = .ok (.iload 4, 2) := by decide +kernel
theorem dX2_init_22 : decode cX2_init 22 = .ok (.putfield 20, 3) := by decide +kernel
theorem dX2_init_25 : decode cX2_init 25 = .ok (.aload_n 0, 1) := by decide +kernel
theorem dX2_init_26 : decode cX2_init 26 = .ok (.lload 5, 2) := by decide +kernel
theorem dX2_init_28 : decode cX2_init 28 = .ok (.putfield 23, 3) := by decide +kernel
theorem dX2_init_31 : decode cX2_init 31 = .ok (.return_, 1) := by decide +kernel
theorem dX3_init_0 : decode cX3_init 0 = .ok (.aload_n 0, 1) := by decide +kernel
theorem dX3_init_1 : decode cX3_init 1 = .ok (.invokespecial 3, 3) := by decide +kernel
theorem dX3_init_4 : decode cX3_init 4 = .ok (.iload_n 2, 1) := by decide +kernel
theorem dX3_init_5 : decode cX3_init 5 = .ok (.iconst 0, 1) := by decide +kernel
theorem dX3_init_6 : decode cX3_init 6 = .ok (.invokestatic 9, 3) := by decide +kernel
theorem dX3_init_9 : decode cX3_init 9 = .ok (.istore 4, 2) := by decide +kernel
theorem dX3_init_11 : decode cX3_init 11 = .ok (.iload_n 3, 1) := by decide +kernel
theorem dX3_init_12 : decode cX3_init 12 = .ok (.aload_n 1, 1) := by decide +kernel
theorem dX3_init_13 : decode cX3_init 13 = .ok (.arraylength, 1) := by decide +kernel
theorem dX3_init_14 : decode cX3_init 14 = .ok (.invokestatic 15, 3) := by decide +kernel
theorem dX3_init_17 : decode cX3_init 17 = .ok (.istore 5, 2) := by decide +kernel
theorem dX3_init_19 : decode cX3_init 19 = .ok (.iload 5, 2) := by decide +kernel
theorem dX3_init_21 : decode cX3_init 21 = .ok (.iload 4, 2) := by decide +kernel
theorem dX3_init_23 : decode cX3_init 23 = .ok (.isub, 1) := by decide +kernel
theorem dX3_init_24 : decode cX3_init 24 = .ok (.iconst 0, 1) := by decide +kernel
theorem dX3_init_25 : decode cX3_init 25 = .ok (.invokestatic 9, 3) := by decide +kernel
theorem dX3_init_28 : decode cX3_init 28 = .ok (.istore 6, 2) := by decide +kernel
theorem dX3_init_30 : decode cX3_init 30 = .ok (.aload_n 0, 1) := by decide +kernel
theorem dX3_init_31 : decode cX3_init 31 = .ok (.iload 6, 2) := by decide +kernel
theorem dX3_init_33 : decode cX3_init 33 = .ok (.newarray .int, 2) := by decide +kernel
theorem dX3_init_35 : decode cX3_init 35 = .ok (.putfield 18, 3) := by decide +kernel
theorem dX3_init_38 : decode cX3_init 38 = .ok (.aload_n 0, 1) := by decide +kernel
theorem dX3_init_39 : decode cX3_init 39 = .ok (.iload 6, 2) := by decide +kernel
theorem dX3_init_41 : decode cX3_init 41 = .ok (.newarray .int, 2) := by decide +kernel
theorem dX3_init_43 : decode cX3_init 43 = .ok (.putfield 24, 3) := by decide +kernel
theorem dX3_init_46 : decode cX3_init 46 = .ok (.iconst 0, 1) := by decide +kernel
theorem dX3_init_47 : decode cX3_init 47 = .ok (.istore 7, 2) := by decide +kernel
theorem dX3_init_49 : decode cX3_init 49 = .ok (.iload 7, 2) := by decide +kernel
theorem dX3_init_51 : decode cX3_init 51 = .ok (.iload 6, 2) := by decide +kernel
theorem dX3_init_53 : decode cX3_init 53 = .ok (.if_icmp .ge 40, 3) := by decide +kernel
theorem dX3_init_56 : decode cX3_init 56 = .ok (.aload_n 0, 1) := by decide +kernel
theorem dX3_init_57 : decode cX3_init 57 = .ok (.getfield 18, 3) := by decide +kernel
theorem dX3_init_60 : decode cX3_init 60 = .ok (.iload 7, 2) := by decide +kernel
theorem dX3_init_62 : decode cX3_init 62 = .ok (.aload_n 1, 1) := by decide +kernel
theorem dX3_init_63 : decode cX3_init 63 = .ok (.iload 4, 2) := by decide +kernel
theorem dX3_init_65 : decode cX3_init 65 = .ok (.iload 7, 2) := by decide +kernel
theorem dX3_init_67 : decode cX3_init 67 = .ok (.iadd, 1) := by decide +kernel
theorem dX3_init_68 : decode cX3_init 68 = .ok (.iaload, 1) := by decide +kernel
theorem dX3_init_69 : decode cX3_init 69 = .ok (.iastore, 1) := by decide +kernel
theorem dX3_init_70 : decode cX3_init 70 = .ok (.aload_n 0, 1) := by decide +kernel
theorem dX3_init_71 : decode cX3_init 71 = .ok (.getfield 24, 3) := by decide +kernel
theorem dX3_init_74 : decode cX3_init 74 = .ok (.iload 7, 2) := by decide +kernel
theorem dX3_init_76 : decode cX3_init 76 = .ok (.aload_n 0, 1) := by decide +kernel
theorem dX3_init_77 : decode cX3_init 77 = .ok (.getfield 18, 3) := by decide +kernel
theorem dX3_init_80 : decode cX3_init 80 = .ok (.iload 7, 2) := by decide +kernel
theorem dX3_init_82 : decode cX3_init 82 = .ok (.iaload, 1) := by decide +kernel
theorem dX3_init_83 : decode cX3_init 83 = .ok (.invokestatic 27, 3) := by decide +kernel
theorem dX3_init_86 : decode cX3_init 86 = .ok (.iastore, 1) := by decide +kernel
theorem dX3_init_87 : decode cX3_init 87 = .ok (.iinc 7 1, 3) := by decide +kernel
theorem dX3_init_90 : decode cX3_init 90 = .ok (.goto (-41), 3) := by decide +kernel
theorem dX3_init_93 : decode cX3_init 93 = .ok (.return_, 1) := by decide +kernel
theorem dX3_smallLetter_0 : decode cX3_smallLetter 0 = .ok (.iload_n 0, 1) := by decide +kernel
theorem dX3_smallLetter_1 : decode cX3_smallLetter 1 = .ok (.bipush 65, 2) := by decide +kernel
theorem dX3_smallLetter_3 : decode cX3_smallLetter 3 = .ok (.if_icmp .lt 16, 3) := by decide +kernel
theorem dX3_smallLetter_6 : decode cX3_smallLetter 6 = .ok (.iload_n 0, 1) := by decide +kernel
theorem dX3_smallLetter_7 : decode cX3_smallLetter 7 = .ok (.bipush 90, 2) := by decide +kernel
theorem dX3_smallLetter_9 : decode cX3_smallLetter 9 = .ok (.if_icmp .gt 10, 3) := by decide +kernel
theorem dX3_smallLetter_12 : decode cX3_smallLetter 12 = .ok (.iload_n 0, 1) := by decide +kernel
theorem dX3_smallLetter_13 : decode cX3_smallLetter 13 = .ok (.bipush 32, 2) := by decide +kernel
theorem dX3_smallLetter_15 : decode cX3_smallLetter 15 = .ok (.iadd, 1) := by decide +kernel
theorem dX3_smallLetter_16 : decode cX3_smallLetter 16 = .ok (.goto 4, 3) := by decide +kernel
theorem dX3_smallLetter_19 : decode cX3_smallLetter 19 = .ok (.iload_n 0, 1) := by decide +kernel
theorem dX3_smallLetter_20 : decode cX3_smallLetter 20 = .ok (.ireturn, 1) := by decide +kernel
theorem dX3_length_0 : decode cX3_length 0 = .ok (.aload_n 0, 1) := by decide +kernel
theorem dX3_length_1 : decode cX3_length 1 = .ok (.getfield 18, 3) := by decide +kernel
theorem dX3_length_4 : decode cX3_length 4 = .ok (.arraylength, 1) := by decide +kernel
theorem dX3_length_5 : decode cX3_length 5 = .ok (.ireturn, 1) := by decide +kernel
theorem dX3_byteAt_0 : decode cX3_byteAt 0 = .ok (.iload_n 1, 1) := by decide +kernel
theorem dX3_byteAt_1 : decode cX3_byteAt 1 = .ok (.ifCond .lt 21, 3) := by decide +kernel
theorem dX3_byteAt_4 : decode cX3_byteAt 4 = .ok (.iload_n 1, 1) := by decide +kernel
theorem dX3_byteAt_5 : decode cX3_byteAt 5 = .ok (.aload_n 0, 1) := by decide +kernel
theorem dX3_byteAt_6 : decode cX3_byteAt 6 = .ok (.getfield 18, 3) := by decide +kernel
theorem dX3_byteAt_9 : decode cX3_byteAt 9 = .ok (.arraylength, 1) := by decide +kernel
theorem dX3_byteAt_10 : decode cX3_byteAt 10 = .ok (.if_icmp .ge 12, 3) := by decide +kernel
theorem dX3_byteAt_13 : decode cX3_byteAt 13 = .ok (.aload_n 0, 1) := by decide +kernel
theorem dX3_byteAt_14 : decode cX3_byteAt 14 = .ok (.getfield 18, 3) := by decide +kernel
theorem dX3_byteAt_17 : decode cX3_byteAt 17 = .ok (.iload_n 1, 1) := by decide +kernel
theorem dX3_byteAt_18 : decode cX3_byteAt 18 = .ok (.iaload, 1) := by decide +kernel
theorem dX3_byteAt_19 : decode cX3_byteAt 19 = .ok (.goto 4, 3) := by decide +kernel
theorem dX3_byteAt_22 : decode cX3_byteAt 22 = .ok (.iconst (-1), 1) := by decide +kernel
theorem dX3_byteAt_23 : decode cX3_byteAt 23 = .ok (.ireturn, 1) := by decide +kernel
theorem dX3_isSameAs_0 : decode cX3_isSameAs 0 = .ok (.aload_n 0, 1) := by decide +kernel
theorem dX3_isSameAs_1 : decode cX3_isSameAs 1 = .ok (.getfield 18, 3) := by decide +kernel
theorem dX3_isSameAs_4 : decode cX3_isSameAs 4 = .ok (.aload_n 1, 1) := by decide +kernel
theorem dX3_isSameAs_5 : decode cX3_isSameAs 5 = .ok (.getfield 18, 3) := by decide +kernel
theorem dX3_isSameAs_8 : decode cX3_isSameAs 8 = .ok (.invokestatic 31, 3) := by decide +kernel
theorem dX3_isSameAs_11 : decode cX3_isSameAs 11 = .ok (.ireturn, 1) := by decide +kernel
theorem dX3_isAlike_0 : decode cX3_isAlike 0 = .ok (.aload_n 0, 1) := by decide +kernel
theorem dX3_isAlike_1 : decode cX3_isAlike 1 = .ok (.getfield 24, 3) := by decide +kernel
theorem dX3_isAlike_4 : decode cX3_isAlike 4 = .ok (.aload_n 1, 1) := by decide +kernel
theorem dX3_isAlike_5 : decode cX3_isAlike 5 = .ok (.getfield 24, 3) := by decide +kernel
theorem dX3_isAlike_8 : decode cX3_isAlike 8 = .ok (.invokestatic 31, 3) := by decide +kernel
theorem dX3_isAlike_11 : decode cX3_isAlike 11 = .ok (.ireturn, 1) := by decide +kernel
theorem dX3_isEqual_0 : decode cX3_isEqual 0 = .ok (.aload_n 0, 1) := by decide +kernel
theorem dX3_isEqual_1 : decode cX3_isEqual 1 = .ok (.arraylength, 1) := by decide +kernel
theorem dX3_isEqual_2 : decode cX3_isEqual 2 = .ok (.aload_n 1, 1) := by decide +kernel
theorem dX3_isEqual_3 : decode cX3_isEqual 3 = .ok (.arraylength, 1) := by decide +kernel
theorem dX3_isEqual_4 : decode cX3_isEqual 4 = .ok (.if_icmp .eq 5, 3) := by decide +kernel
theorem dX3_isEqual_7 : decode cX3_isEqual 7 = .ok (.iconst 0, 1) := by decide +kernel
theorem dX3_isEqual_8 : decode cX3_isEqual 8 = .ok (.ireturn, 1) := by decide +kernel
theorem dX3_isEqual_9 : decode cX3_isEqual 9 = .ok (.iconst 0, 1) := by decide +kernel
theorem dX3_isEqual_10 : decode cX3_isEqual 10 = .ok (.istore_n 2, 1) := by decide +kernel
theorem dX3_isEqual_11 : decode cX3_isEqual 11 = .ok (.iload_n 2, 1) := by decide +kernel
theorem dX3_isEqual_12 : decode cX3_isEqual 12 = .ok (.aload_n 0, 1) := by decide +kernel
theorem dX3_isEqual_13 : decode cX3_isEqual 13 = .ok (.arraylength, 1) := by decide +kernel
theorem dX3_isEqual_14 : decode cX3_isEqual 14 = .ok (.if_icmp .ge 20, 3) := by decide +kernel
theorem dX3_isEqual_17 : decode cX3_isEqual 17 = .ok (.aload_n 0, 1) := by decide +kernel
theorem dX3_isEqual_18 : decode cX3_isEqual 18 = .ok (.iload_n 2, 1) := by decide +kernel
theorem dX3_isEqual_19 : decode cX3_isEqual 19 = .ok (.iaload, 1) := by decide +kernel
theorem dX3_isEqual_20 : decode cX3_isEqual 20 = .ok (.aload_n 1, 1) := by decide +kernel
theorem dX3_isEqual_21 : decode cX3_isEqual 21 = .ok (.iload_n 2, 1) := by decide +kernel
theorem dX3_isEqual_22 : decode cX3_isEqual 22 = .ok (.iaload, 1) := by decide +kernel
theorem dX3_isEqual_23 : decode cX3_isEqual 23 = .ok (.if_icmp .eq 5, 3) := by decide +kernel
theorem dX3_isEqual_26 : decode cX3_isEqual 26 = .ok (.iconst 0, 1) := by decide +kernel
theorem dX3_isEqual_27 : decode cX3_isEqual 27 = .ok (.ireturn, 1) := by decide +kernel
theorem dX3_isEqual_28 : decode cX3_isEqual 28 = .ok (.iinc 2 1, 3) := by decide +kernel
theorem dX3_isEqual_31 : decode cX3_isEqual 31 = .ok (.goto (-20), 3) := by decide +kernel
theorem dX3_isEqual_34 : decode cX3_isEqual 34 = .ok (.iconst 1, 1) := by decide +kernel
theorem dX3_isEqual_35 : decode cX3_isEqual 35 = .ok (.ireturn, 1) := by decide +kernel
theorem dX3_isStay_0 : decode cX3_isStay 0 = .ok (.aload_n 0, 1) := by decide +kernel
theorem dX3_isStay_1 : decode cX3_isStay 1 = .ok (.getfield 18, 3) := by decide +kernel
theorem dX3_isStay_4 : decode cX3_isStay 4 = .ok (.arraylength, 1) := by decide +kernel
theorem dX3_isStay_5 : decode cX3_isStay 5 = .ok (.iconst 1, 1) := by decide +kernel
theorem dX3_isStay_6 : decode cX3_isStay 6 = .ok (.if_icmp .ne 18, 3) := by decide +kernel
theorem dX3_isStay_9 : decode cX3_isStay 9 = .ok (.aload_n 0, 1) := by decide +kernel
theorem dX3_isStay_10 : decode cX3_isStay 10 = .ok (.getfield 18, 3) := by decide +kernel
theorem dX3_isStay_13 : decode cX3_isStay 13 = .ok (.iconst 0, 1) := by decide +kernel
theorem dX3_isStay_14 : decode cX3_isStay 14 = .ok (.iaload, 1) := by decide +kernel
theorem dX3_isStay_15 : decode cX3_isStay 15 = .ok (.bipush 46, 2) := by decide +kernel
theorem dX3_isStay_17 : decode cX3_isStay 17 = .ok (.if_icmp .ne 7, 3) := by decide +kernel
theorem dX3_isStay_20 : decode cX3_isStay 20 = .ok (.iconst 1, 1) := by decide +kernel
theorem dX3_isStay_21 : decode cX3_isStay 21 = .ok (.goto 4, 3) := by decide +kernel
theorem dX3_isStay_24 : decode cX3_isStay 24 = .ok (.iconst 0, 1) := by decide +kernel
theorem dX3_isStay_25 : decode cX3_isStay 25 = .ok (.ireturn, 1) := by decide +kernel
theorem dX3_isUp_0 : decode cX3_isUp 0 = .ok (.aload_n 0, 1) := by decide +kernel
theorem dX3_isUp_1 : decode cX3_isUp 1 = .ok (.getfield 18, 3) := by decide +kernel
theorem dX3_isUp_4 : decode cX3_isUp 4 = .ok (.arraylength, 1) := by decide +kernel
theorem dX3_isUp_5 : decode cX3_isUp 5 = .ok (.iconst 2, 1) := by decide +kernel
theorem dX3_isUp_6 : decode cX3_isUp 6 = .ok (.if_icmp .ne 29, 3) := by decide +kernel
theorem dX3_isUp_9 : decode cX3_isUp 9 = .ok (.aload_n 0, 1) := by decide +kernel
theorem dX3_isUp_10 : decode cX3_isUp 10 = .ok (.getfield 18, 3) := by decide +kernel
theorem dX3_isUp_13 : decode cX3_isUp 13 = .ok (.iconst 0, 1) := by decide +kernel
theorem dX3_isUp_14 : decode cX3_isUp 14 = .ok (.iaload, 1) := by decide +kernel
theorem dX3_isUp_15 : decode cX3_isUp 15 = .ok (.bipush 46, 2) := by decide +kernel
theorem dX3_isUp_17 : decode cX3_isUp 17 = .ok (.if_icmp .ne 18, 3) := by decide +kernel
theorem dX3_isUp_20 : decode cX3_isUp 20 = .ok (.aload_n 0, 1) := by decide +kernel
theorem dX3_isUp_21 : decode cX3_isUp 21 = .ok (.getfield 18, 3) := by decide +kernel
theorem dX3_isUp_24 : decode cX3_isUp 24 = .ok (.iconst 1, 1) := by decide +kernel
theorem dX3_isUp_25 : decode cX3_isUp 25 = .ok (.iaload, 1) := by decide +kernel
theorem dX3_isUp_26 : decode cX3_isUp 26 = .ok (.bipush 46, 2) := by decide +kernel
theorem dX3_isUp_28 : decode cX3_isUp 28 = .ok (.if_icmp .ne 7, 3) := by decide +kernel
theorem dX3_isUp_31 : decode cX3_isUp 31 = .ok (.iconst 1, 1) := by decide +kernel
theorem dX3_isUp_32 : decode cX3_isUp 32 = .ok (.goto 4, 3) := by decide +kernel
theorem dX3_isUp_35 : decode cX3_isUp 35 = .ok (.iconst 0, 1) := by decide +kernel
theorem dX3_isUp_36 : decode cX3_isUp 36 = .ok (.ireturn, 1) := by decide +kernel
theorem dX3_judge_0 : decode cX3_judge 0 = .ok (.aload_n 0, 1) := by decide +kernel
theorem dX3_judge_1 : decode cX3_judge 1 = .ok (.invokevirtual 35, 3) := by decide +kernel
theorem dX3_judge_4 : decode cX3_judge 4 = .ok (.ifCond .eq 6, 3) := by decide +kernel
theorem dX3_judge_7 : decode cX3_judge 7 = .ok (.bipush (-3), 2) := by decide +kernel
theorem dX3_judge_9 : decode cX3_judge 9 = .ok (.ireturn, 1) := by decide +kernel
theorem dX3_judge_10 : decode cX3_judge 10 = .ok (.aload_n 0, 1) := by decide +kernel
theorem dX3_judge_11 : decode cX3_judge 11 = .ok (.invokevirtual 39, 3) := by decide +kernel
theorem dX3_judge_14 : decode cX3_judge 14 = .ok (.ifCond .ne 17, 3) := by decide +kernel
theorem dX3_judge_17 : decode cX3_judge 17 = .ok (.aload_n 1, 1) := by decide +kernel
theorem dX3_judge_18 : decode cX3_judge 18 = .ok (.getfield 42, 3) := by decide +kernel
theorem dX3_judge_21 : decode cX3_judge 21 = .ok (.ifCond .eq 13, 3) := by decide +kernel
theorem dX3_judge_24 : decode cX3_judge 24 = .ok (.aload_n 0, 1) := by decide +kernel
theorem dX3_judge_25 : decode cX3_judge 25 = .ok (.invokevirtual 48, 3) := by decide +kernel
theorem dX3_judge_28 : decode cX3_judge 28 = .ok (.ifCond .eq 6, 3) := by decide +kernel
theorem dX3_judge_31 : decode cX3_judge 31 = .ok (.bipush (-4), 2) := by decide +kernel
theorem dX3_judge_33 : decode cX3_judge 33 = .ok (.ireturn, 1) := by decide +kernel
theorem dX3_judge_34 : decode cX3_judge 34 = .ok (.aload_n 0, 1) := by decide +kernel
theorem dX3_judge_35 : decode cX3_judge 35 = .ok (.getfield 18, 3) := by decide +kernel
theorem dX3_judge_38 : decode cX3_judge 38 = .ok (.arraylength, 1) := by decide +kernel
theorem dX3_judge_39 : decode cX3_judge 39 = .ok (.bipush 16, 2) := by decide +kernel
theorem dX3_judge_41 : decode cX3_judge 41 = .ok (.if_icmp .le 8, 3) := by decide +kernel
theorem dX3_judge_44 : decode cX3_judge 44 = .ok (.bipush (-5), 2) := by decide +kernel
theorem dX3_judge_46 : decode cX3_judge 46 = .ok (.goto 4, 3) := by decide +kernel
theorem dX3_judge_49 : decode cX3_judge 49 = .ok (.iconst 0, 1) := by decide +kernel
theorem dX3_judge_50 : decode cX3_judge 50 = .ok (.ireturn, 1) := by decide +kernel
theorem dX3_hasControlByte_0 : decode cX3_hasControlByte 0 = .ok (.iconst 0, 1) := by decide +kernel
theorem dX3_hasControlByte_1 : decode cX3_hasControlByte 1 = .ok (.istore_n 1, 1) := by decide +kernel
theorem dX3_hasControlByte_2 : decode cX3_hasControlByte 2 = .ok (.iload_n 1, 1) := by decide +kernel
theorem dX3_hasControlByte_3 : decode cX3_hasControlByte 3 = .ok (.aload_n 0, 1) := by decide +kernel
theorem dX3_hasControlByte_4 : decode cX3_hasControlByte 4 = .ok (.getfield 18, 3) := by decide +kernel
theorem dX3_hasControlByte_7 : decode cX3_hasControlByte 7 = .ok (.arraylength, 1) := by decide +kernel
theorem dX3_hasControlByte_8 : decode cX3_hasControlByte 8 = .ok (.if_icmp .ge 33, 3) := by decide +kernel
theorem dX3_hasControlByte_11 : decode cX3_hasControlByte 11 = .ok (.aload_n 0, 1) := by decide +kernel
theorem dX3_hasControlByte_12 : decode cX3_hasControlByte 12 = .ok (.getfield 18, 3) := by decide +kernel
theorem dX3_hasControlByte_15 : decode cX3_hasControlByte 15 = .ok (.iload_n 1, 1) := by decide +kernel
theorem dX3_hasControlByte_16 : decode cX3_hasControlByte 16 = .ok (.iaload, 1) := by decide +kernel
theorem dX3_hasControlByte_17 : decode cX3_hasControlByte 17 = .ok (.bipush 32, 2) := by decide +kernel
theorem dX3_hasControlByte_19 : decode cX3_hasControlByte 19 = .ok (.if_icmp .lt 14, 3) := by decide +kernel
theorem dX3_hasControlByte_22 : decode cX3_hasControlByte 22 = .ok (.aload_n 0, 1) := by decide +kernel
theorem dX3_hasControlByte_23 : decode cX3_hasControlByte 23 = .ok (.getfield 18, 3) := by decide +kernel
theorem dX3_hasControlByte_26 : decode cX3_hasControlByte 26 = .ok (.iload_n 1, 1) := by decide +kernel
theorem dX3_hasControlByte_27 : decode cX3_hasControlByte 27 = .ok (.iaload, 1) := by decide +kernel
theorem dX3_hasControlByte_28 : decode cX3_hasControlByte 28 = .ok (.bipush 127, 2) := by decide +kernel
theorem dX3_hasControlByte_30 : decode cX3_hasControlByte 30 = .ok (.if_icmp .ne 5, 3) := by decide +kernel
theorem dX3_hasControlByte_33 : decode cX3_hasControlByte 33 = .ok (.iconst 1, 1) := by decide +kernel
theorem dX3_hasControlByte_34 : decode cX3_hasControlByte 34 = .ok (.ireturn, 1) := by decide +kernel
theorem dX3_hasControlByte_35 : decode cX3_hasControlByte 35 = .ok (.iinc 1 1, 3) := by decide +kernel
theorem dX3_hasControlByte_38 : decode cX3_hasControlByte 38 = .ok (.goto (-36), 3) := by decide +kernel
theorem dX3_hasControlByte_41 : decode cX3_hasControlByte 41 = .ok (.iconst 0, 1) := by decide +kernel
theorem dX3_hasControlByte_42 : decode cX3_hasControlByte 42 = .ok (.ireturn, 1) := by decide +kernel
theorem dX3_isOfOtherSystems_0 : decode cX3_isOfOtherSystems 0 = .ok (.aload_n 0, 1) := by decide +kernel
theorem dX3_isOfOtherSystems_1 : decode cX3_isOfOtherSystems 1 = .ok (.aload_n 0, 1) := by decide +kernel
theorem dX3_isOfOtherSystems_2 : decode cX3_isOfOtherSystems 2 = .ok (.getfield 18, 3) := by decide +kernel
theorem dX3_isOfOtherSystems_5 : decode cX3_isOfOtherSystems 5 = .ok (.arraylength, 1) := by decide +kernel
theorem dX3_isOfOtherSystems_6 : decode cX3_isOfOtherSystems 6 = .ok (.iconst 1, 1) := by decide +kernel
theorem dX3_isOfOtherSystems_7 : decode cX3_isOfOtherSystems 7 = .ok (.isub, 1) := by decide +kernel
theorem dX3_isOfOtherSystems_8 : decode cX3_isOfOtherSystems 8 = .ok (.invokevirtual 51, 3) := by decide +kernel
theorem dX3_isOfOtherSystems_11 : decode cX3_isOfOtherSystems 11 = .ok (.istore_n 1, 1) := by decide +kernel
theorem dX3_isOfOtherSystems_12 : decode cX3_isOfOtherSystems 12 = .ok (.iload_n 1, 1) := by decide +kernel
theorem dX3_isOfOtherSystems_13 : decode cX3_isOfOtherSystems 13 = .ok (.bipush 46, 2) := by decide +kernel
theorem dX3_isOfOtherSystems_15 : decode cX3_isOfOtherSystems 15 = .ok (.if_icmp .eq 23, 3) := by decide +kernel
theorem dX3_isOfOtherSystems_18 : decode cX3_isOfOtherSystems 18 = .ok (.iload_n 1, 1) := by decide +kernel
theorem dX3_isOfOtherSystems_19 : decode cX3_isOfOtherSystems 19 = .ok (.bipush 32, 2) := by decide +kernel
theorem dX3_isOfOtherSystems_21 : decode cX3_isOfOtherSystems 21 = .ok (.if_icmp .eq 17, 3) := by decide +kernel
theorem dX3_isOfOtherSystems_24 : decode cX3_isOfOtherSystems 24 = .ok (.aload_n 0, 1) := by decide +kernel
theorem dX3_isOfOtherSystems_25 : decode cX3_isOfOtherSystems 25 = .ok (.invokevirtual 54, 3) := by decide +kernel
theorem dX3_isOfOtherSystems_28 : decode cX3_isOfOtherSystems 28 = .ok (.ifCond .ne 10, 3) := by decide +kernel
theorem dX3_isOfOtherSystems_31 : decode cX3_isOfOtherSystems 31 = .ok (.aload_n 0, 1) := by decide +kernel
theorem dX3_isOfOtherSystems_32 : decode cX3_isOfOtherSystems 32 = .ok (.invokevirtual 57, 3) := by decide +kernel
theorem dX3_isOfOtherSystems_35 : decode cX3_isOfOtherSystems 35 = .ok (.ifCond .eq 7, 3) := by decide +kernel
theorem dX3_isOfOtherSystems_38 : decode cX3_isOfOtherSystems 38 = .ok (.iconst 1, 1) := by decide +kernel
theorem dX3_isOfOtherSystems_39 : decode cX3_isOfOtherSystems 39 = .ok (.goto 4, 3) := by decide +kernel
theorem dX3_isOfOtherSystems_42 : decode cX3_isOfOtherSystems 42 = .ok (.iconst 0, 1) := by decide +kernel
theorem dX3_isOfOtherSystems_43 : decode cX3_isOfOtherSystems 43 = .ok (.ireturn, 1) := by decide +kernel
theorem dX3_hasMark_0 : decode cX3_hasMark 0 = .ok (.iconst 0, 1) := by decide +kernel
theorem dX3_hasMark_1 : decode cX3_hasMark 1 = .ok (.istore_n 1, 1) := by decide +kernel
theorem dX3_hasMark_2 : decode cX3_hasMark 2 = .ok (.iload_n 1, 1) := by decide +kernel
theorem dX3_hasMark_3 : decode cX3_hasMark 3 = .ok (.aload_n 0, 1) := by decide +kernel
theorem dX3_hasMark_4 : decode cX3_hasMark 4 = .ok (.getfield 18, 3) := by decide +kernel
theorem dX3_hasMark_7 : decode cX3_hasMark 7 = .ok (.arraylength, 1) := by decide +kernel
theorem dX3_hasMark_8 : decode cX3_hasMark 8 = .ok (.if_icmp .ge 26, 3) := by decide +kernel
theorem dX3_hasMark_11 : decode cX3_hasMark 11 = .ok (.ldc 60, 2) := by decide +kernel
theorem dX3_hasMark_13 : decode cX3_hasMark 13 = .ok (.aload_n 0, 1) := by decide +kernel
theorem dX3_hasMark_14 : decode cX3_hasMark 14 = .ok (.getfield 18, 3) := by decide +kernel
theorem dX3_hasMark_17 : decode cX3_hasMark 17 = .ok (.iload_n 1, 1) := by decide +kernel
theorem dX3_hasMark_18 : decode cX3_hasMark 18 = .ok (.iaload, 1) := by decide +kernel
theorem dX3_hasMark_19 : decode cX3_hasMark 19 = .ok (.i2c, 1) := by decide +kernel
theorem dX3_hasMark_20 : decode cX3_hasMark 20 = .ok (.invokevirtual 62, 3) := by decide +kernel
theorem dX3_hasMark_23 : decode cX3_hasMark 23 = .ok (.ifCond .lt 5, 3) := by decide +kernel
theorem dX3_hasMark_26 : decode cX3_hasMark 26 = .ok (.iconst 1, 1) := by decide +kernel
theorem dX3_hasMark_27 : decode cX3_hasMark 27 = .ok (.ireturn, 1) := by decide +kernel
theorem dX3_hasMark_28 : decode cX3_hasMark 28 = .ok (.iinc 1 1, 3) := by decide +kernel
theorem dX3_hasMark_31 : decode cX3_hasMark 31 = .ok (.goto (-29), 3) := by decide +kernel
theorem dX3_hasMark_34 : decode cX3_hasMark 34 = .ok (.iconst 0, 1) := by decide +kernel
theorem dX3_hasMark_35 : decode cX3_hasMark 35 = .ok (.ireturn, 1) := by decide +kernel
theorem dX3_isKeptWord_0 : decode cX3_isKeptWord 0 = .ok (.aload_n 0, 1) := by decide +kernel
theorem dX3_isKeptWord_1 : decode cX3_isKeptWord 1 = .ok (.invokevirtual 67, 3) := by decide +kernel
theorem dX3_isKeptWord_4 : decode cX3_isKeptWord 4 = .ok (.istore_n 1, 1) := by decide +kernel
theorem dX3_isKeptWord_5 : decode cX3_isKeptWord 5 = .ok (.iload_n 1, 1) := by decide +kernel
theorem dX3_isKeptWord_6 : decode cX3_isKeptWord 6 = .ok (.iconst 3, 1) := by decide +kernel
theorem dX3_isKeptWord_7 : decode cX3_isKeptWord 7 = .ok (.if_icmp .ne 10, 3) := by decide +kernel
theorem dX3_isKeptWord_10 : decode cX3_isKeptWord 10 = .ok (.aload_n 0, 1) := by decide +kernel
theorem dX3_isKeptWord_11 : decode cX3_isKeptWord 11 = .ok (.ldc 71, 2) := by decide +kernel
theorem dX3_isKeptWord_13 : decode cX3_isKeptWord 13 = .ok (.invokevirtual 73, 3) := by decide +kernel
theorem dX3_isKeptWord_16 : decode cX3_isKeptWord 16 = .ok (.ireturn, 1) := by decide +kernel
theorem dX3_isKeptWord_17 : decode cX3_isKeptWord 17 = .ok (.aload_n 0, 1) := by decide +kernel
theorem dX3_isKeptWord_18 : decode cX3_isKeptWord 18 = .ok (.iconst 3, 1) := by decide +kernel
theorem dX3_isKeptWord_19 : decode cX3_isKeptWord 19 = .ok (.invokevirtual 51, 3) := by decide +kernel
theorem dX3_isKeptWord_22 : decode cX3_isKeptWord 22 = .ok (.istore_n 2, 1) := by decide +kernel
theorem dX3_isKeptWord_23 : decode cX3_isKeptWord 23 = .ok (.iload_n 1, 1) := by decide +kernel
theorem dX3_isKeptWord_24 : decode cX3_isKeptWord 24 = .ok (.iconst 4, 1) := by decide +kernel
theorem dX3_isKeptWord_25 : decode cX3_isKeptWord 25 = .ok (.if_icmp .ne 28, 3) := by decide +kernel
theorem dX3_isKeptWord_28 : decode cX3_isKeptWord 28 = .ok (.iload_n 2, 1) := by decide +kernel
theorem dX3_isKeptWord_29 : decode cX3_isKeptWord 29 = .ok (.bipush 49, 2) := by decide +kernel
theorem dX3_isKeptWord_31 : decode cX3_isKeptWord 31 = .ok (.if_icmp .lt 22, 3) := by decide +kernel
theorem dX3_isKeptWord_34 : decode cX3_isKeptWord 34 = .ok (.iload_n 2, 1) := by decide +kernel
theorem dX3_isKeptWord_35 : decode cX3_isKeptWord 35 = .ok (.bipush 57, 2) := by decide +kernel
theorem dX3_isKeptWord_37 : decode cX3_isKeptWord 37 = .ok (.if_icmp .gt 16, 3) := by decide +kernel
theorem dX3_isKeptWord_40 : decode cX3_isKeptWord 40 = .ok (.aload_n 0, 1) := by decide +kernel
theorem dX3_isKeptWord_41 : decode cX3_isKeptWord 41 = .ok (.ldc 77, 2) := by decide +kernel
theorem dX3_isKeptWord_43 : decode cX3_isKeptWord 43 = .ok (.invokevirtual 73, 3) := by decide +kernel
theorem dX3_isKeptWord_46 : decode cX3_isKeptWord 46 = .ok (.ifCond .eq 7, 3) := by decide +kernel
theorem dX3_isKeptWord_49 : decode cX3_isKeptWord 49 = .ok (.iconst 1, 1) := by decide +kernel
theorem dX3_isKeptWord_50 : decode cX3_isKeptWord 50 = .ok (.goto 4, 3) := by decide +kernel
theorem dX3_isKeptWord_53 : decode cX3_isKeptWord 53 = .ok (.iconst 0, 1) := by decide +kernel
theorem dX3_isKeptWord_54 : decode cX3_isKeptWord 54 = .ok (.ireturn, 1) := by decide +kernel
theorem dX3_lengthToFirstDot_0 : decode cX3_lengthToFirstDot 0 = .ok (.iconst 0, 1) := by decide +kernel
theorem dX3_lengthToFirstDot_1 : decode cX3_lengthToFirstDot 1 = .ok (.istore_n 1, 1) := by decide +kernel
theorem dX3_lengthToFirstDot_2 : decode cX3_lengthToFirstDot 2 = .ok (.iload_n 1, 1) := by decide +kernel
theorem dX3_lengthToFirstDot_3 : decode cX3_lengthToFirstDot 3 = .ok (.aload_n 0, 1) := by decide +kernel
theorem dX3_lengthToFirstDot_4 : decode cX3_lengthToFirstDot 4 = .ok (.getfield 18, 3) := by decide +kernel
theorem dX3_lengthToFirstDot_7 : decode cX3_lengthToFirstDot 7 = .ok (.arraylength, 1) := by decide +kernel
theorem dX3_lengthToFirstDot_8 : decode cX3_lengthToFirstDot 8 = .ok (.if_icmp .ge 20, 3) := by decide +kernel
theorem dX3_lengthToFirstDot_11 : decode cX3_lengthToFirstDot 11 = .ok (.aload_n 0, 1) := by decide +kernel
theorem dX3_lengthToFirstDot_12 : decode cX3_lengthToFirstDot 12 = .ok (.getfield 18, 3) := by decide +kernel
theorem dX3_lengthToFirstDot_15 : decode cX3_lengthToFirstDot 15 = .ok (.iload_n 1, 1) := by decide +kernel
theorem dX3_lengthToFirstDot_16 : decode cX3_lengthToFirstDot 16 = .ok (.iaload, 1) := by decide +kernel
theorem dX3_lengthToFirstDot_17 : decode cX3_lengthToFirstDot 17 = .ok (.bipush 46, 2) := by decide +kernel
theorem dX3_lengthToFirstDot_19 : decode cX3_lengthToFirstDot 19 = .ok (.if_icmp .eq 9, 3) := by decide +kernel
theorem dX3_lengthToFirstDot_22 : decode cX3_lengthToFirstDot 22 = .ok (.iinc 1 1, 3) := by decide +kernel
theorem dX3_lengthToFirstDot_25 : decode cX3_lengthToFirstDot 25 = .ok (.goto (-23), 3) := by decide +kernel
theorem dX3_lengthToFirstDot_28 : decode cX3_lengthToFirstDot 28 = .ok (.iload_n 1, 1) := by decide +kernel
theorem dX3_lengthToFirstDot_29 : decode cX3_lengthToFirstDot 29 = .ok (.ireturn, 1) := by decide +kernel
theorem dX3_beginsWithOneOf_0 : decode cX3_beginsWithOneOf 0 = .ok (.aload_n 0, 1) := by decide +kernel
theorem dX3_beginsWithOneOf_1 : decode cX3_beginsWithOneOf 1 = .ok (.getfield 24, 3) := by decide +kernel
theorem dX3_beginsWithOneOf_4 : decode cX3_beginsWithOneOf 4 = .ok (.arraylength, 1) := by decide +kernel
theorem dX3_beginsWithOneOf_5 : decode cX3_beginsWithOneOf 5 = .ok (.iconst 3, 1) := by decide +kernel
theorem dX3_beginsWithOneOf_6 : decode cX3_beginsWithOneOf 6 = .ok (.if_icmp .ge 5, 3) := by decide +kernel
theorem dX3_beginsWithOneOf_9 : decode cX3_beginsWithOneOf 9 = .ok (.iconst 0, 1) := by decide +kernel
theorem dX3_beginsWithOneOf_10 : decode cX3_beginsWithOneOf 10 = .ok (.ireturn, 1) := by decide +kernel
theorem dX3_beginsWithOneOf_11 : decode cX3_beginsWithOneOf 11 = .ok (.iconst 0, 1) := by decide +kernel
theorem dX3_beginsWithOneOf_12 : decode cX3_beginsWithOneOf 12 = .ok (.istore_n 2, 1) := by decide +kernel
theorem dX3_beginsWithOneOf_13 : decode cX3_beginsWithOneOf 13 = .ok (.iload_n 2, 1) := by decide +kernel
theorem dX3_beginsWithOneOf_14 : decode cX3_beginsWithOneOf 14 = .ok (.iconst 2, 1) := by decide +kernel
theorem dX3_beginsWithOneOf_15 : decode cX3_beginsWithOneOf 15 = .ok (.iadd, 1) := by decide +kernel
theorem dX3_beginsWithOneOf_16 : decode cX3_beginsWithOneOf 16 = .ok (.aload_n 1, 1) := by decide +kernel
theorem dX3_beginsWithOneOf_17 : decode cX3_beginsWithOneOf 17 = .ok (.invokevirtual 79, 3) := by decide +kernel
theorem dX3_beginsWithOneOf_20 : decode cX3_beginsWithOneOf 20 = .ok (.if_icmp .ge 67, 3) := by decide +kernel
theorem dX3_beginsWithOneOf_23 : decode cX3_beginsWithOneOf 23 = .ok (.aload_n 0, 1) := by decide +kernel
theorem dX3_beginsWithOneOf_24 : decode cX3_beginsWithOneOf 24 = .ok (.getfield 24, 3) := by decide +kernel
theorem dX3_beginsWithOneOf_27 : decode cX3_beginsWithOneOf 27 = .ok (.iconst 0, 1) := by decide +kernel
theorem dX3_beginsWithOneOf_28 : decode cX3_beginsWithOneOf 28 = .ok (.iaload, 1) := by decide +kernel
theorem dX3_beginsWithOneOf_29 : decode cX3_beginsWithOneOf 29 = .ok (.aload_n 1, 1) := by decide +kernel
theorem dX3_beginsWithOneOf_30 : decode cX3_beginsWithOneOf 30 = .ok (.iload_n 2, 1) := by decide +kernel
theorem dX3_beginsWithOneOf_31 : decode cX3_beginsWithOneOf 31 = .ok (.invokevirtual 82, 3) := by decide +kernel
theorem dX3_beginsWithOneOf_34 : decode cX3_beginsWithOneOf 34 = .ok (.if_icmp .ne 23, 3) := by decide +kernel
theorem dX3_beginsWithOneOf_37 : decode cX3_beginsWithOneOf 37 = .ok (.aload_n 0, 1) := by decide +kernel
theorem dX3_beginsWithOneOf_38 : decode cX3_beginsWithOneOf 38 = .ok (.getfield 24, 3) := by decide +kernel
theorem dX3_beginsWithOneOf_41 : decode cX3_beginsWithOneOf 41 = .ok (.iconst 1, 1) := by decide +kernel
theorem dX3_beginsWithOneOf_42 : decode cX3_beginsWithOneOf 42 = .ok (.iaload, 1) := by decide +kernel
theorem dX3_beginsWithOneOf_43 : decode cX3_beginsWithOneOf 43 = .ok (.aload_n 1, 1) := by decide +kernel
theorem dX3_beginsWithOneOf_44 : decode cX3_beginsWithOneOf 44 = .ok (.iload_n 2, 1) := by decide +kernel
theorem dX3_beginsWithOneOf_45 : decode cX3_beginsWithOneOf 45 = .ok (.iconst 1, 1) := by decide +kernel
theorem dX3_beginsWithOneOf_46 : decode cX3_beginsWithOneOf 46 = .ok (.iadd, 1) := by decide +kernel
theorem dX3_beginsWithOneOf_47 : decode cX3_beginsWithOneOf 47 = .ok (.invokevirtual 82, 3) := by decide +kernel
theorem dX3_beginsWithOneOf_50 : decode cX3_beginsWithOneOf 50 = .ok (.if_icmp .ne 7, 3) := by decide +kernel
theorem dX3_beginsWithOneOf_53 : decode cX3_beginsWithOneOf 53 = .ok (.iconst 1, 1) := by decide +kernel
theorem dX3_beginsWithOneOf_54 : decode cX3_beginsWithOneOf 54 = .ok (.goto 4, 3) := by decide +kernel
theorem dX3_beginsWithOneOf_57 : decode cX3_beginsWithOneOf 57 = .ok (.iconst 0, 1) := by decide +kernel
theorem dX3_beginsWithOneOf_58 : decode cX3_beginsWithOneOf 58 = .ok (.istore_n 3, 1) := by decide +kernel
theorem dX3_beginsWithOneOf_59 : decode cX3_beginsWithOneOf 59 = .ok (.iload_n 3, 1) := by decide +kernel
theorem dX3_beginsWithOneOf_60 : decode cX3_beginsWithOneOf 60 = .ok (.ifCond .eq 21, 3) := by decide +kernel
theorem dX3_beginsWithOneOf_63 : decode cX3_beginsWithOneOf 63 = .ok (.aload_n 0, 1) := by decide +kernel
theorem dX3_beginsWithOneOf_64 : decode cX3_beginsWithOneOf 64 = .ok (.getfield 24, 3) := by decide +kernel
theorem dX3_beginsWithOneOf_67 : decode cX3_beginsWithOneOf 67 = .ok (.iconst 2, 1) := by decide +kernel
theorem dX3_beginsWithOneOf_68 : decode cX3_beginsWithOneOf 68 = .ok (.iaload, 1) := by decide +kernel
theorem dX3_beginsWithOneOf_69 : decode cX3_beginsWithOneOf 69 = .ok (.aload_n 1, 1) := by decide +kernel
theorem dX3_beginsWithOneOf_70 : decode cX3_beginsWithOneOf 70 = .ok (.iload_n 2, 1) := by decide +kernel
theorem dX3_beginsWithOneOf_71 : decode cX3_beginsWithOneOf 71 = .ok (.iconst 2, 1) := by decide +kernel
theorem dX3_beginsWithOneOf_72 : decode cX3_beginsWithOneOf 72 = .ok (.iadd, 1) := by decide +kernel
theorem dX3_beginsWithOneOf_73 : decode cX3_beginsWithOneOf 73 = .ok (.invokevirtual 82, 3) := by decide +kernel
theorem dX3_beginsWithOneOf_76 : decode cX3_beginsWithOneOf 76 = .ok (.if_icmp .ne 5, 3) := by decide +kernel
theorem dX3_beginsWithOneOf_79 : decode cX3_beginsWithOneOf 79 = .ok (.iconst 1, 1) := by decide +kernel
theorem dX3_beginsWithOneOf_80 : decode cX3_beginsWithOneOf 80 = .ok (.ireturn, 1) := by decide +kernel
theorem dX3_beginsWithOneOf_81 : decode cX3_beginsWithOneOf 81 = .ok (.iinc 2 3, 3) := by decide +kernel
theorem dX3_beginsWithOneOf_84 : decode cX3_beginsWithOneOf 84 = .ok (.goto (-71), 3) := by decide +kernel
theorem dX3_beginsWithOneOf_87 : decode cX3_beginsWithOneOf 87 = .ok (.iconst 0, 1) := by decide +kernel
theorem dX3_beginsWithOneOf_88 : decode cX3_beginsWithOneOf 88 = .ok (.ireturn, 1) := by decide +kernel
theorem dX4_init_0 : decode cX4_init 0 = .ok (.aload_n 0, 1) := by decide +kernel
theorem dX4_init_1 : decode cX4_init 1 = .ok (.invokespecial 1, 3) := by decide +kernel
theorem dX4_init_4 : decode cX4_init 4 = .ok (.aload_n 0, 1) := by decide +kernel
theorem dX4_init_5 : decode cX4_init 5 = .ok (.iload_n 1, 1) := by decide +kernel
theorem dX4_init_6 : decode cX4_init 6 = .ok (.putfield 7, 3) := by decide +kernel
theorem dX4_init_9 : decode cX4_init 9 = .ok (.aload_n 0, 1) := by decide +kernel
theorem dX4_init_10 : decode cX4_init 10 = .ok (.aload_n 2, 1) := by decide +kernel
theorem dX4_init_11 : decode cX4_init 11 = .ok (.putfield 13, 3) := by decide +kernel
theorem dX4_init_14 : decode cX4_init 14 = .ok (.aload_n 0, 1) := by decide +kernel
theorem dX4_init_15 : decode cX4_init 15 = .ok (.aload_n 3, 1) := by decide +kernel
theorem dX4_init_16 : decode cX4_init 16 = .ok (.putfield 17, 3) := by decide +kernel
theorem dX4_init_19 : decode cX4_init 19 = .ok (.aload_n 0, 1) := by decide +kernel
theorem dX4_init_20 : decode cX4_init 20 = .ok (.aload 4, 2) := by decide +kernel
theorem dX4_init_22 : decode cX4_init 22 = .ok (.putfield 21, 3) := by decide +kernel
theorem dX4_init_25 : decode cX4_init 25 = .ok (.aload_n 0, 1) := by decide +kernel
theorem dX4_init_26 : decode cX4_init 26 = .ok (.aload 5, 2) := by decide +kernel
theorem dX4_init_28 : decode cX4_init 28 = .ok (.putfield 25, 3) := by decide +kernel
theorem dX4_init_31 : decode cX4_init 31 = .ok (.aload_n 0, 1) := by decide +kernel
theorem dX4_init_32 : decode cX4_init 32 = .ok (.iload 6, 2) := by decide +kernel
theorem dX4_init_34 : decode cX4_init 34 = .ok (.putfield 29, 3) := by decide +kernel
theorem dX4_init_37 : decode cX4_init 37 = .ok (.aload_n 0, 1) := by decide +kernel
theorem dX4_init_38 : decode cX4_init 38 = .ok (.iconst 0, 1) := by decide +kernel
theorem dX4_init_39 : decode cX4_init 39 = .ok (.putfield 33, 3) := by decide +kernel
theorem dX4_init_42 : decode cX4_init 42 = .ok (.aload_n 0, 1) := by decide +kernel
theorem dX4_init_43 : decode cX4_init 43 = .ok (.iconst 0, 1) := by decide +kernel
theorem dX4_init_44 : decode cX4_init 44 = .ok (.putfield 36, 3) := by decide +kernel
theorem dX4_init_47 : decode cX4_init 47 = .ok (.return_, 1) := by decide +kernel
theorem dX4_isFolder_0 : decode cX4_isFolder 0 = .ok (.aload_n 0, 1) := by decide +kernel
theorem dX4_isFolder_1 : decode cX4_isFolder 1 = .ok (.getfield 21, 3) := by decide +kernel
theorem dX4_isFolder_4 : decode cX4_isFolder 4 = .ok (.ifnonnull 14, 3) := by decide +kernel
theorem dX4_isFolder_7 : decode cX4_isFolder 7 = .ok (.aload_n 0, 1) := by decide +kernel
theorem dX4_isFolder_8 : decode cX4_isFolder 8 = .ok (.getfield 25, 3) := by decide +kernel
theorem dX4_isFolder_11 : decode cX4_isFolder 11 = .ok (.ifnonnull 7, 3) := by decide +kernel
theorem dX4_isFolder_14 : decode cX4_isFolder 14 = .ok (.iconst 1, 1) := by decide +kernel
theorem dX4_isFolder_15 : decode cX4_isFolder 15 = .ok (.goto 4, 3) := by decide +kernel
theorem dX4_isFolder_18 : decode cX4_isFolder 18 = .ok (.iconst 0, 1) := by decide +kernel
theorem dX4_isFolder_19 : decode cX4_isFolder 19 = .ok (.ireturn, 1) := by decide +kernel
theorem dX4_up_0 : decode cX4_up 0 = .ok (.aload_n 0, 1) := by decide +kernel
theorem dX4_up_1 : decode cX4_up 1 = .ok (.getfield 13, 3) := by decide +kernel
theorem dX4_up_4 : decode cX4_up 4 = .ok (.ifnonnull 7, 3) := by decide +kernel
theorem dX4_up_7 : decode cX4_up 7 = .ok (.aload_n 0, 1) := by decide +kernel
theorem dX4_up_8 : decode cX4_up 8 = .ok (.goto 7, 3) := by decide +kernel
theorem dX4_up_11 : decode cX4_up 11 = .ok (.aload_n 0, 1) := by decide +kernel
theorem dX4_up_12 : decode cX4_up 12 = .ok (.getfield 13, 3) := by decide +kernel
theorem dX4_up_15 : decode cX4_up 15 = .ok (.areturn, 1) := by decide +kernel
theorem dX4_state_0 : decode cX4_state 0 = .ok (.aload_n 0, 1) := by decide +kernel
theorem dX4_state_1 : decode cX4_state 1 = .ok (.getfield 36, 3) := by decide +kernel
theorem dX4_state_4 : decode cX4_state 4 = .ok (.ifCond .eq 5, 3) := by decide +kernel
theorem dX4_state_7 : decode cX4_state 7 = .ok (.iconst (-1), 1) := by decide +kernel
theorem dX4_state_8 : decode cX4_state 8 = .ok (.ireturn, 1) := by decide +kernel
theorem dX4_state_9 : decode cX4_state 9 = .ok (.aload_n 0, 1) := by decide +kernel
theorem dX4_state_10 : decode cX4_state 10 = .ok (.getfield 21, 3) := by decide +kernel
theorem dX4_state_13 : decode cX4_state 13 = .ok (.ifnull 5, 3) := by decide +kernel
theorem dX4_state_16 : decode cX4_state 16 = .ok (.iconst 2, 1) := by decide +kernel
theorem dX4_state_17 : decode cX4_state 17 = .ok (.ireturn, 1) := by decide +kernel
theorem dX4_state_18 : decode cX4_state 18 = .ok (.aload_n 0, 1) := by decide +kernel
theorem dX4_state_19 : decode cX4_state 19 = .ok (.getfield 25, 3) := by decide +kernel
theorem dX4_state_22 : decode cX4_state 22 = .ok (.ifnull 16, 3) := by decide +kernel
theorem dX4_state_25 : decode cX4_state 25 = .ok (.aload_n 0, 1) := by decide +kernel
theorem dX4_state_26 : decode cX4_state 26 = .ok (.getfield 29, 3) := by decide +kernel
theorem dX4_state_29 : decode cX4_state 29 = .ok (.ifCond .eq 7, 3) := by decide +kernel
theorem dX4_state_32 : decode cX4_state 32 = .ok (.iconst 4, 1) := by decide +kernel
theorem dX4_state_33 : decode cX4_state 33 = .ok (.goto 4, 3) := by decide +kernel
theorem dX4_state_36 : decode cX4_state 36 = .ok (.iconst 3, 1) := by decide +kernel
theorem dX4_state_37 : decode cX4_state 37 = .ok (.ireturn, 1) := by decide +kernel
theorem dX4_state_38 : decode cX4_state 38 = .ok (.aload_n 0, 1) := by decide +kernel
theorem dX4_state_39 : decode cX4_state 39 = .ok (.getfield 33, 3) := by decide +kernel
theorem dX4_state_42 : decode cX4_state 42 = .ok (.ifCond .eq 7, 3) := by decide +kernel
theorem dX4_state_45 : decode cX4_state 45 = .ok (.iconst 1, 1) := by decide +kernel
theorem dX4_state_46 : decode cX4_state 46 = .ok (.goto 4, 3) := by decide +kernel
theorem dX4_state_49 : decode cX4_state 49 = .ok (.iconst 0, 1) := by decide +kernel
theorem dX4_state_50 : decode cX4_state 50 = .ok (.ireturn, 1) := by decide +kernel
theorem dX5_init_0 : decode cX5_init 0 = .ok (.aload_n 0, 1) := by decide +kernel
theorem dX5_init_1 : decode cX5_init 1 = .ok (.invokespecial 1, 3) := by decide +kernel
theorem dX5_init_4 : decode cX5_init 4 = .ok (.aload_n 0, 1) := by decide +kernel
theorem dX5_init_5 : decode cX5_init 5 = .ok (.aload_n 1, 1) := by decide +kernel
theorem dX5_init_6 : decode cX5_init 6 = .ok (.putfield 7, 3) := by decide +kernel
theorem dX5_init_9 : decode cX5_init 9 = .ok (.aload_n 0, 1) := by decide +kernel
theorem dX5_init_10 : decode cX5_init 10 = .ok (.iload_n 2, 1) := by decide +kernel
theorem dX5_init_11 : decode cX5_init 11 = .ok (.putfield 13, 3) := by decide +kernel
theorem dX5_init_14 : decode cX5_init 14 = .ok (.return_, 1) := by decide +kernel
theorem dX6_init_0 : decode cX6_init 0 = .ok (.aload_n 0, 1) := by decide +kernel
theorem dX6_init_1 : decode cX6_init 1 = .ok (.invokespecial 1, 3) := by decide +kernel
theorem dX6_init_4 : decode cX6_init 4 = .ok (.aload_n 0, 1) := by decide +kernel
theorem dX6_init_5 : decode cX6_init 5 = .ok (.iload_n 1, 1) := by decide +kernel
theorem dX6_init_6 : decode cX6_init 6 = .ok (.putfield 7, 3) := by decide +kernel
theorem dX6_init_9 : decode cX6_init 9 = .ok (.aload_n 0, 1) := by decide +kernel
theorem dX6_init_10 : decode cX6_init 10 = .ok (.iload_n 2, 1) := by decide +kernel
theorem dX6_init_11 : decode cX6_init 11 = .ok (.putfield 13, 3) := by decide +kernel
theorem dX6_init_14 : decode cX6_init 14 = .ok (.aload_n 0, 1) := by decide +kernel
theorem dX6_init_15 : decode cX6_init 15 = .ok (.aload_n 3, 1) := by decide +kernel
theorem dX6_init_16 : decode cX6_init 16 = .ok (.putfield 17, 3) := by decide +kernel
theorem dX6_init_19 : decode cX6_init 19 = .ok (.aload_n 0, 1) := by decide +kernel
theorem dX6_init_20 : decode cX6_init 20 = .ok (.new 21, 3) := by decide +kernel
theorem dX6_init_23 : decode cX6_init 23 = .ok (.dup, 1) := by decide +kernel
theorem dX6_init_24 : decode cX6_init 24 = .ok (.getstatic 23, 3) := by decide +kernel
theorem dX6_init_27 : decode cX6_init 27 = .ok (.iconst 0, 1) := by decide +kernel
theorem dX6_init_28 : decode cX6_init 28 = .ok (.iconst 0, 1) := by decide +kernel
theorem dX6_init_29 : decode cX6_init 29 = .ok (.invokespecial 29, 3) := by decide +kernel
theorem dX6_init_32 : decode cX6_init 32 = .ok (.putfield 32, 3) := by decide +kernel
theorem dX6_init_35 : decode cX6_init 35 = .ok (.return_, 1) := by decide +kernel
theorem dX6_count_0 : decode cX6_count 0 = .ok (.aload_n 0, 1) := by decide +kernel
theorem dX6_count_1 : decode cX6_count 1 = .ok (.getfield 17, 3) := by decide +kernel
theorem dX6_count_4 : decode cX6_count 4 = .ok (.invokevirtual 36, 3) := by decide +kernel
theorem dX6_count_7 : decode cX6_count 7 = .ok (.ireturn, 1) := by decide +kernel
theorem dX6_at_0 : decode cX6_at 0 = .ok (.iload_n 1, 1) := by decide +kernel
theorem dX6_at_1 : decode cX6_at 1 = .ok (.ifCond .lt 28, 3) := by decide +kernel
theorem dX6_at_4 : decode cX6_at 4 = .ok (.iload_n 1, 1) := by decide +kernel
theorem dX6_at_5 : decode cX6_at 5 = .ok (.aload_n 0, 1) := by decide +kernel
theorem dX6_at_6 : decode cX6_at 6 = .ok (.getfield 17, 3) := by decide +kernel
theorem dX6_at_9 : decode cX6_at 9 = .ok (.invokevirtual 36, 3) := by decide +kernel
theorem dX6_at_12 : decode cX6_at 12 = .ok (.if_icmp .ge 17, 3) := by decide +kernel
theorem dX6_at_15 : decode cX6_at 15 = .ok (.aload_n 0, 1) := by decide +kernel
theorem dX6_at_16 : decode cX6_at 16 = .ok (.getfield 17, 3) := by decide +kernel
theorem dX6_at_19 : decode cX6_at 19 = .ok (.iload_n 1, 1) := by decide +kernel
theorem dX6_at_20 : decode cX6_at 20 = .ok (.invokevirtual 42, 3) := by decide +kernel
theorem dX6_at_23 : decode cX6_at 23 = .ok (.checkcast 21, 3) := by decide +kernel
theorem dX6_at_26 : decode cX6_at 26 = .ok (.goto 7, 3) := by decide +kernel
theorem dX6_at_29 : decode cX6_at 29 = .ok (.aload_n 0, 1) := by decide +kernel
theorem dX6_at_30 : decode cX6_at 30 = .ok (.getfield 32, 3) := by decide +kernel
theorem dX6_at_33 : decode cX6_at 33 = .ok (.areturn, 1) := by decide +kernel
theorem dX7_init_0 : decode cX7_init 0 = .ok (.aload_n 0, 1) := by decide +kernel
theorem dX7_init_1 : decode cX7_init 1 = .ok (.invokespecial 3, 3) := by decide +kernel
theorem dX7_init_4 : decode cX7_init 4 = .ok (.aload_n 0, 1) := by decide +kernel
theorem dX7_init_5 : decode cX7_init 5 = .ok (.iload_n 1, 1) := by decide +kernel
theorem dX7_init_6 : decode cX7_init 6 = .ok (.iconst 1, 1) := by decide +kernel
theorem dX7_init_7 : decode cX7_init 7 = .ok (.iand, 1) := by decide +kernel
theorem dX7_init_8 : decode cX7_init 8 = .ok (.ifCond .eq 7, 3) := by decide +kernel
theorem dX7_init_11 : decode cX7_init 11 = .ok (.iconst 1, 1) := by decide +kernel
theorem dX7_init_12 : decode cX7_init 12 = .ok (.goto 4, 3) := by decide +kernel
theorem dX7_init_15 : decode cX7_init 15 = .ok (.iconst 0, 1) := by decide +kernel
theorem dX7_init_16 : decode cX7_init 16 = .ok (.putfield 9, 3) := by decide +kernel
theorem dX7_init_19 : decode cX7_init 19 = .ok (.aload_n 0, 1) := by decide +kernel
theorem dX7_init_20 : decode cX7_init 20 = .ok (.iload_n 1, 1) := by decide +kernel
theorem dX7_init_21 : decode cX7_init 21 = .ok (.iconst 2, 1) := by decide +kernel
theorem dX7_init_22 : decode cX7_init 22 = .ok (.iand, 1) := by decide +kernel
theorem dX7_init_23 : decode cX7_init 23 = .ok (.ifCond .eq 7, 3) := by decide +kernel
theorem dX7_init_26 : decode cX7_init 26 = .ok (.iconst 1, 1) := by decide +kernel
theorem dX7_init_27 : decode cX7_init 27 = .ok (.goto 4, 3) := by decide +kernel
theorem dX7_init_30 : decode cX7_init 30 = .ok (.iconst 0, 1) := by decide +kernel
theorem dX7_init_31 : decode cX7_init 31 = .ok (.putfield 15, 3) := by decide +kernel
theorem dX7_init_34 : decode cX7_init 34 = .ok (.aload_n 0, 1) := by decide +kernel
theorem dX7_init_35 : decode cX7_init 35 = .ok (.iload_n 1, 1) := by decide +kernel
theorem dX7_init_36 : decode cX7_init 36 = .ok (.iconst 4, 1) := by decide +kernel
theorem dX7_init_37 : decode cX7_init 37 = .ok (.iand, 1) := by decide +kernel
theorem dX7_init_38 : decode cX7_init 38 = .ok (.ifCond .eq 7, 3) := by decide +kernel
theorem dX7_init_41 : decode cX7_init 41 = .ok (.iconst 1, 1) := by decide +kernel
theorem dX7_init_42 : decode cX7_init 42 = .ok (.goto 4, 3) := by decide +kernel
theorem dX7_init_45 : decode cX7_init 45 = .ok (.iconst 0, 1) := by decide +kernel
theorem dX7_init_46 : decode cX7_init 46 = .ok (.putfield 18, 3) := by decide +kernel
theorem dX7_init_49 : decode cX7_init 49 = .ok (.aload_n 0, 1) := by decide +kernel
theorem dX7_init_50 : decode cX7_init 50 = .ok (.iload_n 1, 1) := by decide +kernel
theorem dX7_init_51 : decode cX7_init 51 = .ok (.bipush 8, 2) := by decide +kernel
theorem dX7_init_53 : decode cX7_init 53 = .ok (.iand, 1) := by decide +kernel
theorem dX7_init_54 : decode cX7_init 54 = .ok (.ifCond .eq 7, 3) := by decide +kernel
theorem dX7_init_57 : decode cX7_init 57 = .ok (.iconst 1, 1) := by decide +kernel
theorem dX7_init_58 : decode cX7_init 58 = .ok (.goto 4, 3) := by decide +kernel
theorem dX7_init_61 : decode cX7_init 61 = .ok (.iconst 0, 1) := by decide +kernel
theorem dX7_init_62 : decode cX7_init 62 = .ok (.putfield 21, 3) := by decide +kernel
theorem dX7_init_65 : decode cX7_init 65 = .ok (.aload_n 0, 1) := by decide +kernel
theorem dX7_init_66 : decode cX7_init 66 = .ok (.iload_n 1, 1) := by decide +kernel
theorem dX7_init_67 : decode cX7_init 67 = .ok (.bipush 16, 2) := by decide +kernel
theorem dX7_init_69 : decode cX7_init 69 = .ok (.iand, 1) := by decide +kernel
theorem dX7_init_70 : decode cX7_init 70 = .ok (.ifCond .eq 7, 3) := by decide +kernel
theorem dX7_init_73 : decode cX7_init 73 = .ok (.iconst 1, 1) := by decide +kernel
theorem dX7_init_74 : decode cX7_init 74 = .ok (.goto 4, 3) := by decide +kernel
theorem dX7_init_77 : decode cX7_init 77 = .ok (.iconst 0, 1) := by decide +kernel
theorem dX7_init_78 : decode cX7_init 78 = .ok (.putfield 24, 3) := by decide +kernel
theorem dX7_init_81 : decode cX7_init 81 = .ok (.aload_n 0, 1) := by decide +kernel
theorem dX7_init_82 : decode cX7_init 82 = .ok (.iload_n 1, 1) := by decide +kernel
theorem dX7_init_83 : decode cX7_init 83 = .ok (.bipush 32, 2) := by decide +kernel
theorem dX7_init_85 : decode cX7_init 85 = .ok (.iand, 1) := by decide +kernel
theorem dX7_init_86 : decode cX7_init 86 = .ok (.ifCond .eq 7, 3) := by decide +kernel
theorem dX7_init_89 : decode cX7_init 89 = .ok (.iconst 1, 1) := by decide +kernel
theorem dX7_init_90 : decode cX7_init 90 = .ok (.goto 4, 3) := by decide +kernel
theorem dX7_init_93 : decode cX7_init 93 = .ok (.iconst 0, 1) := by decide +kernel
theorem dX7_init_94 : decode cX7_init 94 = .ok (.putfield 27, 3) := by decide +kernel
theorem dX7_init_97 : decode cX7_init 97 = .ok (.return_, 1) := by decide +kernel
theorem dX7_divides_0 : decode cX7_divides 0 = .ok (.iload_n 1, 1) := by decide +kernel
theorem dX7_divides_1 : decode cX7_divides 1 = .ok (.bipush 47, 2) := by decide +kernel
theorem dX7_divides_3 : decode cX7_divides 3 = .ok (.if_icmp .eq 16, 3) := by decide +kernel
theorem dX7_divides_6 : decode cX7_divides 6 = .ok (.aload_n 0, 1) := by decide +kernel
theorem dX7_divides_7 : decode cX7_divides 7 = .ok (.getfield 9, 3) := by decide +kernel
theorem dX7_divides_10 : decode cX7_divides 10 = .ok (.ifCond .eq 13, 3) := by decide +kernel
theorem dX7_divides_13 : decode cX7_divides 13 = .ok (.iload_n 1, 1) := by decide +kernel
theorem dX7_divides_14 : decode cX7_divides 14 = .ok (.bipush 92, 2) := by decide +kernel
theorem dX7_divides_16 : decode cX7_divides 16 = .ok (.if_icmp .ne 7, 3) := by decide +kernel
theorem dX7_divides_19 : decode cX7_divides 19 = .ok (.iconst 1, 1) := by decide +kernel
theorem dX7_divides_20 : decode cX7_divides 20 = .ok (.goto 4, 3) := by decide +kernel
theorem dX7_divides_23 : decode cX7_divides 23 = .ok (.iconst 0, 1) := by decide +kernel
theorem dX7_divides_24 : decode cX7_divides 24 = .ok (.ireturn, 1) := by decide +kernel
theorem dX7_takeAsOne_0 : decode cX7_takeAsOne 0 = .ok (.aload_n 1, 1) := by decide +kernel
theorem dX7_takeAsOne_1 : decode cX7_takeAsOne 1 = .ok (.aload_n 2, 1) := by decide +kernel
theorem dX7_takeAsOne_2 : decode cX7_takeAsOne 2 = .ok (.invokevirtual 30, 3) := by decide +kernel
theorem dX7_takeAsOne_5 : decode cX7_takeAsOne 5 = .ok (.ifCond .ne 18, 3) := by decide +kernel
theorem dX7_takeAsOne_8 : decode cX7_takeAsOne 8 = .ok (.aload_n 0, 1) := by decide +kernel
theorem dX7_takeAsOne_9 : decode cX7_takeAsOne 9 = .ok (.getfield 15, 3) := by decide +kernel
theorem dX7_takeAsOne_12 : decode cX7_takeAsOne 12 = .ok (.ifCond .eq 15, 3) := by decide +kernel
theorem dX7_takeAsOne_15 : decode cX7_takeAsOne 15 = .ok (.aload_n 1, 1) := by decide +kernel
theorem dX7_takeAsOne_16 : decode cX7_takeAsOne 16 = .ok (.aload_n 2, 1) := by decide +kernel
theorem dX7_takeAsOne_17 : decode cX7_takeAsOne 17 = .ok (.invokevirtual 36, 3) := by decide +kernel
theorem dX7_takeAsOne_20 : decode cX7_takeAsOne 20 = .ok (.ifCond .eq 7, 3) := by decide +kernel
theorem dX7_takeAsOne_23 : decode cX7_takeAsOne 23 = .ok (.iconst 1, 1) := by decide +kernel
theorem dX7_takeAsOne_24 : decode cX7_takeAsOne 24 = .ok (.goto 4, 3) := by decide +kernel
theorem dX7_takeAsOne_27 : decode cX7_takeAsOne 27 = .ok (.iconst 0, 1) := by decide +kernel
theorem dX7_takeAsOne_28 : decode cX7_takeAsOne 28 = .ok (.ireturn, 1) := by decide +kernel
theorem dX8_init_0 : decode cX8_init 0 = .ok (.aload_n 0, 1) := by decide +kernel
theorem dX8_init_1 : decode cX8_init 1 = .ok (.invokespecial 3, 3) := by decide +kernel
theorem dX8_init_4 : decode cX8_init 4 = .ok (.aload_n 0, 1) := by decide +kernel
theorem dX8_init_5 : decode cX8_init 5 = .ok (.aload_n 1, 1) := by decide +kernel
theorem dX8_init_6 : decode cX8_init 6 = .ok (.putfield 9, 3) := by decide +kernel
theorem dX8_init_9 : decode cX8_init 9 = .ok (.aload_n 0, 1) := by decide +kernel
theorem dX8_init_10 : decode cX8_init 10 = .ok (.aload_n 2, 1) := by decide +kernel
theorem dX8_init_11 : decode cX8_init 11 = .ok (.putfield 15, 3) := by decide +kernel
theorem dX8_init_14 : decode cX8_init 14 = .ok (.aload_n 0, 1) := by decide +kernel
theorem dX8_init_15 : decode cX8_init 15 = .ok (.aload_n 3, 1) := by decide +kernel
theorem dX8_init_16 : decode cX8_init 16 = .ok (.putfield 19, 3) := by decide +kernel
theorem dX8_init_19 : decode cX8_init 19 = .ok (.aload_n 0, 1) := by decide +kernel
theorem dX8_init_20 : decode cX8_init 20 = .ok (.new 23, 3) := by decide +kernel
theorem dX8_init_23 : decode cX8_init 23 = .ok (.dup, 1) := by decide +kernel
theorem dX8_init_24 : decode cX8_init 24 = .ok (.invokespecial 25, 3) := by decide +kernel
theorem dX8_init_27 : decode cX8_init 27 = .ok (.putfield 26, 3) := by decide +kernel
theorem dX8_init_30 : decode cX8_init 30 = .ok (.aload_n 0, 1) := by decide +kernel
theorem dX8_init_31 : decode cX8_init 31 = .ok (.ldc2_w 30, 3) := by decide +kernel
theorem dX8_init_34 : decode cX8_init 34 = .ok (.putfield 32, 3) := by decide +kernel
theorem dX8_init_37 : decode cX8_init 37 = .ok (.aload_n 0, 1) := by decide +kernel
theorem dX8_init_38 : decode cX8_init 38 = .ok (.ldc2_w 36, 3) := by decide +kernel
theorem dX8_init_41 : decode cX8_init 41 = .ok (.putfield 38, 3) := by decide +kernel
theorem dX8_init_44 : decode cX8_init 44 = .ok (.aload_n 0, 1) := by decide +kernel
theorem dX8_init_45 : decode cX8_init 45 = .ok (.iconst 0, 1) := by decide +kernel
theorem dX8_init_46 : decode cX8_init 46 = .ok (.putfield 41, 3) := by decide +kernel
theorem dX8_init_49 : decode cX8_init 49 = .ok (.aload_n 0, 1) := by decide +kernel
theorem dX8_init_50 : decode cX8_init 50 = .ok (.lconst 0, 1) := by decide +kernel
theorem dX8_init_51 : decode cX8_init 51 = .ok (.putfield 45, 3) := by decide +kernel
theorem dX8_init_54 : decode cX8_init 54 = .ok (.aload_n 0, 1) := by decide +kernel
theorem dX8_init_55 : decode cX8_init 55 = .ok (.aload_n 2, 1) := by decide +kernel
theorem dX8_init_56 : decode cX8_init 56 = .ok (.getfield 48, 3) := by decide +kernel
theorem dX8_init_59 : decode cX8_init 59 = .ok (.putfield 54, 3) := by decide +kernel
theorem dX8_init_62 : decode cX8_init 62 = .ok (.aload_n 0, 1) := by decide +kernel
theorem dX8_init_63 : decode cX8_init 63 = .ok (.iconst 0, 1) := by decide +kernel
theorem dX8_init_64 : decode cX8_init 64 = .ok (.putfield 57, 3) := by decide +kernel
theorem dX8_init_67 : decode cX8_init 67 = .ok (.aload_n 0, 1) := by decide +kernel
theorem dX8_init_68 : decode cX8_init 68 = .ok (.aconst_null, 1) := by decide +kernel
theorem dX8_init_69 : decode cX8_init 69 = .ok (.putfield 60, 3) := by decide +kernel
theorem dX8_init_72 : decode cX8_init 72 = .ok (.aload_n 0, 1) := by decide +kernel
theorem dX8_init_73 : decode cX8_init 73 = .ok (.aconst_null, 1) := by decide +kernel
theorem dX8_init_74 : decode cX8_init 74 = .ok (.putfield 63, 3) := by decide +kernel
theorem dX8_init_77 : decode cX8_init 77 = .ok (.aload_n 0, 1) := by decide +kernel
theorem dX8_init_78 : decode cX8_init 78 = .ok (.aconst_null, 1) := by decide +kernel
theorem dX8_init_79 : decode cX8_init 79 = .ok (.putfield 66, 3) := by decide +kernel
theorem dX8_init_82 : decode cX8_init 82 = .ok (.aload_n 0, 1) := by decide +kernel
theorem dX8_init_83 : decode cX8_init 83 = .ok (.iconst 0, 1) := by decide +kernel
theorem dX8_init_84 : decode cX8_init 84 = .ok (.putfield 70, 3) := by decide +kernel
theorem dX8_init_87 : decode cX8_init 87 = .ok (.return_, 1) := by decide +kernel
theorem dX8_changeNodeLimit_0 : decode cX8_changeNodeLimit 0 = .ok (.aload_n 0, 1) := by decide +kernel
theorem dX8_changeNodeLimit_1 : decode cX8_changeNodeLimit 1 = .ok (.getfield 32, 3) := by decide +kernel
theorem dX8_changeNodeLimit_4 : decode cX8_changeNodeLimit 4 = .ok (.lstore_n 3, 1) := by decide +kernel
theorem dX8_changeNodeLimit_5 : decode cX8_changeNodeLimit 5 = .ok (.aload_n 0, 1) := by decide +kernel
theorem dX8_changeNodeLimit_6 : decode cX8_changeNodeLimit 6 = .ok (.lload_n 1, 1) := by decide +kernel
theorem dX8_changeNodeLimit_7 : decode cX8_changeNodeLimit 7 = .ok (.putfield 32, 3) := by decide +kernel
theorem dX8_changeNodeLimit_10 : decode cX8_changeNodeLimit 10 = .ok (.lload_n 3, 1) := by decide +kernel
theorem dX8_changeNodeLimit_11 : decode cX8_changeNodeLimit 11 = .ok (.lreturn, 1) := by decide +kernel
theorem dX8_changeSizeLimit_0 : decode cX8_changeSizeLimit 0 = .ok (.aload_n 0, 1) := by decide +kernel
theorem dX8_changeSizeLimit_1 : decode cX8_changeSizeLimit 1 = .ok (.getfield 38, 3) := by decide +kernel
theorem dX8_changeSizeLimit_4 : decode cX8_changeSizeLimit 4 = .ok (.lstore_n 3, 1) := by decide +kernel
theorem dX8_changeSizeLimit_5 : decode cX8_changeSizeLimit 5 = .ok (.aload_n 0, 1) := by decide +kernel
theorem dX8_changeSizeLimit_6 : decode cX8_changeSizeLimit 6 = .ok (.lload_n 1, 1) := by decide +kernel
theorem dX8_changeSizeLimit_7 : decode cX8_changeSizeLimit 7 = .ok (.putfield 38, 3) := by decide +kernel
theorem dX8_changeSizeLimit_10 : decode cX8_changeSizeLimit 10 = .ok (.lload_n 3, 1) := by decide +kernel
theorem dX8_changeSizeLimit_11 : decode cX8_changeSizeLimit 11 = .ok (.lreturn, 1) := by decide +kernel
theorem dX8_notedCount_0 : decode cX8_notedCount 0 = .ok (.aload_n 0, 1) := by decide +kernel
theorem dX8_notedCount_1 : decode cX8_notedCount 1 = .ok (.getfield 26, 3) := by decide +kernel
theorem dX8_notedCount_4 : decode cX8_notedCount 4 = .ok (.invokevirtual 74, 3) := by decide +kernel
theorem dX8_notedCount_7 : decode cX8_notedCount 7 = .ok (.ireturn, 1) := by decide +kernel
theorem dX8_setNotedRights_0 : decode cX8_setNotedRights 0 = .ok (.iconst 0, 1) := by decide +kernel
theorem dX8_setNotedRights_1 : decode cX8_setNotedRights 1 = .ok (.istore_n 1, 1) := by decide +kernel
theorem dX8_setNotedRights_2 : decode cX8_setNotedRights 2 = .ok (.iload_n 1, 1) := by decide +kernel
theorem dX8_setNotedRights_3 : decode cX8_setNotedRights 3 = .ok (.aload_n 0, 1) := by decide +kernel
theorem dX8_setNotedRights_4 : decode cX8_setNotedRights 4 = .ok (.getfield 26, 3) := by decide +kernel
theorem dX8_setNotedRights_7 : decode cX8_setNotedRights 7 = .ok (.invokevirtual 74, 3) := by decide +kernel
theorem dX8_setNotedRights_10 : decode cX8_setNotedRights 10 = .ok (.if_icmp .ge 32, 3) := by decide +kernel
theorem dX8_setNotedRights_13 : decode cX8_setNotedRights 13 = .ok (.aload_n 0, 1) := by decide +kernel
theorem dX8_setNotedRights_14 : decode cX8_setNotedRights 14 = .ok (.getfield 26, 3) := by decide +kernel
theorem dX8_setNotedRights_17 : decode cX8_setNotedRights 17 = .ok (.iload_n 1, 1) := by decide +kernel
theorem dX8_setNotedRights_18 : decode cX8_setNotedRights 18 = .ok (.invokevirtual 78, 3) := by decide +kernel
theorem dX8_setNotedRights_21 : decode cX8_setNotedRights 21 = .ok (.checkcast 82, 3) := by decide +kernel
theorem dX8_setNotedRights_24 : decode cX8_setNotedRights 24 = .ok (.astore_n 2, 1) := by decide +kernel
theorem dX8_setNotedRights_25 : decode cX8_setNotedRights 25 = .ok (.aload_n 2, 1) := by decide +kernel
theorem dX8_setNotedRights_26 : decode cX8_setNotedRights 26 = .ok (.getfield 84, 3) := by decide +kernel
theorem dX8_setNotedRights_29 : decode cX8_setNotedRights 29 = .ok (.aload_n 2, 1) := by decide +kernel
theorem dX8_setNotedRights_30 : decode cX8_setNotedRights 30 = .ok (.getfield 85, 3) := by decide +kernel
theorem dX8_setNotedRights_33 : decode cX8_setNotedRights 33 = .ok (.putfield 88, 3) := by decide +kernel
theorem dX8_setNotedRights_36 : decode cX8_setNotedRights 36 = .ok (.iinc 1 1, 3) := by decide +kernel
theorem dX8_setNotedRights_39 : decode cX8_setNotedRights 39 = .ok (.goto (-37), 3) := by decide +kernel
theorem dX8_setNotedRights_42 : decode cX8_setNotedRights 42 = .ok (.aload_n 0, 1) := by decide +kernel
theorem dX8_setNotedRights_43 : decode cX8_setNotedRights 43 = .ok (.getfield 26, 3) := by decide +kernel
theorem dX8_setNotedRights_46 : decode cX8_setNotedRights 46 = .ok (.invokevirtual 91, 3) := by decide +kernel
theorem dX8_setNotedRights_49 : decode cX8_setNotedRights 49 = .ok (.return_, 1) := by decide +kernel
theorem dX8_judge_0 : decode cX8_judge 0 = .ok (.aload_n 0, 1) := by decide +kernel
theorem dX8_judge_1 : decode cX8_judge 1 = .ok (.invokevirtual 94, 3) := by decide +kernel
theorem dX8_judge_4 : decode cX8_judge 4 = .ok (.aload_n 0, 1) := by decide +kernel
theorem dX8_judge_5 : decode cX8_judge 5 = .ok (.aload_n 1, 1) := by decide +kernel
theorem dX8_judge_6 : decode cX8_judge 6 = .ok (.getfield 97, 3) := by decide +kernel
theorem dX8_judge_9 : decode cX8_judge 9 = .ok (.invokevirtual 103, 3) := by decide +kernel
theorem dX8_judge_12 : decode cX8_judge 12 = .ok (.istore_n 2, 1) := by decide +kernel
theorem dX8_judge_13 : decode cX8_judge 13 = .ok (.iload_n 2, 1) := by decide +kernel
theorem dX8_judge_14 : decode cX8_judge 14 = .ok (.ifCond .ne 24, 3) := by decide +kernel
theorem dX8_judge_17 : decode cX8_judge 17 = .ok (.aload_n 0, 1) := by decide +kernel
theorem dX8_judge_18 : decode cX8_judge 18 = .ok (.aload_n 1, 1) := by decide +kernel
theorem dX8_judge_19 : decode cX8_judge 19 = .ok (.getfield 97, 3) := by decide +kernel
theorem dX8_judge_22 : decode cX8_judge 22 = .ok (.aload_n 1, 1) := by decide +kernel
theorem dX8_judge_23 : decode cX8_judge 23 = .ok (.getfield 97, 3) := by decide +kernel
theorem dX8_judge_26 : decode cX8_judge 26 = .ok (.invokevirtual 107, 3) := by decide +kernel
theorem dX8_judge_29 : decode cX8_judge 29 = .ok (.iconst 1, 1) := by decide +kernel
theorem dX8_judge_30 : decode cX8_judge 30 = .ok (.isub, 1) := by decide +kernel
theorem dX8_judge_31 : decode cX8_judge 31 = .ok (.invokevirtual 112, 3) := by decide +kernel
theorem dX8_judge_34 : decode cX8_judge 34 = .ok (.invokevirtual 116, 3) := by decide +kernel
theorem dX8_judge_37 : decode cX8_judge 37 = .ok (.istore_n 2, 1) := by decide +kernel
theorem dX8_judge_38 : decode cX8_judge 38 = .ok (.iload_n 2, 1) := by decide +kernel
theorem dX8_judge_39 : decode cX8_judge 39 = .ok (.ifCond .ne 9, 3) := by decide +kernel
theorem dX8_judge_42 : decode cX8_judge 42 = .ok (.aload_n 0, 1) := by decide +kernel
theorem dX8_judge_43 : decode cX8_judge 43 = .ok (.aload_n 1, 1) := by decide +kernel
theorem dX8_judge_44 : decode cX8_judge 44 = .ok (.invokevirtual 120, 3) := by decide +kernel
theorem dX8_judge_47 : decode cX8_judge 47 = .ok (.istore_n 2, 1) := by decide +kernel
theorem dX8_judge_48 : decode cX8_judge 48 = .ok (.iload_n 2, 1) := by decide +kernel
theorem dX8_judge_49 : decode cX8_judge 49 = .ok (.ifCond .ne 16, 3) := by decide +kernel
theorem dX8_judge_52 : decode cX8_judge 52 = .ok (.aload_n 0, 1) := by decide +kernel
theorem dX8_judge_53 : decode cX8_judge 53 = .ok (.getfield 63, 3) := by decide +kernel
theorem dX8_judge_56 : decode cX8_judge 56 = .ok (.ifnonnull 9, 3) := by decide +kernel
theorem dX8_judge_59 : decode cX8_judge 59 = .ok (.aload_n 0, 1) := by decide +kernel
theorem dX8_judge_60 : decode cX8_judge 60 = .ok (.aload_n 1, 1) := by decide +kernel
theorem dX8_judge_61 : decode cX8_judge 61 = .ok (.invokevirtual 124, 3) := by decide +kernel
theorem dX8_judge_64 : decode cX8_judge 64 = .ok (.istore_n 2, 1) := by decide +kernel
theorem dX8_judge_65 : decode cX8_judge 65 = .ok (.iload_n 2, 1) := by decide +kernel
theorem dX8_judge_66 : decode cX8_judge 66 = .ok (.ireturn, 1) := by decide +kernel
theorem dX8_forgetLastJudgement_0 : decode cX8_forgetLastJudgement 0 = .ok (.aload_n 0, 1) := by decide +kernel
theorem dX8_forgetLastJudgement_1 : decode cX8_forgetLastJudgement 1 = .ok (.aload_n 0, 1) := by decide +kernel
theorem dX8_forgetLastJudgement_2 : decode cX8_forgetLastJudgement 2 = .ok (.getfield 15, 3) := by decide +kernel
theorem dX8_forgetLastJudgement_5 : decode cX8_forgetLastJudgement 5 = .ok (.getfield 48, 3) := by decide +kernel
theorem dX8_forgetLastJudgement_8 : decode cX8_forgetLastJudgement 8 = .ok (.putfield 54, 3) := by decide +kernel
theorem dX8_forgetLastJudgement_11 : decode cX8_forgetLastJudgement 11 = .ok (.aload_n 0, 1) := by decide +kernel
theorem dX8_forgetLastJudgement_12 : decode cX8_forgetLastJudgement 12 = .ok (.iconst 0, 1) := by decide +kernel
theorem dX8_forgetLastJudgement_13 : decode cX8_forgetLastJudgement 13 = .ok (.putfield 57, 3) := by decide +kernel
theorem dX8_forgetLastJudgement_16 : decode cX8_forgetLastJudgement 16 = .ok (.aload_n 0, 1) := by decide +kernel
theorem dX8_forgetLastJudgement_17 : decode cX8_forgetLastJudgement 17 = .ok (.aconst_null, 1) := by decide +kernel
theorem dX8_forgetLastJudgement_18 : decode cX8_forgetLastJudgement 18 = .ok (.putfield 60, 3) := by decide +kernel
theorem dX8_forgetLastJudgement_21 : decode cX8_forgetLastJudgement 21 = .ok (.aload_n 0, 1) := by decide +kernel
theorem dX8_forgetLastJudgement_22 : decode cX8_forgetLastJudgement 22 = .ok (.aconst_null, 1) := by decide +kernel
theorem dX8_forgetLastJudgement_23 : decode cX8_forgetLastJudgement 23 = .ok (.putfield 63, 3) := by decide +kernel
theorem dX8_forgetLastJudgement_26 : decode cX8_forgetLastJudgement 26 = .ok (.aload_n 0, 1) := by decide +kernel
theorem dX8_forgetLastJudgement_27 : decode cX8_forgetLastJudgement 27 = .ok (.aconst_null, 1) := by decide +kernel
theorem dX8_forgetLastJudgement_28 : decode cX8_forgetLastJudgement 28 = .ok (.putfield 66, 3) := by decide +kernel
theorem dX8_forgetLastJudgement_31 : decode cX8_forgetLastJudgement 31 = .ok (.aload_n 0, 1) := by decide +kernel
theorem dX8_forgetLastJudgement_32 : decode cX8_forgetLastJudgement 32 = .ok (.iconst 0, 1) := by decide +kernel
theorem dX8_forgetLastJudgement_33 : decode cX8_forgetLastJudgement 33 = .ok (.putfield 70, 3) := by decide +kernel
theorem dX8_forgetLastJudgement_36 : decode cX8_forgetLastJudgement 36 = .ok (.return_, 1) := by decide +kernel
theorem dX8_judgeWay_0 : decode cX8_judgeWay 0 = .ok (.iconst 0, 1) := by decide +kernel
theorem dX8_judgeWay_1 : decode cX8_judgeWay 1 = .ok (.istore_n 2, 1) := by decide +kernel
theorem dX8_judgeWay_2 : decode cX8_judgeWay 2 = .ok (.iload_n 2, 1) := by decide +kernel
theorem dX8_judgeWay_3 : decode cX8_judgeWay 3 = .ok (.iconst 1, 1) := by decide +kernel
theorem dX8_judgeWay_4 : decode cX8_judgeWay 4 = .ok (.iadd, 1) := by decide +kernel
theorem dX8_judgeWay_5 : decode cX8_judgeWay 5 = .ok (.aload_n 1, 1) := by decide +kernel
theorem dX8_judgeWay_6 : decode cX8_judgeWay 6 = .ok (.invokevirtual 107, 3) := by decide +kernel
theorem dX8_judgeWay_9 : decode cX8_judgeWay 9 = .ok (.if_icmp .ge 25, 3) := by decide +kernel
theorem dX8_judgeWay_12 : decode cX8_judgeWay 12 = .ok (.aload_n 0, 1) := by decide +kernel
theorem dX8_judgeWay_13 : decode cX8_judgeWay 13 = .ok (.aload_n 1, 1) := by decide +kernel
theorem dX8_judgeWay_14 : decode cX8_judgeWay 14 = .ok (.iload_n 2, 1) := by decide +kernel
theorem dX8_judgeWay_15 : decode cX8_judgeWay 15 = .ok (.invokevirtual 112, 3) := by decide +kernel
theorem dX8_judgeWay_18 : decode cX8_judgeWay 18 = .ok (.invokevirtual 127, 3) := by decide +kernel
