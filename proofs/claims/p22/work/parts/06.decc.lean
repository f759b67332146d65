theorem dX0_init_0 : decode cX0_init 0 = .ok (.aload_n 0, 1) := by decide +kernel
theorem dX0_init_1 : decode cX0_init 1 = .ok (.invokespecial 3, 3) := by decide +kernel
theorem dX0_init_4 : decode cX0_init 4 = .ok (.aload_n 0, 1) := by decide +kernel
theorem dX0_init_5 : decode cX0_init 5 = .ok (.iload_n 1, 1) := by decide +kernel
theorem dX0_init_6 : decode cX0_init 6 = .ok (.putfield 9, 3) := by decide +kernel
theorem dX0_init_9 : decode cX0_init 9 = .ok (.aload_n 0, 1) := by decide +kernel
theorem dX0_init_10 : decode cX0_init 10 = .ok (.iload_n 2, 1) := by decide +kernel
theorem dX0_init_11 : decode cX0_init 11 = .ok (.putfield 15, 3) := by decide +kernel
theorem dX0_init_14 : decode cX0_init 14 = .ok (.aload_n 0, 1) := by decide +kernel
theorem dX0_init_15 : decode cX0_init 15 = .ok (.iload_n 3, 1) := by decide +kernel
theorem dX0_init_16 : decode cX0_init 16 = .ok (.putfield 18, 3) := by decide +kernel
theorem dX0_init_19 : decode cX0_init 19 = .ok (.return_, 1) := by decide +kernel
theorem dX0_whyNotPassed_0 : decode cX0_whyNotPassed 0 = .ok (.aload_n 0, 1) := by decide +kernel
theorem dX0_whyNotPassed_1 : decode cX0_whyNotPassed 1 = .ok (.getfield 9, 3) := by decide +kernel
theorem dX0_whyNotPassed_4 : decode cX0_whyNotPassed 4 = .ok (.tableswitch 120 0 3 #[32, 63, 76, 98], 32) := by decide +kernel
theorem dX0_whyNotPassed_36 : decode cX0_whyNotPassed 36 = .ok (.aload_n 1, 1) := by decide +kernel
theorem dX0_whyNotPassed_37 : decode cX0_whyNotPassed 37 = .ok (.getfield 21, 3) := by decide +kernel
theorem dX0_whyNotPassed_40 : decode cX0_whyNotPassed 40 = .ok (.aload_n 0, 1) := by decide +kernel
theorem dX0_whyNotPassed_41 : decode cX0_whyNotPassed 41 = .ok (.getfield 15, 3) := by decide +kernel
theorem dX0_whyNotPassed_44 : decode cX0_whyNotPassed 44 = .ok (.laload, 1) := by decide +kernel
theorem dX0_whyNotPassed_45 : decode cX0_whyNotPassed 45 = .ok (.aload_n 1, 1) := by decide +kernel
theorem dX0_whyNotPassed_46 : decode cX0_whyNotPassed 46 = .ok (.getfield 21, 3) := by decide +kernel
theorem dX0_whyNotPassed_49 : decode cX0_whyNotPassed 49 = .ok (.aload_n 0, 1) := by decide +kernel
theorem dX0_whyNotPassed_50 : decode cX0_whyNotPassed 50 = .ok (.getfield 18, 3) := by decide +kernel
theorem dX0_whyNotPassed_53 : decode cX0_whyNotPassed 53 = .ok (.laload, 1) := by decide +kernel
theorem dX0_whyNotPassed_54 : decode cX0_whyNotPassed 54 = .ok (.lcmp, 1) := by decide +kernel
theorem dX0_whyNotPassed_55 : decode cX0_whyNotPassed 55 = .ok (.ifCond .gt 7, 3) := by decide +kernel
theorem dX0_whyNotPassed_58 : decode cX0_whyNotPassed 58 = .ok (.iconst 1, 1) := by decide +kernel
theorem dX0_whyNotPassed_59 : decode cX0_whyNotPassed 59 = .ok (.goto 4, 3) := by decide +kernel
theorem dX0_whyNotPassed_62 : decode cX0_whyNotPassed 62 = .ok (.iconst 0, 1) := by decide +kernel
theorem dX0_whyNotPassed_63 : decode cX0_whyNotPassed 63 = .ok (.invokestatic 27, 3) := by decide +kernel
theorem dX0_whyNotPassed_66 : decode cX0_whyNotPassed 66 = .ok (.ireturn, 1) := by decide +kernel
theorem dX0_whyNotPassed_67 : decode cX0_whyNotPassed 67 = .ok (.aload_n 1, 1) := by decide +kernel
theorem dX0_whyNotPassed_68 : decode cX0_whyNotPassed 68 = .ok (.getfield 21, 3) := by decide +kernel
theorem dX0_whyNotPassed_71 : decode cX0_whyNotPassed 71 = .ok (.aload_n 0, 1) := by decide +kernel
theorem dX0_whyNotPassed_72 : decode cX0_whyNotPassed 72 = .ok (.getfield 15, 3) := by decide +kernel
theorem dX0_whyNotPassed_75 : decode cX0_whyNotPassed 75 = .ok (.laload, 1) := by decide +kernel
theorem dX0_whyNotPassed_76 : decode cX0_whyNotPassed 76 = .ok (.invokestatic 31, 3) := by decide +kernel
theorem dX0_whyNotPassed_79 : decode cX0_whyNotPassed 79 = .ok (.ireturn, 1) := by decide +kernel
theorem dX0_whyNotPassed_80 : decode cX0_whyNotPassed 80 = .ok (.aload_n 1, 1) := by decide +kernel
theorem dX0_whyNotPassed_81 : decode cX0_whyNotPassed 81 = .ok (.getfield 35, 3) := by decide +kernel
theorem dX0_whyNotPassed_84 : decode cX0_whyNotPassed 84 = .ok (.aload_n 0, 1) := by decide +kernel
theorem dX0_whyNotPassed_85 : decode cX0_whyNotPassed 85 = .ok (.getfield 15, 3) := by decide +kernel
theorem dX0_whyNotPassed_88 : decode cX0_whyNotPassed 88 = .ok (.aaload, 1) := by decide +kernel
theorem dX0_whyNotPassed_89 : decode cX0_whyNotPassed 89 = .ok (.aload_n 1, 1) := by decide +kernel
theorem dX0_whyNotPassed_90 : decode cX0_whyNotPassed 90 = .ok (.getfield 21, 3) := by decide +kernel
theorem dX0_whyNotPassed_93 : decode cX0_whyNotPassed 93 = .ok (.aload_n 0, 1) := by decide +kernel
theorem dX0_whyNotPassed_94 : decode cX0_whyNotPassed 94 = .ok (.getfield 18, 3) := by decide +kernel
theorem dX0_whyNotPassed_97 : decode cX0_whyNotPassed 97 = .ok (.laload, 1) := by decide +kernel
theorem dX0_whyNotPassed_98 : decode cX0_whyNotPassed 98 = .ok (.invokestatic 39, 3) := by decide +kernel
theorem dX0_whyNotPassed_101 : decode cX0_whyNotPassed 101 = .ok (.ireturn, 1) := by decide +kernel
theorem dX0_whyNotPassed_102 : decode cX0_whyNotPassed 102 = .ok (.aload_n 1, 1) := by decide +kernel
theorem dX0_whyNotPassed_103 : decode cX0_whyNotPassed 103 = .ok (.getfield 35, 3) := by decide +kernel
theorem dX0_whyNotPassed_106 : decode cX0_whyNotPassed 106 = .ok (.aload_n 0, 1) := by decide +kernel
theorem dX0_whyNotPassed_107 : decode cX0_whyNotPassed 107 = .ok (.getfield 15, 3) := by decide +kernel
theorem dX0_whyNotPassed_110 : decode cX0_whyNotPassed 110 = .ok (.aaload, 1) := by decide +kernel
theorem dX0_whyNotPassed_111 : decode cX0_whyNotPassed 111 = .ok (.aload_n 1, 1) := by decide +kernel
theorem dX0_whyNotPassed_112 : decode cX0_whyNotPassed 112 = .ok (.getfield 21, 3) := by decide +kernel
theorem dX0_whyNotPassed_115 : decode cX0_whyNotPassed 115 = .ok (.aload_n 0, 1) := by decide +kernel
theorem dX0_whyNotPassed_116 : decode cX0_whyNotPassed 116 = .ok (.getfield 18, 3) := by decide +kernel
theorem dX0_whyNotPassed_119 : decode cX0_whyNotPassed 119 = .ok (.laload, 1) := by decide +kernel
theorem dX0_whyNotPassed_120 : decode cX0_whyNotPassed 120 = .ok (.invokestatic 43, 3) := by decide +kernel
theorem dX0_whyNotPassed_123 : decode cX0_whyNotPassed 123 = .ok (.ireturn, 1) := by decide +kernel
theorem dX0_whyNotPassed_124 : decode cX0_whyNotPassed 124 = .ok (.aload_n 1, 1) := by decide +kernel
theorem dX0_whyNotPassed_125 : decode cX0_whyNotPassed 125 = .ok (.getfield 35, 3) := by decide +kernel
theorem dX0_whyNotPassed_128 : decode cX0_whyNotPassed 128 = .ok (.aload_n 0, 1) := by decide +kernel
theorem dX0_whyNotPassed_129 : decode cX0_whyNotPassed 129 = .ok (.getfield 15, 3) := by decide +kernel
theorem dX0_whyNotPassed_132 : decode cX0_whyNotPassed 132 = .ok (.aaload, 1) := by decide +kernel
theorem dX0_whyNotPassed_133 : decode cX0_whyNotPassed 133 = .ok (.aload_n 1, 1) := by decide +kernel
theorem dX0_whyNotPassed_134 : decode cX0_whyNotPassed 134 = .ok (.getfield 21, 3) := by decide +kernel
theorem dX0_whyNotPassed_137 : decode cX0_whyNotPassed 137 = .ok (.aload_n 0, 1) := by decide +kernel
theorem dX0_whyNotPassed_138 : decode cX0_whyNotPassed 138 = .ok (.getfield 18, 3) := by decide +kernel
theorem dX0_whyNotPassed_141 : decode cX0_whyNotPassed 141 = .ok (.laload, 1) := by decide +kernel
theorem dX0_whyNotPassed_142 : decode cX0_whyNotPassed 142 = .ok (.invokestatic 46, 3) := by decide +kernel
theorem dX0_whyNotPassed_145 : decode cX0_whyNotPassed 145 = .ok (.ireturn, 1) := by decide +kernel
theorem dX0_ownUnless_0 : decode cX0_ownUnless 0 = .ok (.iload_n 0, 1) := by decide +kernel
theorem dX0_ownUnless_1 : decode cX0_ownUnless 1 = .ok (.ifCond .eq 7, 3) := by decide +kernel
theorem dX0_ownUnless_4 : decode cX0_ownUnless 4 = .ok (.iconst 0, 1) := by decide +kernel
theorem dX0_ownUnless_5 : decode cX0_ownUnless 5 = .ok (.goto 4, 3) := by decide +kernel
theorem dX0_ownUnless_8 : decode cX0_ownUnless 8 = .ok (.iconst 2, 1) := by decide +kernel
theorem dX0_ownUnless_9 : decode cX0_ownUnless 9 = .ok (.ireturn, 1) := by decide +kernel
theorem dX0_whyNotDivisor_0 : decode cX0_whyNotDivisor 0 = .ok (.lload_n 0, 1) := by decide +kernel
theorem dX0_whyNotDivisor_1 : decode cX0_whyNotDivisor 1 = .ok (.lconst 0, 1) := by decide +kernel
theorem dX0_whyNotDivisor_2 : decode cX0_whyNotDivisor 2 = .ok (.lcmp, 1) := by decide +kernel
theorem dX0_whyNotDivisor_3 : decode cX0_whyNotDivisor 3 = .ok (.ifCond .ne 7, 3) := by decide +kernel
theorem dX0_whyNotDivisor_6 : decode cX0_whyNotDivisor 6 = .ok (.iconst 5, 1) := by decide +kernel
theorem dX0_whyNotDivisor_7 : decode cX0_whyNotDivisor 7 = .ok (.goto 21, 3) := by decide +kernel
theorem dX0_whyNotDivisor_10 : decode cX0_whyNotDivisor 10 = .ok (.ldc2_w 49, 3) := by decide +kernel
theorem dX0_whyNotDivisor_13 : decode cX0_whyNotDivisor 13 = .ok (.lload_n 0, 1) := by decide +kernel
theorem dX0_whyNotDivisor_14 : decode cX0_whyNotDivisor 14 = .ok (.lrem, 1) := by decide +kernel
theorem dX0_whyNotDivisor_15 : decode cX0_whyNotDivisor 15 = .ok (.lconst 0, 1) := by decide +kernel
theorem dX0_whyNotDivisor_16 : decode cX0_whyNotDivisor 16 = .ok (.lcmp, 1) := by decide +kernel
theorem dX0_whyNotDivisor_17 : decode cX0_whyNotDivisor 17 = .ok (.ifCond .ne 7, 3) := by decide +kernel
theorem dX0_whyNotDivisor_20 : decode cX0_whyNotDivisor 20 = .ok (.iconst 1, 1) := by decide +kernel
theorem dX0_whyNotDivisor_21 : decode cX0_whyNotDivisor 21 = .ok (.goto 4, 3) := by decide +kernel
theorem dX0_whyNotDivisor_24 : decode cX0_whyNotDivisor 24 = .ok (.iconst 0, 1) := by decide +kernel
theorem dX0_whyNotDivisor_25 : decode cX0_whyNotDivisor 25 = .ok (.invokestatic 27, 3) := by decide +kernel
theorem dX0_whyNotDivisor_28 : decode cX0_whyNotDivisor 28 = .ok (.ireturn, 1) := by decide +kernel
theorem dX0_whyNotItemAbove_0 : decode cX0_whyNotItemAbove 0 = .ok (.aload_n 0, 1) := by decide +kernel
theorem dX0_whyNotItemAbove_1 : decode cX0_whyNotItemAbove 1 = .ok (.instanceof 51, 3) := by decide +kernel
theorem dX0_whyNotItemAbove_4 : decode cX0_whyNotItemAbove 4 = .ok (.ifCond .eq 11, 3) := by decide +kernel
theorem dX0_whyNotItemAbove_7 : decode cX0_whyNotItemAbove 7 = .ok (.aload_n 0, 1) := by decide +kernel
theorem dX0_whyNotItemAbove_8 : decode cX0_whyNotItemAbove 8 = .ok (.checkcast 51, 3) := by decide +kernel
theorem dX0_whyNotItemAbove_11 : decode cX0_whyNotItemAbove 11 = .ok (.astore_n 3, 1) := by decide +kernel
theorem dX0_whyNotItemAbove_12 : decode cX0_whyNotItemAbove 12 = .ok (.goto 5, 3) := by decide +kernel
theorem dX0_whyNotItemAbove_15 : decode cX0_whyNotItemAbove 15 = .ok (.iconst 3, 1) := by decide +kernel
theorem dX0_whyNotItemAbove_16 : decode cX0_whyNotItemAbove 16 = .ok (.ireturn, 1) := by decide +kernel
theorem dX0_whyNotItemAbove_17 : decode cX0_whyNotItemAbove 17 = .ok (.lload_n 1, 1) := by decide +kernel
theorem dX0_whyNotItemAbove_18 : decode cX0_whyNotItemAbove 18 = .ok (.lconst 0, 1) := by decide +kernel
theorem dX0_whyNotItemAbove_19 : decode cX0_whyNotItemAbove 19 = .ok (.lcmp, 1) := by decide +kernel
theorem dX0_whyNotItemAbove_20 : decode cX0_whyNotItemAbove 20 = .ok (.ifCond .lt 14, 3) := by decide +kernel
theorem dX0_whyNotItemAbove_23 : decode cX0_whyNotItemAbove 23 = .ok (.lload_n 1, 1) := by decide +kernel
theorem dX0_whyNotItemAbove_24 : decode cX0_whyNotItemAbove 24 = .ok (.aload_n 3, 1) := by decide +kernel
theorem dX0_whyNotItemAbove_25 : decode cX0_whyNotItemAbove 25 = .ok (.getfield 53, 3) := by decide +kernel
theorem dX0_whyNotItemAbove_28 : decode cX0_whyNotItemAbove 28 = .ok (.arraylength, 1) := by decide +kernel
theorem dX0_whyNotItemAbove_29 : decode cX0_whyNotItemAbove 29 = .ok (.i2l, 1) := by decide +kernel
theorem dX0_whyNotItemAbove_30 : decode cX0_whyNotItemAbove 30 = .ok (.lcmp, 1) := by decide +kernel
theorem dX0_whyNotItemAbove_31 : decode cX0_whyNotItemAbove 31 = .ok (.ifCond .lt 5, 3) := by decide +kernel
theorem dX0_whyNotItemAbove_34 : decode cX0_whyNotItemAbove 34 = .ok (.iconst 4, 1) := by decide +kernel
theorem dX0_whyNotItemAbove_35 : decode cX0_whyNotItemAbove 35 = .ok (.ireturn, 1) := by decide +kernel
theorem dX0_whyNotItemAbove_36 : decode cX0_whyNotItemAbove 36 = .ok (.aload_n 3, 1) := by decide +kernel
theorem dX0_whyNotItemAbove_37 : decode cX0_whyNotItemAbove 37 = .ok (.getfield 53, 3) := by decide +kernel
theorem dX0_whyNotItemAbove_40 : decode cX0_whyNotItemAbove 40 = .ok (.lload_n 1, 1) := by decide +kernel
theorem dX0_whyNotItemAbove_41 : decode cX0_whyNotItemAbove 41 = .ok (.l2i, 1) := by decide +kernel
theorem dX0_whyNotItemAbove_42 : decode cX0_whyNotItemAbove 42 = .ok (.iaload, 1) := by decide +kernel
theorem dX0_whyNotItemAbove_43 : decode cX0_whyNotItemAbove 43 = .ok (.ifCond .le 7, 3) := by decide +kernel
theorem dX0_whyNotItemAbove_46 : decode cX0_whyNotItemAbove 46 = .ok (.iconst 1, 1) := by decide +kernel
theorem dX0_whyNotItemAbove_47 : decode cX0_whyNotItemAbove 47 = .ok (.goto 4, 3) := by decide +kernel
theorem dX0_whyNotItemAbove_50 : decode cX0_whyNotItemAbove 50 = .ok (.iconst 0, 1) := by decide +kernel
theorem dX0_whyNotItemAbove_51 : decode cX0_whyNotItemAbove 51 = .ok (.invokestatic 27, 3) := by decide +kernel
theorem dX0_whyNotItemAbove_54 : decode cX0_whyNotItemAbove 54 = .ok (.ireturn, 1) := by decide +kernel
theorem dX0_whyNotPartIs_0 : decode cX0_whyNotPartIs 0 = .ok (.aload_n 0, 1) := by decide +kernel
theorem dX0_whyNotPartIs_1 : decode cX0_whyNotPartIs 1 = .ok (.instanceof 22, 3) := by decide +kernel
theorem dX0_whyNotPartIs_4 : decode cX0_whyNotPartIs 4 = .ok (.ifCond .eq 11, 3) := by decide +kernel
theorem dX0_whyNotPartIs_7 : decode cX0_whyNotPartIs 7 = .ok (.aload_n 0, 1) := by decide +kernel
theorem dX0_whyNotPartIs_8 : decode cX0_whyNotPartIs 8 = .ok (.checkcast 22, 3) := by decide +kernel
theorem dX0_whyNotPartIs_11 : decode cX0_whyNotPartIs 11 = .ok (.astore_n 3, 1) := by decide +kernel
theorem dX0_whyNotPartIs_12 : decode cX0_whyNotPartIs 12 = .ok (.goto 5, 3) := by decide +kernel
theorem dX0_whyNotPartIs_15 : decode cX0_whyNotPartIs 15 = .ok (.iconst 3, 1) := by decide +kernel
theorem dX0_whyNotPartIs_16 : decode cX0_whyNotPartIs 16 = .ok (.ireturn, 1) := by decide +kernel
theorem dX0_whyNotPartIs_17 : decode cX0_whyNotPartIs 17 = .ok (.aload_n 3, 1) := by decide +kernel
theorem dX0_whyNotPartIs_18 : decode cX0_whyNotPartIs 18 = .ok (.invokevirtual 57, 3) := by decide +kernel
theorem dX0_whyNotPartIs_21 : decode cX0_whyNotPartIs 21 = .ok (.ifCond .ne 5, 3) := by decide +kernel
theorem dX0_whyNotPartIs_24 : decode cX0_whyNotPartIs 24 = .ok (.iconst 4, 1) := by decide +kernel
theorem dX0_whyNotPartIs_25 : decode cX0_whyNotPartIs 25 = .ok (.ireturn, 1) := by decide +kernel
theorem dX0_whyNotPartIs_26 : decode cX0_whyNotPartIs 26 = .ok (.aload_n 3, 1) := by decide +kernel
theorem dX0_whyNotPartIs_27 : decode cX0_whyNotPartIs 27 = .ok (.iconst 0, 1) := by decide +kernel
theorem dX0_whyNotPartIs_28 : decode cX0_whyNotPartIs 28 = .ok (.invokevirtual 61, 3) := by decide +kernel
theorem dX0_whyNotPartIs_31 : decode cX0_whyNotPartIs 31 = .ok (.ifCond .eq 25, 3) := by decide +kernel
theorem dX0_whyNotPartIs_34 : decode cX0_whyNotPartIs 34 = .ok (.aload_n 3, 1) := by decide +kernel
theorem dX0_whyNotPartIs_35 : decode cX0_whyNotPartIs 35 = .ok (.getfield 21, 3) := by decide +kernel
theorem dX0_whyNotPartIs_38 : decode cX0_whyNotPartIs 38 = .ok (.iconst 0, 1) := by decide +kernel
theorem dX0_whyNotPartIs_39 : decode cX0_whyNotPartIs 39 = .ok (.laload, 1) := by decide +kernel
theorem dX0_whyNotPartIs_40 : decode cX0_whyNotPartIs 40 = .ok (.lload_n 1, 1) := by decide +kernel
theorem dX0_whyNotPartIs_41 : decode cX0_whyNotPartIs 41 = .ok (.lcmp, 1) := by decide +kernel
theorem dX0_whyNotPartIs_42 : decode cX0_whyNotPartIs 42 = .ok (.ifCond .ne 7, 3) := by decide +kernel
theorem dX0_whyNotPartIs_45 : decode cX0_whyNotPartIs 45 = .ok (.iconst 1, 1) := by decide +kernel
theorem dX0_whyNotPartIs_46 : decode cX0_whyNotPartIs 46 = .ok (.goto 4, 3) := by decide +kernel
theorem dX0_whyNotPartIs_49 : decode cX0_whyNotPartIs 49 = .ok (.iconst 0, 1) := by decide +kernel
theorem dX0_whyNotPartIs_50 : decode cX0_whyNotPartIs 50 = .ok (.invokestatic 27, 3) := by decide +kernel
theorem dX0_whyNotPartIs_53 : decode cX0_whyNotPartIs 53 = .ok (.goto 4, 3) := by decide +kernel
theorem dX0_whyNotPartIs_56 : decode cX0_whyNotPartIs 56 = .ok (.iconst 1, 1) := by decide +kernel
theorem dX0_whyNotPartIs_57 : decode cX0_whyNotPartIs 57 = .ok (.ireturn, 1) := by decide +kernel
theorem dX0_whyNotOrderBelow_0 : decode cX0_whyNotOrderBelow 0 = .ok (.aload_n 0, 1) := by decide +kernel
theorem dX0_whyNotOrderBelow_1 : decode cX0_whyNotOrderBelow 1 = .ok (.instanceof 65, 3) := by decide +kernel
theorem dX0_whyNotOrderBelow_4 : decode cX0_whyNotOrderBelow 4 = .ok (.ifCond .eq 11, 3) := by decide +kernel
theorem dX0_whyNotOrderBelow_7 : decode cX0_whyNotOrderBelow 7 = .ok (.aload_n 0, 1) := by decide +kernel
theorem dX0_whyNotOrderBelow_8 : decode cX0_whyNotOrderBelow 8 = .ok (.checkcast 65, 3) := by decide +kernel
theorem dX0_whyNotOrderBelow_11 : decode cX0_whyNotOrderBelow 11 = .ok (.astore_n 3, 1) := by decide +kernel
theorem dX0_whyNotOrderBelow_12 : decode cX0_whyNotOrderBelow 12 = .ok (.goto 5, 3) := by decide +kernel
theorem dX0_whyNotOrderBelow_15 : decode cX0_whyNotOrderBelow 15 = .ok (.iconst 3, 1) := by decide +kernel
theorem dX0_whyNotOrderBelow_16 : decode cX0_whyNotOrderBelow 16 = .ok (.ireturn, 1) := by decide +kernel
theorem dX0_whyNotOrderBelow_17 : decode cX0_whyNotOrderBelow 17 = .ok (.aload_n 3, 1) := by decide +kernel
theorem dX0_whyNotOrderBelow_18 : decode cX0_whyNotOrderBelow 18 = .ok (.getfield 67, 3) := by decide +kernel
theorem dX0_whyNotOrderBelow_21 : decode cX0_whyNotOrderBelow 21 = .ok (.i2l, 1) := by decide +kernel
theorem dX0_whyNotOrderBelow_22 : decode cX0_whyNotOrderBelow 22 = .ok (.lload_n 1, 1) := by decide +kernel
theorem dX0_whyNotOrderBelow_23 : decode cX0_whyNotOrderBelow 23 = .ok (.lcmp, 1) := by decide +kernel
theorem dX0_whyNotOrderBelow_24 : decode cX0_whyNotOrderBelow 24 = .ok (.ifCond .ge 7, 3) := by decide +kernel
theorem dX0_whyNotOrderBelow_27 : decode cX0_whyNotOrderBelow 27 = .ok (.iconst 1, 1) := by decide +kernel
theorem dX0_whyNotOrderBelow_28 : decode cX0_whyNotOrderBelow 28 = .ok (.goto 4, 3) := by decide +kernel
theorem dX0_whyNotOrderBelow_31 : decode cX0_whyNotOrderBelow 31 = .ok (.iconst 0, 1) := by decide +kernel
theorem dX0_whyNotOrderBelow_32 : decode cX0_whyNotOrderBelow 32 = .ok (.invokestatic 27, 3) := by decide +kernel
theorem dX0_whyNotOrderBelow_35 : decode cX0_whyNotOrderBelow 35 = .ok (.ireturn, 1) := by decide +kernel
theorem dX1_init_0 : decode cX1_init 0 = .ok (.aload_n 0, 1) := by decide +kernel
theorem dX1_init_1 : decode cX1_init 1 = .ok (.invokespecial 3, 3) := by decide +kernel
theorem dX1_init_4 : decode cX1_init 4 = .ok (.aload_n 0, 1) := by decide +kernel
theorem dX1_init_5 : decode cX1_init 5 = .ok (.aload_n 1, 1) := by decide +kernel
theorem dX1_init_6 : decode cX1_init 6 = .ok (.putfield 9, 3) := by decide +kernel
theorem dX1_init_9 : decode cX1_init 9 = .ok (.aload_n 0, 1) := by decide +kernel
theorem dX1_init_10 : decode cX1_init 10 = .ok (.iload_n 2, 1) := by decide +kernel
theorem dX1_init_11 : decode cX1_init 11 = .ok (.putfield 15, 3) := by decide +kernel
theorem dX1_init_14 : decode cX1_init 14 = .ok (.aload_n 0, 1) := by decide +kernel
theorem dX1_init_15 : decode cX1_init 15 = .ok (.iload_n 3, 1) := by decide +kernel
theorem dX1_init_16 : decode cX1_init 16 = .ok (.putfield 19, 3) := by decide +kernel
theorem dX1_init_19 : decode cX1_init 19 = .ok (.aload_n 0, 1) := by decide +kernel
theorem dX1_init_20 : decode cX1_init 20 = .ok (.iload 4, 2) := by decide +kernel
theorem dX1_init_22 : decode cX1_init 22 = .ok (.putfield 22, 3) := by decide +kernel
theorem dX1_init_25 : decode cX1_init 25 = .ok (.return_, 1) := by decide +kernel
theorem dX1_family_0 : decode cX1_family 0 = .ok (.aload_n 0, 1) := by decide +kernel
theorem dX1_family_1 : decode cX1_family 1 = .ok (.getfield 22, 3) := by decide +kernel
theorem dX1_family_4 : decode cX1_family 4 = .ok (.ifCond .eq 7, 3) := by decide +kernel
theorem dX1_family_7 : decode cX1_family 7 = .ok (.iconst 2, 1) := by decide +kernel
theorem dX1_family_8 : decode cX1_family 8 = .ok (.goto 4, 3) := by decide +kernel
theorem dX1_family_11 : decode cX1_family 11 = .ok (.iconst 1, 1) := by decide +kernel
theorem dX1_family_12 : decode cX1_family 12 = .ok (.ireturn, 1) := by decide +kernel
theorem dX1_kind_0 : decode cX1_kind 0 = .ok (.aload_n 0, 1) := by decide +kernel
theorem dX1_kind_1 : decode cX1_kind 1 = .ok (.getfield 9, 3) := by decide +kernel
theorem dX1_kind_4 : decode cX1_kind 4 = .ok (.getfield 26, 3) := by decide +kernel
theorem dX1_kind_7 : decode cX1_kind 7 = .ok (.ireturn, 1) := by decide +kernel
theorem dX1_version_0 : decode cX1_version 0 = .ok (.aload_n 0, 1) := by decide +kernel
theorem dX1_version_1 : decode cX1_version 1 = .ok (.getfield 9, 3) := by decide +kernel
theorem dX1_version_4 : decode cX1_version 4 = .ok (.getfield 31, 3) := by decide +kernel
theorem dX1_version_7 : decode cX1_version 7 = .ok (.ireturn, 1) := by decide +kernel
theorem dX1_extent_0 : decode cX1_extent 0 = .ok (.aload_n 0, 1) := by decide +kernel
theorem dX1_extent_1 : decode cX1_extent 1 = .ok (.getfield 19, 3) := by decide +kernel
theorem dX1_extent_4 : decode cX1_extent 4 = .ok (.ireturn, 1) := by decide +kernel
theorem dX2_init_0 : decode cX2_init 0 = .ok (.aload_n 0, 1) := by decide +kernel
theorem dX2_init_1 : decode cX2_init 1 = .ok (.invokespecial 3, 3) := by decide +kernel
theorem dX2_init_4 : decode cX2_init 4 = .ok (.aload_n 0, 1) := by decide +kernel
theorem dX2_init_5 : decode cX2_init 5 = .ok (.iload_n 1, 1) := by decide +kernel
theorem dX2_init_6 : decode cX2_init 6 = .ok (.putfield 9, 3) := by decide +kernel
theorem dX2_init_9 : decode cX2_init 9 = .ok (.aload_n 0, 1) := by decide +kernel
theorem dX2_init_10 : decode cX2_init 10 = .ok (.iload_n 2, 1) := by decide +kernel
theorem dX2_init_11 : decode cX2_init 11 = .ok (.putfield 15, 3) := by decide +kernel
theorem dX2_init_14 : decode cX2_init 14 = .ok (.aload_n 0, 1) := by decide +kernel
theorem dX2_init_15 : decode cX2_init 15 = .ok (.bipush 10, 2) := by decide +kernel
theorem dX2_init_17 : decode cX2_init 17 = .ok (.anewarray 18, 3) := by decide +kernel
theorem dX2_init_20 : decode cX2_init 20 = .ok (.putfield 20, 3) := by decide +kernel
theorem dX2_init_23 : decode cX2_init 23 = .ok (.return_, 1) := by decide +kernel
theorem dX2_named_0 : decode cX2_named 0 = .ok (.iconst 0, 1) := by decide +kernel
theorem dX2_named_1 : decode cX2_named 1 = .ok (.istore_n 3, 1) := by decide +kernel
theorem dX2_named_2 : decode cX2_named 2 = .ok (.iload_n 3, 1) := by decide +kernel
theorem dX2_named_3 : decode cX2_named 3 = .ok (.aload_n 0, 1) := by decide +kernel
theorem dX2_named_4 : decode cX2_named 4 = .ok (.getfield 24, 3) := by decide +kernel
theorem dX2_named_7 : decode cX2_named 7 = .ok (.if_icmp .ge 31, 3) := by decide +kernel
theorem dX2_named_10 : decode cX2_named 10 = .ok (.aload_n 0, 1) := by decide +kernel
theorem dX2_named_11 : decode cX2_named 11 = .ok (.getfield 20, 3) := by decide +kernel
theorem dX2_named_14 : decode cX2_named 14 = .ok (.iload_n 3, 1) := by decide +kernel
theorem dX2_named_15 : decode cX2_named 15 = .ok (.aaload, 1) := by decide +kernel
theorem dX2_named_16 : decode cX2_named 16 = .ok (.getfield 27, 3) := by decide +kernel
theorem dX2_named_19 : decode cX2_named 19 = .ok (.i2l, 1) := by decide +kernel
theorem dX2_named_20 : decode cX2_named 20 = .ok (.lload_n 1, 1) := by decide +kernel
theorem dX2_named_21 : decode cX2_named 21 = .ok (.lcmp, 1) := by decide +kernel
theorem dX2_named_22 : decode cX2_named 22 = .ok (.ifCond .ne 10, 3) := by decide +kernel
theorem dX2_named_25 : decode cX2_named 25 = .ok (.aload_n 0, 1) := by decide +kernel
theorem dX2_named_26 : decode cX2_named 26 = .ok (.getfield 20, 3) := by decide +kernel
theorem dX2_named_29 : decode cX2_named 29 = .ok (.iload_n 3, 1) := by decide +kernel
theorem dX2_named_30 : decode cX2_named 30 = .ok (.aaload, 1) := by decide +kernel
theorem dX2_named_31 : decode cX2_named 31 = .ok (.areturn, 1) := by decide +kernel
theorem dX2_named_32 : decode cX2_named 32 = .ok (.iinc 3 1, 3) := by decide +kernel
theorem dX2_named_35 : decode cX2_named 35 = .ok (.goto (-33), 3) := by decide +kernel
theorem dX2_named_38 : decode cX2_named 38 = .ok (.aconst_null, 1) := by decide +kernel
theorem dX2_named_39 : decode cX2_named 39 = .ok (.areturn, 1) := by decide +kernel
theorem dX2_add_0 : decode cX2_add 0 = .ok (.aload_n 0, 1) := by decide +kernel
theorem dX2_add_1 : decode cX2_add 1 = .ok (.getfield 24, 3) := by decide +kernel
theorem dX2_add_4 : decode cX2_add 4 = .ok (.bipush 10, 2) := by decide +kernel
theorem dX2_add_6 : decode cX2_add 6 = .ok (.if_icmp .lt 5, 3) := by decide +kernel
theorem dX2_add_9 : decode cX2_add 9 = .ok (.iconst (-1), 1) := by decide +kernel
theorem dX2_add_10 : decode cX2_add 10 = .ok (.ireturn, 1) := by decide +kernel
theorem dX2_add_11 : decode cX2_add 11 = .ok (.aload_n 0, 1) := by decide +kernel
theorem dX2_add_12 : decode cX2_add 12 = .ok (.getfield 20, 3) := by decide +kernel
theorem dX2_add_15 : decode cX2_add 15 = .ok (.aload_n 0, 1) := by decide +kernel
theorem dX2_add_16 : decode cX2_add 16 = .ok (.getfield 24, 3) := by decide +kernel
theorem dX2_add_19 : decode cX2_add 19 = .ok (.new 18, 3) := by decide +kernel
theorem dX2_add_22 : decode cX2_add 22 = .ok (.dup, 1) := by decide +kernel
theorem dX2_add_23 : decode cX2_add 23 = .ok (.aload_n 0, 1) := by decide +kernel
theorem dX2_add_24 : decode cX2_add 24 = .ok (.iload_n 1, 1) := by decide +kernel
theorem dX2_add_25 : decode cX2_add 25 = .ok (.aload_n 0, 1) := by decide +kernel
theorem dX2_add_26 : decode cX2_add 26 = .ok (.getfield 24, 3) := by decide +kernel
theorem dX2_add_29 : decode cX2_add 29 = .ok (.iload_n 2, 1) := by decide +kernel
theorem dX2_add_30 : decode cX2_add 30 = .ok (.invokespecial 30, 3) := by decide +kernel
theorem dX2_add_33 : decode cX2_add 33 = .ok (.aastore, 1) := by decide +kernel
theorem dX2_add_34 : decode cX2_add 34 = .ok (.aload_n 0, 1) := by decide +kernel
theorem dX2_add_35 : decode cX2_add 35 = .ok (.dup, 1) := by decide +kernel
theorem dX2_add_36 : decode cX2_add 36 = .ok (.getfield 24, 3) := by decide +kernel
theorem dX2_add_39 : decode cX2_add 39 = .ok (.iconst 1, 1) := by decide +kernel
theorem dX2_add_40 : decode cX2_add 40 = .ok (.iadd, 1) := by decide +kernel
theorem dX2_add_41 : decode cX2_add 41 = .ok (.putfield 24, 3) := by decide +kernel
theorem dX2_add_44 : decode cX2_add 44 = .ok (.aload_n 0, 1) := by decide +kernel
theorem dX2_add_45 : decode cX2_add 45 = .ok (.getfield 24, 3) := by decide +kernel
theorem dX2_add_48 : decode cX2_add 48 = .ok (.iconst 1, 1) := by decide +kernel
theorem dX2_add_49 : decode cX2_add 49 = .ok (.isub, 1) := by decide +kernel
theorem dX2_add_50 : decode cX2_add 50 = .ok (.ireturn, 1) := by decide +kernel
theorem dX3_init_0 : decode cX3_init 0 = .ok (.aload_n 0, 1) := by decide +kernel
theorem dX3_init_1 : decode cX3_init 1 = .ok (.invokespecial 3, 3) := by decide +kernel
theorem dX3_init_4 : decode cX3_init 4 = .ok (.aload_n 0, 1) := by decide +kernel
theorem dX3_init_5 : decode cX3_init 5 = .ok (.bipush 6, 2) := by decide +kernel
theorem dX3_init_7 : decode cX3_init 7 = .ok (.anewarray 9, 3) := by decide +kernel
theorem dX3_init_10 : decode cX3_init 10 = .ok (.putfield 11, 3) := by decide +kernel
theorem dX3_init_13 : decode cX3_init 13 = .ok (.iconst 0, 1) := by decide +kernel
theorem dX3_init_14 : decode cX3_init 14 = .ok (.istore_n 1, 1) := by decide +kernel
theorem dX3_init_15 : decode cX3_init 15 = .ok (.iload_n 1, 1) := by decide +kernel
theorem dX3_init_16 : decode cX3_init 16 = .ok (.aload_n 0, 1) := by decide +kernel
theorem dX3_init_17 : decode cX3_init 17 = .ok (.getfield 11, 3) := by decide +kernel
theorem dX3_init_20 : decode cX3_init 20 = .ok (.arraylength, 1) := by decide +kernel
theorem dX3_init_21 : decode cX3_init 21 = .ok (.if_icmp .ge 28, 3) := by decide +kernel
theorem dX3_init_24 : decode cX3_init 24 = .ok (.aload_n 0, 1) := by decide +kernel
theorem dX3_init_25 : decode cX3_init 25 = .ok (.getfield 11, 3) := by decide +kernel
theorem dX3_init_28 : decode cX3_init 28 = .ok (.iload_n 1, 1) := by decide +kernel
theorem dX3_init_29 : decode cX3_init 29 = .ok (.new 9, 3) := by decide +kernel
theorem dX3_init_32 : decode cX3_init 32 = .ok (.dup, 1) := by decide +kernel
theorem dX3_init_33 : decode cX3_init 33 = .ok (.iload_n 1, 1) := by decide +kernel
theorem dX3_init_34 : decode cX3_init 34 = .ok (.iconst 3, 1) := by decide +kernel
theorem dX3_init_35 : decode cX3_init 35 = .ok (.idiv, 1) := by decide +kernel
theorem dX3_init_36 : decode cX3_init 36 = .ok (.iload_n 1, 1) := by decide +kernel
theorem dX3_init_37 : decode cX3_init 37 = .ok (.iconst 3, 1) := by decide +kernel
theorem dX3_init_38 : decode cX3_init 38 = .ok (.irem, 1) := by decide +kernel
theorem dX3_init_39 : decode cX3_init 39 = .ok (.invokespecial 17, 3) := by decide +kernel
theorem dX3_init_42 : decode cX3_init 42 = .ok (.aastore, 1) := by decide +kernel
theorem dX3_init_43 : decode cX3_init 43 = .ok (.iinc 1 1, 3) := by decide +kernel
theorem dX3_init_46 : decode cX3_init 46 = .ok (.goto (-31), 3) := by decide +kernel
theorem dX3_init_49 : decode cX3_init 49 = .ok (.aload_n 0, 1) := by decide +kernel
theorem dX3_init_50 : decode cX3_init 50 = .ok (.bipush 12, 2) := by decide +kernel
theorem dX3_init_52 : decode cX3_init 52 = .ok (.anewarray 20, 3) := by decide +kernel
theorem dX3_init_55 : decode cX3_init 55 = .ok (.putfield 22, 3) := by decide +kernel
theorem dX3_init_58 : decode cX3_init 58 = .ok (.iconst 0, 1) := by decide +kernel
theorem dX3_init_59 : decode cX3_init 59 = .ok (.istore_n 1, 1) := by decide +kernel
theorem dX3_init_60 : decode cX3_init 60 = .ok (.iload_n 1, 1) := by decide +kernel
theorem dX3_init_61 : decode cX3_init 61 = .ok (.aload_n 0, 1) := by decide +kernel
theorem dX3_init_62 : decode cX3_init 62 = .ok (.getfield 22, 3) := by decide +kernel
theorem dX3_init_65 : decode cX3_init 65 = .ok (.arraylength, 1) := by decide +kernel
theorem dX3_init_66 : decode cX3_init 66 = .ok (.if_icmp .ge 30, 3) := by decide +kernel
theorem dX3_init_69 : decode cX3_init 69 = .ok (.aload_n 0, 1) := by decide +kernel
theorem dX3_init_70 : decode cX3_init 70 = .ok (.getfield 22, 3) := by decide +kernel
theorem dX3_init_73 : decode cX3_init 73 = .ok (.iload_n 1, 1) := by decide +kernel
theorem dX3_init_74 : decode cX3_init 74 = .ok (.new 20, 3) := by decide +kernel
theorem dX3_init_77 : decode cX3_init 77 = .ok (.dup, 1) := by decide +kernel
theorem dX3_init_78 : decode cX3_init 78 = .ok (.iconst 2, 1) := by decide +kernel
theorem dX3_init_79 : decode cX3_init 79 = .ok (.iload_n 1, 1) := by decide +kernel
theorem dX3_init_80 : decode cX3_init 80 = .ok (.iconst 3, 1) := by decide +kernel
theorem dX3_init_81 : decode cX3_init 81 = .ok (.idiv, 1) := by decide +kernel
theorem dX3_init_82 : decode cX3_init 82 = .ok (.iadd, 1) := by decide +kernel
theorem dX3_init_83 : decode cX3_init 83 = .ok (.iload_n 1, 1) := by decide +kernel
theorem dX3_init_84 : decode cX3_init 84 = .ok (.iconst 3, 1) := by decide +kernel
theorem dX3_init_85 : decode cX3_init 85 = .ok (.irem, 1) := by decide +kernel
theorem dX3_init_86 : decode cX3_init 86 = .ok (.invokespecial 26, 3) := by decide +kernel
theorem dX3_init_89 : decode cX3_init 89 = .ok (.aastore, 1) := by decide +kernel
theorem dX3_init_90 : decode cX3_init 90 = .ok (.iinc 1 1, 3) := by decide +kernel
theorem dX3_init_93 : decode cX3_init 93 = .ok (.goto (-33), 3) := by decide +kernel
theorem dX3_init_96 : decode cX3_init 96 = .ok (.return_, 1) := by decide +kernel
theorem dX3_enumVersion_0 : decode cX3_enumVersion 0 = .ok (.iload_n 1, 1) := by decide +kernel
theorem dX3_enumVersion_1 : decode cX3_enumVersion 1 = .ok (.iconst 2, 1) := by decide +kernel
theorem dX3_enumVersion_2 : decode cX3_enumVersion 2 = .ok (.invokestatic 27, 3) := by decide +kernel
theorem dX3_enumVersion_5 : decode cX3_enumVersion 5 = .ok (.ifCond .eq 15, 3) := by decide +kernel
theorem dX3_enumVersion_8 : decode cX3_enumVersion 8 = .ok (.iload_n 2, 1) := by decide +kernel
theorem dX3_enumVersion_9 : decode cX3_enumVersion 9 = .ok (.iconst 3, 1) := by decide +kernel
theorem dX3_enumVersion_10 : decode cX3_enumVersion 10 = .ok (.invokestatic 27, 3) := by decide +kernel
theorem dX3_enumVersion_13 : decode cX3_enumVersion 13 = .ok (.ifCond .eq 7, 3) := by decide +kernel
theorem dX3_enumVersion_16 : decode cX3_enumVersion 16 = .ok (.iconst 1, 1) := by decide +kernel
theorem dX3_enumVersion_17 : decode cX3_enumVersion 17 = .ok (.goto 4, 3) := by decide +kernel
theorem dX3_enumVersion_20 : decode cX3_enumVersion 20 = .ok (.iconst 0, 1) := by decide +kernel
theorem dX3_enumVersion_21 : decode cX3_enumVersion 21 = .ok (.istore_n 3, 1) := by decide +kernel
theorem dX3_enumVersion_22 : decode cX3_enumVersion 22 = .ok (.iload_n 3, 1) := by decide +kernel
theorem dX3_enumVersion_23 : decode cX3_enumVersion 23 = .ok (.ifCond .eq 16, 3) := by decide +kernel
theorem dX3_enumVersion_26 : decode cX3_enumVersion 26 = .ok (.aload_n 0, 1) := by decide +kernel
theorem dX3_enumVersion_27 : decode cX3_enumVersion 27 = .ok (.getfield 11, 3) := by decide +kernel
theorem dX3_enumVersion_30 : decode cX3_enumVersion 30 = .ok (.iload_n 1, 1) := by decide +kernel
theorem dX3_enumVersion_31 : decode cX3_enumVersion 31 = .ok (.iconst 3, 1) := by decide +kernel
theorem dX3_enumVersion_32 : decode cX3_enumVersion 32 = .ok (.imul, 1) := by decide +kernel
theorem dX3_enumVersion_33 : decode cX3_enumVersion 33 = .ok (.iload_n 2, 1) := by decide +kernel
theorem dX3_enumVersion_34 : decode cX3_enumVersion 34 = .ok (.iadd, 1) := by decide +kernel
theorem dX3_enumVersion_35 : decode cX3_enumVersion 35 = .ok (.aaload, 1) := by decide +kernel
theorem dX3_enumVersion_36 : decode cX3_enumVersion 36 = .ok (.goto 4, 3) := by decide +kernel
theorem dX3_enumVersion_39 : decode cX3_enumVersion 39 = .ok (.aconst_null, 1) := by decide +kernel
theorem dX3_enumVersion_40 : decode cX3_enumVersion 40 = .ok (.areturn, 1) := by decide +kernel
theorem dX3_recordVersion_0 : decode cX3_recordVersion 0 = .ok (.lload_n 1, 1) := by decide +kernel
theorem dX3_recordVersion_1 : decode cX3_recordVersion 1 = .ok (.ldc2_w 31, 3) := by decide +kernel
theorem dX3_recordVersion_4 : decode cX3_recordVersion 4 = .ok (.lcmp, 1) := by decide +kernel
theorem dX3_recordVersion_5 : decode cX3_recordVersion 5 = .ok (.ifCond .lt 23, 3) := by decide +kernel
theorem dX3_recordVersion_8 : decode cX3_recordVersion 8 = .ok (.lload_n 1, 1) := by decide +kernel
theorem dX3_recordVersion_9 : decode cX3_recordVersion 9 = .ok (.ldc2_w 33, 3) := by decide +kernel
theorem dX3_recordVersion_12 : decode cX3_recordVersion 12 = .ok (.lcmp, 1) := by decide +kernel
theorem dX3_recordVersion_13 : decode cX3_recordVersion 13 = .ok (.ifCond .ge 15, 3) := by decide +kernel
theorem dX3_recordVersion_16 : decode cX3_recordVersion 16 = .ok (.iload_n 3, 1) := by decide +kernel
theorem dX3_recordVersion_17 : decode cX3_recordVersion 17 = .ok (.iconst 3, 1) := by decide +kernel
theorem dX3_recordVersion_18 : decode cX3_recordVersion 18 = .ok (.invokestatic 27, 3) := by decide +kernel
theorem dX3_recordVersion_21 : decode cX3_recordVersion 21 = .ok (.ifCond .eq 7, 3) := by decide +kernel
theorem dX3_recordVersion_24 : decode cX3_recordVersion 24 = .ok (.iconst 1, 1) := by decide +kernel
theorem dX3_recordVersion_25 : decode cX3_recordVersion 25 = .ok (.goto 4, 3) := by decide +kernel
theorem dX3_recordVersion_28 : decode cX3_recordVersion 28 = .ok (.iconst 0, 1) := by decide +kernel
theorem dX3_recordVersion_29 : decode cX3_recordVersion 29 = .ok (.istore 4, 2) := by decide +kernel
theorem dX3_recordVersion_31 : decode cX3_recordVersion 31 = .ok (.iload 4, 2) := by decide +kernel
theorem dX3_recordVersion_33 : decode cX3_recordVersion 33 = .ok (.ifCond .eq 19, 3) := by decide +kernel
theorem dX3_recordVersion_36 : decode cX3_recordVersion 36 = .ok (.aload_n 0, 1) := by decide +kernel
theorem dX3_recordVersion_37 : decode cX3_recordVersion 37 = .ok (.getfield 22, 3) := by decide +kernel
theorem dX3_recordVersion_40 : decode cX3_recordVersion 40 = .ok (.lload_n 1, 1) := by decide +kernel
theorem dX3_recordVersion_41 : decode cX3_recordVersion 41 = .ok (.l2i, 1) := by decide +kernel
theorem dX3_recordVersion_42 : decode cX3_recordVersion 42 = .ok (.iconst 2, 1) := by decide +kernel
theorem dX3_recordVersion_43 : decode cX3_recordVersion 43 = .ok (.isub, 1) := by decide +kernel
theorem dX3_recordVersion_44 : decode cX3_recordVersion 44 = .ok (.iconst 3, 1) := by decide +kernel
theorem dX3_recordVersion_45 : decode cX3_recordVersion 45 = .ok (.imul, 1) := by decide +kernel
theorem dX3_recordVersion_46 : decode cX3_recordVersion 46 = .ok (.iload_n 3, 1) := by decide +kernel
theorem dX3_recordVersion_47 : decode cX3_recordVersion 47 = .ok (.iadd, 1) := by decide +kernel
theorem dX3_recordVersion_48 : decode cX3_recordVersion 48 = .ok (.aaload, 1) := by decide +kernel
theorem dX3_recordVersion_49 : decode cX3_recordVersion 49 = .ok (.goto 4, 3) := by decide +kernel
theorem dX3_recordVersion_52 : decode cX3_recordVersion 52 = .ok (.aconst_null, 1) := by decide +kernel
theorem dX3_recordVersion_53 : decode cX3_recordVersion 53 = .ok (.areturn, 1) := by decide +kernel
theorem dX4_init_0 : decode cX4_init 0 = .ok (.aload_n 0, 1) := by decide +kernel
theorem dX4_init_1 : decode cX4_init 1 = .ok (.invokespecial 3, 3) := by decide +kernel
theorem dX4_init_4 : decode cX4_init 4 = .ok (.aload_n 0, 1) := by decide +kernel
theorem dX4_init_5 : decode cX4_init 5 = .ok (.iload_n 1, 1) := by decide +kernel
theorem dX4_init_6 : decode cX4_init 6 = .ok (.putfield 9, 3) := by decide +kernel
theorem dX4_init_9 : decode cX4_init 9 = .ok (.aload_n 0, 1) := by decide +kernel
theorem dX4_init_10 : decode cX4_init 10 = .ok (.iload_n 2, 1) := by decide +kernel
theorem dX4_init_11 : decode cX4_init 11 = .ok (.putfield 15, 3) := by decide +kernel
theorem dX4_init_14 : decode cX4_init 14 = .ok (.aload_n 0, 1) := by decide +kernel
theorem dX4_init_15 : decode cX4_init 15 = .ok (.iload_n 3, 1) := by decide +kernel
theorem dX4_init_16 : decode cX4_init 16 = .ok (.putfield 18, 3) := by decide +kernel
theorem dX4_init_19 : decode cX4_init 19 = .ok (.return_, 1) := by decide +kernel
theorem dX4_whyNotTaken_0 : decode cX4_whyNotTaken 0 = .ok (.aload_n 0, 1) := by decide +kernel
theorem dX4_whyNotTaken_1 : decode cX4_whyNotTaken 1 = .ok (.getfield 15, 3) := by decide +kernel
theorem dX4_whyNotTaken_4 : decode cX4_whyNotTaken 4 = .ok (.ifCond .ne 17, 3) := by decide +kernel
theorem dX4_whyNotTaken_7 : decode cX4_whyNotTaken 7 = .ok (.lload_n 1, 1) := by decide +kernel
theorem dX4_whyNotTaken_8 : decode cX4_whyNotTaken 8 = .ok (.lload_n 1, 1) := by decide +kernel
theorem dX4_whyNotTaken_9 : decode cX4_whyNotTaken 9 = .ok (.l2i, 1) := by decide +kernel
theorem dX4_whyNotTaken_10 : decode cX4_whyNotTaken 10 = .ok (.i2l, 1) := by decide +kernel
theorem dX4_whyNotTaken_11 : decode cX4_whyNotTaken 11 = .ok (.lcmp, 1) := by decide +kernel
theorem dX4_whyNotTaken_12 : decode cX4_whyNotTaken 12 = .ok (.ifCond .ne 7, 3) := by decide +kernel
theorem dX4_whyNotTaken_15 : decode cX4_whyNotTaken 15 = .ok (.iconst 0, 1) := by decide +kernel
theorem dX4_whyNotTaken_16 : decode cX4_whyNotTaken 16 = .ok (.goto 4, 3) := by decide +kernel
theorem dX4_whyNotTaken_19 : decode cX4_whyNotTaken 19 = .ok (.iconst 2, 1) := by decide +kernel
theorem dX4_whyNotTaken_20 : decode cX4_whyNotTaken 20 = .ok (.ireturn, 1) := by decide +kernel
theorem dX4_whyNotTaken_21 : decode cX4_whyNotTaken 21 = .ok (.aload_n 0, 1) := by decide +kernel
theorem dX4_whyNotTaken_22 : decode cX4_whyNotTaken 22 = .ok (.getfield 15, 3) := by decide +kernel
theorem dX4_whyNotTaken_25 : decode cX4_whyNotTaken 25 = .ok (.iconst 1, 1) := by decide +kernel
theorem dX4_whyNotTaken_26 : decode cX4_whyNotTaken 26 = .ok (.if_icmp .eq 7, 3) := by decide +kernel
theorem dX4_whyNotTaken_29 : decode cX4_whyNotTaken 29 = .ok (.aload_n 3, 1) := by decide +kernel
theorem dX4_whyNotTaken_30 : decode cX4_whyNotTaken 30 = .ok (.ifnonnull 5, 3) := by decide +kernel
theorem dX4_whyNotTaken_33 : decode cX4_whyNotTaken 33 = .ok (.iconst 0, 1) := by decide +kernel
theorem dX4_whyNotTaken_34 : decode cX4_whyNotTaken 34 = .ok (.ireturn, 1) := by decide +kernel
theorem dX4_whyNotTaken_35 : decode cX4_whyNotTaken 35 = .ok (.aload_n 0, 1) := by decide +kernel
theorem dX4_whyNotTaken_36 : decode cX4_whyNotTaken 36 = .ok (.aload_n 3, 1) := by decide +kernel
theorem dX4_whyNotTaken_37 : decode cX4_whyNotTaken 37 = .ok (.invokevirtual 21, 3) := by decide +kernel
theorem dX4_whyNotTaken_40 : decode cX4_whyNotTaken 40 = .ok (.ifCond .ne 5, 3) := by decide +kernel
theorem dX4_whyNotTaken_43 : decode cX4_whyNotTaken 43 = .ok (.iconst 1, 1) := by decide +kernel
theorem dX4_whyNotTaken_44 : decode cX4_whyNotTaken 44 = .ok (.ireturn, 1) := by decide +kernel
theorem dX4_whyNotTaken_45 : decode cX4_whyNotTaken 45 = .ok (.aload_n 0, 1) := by decide +kernel
theorem dX4_whyNotTaken_46 : decode cX4_whyNotTaken 46 = .ok (.getfield 15, 3) := by decide +kernel
theorem dX4_whyNotTaken_49 : decode cX4_whyNotTaken 49 = .ok (.iconst 4, 1) := by decide +kernel
theorem dX4_whyNotTaken_50 : decode cX4_whyNotTaken 50 = .ok (.if_icmp .eq 23, 3) := by decide +kernel
theorem dX4_whyNotTaken_53 : decode cX4_whyNotTaken 53 = .ok (.aload_n 3, 1) := by decide +kernel
theorem dX4_whyNotTaken_54 : decode cX4_whyNotTaken 54 = .ok (.invokevirtual 25, 3) := by decide +kernel
theorem dX4_whyNotTaken_57 : decode cX4_whyNotTaken 57 = .ok (.aload_n 0, 1) := by decide +kernel
theorem dX4_whyNotTaken_58 : decode cX4_whyNotTaken 58 = .ok (.getfield 18, 3) := by decide +kernel
theorem dX4_whyNotTaken_61 : decode cX4_whyNotTaken 61 = .ok (.if_icmp .ne 16, 3) := by decide +kernel
theorem dX4_whyNotTaken_64 : decode cX4_whyNotTaken 64 = .ok (.aload_n 3, 1) := by decide +kernel
theorem dX4_whyNotTaken_65 : decode cX4_whyNotTaken 65 = .ok (.invokevirtual 31, 3) := by decide +kernel
theorem dX4_whyNotTaken_68 : decode cX4_whyNotTaken 68 = .ok (.iload 4, 2) := by decide +kernel
theorem dX4_whyNotTaken_70 : decode cX4_whyNotTaken 70 = .ok (.if_icmp .ne 7, 3) := by decide +kernel
theorem dX4_whyNotTaken_73 : decode cX4_whyNotTaken 73 = .ok (.iconst 0, 1) := by decide +kernel
theorem dX4_whyNotTaken_74 : decode cX4_whyNotTaken 74 = .ok (.goto 4, 3) := by decide +kernel
theorem dX4_whyNotTaken_77 : decode cX4_whyNotTaken 77 = .ok (.iconst 2, 1) := by decide +kernel
theorem dX4_whyNotTaken_78 : decode cX4_whyNotTaken 78 = .ok (.ireturn, 1) := by decide +kernel
theorem dX4_isOfClass_0 : decode cX4_isOfClass 0 = .ok (.aload_n 0, 1) := by decide +kernel
theorem dX4_isOfClass_1 : decode cX4_isOfClass 1 = .ok (.getfield 15, 3) := by decide +kernel
theorem dX4_isOfClass_4 : decode cX4_isOfClass 4 = .ok (.lookupswitch 38 #[(2, 28), (3, 33)], 28) := by decide +kernel
theorem dX4_isOfClass_32 : decode cX4_isOfClass 32 = .ok (.aload_n 1, 1) := by decide +kernel
theorem dX4_isOfClass_33 : decode cX4_isOfClass 33 = .ok (.instanceof 34, 3) := by decide +kernel
theorem dX4_isOfClass_36 : decode cX4_isOfClass 36 = .ok (.ireturn, 1) := by decide +kernel
theorem dX4_isOfClass_37 : decode cX4_isOfClass 37 = .ok (.aload_n 1, 1) := by decide +kernel
theorem dX4_isOfClass_38 : decode cX4_isOfClass 38 = .ok (.instanceof 36, 3) := by decide +kernel
theorem dX4_isOfClass_41 : decode cX4_isOfClass 41 = .ok (.ireturn, 1) := by decide +kernel
theorem dX4_isOfClass_42 : decode cX4_isOfClass 42 = .ok (.aload_n 1, 1) := by decide +kernel
theorem dX4_isOfClass_43 : decode cX4_isOfClass 43 = .ok (.instanceof 38, 3) := by decide +kernel
theorem dX4_isOfClass_46 : decode cX4_isOfClass 46 = .ok (.ireturn, 1) := by decide +kernel
theorem dX5_init_0 : decode cX5_init 0 = .ok (.aload_n 0, 1) := by decide +kernel
theorem dX5_init_1 : decode cX5_init 1 = .ok (.invokespecial 3, 3) := by decide +kernel
theorem dX5_init_4 : decode cX5_init 4 = .ok (.aload_n 0, 1) := by decide +kernel
theorem dX5_init_5 : decode cX5_init 5 = .ok (.aload_n 1, 1) := by decide +kernel
theorem dX5_init_6 : decode cX5_init 6 = .ok (.putfield 9, 3) := by decide +kernel
theorem dX5_init_9 : decode cX5_init 9 = .ok (.aload_n 0, 1) := by decide +kernel
theorem dX5_init_10 : decode cX5_init 10 = .ok (.aload_n 2, 1) := by decide +kernel
theorem dX5_init_11 : decode cX5_init 11 = .ok (.putfield 15, 3) := by decide +kernel
theorem dX5_init_14 : decode cX5_init 14 = .ok (.aload_n 0, 1) := by decide +kernel
theorem dX5_init_15 : decode cX5_init 15 = .ok (.iload_n 3, 1) := by decide +kernel
theorem dX5_init_16 : decode cX5_init 16 = .ok (.putfield 19, 3) := by decide +kernel
theorem dX5_init_19 : decode cX5_init 19 = .ok (.return_, 1) := by decide +kernel
theorem dX5_fail_0 : decode cX5_fail 0 = .ok (.aload_n 0, 1) := by decide +kernel
theorem dX5_fail_1 : decode cX5_fail 1 = .ok (.getfield 23, 3) := by decide +kernel
theorem dX5_fail_4 : decode cX5_fail 4 = .ok (.ifCond .ne 8, 3) := by decide +kernel
theorem dX5_fail_7 : decode cX5_fail 7 = .ok (.aload_n 0, 1) := by decide +kernel
theorem dX5_fail_8 : decode cX5_fail 8 = .ok (.iload_n 1, 1) := by decide +kernel
theorem dX5_fail_9 : decode cX5_fail 9 = .ok (.putfield 23, 3) := by decide +kernel
theorem dX5_fail_12 : decode cX5_fail 12 = .ok (.return_, 1) := by decide +kernel
theorem dX5_nextLeaf_0 : decode cX5_nextLeaf 0 = .ok (.aload_n 0, 1) := by decide +kernel
theorem dX5_nextLeaf_1 : decode cX5_nextLeaf 1 = .ok (.getfield 23, 3) := by decide +kernel
theorem dX5_nextLeaf_4 : decode cX5_nextLeaf 4 = .ok (.ifCond .eq 5, 3) := by decide +kernel
theorem dX5_nextLeaf_7 : decode cX5_nextLeaf 7 = .ok (.lconst 0, 1) := by decide +kernel
theorem dX5_nextLeaf_8 : decode cX5_nextLeaf 8 = .ok (.lreturn, 1) := by decide +kernel
theorem dX5_nextLeaf_9 : decode cX5_nextLeaf 9 = .ok (.aload_n 0, 1) := by decide +kernel
theorem dX5_nextLeaf_10 : decode cX5_nextLeaf 10 = .ok (.aload_n 0, 1) := by decide +kernel
theorem dX5_nextLeaf_11 : decode cX5_nextLeaf 11 = .ok (.getfield 26, 3) := by decide +kernel
theorem dX5_nextLeaf_14 : decode cX5_nextLeaf 14 = .ok (.putfield 29, 3) := by decide +kernel
theorem dX5_nextLeaf_17 : decode cX5_nextLeaf 17 = .ok (.aload_n 0, 1) := by decide +kernel
theorem dX5_nextLeaf_18 : decode cX5_nextLeaf 18 = .ok (.getfield 26, 3) := by decide +kernel
theorem dX5_nextLeaf_21 : decode cX5_nextLeaf 21 = .ok (.aload_n 0, 1) := by decide +kernel
theorem dX5_nextLeaf_22 : decode cX5_nextLeaf 22 = .ok (.getfield 15, 3) := by decide +kernel
theorem dX5_nextLeaf_25 : decode cX5_nextLeaf 25 = .ok (.getfield 32, 3) := by decide +kernel
theorem dX5_nextLeaf_28 : decode cX5_nextLeaf 28 = .ok (.if_icmp .lt 10, 3) := by decide +kernel
theorem dX5_nextLeaf_31 : decode cX5_nextLeaf 31 = .ok (.aload_n 0, 1) := by decide +kernel
theorem dX5_nextLeaf_32 : decode cX5_nextLeaf 32 = .ok (.iconst 4, 1) := by decide +kernel
theorem dX5_nextLeaf_33 : decode cX5_nextLeaf 33 = .ok (.putfield 23, 3) := by decide +kernel
theorem dX5_nextLeaf_36 : decode cX5_nextLeaf 36 = .ok (.lconst 0, 1) := by decide +kernel
theorem dX5_nextLeaf_37 : decode cX5_nextLeaf 37 = .ok (.lreturn, 1) := by decide +kernel
theorem dX5_nextLeaf_38 : decode cX5_nextLeaf 38 = .ok (.aload_n 0, 1) := by decide +kernel
theorem dX5_nextLeaf_39 : decode cX5_nextLeaf 39 = .ok (.dup, 1) := by decide +kernel
theorem dX5_nextLeaf_40 : decode cX5_nextLeaf 40 = .ok (.getfield 26, 3) := by decide +kernel
theorem dX5_nextLeaf_43 : decode cX5_nextLeaf 43 = .ok (.iconst 1, 1) := by decide +kernel
theorem dX5_nextLeaf_44 : decode cX5_nextLeaf 44 = .ok (.iadd, 1) := by decide +kernel
theorem dX5_nextLeaf_45 : decode cX5_nextLeaf 45 = .ok (.putfield 26, 3) := by decide +kernel
theorem dX5_nextLeaf_48 : decode cX5_nextLeaf 48 = .ok (.aload_n 0, 1) := by decide +kernel
theorem dX5_nextLeaf_49 : decode cX5_nextLeaf 49 = .ok (.getfield 15, 3) := by decide +kernel
theorem dX5_nextLeaf_52 : decode cX5_nextLeaf 52 = .ok (.getfield 37, 3) := by decide +kernel
theorem dX5_nextLeaf_55 : decode cX5_nextLeaf 55 = .ok (.aload_n 0, 1) := by decide +kernel
theorem dX5_nextLeaf_56 : decode cX5_nextLeaf 56 = .ok (.getfield 29, 3) := by decide +kernel
theorem dX5_nextLeaf_59 : decode cX5_nextLeaf 59 = .ok (.laload, 1) := by decide +kernel
theorem dX5_nextLeaf_60 : decode cX5_nextLeaf 60 = .ok (.lreturn, 1) := by decide +kernel
theorem dX5_nextRecord_0 : decode cX5_nextRecord 0 = .ok (.aload_n 0, 1) := by decide +kernel
theorem dX5_nextRecord_1 : decode cX5_nextRecord 1 = .ok (.getfield 41, 3) := by decide +kernel
theorem dX5_nextRecord_4 : decode cX5_nextRecord 4 = .ok (.bipush 6, 2) := by decide +kernel
theorem dX5_nextRecord_6 : decode cX5_nextRecord 6 = .ok (.if_icmp .lt 11, 3) := by decide +kernel
theorem dX5_nextRecord_9 : decode cX5_nextRecord 9 = .ok (.aload_n 0, 1) := by decide +kernel
theorem dX5_nextRecord_10 : decode cX5_nextRecord 10 = .ok (.bipush 8, 2) := by decide +kernel
theorem dX5_nextRecord_12 : decode cX5_nextRecord 12 = .ok (.invokevirtual 44, 3) := by decide +kernel
theorem dX5_nextRecord_15 : decode cX5_nextRecord 15 = .ok (.aconst_null, 1) := by decide +kernel
theorem dX5_nextRecord_16 : decode cX5_nextRecord 16 = .ok (.areturn, 1) := by decide +kernel
theorem dX5_nextRecord_17 : decode cX5_nextRecord 17 = .ok (.aload_n 0, 1) := by decide +kernel
theorem dX5_nextRecord_18 : decode cX5_nextRecord 18 = .ok (.dup, 1) := by decide +kernel
theorem dX5_nextRecord_19 : decode cX5_nextRecord 19 = .ok (.getfield 41, 3) := by decide +kernel
theorem dX5_nextRecord_22 : decode cX5_nextRecord 22 = .ok (.iconst 1, 1) := by decide +kernel
theorem dX5_nextRecord_23 : decode cX5_nextRecord 23 = .ok (.iadd, 1) := by decide +kernel
theorem dX5_nextRecord_24 : decode cX5_nextRecord 24 = .ok (.putfield 41, 3) := by decide +kernel
theorem dX5_nextRecord_27 : decode cX5_nextRecord 27 = .ok (.aload_n 0, 1) := by decide +kernel
theorem dX5_nextRecord_28 : decode cX5_nextRecord 28 = .ok (.invokevirtual 48, 3) := by decide +kernel
theorem dX5_nextRecord_31 : decode cX5_nextRecord 31 = .ok (.lstore_n 2, 1) := by decide +kernel
theorem dX5_nextRecord_32 : decode cX5_nextRecord 32 = .ok (.aload_n 0, 1) := by decide +kernel
theorem dX5_nextRecord_33 : decode cX5_nextRecord 33 = .ok (.getfield 9, 3) := by decide +kernel
theorem dX5_nextRecord_36 : decode cX5_nextRecord 36 = .ok (.lload_n 2, 1) := by decide +kernel
theorem dX5_nextRecord_37 : decode cX5_nextRecord 37 = .ok (.aload_n 0, 1) := by decide +kernel
theorem dX5_nextRecord_38 : decode cX5_nextRecord 38 = .ok (.getfield 19, 3) := by decide +kernel
theorem dX5_nextRecord_41 : decode cX5_nextRecord 41 = .ok (.invokevirtual 52, 3) := by decide +kernel
theorem dX5_nextRecord_44 : decode cX5_nextRecord 44 = .ok (.astore 4, 2) := by decide +kernel
theorem dX5_nextRecord_46 : decode cX5_nextRecord 46 = .ok (.aload 4, 2) := by decide +kernel
theorem dX5_nextRecord_48 : decode cX5_nextRecord 48 = .ok (.ifnonnull 10, 3) := by decide +kernel
theorem dX5_nextRecord_51 : decode cX5_nextRecord 51 = .ok (.aload_n 0, 1) := by decide +kernel
theorem dX5_nextRecord_52 : decode cX5_nextRecord 52 = .ok (.iconst 2, 1) := by decide +kernel
theorem dX5_nextRecord_53 : decode cX5_nextRecord 53 = .ok (.invokevirtual 44, 3) := by decide +kernel
theorem dX5_nextRecord_56 : decode cX5_nextRecord 56 = .ok (.aconst_null, 1) := by decide +kernel
theorem dX5_nextRecord_57 : decode cX5_nextRecord 57 = .ok (.areturn, 1) := by decide +kernel
theorem dX5_nextRecord_58 : decode cX5_nextRecord 58 = .ok (.iload_n 1, 1) := by decide +kernel
theorem dX5_nextRecord_59 : decode cX5_nextRecord 59 = .ok (.ifCond .eq 15, 3) := by decide +kernel
theorem dX5_nextRecord_62 : decode cX5_nextRecord 62 = .ok (.new 58, 3) := by decide +kernel
theorem dX5_nextRecord_65 : decode cX5_nextRecord 65 = .ok (.dup, 1) := by decide +kernel
theorem dX5_nextRecord_66 : decode cX5_nextRecord 66 = .ok (.aload 4, 2) := by decide +kernel
theorem dX5_nextRecord_68 : decode cX5_nextRecord 68 = .ok (.invokespecial 60, 3) := by decide +kernel
theorem dX5_nextRecord_71 : decode cX5_nextRecord 71 = .ok (.goto 4, 3) := by decide +kernel
theorem dX5_nextRecord_74 : decode cX5_nextRecord 74 = .ok (.aconst_null, 1) := by decide +kernel
theorem dX5_nextRecord_75 : decode cX5_nextRecord 75 = .ok (.astore 5, 2) := by decide +kernel
theorem dX5_nextRecord_77 : decode cX5_nextRecord 77 = .ok (.aload_n 0, 1) := by decide +kernel
theorem dX5_nextRecord_78 : decode cX5_nextRecord 78 = .ok (.invokevirtual 48, 3) := by decide +kernel
theorem dX5_nextRecord_81 : decode cX5_nextRecord 81 = .ok (.ldc2_w 63, 3) := by decide +kernel
theorem dX5_nextRecord_84 : decode cX5_nextRecord 84 = .ok (.invokestatic 65, 3) := by decide +kernel
theorem dX5_nextRecord_87 : decode cX5_nextRecord 87 = .ok (.lstore 6, 2) := by decide +kernel
theorem dX5_nextRecord_89 : decode cX5_nextRecord 89 = .ok (.iconst 0, 1) := by decide +kernel
theorem dX5_nextRecord_90 : decode cX5_nextRecord 90 = .ok (.istore 8, 2) := by decide +kernel
theorem dX5_nextRecord_92 : decode cX5_nextRecord 92 = .ok (.iload 8, 2) := by decide +kernel
theorem dX5_nextRecord_94 : decode cX5_nextRecord 94 = .ok (.i2l, 1) := by decide +kernel
theorem dX5_nextRecord_95 : decode cX5_nextRecord 95 = .ok (.lload 6, 2) := by decide +kernel
theorem dX5_nextRecord_97 : decode cX5_nextRecord 97 = .ok (.lcmp, 1) := by decide +kernel
theorem dX5_nextRecord_98 : decode cX5_nextRecord 98 = .ok (.ifCond .ge 22, 3) := by decide +kernel
theorem dX5_nextRecord_101 : decode cX5_nextRecord 101 = .ok (.aload_n 0, 1) := by decide +kernel
theorem dX5_nextRecord_102 : decode cX5_nextRecord 102 = .ok (.getfield 23, 3) := by decide +kernel
theorem dX5_nextRecord_105 : decode cX5_nextRecord 105 = .ok (.ifCond .ne 15, 3) := by decide +kernel
theorem dX5_nextRecord_108 : decode cX5_nextRecord 108 = .ok (.aload_n 0, 1) := by decide +kernel
theorem dX5_nextRecord_109 : decode cX5_nextRecord 109 = .ok (.aload 5, 2) := by decide +kernel
theorem dX5_nextRecord_111 : decode cX5_nextRecord 111 = .ok (.invokevirtual 71, 3) := by decide +kernel
theorem dX5_nextRecord_114 : decode cX5_nextRecord 114 = .ok (.iinc 8 1, 3) := by decide +kernel
theorem dX5_nextRecord_117 : decode cX5_nextRecord 117 = .ok (.goto (-25), 3) := by decide +kernel
theorem dX5_nextRecord_120 : decode cX5_nextRecord 120 = .ok (.aload_n 0, 1) := by decide +kernel
theorem dX5_nextRecord_121 : decode cX5_nextRecord 121 = .ok (.aload 5, 2) := by decide +kernel
theorem dX5_nextRecord_123 : decode cX5_nextRecord 123 = .ok (.invokevirtual 75, 3) := by decide +kernel
theorem dX5_nextRecord_126 : decode cX5_nextRecord 126 = .ok (.areturn, 1) := by decide +kernel
theorem dX5_finished_0 : decode cX5_finished 0 = .ok (.aload_n 0, 1) := by decide +kernel
theorem dX5_finished_1 : decode cX5_finished 1 = .ok (.getfield 23, 3) := by decide +kernel
theorem dX5_finished_4 : decode cX5_finished 4 = .ok (.ifCond .ne 40, 3) := by decide +kernel
theorem dX5_finished_7 : decode cX5_finished 7 = .ok (.aload_n 1, 1) := by decide +kernel
theorem dX5_finished_8 : decode cX5_finished 8 = .ok (.ifnull 36, 3) := by decide +kernel
theorem dX5_finished_11 : decode cX5_finished 11 = .ok (.aload_n 0, 1) := by decide +kernel
theorem dX5_finished_12 : decode cX5_finished 12 = .ok (.aload_n 1, 1) := by decide +kernel
theorem dX5_finished_13 : decode cX5_finished 13 = .ok (.getfield 79, 3) := by decide +kernel
theorem dX5_finished_16 : decode cX5_finished 16 = .ok (.aload_n 1, 1) := by decide +kernel
theorem dX5_finished_17 : decode cX5_finished 17 = .ok (.invokevirtual 83, 3) := by decide +kernel
theorem dX5_finished_20 : decode cX5_finished 20 = .ok (.putfield 23, 3) := by decide +kernel
theorem dX5_finished_23 : decode cX5_finished 23 = .ok (.aload_n 0, 1) := by decide +kernel
theorem dX5_finished_24 : decode cX5_finished 24 = .ok (.dup, 1) := by decide +kernel
theorem dX5_finished_25 : decode cX5_finished 25 = .ok (.getfield 89, 3) := by decide +kernel
theorem dX5_finished_28 : decode cX5_finished 28 = .ok (.aload_n 0, 1) := by decide +kernel
theorem dX5_finished_29 : decode cX5_finished 29 = .ok (.getfield 23, 3) := by decide +kernel
theorem dX5_finished_32 : decode cX5_finished 32 = .ok (.ifCond .ne 7, 3) := by decide +kernel
theorem dX5_finished_35 : decode cX5_finished 35 = .ok (.iconst 1, 1) := by decide +kernel
theorem dX5_finished_36 : decode cX5_finished 36 = .ok (.goto 4, 3) := by decide +kernel
theorem dX5_finished_39 : decode cX5_finished 39 = .ok (.iconst 0, 1) := by decide +kernel
theorem dX5_finished_40 : decode cX5_finished 40 = .ok (.iadd, 1) := by decide +kernel
theorem dX5_finished_41 : decode cX5_finished 41 = .ok (.putfield 89, 3) := by decide +kernel
theorem dX5_finished_44 : decode cX5_finished 44 = .ok (.aload_n 0, 1) := by decide +kernel
theorem dX5_finished_45 : decode cX5_finished 45 = .ok (.getfield 23, 3) := by decide +kernel
theorem dX5_finished_48 : decode cX5_finished 48 = .ok (.ifCond .eq 5, 3) := by decide +kernel
theorem dX5_finished_51 : decode cX5_finished 51 = .ok (.aconst_null, 1) := by decide +kernel
theorem dX5_finished_52 : decode cX5_finished 52 = .ok (.areturn, 1) := by decide +kernel
theorem dX5_finished_53 : decode cX5_finished 53 = .ok (.aload_n 0, 1) := by decide +kernel
theorem dX5_finished_54 : decode cX5_finished 54 = .ok (.dup, 1) := by decide +kernel
theorem dX5_finished_55 : decode cX5_finished 55 = .ok (.getfield 41, 3) := by decide +kernel
theorem dX5_finished_58 : decode cX5_finished 58 = .ok (.iconst 1, 1) := by decide +kernel
theorem dX5_finished_59 : decode cX5_finished 59 = .ok (.isub, 1) := by decide +kernel
theorem dX5_finished_60 : decode cX5_finished 60 = .ok (.putfield 41, 3) := by decide +kernel
theorem dX5_finished_63 : decode cX5_finished 63 = .ok (.aload_n 1, 1) := by decide +kernel
theorem dX5_finished_64 : decode cX5_finished 64 = .ok (.areturn, 1) := by decide +kernel
theorem dX5_nextPart_0 : decode cX5_nextPart 0 = .ok (.aload_n 0, 1) := by decide +kernel
theorem dX5_nextPart_1 : decode cX5_nextPart 1 = .ok (.invokevirtual 48, 3) := by decide +kernel
theorem dX5_nextPart_4 : decode cX5_nextPart 4 = .ok (.lstore_n 2, 1) := by decide +kernel
theorem dX5_nextPart_5 : decode cX5_nextPart 5 = .ok (.aload_n 0, 1) := by decide +kernel
theorem dX5_nextPart_6 : decode cX5_nextPart 6 = .ok (.invokevirtual 48, 3) := by decide +kernel
theorem dX5_nextPart_9 : decode cX5_nextPart 9 = .ok (.lstore 4, 2) := by decide +kernel
theorem dX5_nextPart_11 : decode cX5_nextPart 11 = .ok (.lload 4, 2) := by decide +kernel
theorem dX5_nextPart_13 : decode cX5_nextPart 13 = .ok (.lconst 0, 1) := by decide +kernel
theorem dX5_nextPart_14 : decode cX5_nextPart 14 = .ok (.lcmp, 1) := by decide +kernel
theorem dX5_nextPart_15 : decode cX5_nextPart 15 = .ok (.ifCond .lt 12, 3) := by decide +kernel
theorem dX5_nextPart_18 : decode cX5_nextPart 18 = .ok (.lload 4, 2) := by decide +kernel
theorem dX5_nextPart_20 : decode cX5_nextPart 20 = .ok (.ldc2_w 92, 3) := by decide +kernel
theorem dX5_nextPart_23 : decode cX5_nextPart 23 = .ok (.lcmp, 1) := by decide +kernel
theorem dX5_nextPart_24 : decode cX5_nextPart 24 = .ok (.ifCond .lt 8, 3) := by decide +kernel
theorem dX5_nextPart_27 : decode cX5_nextPart 27 = .ok (.aload_n 0, 1) := by decide +kernel
theorem dX5_nextPart_28 : decode cX5_nextPart 28 = .ok (.iconst 2, 1) := by decide +kernel
theorem dX5_nextPart_29 : decode cX5_nextPart 29 = .ok (.invokevirtual 44, 3) := by decide +kernel
theorem dX5_nextPart_32 : decode cX5_nextPart 32 = .ok (.aload_n 1, 1) := by decide +kernel
theorem dX5_nextPart_33 : decode cX5_nextPart 33 = .ok (.ifnonnull 8, 3) := by decide +kernel
theorem dX5_nextPart_36 : decode cX5_nextPart 36 = .ok (.bipush (-3), 2) := by decide +kernel
theorem dX5_nextPart_38 : decode cX5_nextPart 38 = .ok (.goto 11, 3) := by decide +kernel
theorem dX5_nextPart_41 : decode cX5_nextPart 41 = .ok (.aload_n 1, 1) := by decide +kernel
theorem dX5_nextPart_42 : decode cX5_nextPart 42 = .ok (.getfield 79, 3) := by decide +kernel
theorem dX5_nextPart_45 : decode cX5_nextPart 45 = .ok (.lload_n 2, 1) := by decide +kernel
theorem dX5_nextPart_46 : decode cX5_nextPart 46 = .ok (.invokevirtual 94, 3) := by decide +kernel
theorem dX5_nextPart_49 : decode cX5_nextPart 49 = .ok (.istore 6, 2) := by decide +kernel
theorem dX5_nextPart_51 : decode cX5_nextPart 51 = .ok (.iload 6, 2) := by decide +kernel
theorem dX5_nextPart_53 : decode cX5_nextPart 53 = .ok (.bipush (-3), 2) := by decide +kernel
theorem dX5_nextPart_55 : decode cX5_nextPart 55 = .ok (.if_icmp .eq 28, 3) := by decide +kernel
theorem dX5_nextPart_58 : decode cX5_nextPart 58 = .ok (.aload_n 1, 1) := by decide +kernel
theorem dX5_nextPart_59 : decode cX5_nextPart 59 = .ok (.getfield 79, 3) := by decide +kernel
theorem dX5_nextPart_62 : decode cX5_nextPart 62 = .ok (.getfield 98, 3) := by decide +kernel
theorem dX5_nextPart_65 : decode cX5_nextPart 65 = .ok (.iload 6, 2) := by decide +kernel
theorem dX5_nextPart_67 : decode cX5_nextPart 67 = .ok (.aaload, 1) := by decide +kernel
theorem dX5_nextPart_68 : decode cX5_nextPart 68 = .ok (.getfield 102, 3) := by decide +kernel
theorem dX5_nextPart_71 : decode cX5_nextPart 71 = .ok (.i2l, 1) := by decide +kernel
theorem dX5_nextPart_72 : decode cX5_nextPart 72 = .ok (.lload 4, 2) := by decide +kernel
theorem dX5_nextPart_74 : decode cX5_nextPart 74 = .ok (.lcmp, 1) := by decide +kernel
theorem dX5_nextPart_75 : decode cX5_nextPart 75 = .ok (.ifCond .eq 8, 3) := by decide +kernel
theorem dX5_nextPart_78 : decode cX5_nextPart 78 = .ok (.aload_n 0, 1) := by decide +kernel
theorem dX5_nextPart_79 : decode cX5_nextPart 79 = .ok (.iconst 1, 1) := by decide +kernel
theorem dX5_nextPart_80 : decode cX5_nextPart 80 = .ok (.invokevirtual 44, 3) := by decide +kernel
theorem dX5_nextPart_83 : decode cX5_nextPart 83 = .ok (.aload_n 0, 1) := by decide +kernel
theorem dX5_nextPart_84 : decode cX5_nextPart 84 = .ok (.getfield 23, 3) := by decide +kernel
theorem dX5_nextPart_87 : decode cX5_nextPart 87 = .ok (.ifCond .eq 4, 3) := by decide +kernel
theorem dX5_nextPart_90 : decode cX5_nextPart 90 = .ok (.return_, 1) := by decide +kernel
theorem dX5_nextPart_91 : decode cX5_nextPart 91 = .ok (.lload 4, 2) := by decide +kernel
theorem dX5_nextPart_93 : decode cX5_nextPart 93 = .ok (.lconst 1, 1) := by decide +kernel
theorem dX5_nextPart_94 : decode cX5_nextPart 94 = .ok (.lcmp, 1) := by decide +kernel
theorem dX5_nextPart_95 : decode cX5_nextPart 95 = .ok (.ifCond .gt 26, 3) := by decide +kernel
theorem dX5_nextPart_98 : decode cX5_nextPart 98 = .ok (.aload_n 0, 1) := by decide +kernel
theorem dX5_nextPart_99 : decode cX5_nextPart 99 = .ok (.invokevirtual 48, 3) := by decide +kernel
theorem dX5_nextPart_102 : decode cX5_nextPart 102 = .ok (.lstore 7, 2) := by decide +kernel
theorem dX5_nextPart_104 : decode cX5_nextPart 104 = .ok (.iload 6, 2) := by decide +kernel
theorem dX5_nextPart_106 : decode cX5_nextPart 106 = .ok (.bipush (-3), 2) := by decide +kernel
theorem dX5_nextPart_108 : decode cX5_nextPart 108 = .ok (.if_icmp .eq 12, 3) := by decide +kernel
theorem dX5_nextPart_111 : decode cX5_nextPart 111 = .ok (.aload_n 1, 1) := by decide +kernel
theorem dX5_nextPart_112 : decode cX5_nextPart 112 = .ok (.iload 6, 2) := by decide +kernel
theorem dX5_nextPart_114 : decode cX5_nextPart 114 = .ok (.lload 7, 2) := by decide +kernel
theorem dX5_nextPart_116 : decode cX5_nextPart 116 = .ok (.aconst_null, 1) := by decide +kernel
theorem dX5_nextPart_117 : decode cX5_nextPart 117 = .ok (.invokevirtual 107, 3) := by decide +kernel
theorem dX5_nextPart_120 : decode cX5_nextPart 120 = .ok (.return_, 1) := by decide +kernel
theorem dX5_nextPart_121 : decode cX5_nextPart 121 = .ok (.aload_n 0, 1) := by decide +kernel
theorem dX5_nextPart_122 : decode cX5_nextPart 122 = .ok (.lload 4, 2) := by decide +kernel
theorem dX5_nextPart_124 : decode cX5_nextPart 124 = .ok (.l2i, 1) := by decide +kernel
theorem dX5_nextPart_125 : decode cX5_nextPart 125 = .ok (.iload 6, 2) := by decide +kernel
theorem dX5_nextPart_127 : decode cX5_nextPart 127 = .ok (.bipush (-3), 2) := by decide +kernel
theorem dX5_nextPart_129 : decode cX5_nextPart 129 = .ok (.if_icmp .ne 7, 3) := by decide +kernel
theorem dX5_nextPart_132 : decode cX5_nextPart 132 = .ok (.aconst_null, 1) := by decide +kernel
theorem dX5_nextPart_133 : decode cX5_nextPart 133 = .ok (.goto 13, 3) := by decide +kernel
theorem dX5_nextPart_136 : decode cX5_nextPart 136 = .ok (.aload_n 1, 1) := by decide +kernel
theorem dX5_nextPart_137 : decode cX5_nextPart 137 = .ok (.getfield 79, 3) := by decide +kernel
theorem dX5_nextPart_140 : decode cX5_nextPart 140 = .ok (.getfield 98, 3) := by decide +kernel
theorem dX5_nextPart_143 : decode cX5_nextPart 143 = .ok (.iload 6, 2) := by decide +kernel
theorem dX5_nextPart_145 : decode cX5_nextPart 145 = .ok (.aaload, 1) := by decide +kernel
theorem dX5_nextPart_146 : decode cX5_nextPart 146 = .ok (.invokevirtual 111, 3) := by decide +kernel
theorem dX5_nextPart_149 : decode cX5_nextPart 149 = .ok (.astore 7, 2) := by decide +kernel
theorem dX5_nextPart_151 : decode cX5_nextPart 151 = .ok (.iload 6, 2) := by decide +kernel
theorem dX5_nextPart_153 : decode cX5_nextPart 153 = .ok (.bipush (-3), 2) := by decide +kernel
theorem dX5_nextPart_155 : decode cX5_nextPart 155 = .ok (.if_icmp .eq 12, 3) := by decide +kernel
theorem dX5_nextPart_158 : decode cX5_nextPart 158 = .ok (.aload_n 1, 1) := by decide +kernel
theorem dX5_nextPart_159 : decode cX5_nextPart 159 = .ok (.iload 6, 2) := by decide +kernel
theorem dX5_nextPart_161 : decode cX5_nextPart 161 = .ok (.lconst 0, 1) := by decide +kernel
theorem dX5_nextPart_162 : decode cX5_nextPart 162 = .ok (.aload 7, 2) := by decide +kernel
theorem dX5_nextPart_164 : decode cX5_nextPart 164 = .ok (.invokevirtual 107, 3) := by decide +kernel
theorem dX5_nextPart_167 : decode cX5_nextPart 167 = .ok (.return_, 1) := by decide +kernel
theorem dX5_nextThing_0 : decode cX5_nextThing 0 = .ok (.iload_n 1, 1) := by decide +kernel
theorem dX5_nextThing_1 : decode cX5_nextThing 1 = .ok (.iconst 2, 1) := by decide +kernel
theorem dX5_nextThing_2 : decode cX5_nextThing 2 = .ok (.if_icmp .ne 9, 3) := by decide +kernel
theorem dX5_nextThing_5 : decode cX5_nextThing 5 = .ok (.aload_n 0, 1) := by decide +kernel
theorem dX5_nextThing_6 : decode cX5_nextThing 6 = .ok (.aload_n 2, 1) := by decide +kernel
theorem dX5_nextThing_7 : decode cX5_nextThing 7 = .ok (.invokevirtual 115, 3) := by decide +kernel
theorem dX5_nextThing_10 : decode cX5_nextThing 10 = .ok (.areturn, 1) := by decide +kernel
theorem dX5_nextThing_11 : decode cX5_nextThing 11 = .ok (.iload_n 1, 1) := by decide +kernel
theorem dX5_nextThing_12 : decode cX5_nextThing 12 = .ok (.iconst 4, 1) := by decide +kernel
theorem dX5_nextThing_13 : decode cX5_nextThing 13 = .ok (.if_icmp .ne 17, 3) := by decide +kernel
theorem dX5_nextThing_16 : decode cX5_nextThing 16 = .ok (.aload_n 0, 1) := by decide +kernel
theorem dX5_nextThing_17 : decode cX5_nextThing 17 = .ok (.aload_n 2, 1) := by decide +kernel
theorem dX5_nextThing_18 : decode cX5_nextThing 18 = .ok (.ifnull 7, 3) := by decide +kernel
theorem dX5_nextThing_21 : decode cX5_nextThing 21 = .ok (.iconst 1, 1) := by decide +kernel
theorem dX5_nextThing_22 : decode cX5_nextThing 22 = .ok (.goto 4, 3) := by decide +kernel
theorem dX5_nextThing_25 : decode cX5_nextThing 25 = .ok (.iconst 0, 1) := by decide +kernel
theorem dX5_nextThing_26 : decode cX5_nextThing 26 = .ok (.invokevirtual 119, 3) := by decide +kernel
theorem dX5_nextThing_29 : decode cX5_nextThing 29 = .ok (.areturn, 1) := by decide +kernel
theorem dX5_nextThing_30 : decode cX5_nextThing 30 = .ok (.aload_n 0, 1) := by decide +kernel
theorem dX5_nextThing_31 : decode cX5_nextThing 31 = .ok (.invokevirtual 48, 3) := by decide +kernel
theorem dX5_nextThing_34 : decode cX5_nextThing 34 = .ok (.lconst 0, 1) := by decide +kernel
theorem dX5_nextThing_35 : decode cX5_nextThing 35 = .ok (.lcmp, 1) := by decide +kernel
theorem dX5_nextThing_36 : decode cX5_nextThing 36 = .ok (.ifCond .ne 7, 3) := by decide +kernel
theorem dX5_nextThing_39 : decode cX5_nextThing 39 = .ok (.aconst_null, 1) := by decide +kernel
theorem dX5_nextThing_40 : decode cX5_nextThing 40 = .ok (.goto 16, 3) := by decide +kernel
theorem dX5_nextThing_43 : decode cX5_nextThing 43 = .ok (.aload_n 0, 1) := by decide +kernel
theorem dX5_nextThing_44 : decode cX5_nextThing 44 = .ok (.aload_n 2, 1) := by decide +kernel
theorem dX5_nextThing_45 : decode cX5_nextThing 45 = .ok (.ifnull 7, 3) := by decide +kernel
theorem dX5_nextThing_48 : decode cX5_nextThing 48 = .ok (.iconst 1, 1) := by decide +kernel
theorem dX5_nextThing_49 : decode cX5_nextThing 49 = .ok (.goto 4, 3) := by decide +kernel
theorem dX5_nextThing_52 : decode cX5_nextThing 52 = .ok (.iconst 0, 1) := by decide +kernel
theorem dX5_nextThing_53 : decode cX5_nextThing 53 = .ok (.invokevirtual 123, 3) := by decide +kernel
theorem dX5_nextThing_56 : decode cX5_nextThing 56 = .ok (.areturn, 1) := by decide +kernel
theorem dX5_nextConstant_0 : decode cX5_nextConstant 0 = .ok (.aload_n 0, 1) := by decide +kernel
theorem dX5_nextConstant_1 : decode cX5_nextConstant 1 = .ok (.invokevirtual 48, 3) := by decide +kernel
theorem dX5_nextConstant_4 : decode cX5_nextConstant 4 = .ok (.lstore_n 2, 1) := by decide +kernel
theorem dX5_nextConstant_5 : decode cX5_nextConstant 5 = .ok (.aload_n 1, 1) := by decide +kernel
theorem dX5_nextConstant_6 : decode cX5_nextConstant 6 = .ok (.ifnull 18, 3) := by decide +kernel
theorem dX5_nextConstant_9 : decode cX5_nextConstant 9 = .ok (.lload_n 2, 1) := by decide +kernel
theorem dX5_nextConstant_10 : decode cX5_nextConstant 10 = .ok (.ldc2_w 127, 3) := by decide +kernel
theorem dX5_nextConstant_13 : decode cX5_nextConstant 13 = .ok (.lcmp, 1) := by decide +kernel
theorem dX5_nextConstant_14 : decode cX5_nextConstant 14 = .ok (.ifCond .eq 10, 3) := by decide +kernel
theorem dX5_nextConstant_17 : decode cX5_nextConstant 17 = .ok (.aload_n 0, 1) := by decide +kernel
theorem dX5_nextConstant_18 : decode cX5_nextConstant 18 = .ok (.getfield 23, 3) := by decide +kernel
theorem dX5_nextConstant_21 : decode cX5_nextConstant 21 = .ok (.ifCond .eq 5, 3) := by decide +kernel
theorem dX5_nextConstant_24 : decode cX5_nextConstant 24 = .ok (.aconst_null, 1) := by decide +kernel
theorem dX5_nextConstant_25 : decode cX5_nextConstant 25 = .ok (.areturn, 1) := by decide +kernel
theorem dX5_nextConstant_26 : decode cX5_nextConstant 26 = .ok (.aload_n 0, 1) := by decide +kernel
theorem dX5_nextConstant_27 : decode cX5_nextConstant 27 = .ok (.getfield 9, 3) := by decide +kernel
theorem dX5_nextConstant_30 : decode cX5_nextConstant 30 = .ok (.aload_n 1, 1) := by decide +kernel
theorem dX5_nextConstant_31 : decode cX5_nextConstant 31 = .ok (.getfield 129, 3) := by decide +kernel
theorem dX5_nextConstant_34 : decode cX5_nextConstant 34 = .ok (.aload_n 0, 1) := by decide +kernel
theorem dX5_nextConstant_35 : decode cX5_nextConstant 35 = .ok (.getfield 19, 3) := by decide +kernel
theorem dX5_nextConstant_38 : decode cX5_nextConstant 38 = .ok (.invokevirtual 132, 3) := by decide +kernel
theorem dX5_nextConstant_41 : decode cX5_nextConstant 41 = .ok (.astore 4, 2) := by decide +kernel
theorem dX5_nextConstant_43 : decode cX5_nextConstant 43 = .ok (.aload 4, 2) := by decide +kernel
theorem dX5_nextConstant_45 : decode cX5_nextConstant 45 = .ok (.ifnonnull 7, 3) := by decide +kernel
theorem dX5_nextConstant_48 : decode cX5_nextConstant 48 = .ok (.aconst_null, 1) := by decide +kernel
theorem dX5_nextConstant_49 : decode cX5_nextConstant 49 = .ok (.goto 9, 3) := by decide +kernel
theorem dX5_nextConstant_52 : decode cX5_nextConstant 52 = .ok (.aload 4, 2) := by decide +kernel
theorem dX5_nextConstant_54 : decode cX5_nextConstant 54 = .ok (.lload_n 2, 1) := by decide +kernel
theorem dX5_nextConstant_55 : decode cX5_nextConstant 55 = .ok (.invokevirtual 136, 3) := by decide +kernel
theorem dX5_nextConstant_58 : decode cX5_nextConstant 58 = .ok (.astore 5, 2) := by decide +kernel
theorem dX5_nextConstant_60 : decode cX5_nextConstant 60 = .ok (.aload 5, 2) := by decide +kernel
theorem dX5_nextConstant_62 : decode cX5_nextConstant 62 = .ok (.ifnonnull 9, 3) := by decide +kernel
theorem dX5_nextConstant_65 : decode cX5_nextConstant 65 = .ok (.aload_n 0, 1) := by decide +kernel
theorem dX5_nextConstant_66 : decode cX5_nextConstant 66 = .ok (.bipush 7, 2) := by decide +kernel
theorem dX5_nextConstant_68 : decode cX5_nextConstant 68 = .ok (.invokevirtual 44, 3) := by decide +kernel
theorem dX5_nextConstant_71 : decode cX5_nextConstant 71 = .ok (.aload 5, 2) := by decide +kernel
theorem dX5_nextConstant_73 : decode cX5_nextConstant 73 = .ok (.areturn, 1) := by decide +kernel
theorem dX5_nextRow_0 : decode cX5_nextRow 0 = .ok (.aload_n 0, 1) := by decide +kernel
theorem dX5_nextRow_1 : decode cX5_nextRow 1 = .ok (.invokevirtual 48, 3) := by decide +kernel
theorem dX5_nextRow_4 : decode cX5_nextRow 4 = .ok (.lstore_n 2, 1) := by decide +kernel
theorem dX5_nextRow_5 : decode cX5_nextRow 5 = .ok (.lload_n 2, 1) := by decide +kernel
theorem dX5_nextRow_6 : decode cX5_nextRow 6 = .ok (.ldc2_w 127, 3) := by decide +kernel
theorem dX5_nextRow_9 : decode cX5_nextRow 9 = .ok (.lcmp, 1) := by decide +kernel
theorem dX5_nextRow_10 : decode cX5_nextRow 10 = .ok (.ifCond .ne 5, 3) := by decide +kernel
theorem dX5_nextRow_13 : decode cX5_nextRow 13 = .ok (.aconst_null, 1) := by decide +kernel
theorem dX5_nextRow_14 : decode cX5_nextRow 14 = .ok (.areturn, 1) := by decide +kernel
theorem dX5_nextRow_15 : decode cX5_nextRow 15 = .ok (.lload_n 2, 1) := by decide +kernel
theorem dX5_nextRow_16 : decode cX5_nextRow 16 = .ok (.lconst 0, 1) := by decide +kernel
theorem dX5_nextRow_17 : decode cX5_nextRow 17 = .ok (.lcmp, 1) := by decide +kernel
theorem dX5_nextRow_18 : decode cX5_nextRow 18 = .ok (.ifCond .ge 12, 3) := by decide +kernel
theorem dX5_nextRow_21 : decode cX5_nextRow 21 = .ok (.aload_n 0, 1) := by decide +kernel
theorem dX5_nextRow_22 : decode cX5_nextRow 22 = .ok (.bipush 6, 2) := by decide +kernel
theorem dX5_nextRow_24 : decode cX5_nextRow 24 = .ok (.invokevirtual 44, 3) := by decide +kernel
theorem dX5_nextRow_27 : decode cX5_nextRow 27 = .ok (.goto 16, 3) := by decide +kernel
theorem dX5_nextRow_30 : decode cX5_nextRow 30 = .ok (.lload_n 2, 1) := by decide +kernel
theorem dX5_nextRow_31 : decode cX5_nextRow 31 = .ok (.ldc2_w 142, 3) := by decide +kernel
theorem dX5_nextRow_34 : decode cX5_nextRow 34 = .ok (.lcmp, 1) := by decide +kernel
theorem dX5_nextRow_35 : decode cX5_nextRow 35 = .ok (.ifCond .le 8, 3) := by decide +kernel
theorem dX5_nextRow_38 : decode cX5_nextRow 38 = .ok (.aload_n 0, 1) := by decide +kernel
theorem dX5_nextRow_39 : decode cX5_nextRow 39 = .ok (.iconst 2, 1) := by decide +kernel
theorem dX5_nextRow_40 : decode cX5_nextRow 40 = .ok (.invokevirtual 44, 3) := by decide +kernel
theorem dX5_nextRow_43 : decode cX5_nextRow 43 = .ok (.aload_n 0, 1) := by decide +kernel
theorem dX5_nextRow_44 : decode cX5_nextRow 44 = .ok (.getfield 23, 3) := by decide +kernel
theorem dX5_nextRow_47 : decode cX5_nextRow 47 = .ok (.ifCond .eq 5, 3) := by decide +kernel
theorem dX5_nextRow_50 : decode cX5_nextRow 50 = .ok (.aconst_null, 1) := by decide +kernel
theorem dX5_nextRow_51 : decode cX5_nextRow 51 = .ok (.areturn, 1) := by decide +kernel
theorem dX5_nextRow_52 : decode cX5_nextRow 52 = .ok (.iload_n 1, 1) := by decide +kernel
theorem dX5_nextRow_53 : decode cX5_nextRow 53 = .ok (.ifCond .eq 15, 3) := by decide +kernel
theorem dX5_nextRow_56 : decode cX5_nextRow 56 = .ok (.new 144, 3) := by decide +kernel
theorem dX5_nextRow_59 : decode cX5_nextRow 59 = .ok (.dup, 1) := by decide +kernel
theorem dX5_nextRow_60 : decode cX5_nextRow 60 = .ok (.lload_n 2, 1) := by decide +kernel
theorem dX5_nextRow_61 : decode cX5_nextRow 61 = .ok (.l2i, 1) := by decide +kernel
theorem dX5_nextRow_62 : decode cX5_nextRow 62 = .ok (.invokespecial 146, 3) := by decide +kernel
theorem dX5_nextRow_65 : decode cX5_nextRow 65 = .ok (.goto 4, 3) := by decide +kernel
theorem dX5_nextRow_68 : decode cX5_nextRow 68 = .ok (.aconst_null, 1) := by decide +kernel
theorem dX5_nextRow_69 : decode cX5_nextRow 69 = .ok (.astore 4, 2) := by decide +kernel
theorem dX5_nextRow_71 : decode cX5_nextRow 71 = .ok (.iconst 0, 1) := by decide +kernel
theorem dX5_nextRow_72 : decode cX5_nextRow 72 = .ok (.istore 5, 2) := by decide +kernel
theorem dX5_nextRow_74 : decode cX5_nextRow 74 = .ok (.iload 5, 2) := by decide +kernel
theorem dX5_nextRow_76 : decode cX5_nextRow 76 = .ok (.i2l, 1) := by decide +kernel
theorem dX5_nextRow_77 : decode cX5_nextRow 77 = .ok (.lload_n 2, 1) := by decide +kernel
theorem dX5_nextRow_78 : decode cX5_nextRow 78 = .ok (.lcmp, 1) := by decide +kernel
theorem dX5_nextRow_79 : decode cX5_nextRow 79 = .ok (.ifCond .ge 38, 3) := by decide +kernel
theorem dX5_nextRow_82 : decode cX5_nextRow 82 = .ok (.aload_n 0, 1) := by decide +kernel
theorem dX5_nextRow_83 : decode cX5_nextRow 83 = .ok (.getfield 23, 3) := by decide +kernel
theorem dX5_nextRow_86 : decode cX5_nextRow 86 = .ok (.ifCond .ne 31, 3) := by decide +kernel
theorem dX5_nextRow_89 : decode cX5_nextRow 89 = .ok (.aload_n 0, 1) := by decide +kernel
theorem dX5_nextRow_90 : decode cX5_nextRow 90 = .ok (.invokevirtual 48, 3) := by decide +kernel
theorem dX5_nextRow_93 : decode cX5_nextRow 93 = .ok (.l2i, 1) := by decide +kernel
theorem dX5_nextRow_94 : decode cX5_nextRow 94 = .ok (.istore 6, 2) := by decide +kernel
theorem dX5_nextRow_96 : decode cX5_nextRow 96 = .ok (.aload 4, 2) := by decide +kernel
theorem dX5_nextRow_98 : decode cX5_nextRow 98 = .ok (.ifnull 13, 3) := by decide +kernel
theorem dX5_nextRow_101 : decode cX5_nextRow 101 = .ok (.aload 4, 2) := by decide +kernel
theorem dX5_nextRow_103 : decode cX5_nextRow 103 = .ok (.getfield 148, 3) := by decide +kernel
theorem dX5_nextRow_106 : decode cX5_nextRow 106 = .ok (.iload 5, 2) := by decide +kernel
theorem dX5_nextRow_108 : decode cX5_nextRow 108 = .ok (.iload 6, 2) := by decide +kernel
theorem dX5_nextRow_110 : decode cX5_nextRow 110 = .ok (.iastore, 1) := by decide +kernel
theorem dX5_nextRow_111 : decode cX5_nextRow 111 = .ok (.iinc 5 1, 3) := by decide +kernel
theorem dX5_nextRow_114 : decode cX5_nextRow 114 = .ok (.goto (-40), 3) := by decide +kernel
theorem dX5_nextRow_117 : decode cX5_nextRow 117 = .ok (.aload 4, 2) := by decide +kernel
theorem dX5_nextRow_119 : decode cX5_nextRow 119 = .ok (.areturn, 1) := by decide +kernel
theorem dX6_init_0 : decode cX6_init 0 = .ok (.aload_n 0, 1) := by decide +kernel
theorem dX6_init_1 : decode cX6_init 1 = .ok (.invokespecial 3, 3) := by decide +kernel
theorem dX6_init_4 : decode cX6_init 4 = .ok (.aload_n 0, 1) := by decide +kernel
theorem dX6_init_5 : decode cX6_init 5 = .ok (.aload_n 1, 1) := by decide +kernel
theorem dX6_init_6 : decode cX6_init 6 = .ok (.putfield 9, 3) := by decide +kernel
theorem dX6_init_9 : decode cX6_init 9 = .ok (.aload_n 0, 1) := by decide +kernel
theorem dX6_init_10 : decode cX6_init 10 = .ok (.aload_n 1, 1) := by decide +kernel
theorem dX6_init_11 : decode cX6_init 11 = .ok (.getfield 15, 3) := by decide +kernel
theorem dX6_init_14 : decode cX6_init 14 = .ok (.newarray .long, 2) := by decide +kernel
theorem dX6_init_16 : decode cX6_init 16 = .ok (.putfield 21, 3) := by decide +kernel
theorem dX6_init_19 : decode cX6_init 19 = .ok (.aload_n 0, 1) := by decide +kernel
theorem dX6_init_20 : decode cX6_init 20 = .ok (.aload_n 1, 1) := by decide +kernel
theorem dX6_init_21 : decode cX6_init 21 = .ok (.getfield 15, 3) := by decide +kernel
theorem dX6_init_24 : decode cX6_init 24 = .ok (.anewarray 4, 3) := by decide +kernel
theorem dX6_init_27 : decode cX6_init 27 = .ok (.putfield 25, 3) := by decide +kernel
theorem dX6_init_30 : decode cX6_init 30 = .ok (.return_, 1) := by decide +kernel
theorem dX6_family_0 : decode cX6_family 0 = .ok (.iconst 4, 1) := by decide +kernel
theorem dX6_family_1 : decode cX6_family 1 = .ok (.ireturn, 1) := by decide +kernel
theorem dX6_kind_0 : decode cX6_kind 0 = .ok (.aload_n 0, 1) := by decide +kernel
theorem dX6_kind_1 : decode cX6_kind 1 = .ok (.getfield 9, 3) := by decide +kernel
theorem dX6_kind_4 : decode cX6_kind 4 = .ok (.getfield 29, 3) := by decide +kernel
theorem dX6_kind_7 : decode cX6_kind 7 = .ok (.ireturn, 1) := by decide +kernel
theorem dX6_version_0 : decode cX6_version 0 = .ok (.aload_n 0, 1) := by decide +kernel
theorem dX6_version_1 : decode cX6_version 1 = .ok (.getfield 9, 3) := by decide +kernel
theorem dX6_version_4 : decode cX6_version 4 = .ok (.getfield 32, 3) := by decide +kernel
theorem dX6_version_7 : decode cX6_version 7 = .ok (.ireturn, 1) := by decide +kernel
theorem dX6_extent_0 : decode cX6_extent 0 = .ok (.aload_n 0, 1) := by decide +kernel
theorem dX6_extent_1 : decode cX6_extent 1 = .ok (.getfield 21, 3) := by decide +kernel
theorem dX6_extent_4 : decode cX6_extent 4 = .ok (.arraylength, 1) := by decide +kernel
theorem dX6_extent_5 : decode cX6_extent 5 = .ok (.ireturn, 1) := by decide +kernel
theorem dX6_isNumber_0 : decode cX6_isNumber 0 = .ok (.aload_n 0, 1) := by decide +kernel
theorem dX6_isNumber_1 : decode cX6_isNumber 1 = .ok (.getfield 9, 3) := by decide +kernel
theorem dX6_isNumber_4 : decode cX6_isNumber 4 = .ok (.getfield 35, 3) := by decide +kernel
theorem dX6_isNumber_7 : decode cX6_isNumber 7 = .ok (.iload_n 1, 1) := by decide +kernel
theorem dX6_isNumber_8 : decode cX6_isNumber 8 = .ok (.aaload, 1) := by decide +kernel
theorem dX6_isNumber_9 : decode cX6_isNumber 9 = .ok (.getfield 39, 3) := by decide +kernel
theorem dX6_isNumber_12 : decode cX6_isNumber 12 = .ok (.iconst 1, 1) := by decide +kernel
theorem dX6_isNumber_13 : decode cX6_isNumber 13 = .ok (.if_icmp .gt 7, 3) := by decide +kernel
theorem dX6_isNumber_16 : decode cX6_isNumber 16 = .ok (.iconst 1, 1) := by decide +kernel
theorem dX6_isNumber_17 : decode cX6_isNumber 17 = .ok (.goto 4, 3) := by decide +kernel
theorem dX6_isNumber_20 : decode cX6_isNumber 20 = .ok (.iconst 0, 1) := by decide +kernel
theorem dX6_isNumber_21 : decode cX6_isNumber 21 = .ok (.ireturn, 1) := by decide +kernel
theorem dX6_put_0 : decode cX6_put 0 = .ok (.aload_n 0, 1) := by decide +kernel
theorem dX6_put_1 : decode cX6_put 1 = .ok (.iload_n 1, 1) := by decide +kernel
theorem dX6_put_2 : decode cX6_put 2 = .ok (.invokevirtual 44, 3) := by decide +kernel
theorem dX6_put_5 : decode cX6_put 5 = .ok (.ifCond .eq 13, 3) := by decide +kernel
theorem dX6_put_8 : decode cX6_put 8 = .ok (.aload_n 0, 1) := by decide +kernel
theorem dX6_put_9 : decode cX6_put 9 = .ok (.getfield 21, 3) := by decide +kernel
theorem dX6_put_12 : decode cX6_put 12 = .ok (.iload_n 1, 1) := by decide +kernel
theorem dX6_put_13 : decode cX6_put 13 = .ok (.lload_n 2, 1) := by decide +kernel
theorem dX6_put_14 : decode cX6_put 14 = .ok (.lastore, 1) := by decide +kernel
theorem dX6_put_15 : decode cX6_put 15 = .ok (.goto 11, 3) := by decide +kernel
theorem dX6_put_18 : decode cX6_put 18 = .ok (.aload_n 0, 1) := by decide +kernel
theorem dX6_put_19 : decode cX6_put 19 = .ok (.getfield 25, 3) := by decide +kernel
theorem dX6_put_22 : decode cX6_put 22 = .ok (.iload_n 1, 1) := by decide +kernel
theorem dX6_put_23 : decode cX6_put 23 = .ok (.aload 4, 2) := by decide +kernel
theorem dX6_put_25 : decode cX6_put 25 = .ok (.aastore, 1) := by decide +kernel
theorem dX6_put_26 : decode cX6_put 26 = .ok (.return_, 1) := by decide +kernel
theorem dX7_init_0 : decode cX7_init 0 = .ok (.aload_n 0, 1) := by decide +kernel
theorem dX7_init_1 : decode cX7_init 1 = .ok (.invokespecial 3, 3) := by decide +kernel
theorem dX7_init_4 : decode cX7_init 4 = .ok (.aload_n 0, 1) := by decide +kernel
theorem dX7_init_5 : decode cX7_init 5 = .ok (.iload_n 1, 1) := by decide +kernel
theorem dX7_init_6 : decode cX7_init 6 = .ok (.putfield 9, 3) := by decide +kernel
theorem dX7_init_9 : decode cX7_init 9 = .ok (.aload_n 0, 1) := by decide +kernel
theorem dX7_init_10 : decode cX7_init 10 = .ok (.iload_n 2, 1) := by decide +kernel
theorem dX7_init_11 : decode cX7_init 11 = .ok (.putfield 15, 3) := by decide +kernel
theorem dX7_init_14 : decode cX7_init 14 = .ok (.aload_n 0, 1) := by decide +kernel
theorem dX7_init_15 : decode cX7_init 15 = .ok (.iconst 5, 1) := by decide +kernel
theorem dX7_init_16 : decode cX7_init 16 = .ok (.anewarray 18, 3) := by decide +kernel
theorem dX7_init_19 : decode cX7_init 19 = .ok (.putfield 20, 3) := by decide +kernel
theorem dX7_init_22 : decode cX7_init 22 = .ok (.aload_n 0, 1) := by decide +kernel
theorem dX7_init_23 : decode cX7_init 23 = .ok (.iconst 2, 1) := by decide +kernel
theorem dX7_init_24 : decode cX7_init 24 = .ok (.anewarray 24, 3) := by decide +kernel
theorem dX7_init_27 : decode cX7_init 27 = .ok (.putfield 26, 3) := by decide +kernel
theorem dX7_init_30 : decode cX7_init 30 = .ok (.return_, 1) := by decide +kernel
theorem dX7_partNamed_0 : decode cX7_partNamed 0 = .ok (.iconst 0, 1) := by decide +kernel
theorem dX7_partNamed_1 : decode cX7_partNamed 1 = .ok (.istore_n 3, 1) := by decide +kernel
theorem dX7_partNamed_2 : decode cX7_partNamed 2 = .ok (.iload_n 3, 1) := by decide +kernel
theorem dX7_partNamed_3 : decode cX7_partNamed 3 = .ok (.aload_n 0, 1) := by decide +kernel
theorem dX7_partNamed_4 : decode cX7_partNamed 4 = .ok (.getfield 30, 3) := by decide +kernel
theorem dX7_partNamed_7 : decode cX7_partNamed 7 = .ok (.if_icmp .ge 26, 3) := by decide +kernel
theorem dX7_partNamed_10 : decode cX7_partNamed 10 = .ok (.aload_n 0, 1) := by decide +kernel
theorem dX7_partNamed_11 : decode cX7_partNamed 11 = .ok (.getfield 20, 3) := by decide +kernel
theorem dX7_partNamed_14 : decode cX7_partNamed 14 = .ok (.iload_n 3, 1) := by decide +kernel
theorem dX7_partNamed_15 : decode cX7_partNamed 15 = .ok (.aaload, 1) := by decide +kernel
theorem dX7_partNamed_16 : decode cX7_partNamed 16 = .ok (.getfield 33, 3) := by decide +kernel
theorem dX7_partNamed_19 : decode cX7_partNamed 19 = .ok (.i2l, 1) := by decide +kernel
theorem dX7_partNamed_20 : decode cX7_partNamed 20 = .ok (.lload_n 1, 1) := by decide +kernel
theorem dX7_partNamed_21 : decode cX7_partNamed 21 = .ok (.lcmp, 1) := by decide +kernel
theorem dX7_partNamed_22 : decode cX7_partNamed 22 = .ok (.ifCond .ne 5, 3) := by decide +kernel
theorem dX7_partNamed_25 : decode cX7_partNamed 25 = .ok (.iload_n 3, 1) := by decide +kernel
theorem dX7_partNamed_26 : decode cX7_partNamed 26 = .ok (.ireturn, 1) := by decide +kernel
theorem dX7_partNamed_27 : decode cX7_partNamed 27 = .ok (.iinc 3 1, 3) := by decide +kernel
theorem dX7_partNamed_30 : decode cX7_partNamed 30 = .ok (.goto (-28), 3) := by decide +kernel
theorem dX7_partNamed_33 : decode cX7_partNamed 33 = .ok (.bipush (-3), 2) := by decide +kernel
theorem dX7_partNamed_35 : decode cX7_partNamed 35 = .ok (.ireturn, 1) := by decide +kernel
theorem dX7_hasPart_0 : decode cX7_hasPart 0 = .ok (.iload_n 1, 1) := by decide +kernel
theorem dX7_hasPart_1 : decode cX7_hasPart 1 = .ok (.aload_n 0, 1) := by decide +kernel
theorem dX7_hasPart_2 : decode cX7_hasPart 2 = .ok (.getfield 30, 3) := by decide +kernel
theorem dX7_hasPart_5 : decode cX7_hasPart 5 = .ok (.invokestatic 36, 3) := by decide +kernel
theorem dX7_hasPart_8 : decode cX7_hasPart 8 = .ok (.ifCond .eq 20, 3) := by decide +kernel
theorem dX7_hasPart_11 : decode cX7_hasPart 11 = .ok (.aload_n 0, 1) := by decide +kernel
theorem dX7_hasPart_12 : decode cX7_hasPart 12 = .ok (.getfield 20, 3) := by decide +kernel
theorem dX7_hasPart_15 : decode cX7_hasPart 15 = .ok (.iload_n 1, 1) := by decide +kernel
theorem dX7_hasPart_16 : decode cX7_hasPart 16 = .ok (.aaload, 1) := by decide +kernel
theorem dX7_hasPart_17 : decode cX7_hasPart 17 = .ok (.getfield 40, 3) := by decide +kernel
theorem dX7_hasPart_20 : decode cX7_hasPart 20 = .ok (.iload_n 2, 1) := by decide +kernel
theorem dX7_hasPart_21 : decode cX7_hasPart 21 = .ok (.if_icmp .ne 7, 3) := by decide +kernel
theorem dX7_hasPart_24 : decode cX7_hasPart 24 = .ok (.iconst 1, 1) := by decide +kernel
theorem dX7_hasPart_25 : decode cX7_hasPart 25 = .ok (.goto 4, 3) := by decide +kernel
theorem dX7_hasPart_28 : decode cX7_hasPart 28 = .ok (.iconst 0, 1) := by decide +kernel
theorem dX7_hasPart_29 : decode cX7_hasPart 29 = .ok (.ireturn, 1) := by decide +kernel
theorem dX7_addPart_0 : decode cX7_addPart 0 = .ok (.aload_n 0, 1) := by decide +kernel
theorem dX7_addPart_1 : decode cX7_addPart 1 = .ok (.getfield 30, 3) := by decide +kernel
theorem dX7_addPart_4 : decode cX7_addPart 4 = .ok (.iconst 5, 1) := by decide +kernel
theorem dX7_addPart_5 : decode cX7_addPart 5 = .ok (.if_icmp .lt 6, 3) := by decide +kernel
theorem dX7_addPart_8 : decode cX7_addPart 8 = .ok (.bipush (-2), 2) := by decide +kernel
theorem dX7_addPart_10 : decode cX7_addPart 10 = .ok (.ireturn, 1) := by decide +kernel
theorem dX7_addPart_11 : decode cX7_addPart 11 = .ok (.aload_n 0, 1) := by decide +kernel
theorem dX7_addPart_12 : decode cX7_addPart 12 = .ok (.getfield 20, 3) := by decide +kernel
theorem dX7_addPart_15 : decode cX7_addPart 15 = .ok (.aload_n 0, 1) := by decide +kernel
theorem dX7_addPart_16 : decode cX7_addPart 16 = .ok (.getfield 30, 3) := by decide +kernel
theorem dX7_addPart_19 : decode cX7_addPart 19 = .ok (.aload_n 1, 1) := by decide +kernel
theorem dX7_addPart_20 : decode cX7_addPart 20 = .ok (.aastore, 1) := by decide +kernel
theorem dX7_addPart_21 : decode cX7_addPart 21 = .ok (.aload_n 0, 1) := by decide +kernel
theorem dX7_addPart_22 : decode cX7_addPart 22 = .ok (.dup, 1) := by decide +kernel
theorem dX7_addPart_23 : decode cX7_addPart 23 = .ok (.getfield 30, 3) := by decide +kernel
theorem dX7_addPart_26 : decode cX7_addPart 26 = .ok (.iconst 1, 1) := by decide +kernel
theorem dX7_addPart_27 : decode cX7_addPart 27 = .ok (.iadd, 1) := by decide +kernel
theorem dX7_addPart_28 : decode cX7_addPart 28 = .ok (.putfield 30, 3) := by decide +kernel
theorem dX7_addPart_31 : decode cX7_addPart 31 = .ok (.aload_n 0, 1) := by decide +kernel
theorem dX7_addPart_32 : decode cX7_addPart 32 = .ok (.getfield 30, 3) := by decide +kernel
theorem dX7_addPart_35 : decode cX7_addPart 35 = .ok (.iconst 1, 1) := by decide +kernel
theorem dX7_addPart_36 : decode cX7_addPart 36 = .ok (.isub, 1) := by decide +kernel
theorem dX7_addPart_37 : decode cX7_addPart 37 = .ok (.ireturn, 1) := by decide +kernel
theorem dX7_addCheck_0 : decode cX7_addCheck 0 = .ok (.aload_n 0, 1) := by decide +kernel
theorem dX7_addCheck_1 : decode cX7_addCheck 1 = .ok (.getfield 43, 3) := by decide +kernel
theorem dX7_addCheck_4 : decode cX7_addCheck 4 = .ok (.iconst 2, 1) := by decide +kernel
theorem dX7_addCheck_5 : decode cX7_addCheck 5 = .ok (.if_icmp .lt 6, 3) := by decide +kernel
theorem dX7_addCheck_8 : decode cX7_addCheck 8 = .ok (.bipush (-2), 2) := by decide +kernel
theorem dX7_addCheck_10 : decode cX7_addCheck 10 = .ok (.ireturn, 1) := by decide +kernel
theorem dX7_addCheck_11 : decode cX7_addCheck 11 = .ok (.aload_n 0, 1) := by decide +kernel
theorem dX7_addCheck_12 : decode cX7_addCheck 12 = .ok (.getfield 26, 3) := by decide +kernel
theorem dX7_addCheck_15 : decode cX7_addCheck 15 = .ok (.aload_n 0, 1) := by decide +kernel
theorem dX7_addCheck_16 : decode cX7_addCheck 16 = .ok (.getfield 43, 3) := by decide +kernel
theorem dX7_addCheck_19 : decode cX7_addCheck 19 = .ok (.aload_n 1, 1) := by decide +kernel
theorem dX7_addCheck_20 : decode cX7_addCheck 20 = .ok (.aastore, 1) := by decide +kernel
theorem dX7_addCheck_21 : decode cX7_addCheck 21 = .ok (.aload_n 0, 1) := by decide +kernel
theorem dX7_addCheck_22 : decode cX7_addCheck 22 = .ok (.dup, 1) := by decide +kernel
theorem dX7_addCheck_23 : decode cX7_addCheck 23 = .ok (.getfield 43, 3) := by decide +kernel
theorem dX7_addCheck_26 : decode cX7_addCheck 26 = .ok (.iconst 1, 1) := by decide +kernel
theorem dX7_addCheck_27 : decode cX7_addCheck 27 = .ok (.iadd, 1) := by decide +kernel
theorem dX7_addCheck_28 : decode cX7_addCheck 28 = .ok (.putfield 43, 3) := by decide +kernel
theorem dX7_addCheck_31 : decode cX7_addCheck 31 = .ok (.aload_n 0, 1) := by decide +kernel
theorem dX7_addCheck_32 : decode cX7_addCheck 32 = .ok (.getfield 43, 3) := by decide +kernel
theorem dX7_addCheck_35 : decode cX7_addCheck 35 = .ok (.iconst 1, 1) := by decide +kernel
theorem dX7_addCheck_36 : decode cX7_addCheck 36 = .ok (.isub, 1) := by decide +kernel
theorem dX7_addCheck_37 : decode cX7_addCheck 37 = .ok (.ireturn, 1) := by decide +kernel
theorem dX7_whyNotMade_0 : decode cX7_whyNotMade 0 = .ok (.iconst 0, 1) := by decide +kernel
theorem dX7_whyNotMade_1 : decode cX7_whyNotMade 1 = .ok (.istore_n 2, 1) := by decide +kernel
theorem dX7_whyNotMade_2 : decode cX7_whyNotMade 2 = .ok (.iload_n 2, 1) := by decide +kernel
theorem dX7_whyNotMade_3 : decode cX7_whyNotMade 3 = .ok (.aload_n 1, 1) := by decide +kernel
theorem dX7_whyNotMade_4 : decode cX7_whyNotMade 4 = .ok (.invokevirtual 46, 3) := by decide +kernel
theorem dX7_whyNotMade_7 : decode cX7_whyNotMade 7 = .ok (.if_icmp .ge 41, 3) := by decide +kernel
theorem dX7_whyNotMade_10 : decode cX7_whyNotMade 10 = .ok (.aload_n 0, 1) := by decide +kernel
theorem dX7_whyNotMade_11 : decode cX7_whyNotMade 11 = .ok (.getfield 20, 3) := by decide +kernel
theorem dX7_whyNotMade_14 : decode cX7_whyNotMade 14 = .ok (.iload_n 2, 1) := by decide +kernel
theorem dX7_whyNotMade_15 : decode cX7_whyNotMade 15 = .ok (.aaload, 1) := by decide +kernel
theorem dX7_whyNotMade_16 : decode cX7_whyNotMade 16 = .ok (.aload_n 1, 1) := by decide +kernel
theorem dX7_whyNotMade_17 : decode cX7_whyNotMade 17 = .ok (.getfield 52, 3) := by decide +kernel
theorem dX7_whyNotMade_20 : decode cX7_whyNotMade 20 = .ok (.iload_n 2, 1) := by decide +kernel
theorem dX7_whyNotMade_21 : decode cX7_whyNotMade 21 = .ok (.laload, 1) := by decide +kernel
theorem dX7_whyNotMade_22 : decode cX7_whyNotMade 22 = .ok (.aload_n 1, 1) := by decide +kernel
theorem dX7_whyNotMade_23 : decode cX7_whyNotMade 23 = .ok (.getfield 56, 3) := by decide +kernel
theorem dX7_whyNotMade_26 : decode cX7_whyNotMade 26 = .ok (.iload_n 2, 1) := by decide +kernel
theorem dX7_whyNotMade_27 : decode cX7_whyNotMade 27 = .ok (.aaload, 1) := by decide +kernel
theorem dX7_whyNotMade_28 : decode cX7_whyNotMade 28 = .ok (.aload_n 0, 1) := by decide +kernel
theorem dX7_whyNotMade_29 : decode cX7_whyNotMade 29 = .ok (.getfield 15, 3) := by decide +kernel
theorem dX7_whyNotMade_32 : decode cX7_whyNotMade 32 = .ok (.invokevirtual 60, 3) := by decide +kernel
theorem dX7_whyNotMade_35 : decode cX7_whyNotMade 35 = .ok (.istore_n 3, 1) := by decide +kernel
theorem dX7_whyNotMade_36 : decode cX7_whyNotMade 36 = .ok (.iload_n 3, 1) := by decide +kernel
theorem dX7_whyNotMade_37 : decode cX7_whyNotMade 37 = .ok (.ifCond .eq 5, 3) := by decide +kernel
theorem dX7_whyNotMade_40 : decode cX7_whyNotMade 40 = .ok (.iload_n 3, 1) := by decide +kernel
theorem dX7_whyNotMade_41 : decode cX7_whyNotMade 41 = .ok (.ireturn, 1) := by decide +kernel
theorem dX7_whyNotMade_42 : decode cX7_whyNotMade 42 = .ok (.iinc 2 1, 3) := by decide +kernel
theorem dX7_whyNotMade_45 : decode cX7_whyNotMade 45 = .ok (.goto (-43), 3) := by decide +kernel
theorem dX7_whyNotMade_48 : decode cX7_whyNotMade 48 = .ok (.iconst 0, 1) := by decide +kernel
theorem dX7_whyNotMade_49 : decode cX7_whyNotMade 49 = .ok (.istore_n 2, 1) := by decide +kernel
theorem dX7_whyNotMade_50 : decode cX7_whyNotMade 50 = .ok (.iload_n 2, 1) := by decide +kernel
theorem dX7_whyNotMade_51 : decode cX7_whyNotMade 51 = .ok (.aload_n 0, 1) := by decide +kernel
theorem dX7_whyNotMade_52 : decode cX7_whyNotMade 52 = .ok (.getfield 43, 3) := by decide +kernel
theorem dX7_whyNotMade_55 : decode cX7_whyNotMade 55 = .ok (.if_icmp .ge 26, 3) := by decide +kernel
theorem dX7_whyNotMade_58 : decode cX7_whyNotMade 58 = .ok (.aload_n 0, 1) := by decide +kernel
theorem dX7_whyNotMade_59 : decode cX7_whyNotMade 59 = .ok (.getfield 26, 3) := by decide +kernel
theorem dX7_whyNotMade_62 : decode cX7_whyNotMade 62 = .ok (.iload_n 2, 1) := by decide +kernel
theorem dX7_whyNotMade_63 : decode cX7_whyNotMade 63 = .ok (.aaload, 1) := by decide +kernel
theorem dX7_whyNotMade_64 : decode cX7_whyNotMade 64 = .ok (.aload_n 1, 1) := by decide +kernel
theorem dX7_whyNotMade_65 : decode cX7_whyNotMade 65 = .ok (.invokevirtual 64, 3) := by decide +kernel
theorem dX7_whyNotMade_68 : decode cX7_whyNotMade 68 = .ok (.istore_n 3, 1) := by decide +kernel
theorem dX7_whyNotMade_69 : decode cX7_whyNotMade 69 = .ok (.iload_n 3, 1) := by decide +kernel
theorem dX7_whyNotMade_70 : decode cX7_whyNotMade 70 = .ok (.ifCond .eq 5, 3) := by decide +kernel
theorem dX7_whyNotMade_73 : decode cX7_whyNotMade 73 = .ok (.iload_n 3, 1) := by decide +kernel
theorem dX7_whyNotMade_74 : decode cX7_whyNotMade 74 = .ok (.ireturn, 1) := by decide +kernel
theorem dX7_whyNotMade_75 : decode cX7_whyNotMade 75 = .ok (.iinc 2 1, 3) := by decide +kernel
theorem dX7_whyNotMade_78 : decode cX7_whyNotMade 78 = .ok (.goto (-28), 3) := by decide +kernel
theorem dX7_whyNotMade_81 : decode cX7_whyNotMade 81 = .ok (.iconst 0, 1) := by decide +kernel
theorem dX7_whyNotMade_82 : decode cX7_whyNotMade 82 = .ok (.ireturn, 1) := by decide +kernel
theorem dX8_init_0 : decode cX8_init 0 = .ok (.aload_n 0, 1) := by decide +kernel
theorem dX8_init_1 : decode cX8_init 1 = .ok (.invokespecial 3, 3) := by decide +kernel
theorem dX8_init_4 : decode cX8_init 4 = .ok (.aload_n 0, 1) := by decide +kernel
theorem dX8_init_5 : decode cX8_init 5 = .ok (.iload_n 1, 1) := by decide +kernel
theorem dX8_init_6 : decode cX8_init 6 = .ok (.iconst 0, 1) := by decide +kernel
theorem dX8_init_7 : decode cX8_init 7 = .ok (.invokestatic 9, 3) := by decide +kernel
theorem dX8_init_10 : decode cX8_init 10 = .ok (.newarray .int, 2) := by decide +kernel
theorem dX8_init_12 : decode cX8_init 12 = .ok (.putfield 15, 3) := by decide +kernel
theorem dX8_init_15 : decode cX8_init 15 = .ok (.return_, 1) := by decide +kernel
theorem dX8_family_0 : decode cX8_family 0 = .ok (.iconst 3, 1) := by decide +kernel
theorem dX8_family_1 : decode cX8_family 1 = .ok (.ireturn, 1) := by decide +kernel
theorem dX8_kind_0 : decode cX8_kind 0 = .ok (.bipush (-3), 2) := by decide +kernel
theorem dX8_kind_2 : decode cX8_kind 2 = .ok (.ireturn, 1) := by decide +kernel
theorem dX8_version_0 : decode cX8_version 0 = .ok (.bipush (-3), 2) := by decide +kernel
theorem dX8_version_2 : decode cX8_version 2 = .ok (.ireturn, 1) := by decide +kernel
theorem dX8_extent_0 : decode cX8_extent 0 = .ok (.aload_n 0, 1) := by decide +kernel
theorem dX8_extent_1 : decode cX8_extent 1 = .ok (.getfield 15, 3) := by decide +kernel
theorem dX8_extent_4 : decode cX8_extent 4 = .ok (.arraylength, 1) := by decide +kernel
theorem dX8_extent_5 : decode cX8_extent 5 = .ok (.ireturn, 1) := by decide +kernel
theorem dX9_init_0 : decode cX9_init 0 = .ok (.aload_n 0, 1) := by decide +kernel
theorem dX9_init_1 : decode cX9_init 1 = .ok (.invokespecial 3, 3) := by decide +kernel
theorem dX9_init_4 : decode cX9_init 4 = .ok (.aload_n 0, 1) := by decide +kernel
theorem dX9_init_5 : decode cX9_init 5 = .ok (.sipush 250, 3) := by decide +kernel
theorem dX9_init_8 : decode cX9_init 8 = .ok (.newarray .long, 2) := by decide +kernel
theorem dX9_init_10 : decode cX9_init 10 = .ok (.putfield 9, 3) := by decide +kernel
theorem dX9_init_13 : decode cX9_init 13 = .ok (.aload_n 0, 1) := by decide +kernel
theorem dX9_init_14 : decode cX9_init 14 = .ok (.sipush 250, 3) := by decide +kernel
theorem dX9_init_17 : decode cX9_init 17 = .ok (.newarray .long, 2) := by decide +kernel
theorem dX9_init_19 : decode cX9_init 19 = .ok (.putfield 15, 3) := by decide +kernel
theorem dX9_init_22 : decode cX9_init 22 = .ok (.return_, 1) := by decide +kernel
theorem dX9_replaceBy_0 : decode cX9_replaceBy 0 = .ok (.aload_n 0, 1) := by decide +kernel
theorem dX9_replaceBy_1 : decode cX9_replaceBy 1 = .ok (.iconst 0, 1) := by decide +kernel
theorem dX9_replaceBy_2 : decode cX9_replaceBy 2 = .ok (.putfield 18, 3) := by decide +kernel
theorem dX9_replaceBy_5 : decode cX9_replaceBy 5 = .ok (.aload_n 0, 1) := by decide +kernel
theorem dX9_replaceBy_6 : decode cX9_replaceBy 6 = .ok (.aload_n 1, 1) := by decide +kernel
theorem dX9_replaceBy_7 : decode cX9_replaceBy 7 = .ok (.iconst 0, 1) := by decide +kernel
theorem dX9_replaceBy_8 : decode cX9_replaceBy 8 = .ok (.invokevirtual 22, 3) := by decide +kernel
theorem dX9_replaceBy_11 : decode cX9_replaceBy 11 = .ok (.aload_n 0, 1) := by decide +kernel
theorem dX9_replaceBy_12 : decode cX9_replaceBy 12 = .ok (.getfield 18, 3) := by decide +kernel
theorem dX9_replaceBy_15 : decode cX9_replaceBy 15 = .ok (.sipush 250, 3) := by decide +kernel
theorem dX9_replaceBy_18 : decode cX9_replaceBy 18 = .ok (.if_icmp .le 6, 3) := by decide +kernel
theorem dX9_replaceBy_21 : decode cX9_replaceBy 21 = .ok (.bipush (-2), 2) := by decide +kernel
theorem dX9_replaceBy_23 : decode cX9_replaceBy 23 = .ok (.ireturn, 1) := by decide +kernel
theorem dX9_replaceBy_24 : decode cX9_replaceBy 24 = .ok (.aload_n 0, 1) := by decide +kernel
theorem dX9_replaceBy_25 : decode cX9_replaceBy 25 = .ok (.getfield 15, 3) := by decide +kernel
theorem dX9_replaceBy_28 : decode cX9_replaceBy 28 = .ok (.iconst 0, 1) := by decide +kernel
theorem dX9_replaceBy_29 : decode cX9_replaceBy 29 = .ok (.aload_n 0, 1) := by decide +kernel
theorem dX9_replaceBy_30 : decode cX9_replaceBy 30 = .ok (.getfield 9, 3) := by decide +kernel
theorem dX9_replaceBy_33 : decode cX9_replaceBy 33 = .ok (.iconst 0, 1) := by decide +kernel
theorem dX9_replaceBy_34 : decode cX9_replaceBy 34 = .ok (.aload_n 0, 1) := by decide +kernel
theorem dX9_replaceBy_35 : decode cX9_replaceBy 35 = .ok (.getfield 18, 3) := by decide +kernel
theorem dX9_replaceBy_38 : decode cX9_replaceBy 38 = .ok (.invokestatic 26, 3) := by decide +kernel
theorem dX9_replaceBy_41 : decode cX9_replaceBy 41 = .ok (.aload_n 0, 1) := by decide +kernel
theorem dX9_replaceBy_42 : decode cX9_replaceBy 42 = .ok (.aload_n 0, 1) := by decide +kernel
theorem dX9_replaceBy_43 : decode cX9_replaceBy 43 = .ok (.getfield 18, 3) := by decide +kernel
theorem dX9_replaceBy_46 : decode cX9_replaceBy 46 = .ok (.putfield 32, 3) := by decide +kernel
theorem dX9_replaceBy_49 : decode cX9_replaceBy 49 = .ok (.aload_n 0, 1) := by decide +kernel
theorem dX9_replaceBy_50 : decode cX9_replaceBy 50 = .ok (.getfield 32, 3) := by decide +kernel
theorem dX9_replaceBy_53 : decode cX9_replaceBy 53 = .ok (.ireturn, 1) := by decide +kernel
theorem dX9_put_0 : decode cX9_put 0 = .ok (.aload_n 0, 1) := by decide +kernel
theorem dX9_put_1 : decode cX9_put 1 = .ok (.getfield 18, 3) := by decide +kernel
theorem dX9_put_4 : decode cX9_put 4 = .ok (.sipush 250, 3) := by decide +kernel
theorem dX9_put_7 : decode cX9_put 7 = .ok (.if_icmp .ge 13, 3) := by decide +kernel
theorem dX9_put_10 : decode cX9_put 10 = .ok (.aload_n 0, 1) := by decide +kernel
theorem dX9_put_11 : decode cX9_put 11 = .ok (.getfield 15, 3) := by decide +kernel
theorem dX9_put_14 : decode cX9_put 14 = .ok (.aload_n 0, 1) := by decide +kernel
theorem dX9_put_15 : decode cX9_put 15 = .ok (.getfield 18, 3) := by decide +kernel
theorem dX9_put_18 : decode cX9_put 18 = .ok (.lload_n 1, 1) := by decide +kernel
theorem dX9_put_19 : decode cX9_put 19 = .ok (.lastore, 1) := by decide +kernel
theorem dX9_put_20 : decode cX9_put 20 = .ok (.aload_n 0, 1) := by decide +kernel
theorem dX9_put_21 : decode cX9_put 21 = .ok (.aload_n 0, 1) := by decide +kernel
theorem dX9_put_22 : decode cX9_put 22 = .ok (.getfield 18, 3) := by decide +kernel
theorem dX9_put_25 : decode cX9_put 25 = .ok (.iconst 1, 1) := by decide +kernel
theorem dX9_put_26 : decode cX9_put 26 = .ok (.iadd, 1) := by decide +kernel
theorem dX9_put_27 : decode cX9_put 27 = .ok (.sipush 251, 3) := by decide +kernel
theorem dX9_put_30 : decode cX9_put 30 = .ok (.invokestatic 35, 3) := by decide +kernel
theorem dX9_put_33 : decode cX9_put 33 = .ok (.putfield 18, 3) := by decide +kernel
theorem dX9_put_36 : decode cX9_put 36 = .ok (.return_, 1) := by decide +kernel
theorem dX9_putRecord_0 : decode cX9_putRecord 0 = .ok (.iload_n 2, 1) := by decide +kernel
theorem dX9_putRecord_1 : decode cX9_putRecord 1 = .ok (.iconst 5, 1) := by decide +kernel
theorem dX9_putRecord_2 : decode cX9_putRecord 2 = .ok (.imul, 1) := by decide +kernel
theorem dX9_putRecord_3 : decode cX9_putRecord 3 = .ok (.sipush 250, 3) := by decide +kernel
theorem dX9_putRecord_6 : decode cX9_putRecord 6 = .ok (.if_icmp .lt 11, 3) := by decide +kernel
theorem dX9_putRecord_9 : decode cX9_putRecord 9 = .ok (.aload_n 0, 1) := by decide +kernel
theorem dX9_putRecord_10 : decode cX9_putRecord 10 = .ok (.sipush 251, 3) := by decide +kernel
theorem dX9_putRecord_13 : decode cX9_putRecord 13 = .ok (.putfield 18, 3) := by decide +kernel
theorem dX9_putRecord_16 : decode cX9_putRecord 16 = .ok (.return_, 1) := by decide +kernel
theorem dX9_putRecord_17 : decode cX9_putRecord 17 = .ok (.aload_n 0, 1) := by decide +kernel
theorem dX9_putRecord_18 : decode cX9_putRecord 18 = .ok (.aload_n 1, 1) := by decide +kernel
theorem dX9_putRecord_19 : decode cX9_putRecord 19 = .ok (.invokevirtual 41, 3) := by decide +kernel
theorem dX9_putRecord_22 : decode cX9_putRecord 22 = .ok (.i2l, 1) := by decide +kernel
theorem dX9_putRecord_23 : decode cX9_putRecord 23 = .ok (.invokevirtual 47, 3) := by decide +kernel
theorem dX9_putRecord_26 : decode cX9_putRecord 26 = .ok (.aload_n 0, 1) := by decide +kernel
theorem dX9_putRecord_27 : decode cX9_putRecord 27 = .ok (.aload_n 1, 1) := by decide +kernel
theorem dX9_putRecord_28 : decode cX9_putRecord 28 = .ok (.invokevirtual 51, 3) := by decide +kernel
theorem dX9_putRecord_31 : decode cX9_putRecord 31 = .ok (.i2l, 1) := by decide +kernel
theorem dX9_putRecord_32 : decode cX9_putRecord 32 = .ok (.invokevirtual 47, 3) := by decide +kernel
theorem dX9_putRecord_35 : decode cX9_putRecord 35 = .ok (.iconst 0, 1) := by decide +kernel
theorem dX9_putRecord_36 : decode cX9_putRecord 36 = .ok (.istore_n 3, 1) := by decide +kernel
theorem dX9_putRecord_37 : decode cX9_putRecord 37 = .ok (.iload_n 3, 1) := by decide +kernel
theorem dX9_putRecord_38 : decode cX9_putRecord 38 = .ok (.aload_n 1, 1) := by decide +kernel
theorem dX9_putRecord_39 : decode cX9_putRecord 39 = .ok (.invokevirtual 51, 3) := by decide +kernel
theorem dX9_putRecord_42 : decode cX9_putRecord 42 = .ok (.if_icmp .ge 60, 3) := by decide +kernel
theorem dX9_putRecord_45 : decode cX9_putRecord 45 = .ok (.aload_n 0, 1) := by decide +kernel
theorem dX9_putRecord_46 : decode cX9_putRecord 46 = .ok (.getfield 18, 3) := by decide +kernel
theorem dX9_putRecord_49 : decode cX9_putRecord 49 = .ok (.sipush 250, 3) := by decide +kernel
theorem dX9_putRecord_52 : decode cX9_putRecord 52 = .ok (.if_icmp .gt 50, 3) := by decide +kernel
theorem dX9_putRecord_55 : decode cX9_putRecord 55 = .ok (.aload_n 0, 1) := by decide +kernel
theorem dX9_putRecord_56 : decode cX9_putRecord 56 = .ok (.aload_n 1, 1) := by decide +kernel
theorem dX9_putRecord_57 : decode cX9_putRecord 57 = .ok (.getfield 54, 3) := by decide +kernel
theorem dX9_putRecord_60 : decode cX9_putRecord 60 = .ok (.getfield 58, 3) := by decide +kernel
theorem dX9_putRecord_63 : decode cX9_putRecord 63 = .ok (.iload_n 3, 1) := by decide +kernel
theorem dX9_putRecord_64 : decode cX9_putRecord 64 = .ok (.aaload, 1) := by decide +kernel
theorem dX9_putRecord_65 : decode cX9_putRecord 65 = .ok (.getfield 64, 3) := by decide +kernel
theorem dX9_putRecord_68 : decode cX9_putRecord 68 = .ok (.i2l, 1) := by decide +kernel
theorem dX9_putRecord_69 : decode cX9_putRecord 69 = .ok (.invokevirtual 47, 3) := by decide +kernel
theorem dX9_putRecord_72 : decode cX9_putRecord 72 = .ok (.aload_n 0, 1) := by decide +kernel
theorem dX9_putRecord_73 : decode cX9_putRecord 73 = .ok (.aload_n 1, 1) := by decide +kernel
theorem dX9_putRecord_74 : decode cX9_putRecord 74 = .ok (.getfield 54, 3) := by decide +kernel
theorem dX9_putRecord_77 : decode cX9_putRecord 77 = .ok (.getfield 58, 3) := by decide +kernel
theorem dX9_putRecord_80 : decode cX9_putRecord 80 = .ok (.iload_n 3, 1) := by decide +kernel
theorem dX9_putRecord_81 : decode cX9_putRecord 81 = .ok (.aaload, 1) := by decide +kernel
theorem dX9_putRecord_82 : decode cX9_putRecord 82 = .ok (.getfield 69, 3) := by decide +kernel
theorem dX9_putRecord_85 : decode cX9_putRecord 85 = .ok (.i2l, 1) := by decide +kernel
theorem dX9_putRecord_86 : decode cX9_putRecord 86 = .ok (.invokevirtual 47, 3) := by decide +kernel
theorem dX9_putRecord_89 : decode cX9_putRecord 89 = .ok (.aload_n 0, 1) := by decide +kernel
theorem dX9_putRecord_90 : decode cX9_putRecord 90 = .ok (.aload_n 1, 1) := by decide +kernel
theorem dX9_putRecord_91 : decode cX9_putRecord 91 = .ok (.iload_n 3, 1) := by decide +kernel
theorem dX9_putRecord_92 : decode cX9_putRecord 92 = .ok (.iload_n 2, 1) := by decide +kernel
theorem dX9_putRecord_93 : decode cX9_putRecord 93 = .ok (.invokevirtual 72, 3) := by decide +kernel
theorem dX9_putRecord_96 : decode cX9_putRecord 96 = .ok (.iinc 3 1, 3) := by decide +kernel
theorem dX9_putRecord_99 : decode cX9_putRecord 99 = .ok (.goto (-62), 3) := by decide +kernel
theorem dX9_putRecord_102 : decode cX9_putRecord 102 = .ok (.return_, 1) := by decide +kernel
theorem dX9_putValue_0 : decode cX9_putValue 0 = .ok (.aload_n 1, 1) := by decide +kernel
theorem dX9_putValue_1 : decode cX9_putValue 1 = .ok (.getfield 76, 3) := by decide +kernel
theorem dX9_putValue_4 : decode cX9_putValue 4 = .ok (.iload_n 2, 1) := by decide +kernel
theorem dX9_putValue_5 : decode cX9_putValue 5 = .ok (.aaload, 1) := by decide +kernel
theorem dX9_putValue_6 : decode cX9_putValue 6 = .ok (.astore 4, 2) := by decide +kernel
theorem dX9_putValue_8 : decode cX9_putValue 8 = .ok (.aload_n 1, 1) := by decide +kernel
theorem dX9_putValue_9 : decode cX9_putValue 9 = .ok (.iload_n 2, 1) := by decide +kernel
theorem dX9_putValue_10 : decode cX9_putValue 10 = .ok (.invokevirtual 80, 3) := by decide +kernel
theorem dX9_putValue_13 : decode cX9_putValue 13 = .ok (.ifCond .eq 16, 3) := by decide +kernel
theorem dX9_putValue_16 : decode cX9_putValue 16 = .ok (.aload_n 0, 1) := by decide +kernel
theorem dX9_putValue_17 : decode cX9_putValue 17 = .ok (.aload_n 1, 1) := by decide +kernel
theorem dX9_putValue_18 : decode cX9_putValue 18 = .ok (.getfield 84, 3) := by decide +kernel
theorem dX9_putValue_21 : decode cX9_putValue 21 = .ok (.iload_n 2, 1) := by decide +kernel
theorem dX9_putValue_22 : decode cX9_putValue 22 = .ok (.laload, 1) := by decide +kernel
theorem dX9_putValue_23 : decode cX9_putValue 23 = .ok (.invokevirtual 47, 3) := by decide +kernel
theorem dX9_putValue_26 : decode cX9_putValue 26 = .ok (.goto 117, 3) := by decide +kernel
theorem dX9_putValue_29 : decode cX9_putValue 29 = .ok (.aload 4, 2) := by decide +kernel
theorem dX9_putValue_31 : decode cX9_putValue 31 = .ok (.instanceof 87, 3) := by decide +kernel
theorem dX9_putValue_34 : decode cX9_putValue 34 = .ok (.ifCond .eq 23, 3) := by decide +kernel
theorem dX9_putValue_37 : decode cX9_putValue 37 = .ok (.aload 4, 2) := by decide +kernel
theorem dX9_putValue_39 : decode cX9_putValue 39 = .ok (.checkcast 87, 3) := by decide +kernel
theorem dX9_putValue_42 : decode cX9_putValue 42 = .ok (.astore 5, 2) := by decide +kernel
theorem dX9_putValue_44 : decode cX9_putValue 44 = .ok (.aload_n 0, 1) := by decide +kernel
theorem dX9_putValue_45 : decode cX9_putValue 45 = .ok (.aload 5, 2) := by decide +kernel
theorem dX9_putValue_47 : decode cX9_putValue 47 = .ok (.getfield 89, 3) := by decide +kernel
theorem dX9_putValue_50 : decode cX9_putValue 50 = .ok (.i2l, 1) := by decide +kernel
theorem dX9_putValue_51 : decode cX9_putValue 51 = .ok (.invokevirtual 47, 3) := by decide +kernel
theorem dX9_putValue_54 : decode cX9_putValue 54 = .ok (.goto 89, 3) := by decide +kernel
theorem dX9_putValue_57 : decode cX9_putValue 57 = .ok (.aload 4, 2) := by decide +kernel
theorem dX9_putValue_59 : decode cX9_putValue 59 = .ok (.instanceof 42, 3) := by decide +kernel
theorem dX9_putValue_62 : decode cX9_putValue 62 = .ok (.ifCond .eq 27, 3) := by decide +kernel
theorem dX9_putValue_65 : decode cX9_putValue 65 = .ok (.aload 4, 2) := by decide +kernel
theorem dX9_putValue_67 : decode cX9_putValue 67 = .ok (.checkcast 42, 3) := by decide +kernel
theorem dX9_putValue_70 : decode cX9_putValue 70 = .ok (.astore 6, 2) := by decide +kernel
theorem dX9_putValue_72 : decode cX9_putValue 72 = .ok (.aload_n 0, 1) := by decide +kernel
theorem dX9_putValue_73 : decode cX9_putValue 73 = .ok (.lconst 1, 1) := by decide +kernel
theorem dX9_putValue_74 : decode cX9_putValue 74 = .ok (.invokevirtual 47, 3) := by decide +kernel
theorem dX9_putValue_77 : decode cX9_putValue 77 = .ok (.aload_n 0, 1) := by decide +kernel
theorem dX9_putValue_78 : decode cX9_putValue 78 = .ok (.aload 6, 2) := by decide +kernel
theorem dX9_putValue_80 : decode cX9_putValue 80 = .ok (.iload_n 3, 1) := by decide +kernel
theorem dX9_putValue_81 : decode cX9_putValue 81 = .ok (.iconst 1, 1) := by decide +kernel
theorem dX9_putValue_82 : decode cX9_putValue 82 = .ok (.iadd, 1) := by decide +kernel
theorem dX9_putValue_83 : decode cX9_putValue 83 = .ok (.invokevirtual 22, 3) := by decide +kernel
theorem dX9_putValue_86 : decode cX9_putValue 86 = .ok (.goto 57, 3) := by decide +kernel
theorem dX9_putValue_89 : decode cX9_putValue 89 = .ok (.aload 4, 2) := by decide +kernel
theorem dX9_putValue_91 : decode cX9_putValue 91 = .ok (.instanceof 90, 3) := by decide +kernel
theorem dX9_putValue_94 : decode cX9_putValue 94 = .ok (.ifCond .eq 22, 3) := by decide +kernel
theorem dX9_putValue_97 : decode cX9_putValue 97 = .ok (.aload 4, 2) := by decide +kernel
theorem dX9_putValue_99 : decode cX9_putValue 99 = .ok (.checkcast 90, 3) := by decide +kernel
theorem dX9_putValue_102 : decode cX9_putValue 102 = .ok (.astore 7, 2) := by decide +kernel
theorem dX9_putValue_104 : decode cX9_putValue 104 = .ok (.aload_n 0, 1) := by decide +kernel
theorem dX9_putValue_105 : decode cX9_putValue 105 = .ok (.aload 7, 2) := by decide +kernel
theorem dX9_putValue_107 : decode cX9_putValue 107 = .ok (.getfield 92, 3) := by decide +kernel
theorem dX9_putValue_110 : decode cX9_putValue 110 = .ok (.invokevirtual 96, 3) := by decide +kernel
theorem dX9_putValue_113 : decode cX9_putValue 113 = .ok (.goto 30, 3) := by decide +kernel
theorem dX9_putValue_116 : decode cX9_putValue 116 = .ok (.aload_n 0, 1) := by decide +kernel
theorem dX9_putValue_117 : decode cX9_putValue 117 = .ok (.aload_n 1, 1) := by decide +kernel
theorem dX9_putValue_118 : decode cX9_putValue 118 = .ok (.getfield 54, 3) := by decide +kernel
theorem dX9_putValue_121 : decode cX9_putValue 121 = .ok (.getfield 58, 3) := by decide +kernel
theorem dX9_putValue_124 : decode cX9_putValue 124 = .ok (.iload_n 2, 1) := by decide +kernel
theorem dX9_putValue_125 : decode cX9_putValue 125 = .ok (.aaload, 1) := by decide +kernel
theorem dX9_putValue_126 : decode cX9_putValue 126 = .ok (.getfield 69, 3) := by decide +kernel
theorem dX9_putValue_129 : decode cX9_putValue 129 = .ok (.iconst 3, 1) := by decide +kernel
theorem dX9_putValue_130 : decode cX9_putValue 130 = .ok (.if_icmp .ne 7, 3) := by decide +kernel
theorem dX9_putValue_133 : decode cX9_putValue 133 = .ok (.lconst 0, 1) := by decide +kernel
theorem dX9_putValue_134 : decode cX9_putValue 134 = .ok (.goto 6, 3) := by decide +kernel
theorem dX9_putValue_137 : decode cX9_putValue 137 = .ok (.ldc2_w 100, 3) := by decide +kernel
theorem dX9_putValue_140 : decode cX9_putValue 140 = .ok (.invokevirtual 47, 3) := by decide +kernel
theorem dX9_putValue_143 : decode cX9_putValue 143 = .ok (.return_, 1) := by decide +kernel
theorem dX9_putItems_0 : decode cX9_putItems 0 = .ok (.aload_n 0, 1) := by decide +kernel
theorem dX9_putItems_1 : decode cX9_putItems 1 = .ok (.aload_n 1, 1) := by decide +kernel
theorem dX9_putItems_2 : decode cX9_putItems 2 = .ok (.arraylength, 1) := by decide +kernel
theorem dX9_putItems_3 : decode cX9_putItems 3 = .ok (.i2l, 1) := by decide +kernel
theorem dX9_putItems_4 : decode cX9_putItems 4 = .ok (.invokevirtual 47, 3) := by decide +kernel
theorem dX9_putItems_7 : decode cX9_putItems 7 = .ok (.iconst 0, 1) := by decide +kernel
theorem dX9_putItems_8 : decode cX9_putItems 8 = .ok (.istore_n 2, 1) := by decide +kernel
theorem dX9_putItems_9 : decode cX9_putItems 9 = .ok (.iload_n 2, 1) := by decide +kernel
theorem dX9_putItems_10 : decode cX9_putItems 10 = .ok (.aload_n 1, 1) := by decide +kernel
theorem dX9_putItems_11 : decode cX9_putItems 11 = .ok (.arraylength, 1) := by decide +kernel
theorem dX9_putItems_12 : decode cX9_putItems 12 = .ok (.if_icmp .ge 17, 3) := by decide +kernel
theorem dX9_putItems_15 : decode cX9_putItems 15 = .ok (.aload_n 0, 1) := by decide +kernel
theorem dX9_putItems_16 : decode cX9_putItems 16 = .ok (.aload_n 1, 1) := by decide +kernel
theorem dX9_putItems_17 : decode cX9_putItems 17 = .ok (.iload_n 2, 1) := by decide +kernel
theorem dX9_putItems_18 : decode cX9_putItems 18 = .ok (.iaload, 1) := by decide +kernel
theorem dX9_putItems_19 : decode cX9_putItems 19 = .ok (.i2l, 1) := by decide +kernel
theorem dX9_putItems_20 : decode cX9_putItems 20 = .ok (.invokevirtual 47, 3) := by decide +kernel
theorem dX9_putItems_23 : decode cX9_putItems 23 = .ok (.iinc 2 1, 3) := by decide +kernel
theorem dX9_putItems_26 : decode cX9_putItems 26 = .ok (.goto (-17), 3) := by decide +kernel
theorem dX9_putItems_29 : decode cX9_putItems 29 = .ok (.return_, 1) := by decide +kernel
theorem dX10_init_0 : decode cX10_init 0 = .ok (.aload_n 0, 1) := by decide +kernel
theorem dX10_init_1 : decode cX10_init 1 = .ok (.invokespecial 1, 3) := by decide +kernel
theorem dX10_init_4 : decode cX10_init 4 = .ok (.return_, 1) := by decide +kernel
theorem dX11_init_0 : decode cX11_init 0 = .ok (.aload_n 0, 1) := by decide +kernel
theorem dX11_init_1 : decode cX11_init 1 = .ok (.invokespecial 1, 3) := by decide +kernel
theorem dX11_init_4 : decode cX11_init 4 = .ok (.aload_n 0, 1) := by decide +kernel
theorem dX11_init_5 : decode cX11_init 5 = .ok (.new 7, 3) := by decide +kernel
theorem dX11_init_8 : decode cX11_init 8 = .ok (.dup, 1) := by decide +kernel
theorem dX11_init_9 : decode cX11_init 9 = .ok (.invokespecial 9, 3) := by decide +kernel
theorem dX11_init_12 : decode cX11_init 12 = .ok (.putfield 10, 3) := by decide +kernel
theorem dX11_init_15 : decode cX11_init 15 = .ok (.aload_n 0, 1) := by decide +kernel
theorem dX11_init_16 : decode cX11_init 16 = .ok (.bipush 10, 2) := by decide +kernel
theorem dX11_init_18 : decode cX11_init 18 = .ok (.anewarray 16, 3) := by decide +kernel
theorem dX11_init_21 : decode cX11_init 21 = .ok (.putfield 18, 3) := by decide +kernel
theorem dX11_init_24 : decode cX11_init 24 = .ok (.aload_n 0, 1) := by decide +kernel
theorem dX11_init_25 : decode cX11_init 25 = .ok (.iconst 5, 1) := by decide +kernel
theorem dX11_init_26 : decode cX11_init 26 = .ok (.newarray .long, 2) := by decide +kernel
theorem dX11_init_28 : decode cX11_init 28 = .ok (.putfield 22, 3) := by decide +kernel
theorem dX11_init_31 : decode cX11_init 31 = .ok (.aload_n 0, 1) := by decide +kernel
theorem dX11_init_32 : decode cX11_init 32 = .ok (.iconst 5, 1) := by decide +kernel
theorem dX11_init_33 : decode cX11_init 33 = .ok (.newarray .int, 2) := by decide +kernel
theorem dX11_init_35 : decode cX11_init 35 = .ok (.putfield 26, 3) := by decide +kernel
theorem dX11_init_38 : decode cX11_init 38 = .ok (.aload_n 0, 1) := by decide +kernel
theorem dX11_init_39 : decode cX11_init 39 = .ok (.new 30, 3) := by decide +kernel
theorem dX11_init_42 : decode cX11_init 42 = .ok (.dup, 1) := by decide +kernel
theorem dX11_init_43 : decode cX11_init 43 = .ok (.invokespecial 32, 3) := by decide +kernel
theorem dX11_init_46 : decode cX11_init 46 = .ok (.putfield 33, 3) := by decide +kernel
theorem dX11_init_49 : decode cX11_init 49 = .ok (.aload_n 0, 1) := by decide +kernel
theorem dX11_init_50 : decode cX11_init 50 = .ok (.iconst (-1), 1) := by decide +kernel
theorem dX11_init_51 : decode cX11_init 51 = .ok (.putfield 37, 3) := by decide +kernel
theorem dX11_init_54 : decode cX11_init 54 = .ok (.aload_n 0, 1) := by decide +kernel
theorem dX11_init_55 : decode cX11_init 55 = .ok (.bipush (-3), 2) := by decide +kernel
theorem dX11_init_57 : decode cX11_init 57 = .ok (.putfield 41, 3) := by decide +kernel
theorem dX11_init_60 : decode cX11_init 60 = .ok (.return_, 1) := by decide +kernel
theorem dX11_constant_0 : decode cX11_constant 0 = .ok (.aload_n 0, 1) := by decide +kernel
theorem dX11_constant_1 : decode cX11_constant 1 = .ok (.getfield 10, 3) := by decide +kernel
theorem dX11_constant_4 : decode cX11_constant 4 = .ok (.iload_n 1, 1) := by decide +kernel
theorem dX11_constant_5 : decode cX11_constant 5 = .ok (.iload_n 2, 1) := by decide +kernel
theorem dX11_constant_6 : decode cX11_constant 6 = .ok (.invokevirtual 44, 3) := by decide +kernel
theorem dX11_constant_9 : decode cX11_constant 9 = .ok (.astore 5, 2) := by decide +kernel
theorem dX11_constant_11 : decode cX11_constant 11 = .ok (.aload 5, 2) := by decide +kernel
theorem dX11_constant_13 : decode cX11_constant 13 = .ok (.ifnull 22, 3) := by decide +kernel
theorem dX11_constant_16 : decode cX11_constant 16 = .ok (.iload_n 3, 1) := by decide +kernel
theorem dX11_constant_17 : decode cX11_constant 17 = .ok (.bipush 10, 2) := by decide +kernel
theorem dX11_constant_19 : decode cX11_constant 19 = .ok (.invokestatic 48, 3) := by decide +kernel
theorem dX11_constant_22 : decode cX11_constant 22 = .ok (.ifCond .eq 13, 3) := by decide +kernel
theorem dX11_constant_25 : decode cX11_constant 25 = .ok (.aload 5, 2) := by decide +kernel
theorem dX11_constant_27 : decode cX11_constant 27 = .ok (.iload_n 3, 1) := by decide +kernel
theorem dX11_constant_28 : decode cX11_constant 28 = .ok (.i2l, 1) := by decide +kernel
theorem dX11_constant_29 : decode cX11_constant 29 = .ok (.invokevirtual 52, 3) := by decide +kernel
theorem dX11_constant_32 : decode cX11_constant 32 = .ok (.ifnull 5, 3) := by decide +kernel
theorem dX11_constant_35 : decode cX11_constant 35 = .ok (.iconst (-1), 1) := by decide +kernel
theorem dX11_constant_36 : decode cX11_constant 36 = .ok (.ireturn, 1) := by decide +kernel
theorem dX11_constant_37 : decode cX11_constant 37 = .ok (.aload 5, 2) := by decide +kernel
theorem dX11_constant_39 : decode cX11_constant 39 = .ok (.iload_n 3, 1) := by decide +kernel
theorem dX11_constant_40 : decode cX11_constant 40 = .ok (.iload 4, 2) := by decide +kernel
theorem dX11_constant_42 : decode cX11_constant 42 = .ok (.invokevirtual 58, 3) := by decide +kernel
theorem dX11_constant_45 : decode cX11_constant 45 = .ok (.ireturn, 1) := by decide +kernel
theorem dX11_part_0 : decode cX11_part 0 = .ok (.aload_n 0, 1) := by decide +kernel
theorem dX11_part_1 : decode cX11_part 1 = .ok (.getfield 10, 3) := by decide +kernel
theorem dX11_part_4 : decode cX11_part 4 = .ok (.iload_n 1, 1) := by decide +kernel
theorem dX11_part_5 : decode cX11_part 5 = .ok (.i2l, 1) := by decide +kernel
theorem dX11_part_6 : decode cX11_part 6 = .ok (.iload_n 2, 1) := by decide +kernel
theorem dX11_part_7 : decode cX11_part 7 = .ok (.invokevirtual 62, 3) := by decide +kernel
theorem dX11_part_10 : decode cX11_part 10 = .ok (.astore 6, 2) := by decide +kernel
theorem dX11_part_12 : decode cX11_part 12 = .ok (.aload 6, 2) := by decide +kernel
theorem dX11_part_14 : decode cX11_part 14 = .ok (.ifnull 31, 3) := by decide +kernel
theorem dX11_part_17 : decode cX11_part 17 = .ok (.iload_n 3, 1) := by decide +kernel
theorem dX11_part_18 : decode cX11_part 18 = .ok (.bipush 10, 2) := by decide +kernel
theorem dX11_part_20 : decode cX11_part 20 = .ok (.invokestatic 48, 3) := by decide +kernel
theorem dX11_part_23 : decode cX11_part 23 = .ok (.ifCond .eq 22, 3) := by decide +kernel
theorem dX11_part_26 : decode cX11_part 26 = .ok (.iload 4, 2) := by decide +kernel
theorem dX11_part_28 : decode cX11_part 28 = .ok (.iconst 5, 1) := by decide +kernel
theorem dX11_part_29 : decode cX11_part 29 = .ok (.invokestatic 48, 3) := by decide +kernel
theorem dX11_part_32 : decode cX11_part 32 = .ok (.ifCond .eq 13, 3) := by decide +kernel
theorem dX11_part_35 : decode cX11_part 35 = .ok (.iload 4, 2) := by decide +kernel
theorem dX11_part_37 : decode cX11_part 37 = .ok (.iload 5, 2) := by decide +kernel
theorem dX11_part_39 : decode cX11_part 39 = .ok (.invokestatic 66, 3) := by decide +kernel
theorem dX11_part_42 : decode cX11_part 42 = .ok (.ifCond .ne 5, 3) := by decide +kernel
theorem dX11_part_45 : decode cX11_part 45 = .ok (.iconst (-1), 1) := by decide +kernel
theorem dX11_part_46 : decode cX11_part 46 = .ok (.ireturn, 1) := by decide +kernel
theorem dX11_part_47 : decode cX11_part 47 = .ok (.aload 6, 2) := by decide +kernel
theorem dX11_part_49 : decode cX11_part 49 = .ok (.iload_n 3, 1) := by decide +kernel
theorem dX11_part_50 : decode cX11_part 50 = .ok (.i2l, 1) := by decide +kernel
theorem dX11_part_51 : decode cX11_part 51 = .ok (.invokevirtual 69, 3) := by decide +kernel
theorem dX11_part_54 : decode cX11_part 54 = .ok (.bipush (-3), 2) := by decide +kernel
theorem dX11_part_56 : decode cX11_part 56 = .ok (.if_icmp .eq 5, 3) := by decide +kernel
theorem dX11_part_59 : decode cX11_part 59 = .ok (.iconst (-1), 1) := by decide +kernel
theorem dX11_part_60 : decode cX11_part 60 = .ok (.ireturn, 1) := by decide +kernel
theorem dX11_part_61 : decode cX11_part 61 = .ok (.aload 6, 2) := by decide +kernel
theorem dX11_part_63 : decode cX11_part 63 = .ok (.new 75, 3) := by decide +kernel
theorem dX11_part_66 : decode cX11_part 66 = .ok (.dup, 1) := by decide +kernel
theorem dX11_part_67 : decode cX11_part 67 = .ok (.iload_n 3, 1) := by decide +kernel
theorem dX11_part_68 : decode cX11_part 68 = .ok (.iload 4, 2) := by decide +kernel
theorem dX11_part_70 : decode cX11_part 70 = .ok (.iload 5, 2) := by decide +kernel
theorem dX11_part_72 : decode cX11_part 72 = .ok (.invokespecial 77, 3) := by decide +kernel
theorem dX11_part_75 : decode cX11_part 75 = .ok (.invokevirtual 80, 3) := by decide +kernel
theorem dX11_part_78 : decode cX11_part 78 = .ok (.ireturn, 1) := by decide +kernel
theorem dX11_check_0 : decode cX11_check 0 = .ok (.aload_n 0, 1) := by decide +kernel
theorem dX11_check_1 : decode cX11_check 1 = .ok (.getfield 10, 3) := by decide +kernel
theorem dX11_check_4 : decode cX11_check 4 = .ok (.iload_n 1, 1) := by decide +kernel
theorem dX11_check_5 : decode cX11_check 5 = .ok (.i2l, 1) := by decide +kernel
theorem dX11_check_6 : decode cX11_check 6 = .ok (.iload_n 2, 1) := by decide +kernel
theorem dX11_check_7 : decode cX11_check 7 = .ok (.invokevirtual 62, 3) := by decide +kernel
theorem dX11_check_10 : decode cX11_check 10 = .ok (.astore 6, 2) := by decide +kernel
theorem dX11_check_12 : decode cX11_check 12 = .ok (.aload 6, 2) := by decide +kernel
theorem dX11_check_14 : decode cX11_check 14 = .ok (.ifnull 25, 3) := by decide +kernel
theorem dX11_check_17 : decode cX11_check 17 = .ok (.iload_n 3, 1) := by decide +kernel
theorem dX11_check_18 : decode cX11_check 18 = .ok (.iconst 5, 1) := by decide +kernel
theorem dX11_check_19 : decode cX11_check 19 = .ok (.invokestatic 48, 3) := by decide +kernel
theorem dX11_check_22 : decode cX11_check 22 = .ok (.ifCond .eq 17, 3) := by decide +kernel
theorem dX11_check_25 : decode cX11_check 25 = .ok (.aload 6, 2) := by decide +kernel
theorem dX11_check_27 : decode cX11_check 27 = .ok (.iload 4, 2) := by decide +kernel
theorem dX11_check_29 : decode cX11_check 29 = .ok (.iload_n 3, 1) := by decide +kernel
theorem dX11_check_30 : decode cX11_check 30 = .ok (.invokestatic 84, 3) := by decide +kernel
theorem dX11_check_33 : decode cX11_check 33 = .ok (.invokevirtual 88, 3) := by decide +kernel
theorem dX11_check_36 : decode cX11_check 36 = .ok (.ifCond .ne 5, 3) := by decide +kernel
theorem dX11_check_39 : decode cX11_check 39 = .ok (.iconst (-1), 1) := by decide +kernel
theorem dX11_check_40 : decode cX11_check 40 = .ok (.ireturn, 1) := by decide +kernel
theorem dX11_check_41 : decode cX11_check 41 = .ok (.iload_n 3, 1) := by decide +kernel
theorem dX11_check_42 : decode cX11_check 42 = .ok (.iconst 1, 1) := by decide +kernel
theorem dX11_check_43 : decode cX11_check 43 = .ok (.if_icmp .eq 16, 3) := by decide +kernel
theorem dX11_check_46 : decode cX11_check 46 = .ok (.aload 6, 2) := by decide +kernel
theorem dX11_check_48 : decode cX11_check 48 = .ok (.iload 5, 2) := by decide +kernel
theorem dX11_check_50 : decode cX11_check 50 = .ok (.iconst 0, 1) := by decide +kernel
theorem dX11_check_51 : decode cX11_check 51 = .ok (.invokevirtual 88, 3) := by decide +kernel
theorem dX11_check_54 : decode cX11_check 54 = .ok (.ifCond .ne 5, 3) := by decide +kernel
theorem dX11_check_57 : decode cX11_check 57 = .ok (.iconst (-1), 1) := by decide +kernel
theorem dX11_check_58 : decode cX11_check 58 = .ok (.ireturn, 1) := by decide +kernel
theorem dX11_check_59 : decode cX11_check 59 = .ok (.aload 6, 2) := by decide +kernel
theorem dX11_check_61 : decode cX11_check 61 = .ok (.new 91, 3) := by decide +kernel
theorem dX11_check_64 : decode cX11_check 64 = .ok (.dup, 1) := by decide +kernel
theorem dX11_check_65 : decode cX11_check 65 = .ok (.iload_n 3, 1) := by decide +kernel
theorem dX11_check_66 : decode cX11_check 66 = .ok (.iload 4, 2) := by decide +kernel
theorem dX11_check_68 : decode cX11_check 68 = .ok (.iload 5, 2) := by decide +kernel
theorem dX11_check_70 : decode cX11_check 70 = .ok (.invokespecial 93, 3) := by decide +kernel
theorem dX11_check_73 : decode cX11_check 73 = .ok (.invokevirtual 94, 3) := by decide +kernel
theorem dX11_check_76 : decode cX11_check 76 = .ok (.ireturn, 1) := by decide +kernel
theorem dX11_hold_0 : decode cX11_hold 0 = .ok (.aload_n 0, 1) := by decide +kernel
theorem dX11_hold_1 : decode cX11_hold 1 = .ok (.getfield 10, 3) := by decide +kernel
theorem dX11_hold_4 : decode cX11_hold 4 = .ok (.iload_n 2, 1) := by decide +kernel
theorem dX11_hold_5 : decode cX11_hold 5 = .ok (.iload_n 3, 1) := by decide +kernel
theorem dX11_hold_6 : decode cX11_hold 6 = .ok (.invokevirtual 44, 3) := by decide +kernel
theorem dX11_hold_9 : decode cX11_hold 9 = .ok (.astore 5, 2) := by decide +kernel
theorem dX11_hold_11 : decode cX11_hold 11 = .ok (.iload_n 1, 1) := by decide +kernel
theorem dX11_hold_12 : decode cX11_hold 12 = .ok (.bipush 10, 2) := by decide +kernel
theorem dX11_hold_14 : decode cX11_hold 14 = .ok (.invokestatic 48, 3) := by decide +kernel
theorem dX11_hold_17 : decode cX11_hold 17 = .ok (.ifCond .eq 18, 3) := by decide +kernel
theorem dX11_hold_20 : decode cX11_hold 20 = .ok (.aload 5, 2) := by decide +kernel
theorem dX11_hold_22 : decode cX11_hold 22 = .ok (.ifnull 13, 3) := by decide +kernel
theorem dX11_hold_25 : decode cX11_hold 25 = .ok (.iload 4, 2) := by decide +kernel
theorem dX11_hold_27 : decode cX11_hold 27 = .ok (.bipush 10, 2) := by decide +kernel
theorem dX11_hold_29 : decode cX11_hold 29 = .ok (.invokestatic 48, 3) := by decide +kernel
theorem dX11_hold_32 : decode cX11_hold 32 = .ok (.ifCond .ne 5, 3) := by decide +kernel
theorem dX11_hold_35 : decode cX11_hold 35 = .ok (.iconst (-1), 1) := by decide +kernel
theorem dX11_hold_36 : decode cX11_hold 36 = .ok (.ireturn, 1) := by decide +kernel
theorem dX11_hold_37 : decode cX11_hold 37 = .ok (.aload 5, 2) := by decide +kernel
theorem dX11_hold_39 : decode cX11_hold 39 = .ok (.iload 4, 2) := by decide +kernel
theorem dX11_hold_41 : decode cX11_hold 41 = .ok (.i2l, 1) := by decide +kernel
theorem dX11_hold_42 : decode cX11_hold 42 = .ok (.invokevirtual 52, 3) := by decide +kernel
theorem dX11_hold_45 : decode cX11_hold 45 = .ok (.astore 6, 2) := by decide +kernel
theorem dX11_hold_47 : decode cX11_hold 47 = .ok (.aload 6, 2) := by decide +kernel
theorem dX11_hold_49 : decode cX11_hold 49 = .ok (.ifnonnull 6, 3) := by decide +kernel
theorem dX11_hold_52 : decode cX11_hold 52 = .ok (.bipush (-3), 2) := by decide +kernel
theorem dX11_hold_54 : decode cX11_hold 54 = .ok (.ireturn, 1) := by decide +kernel
theorem dX11_hold_55 : decode cX11_hold 55 = .ok (.aload_n 0, 1) := by decide +kernel
theorem dX11_hold_56 : decode cX11_hold 56 = .ok (.getfield 18, 3) := by decide +kernel
theorem dX11_hold_59 : decode cX11_hold 59 = .ok (.iload_n 1, 1) := by decide +kernel
theorem dX11_hold_60 : decode cX11_hold 60 = .ok (.aload 6, 2) := by decide +kernel
theorem dX11_hold_62 : decode cX11_hold 62 = .ok (.aastore, 1) := by decide +kernel
theorem dX11_hold_63 : decode cX11_hold 63 = .ok (.aload 6, 2) := by decide +kernel
theorem dX11_hold_65 : decode cX11_hold 65 = .ok (.getfield 98, 3) := by decide +kernel
theorem dX11_hold_68 : decode cX11_hold 68 = .ok (.ireturn, 1) := by decide +kernel
theorem dX11_row_0 : decode cX11_row 0 = .ok (.iload_n 1, 1) := by decide +kernel
theorem dX11_row_1 : decode cX11_row 1 = .ok (.bipush 10, 2) := by decide +kernel
theorem dX11_row_3 : decode cX11_row 3 = .ok (.invokestatic 48, 3) := by decide +kernel
theorem dX11_row_6 : decode cX11_row 6 = .ok (.ifCond .eq 18, 3) := by decide +kernel
theorem dX11_row_9 : decode cX11_row 9 = .ok (.iload_n 2, 1) := by decide +kernel
theorem dX11_row_10 : decode cX11_row 10 = .ok (.bipush (-3), 2) := by decide +kernel
theorem dX11_row_12 : decode cX11_row 12 = .ok (.if_icmp .eq 14, 3) := by decide +kernel
theorem dX11_row_15 : decode cX11_row 15 = .ok (.iload_n 2, 1) := by decide +kernel
theorem dX11_row_16 : decode cX11_row 16 = .ok (.bipush 9, 2) := by decide +kernel
theorem dX11_row_18 : decode cX11_row 18 = .ok (.invokestatic 48, 3) := by decide +kernel
theorem dX11_row_21 : decode cX11_row 21 = .ok (.ifCond .ne 5, 3) := by decide +kernel
theorem dX11_row_24 : decode cX11_row 24 = .ok (.iconst (-1), 1) := by decide +kernel
theorem dX11_row_25 : decode cX11_row 25 = .ok (.ireturn, 1) := by decide +kernel
theorem dX11_row_26 : decode cX11_row 26 = .ok (.aload_n 0, 1) := by decide +kernel
theorem dX11_row_27 : decode cX11_row 27 = .ok (.getfield 18, 3) := by decide +kernel
theorem dX11_row_30 : decode cX11_row 30 = .ok (.iload_n 1, 1) := by decide +kernel
theorem dX11_row_31 : decode cX11_row 31 = .ok (.iload_n 2, 1) := by decide +kernel
theorem dX11_row_32 : decode cX11_row 32 = .ok (.bipush (-3), 2) := by decide +kernel
theorem dX11_row_34 : decode cX11_row 34 = .ok (.if_icmp .ne 7, 3) := by decide +kernel
theorem dX11_row_37 : decode cX11_row 37 = .ok (.aconst_null, 1) := by decide +kernel
theorem dX11_row_38 : decode cX11_row 38 = .ok (.goto 11, 3) := by decide +kernel
theorem dX11_row_41 : decode cX11_row 41 = .ok (.new 103, 3) := by decide +kernel
theorem dX11_row_44 : decode cX11_row 44 = .ok (.dup, 1) := by decide +kernel
theorem dX11_row_45 : decode cX11_row 45 = .ok (.iload_n 2, 1) := by decide +kernel
theorem dX11_row_46 : decode cX11_row 46 = .ok (.invokespecial 105, 3) := by decide +kernel
theorem dX11_row_49 : decode cX11_row 49 = .ok (.aastore, 1) := by decide +kernel
theorem dX11_row_50 : decode cX11_row 50 = .ok (.iconst 1, 1) := by decide +kernel
theorem dX11_row_51 : decode cX11_row 51 = .ok (.ireturn, 1) := by decide +kernel
theorem dX11_item_0 : decode cX11_item 0 = .ok (.iload_n 1, 1) := by decide +kernel
theorem dX11_item_1 : decode cX11_item 1 = .ok (.bipush 10, 2) := by decide +kernel
theorem dX11_item_3 : decode cX11_item 3 = .ok (.invokestatic 48, 3) := by decide +kernel
theorem dX11_item_6 : decode cX11_item 6 = .ok (.ifCond .eq 39, 3) := by decide +kernel
theorem dX11_item_9 : decode cX11_item 9 = .ok (.aload_n 0, 1) := by decide +kernel
theorem dX11_item_10 : decode cX11_item 10 = .ok (.getfield 18, 3) := by decide +kernel
theorem dX11_item_13 : decode cX11_item 13 = .ok (.iload_n 1, 1) := by decide +kernel
theorem dX11_item_14 : decode cX11_item 14 = .ok (.aaload, 1) := by decide +kernel
theorem dX11_item_15 : decode cX11_item 15 = .ok (.astore 5, 2) := by decide +kernel
theorem dX11_item_17 : decode cX11_item 17 = .ok (.aload 5, 2) := by decide +kernel
theorem dX11_item_19 : decode cX11_item 19 = .ok (.instanceof 103, 3) := by decide +kernel
theorem dX11_item_22 : decode cX11_item 22 = .ok (.ifCond .eq 23, 3) := by decide +kernel
theorem dX11_item_25 : decode cX11_item 25 = .ok (.aload 5, 2) := by decide +kernel
theorem dX11_item_27 : decode cX11_item 27 = .ok (.checkcast 103, 3) := by decide +kernel
theorem dX11_item_30 : decode cX11_item 30 = .ok (.astore 4, 2) := by decide +kernel
theorem dX11_item_32 : decode cX11_item 32 = .ok (.iload_n 2, 1) := by decide +kernel
theorem dX11_item_33 : decode cX11_item 33 = .ok (.aload 4, 2) := by decide +kernel
theorem dX11_item_35 : decode cX11_item 35 = .ok (.getfield 108, 3) := by decide +kernel
theorem dX11_item_38 : decode cX11_item 38 = .ok (.arraylength, 1) := by decide +kernel
theorem dX11_item_39 : decode cX11_item 39 = .ok (.invokestatic 48, 3) := by decide +kernel
theorem dX11_item_42 : decode cX11_item 42 = .ok (.ifCond .ne 5, 3) := by decide +kernel
theorem dX11_item_45 : decode cX11_item 45 = .ok (.iconst (-1), 1) := by decide +kernel
theorem dX11_item_46 : decode cX11_item 46 = .ok (.ireturn, 1) := by decide +kernel
theorem dX11_item_47 : decode cX11_item 47 = .ok (.aload 4, 2) := by decide +kernel
theorem dX11_item_49 : decode cX11_item 49 = .ok (.getfield 108, 3) := by decide +kernel
theorem dX11_item_52 : decode cX11_item 52 = .ok (.iload_n 2, 1) := by decide +kernel
theorem dX11_item_53 : decode cX11_item 53 = .ok (.iaload, 1) := by decide +kernel
theorem dX11_item_54 : decode cX11_item 54 = .ok (.istore 5, 2) := by decide +kernel
theorem dX11_item_56 : decode cX11_item 56 = .ok (.aload 4, 2) := by decide +kernel
theorem dX11_item_58 : decode cX11_item 58 = .ok (.getfield 108, 3) := by decide +kernel
theorem dX11_item_61 : decode cX11_item 61 = .ok (.iload_n 2, 1) := by decide +kernel
theorem dX11_item_62 : decode cX11_item 62 = .ok (.iload_n 3, 1) := by decide +kernel
theorem dX11_item_63 : decode cX11_item 63 = .ok (.iastore, 1) := by decide +kernel
theorem dX11_item_64 : decode cX11_item 64 = .ok (.iload 5, 2) := by decide +kernel
theorem dX11_item_66 : decode cX11_item 66 = .ok (.ireturn, 1) := by decide +kernel
theorem dX11_share_0 : decode cX11_share 0 = .ok (.iload_n 1, 1) := by decide +kernel
theorem dX11_share_1 : decode cX11_share 1 = .ok (.bipush 10, 2) := by decide +kernel
theorem dX11_share_3 : decode cX11_share 3 = .ok (.invokestatic 48, 3) := by decide +kernel
theorem dX11_share_6 : decode cX11_share 6 = .ok (.ifCond .eq 12, 3) := by decide +kernel
theorem dX11_share_9 : decode cX11_share 9 = .ok (.iload_n 2, 1) := by decide +kernel
theorem dX11_share_10 : decode cX11_share 10 = .ok (.bipush 10, 2) := by decide +kernel
theorem dX11_share_12 : decode cX11_share 12 = .ok (.invokestatic 48, 3) := by decide +kernel
theorem dX11_share_15 : decode cX11_share 15 = .ok (.ifCond .ne 5, 3) := by decide +kernel
theorem dX11_share_18 : decode cX11_share 18 = .ok (.iconst (-1), 1) := by decide +kernel
theorem dX11_share_19 : decode cX11_share 19 = .ok (.ireturn, 1) := by decide +kernel
theorem dX11_share_20 : decode cX11_share 20 = .ok (.aload_n 0, 1) := by decide +kernel
theorem dX11_share_21 : decode cX11_share 21 = .ok (.getfield 18, 3) := by decide +kernel
theorem dX11_share_24 : decode cX11_share 24 = .ok (.iload_n 1, 1) := by decide +kernel
theorem dX11_share_25 : decode cX11_share 25 = .ok (.aload_n 0, 1) := by decide +kernel
theorem dX11_share_26 : decode cX11_share 26 = .ok (.getfield 18, 3) := by decide +kernel
theorem dX11_share_29 : decode cX11_share 29 = .ok (.iload_n 2, 1) := by decide +kernel
theorem dX11_share_30 : decode cX11_share 30 = .ok (.aaload, 1) := by decide +kernel
theorem dX11_share_31 : decode cX11_share 31 = .ok (.aastore, 1) := by decide +kernel
theorem dX11_share_32 : decode cX11_share 32 = .ok (.aload_n 0, 1) := by decide +kernel
theorem dX11_share_33 : decode cX11_share 33 = .ok (.getfield 18, 3) := by decide +kernel
theorem dX11_share_36 : decode cX11_share 36 = .ok (.iload_n 1, 1) := by decide +kernel
theorem dX11_share_37 : decode cX11_share 37 = .ok (.aaload, 1) := by decide +kernel
theorem dX11_share_38 : decode cX11_share 38 = .ok (.invokestatic 111, 3) := by decide +kernel
theorem dX11_share_41 : decode cX11_share 41 = .ok (.ireturn, 1) := by decide +kernel
theorem dX11_give_0 : decode cX11_give 0 = .ok (.iload_n 1, 1) := by decide +kernel
theorem dX11_give_1 : decode cX11_give 1 = .ok (.iconst 5, 1) := by decide +kernel
theorem dX11_give_2 : decode cX11_give 2 = .ok (.invokestatic 48, 3) := by decide +kernel
theorem dX11_give_5 : decode cX11_give 5 = .ok (.ifCond .eq 13, 3) := by decide +kernel
theorem dX11_give_8 : decode cX11_give 8 = .ok (.iload 4, 2) := by decide +kernel
theorem dX11_give_10 : decode cX11_give 10 = .ok (.bipush 10, 2) := by decide +kernel
theorem dX11_give_12 : decode cX11_give 12 = .ok (.invokestatic 48, 3) := by decide +kernel
theorem dX11_give_15 : decode cX11_give 15 = .ok (.ifCond .ne 5, 3) := by decide +kernel
theorem dX11_give_18 : decode cX11_give 18 = .ok (.iconst (-1), 1) := by decide +kernel
theorem dX11_give_19 : decode cX11_give 19 = .ok (.ireturn, 1) := by decide +kernel
theorem dX11_give_20 : decode cX11_give 20 = .ok (.aload_n 0, 1) := by decide +kernel
theorem dX11_give_21 : decode cX11_give 21 = .ok (.getfield 22, 3) := by decide +kernel
theorem dX11_give_24 : decode cX11_give 24 = .ok (.iload_n 1, 1) := by decide +kernel
theorem dX11_give_25 : decode cX11_give 25 = .ok (.lload_n 2, 1) := by decide +kernel
theorem dX11_give_26 : decode cX11_give 26 = .ok (.lastore, 1) := by decide +kernel
theorem dX11_give_27 : decode cX11_give 27 = .ok (.aload_n 0, 1) := by decide +kernel
theorem dX11_give_28 : decode cX11_give 28 = .ok (.getfield 26, 3) := by decide +kernel
theorem dX11_give_31 : decode cX11_give 31 = .ok (.iload_n 1, 1) := by decide +kernel
theorem dX11_give_32 : decode cX11_give 32 = .ok (.iload 4, 2) := by decide +kernel
theorem dX11_give_34 : decode cX11_give 34 = .ok (.iastore, 1) := by decide +kernel
theorem dX11_give_35 : decode cX11_give 35 = .ok (.iconst 1, 1) := by decide +kernel
theorem dX11_give_36 : decode cX11_give 36 = .ok (.ireturn, 1) := by decide +kernel
theorem dX11_make_0 : decode cX11_make 0 = .ok (.aload_n 0, 1) := by decide +kernel
theorem dX11_make_1 : decode cX11_make 1 = .ok (.getfield 10, 3) := by decide +kernel
theorem dX11_make_4 : decode cX11_make 4 = .ok (.iload_n 1, 1) := by decide +kernel
theorem dX11_make_5 : decode cX11_make 5 = .ok (.i2l, 1) := by decide +kernel
theorem dX11_make_6 : decode cX11_make 6 = .ok (.iload_n 2, 1) := by decide +kernel
theorem dX11_make_7 : decode cX11_make 7 = .ok (.invokevirtual 62, 3) := by decide +kernel
theorem dX11_make_10 : decode cX11_make 10 = .ok (.astore 4, 2) := by decide +kernel
theorem dX11_make_12 : decode cX11_make 12 = .ok (.aload 4, 2) := by decide +kernel
theorem dX11_make_14 : decode cX11_make 14 = .ok (.ifnull 12, 3) := by decide +kernel
theorem dX11_make_17 : decode cX11_make 17 = .ok (.iload_n 3, 1) := by decide +kernel
theorem dX11_make_18 : decode cX11_make 18 = .ok (.bipush 10, 2) := by decide +kernel
theorem dX11_make_20 : decode cX11_make 20 = .ok (.invokestatic 48, 3) := by decide +kernel
theorem dX11_make_23 : decode cX11_make 23 = .ok (.ifCond .ne 5, 3) := by decide +kernel
theorem dX11_make_26 : decode cX11_make 26 = .ok (.iconst (-1), 1) := by decide +kernel
theorem dX11_make_27 : decode cX11_make 27 = .ok (.ireturn, 1) := by decide +kernel
theorem dX11_make_28 : decode cX11_make 28 = .ok (.new 115, 3) := by decide +kernel
theorem dX11_make_31 : decode cX11_make 31 = .ok (.dup, 1) := by decide +kernel
theorem dX11_make_32 : decode cX11_make 32 = .ok (.aload 4, 2) := by decide +kernel
theorem dX11_make_34 : decode cX11_make 34 = .ok (.invokespecial 117, 3) := by decide +kernel
theorem dX11_make_37 : decode cX11_make 37 = .ok (.astore 5, 2) := by decide +kernel
theorem dX11_make_39 : decode cX11_make 39 = .ok (.iconst 0, 1) := by decide +kernel
theorem dX11_make_40 : decode cX11_make 40 = .ok (.istore 6, 2) := by decide +kernel
theorem dX11_make_42 : decode cX11_make 42 = .ok (.iload 6, 2) := by decide +kernel
theorem dX11_make_44 : decode cX11_make 44 = .ok (.aload 5, 2) := by decide +kernel
theorem dX11_make_46 : decode cX11_make 46 = .ok (.invokevirtual 120, 3) := by decide +kernel
theorem dX11_make_49 : decode cX11_make 49 = .ok (.if_icmp .ge 35, 3) := by decide +kernel
theorem dX11_make_52 : decode cX11_make 52 = .ok (.aload 5, 2) := by decide +kernel
theorem dX11_make_54 : decode cX11_make 54 = .ok (.iload 6, 2) := by decide +kernel
theorem dX11_make_56 : decode cX11_make 56 = .ok (.aload_n 0, 1) := by decide +kernel
theorem dX11_make_57 : decode cX11_make 57 = .ok (.getfield 22, 3) := by decide +kernel
theorem dX11_make_60 : decode cX11_make 60 = .ok (.iload 6, 2) := by decide +kernel
theorem dX11_make_62 : decode cX11_make 62 = .ok (.laload, 1) := by decide +kernel
theorem dX11_make_63 : decode cX11_make 63 = .ok (.aload_n 0, 1) := by decide +kernel
theorem dX11_make_64 : decode cX11_make 64 = .ok (.getfield 18, 3) := by decide +kernel
theorem dX11_make_67 : decode cX11_make 67 = .ok (.aload_n 0, 1) := by decide +kernel
theorem dX11_make_68 : decode cX11_make 68 = .ok (.getfield 26, 3) := by decide +kernel
theorem dX11_make_71 : decode cX11_make 71 = .ok (.iload 6, 2) := by decide +kernel
theorem dX11_make_73 : decode cX11_make 73 = .ok (.iaload, 1) := by decide +kernel
theorem dX11_make_74 : decode cX11_make 74 = .ok (.aaload, 1) := by decide +kernel
theorem dX11_make_75 : decode cX11_make 75 = .ok (.invokevirtual 124, 3) := by decide +kernel
theorem dX11_make_78 : decode cX11_make 78 = .ok (.iinc 6 1, 3) := by decide +kernel
theorem dX11_make_81 : decode cX11_make 81 = .ok (.goto (-39), 3) := by decide +kernel
theorem dX11_make_84 : decode cX11_make 84 = .ok (.aload 4, 2) := by decide +kernel
theorem dX11_make_86 : decode cX11_make 86 = .ok (.aload 5, 2) := by decide +kernel
theorem dX11_make_88 : decode cX11_make 88 = .ok (.invokevirtual 128, 3) := by decide +kernel
theorem dX11_make_91 : decode cX11_make 91 = .ok (.istore 6, 2) := by decide +kernel
theorem dX11_make_93 : decode cX11_make 93 = .ok (.iload 6, 2) := by decide +kernel
theorem dX11_make_95 : decode cX11_make 95 = .ok (.ifCond .ne 21, 3) := by decide +kernel
theorem dX11_make_98 : decode cX11_make 98 = .ok (.aload_n 0, 1) := by decide +kernel
theorem dX11_make_99 : decode cX11_make 99 = .ok (.dup, 1) := by decide +kernel
theorem dX11_make_100 : decode cX11_make 100 = .ok (.getfield 132, 3) := by decide +kernel
theorem dX11_make_103 : decode cX11_make 103 = .ok (.iconst 1, 1) := by decide +kernel
theorem dX11_make_104 : decode cX11_make 104 = .ok (.iadd, 1) := by decide +kernel
theorem dX11_make_105 : decode cX11_make 105 = .ok (.putfield 132, 3) := by decide +kernel
theorem dX11_make_108 : decode cX11_make 108 = .ok (.aload_n 0, 1) := by decide +kernel
theorem dX11_make_109 : decode cX11_make 109 = .ok (.getfield 18, 3) := by decide +kernel
theorem dX11_make_112 : decode cX11_make 112 = .ok (.iload_n 3, 1) := by decide +kernel
theorem dX11_make_113 : decode cX11_make 113 = .ok (.aload 5, 2) := by decide +kernel
theorem dX11_make_115 : decode cX11_make 115 = .ok (.aastore, 1) := by decide +kernel
theorem dX11_make_116 : decode cX11_make 116 = .ok (.aload_n 0, 1) := by decide +kernel
theorem dX11_make_117 : decode cX11_make 117 = .ok (.iload 6, 2) := by decide +kernel
theorem dX11_make_119 : decode cX11_make 119 = .ok (.bipush (-3), 2) := by decide +kernel
theorem dX11_make_121 : decode cX11_make 121 = .ok (.iconst 0, 1) := by decide +kernel
theorem dX11_make_122 : decode cX11_make 122 = .ok (.invokevirtual 135, 3) := by decide +kernel
theorem dX11_make_125 : decode cX11_make 125 = .ok (.iload 6, 2) := by decide +kernel
theorem dX11_make_127 : decode cX11_make 127 = .ok (.ireturn, 1) := by decide +kernel
theorem dX11_about_0 : decode cX11_about 0 = .ok (.iload_n 1, 1) := by decide +kernel
theorem dX11_about_1 : decode cX11_about 1 = .ok (.bipush 10, 2) := by decide +kernel
theorem dX11_about_3 : decode cX11_about 3 = .ok (.invokestatic 48, 3) := by decide +kernel
theorem dX11_about_6 : decode cX11_about 6 = .ok (.ifCond .ne 5, 3) := by decide +kernel
theorem dX11_about_9 : decode cX11_about 9 = .ok (.iconst (-1), 1) := by decide +kernel
theorem dX11_about_10 : decode cX11_about 10 = .ok (.ireturn, 1) := by decide +kernel
theorem dX11_about_11 : decode cX11_about 11 = .ok (.aload_n 0, 1) := by decide +kernel
theorem dX11_about_12 : decode cX11_about 12 = .ok (.getfield 18, 3) := by decide +kernel
theorem dX11_about_15 : decode cX11_about 15 = .ok (.iload_n 1, 1) := by decide +kernel
theorem dX11_about_16 : decode cX11_about 16 = .ok (.aaload, 1) := by decide +kernel
theorem dX11_about_17 : decode cX11_about 17 = .ok (.astore_n 3, 1) := by decide +kernel
theorem dX11_about_18 : decode cX11_about 18 = .ok (.iload_n 2, 1) := by decide +kernel
theorem dX11_about_19 : decode cX11_about 19 = .ok (.tableswitch 75 0 3 #[29, 34, 48, 62], 29) := by decide +kernel
theorem dX11_about_48 : decode cX11_about 48 = .ok (.aload_n 3, 1) := by decide +kernel
theorem dX11_about_49 : decode cX11_about 49 = .ok (.invokestatic 111, 3) := by decide +kernel
theorem dX11_about_52 : decode cX11_about 52 = .ok (.ireturn, 1) := by decide +kernel
theorem dX11_about_53 : decode cX11_about 53 = .ok (.aload_n 3, 1) := by decide +kernel
theorem dX11_about_54 : decode cX11_about 54 = .ok (.ifnonnull 8, 3) := by decide +kernel
theorem dX11_about_57 : decode cX11_about 57 = .ok (.bipush (-3), 2) := by decide +kernel
theorem dX11_about_59 : decode cX11_about 59 = .ok (.goto 7, 3) := by decide +kernel
theorem dX11_about_62 : decode cX11_about 62 = .ok (.aload_n 3, 1) := by decide +kernel
theorem dX11_about_63 : decode cX11_about 63 = .ok (.invokevirtual 138, 3) := by decide +kernel
theorem dX11_about_66 : decode cX11_about 66 = .ok (.ireturn, 1) := by decide +kernel
theorem dX11_about_67 : decode cX11_about 67 = .ok (.aload_n 3, 1) := by decide +kernel
theorem dX11_about_68 : decode cX11_about 68 = .ok (.ifnonnull 8, 3) := by decide +kernel
theorem dX11_about_71 : decode cX11_about 71 = .ok (.bipush (-3), 2) := by decide +kernel
theorem dX11_about_73 : decode cX11_about 73 = .ok (.goto 7, 3) := by decide +kernel
theorem dX11_about_76 : decode cX11_about 76 = .ok (.aload_n 3, 1) := by decide +kernel
theorem dX11_about_77 : decode cX11_about 77 = .ok (.invokevirtual 141, 3) := by decide +kernel
theorem dX11_about_80 : decode cX11_about 80 = .ok (.ireturn, 1) := by decide +kernel
theorem dX11_about_81 : decode cX11_about 81 = .ok (.aload_n 3, 1) := by decide +kernel
theorem dX11_about_82 : decode cX11_about 82 = .ok (.ifnonnull 7, 3) := by decide +kernel
theorem dX11_about_85 : decode cX11_about 85 = .ok (.iconst 0, 1) := by decide +kernel
theorem dX11_about_86 : decode cX11_about 86 = .ok (.goto 7, 3) := by decide +kernel
theorem dX11_about_89 : decode cX11_about 89 = .ok (.aload_n 3, 1) := by decide +kernel
theorem dX11_about_90 : decode cX11_about 90 = .ok (.invokevirtual 144, 3) := by decide +kernel
theorem dX11_about_93 : decode cX11_about 93 = .ok (.ireturn, 1) := by decide +kernel
theorem dX11_about_94 : decode cX11_about 94 = .ok (.iconst (-1), 1) := by decide +kernel
theorem dX11_about_95 : decode cX11_about 95 = .ok (.ireturn, 1) := by decide +kernel
theorem dX11_number_0 : decode cX11_number 0 = .ok (.aload_n 0, 1) := by decide +kernel
theorem dX11_number_1 : decode cX11_number 1 = .ok (.iconst (-1), 1) := by decide +kernel
theorem dX11_number_2 : decode cX11_number 2 = .ok (.putfield 37, 3) := by decide +kernel
theorem dX11_number_5 : decode cX11_number 5 = .ok (.iload_n 1, 1) := by decide +kernel
theorem dX11_number_6 : decode cX11_number 6 = .ok (.bipush 10, 2) := by decide +kernel
theorem dX11_number_8 : decode cX11_number 8 = .ok (.invokestatic 48, 3) := by decide +kernel
theorem dX11_number_11 : decode cX11_number 11 = .ok (.ifCond .eq 36, 3) := by decide +kernel
theorem dX11_number_14 : decode cX11_number 14 = .ok (.aload_n 0, 1) := by decide +kernel
theorem dX11_number_15 : decode cX11_number 15 = .ok (.getfield 18, 3) := by decide +kernel
theorem dX11_number_18 : decode cX11_number 18 = .ok (.iload_n 1, 1) := by decide +kernel
theorem dX11_number_19 : decode cX11_number 19 = .ok (.aaload, 1) := by decide +kernel
theorem dX11_number_20 : decode cX11_number 20 = .ok (.astore 4, 2) := by decide +kernel
theorem dX11_number_22 : decode cX11_number 22 = .ok (.aload 4, 2) := by decide +kernel
theorem dX11_number_24 : decode cX11_number 24 = .ok (.instanceof 115, 3) := by decide +kernel
theorem dX11_number_27 : decode cX11_number 27 = .ok (.ifCond .eq 20, 3) := by decide +kernel
theorem dX11_number_30 : decode cX11_number 30 = .ok (.aload 4, 2) := by decide +kernel
theorem dX11_number_32 : decode cX11_number 32 = .ok (.checkcast 115, 3) := by decide +kernel
theorem dX11_number_35 : decode cX11_number 35 = .ok (.astore_n 3, 1) := by decide +kernel
theorem dX11_number_36 : decode cX11_number 36 = .ok (.iload_n 2, 1) := by decide +kernel
theorem dX11_number_37 : decode cX11_number 37 = .ok (.aload_n 3, 1) := by decide +kernel
theorem dX11_number_38 : decode cX11_number 38 = .ok (.invokevirtual 120, 3) := by decide +kernel
theorem dX11_number_41 : decode cX11_number 41 = .ok (.invokestatic 48, 3) := by decide +kernel
theorem dX11_number_44 : decode cX11_number 44 = .ok (.ifCond .ne 5, 3) := by decide +kernel
theorem dX11_number_47 : decode cX11_number 47 = .ok (.lconst 0, 1) := by decide +kernel
theorem dX11_number_48 : decode cX11_number 48 = .ok (.lreturn, 1) := by decide +kernel
theorem dX11_number_49 : decode cX11_number 49 = .ok (.aload_n 0, 1) := by decide +kernel
theorem dX11_number_50 : decode cX11_number 50 = .ok (.iconst 0, 1) := by decide +kernel
theorem dX11_number_51 : decode cX11_number 51 = .ok (.putfield 37, 3) := by decide +kernel
theorem dX11_number_54 : decode cX11_number 54 = .ok (.aload_n 3, 1) := by decide +kernel
theorem dX11_number_55 : decode cX11_number 55 = .ok (.iload_n 2, 1) := by decide +kernel
theorem dX11_number_56 : decode cX11_number 56 = .ok (.invokevirtual 145, 3) := by decide +kernel
theorem dX11_number_59 : decode cX11_number 59 = .ok (.ifCond .eq 12, 3) := by decide +kernel
theorem dX11_number_62 : decode cX11_number 62 = .ok (.aload_n 3, 1) := by decide +kernel
theorem dX11_number_63 : decode cX11_number 63 = .ok (.getfield 149, 3) := by decide +kernel
theorem dX11_number_66 : decode cX11_number 66 = .ok (.iload_n 2, 1) := by decide +kernel
theorem dX11_number_67 : decode cX11_number 67 = .ok (.laload, 1) := by decide +kernel
theorem dX11_number_68 : decode cX11_number 68 = .ok (.goto 16, 3) := by decide +kernel
theorem dX11_number_71 : decode cX11_number 71 = .ok (.aload_n 3, 1) := by decide +kernel
theorem dX11_number_72 : decode cX11_number 72 = .ok (.getfield 152, 3) := by decide +kernel
theorem dX11_number_75 : decode cX11_number 75 = .ok (.iload_n 2, 1) := by decide +kernel
theorem dX11_number_76 : decode cX11_number 76 = .ok (.aaload, 1) := by decide +kernel
theorem dX11_number_77 : decode cX11_number 77 = .ok (.invokestatic 111, 3) := by decide +kernel
theorem dX11_number_80 : decode cX11_number 80 = .ok (.bipush 10, 2) := by decide +kernel
theorem dX11_number_82 : decode cX11_number 82 = .ok (.isub, 1) := by decide +kernel
theorem dX11_number_83 : decode cX11_number 83 = .ok (.i2l, 1) := by decide +kernel
theorem dX11_number_84 : decode cX11_number 84 = .ok (.lreturn, 1) := by decide +kernel
theorem dX11_take_0 : decode cX11_take 0 = .ok (.iload_n 1, 1) := by decide +kernel
theorem dX11_take_1 : decode cX11_take 1 = .ok (.bipush 10, 2) := by decide +kernel
theorem dX11_take_3 : decode cX11_take 3 = .ok (.invokestatic 48, 3) := by decide +kernel
theorem dX11_take_6 : decode cX11_take 6 = .ok (.ifCond .eq 38, 3) := by decide +kernel
theorem dX11_take_9 : decode cX11_take 9 = .ok (.iload_n 3, 1) := by decide +kernel
theorem dX11_take_10 : decode cX11_take 10 = .ok (.bipush 10, 2) := by decide +kernel
theorem dX11_take_12 : decode cX11_take 12 = .ok (.invokestatic 48, 3) := by decide +kernel
theorem dX11_take_15 : decode cX11_take 15 = .ok (.ifCond .eq 29, 3) := by decide +kernel
theorem dX11_take_18 : decode cX11_take 18 = .ok (.aload_n 0, 1) := by decide +kernel
theorem dX11_take_19 : decode cX11_take 19 = .ok (.getfield 18, 3) := by decide +kernel
theorem dX11_take_22 : decode cX11_take 22 = .ok (.iload_n 1, 1) := by decide +kernel
theorem dX11_take_23 : decode cX11_take 23 = .ok (.aaload, 1) := by decide +kernel
theorem dX11_take_24 : decode cX11_take 24 = .ok (.astore 5, 2) := by decide +kernel
theorem dX11_take_26 : decode cX11_take 26 = .ok (.aload 5, 2) := by decide +kernel
theorem dX11_take_28 : decode cX11_take 28 = .ok (.instanceof 115, 3) := by decide +kernel
theorem dX11_take_31 : decode cX11_take 31 = .ok (.ifCond .eq 13, 3) := by decide +kernel
theorem dX11_take_34 : decode cX11_take 34 = .ok (.aload 5, 2) := by decide +kernel
theorem dX11_take_36 : decode cX11_take 36 = .ok (.checkcast 115, 3) := by decide +kernel
theorem dX11_take_39 : decode cX11_take 39 = .ok (.astore 4, 2) := by decide +kernel
theorem dX11_take_41 : decode cX11_take 41 = .ok (.goto 5, 3) := by decide +kernel
theorem dX11_take_44 : decode cX11_take 44 = .ok (.iconst (-1), 1) := by decide +kernel
theorem dX11_take_45 : decode cX11_take 45 = .ok (.ireturn, 1) := by decide +kernel
theorem dX11_take_46 : decode cX11_take 46 = .ok (.iload_n 2, 1) := by decide +kernel
theorem dX11_take_47 : decode cX11_take 47 = .ok (.aload 4, 2) := by decide +kernel
theorem dX11_take_49 : decode cX11_take 49 = .ok (.invokevirtual 120, 3) := by decide +kernel
theorem dX11_take_52 : decode cX11_take 52 = .ok (.invokestatic 48, 3) := by decide +kernel
theorem dX11_take_55 : decode cX11_take 55 = .ok (.ifCond .eq 12, 3) := by decide +kernel
theorem dX11_take_58 : decode cX11_take 58 = .ok (.aload 4, 2) := by decide +kernel
theorem dX11_take_60 : decode cX11_take 60 = .ok (.iload_n 2, 1) := by decide +kernel
theorem dX11_take_61 : decode cX11_take 61 = .ok (.invokevirtual 145, 3) := by decide +kernel
theorem dX11_take_64 : decode cX11_take 64 = .ok (.ifCond .eq 5, 3) := by decide +kernel
theorem dX11_take_67 : decode cX11_take 67 = .ok (.iconst (-1), 1) := by decide +kernel
theorem dX11_take_68 : decode cX11_take 68 = .ok (.ireturn, 1) := by decide +kernel
theorem dX11_take_69 : decode cX11_take 69 = .ok (.aload_n 0, 1) := by decide +kernel
theorem dX11_take_70 : decode cX11_take 70 = .ok (.getfield 18, 3) := by decide +kernel
theorem dX11_take_73 : decode cX11_take 73 = .ok (.iload_n 3, 1) := by decide +kernel
theorem dX11_take_74 : decode cX11_take 74 = .ok (.aload 4, 2) := by decide +kernel
theorem dX11_take_76 : decode cX11_take 76 = .ok (.getfield 152, 3) := by decide +kernel
theorem dX11_take_79 : decode cX11_take 79 = .ok (.iload_n 2, 1) := by decide +kernel
theorem dX11_take_80 : decode cX11_take 80 = .ok (.aaload, 1) := by decide +kernel
theorem dX11_take_81 : decode cX11_take 81 = .ok (.aastore, 1) := by decide +kernel
theorem dX11_take_82 : decode cX11_take 82 = .ok (.aload_n 0, 1) := by decide +kernel
theorem dX11_take_83 : decode cX11_take 83 = .ok (.getfield 18, 3) := by decide +kernel
theorem dX11_take_86 : decode cX11_take 86 = .ok (.iload_n 3, 1) := by decide +kernel
theorem dX11_take_87 : decode cX11_take 87 = .ok (.aaload, 1) := by decide +kernel
theorem dX11_take_88 : decode cX11_take 88 = .ok (.invokestatic 111, 3) := by decide +kernel
theorem dX11_take_91 : decode cX11_take 91 = .ok (.ireturn, 1) := by decide +kernel
theorem dX11_like_0 : decode cX11_like 0 = .ok (.iload_n 1, 1) := by decide +kernel
theorem dX11_like_1 : decode cX11_like 1 = .ok (.bipush 10, 2) := by decide +kernel
theorem dX11_like_3 : decode cX11_like 3 = .ok (.invokestatic 48, 3) := by decide +kernel
theorem dX11_like_6 : decode cX11_like 6 = .ok (.ifCond .eq 12, 3) := by decide +kernel
theorem dX11_like_9 : decode cX11_like 9 = .ok (.iload_n 2, 1) := by decide +kernel
theorem dX11_like_10 : decode cX11_like 10 = .ok (.bipush 10, 2) := by decide +kernel
theorem dX11_like_12 : decode cX11_like 12 = .ok (.invokestatic 48, 3) := by decide +kernel
theorem dX11_like_15 : decode cX11_like 15 = .ok (.ifCond .ne 5, 3) := by decide +kernel
theorem dX11_like_18 : decode cX11_like 18 = .ok (.iconst (-1), 1) := by decide +kernel
theorem dX11_like_19 : decode cX11_like 19 = .ok (.ireturn, 1) := by decide +kernel
theorem dX11_like_20 : decode cX11_like 20 = .ok (.aload_n 0, 1) := by decide +kernel
theorem dX11_like_21 : decode cX11_like 21 = .ok (.getfield 18, 3) := by decide +kernel
theorem dX11_like_24 : decode cX11_like 24 = .ok (.iload_n 1, 1) := by decide +kernel
theorem dX11_like_25 : decode cX11_like 25 = .ok (.aaload, 1) := by decide +kernel
theorem dX11_like_26 : decode cX11_like 26 = .ok (.aload_n 0, 1) := by decide +kernel
theorem dX11_like_27 : decode cX11_like 27 = .ok (.getfield 18, 3) := by decide +kernel
theorem dX11_like_30 : decode cX11_like 30 = .ok (.iload_n 2, 1) := by decide +kernel
theorem dX11_like_31 : decode cX11_like 31 = .ok (.aaload, 1) := by decide +kernel
theorem dX11_like_32 : decode cX11_like 32 = .ok (.iconst 0, 1) := by decide +kernel
theorem dX11_like_33 : decode cX11_like 33 = .ok (.invokestatic 155, 3) := by decide +kernel
theorem dX11_like_36 : decode cX11_like 36 = .ok (.ifCond .eq 7, 3) := by decide +kernel
theorem dX11_like_39 : decode cX11_like 39 = .ok (.iconst 1, 1) := by decide +kernel
theorem dX11_like_40 : decode cX11_like 40 = .ok (.goto 4, 3) := by decide +kernel
theorem dX11_like_43 : decode cX11_like 43 = .ok (.iconst 0, 1) := by decide +kernel
theorem dX11_like_44 : decode cX11_like 44 = .ok (.ireturn, 1) := by decide +kernel
theorem dX11_write_0 : decode cX11_write 0 = .ok (.iload_n 1, 1) := by decide +kernel
theorem dX11_write_1 : decode cX11_write 1 = .ok (.bipush 10, 2) := by decide +kernel
theorem dX11_write_3 : decode cX11_write 3 = .ok (.invokestatic 48, 3) := by decide +kernel
theorem dX11_write_6 : decode cX11_write 6 = .ok (.ifCond .eq 25, 3) := by decide +kernel
theorem dX11_write_9 : decode cX11_write 9 = .ok (.aload_n 0, 1) := by decide +kernel
theorem dX11_write_10 : decode cX11_write 10 = .ok (.getfield 18, 3) := by decide +kernel
theorem dX11_write_13 : decode cX11_write 13 = .ok (.iload_n 1, 1) := by decide +kernel
theorem dX11_write_14 : decode cX11_write 14 = .ok (.aaload, 1) := by decide +kernel
theorem dX11_write_15 : decode cX11_write 15 = .ok (.astore_n 3, 1) := by decide +kernel
theorem dX11_write_16 : decode cX11_write 16 = .ok (.aload_n 3, 1) := by decide +kernel
theorem dX11_write_17 : decode cX11_write 17 = .ok (.instanceof 115, 3) := by decide +kernel
theorem dX11_write_20 : decode cX11_write 20 = .ok (.ifCond .eq 11, 3) := by decide +kernel
theorem dX11_write_23 : decode cX11_write 23 = .ok (.aload_n 3, 1) := by decide +kernel
theorem dX11_write_24 : decode cX11_write 24 = .ok (.checkcast 115, 3) := by decide +kernel
theorem dX11_write_27 : decode cX11_write 27 = .ok (.astore_n 2, 1) := by decide +kernel
theorem dX11_write_28 : decode cX11_write 28 = .ok (.goto 5, 3) := by decide +kernel
theorem dX11_write_31 : decode cX11_write 31 = .ok (.iconst (-1), 1) := by decide +kernel
theorem dX11_write_32 : decode cX11_write 32 = .ok (.ireturn, 1) := by decide +kernel
theorem dX11_write_33 : decode cX11_write 33 = .ok (.aload_n 0, 1) := by decide +kernel
theorem dX11_write_34 : decode cX11_write 34 = .ok (.getfield 33, 3) := by decide +kernel
theorem dX11_write_37 : decode cX11_write 37 = .ok (.aload_n 2, 1) := by decide +kernel
theorem dX11_write_38 : decode cX11_write 38 = .ok (.invokevirtual 159, 3) := by decide +kernel
theorem dX11_write_41 : decode cX11_write 41 = .ok (.ireturn, 1) := by decide +kernel
theorem dX11_leaf_0 : decode cX11_leaf 0 = .ok (.aload_n 0, 1) := by decide +kernel
theorem dX11_leaf_1 : decode cX11_leaf 1 = .ok (.iconst (-1), 1) := by decide +kernel
theorem dX11_leaf_2 : decode cX11_leaf 2 = .ok (.putfield 37, 3) := by decide +kernel
theorem dX11_leaf_5 : decode cX11_leaf 5 = .ok (.iload_n 1, 1) := by decide +kernel
theorem dX11_leaf_6 : decode cX11_leaf 6 = .ok (.aload_n 0, 1) := by decide +kernel
theorem dX11_leaf_7 : decode cX11_leaf 7 = .ok (.getfield 33, 3) := by decide +kernel
theorem dX11_leaf_10 : decode cX11_leaf 10 = .ok (.getfield 162, 3) := by decide +kernel
theorem dX11_leaf_13 : decode cX11_leaf 13 = .ok (.invokestatic 48, 3) := by decide +kernel
theorem dX11_leaf_16 : decode cX11_leaf 16 = .ok (.ifCond .ne 5, 3) := by decide +kernel
theorem dX11_leaf_19 : decode cX11_leaf 19 = .ok (.lconst 0, 1) := by decide +kernel
theorem dX11_leaf_20 : decode cX11_leaf 20 = .ok (.lreturn, 1) := by decide +kernel
theorem dX11_leaf_21 : decode cX11_leaf 21 = .ok (.aload_n 0, 1) := by decide +kernel
theorem dX11_leaf_22 : decode cX11_leaf 22 = .ok (.iconst 0, 1) := by decide +kernel
theorem dX11_leaf_23 : decode cX11_leaf 23 = .ok (.putfield 37, 3) := by decide +kernel
theorem dX11_leaf_26 : decode cX11_leaf 26 = .ok (.aload_n 0, 1) := by decide +kernel
theorem dX11_leaf_27 : decode cX11_leaf 27 = .ok (.getfield 33, 3) := by decide +kernel
theorem dX11_leaf_30 : decode cX11_leaf 30 = .ok (.getfield 165, 3) := by decide +kernel
theorem dX11_leaf_33 : decode cX11_leaf 33 = .ok (.iload_n 1, 1) := by decide +kernel
theorem dX11_leaf_34 : decode cX11_leaf 34 = .ok (.laload, 1) := by decide +kernel
theorem dX11_leaf_35 : decode cX11_leaf 35 = .ok (.lreturn, 1) := by decide +kernel
theorem dX11_set_0 : decode cX11_set 0 = .ok (.iload_n 1, 1) := by decide +kernel
theorem dX11_set_1 : decode cX11_set 1 = .ok (.aload_n 0, 1) := by decide +kernel
theorem dX11_set_2 : decode cX11_set 2 = .ok (.getfield 33, 3) := by decide +kernel
theorem dX11_set_5 : decode cX11_set 5 = .ok (.getfield 162, 3) := by decide +kernel
theorem dX11_set_8 : decode cX11_set 8 = .ok (.iconst 1, 1) := by decide +kernel
theorem dX11_set_9 : decode cX11_set 9 = .ok (.iadd, 1) := by decide +kernel
theorem dX11_set_10 : decode cX11_set 10 = .ok (.invokestatic 48, 3) := by decide +kernel
theorem dX11_set_13 : decode cX11_set 13 = .ok (.ifCond .ne 5, 3) := by decide +kernel
theorem dX11_set_16 : decode cX11_set 16 = .ok (.iconst (-1), 1) := by decide +kernel
theorem dX11_set_17 : decode cX11_set 17 = .ok (.ireturn, 1) := by decide +kernel
theorem dX11_set_18 : decode cX11_set 18 = .ok (.iload_n 1, 1) := by decide +kernel
theorem dX11_set_19 : decode cX11_set 19 = .ok (.sipush 250, 3) := by decide +kernel
theorem dX11_set_22 : decode cX11_set 22 = .ok (.if_icmp .ne 6, 3) := by decide +kernel
theorem dX11_set_25 : decode cX11_set 25 = .ok (.bipush (-2), 2) := by decide +kernel
theorem dX11_set_27 : decode cX11_set 27 = .ok (.ireturn, 1) := by decide +kernel
theorem dX11_set_28 : decode cX11_set 28 = .ok (.aload_n 0, 1) := by decide +kernel
theorem dX11_set_29 : decode cX11_set 29 = .ok (.getfield 33, 3) := by decide +kernel
theorem dX11_set_32 : decode cX11_set 32 = .ok (.getfield 165, 3) := by decide +kernel
theorem dX11_set_35 : decode cX11_set 35 = .ok (.iload_n 1, 1) := by decide +kernel
theorem dX11_set_36 : decode cX11_set 36 = .ok (.lload_n 2, 1) := by decide +kernel
theorem dX11_set_37 : decode cX11_set 37 = .ok (.lastore, 1) := by decide +kernel
theorem dX11_set_38 : decode cX11_set 38 = .ok (.aload_n 0, 1) := by decide +kernel
theorem dX11_set_39 : decode cX11_set 39 = .ok (.getfield 33, 3) := by decide +kernel
theorem dX11_set_42 : decode cX11_set 42 = .ok (.aload_n 0, 1) := by decide +kernel
theorem dX11_set_43 : decode cX11_set 43 = .ok (.getfield 33, 3) := by decide +kernel
theorem dX11_set_46 : decode cX11_set 46 = .ok (.getfield 162, 3) := by decide +kernel
theorem dX11_set_49 : decode cX11_set 49 = .ok (.iload_n 1, 1) := by decide +kernel
theorem dX11_set_50 : decode cX11_set 50 = .ok (.iconst 1, 1) := by decide +kernel
theorem dX11_set_51 : decode cX11_set 51 = .ok (.iadd, 1) := by decide +kernel
theorem dX11_set_52 : decode cX11_set 52 = .ok (.invokestatic 168, 3) := by decide +kernel
theorem dX11_set_55 : decode cX11_set 55 = .ok (.putfield 162, 3) := by decide +kernel
theorem dX11_set_58 : decode cX11_set 58 = .ok (.aload_n 0, 1) := by decide +kernel
theorem dX11_set_59 : decode cX11_set 59 = .ok (.getfield 33, 3) := by decide +kernel
theorem dX11_set_62 : decode cX11_set 62 = .ok (.getfield 162, 3) := by decide +kernel
theorem dX11_set_65 : decode cX11_set 65 = .ok (.ireturn, 1) := by decide +kernel
theorem dX11_cut_0 : decode cX11_cut 0 = .ok (.iload_n 1, 1) := by decide +kernel
theorem dX11_cut_1 : decode cX11_cut 1 = .ok (.aload_n 0, 1) := by decide +kernel
theorem dX11_cut_2 : decode cX11_cut 2 = .ok (.getfield 33, 3) := by decide +kernel
theorem dX11_cut_5 : decode cX11_cut 5 = .ok (.getfield 162, 3) := by decide +kernel
theorem dX11_cut_8 : decode cX11_cut 8 = .ok (.iconst 1, 1) := by decide +kernel
theorem dX11_cut_9 : decode cX11_cut 9 = .ok (.iadd, 1) := by decide +kernel
theorem dX11_cut_10 : decode cX11_cut 10 = .ok (.invokestatic 48, 3) := by decide +kernel
theorem dX11_cut_13 : decode cX11_cut 13 = .ok (.ifCond .ne 5, 3) := by decide +kernel
theorem dX11_cut_16 : decode cX11_cut 16 = .ok (.iconst (-1), 1) := by decide +kernel
theorem dX11_cut_17 : decode cX11_cut 17 = .ok (.ireturn, 1) := by decide +kernel
theorem dX11_cut_18 : decode cX11_cut 18 = .ok (.aload_n 0, 1) := by decide +kernel
theorem dX11_cut_19 : decode cX11_cut 19 = .ok (.getfield 33, 3) := by decide +kernel
theorem dX11_cut_22 : decode cX11_cut 22 = .ok (.getfield 162, 3) := by decide +kernel
theorem dX11_cut_25 : decode cX11_cut 25 = .ok (.iload_n 1, 1) := by decide +kernel
theorem dX11_cut_26 : decode cX11_cut 26 = .ok (.isub, 1) := by decide +kernel
theorem dX11_cut_27 : decode cX11_cut 27 = .ok (.istore_n 2, 1) := by decide +kernel
theorem dX11_cut_28 : decode cX11_cut 28 = .ok (.aload_n 0, 1) := by decide +kernel
theorem dX11_cut_29 : decode cX11_cut 29 = .ok (.getfield 33, 3) := by decide +kernel
theorem dX11_cut_32 : decode cX11_cut 32 = .ok (.iload_n 1, 1) := by decide +kernel
theorem dX11_cut_33 : decode cX11_cut 33 = .ok (.putfield 162, 3) := by decide +kernel
theorem dX11_cut_36 : decode cX11_cut 36 = .ok (.iload_n 2, 1) := by decide +kernel
theorem dX11_cut_37 : decode cX11_cut 37 = .ok (.ireturn, 1) := by decide +kernel
theorem dX11_read_0 : decode cX11_read 0 = .ok (.iload_n 1, 1) := by decide +kernel
theorem dX11_read_1 : decode cX11_read 1 = .ok (.iconst 3, 1) := by decide +kernel
theorem dX11_read_2 : decode cX11_read 2 = .ok (.invokestatic 48, 3) := by decide +kernel
theorem dX11_read_5 : decode cX11_read 5 = .ok (.ifCond .eq 12, 3) := by decide +kernel
theorem dX11_read_8 : decode cX11_read 8 = .ok (.iload_n 2, 1) := by decide +kernel
theorem dX11_read_9 : decode cX11_read 9 = .ok (.bipush 10, 2) := by decide +kernel
theorem dX11_read_11 : decode cX11_read 11 = .ok (.invokestatic 48, 3) := by decide +kernel
theorem dX11_read_14 : decode cX11_read 14 = .ok (.ifCond .ne 5, 3) := by decide +kernel
theorem dX11_read_17 : decode cX11_read 17 = .ok (.iconst (-1), 1) := by decide +kernel
theorem dX11_read_18 : decode cX11_read 18 = .ok (.ireturn, 1) := by decide +kernel
theorem dX11_read_19 : decode cX11_read 19 = .ok (.new 174, 3) := by decide +kernel
theorem dX11_read_22 : decode cX11_read 22 = .ok (.dup, 1) := by decide +kernel
theorem dX11_read_23 : decode cX11_read 23 = .ok (.aload_n 0, 1) := by decide +kernel
theorem dX11_read_24 : decode cX11_read 24 = .ok (.getfield 10, 3) := by decide +kernel
theorem dX11_read_27 : decode cX11_read 27 = .ok (.aload_n 0, 1) := by decide +kernel
theorem dX11_read_28 : decode cX11_read 28 = .ok (.getfield 33, 3) := by decide +kernel
theorem dX11_read_31 : decode cX11_read 31 = .ok (.iload_n 1, 1) := by decide +kernel
theorem dX11_read_32 : decode cX11_read 32 = .ok (.invokespecial 176, 3) := by decide +kernel
theorem dX11_read_35 : decode cX11_read 35 = .ok (.astore_n 3, 1) := by decide +kernel
theorem dX11_read_36 : decode cX11_read 36 = .ok (.aload_n 3, 1) := by decide +kernel
theorem dX11_read_37 : decode cX11_read 37 = .ok (.iconst 1, 1) := by decide +kernel
theorem dX11_read_38 : decode cX11_read 38 = .ok (.invokevirtual 179, 3) := by decide +kernel
theorem dX11_read_41 : decode cX11_read 41 = .ok (.astore 4, 2) := by decide +kernel
theorem dX11_read_43 : decode cX11_read 43 = .ok (.aload_n 0, 1) := by decide +kernel
theorem dX11_read_44 : decode cX11_read 44 = .ok (.dup, 1) := by decide +kernel
theorem dX11_read_45 : decode cX11_read 45 = .ok (.getfield 132, 3) := by decide +kernel
theorem dX11_read_48 : decode cX11_read 48 = .ok (.aload_n 3, 1) := by decide +kernel
theorem dX11_read_49 : decode cX11_read 49 = .ok (.getfield 183, 3) := by decide +kernel
theorem dX11_read_52 : decode cX11_read 52 = .ok (.iadd, 1) := by decide +kernel
theorem dX11_read_53 : decode cX11_read 53 = .ok (.putfield 132, 3) := by decide +kernel
theorem dX11_read_56 : decode cX11_read 56 = .ok (.aload_n 3, 1) := by decide +kernel
theorem dX11_read_57 : decode cX11_read 57 = .ok (.getfield 184, 3) := by decide +kernel
theorem dX11_read_60 : decode cX11_read 60 = .ok (.ifCond .ne 32, 3) := by decide +kernel
theorem dX11_read_63 : decode cX11_read 63 = .ok (.aload_n 0, 1) := by decide +kernel
theorem dX11_read_64 : decode cX11_read 64 = .ok (.dup, 1) := by decide +kernel
theorem dX11_read_65 : decode cX11_read 65 = .ok (.getfield 187, 3) := by decide +kernel
theorem dX11_read_68 : decode cX11_read 68 = .ok (.iconst 1, 1) := by decide +kernel
theorem dX11_read_69 : decode cX11_read 69 = .ok (.iadd, 1) := by decide +kernel
theorem dX11_read_70 : decode cX11_read 70 = .ok (.putfield 187, 3) := by decide +kernel
theorem dX11_read_73 : decode cX11_read 73 = .ok (.aload_n 0, 1) := by decide +kernel
theorem dX11_read_74 : decode cX11_read 74 = .ok (.getfield 18, 3) := by decide +kernel
theorem dX11_read_77 : decode cX11_read 77 = .ok (.iload_n 2, 1) := by decide +kernel
theorem dX11_read_78 : decode cX11_read 78 = .ok (.aload 4, 2) := by decide +kernel
theorem dX11_read_80 : decode cX11_read 80 = .ok (.aastore, 1) := by decide +kernel
theorem dX11_read_81 : decode cX11_read 81 = .ok (.aload_n 0, 1) := by decide +kernel
theorem dX11_read_82 : decode cX11_read 82 = .ok (.iconst 0, 1) := by decide +kernel
theorem dX11_read_83 : decode cX11_read 83 = .ok (.bipush (-3), 2) := by decide +kernel
theorem dX11_read_85 : decode cX11_read 85 = .ok (.iconst 0, 1) := by decide +kernel
theorem dX11_read_86 : decode cX11_read 86 = .ok (.invokevirtual 135, 3) := by decide +kernel
theorem dX11_read_89 : decode cX11_read 89 = .ok (.goto 29, 3) := by decide +kernel
theorem dX11_read_92 : decode cX11_read 92 = .ok (.aload_n 0, 1) := by decide +kernel
theorem dX11_read_93 : decode cX11_read 93 = .ok (.dup, 1) := by decide +kernel
theorem dX11_read_94 : decode cX11_read 94 = .ok (.getfield 190, 3) := by decide +kernel
theorem dX11_read_97 : decode cX11_read 97 = .ok (.iconst 1, 1) := by decide +kernel
theorem dX11_read_98 : decode cX11_read 98 = .ok (.iadd, 1) := by decide +kernel
theorem dX11_read_99 : decode cX11_read 99 = .ok (.putfield 190, 3) := by decide +kernel
theorem dX11_read_102 : decode cX11_read 102 = .ok (.aload_n 0, 1) := by decide +kernel
theorem dX11_read_103 : decode cX11_read 103 = .ok (.aload_n 3, 1) := by decide +kernel
theorem dX11_read_104 : decode cX11_read 104 = .ok (.getfield 184, 3) := by decide +kernel
theorem dX11_read_107 : decode cX11_read 107 = .ok (.aload_n 3, 1) := by decide +kernel
theorem dX11_read_108 : decode cX11_read 108 = .ok (.getfield 193, 3) := by decide +kernel
theorem dX11_read_111 : decode cX11_read 111 = .ok (.aload_n 3, 1) := by decide +kernel
theorem dX11_read_112 : decode cX11_read 112 = .ok (.getfield 196, 3) := by decide +kernel
theorem dX11_read_115 : decode cX11_read 115 = .ok (.invokevirtual 135, 3) := by decide +kernel
theorem dX11_read_118 : decode cX11_read 118 = .ok (.aload_n 3, 1) := by decide +kernel
theorem dX11_read_119 : decode cX11_read 119 = .ok (.getfield 184, 3) := by decide +kernel
theorem dX11_read_122 : decode cX11_read 122 = .ok (.ireturn, 1) := by decide +kernel
theorem dX11_cause_0 : decode cX11_cause 0 = .ok (.iload_n 1, 1) := by decide +kernel
theorem dX11_cause_1 : decode cX11_cause 1 = .ok (.tableswitch 42 0 2 #[27, 32, 37], 27) := by decide +kernel
theorem dX11_cause_28 : decode cX11_cause 28 = .ok (.aload_n 0, 1) := by decide +kernel
theorem dX11_cause_29 : decode cX11_cause 29 = .ok (.getfield 199, 3) := by decide +kernel
theorem dX11_cause_32 : decode cX11_cause 32 = .ok (.ireturn, 1) := by decide +kernel
theorem dX11_cause_33 : decode cX11_cause 33 = .ok (.aload_n 0, 1) := by decide +kernel
theorem dX11_cause_34 : decode cX11_cause 34 = .ok (.getfield 41, 3) := by decide +kernel
theorem dX11_cause_37 : decode cX11_cause 37 = .ok (.ireturn, 1) := by decide +kernel
theorem dX11_cause_38 : decode cX11_cause 38 = .ok (.aload_n 0, 1) := by decide +kernel
theorem dX11_cause_39 : decode cX11_cause 39 = .ok (.getfield 202, 3) := by decide +kernel
theorem dX11_cause_42 : decode cX11_cause 42 = .ok (.ireturn, 1) := by decide +kernel
theorem dX11_cause_43 : decode cX11_cause 43 = .ok (.iconst (-1), 1) := by decide +kernel
theorem dX11_cause_44 : decode cX11_cause 44 = .ok (.ireturn, 1) := by decide +kernel
theorem dX11_status_0 : decode cX11_status 0 = .ok (.aload_n 0, 1) := by decide +kernel
theorem dX11_status_1 : decode cX11_status 1 = .ok (.getfield 37, 3) := by decide +kernel
theorem dX11_status_4 : decode cX11_status 4 = .ok (.ireturn, 1) := by decide +kernel
theorem dX11_count_0 : decode cX11_count 0 = .ok (.iload_n 1, 1) := by decide +kernel
theorem dX11_count_1 : decode cX11_count 1 = .ok (.tableswitch 63 0 4 #[35, 40, 45, 50, 58], 35) := by decide +kernel
theorem dX11_count_36 : decode cX11_count 36 = .ok (.aload_n 0, 1) := by decide +kernel
theorem dX11_count_37 : decode cX11_count 37 = .ok (.getfield 132, 3) := by decide +kernel
theorem dX11_count_40 : decode cX11_count 40 = .ok (.ireturn, 1) := by decide +kernel
theorem dX11_count_41 : decode cX11_count 41 = .ok (.aload_n 0, 1) := by decide +kernel
theorem dX11_count_42 : decode cX11_count 42 = .ok (.getfield 187, 3) := by decide +kernel
theorem dX11_count_45 : decode cX11_count 45 = .ok (.ireturn, 1) := by decide +kernel
theorem dX11_count_46 : decode cX11_count 46 = .ok (.aload_n 0, 1) := by decide +kernel
theorem dX11_count_47 : decode cX11_count 47 = .ok (.getfield 190, 3) := by decide +kernel
theorem dX11_count_50 : decode cX11_count 50 = .ok (.ireturn, 1) := by decide +kernel
theorem dX11_count_51 : decode cX11_count 51 = .ok (.aload_n 0, 1) := by decide +kernel
theorem dX11_count_52 : decode cX11_count 52 = .ok (.getfield 33, 3) := by decide +kernel
theorem dX11_count_55 : decode cX11_count 55 = .ok (.getfield 162, 3) := by decide +kernel
theorem dX11_count_58 : decode cX11_count 58 = .ok (.ireturn, 1) := by decide +kernel
theorem dX11_count_59 : decode cX11_count 59 = .ok (.aload_n 0, 1) := by decide +kernel
theorem dX11_count_60 : decode cX11_count 60 = .ok (.invokevirtual 205, 3) := by decide +kernel
theorem dX11_count_63 : decode cX11_count 63 = .ok (.ireturn, 1) := by decide +kernel
theorem dX11_count_64 : decode cX11_count 64 = .ok (.iconst (-1), 1) := by decide +kernel
theorem dX11_count_65 : decode cX11_count 65 = .ok (.ireturn, 1) := by decide +kernel
theorem dX11_rememberCause_0 : decode cX11_rememberCause 0 = .ok (.aload_n 0, 1) := by decide +kernel
theorem dX11_rememberCause_1 : decode cX11_rememberCause 1 = .ok (.iload_n 1, 1) := by decide +kernel
theorem dX11_rememberCause_2 : decode cX11_rememberCause 2 = .ok (.putfield 199, 3) := by decide +kernel
theorem dX11_rememberCause_5 : decode cX11_rememberCause 5 = .ok (.aload_n 0, 1) := by decide +kernel
theorem dX11_rememberCause_6 : decode cX11_rememberCause 6 = .ok (.iload_n 2, 1) := by decide +kernel
theorem dX11_rememberCause_7 : decode cX11_rememberCause 7 = .ok (.putfield 41, 3) := by decide +kernel
theorem dX11_rememberCause_10 : decode cX11_rememberCause 10 = .ok (.aload_n 0, 1) := by decide +kernel
theorem dX11_rememberCause_11 : decode cX11_rememberCause 11 = .ok (.iload_n 3, 1) := by decide +kernel
theorem dX11_rememberCause_12 : decode cX11_rememberCause 12 = .ok (.putfield 202, 3) := by decide +kernel
theorem dX11_rememberCause_15 : decode cX11_rememberCause 15 = .ok (.return_, 1) := by decide +kernel
theorem dX11_heldPlaces_0 : decode cX11_heldPlaces 0 = .ok (.iconst 0, 1) := by decide +kernel
theorem dX11_heldPlaces_1 : decode cX11_heldPlaces 1 = .ok (.istore_n 1, 1) := by decide +kernel
theorem dX11_heldPlaces_2 : decode cX11_heldPlaces 2 = .ok (.iconst 0, 1) := by decide +kernel
theorem dX11_heldPlaces_3 : decode cX11_heldPlaces 3 = .ok (.istore_n 2, 1) := by decide +kernel
theorem dX11_heldPlaces_4 : decode cX11_heldPlaces 4 = .ok (.iload_n 2, 1) := by decide +kernel
theorem dX11_heldPlaces_5 : decode cX11_heldPlaces 5 = .ok (.bipush 10, 2) := by decide +kernel
theorem dX11_heldPlaces_7 : decode cX11_heldPlaces 7 = .ok (.if_icmp .ge 21, 3) := by decide +kernel
theorem dX11_heldPlaces_10 : decode cX11_heldPlaces 10 = .ok (.aload_n 0, 1) := by decide +kernel
theorem dX11_heldPlaces_11 : decode cX11_heldPlaces 11 = .ok (.getfield 18, 3) := by decide +kernel
theorem dX11_heldPlaces_14 : decode cX11_heldPlaces 14 = .ok (.iload_n 2, 1) := by decide +kernel
theorem dX11_heldPlaces_15 : decode cX11_heldPlaces 15 = .ok (.aaload, 1) := by decide +kernel
theorem dX11_heldPlaces_16 : decode cX11_heldPlaces 16 = .ok (.ifnull 6, 3) := by decide +kernel
theorem dX11_heldPlaces_19 : decode cX11_heldPlaces 19 = .ok (.iinc 1 1, 3) := by decide +kernel
theorem dX11_heldPlaces_22 : decode cX11_heldPlaces 22 = .ok (.iinc 2 1, 3) := by decide +kernel
theorem dX11_heldPlaces_25 : decode cX11_heldPlaces 25 = .ok (.goto (-21), 3) := by decide +kernel
theorem dX11_heldPlaces_28 : decode cX11_heldPlaces 28 = .ok (.iload_n 1, 1) := by decide +kernel
theorem dX11_heldPlaces_29 : decode cX11_heldPlaces 29 = .ok (.ireturn, 1) := by decide +kernel
theorem dX11_below_0 : decode cX11_below 0 = .ok (.iload_n 0, 1) := by decide +kernel
theorem dX11_below_1 : decode cX11_below 1 = .ok (.ifCond .lt 12, 3) := by decide +kernel
theorem dX11_below_4 : decode cX11_below 4 = .ok (.iload_n 0, 1) := by decide +kernel
theorem dX11_below_5 : decode cX11_below 5 = .ok (.iload_n 1, 1) := by decide +kernel
theorem dX11_below_6 : decode cX11_below 6 = .ok (.if_icmp .ge 7, 3) := by decide +kernel
theorem dX11_below_9 : decode cX11_below 9 = .ok (.iconst 1, 1) := by decide +kernel
theorem dX11_below_10 : decode cX11_below 10 = .ok (.goto 4, 3) := by decide +kernel
theorem dX11_below_13 : decode cX11_below 13 = .ok (.iconst 0, 1) := by decide +kernel
theorem dX11_below_14 : decode cX11_below 14 = .ok (.ireturn, 1) := by decide +kernel
theorem dX11_mayBeOf_0 : decode cX11_mayBeOf 0 = .ok (.iload_n 0, 1) := by decide +kernel
theorem dX11_mayBeOf_1 : decode cX11_mayBeOf 1 = .ok (.iconst 2, 1) := by decide +kernel
theorem dX11_mayBeOf_2 : decode cX11_mayBeOf 2 = .ok (.if_icmp .ne 9, 3) := by decide +kernel
theorem dX11_mayBeOf_5 : decode cX11_mayBeOf 5 = .ok (.iload_n 1, 1) := by decide +kernel
theorem dX11_mayBeOf_6 : decode cX11_mayBeOf 6 = .ok (.iconst 2, 1) := by decide +kernel
theorem dX11_mayBeOf_7 : decode cX11_mayBeOf 7 = .ok (.invokestatic 48, 3) := by decide +kernel
theorem dX11_mayBeOf_10 : decode cX11_mayBeOf 10 = .ok (.ireturn, 1) := by decide +kernel
theorem dX11_mayBeOf_11 : decode cX11_mayBeOf 11 = .ok (.iload_n 0, 1) := by decide +kernel
theorem dX11_mayBeOf_12 : decode cX11_mayBeOf 12 = .ok (.iconst 3, 1) := by decide +kernel
theorem dX11_mayBeOf_13 : decode cX11_mayBeOf 13 = .ok (.if_icmp .ne 13, 3) := by decide +kernel
theorem dX11_mayBeOf_16 : decode cX11_mayBeOf 16 = .ok (.iload_n 1, 1) := by decide +kernel
theorem dX11_mayBeOf_17 : decode cX11_mayBeOf 17 = .ok (.iconst 2, 1) := by decide +kernel
theorem dX11_mayBeOf_18 : decode cX11_mayBeOf 18 = .ok (.isub, 1) := by decide +kernel
theorem dX11_mayBeOf_19 : decode cX11_mayBeOf 19 = .ok (.iconst 4, 1) := by decide +kernel
theorem dX11_mayBeOf_20 : decode cX11_mayBeOf 20 = .ok (.invokestatic 48, 3) := by decide +kernel
theorem dX11_mayBeOf_23 : decode cX11_mayBeOf 23 = .ok (.ifCond .eq 7, 3) := by decide +kernel
theorem dX11_mayBeOf_26 : decode cX11_mayBeOf 26 = .ok (.iconst 1, 1) := by decide +kernel
theorem dX11_mayBeOf_27 : decode cX11_mayBeOf 27 = .ok (.goto 4, 3) := by decide +kernel
theorem dX11_mayBeOf_30 : decode cX11_mayBeOf 30 = .ok (.iconst 0, 1) := by decide +kernel
theorem dX11_mayBeOf_31 : decode cX11_mayBeOf 31 = .ok (.ireturn, 1) := by decide +kernel
theorem dX11_sortChecked_0 : decode cX11_sortChecked 0 = .ok (.iload_n 0, 1) := by decide +kernel
theorem dX11_sortChecked_1 : decode cX11_sortChecked 1 = .ok (.tableswitch 33 2 4 #[27, 29, 31], 27) := by decide +kernel
theorem dX11_sortChecked_28 : decode cX11_sortChecked 28 = .ok (.iconst 4, 1) := by decide +kernel
theorem dX11_sortChecked_29 : decode cX11_sortChecked 29 = .ok (.ireturn, 1) := by decide +kernel
theorem dX11_sortChecked_30 : decode cX11_sortChecked 30 = .ok (.iconst 3, 1) := by decide +kernel
theorem dX11_sortChecked_31 : decode cX11_sortChecked 31 = .ok (.ireturn, 1) := by decide +kernel
theorem dX11_sortChecked_32 : decode cX11_sortChecked 32 = .ok (.iconst 2, 1) := by decide +kernel
theorem dX11_sortChecked_33 : decode cX11_sortChecked 33 = .ok (.ireturn, 1) := by decide +kernel
theorem dX11_sortChecked_34 : decode cX11_sortChecked 34 = .ok (.iconst 0, 1) := by decide +kernel
theorem dX11_sortChecked_35 : decode cX11_sortChecked 35 = .ok (.ireturn, 1) := by decide +kernel
theorem dX11_familyOf_0 : decode cX11_familyOf 0 = .ok (.aload_n 0, 1) := by decide +kernel
theorem dX11_familyOf_1 : decode cX11_familyOf 1 = .ok (.ifnonnull 7, 3) := by decide +kernel
theorem dX11_familyOf_4 : decode cX11_familyOf 4 = .ok (.iconst 0, 1) := by decide +kernel
theorem dX11_familyOf_5 : decode cX11_familyOf 5 = .ok (.goto 7, 3) := by decide +kernel
theorem dX11_familyOf_8 : decode cX11_familyOf 8 = .ok (.aload_n 0, 1) := by decide +kernel
theorem dX11_familyOf_9 : decode cX11_familyOf 9 = .ok (.invokevirtual 208, 3) := by decide +kernel
theorem dX11_familyOf_12 : decode cX11_familyOf 12 = .ok (.ireturn, 1) := by decide +kernel
theorem dX11_alike_0 : decode cX11_alike 0 = .ok (.aload_n 0, 1) := by decide +kernel
theorem dX11_alike_1 : decode cX11_alike 1 = .ok (.aload_n 1, 1) := by decide +kernel
theorem dX11_alike_2 : decode cX11_alike 2 = .ok (.if_acmp .ne 5, 3) := by decide +kernel
theorem dX11_alike_5 : decode cX11_alike 5 = .ok (.iconst 1, 1) := by decide +kernel
theorem dX11_alike_6 : decode cX11_alike 6 = .ok (.ireturn, 1) := by decide +kernel
theorem dX11_alike_7 : decode cX11_alike 7 = .ok (.aload_n 0, 1) := by decide +kernel
theorem dX11_alike_8 : decode cX11_alike 8 = .ok (.instanceof 103, 3) := by decide +kernel
theorem dX11_alike_11 : decode cX11_alike 11 = .ok (.ifCond .eq 34, 3) := by decide +kernel
theorem dX11_alike_14 : decode cX11_alike 14 = .ok (.aload_n 0, 1) := by decide +kernel
theorem dX11_alike_15 : decode cX11_alike 15 = .ok (.checkcast 103, 3) := by decide +kernel
theorem dX11_alike_18 : decode cX11_alike 18 = .ok (.astore_n 3, 1) := by decide +kernel
theorem dX11_alike_19 : decode cX11_alike 19 = .ok (.aload_n 1, 1) := by decide +kernel
theorem dX11_alike_20 : decode cX11_alike 20 = .ok (.instanceof 103, 3) := by decide +kernel
theorem dX11_alike_23 : decode cX11_alike 23 = .ok (.ifCond .eq 22, 3) := by decide +kernel
theorem dX11_alike_26 : decode cX11_alike 26 = .ok (.aload_n 1, 1) := by decide +kernel
theorem dX11_alike_27 : decode cX11_alike 27 = .ok (.checkcast 103, 3) := by decide +kernel
theorem dX11_alike_30 : decode cX11_alike 30 = .ok (.astore 4, 2) := by decide +kernel
theorem dX11_alike_32 : decode cX11_alike 32 = .ok (.aload_n 3, 1) := by decide +kernel
theorem dX11_alike_33 : decode cX11_alike 33 = .ok (.getfield 108, 3) := by decide +kernel
theorem dX11_alike_36 : decode cX11_alike 36 = .ok (.aload 4, 2) := by decide +kernel
theorem dX11_alike_38 : decode cX11_alike 38 = .ok (.getfield 108, 3) := by decide +kernel
theorem dX11_alike_41 : decode cX11_alike 41 = .ok (.invokestatic 211, 3) := by decide +kernel
theorem dX11_alike_44 : decode cX11_alike 44 = .ok (.ireturn, 1) := by decide +kernel
theorem dX11_alike_45 : decode cX11_alike 45 = .ok (.iload_n 2, 1) := by decide +kernel
theorem dX11_alike_46 : decode cX11_alike 46 = .ok (.bipush 6, 2) := by decide +kernel
theorem dX11_alike_48 : decode cX11_alike 48 = .ok (.if_icmp .ge 36, 3) := by decide +kernel
theorem dX11_alike_51 : decode cX11_alike 51 = .ok (.aload_n 0, 1) := by decide +kernel
theorem dX11_alike_52 : decode cX11_alike 52 = .ok (.instanceof 115, 3) := by decide +kernel
theorem dX11_alike_55 : decode cX11_alike 55 = .ok (.ifCond .eq 29, 3) := by decide +kernel
theorem dX11_alike_58 : decode cX11_alike 58 = .ok (.aload_n 0, 1) := by decide +kernel
theorem dX11_alike_59 : decode cX11_alike 59 = .ok (.checkcast 115, 3) := by decide +kernel
theorem dX11_alike_62 : decode cX11_alike 62 = .ok (.astore_n 3, 1) := by decide +kernel
theorem dX11_alike_63 : decode cX11_alike 63 = .ok (.aload_n 1, 1) := by decide +kernel
theorem dX11_alike_64 : decode cX11_alike 64 = .ok (.instanceof 115, 3) := by decide +kernel
theorem dX11_alike_67 : decode cX11_alike 67 = .ok (.ifCond .eq 17, 3) := by decide +kernel
theorem dX11_alike_70 : decode cX11_alike 70 = .ok (.aload_n 1, 1) := by decide +kernel
theorem dX11_alike_71 : decode cX11_alike 71 = .ok (.checkcast 115, 3) := by decide +kernel
theorem dX11_alike_74 : decode cX11_alike 74 = .ok (.astore 4, 2) := by decide +kernel
theorem dX11_alike_76 : decode cX11_alike 76 = .ok (.aload_n 3, 1) := by decide +kernel
theorem dX11_alike_77 : decode cX11_alike 77 = .ok (.aload 4, 2) := by decide +kernel
theorem dX11_alike_79 : decode cX11_alike 79 = .ok (.iload_n 2, 1) := by decide +kernel
theorem dX11_alike_80 : decode cX11_alike 80 = .ok (.invokestatic 215, 3) := by decide +kernel
theorem dX11_alike_83 : decode cX11_alike 83 = .ok (.ireturn, 1) := by decide +kernel
theorem dX11_alike_84 : decode cX11_alike 84 = .ok (.iconst 0, 1) := by decide +kernel
theorem dX11_alike_85 : decode cX11_alike 85 = .ok (.ireturn, 1) := by decide +kernel
theorem dX11_alikeRecords_0 : decode cX11_alikeRecords 0 = .ok (.aload_n 0, 1) := by decide +kernel
theorem dX11_alikeRecords_1 : decode cX11_alikeRecords 1 = .ok (.getfield 219, 3) := by decide +kernel
theorem dX11_alikeRecords_4 : decode cX11_alikeRecords 4 = .ok (.aload_n 1, 1) := by decide +kernel
theorem dX11_alikeRecords_5 : decode cX11_alikeRecords 5 = .ok (.getfield 219, 3) := by decide +kernel
theorem dX11_alikeRecords_8 : decode cX11_alikeRecords 8 = .ok (.if_acmp .ne 14, 3) := by decide +kernel
theorem dX11_alikeRecords_11 : decode cX11_alikeRecords 11 = .ok (.aload_n 0, 1) := by decide +kernel
theorem dX11_alikeRecords_12 : decode cX11_alikeRecords 12 = .ok (.invokevirtual 120, 3) := by decide +kernel
theorem dX11_alikeRecords_15 : decode cX11_alikeRecords 15 = .ok (.aload_n 1, 1) := by decide +kernel
theorem dX11_alikeRecords_16 : decode cX11_alikeRecords 16 = .ok (.invokevirtual 120, 3) := by decide +kernel
theorem dX11_alikeRecords_19 : decode cX11_alikeRecords 19 = .ok (.if_icmp .eq 5, 3) := by decide +kernel
theorem dX11_alikeRecords_22 : decode cX11_alikeRecords 22 = .ok (.iconst 0, 1) := by decide +kernel
theorem dX11_alikeRecords_23 : decode cX11_alikeRecords 23 = .ok (.ireturn, 1) := by decide +kernel
theorem dX11_alikeRecords_24 : decode cX11_alikeRecords 24 = .ok (.iconst 0, 1) := by decide +kernel
theorem dX11_alikeRecords_25 : decode cX11_alikeRecords 25 = .ok (.istore_n 3, 1) := by decide +kernel
theorem dX11_alikeRecords_26 : decode cX11_alikeRecords 26 = .ok (.iload_n 3, 1) := by decide +kernel
theorem dX11_alikeRecords_27 : decode cX11_alikeRecords 27 = .ok (.aload_n 0, 1) := by decide +kernel
theorem dX11_alikeRecords_28 : decode cX11_alikeRecords 28 = .ok (.invokevirtual 120, 3) := by decide +kernel
theorem dX11_alikeRecords_31 : decode cX11_alikeRecords 31 = .ok (.if_icmp .ge 27, 3) := by decide +kernel
theorem dX11_alikeRecords_34 : decode cX11_alikeRecords 34 = .ok (.aload_n 0, 1) := by decide +kernel
theorem dX11_alikeRecords_35 : decode cX11_alikeRecords 35 = .ok (.getfield 149, 3) := by decide +kernel
theorem dX11_alikeRecords_38 : decode cX11_alikeRecords 38 = .ok (.iload_n 3, 1) := by decide +kernel
theorem dX11_alikeRecords_39 : decode cX11_alikeRecords 39 = .ok (.laload, 1) := by decide +kernel
theorem dX11_alikeRecords_40 : decode cX11_alikeRecords 40 = .ok (.aload_n 1, 1) := by decide +kernel
theorem dX11_alikeRecords_41 : decode cX11_alikeRecords 41 = .ok (.getfield 149, 3) := by decide +kernel
theorem dX11_alikeRecords_44 : decode cX11_alikeRecords 44 = .ok (.iload_n 3, 1) := by decide +kernel
theorem dX11_alikeRecords_45 : decode cX11_alikeRecords 45 = .ok (.laload, 1) := by decide +kernel
theorem dX11_alikeRecords_46 : decode cX11_alikeRecords 46 = .ok (.lcmp, 1) := by decide +kernel
theorem dX11_alikeRecords_47 : decode cX11_alikeRecords 47 = .ok (.ifCond .eq 5, 3) := by decide +kernel
theorem dX11_alikeRecords_50 : decode cX11_alikeRecords 50 = .ok (.iconst 0, 1) := by decide +kernel
theorem dX11_alikeRecords_51 : decode cX11_alikeRecords 51 = .ok (.ireturn, 1) := by decide +kernel
theorem dX11_alikeRecords_52 : decode cX11_alikeRecords 52 = .ok (.iinc 3 1, 3) := by decide +kernel
theorem dX11_alikeRecords_55 : decode cX11_alikeRecords 55 = .ok (.goto (-29), 3) := by decide +kernel
theorem dX11_alikeRecords_58 : decode cX11_alikeRecords 58 = .ok (.iconst 0, 1) := by decide +kernel
theorem dX11_alikeRecords_59 : decode cX11_alikeRecords 59 = .ok (.istore_n 3, 1) := by decide +kernel
theorem dX11_alikeRecords_60 : decode cX11_alikeRecords 60 = .ok (.iload_n 3, 1) := by decide +kernel
theorem dX11_alikeRecords_61 : decode cX11_alikeRecords 61 = .ok (.aload_n 0, 1) := by decide +kernel
theorem dX11_alikeRecords_62 : decode cX11_alikeRecords 62 = .ok (.invokevirtual 120, 3) := by decide +kernel
theorem dX11_alikeRecords_65 : decode cX11_alikeRecords 65 = .ok (.if_icmp .ge 32, 3) := by decide +kernel
theorem dX11_alikeRecords_68 : decode cX11_alikeRecords 68 = .ok (.aload_n 0, 1) := by decide +kernel
theorem dX11_alikeRecords_69 : decode cX11_alikeRecords 69 = .ok (.getfield 152, 3) := by decide +kernel
theorem dX11_alikeRecords_72 : decode cX11_alikeRecords 72 = .ok (.iload_n 3, 1) := by decide +kernel
theorem dX11_alikeRecords_73 : decode cX11_alikeRecords 73 = .ok (.aaload, 1) := by decide +kernel
theorem dX11_alikeRecords_74 : decode cX11_alikeRecords 74 = .ok (.aload_n 1, 1) := by decide +kernel
theorem dX11_alikeRecords_75 : decode cX11_alikeRecords 75 = .ok (.getfield 152, 3) := by decide +kernel
theorem dX11_alikeRecords_78 : decode cX11_alikeRecords 78 = .ok (.iload_n 3, 1) := by decide +kernel
theorem dX11_alikeRecords_79 : decode cX11_alikeRecords 79 = .ok (.aaload, 1) := by decide +kernel
theorem dX11_alikeRecords_80 : decode cX11_alikeRecords 80 = .ok (.iload_n 2, 1) := by decide +kernel
theorem dX11_alikeRecords_81 : decode cX11_alikeRecords 81 = .ok (.iconst 1, 1) := by decide +kernel
theorem dX11_alikeRecords_82 : decode cX11_alikeRecords 82 = .ok (.iadd, 1) := by decide +kernel
theorem dX11_alikeRecords_83 : decode cX11_alikeRecords 83 = .ok (.invokestatic 155, 3) := by decide +kernel
theorem dX11_alikeRecords_86 : decode cX11_alikeRecords 86 = .ok (.ifCond .ne 5, 3) := by decide +kernel
theorem dX11_alikeRecords_89 : decode cX11_alikeRecords 89 = .ok (.iconst 0, 1) := by decide +kernel
theorem dX11_alikeRecords_90 : decode cX11_alikeRecords 90 = .ok (.ireturn, 1) := by decide +kernel
theorem dX11_alikeRecords_91 : decode cX11_alikeRecords 91 = .ok (.iinc 3 1, 3) := by decide +kernel
theorem dX11_alikeRecords_94 : decode cX11_alikeRecords 94 = .ok (.goto (-34), 3) := by decide +kernel
theorem dX11_alikeRecords_97 : decode cX11_alikeRecords 97 = .ok (.iconst 1, 1) := by decide +kernel
theorem dX11_alikeRecords_98 : decode cX11_alikeRecords 98 = .ok (.ireturn, 1) := by decide +kernel
theorem dX11_sameItems_0 : decode cX11_sameItems 0 = .ok (.aload_n 0, 1) := by decide +kernel
theorem dX11_sameItems_1 : decode cX11_sameItems 1 = .ok (.arraylength, 1) := by decide +kernel
theorem dX11_sameItems_2 : decode cX11_sameItems 2 = .ok (.aload_n 1, 1) := by decide +kernel
theorem dX11_sameItems_3 : decode cX11_sameItems 3 = .ok (.arraylength, 1) := by decide +kernel
theorem dX11_sameItems_4 : decode cX11_sameItems 4 = .ok (.if_icmp .eq 5, 3) := by decide +kernel
theorem dX11_sameItems_7 : decode cX11_sameItems 7 = .ok (.iconst 0, 1) := by decide +kernel
theorem dX11_sameItems_8 : decode cX11_sameItems 8 = .ok (.ireturn, 1) := by decide +kernel
theorem dX11_sameItems_9 : decode cX11_sameItems 9 = .ok (.iconst 0, 1) := by decide +kernel
theorem dX11_sameItems_10 : decode cX11_sameItems 10 = .ok (.istore_n 2, 1) := by decide +kernel
theorem dX11_sameItems_11 : decode cX11_sameItems 11 = .ok (.iload_n 2, 1) := by decide +kernel
theorem dX11_sameItems_12 : decode cX11_sameItems 12 = .ok (.aload_n 0, 1) := by decide +kernel
theorem dX11_sameItems_13 : decode cX11_sameItems 13 = .ok (.arraylength, 1) := by decide +kernel
theorem dX11_sameItems_14 : decode cX11_sameItems 14 = .ok (.if_icmp .ge 20, 3) := by decide +kernel
theorem dX11_sameItems_17 : decode cX11_sameItems 17 = .ok (.aload_n 0, 1) := by decide +kernel
theorem dX11_sameItems_18 : decode cX11_sameItems 18 = .ok (.iload_n 2, 1) := by decide +kernel
theorem dX11_sameItems_19 : decode cX11_sameItems 19 = .ok (.iaload, 1) := by decide +kernel
theorem dX11_sameItems_20 : decode cX11_sameItems 20 = .ok (.aload_n 1, 1) := by decide +kernel
theorem dX11_sameItems_21 : decode cX11_sameItems 21 = .ok (.iload_n 2, 1) := by decide +kernel
theorem dX11_sameItems_22 : decode cX11_sameItems 22 = .ok (.iaload, 1) := by decide +kernel
theorem dX11_sameItems_23 : decode cX11_sameItems 23 = .ok (.if_icmp .eq 5, 3) := by decide +kernel
theorem dX11_sameItems_26 : decode cX11_sameItems 26 = .ok (.iconst 0, 1) := by decide +kernel
theorem dX11_sameItems_27 : decode cX11_sameItems 27 = .ok (.ireturn, 1) := by decide +kernel
theorem dX11_sameItems_28 : decode cX11_sameItems 28 = .ok (.iinc 2 1, 3) := by decide +kernel
theorem dX11_sameItems_31 : decode cX11_sameItems 31 = .ok (.goto (-20), 3) := by decide +kernel
theorem dX11_sameItems_34 : decode cX11_sameItems 34 = .ok (.iconst 1, 1) := by decide +kernel
theorem dX11_sameItems_35 : decode cX11_sameItems 35 = .ok (.ireturn, 1) := by decide +kernel
