theorem dX12_partAt_12 : decode cX12_partAt 12 = .ok (.iload_n 1, 1) := by decide +kernel
theorem dX12_partAt_13 : decode cX12_partAt 13 = .ok (.iaload, 1) := by decide +kernel
theorem dX12_partAt_14 : decode cX12_partAt 14 = .ok (.invokevirtual 160, 3) := by decide +kernel
theorem dX12_partAt_17 : decode cX12_partAt 17 = .ok (.iconst 4, 1) := by decide +kernel
theorem dX12_partAt_18 : decode cX12_partAt 18 = .ok (.if_icmp .eq 5, 3) := by decide +kernel
theorem dX12_partAt_21 : decode cX12_partAt 21 = .ok (.iconst (-1), 1) := by decide +kernel
theorem dX12_partAt_22 : decode cX12_partAt 22 = .ok (.ireturn, 1) := by decide +kernel
theorem dX12_partAt_23 : decode cX12_partAt 23 = .ok (.aload_n 0, 1) := by decide +kernel
theorem dX12_partAt_24 : decode cX12_partAt 24 = .ok (.getfield 66, 3) := by decide +kernel
theorem dX12_partAt_27 : decode cX12_partAt 27 = .ok (.iload_n 1, 1) := by decide +kernel
theorem dX12_partAt_28 : decode cX12_partAt 28 = .ok (.iaload, 1) := by decide +kernel
theorem dX12_partAt_29 : decode cX12_partAt 29 = .ok (.ldc 147, 2) := by decide +kernel
theorem dX12_partAt_31 : decode cX12_partAt 31 = .ok (.isub, 1) := by decide +kernel
theorem dX12_partAt_32 : decode cX12_partAt 32 = .ok (.istore_n 3, 1) := by decide +kernel
theorem dX12_partAt_33 : decode cX12_partAt 33 = .ok (.iload_n 2, 1) := by decide +kernel
theorem dX12_partAt_34 : decode cX12_partAt 34 = .ok (.i2l, 1) := by decide +kernel
theorem dX12_partAt_35 : decode cX12_partAt 35 = .ok (.lconst 0, 1) := by decide +kernel
theorem dX12_partAt_36 : decode cX12_partAt 36 = .ok (.aload_n 0, 1) := by decide +kernel
theorem dX12_partAt_37 : decode cX12_partAt 37 = .ok (.getfield 55, 3) := by decide +kernel
theorem dX12_partAt_40 : decode cX12_partAt 40 = .ok (.iload_n 3, 1) := by decide +kernel
theorem dX12_partAt_41 : decode cX12_partAt 41 = .ok (.iaload, 1) := by decide +kernel
theorem dX12_partAt_42 : decode cX12_partAt 42 = .ok (.iconst 1, 1) := by decide +kernel
theorem dX12_partAt_43 : decode cX12_partAt 43 = .ok (.isub, 1) := by decide +kernel
theorem dX12_partAt_44 : decode cX12_partAt 44 = .ok (.i2l, 1) := by decide +kernel
theorem dX12_partAt_45 : decode cX12_partAt 45 = .ok (.invokestatic 117, 3) := by decide +kernel
theorem dX12_partAt_48 : decode cX12_partAt 48 = .ok (.ifCond .eq 11, 3) := by decide +kernel
theorem dX12_partAt_51 : decode cX12_partAt 51 = .ok (.iconst 5, 1) := by decide +kernel
theorem dX12_partAt_52 : decode cX12_partAt 52 = .ok (.iload_n 3, 1) := by decide +kernel
theorem dX12_partAt_53 : decode cX12_partAt 53 = .ok (.imul, 1) := by decide +kernel
theorem dX12_partAt_54 : decode cX12_partAt 54 = .ok (.iload_n 2, 1) := by decide +kernel
theorem dX12_partAt_55 : decode cX12_partAt 55 = .ok (.iadd, 1) := by decide +kernel
theorem dX12_partAt_56 : decode cX12_partAt 56 = .ok (.goto 4, 3) := by decide +kernel
theorem dX12_partAt_59 : decode cX12_partAt 59 = .ok (.iconst (-1), 1) := by decide +kernel
theorem dX12_partAt_60 : decode cX12_partAt 60 = .ok (.ireturn, 1) := by decide +kernel
theorem dX12_isNumber_0 : decode cX12_isNumber 0 = .ok (.aload_n 0, 1) := by decide +kernel
theorem dX12_isNumber_1 : decode cX12_isNumber 1 = .ok (.getfield 26, 3) := by decide +kernel
theorem dX12_isNumber_4 : decode cX12_isNumber 4 = .ok (.iconst 5, 1) := by decide +kernel
theorem dX12_isNumber_5 : decode cX12_isNumber 5 = .ok (.aload_n 0, 1) := by decide +kernel
theorem dX12_isNumber_6 : decode cX12_isNumber 6 = .ok (.getfield 52, 3) := by decide +kernel
theorem dX12_isNumber_9 : decode cX12_isNumber 9 = .ok (.iload_n 1, 1) := by decide +kernel
theorem dX12_isNumber_10 : decode cX12_isNumber 10 = .ok (.iconst 5, 1) := by decide +kernel
theorem dX12_isNumber_11 : decode cX12_isNumber 11 = .ok (.idiv, 1) := by decide +kernel
theorem dX12_isNumber_12 : decode cX12_isNumber 12 = .ok (.iaload, 1) := by decide +kernel
theorem dX12_isNumber_13 : decode cX12_isNumber 13 = .ok (.imul, 1) := by decide +kernel
theorem dX12_isNumber_14 : decode cX12_isNumber 14 = .ok (.iload_n 1, 1) := by decide +kernel
theorem dX12_isNumber_15 : decode cX12_isNumber 15 = .ok (.iconst 5, 1) := by decide +kernel
theorem dX12_isNumber_16 : decode cX12_isNumber 16 = .ok (.irem, 1) := by decide +kernel
theorem dX12_isNumber_17 : decode cX12_isNumber 17 = .ok (.iadd, 1) := by decide +kernel
theorem dX12_isNumber_18 : decode cX12_isNumber 18 = .ok (.iaload, 1) := by decide +kernel
theorem dX12_isNumber_19 : decode cX12_isNumber 19 = .ok (.iconst 2, 1) := by decide +kernel
theorem dX12_isNumber_20 : decode cX12_isNumber 20 = .ok (.if_icmp .ge 7, 3) := by decide +kernel
theorem dX12_isNumber_23 : decode cX12_isNumber 23 = .ok (.iconst 1, 1) := by decide +kernel
theorem dX12_isNumber_24 : decode cX12_isNumber 24 = .ok (.goto 4, 3) := by decide +kernel
theorem dX12_isNumber_27 : decode cX12_isNumber 27 = .ok (.iconst 0, 1) := by decide +kernel
theorem dX12_isNumber_28 : decode cX12_isNumber 28 = .ok (.ireturn, 1) := by decide +kernel
theorem dX12_number_0 : decode cX12_number 0 = .ok (.aload_n 0, 1) := by decide +kernel
theorem dX12_number_1 : decode cX12_number 1 = .ok (.iload_n 1, 1) := by decide +kernel
theorem dX12_number_2 : decode cX12_number 2 = .ok (.iload_n 2, 1) := by decide +kernel
theorem dX12_number_3 : decode cX12_number 3 = .ok (.invokevirtual 195, 3) := by decide +kernel
theorem dX12_number_6 : decode cX12_number 6 = .ok (.istore_n 3, 1) := by decide +kernel
theorem dX12_number_7 : decode cX12_number 7 = .ok (.aload_n 0, 1) := by decide +kernel
theorem dX12_number_8 : decode cX12_number 8 = .ok (.iload_n 3, 1) := by decide +kernel
theorem dX12_number_9 : decode cX12_number 9 = .ok (.ifCond .ge 7, 3) := by decide +kernel
theorem dX12_number_12 : decode cX12_number 12 = .ok (.iconst (-1), 1) := by decide +kernel
theorem dX12_number_13 : decode cX12_number 13 = .ok (.goto 4, 3) := by decide +kernel
theorem dX12_number_16 : decode cX12_number 16 = .ok (.iconst 0, 1) := by decide +kernel
theorem dX12_number_17 : decode cX12_number 17 = .ok (.putfield 198, 3) := by decide +kernel
theorem dX12_number_20 : decode cX12_number 20 = .ok (.iload_n 3, 1) := by decide +kernel
theorem dX12_number_21 : decode cX12_number 21 = .ok (.ifCond .ge 7, 3) := by decide +kernel
theorem dX12_number_24 : decode cX12_number 24 = .ok (.lconst 0, 1) := by decide +kernel
theorem dX12_number_25 : decode cX12_number 25 = .ok (.goto 35, 3) := by decide +kernel
theorem dX12_number_28 : decode cX12_number 28 = .ok (.aload_n 0, 1) := by decide +kernel
theorem dX12_number_29 : decode cX12_number 29 = .ok (.iload_n 3, 1) := by decide +kernel
theorem dX12_number_30 : decode cX12_number 30 = .ok (.invokevirtual 201, 3) := by decide +kernel
theorem dX12_number_33 : decode cX12_number 33 = .ok (.ifCond .eq 12, 3) := by decide +kernel
theorem dX12_number_36 : decode cX12_number 36 = .ok (.aload_n 0, 1) := by decide +kernel
theorem dX12_number_37 : decode cX12_number 37 = .ok (.getfield 59, 3) := by decide +kernel
theorem dX12_number_40 : decode cX12_number 40 = .ok (.iload_n 3, 1) := by decide +kernel
theorem dX12_number_41 : decode cX12_number 41 = .ok (.laload, 1) := by decide +kernel
theorem dX12_number_42 : decode cX12_number 42 = .ok (.goto 18, 3) := by decide +kernel
theorem dX12_number_45 : decode cX12_number 45 = .ok (.aload_n 0, 1) := by decide +kernel
theorem dX12_number_46 : decode cX12_number 46 = .ok (.aload_n 0, 1) := by decide +kernel
theorem dX12_number_47 : decode cX12_number 47 = .ok (.getfield 63, 3) := by decide +kernel
theorem dX12_number_50 : decode cX12_number 50 = .ok (.iload_n 3, 1) := by decide +kernel
theorem dX12_number_51 : decode cX12_number 51 = .ok (.iaload, 1) := by decide +kernel
theorem dX12_number_52 : decode cX12_number 52 = .ok (.invokevirtual 160, 3) := by decide +kernel
theorem dX12_number_55 : decode cX12_number 55 = .ok (.i2l, 1) := by decide +kernel
theorem dX12_number_56 : decode cX12_number 56 = .ok (.ldc2_w 204, 3) := by decide +kernel
theorem dX12_number_59 : decode cX12_number 59 = .ok (.lsub, 1) := by decide +kernel
theorem dX12_number_60 : decode cX12_number 60 = .ok (.lreturn, 1) := by decide +kernel
theorem dX12_take_0 : decode cX12_take 0 = .ok (.aload_n 0, 1) := by decide +kernel
theorem dX12_take_1 : decode cX12_take 1 = .ok (.iload_n 1, 1) := by decide +kernel
theorem dX12_take_2 : decode cX12_take 2 = .ok (.iload_n 2, 1) := by decide +kernel
theorem dX12_take_3 : decode cX12_take 3 = .ok (.invokevirtual 195, 3) := by decide +kernel
theorem dX12_take_6 : decode cX12_take 6 = .ok (.istore 4, 2) := by decide +kernel
theorem dX12_take_8 : decode cX12_take 8 = .ok (.iload 4, 2) := by decide +kernel
theorem dX12_take_10 : decode cX12_take 10 = .ok (.ifCond .lt 19, 3) := by decide +kernel
theorem dX12_take_13 : decode cX12_take 13 = .ok (.iload_n 3, 1) := by decide +kernel
theorem dX12_take_14 : decode cX12_take 14 = .ok (.invokestatic 148, 3) := by decide +kernel
theorem dX12_take_17 : decode cX12_take 17 = .ok (.ifCond .eq 12, 3) := by decide +kernel
theorem dX12_take_20 : decode cX12_take 20 = .ok (.aload_n 0, 1) := by decide +kernel
theorem dX12_take_21 : decode cX12_take 21 = .ok (.iload 4, 2) := by decide +kernel
theorem dX12_take_23 : decode cX12_take 23 = .ok (.invokevirtual 201, 3) := by decide +kernel
theorem dX12_take_26 : decode cX12_take 26 = .ok (.ifCond .eq 5, 3) := by decide +kernel
theorem dX12_take_29 : decode cX12_take 29 = .ok (.iconst (-1), 1) := by decide +kernel
theorem dX12_take_30 : decode cX12_take 30 = .ok (.ireturn, 1) := by decide +kernel
theorem dX12_take_31 : decode cX12_take 31 = .ok (.aload_n 0, 1) := by decide +kernel
theorem dX12_take_32 : decode cX12_take 32 = .ok (.getfield 66, 3) := by decide +kernel
theorem dX12_take_35 : decode cX12_take 35 = .ok (.iload_n 3, 1) := by decide +kernel
theorem dX12_take_36 : decode cX12_take 36 = .ok (.aload_n 0, 1) := by decide +kernel
theorem dX12_take_37 : decode cX12_take 37 = .ok (.getfield 63, 3) := by decide +kernel
theorem dX12_take_40 : decode cX12_take 40 = .ok (.iload 4, 2) := by decide +kernel
theorem dX12_take_42 : decode cX12_take 42 = .ok (.iaload, 1) := by decide +kernel
theorem dX12_take_43 : decode cX12_take 43 = .ok (.iastore, 1) := by decide +kernel
theorem dX12_take_44 : decode cX12_take 44 = .ok (.aload_n 0, 1) := by decide +kernel
theorem dX12_take_45 : decode cX12_take 45 = .ok (.aload_n 0, 1) := by decide +kernel
theorem dX12_take_46 : decode cX12_take 46 = .ok (.getfield 66, 3) := by decide +kernel
theorem dX12_take_49 : decode cX12_take 49 = .ok (.iload_n 3, 1) := by decide +kernel
theorem dX12_take_50 : decode cX12_take 50 = .ok (.iaload, 1) := by decide +kernel
theorem dX12_take_51 : decode cX12_take 51 = .ok (.invokevirtual 160, 3) := by decide +kernel
theorem dX12_take_54 : decode cX12_take 54 = .ok (.ireturn, 1) := by decide +kernel
theorem dX12_pair_0 : decode cX12_pair 0 = .ok (.aload_n 0, 1) := by decide +kernel
theorem dX12_pair_1 : decode cX12_pair 1 = .ok (.getfield 88, 3) := by decide +kernel
theorem dX12_pair_4 : decode cX12_pair 4 = .ok (.aload_n 0, 1) := by decide +kernel
theorem dX12_pair_5 : decode cX12_pair 5 = .ok (.getfield 206, 3) := by decide +kernel
theorem dX12_pair_8 : decode cX12_pair 8 = .ok (.iload_n 1, 1) := by decide +kernel
theorem dX12_pair_9 : decode cX12_pair 9 = .ok (.iastore, 1) := by decide +kernel
theorem dX12_pair_10 : decode cX12_pair 10 = .ok (.aload_n 0, 1) := by decide +kernel
theorem dX12_pair_11 : decode cX12_pair 11 = .ok (.getfield 91, 3) := by decide +kernel
theorem dX12_pair_14 : decode cX12_pair 14 = .ok (.aload_n 0, 1) := by decide +kernel
theorem dX12_pair_15 : decode cX12_pair 15 = .ok (.getfield 206, 3) := by decide +kernel
theorem dX12_pair_18 : decode cX12_pair 18 = .ok (.iload_n 2, 1) := by decide +kernel
theorem dX12_pair_19 : decode cX12_pair 19 = .ok (.iastore, 1) := by decide +kernel
theorem dX12_pair_20 : decode cX12_pair 20 = .ok (.aload_n 0, 1) := by decide +kernel
theorem dX12_pair_21 : decode cX12_pair 21 = .ok (.getfield 94, 3) := by decide +kernel
theorem dX12_pair_24 : decode cX12_pair 24 = .ok (.aload_n 0, 1) := by decide +kernel
theorem dX12_pair_25 : decode cX12_pair 25 = .ok (.getfield 206, 3) := by decide +kernel
theorem dX12_pair_28 : decode cX12_pair 28 = .ok (.iload_n 3, 1) := by decide +kernel
theorem dX12_pair_29 : decode cX12_pair 29 = .ok (.iastore, 1) := by decide +kernel
theorem dX12_pair_30 : decode cX12_pair 30 = .ok (.aload_n 0, 1) := by decide +kernel
theorem dX12_pair_31 : decode cX12_pair 31 = .ok (.dup, 1) := by decide +kernel
theorem dX12_pair_32 : decode cX12_pair 32 = .ok (.getfield 206, 3) := by decide +kernel
theorem dX12_pair_35 : decode cX12_pair 35 = .ok (.iconst 1, 1) := by decide +kernel
theorem dX12_pair_36 : decode cX12_pair 36 = .ok (.iadd, 1) := by decide +kernel
theorem dX12_pair_37 : decode cX12_pair 37 = .ok (.putfield 206, 3) := by decide +kernel
theorem dX12_pair_40 : decode cX12_pair 40 = .ok (.return_, 1) := by decide +kernel
theorem dX12_rowsLike_0 : decode cX12_rowsLike 0 = .ok (.aload_n 0, 1) := by decide +kernel
theorem dX12_rowsLike_1 : decode cX12_rowsLike 1 = .ok (.getfield 45, 3) := by decide +kernel
theorem dX12_rowsLike_4 : decode cX12_rowsLike 4 = .ok (.iload_n 1, 1) := by decide +kernel
theorem dX12_rowsLike_5 : decode cX12_rowsLike 5 = .ok (.iaload, 1) := by decide +kernel
theorem dX12_rowsLike_6 : decode cX12_rowsLike 6 = .ok (.aload_n 0, 1) := by decide +kernel
theorem dX12_rowsLike_7 : decode cX12_rowsLike 7 = .ok (.getfield 45, 3) := by decide +kernel
theorem dX12_rowsLike_10 : decode cX12_rowsLike 10 = .ok (.iload_n 2, 1) := by decide +kernel
theorem dX12_rowsLike_11 : decode cX12_rowsLike 11 = .ok (.iaload, 1) := by decide +kernel
theorem dX12_rowsLike_12 : decode cX12_rowsLike 12 = .ok (.if_icmp .ne 7, 3) := by decide +kernel
theorem dX12_rowsLike_15 : decode cX12_rowsLike 15 = .ok (.iconst 1, 1) := by decide +kernel
theorem dX12_rowsLike_16 : decode cX12_rowsLike 16 = .ok (.goto 4, 3) := by decide +kernel
theorem dX12_rowsLike_19 : decode cX12_rowsLike 19 = .ok (.iconst 0, 1) := by decide +kernel
theorem dX12_rowsLike_20 : decode cX12_rowsLike 20 = .ok (.istore_n 3, 1) := by decide +kernel
theorem dX12_rowsLike_21 : decode cX12_rowsLike 21 = .ok (.iconst 0, 1) := by decide +kernel
theorem dX12_rowsLike_22 : decode cX12_rowsLike 22 = .ok (.istore 4, 2) := by decide +kernel
theorem dX12_rowsLike_24 : decode cX12_rowsLike 24 = .ok (.iload 4, 2) := by decide +kernel
theorem dX12_rowsLike_26 : decode cX12_rowsLike 26 = .ok (.aload_n 0, 1) := by decide +kernel
theorem dX12_rowsLike_27 : decode cX12_rowsLike 27 = .ok (.getfield 45, 3) := by decide +kernel
theorem dX12_rowsLike_30 : decode cX12_rowsLike 30 = .ok (.iload_n 1, 1) := by decide +kernel
theorem dX12_rowsLike_31 : decode cX12_rowsLike 31 = .ok (.iaload, 1) := by decide +kernel
theorem dX12_rowsLike_32 : decode cX12_rowsLike 32 = .ok (.if_icmp .ge 46, 3) := by decide +kernel
theorem dX12_rowsLike_35 : decode cX12_rowsLike 35 = .ok (.iload_n 3, 1) := by decide +kernel
theorem dX12_rowsLike_36 : decode cX12_rowsLike 36 = .ok (.ifCond .eq 42, 3) := by decide +kernel
theorem dX12_rowsLike_39 : decode cX12_rowsLike 39 = .ok (.aload_n 0, 1) := by decide +kernel
theorem dX12_rowsLike_40 : decode cX12_rowsLike 40 = .ok (.getfield 49, 3) := by decide +kernel
theorem dX12_rowsLike_43 : decode cX12_rowsLike 43 = .ok (.bipush 8, 2) := by decide +kernel
theorem dX12_rowsLike_45 : decode cX12_rowsLike 45 = .ok (.iload_n 1, 1) := by decide +kernel
theorem dX12_rowsLike_46 : decode cX12_rowsLike 46 = .ok (.imul, 1) := by decide +kernel
theorem dX12_rowsLike_47 : decode cX12_rowsLike 47 = .ok (.iload 4, 2) := by decide +kernel
theorem dX12_rowsLike_49 : decode cX12_rowsLike 49 = .ok (.iadd, 1) := by decide +kernel
theorem dX12_rowsLike_50 : decode cX12_rowsLike 50 = .ok (.iaload, 1) := by decide +kernel
theorem dX12_rowsLike_51 : decode cX12_rowsLike 51 = .ok (.aload_n 0, 1) := by decide +kernel
theorem dX12_rowsLike_52 : decode cX12_rowsLike 52 = .ok (.getfield 49, 3) := by decide +kernel
theorem dX12_rowsLike_55 : decode cX12_rowsLike 55 = .ok (.bipush 8, 2) := by decide +kernel
theorem dX12_rowsLike_57 : decode cX12_rowsLike 57 = .ok (.iload_n 2, 1) := by decide +kernel
theorem dX12_rowsLike_58 : decode cX12_rowsLike 58 = .ok (.imul, 1) := by decide +kernel
theorem dX12_rowsLike_59 : decode cX12_rowsLike 59 = .ok (.iload 4, 2) := by decide +kernel
theorem dX12_rowsLike_61 : decode cX12_rowsLike 61 = .ok (.iadd, 1) := by decide +kernel
theorem dX12_rowsLike_62 : decode cX12_rowsLike 62 = .ok (.iaload, 1) := by decide +kernel
theorem dX12_rowsLike_63 : decode cX12_rowsLike 63 = .ok (.if_icmp .ne 7, 3) := by decide +kernel
theorem dX12_rowsLike_66 : decode cX12_rowsLike 66 = .ok (.iconst 1, 1) := by decide +kernel
theorem dX12_rowsLike_67 : decode cX12_rowsLike 67 = .ok (.goto 4, 3) := by decide +kernel
theorem dX12_rowsLike_70 : decode cX12_rowsLike 70 = .ok (.iconst 0, 1) := by decide +kernel
theorem dX12_rowsLike_71 : decode cX12_rowsLike 71 = .ok (.istore_n 3, 1) := by decide +kernel
theorem dX12_rowsLike_72 : decode cX12_rowsLike 72 = .ok (.iinc 4 1, 3) := by decide +kernel
theorem dX12_rowsLike_75 : decode cX12_rowsLike 75 = .ok (.goto (-51), 3) := by decide +kernel
theorem dX12_rowsLike_78 : decode cX12_rowsLike 78 = .ok (.iload_n 3, 1) := by decide +kernel
theorem dX12_rowsLike_79 : decode cX12_rowsLike 79 = .ok (.ireturn, 1) := by decide +kernel
theorem dX12_opens_0 : decode cX12_opens 0 = .ok (.iload_n 3, 1) := by decide +kernel
theorem dX12_opens_1 : decode cX12_opens 1 = .ok (.iconst 5, 1) := by decide +kernel
theorem dX12_opens_2 : decode cX12_opens 2 = .ok (.if_icmp .gt 33, 3) := by decide +kernel
theorem dX12_opens_5 : decode cX12_opens 5 = .ok (.aload_n 0, 1) := by decide +kernel
theorem dX12_opens_6 : decode cX12_opens 6 = .ok (.getfield 52, 3) := by decide +kernel
theorem dX12_opens_9 : decode cX12_opens 9 = .ok (.iload_n 1, 1) := by decide +kernel
theorem dX12_opens_10 : decode cX12_opens 10 = .ok (.iaload, 1) := by decide +kernel
theorem dX12_opens_11 : decode cX12_opens 11 = .ok (.aload_n 0, 1) := by decide +kernel
theorem dX12_opens_12 : decode cX12_opens 12 = .ok (.getfield 52, 3) := by decide +kernel
theorem dX12_opens_15 : decode cX12_opens 15 = .ok (.iload_n 2, 1) := by decide +kernel
theorem dX12_opens_16 : decode cX12_opens 16 = .ok (.iaload, 1) := by decide +kernel
theorem dX12_opens_17 : decode cX12_opens 17 = .ok (.if_icmp .ne 18, 3) := by decide +kernel
theorem dX12_opens_20 : decode cX12_opens 20 = .ok (.aload_n 0, 1) := by decide +kernel
theorem dX12_opens_21 : decode cX12_opens 21 = .ok (.getfield 55, 3) := by decide +kernel
theorem dX12_opens_24 : decode cX12_opens 24 = .ok (.iload_n 1, 1) := by decide +kernel
theorem dX12_opens_25 : decode cX12_opens 25 = .ok (.iaload, 1) := by decide +kernel
theorem dX12_opens_26 : decode cX12_opens 26 = .ok (.aload_n 0, 1) := by decide +kernel
theorem dX12_opens_27 : decode cX12_opens 27 = .ok (.getfield 55, 3) := by decide +kernel
theorem dX12_opens_30 : decode cX12_opens 30 = .ok (.iload_n 2, 1) := by decide +kernel
theorem dX12_opens_31 : decode cX12_opens 31 = .ok (.iaload, 1) := by decide +kernel
theorem dX12_opens_32 : decode cX12_opens 32 = .ok (.if_icmp .eq 5, 3) := by decide +kernel
theorem dX12_opens_35 : decode cX12_opens 35 = .ok (.iconst 0, 1) := by decide +kernel
theorem dX12_opens_36 : decode cX12_opens 36 = .ok (.ireturn, 1) := by decide +kernel
theorem dX12_opens_37 : decode cX12_opens 37 = .ok (.iconst 1, 1) := by decide +kernel
theorem dX12_opens_38 : decode cX12_opens 38 = .ok (.istore 4, 2) := by decide +kernel
theorem dX12_opens_40 : decode cX12_opens 40 = .ok (.iconst 0, 1) := by decide +kernel
theorem dX12_opens_41 : decode cX12_opens 41 = .ok (.istore 5, 2) := by decide +kernel
theorem dX12_opens_43 : decode cX12_opens 43 = .ok (.iload 5, 2) := by decide +kernel
theorem dX12_opens_45 : decode cX12_opens 45 = .ok (.aload_n 0, 1) := by decide +kernel
theorem dX12_opens_46 : decode cX12_opens 46 = .ok (.getfield 55, 3) := by decide +kernel
theorem dX12_opens_49 : decode cX12_opens 49 = .ok (.iload_n 1, 1) := by decide +kernel
theorem dX12_opens_50 : decode cX12_opens 50 = .ok (.iaload, 1) := by decide +kernel
theorem dX12_opens_51 : decode cX12_opens 51 = .ok (.if_icmp .ge 90, 3) := by decide +kernel
theorem dX12_opens_54 : decode cX12_opens 54 = .ok (.aload_n 0, 1) := by decide +kernel
theorem dX12_opens_55 : decode cX12_opens 55 = .ok (.iconst 5, 1) := by decide +kernel
theorem dX12_opens_56 : decode cX12_opens 56 = .ok (.iload_n 1, 1) := by decide +kernel
theorem dX12_opens_57 : decode cX12_opens 57 = .ok (.imul, 1) := by decide +kernel
theorem dX12_opens_58 : decode cX12_opens 58 = .ok (.iload 5, 2) := by decide +kernel
theorem dX12_opens_60 : decode cX12_opens 60 = .ok (.iadd, 1) := by decide +kernel
theorem dX12_opens_61 : decode cX12_opens 61 = .ok (.invokevirtual 201, 3) := by decide +kernel
theorem dX12_opens_64 : decode cX12_opens 64 = .ok (.ifCond .eq 42, 3) := by decide +kernel
theorem dX12_opens_67 : decode cX12_opens 67 = .ok (.iload 4, 2) := by decide +kernel
theorem dX12_opens_69 : decode cX12_opens 69 = .ok (.aload_n 0, 1) := by decide +kernel
theorem dX12_opens_70 : decode cX12_opens 70 = .ok (.getfield 59, 3) := by decide +kernel
theorem dX12_opens_73 : decode cX12_opens 73 = .ok (.iconst 5, 1) := by decide +kernel
theorem dX12_opens_74 : decode cX12_opens 74 = .ok (.iload_n 1, 1) := by decide +kernel
theorem dX12_opens_75 : decode cX12_opens 75 = .ok (.imul, 1) := by decide +kernel
theorem dX12_opens_76 : decode cX12_opens 76 = .ok (.iload 5, 2) := by decide +kernel
theorem dX12_opens_78 : decode cX12_opens 78 = .ok (.iadd, 1) := by decide +kernel
theorem dX12_opens_79 : decode cX12_opens 79 = .ok (.laload, 1) := by decide +kernel
theorem dX12_opens_80 : decode cX12_opens 80 = .ok (.aload_n 0, 1) := by decide +kernel
theorem dX12_opens_81 : decode cX12_opens 81 = .ok (.getfield 59, 3) := by decide +kernel
theorem dX12_opens_84 : decode cX12_opens 84 = .ok (.iconst 5, 1) := by decide +kernel
theorem dX12_opens_85 : decode cX12_opens 85 = .ok (.iload_n 2, 1) := by decide +kernel
theorem dX12_opens_86 : decode cX12_opens 86 = .ok (.imul, 1) := by decide +kernel
theorem dX12_opens_87 : decode cX12_opens 87 = .ok (.iload 5, 2) := by decide +kernel
theorem dX12_opens_89 : decode cX12_opens 89 = .ok (.iadd, 1) := by decide +kernel
theorem dX12_opens_90 : decode cX12_opens 90 = .ok (.laload, 1) := by decide +kernel
theorem dX12_opens_91 : decode cX12_opens 91 = .ok (.lcmp, 1) := by decide +kernel
theorem dX12_opens_92 : decode cX12_opens 92 = .ok (.ifCond .ne 7, 3) := by decide +kernel
theorem dX12_opens_95 : decode cX12_opens 95 = .ok (.iconst 1, 1) := by decide +kernel
theorem dX12_opens_96 : decode cX12_opens 96 = .ok (.goto 4, 3) := by decide +kernel
theorem dX12_opens_99 : decode cX12_opens 99 = .ok (.iconst 0, 1) := by decide +kernel
theorem dX12_opens_100 : decode cX12_opens 100 = .ok (.iand, 1) := by decide +kernel
theorem dX12_opens_101 : decode cX12_opens 101 = .ok (.istore 4, 2) := by decide +kernel
theorem dX12_opens_103 : decode cX12_opens 103 = .ok (.goto 32, 3) := by decide +kernel
theorem dX12_opens_106 : decode cX12_opens 106 = .ok (.aload_n 0, 1) := by decide +kernel
theorem dX12_opens_107 : decode cX12_opens 107 = .ok (.aload_n 0, 1) := by decide +kernel
theorem dX12_opens_108 : decode cX12_opens 108 = .ok (.getfield 63, 3) := by decide +kernel
theorem dX12_opens_111 : decode cX12_opens 111 = .ok (.iconst 5, 1) := by decide +kernel
theorem dX12_opens_112 : decode cX12_opens 112 = .ok (.iload_n 1, 1) := by decide +kernel
theorem dX12_opens_113 : decode cX12_opens 113 = .ok (.imul, 1) := by decide +kernel
theorem dX12_opens_114 : decode cX12_opens 114 = .ok (.iload 5, 2) := by decide +kernel
theorem dX12_opens_116 : decode cX12_opens 116 = .ok (.iadd, 1) := by decide +kernel
theorem dX12_opens_117 : decode cX12_opens 117 = .ok (.iaload, 1) := by decide +kernel
theorem dX12_opens_118 : decode cX12_opens 118 = .ok (.aload_n 0, 1) := by decide +kernel
theorem dX12_opens_119 : decode cX12_opens 119 = .ok (.getfield 63, 3) := by decide +kernel
theorem dX12_opens_122 : decode cX12_opens 122 = .ok (.iconst 5, 1) := by decide +kernel
theorem dX12_opens_123 : decode cX12_opens 123 = .ok (.iload_n 2, 1) := by decide +kernel
theorem dX12_opens_124 : decode cX12_opens 124 = .ok (.imul, 1) := by decide +kernel
theorem dX12_opens_125 : decode cX12_opens 125 = .ok (.iload 5, 2) := by decide +kernel
theorem dX12_opens_127 : decode cX12_opens 127 = .ok (.iadd, 1) := by decide +kernel
theorem dX12_opens_128 : decode cX12_opens 128 = .ok (.iaload, 1) := by decide +kernel
theorem dX12_opens_129 : decode cX12_opens 129 = .ok (.iload_n 3, 1) := by decide +kernel
theorem dX12_opens_130 : decode cX12_opens 130 = .ok (.iconst 1, 1) := by decide +kernel
theorem dX12_opens_131 : decode cX12_opens 131 = .ok (.iadd, 1) := by decide +kernel
theorem dX12_opens_132 : decode cX12_opens 132 = .ok (.invokevirtual 209, 3) := by decide +kernel
theorem dX12_opens_135 : decode cX12_opens 135 = .ok (.iinc 5 1, 3) := by decide +kernel
theorem dX12_opens_138 : decode cX12_opens 138 = .ok (.goto (-95), 3) := by decide +kernel
theorem dX12_opens_141 : decode cX12_opens 141 = .ok (.iload 4, 2) := by decide +kernel
theorem dX12_opens_143 : decode cX12_opens 143 = .ok (.ireturn, 1) := by decide +kernel
theorem dX12_like_0 : decode cX12_like 0 = .ok (.iload_n 1, 1) := by decide +kernel
theorem dX12_like_1 : decode cX12_like 1 = .ok (.invokestatic 148, 3) := by decide +kernel
theorem dX12_like_4 : decode cX12_like 4 = .ok (.ifCond .eq 10, 3) := by decide +kernel
theorem dX12_like_7 : decode cX12_like 7 = .ok (.iload_n 2, 1) := by decide +kernel
theorem dX12_like_8 : decode cX12_like 8 = .ok (.invokestatic 148, 3) := by decide +kernel
theorem dX12_like_11 : decode cX12_like 11 = .ok (.ifCond .ne 5, 3) := by decide +kernel
theorem dX12_like_14 : decode cX12_like 14 = .ok (.iconst (-1), 1) := by decide +kernel
theorem dX12_like_15 : decode cX12_like 15 = .ok (.ireturn, 1) := by decide +kernel
theorem dX12_like_16 : decode cX12_like 16 = .ok (.aload_n 0, 1) := by decide +kernel
theorem dX12_like_17 : decode cX12_like 17 = .ok (.iconst 0, 1) := by decide +kernel
theorem dX12_like_18 : decode cX12_like 18 = .ok (.putfield 206, 3) := by decide +kernel
theorem dX12_like_21 : decode cX12_like 21 = .ok (.aload_n 0, 1) := by decide +kernel
theorem dX12_like_22 : decode cX12_like 22 = .ok (.aload_n 0, 1) := by decide +kernel
theorem dX12_like_23 : decode cX12_like 23 = .ok (.getfield 66, 3) := by decide +kernel
theorem dX12_like_26 : decode cX12_like 26 = .ok (.iload_n 1, 1) := by decide +kernel
theorem dX12_like_27 : decode cX12_like 27 = .ok (.iaload, 1) := by decide +kernel
theorem dX12_like_28 : decode cX12_like 28 = .ok (.aload_n 0, 1) := by decide +kernel
theorem dX12_like_29 : decode cX12_like 29 = .ok (.getfield 66, 3) := by decide +kernel
theorem dX12_like_32 : decode cX12_like 32 = .ok (.iload_n 2, 1) := by decide +kernel
theorem dX12_like_33 : decode cX12_like 33 = .ok (.iaload, 1) := by decide +kernel
theorem dX12_like_34 : decode cX12_like 34 = .ok (.iconst 0, 1) := by decide +kernel
theorem dX12_like_35 : decode cX12_like 35 = .ok (.invokevirtual 209, 3) := by decide +kernel
theorem dX12_like_38 : decode cX12_like 38 = .ok (.iconst 1, 1) := by decide +kernel
theorem dX12_like_39 : decode cX12_like 39 = .ok (.istore_n 3, 1) := by decide +kernel
theorem dX12_like_40 : decode cX12_like 40 = .ok (.aload_n 0, 1) := by decide +kernel
theorem dX12_like_41 : decode cX12_like 41 = .ok (.getfield 206, 3) := by decide +kernel
theorem dX12_like_44 : decode cX12_like 44 = .ok (.ifCond .le 142, 3) := by decide +kernel
theorem dX12_like_47 : decode cX12_like 47 = .ok (.iload_n 3, 1) := by decide +kernel
theorem dX12_like_48 : decode cX12_like 48 = .ok (.ifCond .eq 138, 3) := by decide +kernel
theorem dX12_like_51 : decode cX12_like 51 = .ok (.aload_n 0, 1) := by decide +kernel
theorem dX12_like_52 : decode cX12_like 52 = .ok (.dup, 1) := by decide +kernel
theorem dX12_like_53 : decode cX12_like 53 = .ok (.getfield 206, 3) := by decide +kernel
theorem dX12_like_56 : decode cX12_like 56 = .ok (.iconst 1, 1) := by decide +kernel
theorem dX12_like_57 : decode cX12_like 57 = .ok (.isub, 1) := by decide +kernel
theorem dX12_like_58 : decode cX12_like 58 = .ok (.putfield 206, 3) := by decide +kernel
theorem dX12_like_61 : decode cX12_like 61 = .ok (.aload_n 0, 1) := by decide +kernel
theorem dX12_like_62 : decode cX12_like 62 = .ok (.getfield 88, 3) := by decide +kernel
theorem dX12_like_65 : decode cX12_like 65 = .ok (.aload_n 0, 1) := by decide +kernel
theorem dX12_like_66 : decode cX12_like 66 = .ok (.getfield 206, 3) := by decide +kernel
theorem dX12_like_69 : decode cX12_like 69 = .ok (.iaload, 1) := by decide +kernel
theorem dX12_like_70 : decode cX12_like 70 = .ok (.istore 4, 2) := by decide +kernel
theorem dX12_like_72 : decode cX12_like 72 = .ok (.aload_n 0, 1) := by decide +kernel
theorem dX12_like_73 : decode cX12_like 73 = .ok (.getfield 91, 3) := by decide +kernel
theorem dX12_like_76 : decode cX12_like 76 = .ok (.aload_n 0, 1) := by decide +kernel
theorem dX12_like_77 : decode cX12_like 77 = .ok (.getfield 206, 3) := by decide +kernel
theorem dX12_like_80 : decode cX12_like 80 = .ok (.iaload, 1) := by decide +kernel
theorem dX12_like_81 : decode cX12_like 81 = .ok (.istore 5, 2) := by decide +kernel
theorem dX12_like_83 : decode cX12_like 83 = .ok (.iload 4, 2) := by decide +kernel
theorem dX12_like_85 : decode cX12_like 85 = .ok (.iload 5, 2) := by decide +kernel
theorem dX12_like_87 : decode cX12_like 87 = .ok (.if_icmp .eq 96, 3) := by decide +kernel
theorem dX12_like_90 : decode cX12_like 90 = .ok (.aload_n 0, 1) := by decide +kernel
theorem dX12_like_91 : decode cX12_like 91 = .ok (.iload 4, 2) := by decide +kernel
theorem dX12_like_93 : decode cX12_like 93 = .ok (.invokevirtual 160, 3) := by decide +kernel
theorem dX12_like_96 : decode cX12_like 96 = .ok (.istore 6, 2) := by decide +kernel
theorem dX12_like_98 : decode cX12_like 98 = .ok (.iload 6, 2) := by decide +kernel
theorem dX12_like_100 : decode cX12_like 100 = .ok (.aload_n 0, 1) := by decide +kernel
theorem dX12_like_101 : decode cX12_like 101 = .ok (.iload 5, 2) := by decide +kernel
theorem dX12_like_103 : decode cX12_like 103 = .ok (.invokevirtual 160, 3) := by decide +kernel
theorem dX12_like_106 : decode cX12_like 106 = .ok (.if_icmp .ne 13, 3) := by decide +kernel
theorem dX12_like_109 : decode cX12_like 109 = .ok (.iload 6, 2) := by decide +kernel
theorem dX12_like_111 : decode cX12_like 111 = .ok (.iconst 2, 1) := by decide +kernel
theorem dX12_like_112 : decode cX12_like 112 = .ok (.if_icmp .le 7, 3) := by decide +kernel
theorem dX12_like_115 : decode cX12_like 115 = .ok (.iconst 1, 1) := by decide +kernel
theorem dX12_like_116 : decode cX12_like 116 = .ok (.goto 4, 3) := by decide +kernel
theorem dX12_like_119 : decode cX12_like 119 = .ok (.iconst 0, 1) := by decide +kernel
theorem dX12_like_120 : decode cX12_like 120 = .ok (.istore_n 3, 1) := by decide +kernel
theorem dX12_like_121 : decode cX12_like 121 = .ok (.iload_n 3, 1) := by decide +kernel
theorem dX12_like_122 : decode cX12_like 122 = .ok (.ifCond .eq 59, 3) := by decide +kernel
theorem dX12_like_125 : decode cX12_like 125 = .ok (.iload 6, 2) := by decide +kernel
theorem dX12_like_127 : decode cX12_like 127 = .ok (.iconst 3, 1) := by decide +kernel
theorem dX12_like_128 : decode cX12_like 128 = .ok (.if_icmp .ne 23, 3) := by decide +kernel
theorem dX12_like_131 : decode cX12_like 131 = .ok (.aload_n 0, 1) := by decide +kernel
theorem dX12_like_132 : decode cX12_like 132 = .ok (.iload 4, 2) := by decide +kernel
theorem dX12_like_134 : decode cX12_like 134 = .ok (.bipush 100, 2) := by decide +kernel
theorem dX12_like_136 : decode cX12_like 136 = .ok (.isub, 1) := by decide +kernel
theorem dX12_like_137 : decode cX12_like 137 = .ok (.iload 5, 2) := by decide +kernel
theorem dX12_like_139 : decode cX12_like 139 = .ok (.bipush 100, 2) := by decide +kernel
theorem dX12_like_141 : decode cX12_like 141 = .ok (.isub, 1) := by decide +kernel
theorem dX12_like_142 : decode cX12_like 142 = .ok (.invokevirtual 213, 3) := by decide +kernel
theorem dX12_like_145 : decode cX12_like 145 = .ok (.ifCond .eq 36, 3) := by decide +kernel
theorem dX12_like_148 : decode cX12_like 148 = .ok (.goto 29, 3) := by decide +kernel
theorem dX12_like_151 : decode cX12_like 151 = .ok (.aload_n 0, 1) := by decide +kernel
theorem dX12_like_152 : decode cX12_like 152 = .ok (.iload 4, 2) := by decide +kernel
theorem dX12_like_154 : decode cX12_like 154 = .ok (.ldc 147, 2) := by decide +kernel
theorem dX12_like_156 : decode cX12_like 156 = .ok (.isub, 1) := by decide +kernel
theorem dX12_like_157 : decode cX12_like 157 = .ok (.iload 5, 2) := by decide +kernel
theorem dX12_like_159 : decode cX12_like 159 = .ok (.ldc 147, 2) := by decide +kernel
theorem dX12_like_161 : decode cX12_like 161 = .ok (.isub, 1) := by decide +kernel
theorem dX12_like_162 : decode cX12_like 162 = .ok (.aload_n 0, 1) := by decide +kernel
theorem dX12_like_163 : decode cX12_like 163 = .ok (.getfield 94, 3) := by decide +kernel
theorem dX12_like_166 : decode cX12_like 166 = .ok (.aload_n 0, 1) := by decide +kernel
theorem dX12_like_167 : decode cX12_like 167 = .ok (.getfield 206, 3) := by decide +kernel
theorem dX12_like_170 : decode cX12_like 170 = .ok (.iaload, 1) := by decide +kernel
theorem dX12_like_171 : decode cX12_like 171 = .ok (.invokevirtual 217, 3) := by decide +kernel
theorem dX12_like_174 : decode cX12_like 174 = .ok (.ifCond .eq 7, 3) := by decide +kernel
theorem dX12_like_177 : decode cX12_like 177 = .ok (.iconst 1, 1) := by decide +kernel
theorem dX12_like_178 : decode cX12_like 178 = .ok (.goto 4, 3) := by decide +kernel
theorem dX12_like_181 : decode cX12_like 181 = .ok (.iconst 0, 1) := by decide +kernel
theorem dX12_like_182 : decode cX12_like 182 = .ok (.istore_n 3, 1) := by decide +kernel
theorem dX12_like_183 : decode cX12_like 183 = .ok (.goto (-143), 3) := by decide +kernel
theorem dX12_like_186 : decode cX12_like 186 = .ok (.iload_n 3, 1) := by decide +kernel
theorem dX12_like_187 : decode cX12_like 187 = .ok (.ifCond .eq 7, 3) := by decide +kernel
theorem dX12_like_190 : decode cX12_like 190 = .ok (.iconst 1, 1) := by decide +kernel
theorem dX12_like_191 : decode cX12_like 191 = .ok (.goto 4, 3) := by decide +kernel
theorem dX12_like_194 : decode cX12_like 194 = .ok (.iconst 0, 1) := by decide +kernel
theorem dX12_like_195 : decode cX12_like 195 = .ok (.ireturn, 1) := by decide +kernel
theorem dX12_put_0 : decode cX12_put 0 = .ok (.aload_n 0, 1) := by decide +kernel
theorem dX12_put_1 : decode cX12_put 1 = .ok (.getfield 220, 3) := by decide +kernel
theorem dX12_put_4 : decode cX12_put 4 = .ok (.sipush 250, 3) := by decide +kernel
theorem dX12_put_7 : decode cX12_put 7 = .ok (.if_icmp .ge 13, 3) := by decide +kernel
theorem dX12_put_10 : decode cX12_put 10 = .ok (.aload_n 0, 1) := by decide +kernel
theorem dX12_put_11 : decode cX12_put 11 = .ok (.getfield 97, 3) := by decide +kernel
theorem dX12_put_14 : decode cX12_put 14 = .ok (.aload_n 0, 1) := by decide +kernel
theorem dX12_put_15 : decode cX12_put 15 = .ok (.getfield 220, 3) := by decide +kernel
theorem dX12_put_18 : decode cX12_put 18 = .ok (.lload_n 1, 1) := by decide +kernel
theorem dX12_put_19 : decode cX12_put 19 = .ok (.lastore, 1) := by decide +kernel
theorem dX12_put_20 : decode cX12_put 20 = .ok (.aload_n 0, 1) := by decide +kernel
theorem dX12_put_21 : decode cX12_put 21 = .ok (.dup, 1) := by decide +kernel
theorem dX12_put_22 : decode cX12_put 22 = .ok (.getfield 220, 3) := by decide +kernel
theorem dX12_put_25 : decode cX12_put 25 = .ok (.iconst 1, 1) := by decide +kernel
theorem dX12_put_26 : decode cX12_put 26 = .ok (.iadd, 1) := by decide +kernel
theorem dX12_put_27 : decode cX12_put 27 = .ok (.putfield 220, 3) := by decide +kernel
theorem dX12_put_30 : decode cX12_put 30 = .ok (.return_, 1) := by decide +kernel
theorem dX12_begins_0 : decode cX12_begins 0 = .ok (.aload_n 0, 1) := by decide +kernel
theorem dX12_begins_1 : decode cX12_begins 1 = .ok (.getfield 100, 3) := by decide +kernel
theorem dX12_begins_4 : decode cX12_begins 4 = .ok (.iload_n 1, 1) := by decide +kernel
theorem dX12_begins_5 : decode cX12_begins 5 = .ok (.iload_n 2, 1) := by decide +kernel
theorem dX12_begins_6 : decode cX12_begins 6 = .ok (.iastore, 1) := by decide +kernel
theorem dX12_begins_7 : decode cX12_begins 7 = .ok (.aload_n 0, 1) := by decide +kernel
theorem dX12_begins_8 : decode cX12_begins 8 = .ok (.getfield 103, 3) := by decide +kernel
theorem dX12_begins_11 : decode cX12_begins 11 = .ok (.iload_n 1, 1) := by decide +kernel
theorem dX12_begins_12 : decode cX12_begins 12 = .ok (.iconst 0, 1) := by decide +kernel
theorem dX12_begins_13 : decode cX12_begins 13 = .ok (.iastore, 1) := by decide +kernel
theorem dX12_begins_14 : decode cX12_begins 14 = .ok (.aload_n 0, 1) := by decide +kernel
theorem dX12_begins_15 : decode cX12_begins 15 = .ok (.iconst 2, 1) := by decide +kernel
theorem dX12_begins_16 : decode cX12_begins 16 = .ok (.aload_n 0, 1) := by decide +kernel
theorem dX12_begins_17 : decode cX12_begins 17 = .ok (.getfield 52, 3) := by decide +kernel
theorem dX12_begins_20 : decode cX12_begins 20 = .ok (.iload_n 2, 1) := by decide +kernel
theorem dX12_begins_21 : decode cX12_begins 21 = .ok (.iaload, 1) := by decide +kernel
theorem dX12_begins_22 : decode cX12_begins 22 = .ok (.iconst 3, 1) := by decide +kernel
theorem dX12_begins_23 : decode cX12_begins 23 = .ok (.idiv, 1) := by decide +kernel
theorem dX12_begins_24 : decode cX12_begins 24 = .ok (.iadd, 1) := by decide +kernel
theorem dX12_begins_25 : decode cX12_begins 25 = .ok (.i2l, 1) := by decide +kernel
theorem dX12_begins_26 : decode cX12_begins 26 = .ok (.invokevirtual 223, 3) := by decide +kernel
theorem dX12_begins_29 : decode cX12_begins 29 = .ok (.aload_n 0, 1) := by decide +kernel
theorem dX12_begins_30 : decode cX12_begins 30 = .ok (.aload_n 0, 1) := by decide +kernel
theorem dX12_begins_31 : decode cX12_begins 31 = .ok (.getfield 55, 3) := by decide +kernel
theorem dX12_begins_34 : decode cX12_begins 34 = .ok (.iload_n 2, 1) := by decide +kernel
theorem dX12_begins_35 : decode cX12_begins 35 = .ok (.iaload, 1) := by decide +kernel
theorem dX12_begins_36 : decode cX12_begins 36 = .ok (.i2l, 1) := by decide +kernel
theorem dX12_begins_37 : decode cX12_begins 37 = .ok (.invokevirtual 223, 3) := by decide +kernel
theorem dX12_begins_40 : decode cX12_begins 40 = .ok (.iload_n 1, 1) := by decide +kernel
theorem dX12_begins_41 : decode cX12_begins 41 = .ok (.iconst 1, 1) := by decide +kernel
theorem dX12_begins_42 : decode cX12_begins 42 = .ok (.iadd, 1) := by decide +kernel
theorem dX12_begins_43 : decode cX12_begins 43 = .ok (.ireturn, 1) := by decide +kernel
theorem dX12_writePart_0 : decode cX12_writePart 0 = .ok (.aload_n 0, 1) := by decide +kernel
theorem dX12_writePart_1 : decode cX12_writePart 1 = .ok (.getfield 100, 3) := by decide +kernel
theorem dX12_writePart_4 : decode cX12_writePart 4 = .ok (.iload_n 1, 1) := by decide +kernel
theorem dX12_writePart_5 : decode cX12_writePart 5 = .ok (.iconst 1, 1) := by decide +kernel
theorem dX12_writePart_6 : decode cX12_writePart 6 = .ok (.isub, 1) := by decide +kernel
theorem dX12_writePart_7 : decode cX12_writePart 7 = .ok (.iaload, 1) := by decide +kernel
theorem dX12_writePart_8 : decode cX12_writePart 8 = .ok (.istore_n 2, 1) := by decide +kernel
theorem dX12_writePart_9 : decode cX12_writePart 9 = .ok (.aload_n 0, 1) := by decide +kernel
theorem dX12_writePart_10 : decode cX12_writePart 10 = .ok (.getfield 103, 3) := by decide +kernel
theorem dX12_writePart_13 : decode cX12_writePart 13 = .ok (.iload_n 1, 1) := by decide +kernel
theorem dX12_writePart_14 : decode cX12_writePart 14 = .ok (.iconst 1, 1) := by decide +kernel
theorem dX12_writePart_15 : decode cX12_writePart 15 = .ok (.isub, 1) := by decide +kernel
theorem dX12_writePart_16 : decode cX12_writePart 16 = .ok (.iaload, 1) := by decide +kernel
theorem dX12_writePart_17 : decode cX12_writePart 17 = .ok (.istore_n 3, 1) := by decide +kernel
theorem dX12_writePart_18 : decode cX12_writePart 18 = .ok (.aload_n 0, 1) := by decide +kernel
theorem dX12_writePart_19 : decode cX12_writePart 19 = .ok (.getfield 63, 3) := by decide +kernel
theorem dX12_writePart_22 : decode cX12_writePart 22 = .ok (.iconst 5, 1) := by decide +kernel
theorem dX12_writePart_23 : decode cX12_writePart 23 = .ok (.iload_n 2, 1) := by decide +kernel
theorem dX12_writePart_24 : decode cX12_writePart 24 = .ok (.imul, 1) := by decide +kernel
theorem dX12_writePart_25 : decode cX12_writePart 25 = .ok (.iload_n 3, 1) := by decide +kernel
theorem dX12_writePart_26 : decode cX12_writePart 26 = .ok (.iadd, 1) := by decide +kernel
theorem dX12_writePart_27 : decode cX12_writePart 27 = .ok (.iaload, 1) := by decide +kernel
theorem dX12_writePart_28 : decode cX12_writePart 28 = .ok (.istore 4, 2) := by decide +kernel
theorem dX12_writePart_30 : decode cX12_writePart 30 = .ok (.aload_n 0, 1) := by decide +kernel
theorem dX12_writePart_31 : decode cX12_writePart 31 = .ok (.getfield 26, 3) := by decide +kernel
theorem dX12_writePart_34 : decode cX12_writePart 34 = .ok (.iconst 5, 1) := by decide +kernel
theorem dX12_writePart_35 : decode cX12_writePart 35 = .ok (.aload_n 0, 1) := by decide +kernel
theorem dX12_writePart_36 : decode cX12_writePart 36 = .ok (.getfield 52, 3) := by decide +kernel
theorem dX12_writePart_39 : decode cX12_writePart 39 = .ok (.iload_n 2, 1) := by decide +kernel
theorem dX12_writePart_40 : decode cX12_writePart 40 = .ok (.iaload, 1) := by decide +kernel
theorem dX12_writePart_41 : decode cX12_writePart 41 = .ok (.imul, 1) := by decide +kernel
theorem dX12_writePart_42 : decode cX12_writePart 42 = .ok (.iload_n 3, 1) := by decide +kernel
theorem dX12_writePart_43 : decode cX12_writePart 43 = .ok (.iadd, 1) := by decide +kernel
theorem dX12_writePart_44 : decode cX12_writePart 44 = .ok (.iaload, 1) := by decide +kernel
theorem dX12_writePart_45 : decode cX12_writePart 45 = .ok (.istore 5, 2) := by decide +kernel
theorem dX12_writePart_47 : decode cX12_writePart 47 = .ok (.aload_n 0, 1) := by decide +kernel
theorem dX12_writePart_48 : decode cX12_writePart 48 = .ok (.getfield 103, 3) := by decide +kernel
theorem dX12_writePart_51 : decode cX12_writePart 51 = .ok (.iload_n 1, 1) := by decide +kernel
theorem dX12_writePart_52 : decode cX12_writePart 52 = .ok (.iconst 1, 1) := by decide +kernel
theorem dX12_writePart_53 : decode cX12_writePart 53 = .ok (.isub, 1) := by decide +kernel
theorem dX12_writePart_54 : decode cX12_writePart 54 = .ok (.dup2, 1) := by decide +kernel
theorem dX12_writePart_55 : decode cX12_writePart 55 = .ok (.iaload, 1) := by decide +kernel
theorem dX12_writePart_56 : decode cX12_writePart 56 = .ok (.iconst 1, 1) := by decide +kernel
theorem dX12_writePart_57 : decode cX12_writePart 57 = .ok (.iadd, 1) := by decide +kernel
theorem dX12_writePart_58 : decode cX12_writePart 58 = .ok (.iastore, 1) := by decide +kernel
theorem dX12_writePart_59 : decode cX12_writePart 59 = .ok (.aload_n 0, 1) := by decide +kernel
theorem dX12_writePart_60 : decode cX12_writePart 60 = .ok (.aload_n 0, 1) := by decide +kernel
theorem dX12_writePart_61 : decode cX12_writePart 61 = .ok (.getfield 23, 3) := by decide +kernel
theorem dX12_writePart_64 : decode cX12_writePart 64 = .ok (.iconst 5, 1) := by decide +kernel
theorem dX12_writePart_65 : decode cX12_writePart 65 = .ok (.aload_n 0, 1) := by decide +kernel
theorem dX12_writePart_66 : decode cX12_writePart 66 = .ok (.getfield 52, 3) := by decide +kernel
theorem dX12_writePart_69 : decode cX12_writePart 69 = .ok (.iload_n 2, 1) := by decide +kernel
theorem dX12_writePart_70 : decode cX12_writePart 70 = .ok (.iaload, 1) := by decide +kernel
theorem dX12_writePart_71 : decode cX12_writePart 71 = .ok (.imul, 1) := by decide +kernel
theorem dX12_writePart_72 : decode cX12_writePart 72 = .ok (.iload_n 3, 1) := by decide +kernel
theorem dX12_writePart_73 : decode cX12_writePart 73 = .ok (.iadd, 1) := by decide +kernel
theorem dX12_writePart_74 : decode cX12_writePart 74 = .ok (.iaload, 1) := by decide +kernel
theorem dX12_writePart_75 : decode cX12_writePart 75 = .ok (.i2l, 1) := by decide +kernel
theorem dX12_writePart_76 : decode cX12_writePart 76 = .ok (.invokevirtual 223, 3) := by decide +kernel
theorem dX12_writePart_79 : decode cX12_writePart 79 = .ok (.aload_n 0, 1) := by decide +kernel
theorem dX12_writePart_80 : decode cX12_writePart 80 = .ok (.iload 5, 2) := by decide +kernel
theorem dX12_writePart_82 : decode cX12_writePart 82 = .ok (.i2l, 1) := by decide +kernel
theorem dX12_writePart_83 : decode cX12_writePart 83 = .ok (.invokevirtual 223, 3) := by decide +kernel
theorem dX12_writePart_86 : decode cX12_writePart 86 = .ok (.iload 5, 2) := by decide +kernel
theorem dX12_writePart_88 : decode cX12_writePart 88 = .ok (.iconst 2, 1) := by decide +kernel
theorem dX12_writePart_89 : decode cX12_writePart 89 = .ok (.if_icmp .ge 20, 3) := by decide +kernel
theorem dX12_writePart_92 : decode cX12_writePart 92 = .ok (.aload_n 0, 1) := by decide +kernel
theorem dX12_writePart_93 : decode cX12_writePart 93 = .ok (.aload_n 0, 1) := by decide +kernel
theorem dX12_writePart_94 : decode cX12_writePart 94 = .ok (.getfield 59, 3) := by decide +kernel
theorem dX12_writePart_97 : decode cX12_writePart 97 = .ok (.iconst 5, 1) := by decide +kernel
theorem dX12_writePart_98 : decode cX12_writePart 98 = .ok (.iload_n 2, 1) := by decide +kernel
theorem dX12_writePart_99 : decode cX12_writePart 99 = .ok (.imul, 1) := by decide +kernel
theorem dX12_writePart_100 : decode cX12_writePart 100 = .ok (.iload_n 3, 1) := by decide +kernel
theorem dX12_writePart_101 : decode cX12_writePart 101 = .ok (.iadd, 1) := by decide +kernel
theorem dX12_writePart_102 : decode cX12_writePart 102 = .ok (.laload, 1) := by decide +kernel
theorem dX12_writePart_103 : decode cX12_writePart 103 = .ok (.invokevirtual 223, 3) := by decide +kernel
theorem dX12_writePart_106 : decode cX12_writePart 106 = .ok (.goto 159, 3) := by decide +kernel
theorem dX12_writePart_109 : decode cX12_writePart 109 = .ok (.iload 5, 2) := by decide +kernel
theorem dX12_writePart_111 : decode cX12_writePart 111 = .ok (.iconst 2, 1) := by decide +kernel
theorem dX12_writePart_112 : decode cX12_writePart 112 = .ok (.if_icmp .ne 30, 3) := by decide +kernel
theorem dX12_writePart_115 : decode cX12_writePart 115 = .ok (.aload_n 0, 1) := by decide +kernel
theorem dX12_writePart_116 : decode cX12_writePart 116 = .ok (.iload 4, 2) := by decide +kernel
theorem dX12_writePart_118 : decode cX12_writePart 118 = .ok (.iconst (-1), 1) := by decide +kernel
theorem dX12_writePart_119 : decode cX12_writePart 119 = .ok (.if_icmp .ne 9, 3) := by decide +kernel
theorem dX12_writePart_122 : decode cX12_writePart 122 = .ok (.ldc2_w 227, 3) := by decide +kernel
theorem dX12_writePart_125 : decode cX12_writePart 125 = .ok (.goto 11, 3) := by decide +kernel
theorem dX12_writePart_128 : decode cX12_writePart 128 = .ok (.aload_n 0, 1) := by decide +kernel
theorem dX12_writePart_129 : decode cX12_writePart 129 = .ok (.getfield 13, 3) := by decide +kernel
theorem dX12_writePart_132 : decode cX12_writePart 132 = .ok (.iload 4, 2) := by decide +kernel
theorem dX12_writePart_134 : decode cX12_writePart 134 = .ok (.iaload, 1) := by decide +kernel
theorem dX12_writePart_135 : decode cX12_writePart 135 = .ok (.i2l, 1) := by decide +kernel
theorem dX12_writePart_136 : decode cX12_writePart 136 = .ok (.invokevirtual 223, 3) := by decide +kernel
theorem dX12_writePart_139 : decode cX12_writePart 139 = .ok (.goto 126, 3) := by decide +kernel
theorem dX12_writePart_142 : decode cX12_writePart 142 = .ok (.iload 5, 2) := by decide +kernel
theorem dX12_writePart_144 : decode cX12_writePart 144 = .ok (.iconst 4, 1) := by decide +kernel
theorem dX12_writePart_145 : decode cX12_writePart 145 = .ok (.if_icmp .ne 84, 3) := by decide +kernel
theorem dX12_writePart_148 : decode cX12_writePart 148 = .ok (.aload_n 0, 1) := by decide +kernel
theorem dX12_writePart_149 : decode cX12_writePart 149 = .ok (.iload 4, 2) := by decide +kernel
theorem dX12_writePart_151 : decode cX12_writePart 151 = .ok (.iconst (-1), 1) := by decide +kernel
theorem dX12_writePart_152 : decode cX12_writePart 152 = .ok (.if_icmp .ne 9, 3) := by decide +kernel
theorem dX12_writePart_155 : decode cX12_writePart 155 = .ok (.ldc2_w 227, 3) := by decide +kernel
theorem dX12_writePart_158 : decode cX12_writePart 158 = .ok (.goto 14, 3) := by decide +kernel
theorem dX12_writePart_161 : decode cX12_writePart 161 = .ok (.aload_n 0, 1) := by decide +kernel
theorem dX12_writePart_162 : decode cX12_writePart 162 = .ok (.getfield 45, 3) := by decide +kernel
theorem dX12_writePart_165 : decode cX12_writePart 165 = .ok (.iload 4, 2) := by decide +kernel
theorem dX12_writePart_167 : decode cX12_writePart 167 = .ok (.bipush 100, 2) := by decide +kernel
theorem dX12_writePart_169 : decode cX12_writePart 169 = .ok (.isub, 1) := by decide +kernel
theorem dX12_writePart_170 : decode cX12_writePart 170 = .ok (.iaload, 1) := by decide +kernel
theorem dX12_writePart_171 : decode cX12_writePart 171 = .ok (.i2l, 1) := by decide +kernel
theorem dX12_writePart_172 : decode cX12_writePart 172 = .ok (.invokevirtual 223, 3) := by decide +kernel
theorem dX12_writePart_175 : decode cX12_writePart 175 = .ok (.iconst 0, 1) := by decide +kernel
theorem dX12_writePart_176 : decode cX12_writePart 176 = .ok (.istore 6, 2) := by decide +kernel
theorem dX12_writePart_178 : decode cX12_writePart 178 = .ok (.iload 4, 2) := by decide +kernel
theorem dX12_writePart_180 : decode cX12_writePart 180 = .ok (.iconst (-1), 1) := by decide +kernel
theorem dX12_writePart_181 : decode cX12_writePart 181 = .ok (.if_icmp .eq 45, 3) := by decide +kernel
theorem dX12_writePart_184 : decode cX12_writePart 184 = .ok (.iload 6, 2) := by decide +kernel
theorem dX12_writePart_186 : decode cX12_writePart 186 = .ok (.aload_n 0, 1) := by decide +kernel
theorem dX12_writePart_187 : decode cX12_writePart 187 = .ok (.getfield 45, 3) := by decide +kernel
theorem dX12_writePart_190 : decode cX12_writePart 190 = .ok (.iload 4, 2) := by decide +kernel
theorem dX12_writePart_192 : decode cX12_writePart 192 = .ok (.bipush 100, 2) := by decide +kernel
theorem dX12_writePart_194 : decode cX12_writePart 194 = .ok (.isub, 1) := by decide +kernel
theorem dX12_writePart_195 : decode cX12_writePart 195 = .ok (.iaload, 1) := by decide +kernel
theorem dX12_writePart_196 : decode cX12_writePart 196 = .ok (.if_icmp .ge 30, 3) := by decide +kernel
theorem dX12_writePart_199 : decode cX12_writePart 199 = .ok (.aload_n 0, 1) := by decide +kernel
theorem dX12_writePart_200 : decode cX12_writePart 200 = .ok (.aload_n 0, 1) := by decide +kernel
theorem dX12_writePart_201 : decode cX12_writePart 201 = .ok (.getfield 49, 3) := by decide +kernel
theorem dX12_writePart_204 : decode cX12_writePart 204 = .ok (.bipush 8, 2) := by decide +kernel
theorem dX12_writePart_206 : decode cX12_writePart 206 = .ok (.iload 4, 2) := by decide +kernel
theorem dX12_writePart_208 : decode cX12_writePart 208 = .ok (.bipush 100, 2) := by decide +kernel
theorem dX12_writePart_210 : decode cX12_writePart 210 = .ok (.isub, 1) := by decide +kernel
theorem dX12_writePart_211 : decode cX12_writePart 211 = .ok (.imul, 1) := by decide +kernel
theorem dX12_writePart_212 : decode cX12_writePart 212 = .ok (.iload 6, 2) := by decide +kernel
theorem dX12_writePart_214 : decode cX12_writePart 214 = .ok (.iadd, 1) := by decide +kernel
theorem dX12_writePart_215 : decode cX12_writePart 215 = .ok (.iaload, 1) := by decide +kernel
theorem dX12_writePart_216 : decode cX12_writePart 216 = .ok (.i2l, 1) := by decide +kernel
theorem dX12_writePart_217 : decode cX12_writePart 217 = .ok (.invokevirtual 223, 3) := by decide +kernel
theorem dX12_writePart_220 : decode cX12_writePart 220 = .ok (.iinc 6 1, 3) := by decide +kernel
theorem dX12_writePart_223 : decode cX12_writePart 223 = .ok (.goto (-45), 3) := by decide +kernel
theorem dX12_writePart_226 : decode cX12_writePart 226 = .ok (.goto 39, 3) := by decide +kernel
theorem dX12_writePart_229 : decode cX12_writePart 229 = .ok (.aload_n 0, 1) := by decide +kernel
theorem dX12_writePart_230 : decode cX12_writePart 230 = .ok (.iload 4, 2) := by decide +kernel
theorem dX12_writePart_232 : decode cX12_writePart 232 = .ok (.iconst (-1), 1) := by decide +kernel
theorem dX12_writePart_233 : decode cX12_writePart 233 = .ok (.if_icmp .ne 7, 3) := by decide +kernel
theorem dX12_writePart_236 : decode cX12_writePart 236 = .ok (.lconst 0, 1) := by decide +kernel
theorem dX12_writePart_237 : decode cX12_writePart 237 = .ok (.goto 4, 3) := by decide +kernel
theorem dX12_writePart_240 : decode cX12_writePart 240 = .ok (.lconst 1, 1) := by decide +kernel
theorem dX12_writePart_241 : decode cX12_writePart 241 = .ok (.invokevirtual 223, 3) := by decide +kernel
theorem dX12_writePart_244 : decode cX12_writePart 244 = .ok (.iload 4, 2) := by decide +kernel
theorem dX12_writePart_246 : decode cX12_writePart 246 = .ok (.iconst (-1), 1) := by decide +kernel
theorem dX12_writePart_247 : decode cX12_writePart 247 = .ok (.if_icmp .ne 7, 3) := by decide +kernel
theorem dX12_writePart_250 : decode cX12_writePart 250 = .ok (.iload_n 1, 1) := by decide +kernel
theorem dX12_writePart_251 : decode cX12_writePart 251 = .ok (.goto 13, 3) := by decide +kernel
theorem dX12_writePart_254 : decode cX12_writePart 254 = .ok (.aload_n 0, 1) := by decide +kernel
theorem dX12_writePart_255 : decode cX12_writePart 255 = .ok (.iload_n 1, 1) := by decide +kernel
theorem dX12_writePart_256 : decode cX12_writePart 256 = .ok (.iload 4, 2) := by decide +kernel
theorem dX12_writePart_258 : decode cX12_writePart 258 = .ok (.ldc 147, 2) := by decide +kernel
theorem dX12_writePart_260 : decode cX12_writePart 260 = .ok (.isub, 1) := by decide +kernel
theorem dX12_writePart_261 : decode cX12_writePart 261 = .ok (.invokevirtual 229, 3) := by decide +kernel
theorem dX12_writePart_264 : decode cX12_writePart 264 = .ok (.ireturn, 1) := by decide +kernel
theorem dX12_writePart_265 : decode cX12_writePart 265 = .ok (.iload_n 1, 1) := by decide +kernel
theorem dX12_writePart_266 : decode cX12_writePart 266 = .ok (.ireturn, 1) := by decide +kernel
theorem dX12_write_0 : decode cX12_write 0 = .ok (.iload_n 1, 1) := by decide +kernel
theorem dX12_write_1 : decode cX12_write 1 = .ok (.invokestatic 148, 3) := by decide +kernel
theorem dX12_write_4 : decode cX12_write 4 = .ok (.ifCond .eq 17, 3) := by decide +kernel
theorem dX12_write_7 : decode cX12_write 7 = .ok (.aload_n 0, 1) := by decide +kernel
theorem dX12_write_8 : decode cX12_write 8 = .ok (.aload_n 0, 1) := by decide +kernel
theorem dX12_write_9 : decode cX12_write 9 = .ok (.getfield 66, 3) := by decide +kernel
theorem dX12_write_12 : decode cX12_write 12 = .ok (.iload_n 1, 1) := by decide +kernel
theorem dX12_write_13 : decode cX12_write 13 = .ok (.iaload, 1) := by decide +kernel
theorem dX12_write_14 : decode cX12_write 14 = .ok (.invokevirtual 160, 3) := by decide +kernel
theorem dX12_write_17 : decode cX12_write 17 = .ok (.iconst 4, 1) := by decide +kernel
theorem dX12_write_18 : decode cX12_write 18 = .ok (.if_icmp .eq 5, 3) := by decide +kernel
theorem dX12_write_21 : decode cX12_write 21 = .ok (.iconst (-1), 1) := by decide +kernel
theorem dX12_write_22 : decode cX12_write 22 = .ok (.ireturn, 1) := by decide +kernel
theorem dX12_write_23 : decode cX12_write 23 = .ok (.aload_n 0, 1) := by decide +kernel
theorem dX12_write_24 : decode cX12_write 24 = .ok (.iconst 0, 1) := by decide +kernel
theorem dX12_write_25 : decode cX12_write 25 = .ok (.putfield 220, 3) := by decide +kernel
theorem dX12_write_28 : decode cX12_write 28 = .ok (.aload_n 0, 1) := by decide +kernel
theorem dX12_write_29 : decode cX12_write 29 = .ok (.iconst 0, 1) := by decide +kernel
theorem dX12_write_30 : decode cX12_write 30 = .ok (.aload_n 0, 1) := by decide +kernel
theorem dX12_write_31 : decode cX12_write 31 = .ok (.getfield 66, 3) := by decide +kernel
theorem dX12_write_34 : decode cX12_write 34 = .ok (.iload_n 1, 1) := by decide +kernel
theorem dX12_write_35 : decode cX12_write 35 = .ok (.iaload, 1) := by decide +kernel
theorem dX12_write_36 : decode cX12_write 36 = .ok (.ldc 147, 2) := by decide +kernel
theorem dX12_write_38 : decode cX12_write 38 = .ok (.isub, 1) := by decide +kernel
theorem dX12_write_39 : decode cX12_write 39 = .ok (.invokevirtual 229, 3) := by decide +kernel
theorem dX12_write_42 : decode cX12_write 42 = .ok (.istore_n 2, 1) := by decide +kernel
theorem dX12_write_43 : decode cX12_write 43 = .ok (.iload_n 2, 1) := by decide +kernel
theorem dX12_write_44 : decode cX12_write 44 = .ok (.ifCond .le 52, 3) := by decide +kernel
theorem dX12_write_47 : decode cX12_write 47 = .ok (.aload_n 0, 1) := by decide +kernel
theorem dX12_write_48 : decode cX12_write 48 = .ok (.getfield 220, 3) := by decide +kernel
theorem dX12_write_51 : decode cX12_write 51 = .ok (.sipush 250, 3) := by decide +kernel
theorem dX12_write_54 : decode cX12_write 54 = .ok (.if_icmp .gt 42, 3) := by decide +kernel
theorem dX12_write_57 : decode cX12_write 57 = .ok (.aload_n 0, 1) := by decide +kernel
theorem dX12_write_58 : decode cX12_write 58 = .ok (.getfield 103, 3) := by decide +kernel
theorem dX12_write_61 : decode cX12_write 61 = .ok (.iload_n 2, 1) := by decide +kernel
theorem dX12_write_62 : decode cX12_write 62 = .ok (.iconst 1, 1) := by decide +kernel
theorem dX12_write_63 : decode cX12_write 63 = .ok (.isub, 1) := by decide +kernel
theorem dX12_write_64 : decode cX12_write 64 = .ok (.iaload, 1) := by decide +kernel
theorem dX12_write_65 : decode cX12_write 65 = .ok (.aload_n 0, 1) := by decide +kernel
theorem dX12_write_66 : decode cX12_write 66 = .ok (.getfield 55, 3) := by decide +kernel
theorem dX12_write_69 : decode cX12_write 69 = .ok (.aload_n 0, 1) := by decide +kernel
theorem dX12_write_70 : decode cX12_write 70 = .ok (.getfield 100, 3) := by decide +kernel
theorem dX12_write_73 : decode cX12_write 73 = .ok (.iload_n 2, 1) := by decide +kernel
theorem dX12_write_74 : decode cX12_write 74 = .ok (.iconst 1, 1) := by decide +kernel
theorem dX12_write_75 : decode cX12_write 75 = .ok (.isub, 1) := by decide +kernel
theorem dX12_write_76 : decode cX12_write 76 = .ok (.iaload, 1) := by decide +kernel
theorem dX12_write_77 : decode cX12_write 77 = .ok (.iaload, 1) := by decide +kernel
theorem dX12_write_78 : decode cX12_write 78 = .ok (.if_icmp .ne 9, 3) := by decide +kernel
theorem dX12_write_81 : decode cX12_write 81 = .ok (.iinc 2 (-1), 3) := by decide +kernel
theorem dX12_write_84 : decode cX12_write 84 = .ok (.goto (-41), 3) := by decide +kernel
theorem dX12_write_87 : decode cX12_write 87 = .ok (.aload_n 0, 1) := by decide +kernel
theorem dX12_write_88 : decode cX12_write 88 = .ok (.iload_n 2, 1) := by decide +kernel
theorem dX12_write_89 : decode cX12_write 89 = .ok (.invokevirtual 232, 3) := by decide +kernel
theorem dX12_write_92 : decode cX12_write 92 = .ok (.istore_n 2, 1) := by decide +kernel
theorem dX12_write_93 : decode cX12_write 93 = .ok (.goto (-50), 3) := by decide +kernel
theorem dX12_write_96 : decode cX12_write 96 = .ok (.aload_n 0, 1) := by decide +kernel
theorem dX12_write_97 : decode cX12_write 97 = .ok (.getfield 220, 3) := by decide +kernel
theorem dX12_write_100 : decode cX12_write 100 = .ok (.sipush 250, 3) := by decide +kernel
theorem dX12_write_103 : decode cX12_write 103 = .ok (.if_icmp .le 6, 3) := by decide +kernel
theorem dX12_write_106 : decode cX12_write 106 = .ok (.bipush (-2), 2) := by decide +kernel
theorem dX12_write_108 : decode cX12_write 108 = .ok (.ireturn, 1) := by decide +kernel
theorem dX12_write_109 : decode cX12_write 109 = .ok (.aload_n 0, 1) := by decide +kernel
theorem dX12_write_110 : decode cX12_write 110 = .ok (.aload_n 0, 1) := by decide +kernel
theorem dX12_write_111 : decode cX12_write 111 = .ok (.getfield 220, 3) := by decide +kernel
theorem dX12_write_114 : decode cX12_write 114 = .ok (.putfield 235, 3) := by decide +kernel
theorem dX12_write_117 : decode cX12_write 117 = .ok (.iconst 0, 1) := by decide +kernel
theorem dX12_write_118 : decode cX12_write 118 = .ok (.istore_n 3, 1) := by decide +kernel
theorem dX12_write_119 : decode cX12_write 119 = .ok (.iload_n 3, 1) := by decide +kernel
theorem dX12_write_120 : decode cX12_write 120 = .ok (.aload_n 0, 1) := by decide +kernel
theorem dX12_write_121 : decode cX12_write 121 = .ok (.getfield 220, 3) := by decide +kernel
theorem dX12_write_124 : decode cX12_write 124 = .ok (.if_icmp .ge 21, 3) := by decide +kernel
theorem dX12_write_127 : decode cX12_write 127 = .ok (.aload_n 0, 1) := by decide +kernel
theorem dX12_write_128 : decode cX12_write 128 = .ok (.getfield 75, 3) := by decide +kernel
theorem dX12_write_131 : decode cX12_write 131 = .ok (.iload_n 3, 1) := by decide +kernel
theorem dX12_write_132 : decode cX12_write 132 = .ok (.aload_n 0, 1) := by decide +kernel
theorem dX12_write_133 : decode cX12_write 133 = .ok (.getfield 97, 3) := by decide +kernel
theorem dX12_write_136 : decode cX12_write 136 = .ok (.iload_n 3, 1) := by decide +kernel
theorem dX12_write_137 : decode cX12_write 137 = .ok (.laload, 1) := by decide +kernel
theorem dX12_write_138 : decode cX12_write 138 = .ok (.lastore, 1) := by decide +kernel
theorem dX12_write_139 : decode cX12_write 139 = .ok (.iinc 3 1, 3) := by decide +kernel
theorem dX12_write_142 : decode cX12_write 142 = .ok (.goto (-23), 3) := by decide +kernel
theorem dX12_write_145 : decode cX12_write 145 = .ok (.aload_n 0, 1) := by decide +kernel
theorem dX12_write_146 : decode cX12_write 146 = .ok (.getfield 235, 3) := by decide +kernel
theorem dX12_write_149 : decode cX12_write 149 = .ok (.ireturn, 1) := by decide +kernel
theorem dX12_leaf_0 : decode cX12_leaf 0 = .ok (.iload_n 1, 1) := by decide +kernel
theorem dX12_leaf_1 : decode cX12_leaf 1 = .ok (.i2l, 1) := by decide +kernel
theorem dX12_leaf_2 : decode cX12_leaf 2 = .ok (.lconst 0, 1) := by decide +kernel
theorem dX12_leaf_3 : decode cX12_leaf 3 = .ok (.aload_n 0, 1) := by decide +kernel
theorem dX12_leaf_4 : decode cX12_leaf 4 = .ok (.getfield 235, 3) := by decide +kernel
theorem dX12_leaf_7 : decode cX12_leaf 7 = .ok (.iconst 1, 1) := by decide +kernel
theorem dX12_leaf_8 : decode cX12_leaf 8 = .ok (.isub, 1) := by decide +kernel
theorem dX12_leaf_9 : decode cX12_leaf 9 = .ok (.i2l, 1) := by decide +kernel
theorem dX12_leaf_10 : decode cX12_leaf 10 = .ok (.invokestatic 117, 3) := by decide +kernel
theorem dX12_leaf_13 : decode cX12_leaf 13 = .ok (.istore_n 2, 1) := by decide +kernel
theorem dX12_leaf_14 : decode cX12_leaf 14 = .ok (.aload_n 0, 1) := by decide +kernel
theorem dX12_leaf_15 : decode cX12_leaf 15 = .ok (.iload_n 2, 1) := by decide +kernel
theorem dX12_leaf_16 : decode cX12_leaf 16 = .ok (.ifCond .eq 7, 3) := by decide +kernel
theorem dX12_leaf_19 : decode cX12_leaf 19 = .ok (.iconst 0, 1) := by decide +kernel
theorem dX12_leaf_20 : decode cX12_leaf 20 = .ok (.goto 4, 3) := by decide +kernel
theorem dX12_leaf_23 : decode cX12_leaf 23 = .ok (.iconst (-1), 1) := by decide +kernel
theorem dX12_leaf_24 : decode cX12_leaf 24 = .ok (.putfield 198, 3) := by decide +kernel
theorem dX12_leaf_27 : decode cX12_leaf 27 = .ok (.iload_n 2, 1) := by decide +kernel
theorem dX12_leaf_28 : decode cX12_leaf 28 = .ok (.ifCond .eq 12, 3) := by decide +kernel
theorem dX12_leaf_31 : decode cX12_leaf 31 = .ok (.aload_n 0, 1) := by decide +kernel
theorem dX12_leaf_32 : decode cX12_leaf 32 = .ok (.getfield 75, 3) := by decide +kernel
theorem dX12_leaf_35 : decode cX12_leaf 35 = .ok (.iload_n 1, 1) := by decide +kernel
theorem dX12_leaf_36 : decode cX12_leaf 36 = .ok (.laload, 1) := by decide +kernel
theorem dX12_leaf_37 : decode cX12_leaf 37 = .ok (.goto 4, 3) := by decide +kernel
theorem dX12_leaf_40 : decode cX12_leaf 40 = .ok (.lconst 0, 1) := by decide +kernel
theorem dX12_leaf_41 : decode cX12_leaf 41 = .ok (.lreturn, 1) := by decide +kernel
theorem dX12_set_0 : decode cX12_set 0 = .ok (.iload_n 1, 1) := by decide +kernel
theorem dX12_set_1 : decode cX12_set 1 = .ok (.i2l, 1) := by decide +kernel
theorem dX12_set_2 : decode cX12_set 2 = .ok (.lconst 0, 1) := by decide +kernel
theorem dX12_set_3 : decode cX12_set 3 = .ok (.aload_n 0, 1) := by decide +kernel
theorem dX12_set_4 : decode cX12_set 4 = .ok (.getfield 235, 3) := by decide +kernel
theorem dX12_set_7 : decode cX12_set 7 = .ok (.i2l, 1) := by decide +kernel
theorem dX12_set_8 : decode cX12_set 8 = .ok (.invokestatic 117, 3) := by decide +kernel
theorem dX12_set_11 : decode cX12_set 11 = .ok (.ifCond .ne 5, 3) := by decide +kernel
theorem dX12_set_14 : decode cX12_set 14 = .ok (.iconst (-1), 1) := by decide +kernel
theorem dX12_set_15 : decode cX12_set 15 = .ok (.ireturn, 1) := by decide +kernel
theorem dX12_set_16 : decode cX12_set 16 = .ok (.iload_n 1, 1) := by decide +kernel
theorem dX12_set_17 : decode cX12_set 17 = .ok (.sipush 250, 3) := by decide +kernel
theorem dX12_set_20 : decode cX12_set 20 = .ok (.if_icmp .ne 6, 3) := by decide +kernel
theorem dX12_set_23 : decode cX12_set 23 = .ok (.bipush (-2), 2) := by decide +kernel
theorem dX12_set_25 : decode cX12_set 25 = .ok (.ireturn, 1) := by decide +kernel
theorem dX12_set_26 : decode cX12_set 26 = .ok (.aload_n 0, 1) := by decide +kernel
theorem dX12_set_27 : decode cX12_set 27 = .ok (.getfield 75, 3) := by decide +kernel
theorem dX12_set_30 : decode cX12_set 30 = .ok (.iload_n 1, 1) := by decide +kernel
theorem dX12_set_31 : decode cX12_set 31 = .ok (.lload_n 2, 1) := by decide +kernel
theorem dX12_set_32 : decode cX12_set 32 = .ok (.lastore, 1) := by decide +kernel
theorem dX12_set_33 : decode cX12_set 33 = .ok (.aload_n 0, 1) := by decide +kernel
theorem dX12_set_34 : decode cX12_set 34 = .ok (.dup, 1) := by decide +kernel
theorem dX12_set_35 : decode cX12_set 35 = .ok (.getfield 235, 3) := by decide +kernel
theorem dX12_set_38 : decode cX12_set 38 = .ok (.iload_n 1, 1) := by decide +kernel
theorem dX12_set_39 : decode cX12_set 39 = .ok (.aload_n 0, 1) := by decide +kernel
theorem dX12_set_40 : decode cX12_set 40 = .ok (.getfield 235, 3) := by decide +kernel
theorem dX12_set_43 : decode cX12_set 43 = .ok (.if_icmp .ne 7, 3) := by decide +kernel
theorem dX12_set_46 : decode cX12_set 46 = .ok (.iconst 1, 1) := by decide +kernel
theorem dX12_set_47 : decode cX12_set 47 = .ok (.goto 4, 3) := by decide +kernel
theorem dX12_set_50 : decode cX12_set 50 = .ok (.iconst 0, 1) := by decide +kernel
theorem dX12_set_51 : decode cX12_set 51 = .ok (.iadd, 1) := by decide +kernel
theorem dX12_set_52 : decode cX12_set 52 = .ok (.putfield 235, 3) := by decide +kernel
theorem dX12_set_55 : decode cX12_set 55 = .ok (.aload_n 0, 1) := by decide +kernel
theorem dX12_set_56 : decode cX12_set 56 = .ok (.getfield 235, 3) := by decide +kernel
theorem dX12_set_59 : decode cX12_set 59 = .ok (.ireturn, 1) := by decide +kernel
theorem dX12_cut_0 : decode cX12_cut 0 = .ok (.iload_n 1, 1) := by decide +kernel
theorem dX12_cut_1 : decode cX12_cut 1 = .ok (.i2l, 1) := by decide +kernel
theorem dX12_cut_2 : decode cX12_cut 2 = .ok (.lconst 0, 1) := by decide +kernel
theorem dX12_cut_3 : decode cX12_cut 3 = .ok (.aload_n 0, 1) := by decide +kernel
theorem dX12_cut_4 : decode cX12_cut 4 = .ok (.getfield 235, 3) := by decide +kernel
theorem dX12_cut_7 : decode cX12_cut 7 = .ok (.i2l, 1) := by decide +kernel
theorem dX12_cut_8 : decode cX12_cut 8 = .ok (.invokestatic 117, 3) := by decide +kernel
theorem dX12_cut_11 : decode cX12_cut 11 = .ok (.ifCond .ne 5, 3) := by decide +kernel
theorem dX12_cut_14 : decode cX12_cut 14 = .ok (.iconst (-1), 1) := by decide +kernel
theorem dX12_cut_15 : decode cX12_cut 15 = .ok (.ireturn, 1) := by decide +kernel
theorem dX12_cut_16 : decode cX12_cut 16 = .ok (.aload_n 0, 1) := by decide +kernel
theorem dX12_cut_17 : decode cX12_cut 17 = .ok (.getfield 235, 3) := by decide +kernel
theorem dX12_cut_20 : decode cX12_cut 20 = .ok (.iload_n 1, 1) := by decide +kernel
theorem dX12_cut_21 : decode cX12_cut 21 = .ok (.isub, 1) := by decide +kernel
theorem dX12_cut_22 : decode cX12_cut 22 = .ok (.istore_n 2, 1) := by decide +kernel
theorem dX12_cut_23 : decode cX12_cut 23 = .ok (.aload_n 0, 1) := by decide +kernel
theorem dX12_cut_24 : decode cX12_cut 24 = .ok (.iload_n 1, 1) := by decide +kernel
theorem dX12_cut_25 : decode cX12_cut 25 = .ok (.putfield 235, 3) := by decide +kernel
theorem dX12_cut_28 : decode cX12_cut 28 = .ok (.iload_n 2, 1) := by decide +kernel
theorem dX12_cut_29 : decode cX12_cut 29 = .ok (.ireturn, 1) := by decide +kernel
theorem dX12_fails_0 : decode cX12_fails 0 = .ok (.aload_n 0, 1) := by decide +kernel
theorem dX12_fails_1 : decode cX12_fails 1 = .ok (.aload_n 0, 1) := by decide +kernel
theorem dX12_fails_2 : decode cX12_fails 2 = .ok (.getfield 238, 3) := by decide +kernel
theorem dX12_fails_5 : decode cX12_fails 5 = .ok (.ifCond .ne 7, 3) := by decide +kernel
theorem dX12_fails_8 : decode cX12_fails 8 = .ok (.iload_n 1, 1) := by decide +kernel
theorem dX12_fails_9 : decode cX12_fails 9 = .ok (.goto 7, 3) := by decide +kernel
theorem dX12_fails_12 : decode cX12_fails 12 = .ok (.aload_n 0, 1) := by decide +kernel
theorem dX12_fails_13 : decode cX12_fails 13 = .ok (.getfield 238, 3) := by decide +kernel
theorem dX12_fails_16 : decode cX12_fails 16 = .ok (.putfield 238, 3) := by decide +kernel
theorem dX12_fails_19 : decode cX12_fails 19 = .ok (.return_, 1) := by decide +kernel
theorem dX12_want_0 : decode cX12_want 0 = .ok (.aload_n 0, 1) := by decide +kernel
theorem dX12_want_1 : decode cX12_want 1 = .ok (.getfield 238, 3) := by decide +kernel
theorem dX12_want_4 : decode cX12_want 4 = .ok (.ifCond .eq 5, 3) := by decide +kernel
theorem dX12_want_7 : decode cX12_want 7 = .ok (.lconst 0, 1) := by decide +kernel
theorem dX12_want_8 : decode cX12_want 8 = .ok (.lreturn, 1) := by decide +kernel
theorem dX12_want_9 : decode cX12_want 9 = .ok (.aload_n 0, 1) := by decide +kernel
theorem dX12_want_10 : decode cX12_want 10 = .ok (.aload_n 0, 1) := by decide +kernel
theorem dX12_want_11 : decode cX12_want 11 = .ok (.getfield 241, 3) := by decide +kernel
theorem dX12_want_14 : decode cX12_want 14 = .ok (.putfield 244, 3) := by decide +kernel
theorem dX12_want_17 : decode cX12_want 17 = .ok (.aload_n 0, 1) := by decide +kernel
theorem dX12_want_18 : decode cX12_want 18 = .ok (.getfield 241, 3) := by decide +kernel
theorem dX12_want_21 : decode cX12_want 21 = .ok (.aload_n 0, 1) := by decide +kernel
theorem dX12_want_22 : decode cX12_want 22 = .ok (.getfield 235, 3) := by decide +kernel
theorem dX12_want_25 : decode cX12_want 25 = .ok (.if_icmp .lt 10, 3) := by decide +kernel
theorem dX12_want_28 : decode cX12_want 28 = .ok (.aload_n 0, 1) := by decide +kernel
theorem dX12_want_29 : decode cX12_want 29 = .ok (.iconst 4, 1) := by decide +kernel
theorem dX12_want_30 : decode cX12_want 30 = .ok (.invokevirtual 247, 3) := by decide +kernel
theorem dX12_want_33 : decode cX12_want 33 = .ok (.lconst 0, 1) := by decide +kernel
theorem dX12_want_34 : decode cX12_want 34 = .ok (.lreturn, 1) := by decide +kernel
theorem dX12_want_35 : decode cX12_want 35 = .ok (.aload_n 0, 1) := by decide +kernel
theorem dX12_want_36 : decode cX12_want 36 = .ok (.dup, 1) := by decide +kernel
theorem dX12_want_37 : decode cX12_want 37 = .ok (.getfield 241, 3) := by decide +kernel
theorem dX12_want_40 : decode cX12_want 40 = .ok (.iconst 1, 1) := by decide +kernel
theorem dX12_want_41 : decode cX12_want 41 = .ok (.iadd, 1) := by decide +kernel
theorem dX12_want_42 : decode cX12_want 42 = .ok (.putfield 241, 3) := by decide +kernel
theorem dX12_want_45 : decode cX12_want 45 = .ok (.aload_n 0, 1) := by decide +kernel
theorem dX12_want_46 : decode cX12_want 46 = .ok (.getfield 75, 3) := by decide +kernel
theorem dX12_want_49 : decode cX12_want 49 = .ok (.aload_n 0, 1) := by decide +kernel
theorem dX12_want_50 : decode cX12_want 50 = .ok (.getfield 241, 3) := by decide +kernel
theorem dX12_want_53 : decode cX12_want 53 = .ok (.iconst 1, 1) := by decide +kernel
theorem dX12_want_54 : decode cX12_want 54 = .ok (.isub, 1) := by decide +kernel
theorem dX12_want_55 : decode cX12_want 55 = .ok (.laload, 1) := by decide +kernel
theorem dX12_want_56 : decode cX12_want 56 = .ok (.lreturn, 1) := by decide +kernel
theorem dX12_beginRecord_0 : decode cX12_beginRecord 0 = .ok (.aload_n 0, 1) := by decide +kernel
theorem dX12_beginRecord_1 : decode cX12_beginRecord 1 = .ok (.getfield 251, 3) := by decide +kernel
theorem dX12_beginRecord_4 : decode cX12_beginRecord 4 = .ok (.bipush 6, 2) := by decide +kernel
theorem dX12_beginRecord_6 : decode cX12_beginRecord 6 = .ok (.if_icmp .ne 10, 3) := by decide +kernel
theorem dX12_beginRecord_9 : decode cX12_beginRecord 9 = .ok (.aload_n 0, 1) := by decide +kernel
theorem dX12_beginRecord_10 : decode cX12_beginRecord 10 = .ok (.bipush 8, 2) := by decide +kernel
theorem dX12_beginRecord_12 : decode cX12_beginRecord 12 = .ok (.invokevirtual 247, 3) := by decide +kernel
theorem dX12_beginRecord_15 : decode cX12_beginRecord 15 = .ok (.return_, 1) := by decide +kernel
theorem dX12_beginRecord_16 : decode cX12_beginRecord 16 = .ok (.aload_n 0, 1) := by decide +kernel
theorem dX12_beginRecord_17 : decode cX12_beginRecord 17 = .ok (.dup, 1) := by decide +kernel
theorem dX12_beginRecord_18 : decode cX12_beginRecord 18 = .ok (.getfield 251, 3) := by decide +kernel
theorem dX12_beginRecord_21 : decode cX12_beginRecord 21 = .ok (.iconst 1, 1) := by decide +kernel
theorem dX12_beginRecord_22 : decode cX12_beginRecord 22 = .ok (.iadd, 1) := by decide +kernel
theorem dX12_beginRecord_23 : decode cX12_beginRecord 23 = .ok (.putfield 251, 3) := by decide +kernel
theorem dX12_beginRecord_26 : decode cX12_beginRecord 26 = .ok (.aload_n 0, 1) := by decide +kernel
theorem dX12_beginRecord_27 : decode cX12_beginRecord 27 = .ok (.invokevirtual 254, 3) := by decide +kernel
theorem dX12_beginRecord_30 : decode cX12_beginRecord 30 = .ok (.lstore_n 2, 1) := by decide +kernel
theorem dX12_beginRecord_31 : decode cX12_beginRecord 31 = .ok (.aload_n 0, 1) := by decide +kernel
theorem dX12_beginRecord_32 : decode cX12_beginRecord 32 = .ok (.getfield 238, 3) := by decide +kernel
theorem dX12_beginRecord_35 : decode cX12_beginRecord 35 = .ok (.ifCond .ne 15, 3) := by decide +kernel
theorem dX12_beginRecord_38 : decode cX12_beginRecord 38 = .ok (.lload_n 2, 1) := by decide +kernel
theorem dX12_beginRecord_39 : decode cX12_beginRecord 39 = .ok (.invokestatic 133, 3) := by decide +kernel
theorem dX12_beginRecord_42 : decode cX12_beginRecord 42 = .ok (.ifCond .ne 8, 3) := by decide +kernel
theorem dX12_beginRecord_45 : decode cX12_beginRecord 45 = .ok (.aload_n 0, 1) := by decide +kernel
theorem dX12_beginRecord_46 : decode cX12_beginRecord 46 = .ok (.iconst 2, 1) := by decide +kernel
theorem dX12_beginRecord_47 : decode cX12_beginRecord 47 = .ok (.invokevirtual 247, 3) := by decide +kernel
theorem dX12_beginRecord_50 : decode cX12_beginRecord 50 = .ok (.aload_n 0, 1) := by decide +kernel
theorem dX12_beginRecord_51 : decode cX12_beginRecord 51 = .ok (.invokevirtual 254, 3) := by decide +kernel
theorem dX12_beginRecord_54 : decode cX12_beginRecord 54 = .ok (.lstore 4, 2) := by decide +kernel
theorem dX12_beginRecord_56 : decode cX12_beginRecord 56 = .ok (.aload_n 0, 1) := by decide +kernel
theorem dX12_beginRecord_57 : decode cX12_beginRecord 57 = .ok (.getfield 106, 3) := by decide +kernel
theorem dX12_beginRecord_60 : decode cX12_beginRecord 60 = .ok (.aload_n 0, 1) := by decide +kernel
theorem dX12_beginRecord_61 : decode cX12_beginRecord 61 = .ok (.getfield 251, 3) := by decide +kernel
theorem dX12_beginRecord_64 : decode cX12_beginRecord 64 = .ok (.iconst 1, 1) := by decide +kernel
theorem dX12_beginRecord_65 : decode cX12_beginRecord 65 = .ok (.isub, 1) := by decide +kernel
theorem dX12_beginRecord_66 : decode cX12_beginRecord 66 = .ok (.iload_n 1, 1) := by decide +kernel
theorem dX12_beginRecord_67 : decode cX12_beginRecord 67 = .ok (.ifCond .eq 17, 3) := by decide +kernel
theorem dX12_beginRecord_70 : decode cX12_beginRecord 70 = .ok (.iconst 3, 1) := by decide +kernel
theorem dX12_beginRecord_71 : decode cX12_beginRecord 71 = .ok (.lload_n 2, 1) := by decide +kernel
theorem dX12_beginRecord_72 : decode cX12_beginRecord 72 = .ok (.l2i, 1) := by decide +kernel
theorem dX12_beginRecord_73 : decode cX12_beginRecord 73 = .ok (.iconst 2, 1) := by decide +kernel
theorem dX12_beginRecord_74 : decode cX12_beginRecord 74 = .ok (.isub, 1) := by decide +kernel
theorem dX12_beginRecord_75 : decode cX12_beginRecord 75 = .ok (.imul, 1) := by decide +kernel
theorem dX12_beginRecord_76 : decode cX12_beginRecord 76 = .ok (.aload_n 0, 1) := by decide +kernel
theorem dX12_beginRecord_77 : decode cX12_beginRecord 77 = .ok (.getfield 258, 3) := by decide +kernel
theorem dX12_beginRecord_80 : decode cX12_beginRecord 80 = .ok (.iadd, 1) := by decide +kernel
theorem dX12_beginRecord_81 : decode cX12_beginRecord 81 = .ok (.goto 5, 3) := by decide +kernel
theorem dX12_beginRecord_84 : decode cX12_beginRecord 84 = .ok (.bipush (-3), 2) := by decide +kernel
theorem dX12_beginRecord_86 : decode cX12_beginRecord 86 = .ok (.iastore, 1) := by decide +kernel
theorem dX12_beginRecord_87 : decode cX12_beginRecord 87 = .ok (.aload_n 0, 1) := by decide +kernel
theorem dX12_beginRecord_88 : decode cX12_beginRecord 88 = .ok (.getfield 109, 3) := by decide +kernel
theorem dX12_beginRecord_91 : decode cX12_beginRecord 91 = .ok (.aload_n 0, 1) := by decide +kernel
theorem dX12_beginRecord_92 : decode cX12_beginRecord 92 = .ok (.getfield 251, 3) := by decide +kernel
theorem dX12_beginRecord_95 : decode cX12_beginRecord 95 = .ok (.iconst 1, 1) := by decide +kernel
theorem dX12_beginRecord_96 : decode cX12_beginRecord 96 = .ok (.isub, 1) := by decide +kernel
theorem dX12_beginRecord_97 : decode cX12_beginRecord 97 = .ok (.lload 4, 2) := by decide +kernel
theorem dX12_beginRecord_99 : decode cX12_beginRecord 99 = .ok (.lastore, 1) := by decide +kernel
theorem dX12_beginRecord_100 : decode cX12_beginRecord 100 = .ok (.iconst 0, 1) := by decide +kernel
theorem dX12_beginRecord_101 : decode cX12_beginRecord 101 = .ok (.istore 6, 2) := by decide +kernel
theorem dX12_beginRecord_103 : decode cX12_beginRecord 103 = .ok (.iload 6, 2) := by decide +kernel
theorem dX12_beginRecord_105 : decode cX12_beginRecord 105 = .ok (.iconst 5, 1) := by decide +kernel
theorem dX12_beginRecord_106 : decode cX12_beginRecord 106 = .ok (.if_icmp .ge 39, 3) := by decide +kernel
theorem dX12_beginRecord_109 : decode cX12_beginRecord 109 = .ok (.aload_n 0, 1) := by decide +kernel
theorem dX12_beginRecord_110 : decode cX12_beginRecord 110 = .ok (.getfield 82, 3) := by decide +kernel
theorem dX12_beginRecord_113 : decode cX12_beginRecord 113 = .ok (.iconst 5, 1) := by decide +kernel
theorem dX12_beginRecord_114 : decode cX12_beginRecord 114 = .ok (.aload_n 0, 1) := by decide +kernel
theorem dX12_beginRecord_115 : decode cX12_beginRecord 115 = .ok (.getfield 251, 3) := by decide +kernel
theorem dX12_beginRecord_118 : decode cX12_beginRecord 118 = .ok (.imul, 1) := by decide +kernel
theorem dX12_beginRecord_119 : decode cX12_beginRecord 119 = .ok (.iload 6, 2) := by decide +kernel
theorem dX12_beginRecord_121 : decode cX12_beginRecord 121 = .ok (.iadd, 1) := by decide +kernel
theorem dX12_beginRecord_122 : decode cX12_beginRecord 122 = .ok (.lconst 0, 1) := by decide +kernel
theorem dX12_beginRecord_123 : decode cX12_beginRecord 123 = .ok (.lastore, 1) := by decide +kernel
theorem dX12_beginRecord_124 : decode cX12_beginRecord 124 = .ok (.aload_n 0, 1) := by decide +kernel
theorem dX12_beginRecord_125 : decode cX12_beginRecord 125 = .ok (.getfield 85, 3) := by decide +kernel
theorem dX12_beginRecord_128 : decode cX12_beginRecord 128 = .ok (.iconst 5, 1) := by decide +kernel
theorem dX12_beginRecord_129 : decode cX12_beginRecord 129 = .ok (.aload_n 0, 1) := by decide +kernel
theorem dX12_beginRecord_130 : decode cX12_beginRecord 130 = .ok (.getfield 251, 3) := by decide +kernel
theorem dX12_beginRecord_133 : decode cX12_beginRecord 133 = .ok (.imul, 1) := by decide +kernel
theorem dX12_beginRecord_134 : decode cX12_beginRecord 134 = .ok (.iload 6, 2) := by decide +kernel
theorem dX12_beginRecord_136 : decode cX12_beginRecord 136 = .ok (.iadd, 1) := by decide +kernel
theorem dX12_beginRecord_137 : decode cX12_beginRecord 137 = .ok (.iconst (-1), 1) := by decide +kernel
theorem dX12_beginRecord_138 : decode cX12_beginRecord 138 = .ok (.iastore, 1) := by decide +kernel
theorem dX12_beginRecord_139 : decode cX12_beginRecord 139 = .ok (.iinc 6 1, 3) := by decide +kernel
theorem dX12_beginRecord_142 : decode cX12_beginRecord 142 = .ok (.goto (-39), 3) := by decide +kernel
theorem dX12_beginRecord_145 : decode cX12_beginRecord 145 = .ok (.return_, 1) := by decide +kernel
theorem dX12_readRow_0 : decode cX12_readRow 0 = .ok (.aload_n 0, 1) := by decide +kernel
theorem dX12_readRow_1 : decode cX12_readRow 1 = .ok (.invokevirtual 254, 3) := by decide +kernel
theorem dX12_readRow_4 : decode cX12_readRow 4 = .ok (.lstore_n 2, 1) := by decide +kernel
theorem dX12_readRow_5 : decode cX12_readRow 5 = .ok (.aload_n 0, 1) := by decide +kernel
theorem dX12_readRow_6 : decode cX12_readRow 6 = .ok (.getfield 238, 3) := by decide +kernel
theorem dX12_readRow_9 : decode cX12_readRow 9 = .ok (.ifCond .ne 17, 3) := by decide +kernel
theorem dX12_readRow_12 : decode cX12_readRow 12 = .ok (.lload_n 2, 1) := by decide +kernel
theorem dX12_readRow_13 : decode cX12_readRow 13 = .ok (.ldc2_w 227, 3) := by decide +kernel
theorem dX12_readRow_16 : decode cX12_readRow 16 = .ok (.lcmp, 1) := by decide +kernel
theorem dX12_readRow_17 : decode cX12_readRow 17 = .ok (.ifCond .ge 9, 3) := by decide +kernel
theorem dX12_readRow_20 : decode cX12_readRow 20 = .ok (.aload_n 0, 1) := by decide +kernel
theorem dX12_readRow_21 : decode cX12_readRow 21 = .ok (.bipush 6, 2) := by decide +kernel
theorem dX12_readRow_23 : decode cX12_readRow 23 = .ok (.invokevirtual 247, 3) := by decide +kernel
theorem dX12_readRow_26 : decode cX12_readRow 26 = .ok (.aload_n 0, 1) := by decide +kernel
theorem dX12_readRow_27 : decode cX12_readRow 27 = .ok (.getfield 238, 3) := by decide +kernel
theorem dX12_readRow_30 : decode cX12_readRow 30 = .ok (.ifCond .ne 16, 3) := by decide +kernel
theorem dX12_readRow_33 : decode cX12_readRow 33 = .ok (.lload_n 2, 1) := by decide +kernel
theorem dX12_readRow_34 : decode cX12_readRow 34 = .ok (.ldc2_w 154, 3) := by decide +kernel
theorem dX12_readRow_37 : decode cX12_readRow 37 = .ok (.lcmp, 1) := by decide +kernel
theorem dX12_readRow_38 : decode cX12_readRow 38 = .ok (.ifCond .le 8, 3) := by decide +kernel
theorem dX12_readRow_41 : decode cX12_readRow 41 = .ok (.aload_n 0, 1) := by decide +kernel
theorem dX12_readRow_42 : decode cX12_readRow 42 = .ok (.iconst 2, 1) := by decide +kernel
theorem dX12_readRow_43 : decode cX12_readRow 43 = .ok (.invokevirtual 247, 3) := by decide +kernel
theorem dX12_readRow_46 : decode cX12_readRow 46 = .ok (.aload_n 0, 1) := by decide +kernel
theorem dX12_readRow_47 : decode cX12_readRow 47 = .ok (.getfield 238, 3) := by decide +kernel
theorem dX12_readRow_50 : decode cX12_readRow 50 = .ok (.ifCond .ne 22, 3) := by decide +kernel
theorem dX12_readRow_53 : decode cX12_readRow 53 = .ok (.lload_n 2, 1) := by decide +kernel
theorem dX12_readRow_54 : decode cX12_readRow 54 = .ok (.lconst 0, 1) := by decide +kernel
theorem dX12_readRow_55 : decode cX12_readRow 55 = .ok (.lcmp, 1) := by decide +kernel
theorem dX12_readRow_56 : decode cX12_readRow 56 = .ok (.ifCond .lt 16, 3) := by decide +kernel
theorem dX12_readRow_59 : decode cX12_readRow 59 = .ok (.iload_n 1, 1) := by decide +kernel
theorem dX12_readRow_60 : decode cX12_readRow 60 = .ok (.ifCond .eq 12, 3) := by decide +kernel
theorem dX12_readRow_63 : decode cX12_readRow 63 = .ok (.aload_n 0, 1) := by decide +kernel
theorem dX12_readRow_64 : decode cX12_readRow 64 = .ok (.lload_n 2, 1) := by decide +kernel
theorem dX12_readRow_65 : decode cX12_readRow 65 = .ok (.l2i, 1) := by decide +kernel
theorem dX12_readRow_66 : decode cX12_readRow 66 = .ok (.invokevirtual 156, 3) := by decide +kernel
theorem dX12_readRow_69 : decode cX12_readRow 69 = .ok (.goto 4, 3) := by decide +kernel
theorem dX12_readRow_72 : decode cX12_readRow 72 = .ok (.iconst (-1), 1) := by decide +kernel
theorem dX12_readRow_73 : decode cX12_readRow 73 = .ok (.istore 4, 2) := by decide +kernel
theorem dX12_readRow_75 : decode cX12_readRow 75 = .ok (.iconst 0, 1) := by decide +kernel
theorem dX12_readRow_76 : decode cX12_readRow 76 = .ok (.istore 5, 2) := by decide +kernel
theorem dX12_readRow_78 : decode cX12_readRow 78 = .ok (.iload 5, 2) := by decide +kernel
theorem dX12_readRow_80 : decode cX12_readRow 80 = .ok (.i2l, 1) := by decide +kernel
theorem dX12_readRow_81 : decode cX12_readRow 81 = .ok (.lload_n 2, 1) := by decide +kernel
theorem dX12_readRow_82 : decode cX12_readRow 82 = .ok (.lcmp, 1) := by decide +kernel
theorem dX12_readRow_83 : decode cX12_readRow 83 = .ok (.ifCond .ge 47, 3) := by decide +kernel
theorem dX12_readRow_86 : decode cX12_readRow 86 = .ok (.aload_n 0, 1) := by decide +kernel
theorem dX12_readRow_87 : decode cX12_readRow 87 = .ok (.getfield 238, 3) := by decide +kernel
theorem dX12_readRow_90 : decode cX12_readRow 90 = .ok (.ifCond .ne 40, 3) := by decide +kernel
theorem dX12_readRow_93 : decode cX12_readRow 93 = .ok (.aload_n 0, 1) := by decide +kernel
theorem dX12_readRow_94 : decode cX12_readRow 94 = .ok (.invokevirtual 254, 3) := by decide +kernel
theorem dX12_readRow_97 : decode cX12_readRow 97 = .ok (.l2i, 1) := by decide +kernel
theorem dX12_readRow_98 : decode cX12_readRow 98 = .ok (.istore 6, 2) := by decide +kernel
theorem dX12_readRow_100 : decode cX12_readRow 100 = .ok (.iload 4, 2) := by decide +kernel
theorem dX12_readRow_102 : decode cX12_readRow 102 = .ok (.iconst (-1), 1) := by decide +kernel
theorem dX12_readRow_103 : decode cX12_readRow 103 = .ok (.if_icmp .eq 21, 3) := by decide +kernel
theorem dX12_readRow_106 : decode cX12_readRow 106 = .ok (.aload_n 0, 1) := by decide +kernel
theorem dX12_readRow_107 : decode cX12_readRow 107 = .ok (.getfield 49, 3) := by decide +kernel
theorem dX12_readRow_110 : decode cX12_readRow 110 = .ok (.bipush 8, 2) := by decide +kernel
theorem dX12_readRow_112 : decode cX12_readRow 112 = .ok (.iload 4, 2) := by decide +kernel
theorem dX12_readRow_114 : decode cX12_readRow 114 = .ok (.bipush 100, 2) := by decide +kernel
theorem dX12_readRow_116 : decode cX12_readRow 116 = .ok (.isub, 1) := by decide +kernel
theorem dX12_readRow_117 : decode cX12_readRow 117 = .ok (.imul, 1) := by decide +kernel
theorem dX12_readRow_118 : decode cX12_readRow 118 = .ok (.iload 5, 2) := by decide +kernel
theorem dX12_readRow_120 : decode cX12_readRow 120 = .ok (.iadd, 1) := by decide +kernel
theorem dX12_readRow_121 : decode cX12_readRow 121 = .ok (.iload 6, 2) := by decide +kernel
theorem dX12_readRow_123 : decode cX12_readRow 123 = .ok (.iastore, 1) := by decide +kernel
theorem dX12_readRow_124 : decode cX12_readRow 124 = .ok (.iinc 5 1, 3) := by decide +kernel
theorem dX12_readRow_127 : decode cX12_readRow 127 = .ok (.goto (-49), 3) := by decide +kernel
theorem dX12_readRow_130 : decode cX12_readRow 130 = .ok (.iload 4, 2) := by decide +kernel
theorem dX12_readRow_132 : decode cX12_readRow 132 = .ok (.ireturn, 1) := by decide +kernel
theorem dX12_readPart_0 : decode cX12_readPart 0 = .ok (.aload_n 0, 1) := by decide +kernel
theorem dX12_readPart_1 : decode cX12_readPart 1 = .ok (.getfield 106, 3) := by decide +kernel
theorem dX12_readPart_4 : decode cX12_readPart 4 = .ok (.aload_n 0, 1) := by decide +kernel
theorem dX12_readPart_5 : decode cX12_readPart 5 = .ok (.getfield 251, 3) := by decide +kernel
theorem dX12_readPart_8 : decode cX12_readPart 8 = .ok (.iconst 1, 1) := by decide +kernel
theorem dX12_readPart_9 : decode cX12_readPart 9 = .ok (.isub, 1) := by decide +kernel
theorem dX12_readPart_10 : decode cX12_readPart 10 = .ok (.iaload, 1) := by decide +kernel
theorem dX12_readPart_11 : decode cX12_readPart 11 = .ok (.istore_n 1, 1) := by decide +kernel
theorem dX12_readPart_12 : decode cX12_readPart 12 = .ok (.aload_n 0, 1) := by decide +kernel
theorem dX12_readPart_13 : decode cX12_readPart 13 = .ok (.invokevirtual 254, 3) := by decide +kernel
theorem dX12_readPart_16 : decode cX12_readPart 16 = .ok (.lstore_n 2, 1) := by decide +kernel
theorem dX12_readPart_17 : decode cX12_readPart 17 = .ok (.aload_n 0, 1) := by decide +kernel
theorem dX12_readPart_18 : decode cX12_readPart 18 = .ok (.invokevirtual 254, 3) := by decide +kernel
theorem dX12_readPart_21 : decode cX12_readPart 21 = .ok (.lstore 4, 2) := by decide +kernel
theorem dX12_readPart_23 : decode cX12_readPart 23 = .ok (.aload_n 0, 1) := by decide +kernel
theorem dX12_readPart_24 : decode cX12_readPart 24 = .ok (.getfield 238, 3) := by decide +kernel
theorem dX12_readPart_27 : decode cX12_readPart 27 = .ok (.ifCond .ne 20, 3) := by decide +kernel
theorem dX12_readPart_30 : decode cX12_readPart 30 = .ok (.lload 4, 2) := by decide +kernel
theorem dX12_readPart_32 : decode cX12_readPart 32 = .ok (.lconst 0, 1) := by decide +kernel
theorem dX12_readPart_33 : decode cX12_readPart 33 = .ok (.ldc2_w 137, 3) := by decide +kernel
theorem dX12_readPart_36 : decode cX12_readPart 36 = .ok (.invokestatic 117, 3) := by decide +kernel
theorem dX12_readPart_39 : decode cX12_readPart 39 = .ok (.ifCond .ne 8, 3) := by decide +kernel
theorem dX12_readPart_42 : decode cX12_readPart 42 = .ok (.aload_n 0, 1) := by decide +kernel
theorem dX12_readPart_43 : decode cX12_readPart 43 = .ok (.iconst 2, 1) := by decide +kernel
theorem dX12_readPart_44 : decode cX12_readPart 44 = .ok (.invokevirtual 247, 3) := by decide +kernel
theorem dX12_readPart_47 : decode cX12_readPart 47 = .ok (.aload_n 0, 1) := by decide +kernel
theorem dX12_readPart_48 : decode cX12_readPart 48 = .ok (.getfield 238, 3) := by decide +kernel
theorem dX12_readPart_51 : decode cX12_readPart 51 = .ok (.ifCond .eq 4, 3) := by decide +kernel
theorem dX12_readPart_54 : decode cX12_readPart 54 = .ok (.return_, 1) := by decide +kernel
theorem dX12_readPart_55 : decode cX12_readPart 55 = .ok (.iload_n 1, 1) := by decide +kernel
theorem dX12_readPart_56 : decode cX12_readPart 56 = .ok (.ifCond .ge 8, 3) := by decide +kernel
theorem dX12_readPart_59 : decode cX12_readPart 59 = .ok (.bipush (-3), 2) := by decide +kernel
theorem dX12_readPart_61 : decode cX12_readPart 61 = .ok (.goto 9, 3) := by decide +kernel
theorem dX12_readPart_64 : decode cX12_readPart 64 = .ok (.aload_n 0, 1) := by decide +kernel
theorem dX12_readPart_65 : decode cX12_readPart 65 = .ok (.iload_n 1, 1) := by decide +kernel
theorem dX12_readPart_66 : decode cX12_readPart 66 = .ok (.lload_n 2, 1) := by decide +kernel
theorem dX12_readPart_67 : decode cX12_readPart 67 = .ok (.invokevirtual 139, 3) := by decide +kernel
theorem dX12_readPart_70 : decode cX12_readPart 70 = .ok (.istore 6, 2) := by decide +kernel
theorem dX12_readPart_72 : decode cX12_readPart 72 = .ok (.iload 6, 2) := by decide +kernel
theorem dX12_readPart_74 : decode cX12_readPart 74 = .ok (.ifCond .lt 7, 3) := by decide +kernel
theorem dX12_readPart_77 : decode cX12_readPart 77 = .ok (.iconst 1, 1) := by decide +kernel
theorem dX12_readPart_78 : decode cX12_readPart 78 = .ok (.goto 4, 3) := by decide +kernel
theorem dX12_readPart_81 : decode cX12_readPart 81 = .ok (.iconst 0, 1) := by decide +kernel
theorem dX12_readPart_82 : decode cX12_readPart 82 = .ok (.istore 7, 2) := by decide +kernel
theorem dX12_readPart_84 : decode cX12_readPart 84 = .ok (.iload 7, 2) := by decide +kernel
theorem dX12_readPart_86 : decode cX12_readPart 86 = .ok (.ifCond .eq 27, 3) := by decide +kernel
theorem dX12_readPart_89 : decode cX12_readPart 89 = .ok (.aload_n 0, 1) := by decide +kernel
theorem dX12_readPart_90 : decode cX12_readPart 90 = .ok (.getfield 26, 3) := by decide +kernel
theorem dX12_readPart_93 : decode cX12_readPart 93 = .ok (.iconst 5, 1) := by decide +kernel
theorem dX12_readPart_94 : decode cX12_readPart 94 = .ok (.iload_n 1, 1) := by decide +kernel
theorem dX12_readPart_95 : decode cX12_readPart 95 = .ok (.imul, 1) := by decide +kernel
theorem dX12_readPart_96 : decode cX12_readPart 96 = .ok (.iload 6, 2) := by decide +kernel
theorem dX12_readPart_98 : decode cX12_readPart 98 = .ok (.iadd, 1) := by decide +kernel
theorem dX12_readPart_99 : decode cX12_readPart 99 = .ok (.iaload, 1) := by decide +kernel
theorem dX12_readPart_100 : decode cX12_readPart 100 = .ok (.i2l, 1) := by decide +kernel
theorem dX12_readPart_101 : decode cX12_readPart 101 = .ok (.lload 4, 2) := by decide +kernel
theorem dX12_readPart_103 : decode cX12_readPart 103 = .ok (.lcmp, 1) := by decide +kernel
theorem dX12_readPart_104 : decode cX12_readPart 104 = .ok (.ifCond .eq 9, 3) := by decide +kernel
theorem dX12_readPart_107 : decode cX12_readPart 107 = .ok (.aload_n 0, 1) := by decide +kernel
theorem dX12_readPart_108 : decode cX12_readPart 108 = .ok (.iconst 1, 1) := by decide +kernel
theorem dX12_readPart_109 : decode cX12_readPart 109 = .ok (.invokevirtual 247, 3) := by decide +kernel
theorem dX12_readPart_112 : decode cX12_readPart 112 = .ok (.return_, 1) := by decide +kernel
theorem dX12_readPart_113 : decode cX12_readPart 113 = .ok (.iconst 5, 1) := by decide +kernel
theorem dX12_readPart_114 : decode cX12_readPart 114 = .ok (.aload_n 0, 1) := by decide +kernel
theorem dX12_readPart_115 : decode cX12_readPart 115 = .ok (.getfield 251, 3) := by decide +kernel
theorem dX12_readPart_118 : decode cX12_readPart 118 = .ok (.imul, 1) := by decide +kernel
theorem dX12_readPart_119 : decode cX12_readPart 119 = .ok (.iload 7, 2) := by decide +kernel
theorem dX12_readPart_121 : decode cX12_readPart 121 = .ok (.ifCond .eq 8, 3) := by decide +kernel
theorem dX12_readPart_124 : decode cX12_readPart 124 = .ok (.iload 6, 2) := by decide +kernel
theorem dX12_readPart_126 : decode cX12_readPart 126 = .ok (.goto 4, 3) := by decide +kernel
theorem dX12_readPart_129 : decode cX12_readPart 129 = .ok (.iconst 0, 1) := by decide +kernel
theorem dX12_readPart_130 : decode cX12_readPart 130 = .ok (.iadd, 1) := by decide +kernel
theorem dX12_readPart_131 : decode cX12_readPart 131 = .ok (.istore 8, 2) := by decide +kernel
theorem dX12_readPart_133 : decode cX12_readPart 133 = .ok (.lload 4, 2) := by decide +kernel
theorem dX12_readPart_135 : decode cX12_readPart 135 = .ok (.ldc2_w 121, 3) := by decide +kernel
theorem dX12_readPart_138 : decode cX12_readPart 138 = .ok (.lcmp, 1) := by decide +kernel
theorem dX12_readPart_139 : decode cX12_readPart 139 = .ok (.ifCond .ge 36, 3) := by decide +kernel
theorem dX12_readPart_142 : decode cX12_readPart 142 = .ok (.aload_n 0, 1) := by decide +kernel
theorem dX12_readPart_143 : decode cX12_readPart 143 = .ok (.invokevirtual 254, 3) := by decide +kernel
theorem dX12_readPart_146 : decode cX12_readPart 146 = .ok (.lstore 9, 2) := by decide +kernel
theorem dX12_readPart_148 : decode cX12_readPart 148 = .ok (.aload_n 0, 1) := by decide +kernel
theorem dX12_readPart_149 : decode cX12_readPart 149 = .ok (.getfield 82, 3) := by decide +kernel
theorem dX12_readPart_152 : decode cX12_readPart 152 = .ok (.iload 8, 2) := by decide +kernel
theorem dX12_readPart_154 : decode cX12_readPart 154 = .ok (.iload 7, 2) := by decide +kernel
theorem dX12_readPart_156 : decode cX12_readPart 156 = .ok (.ifCond .eq 8, 3) := by decide +kernel
theorem dX12_readPart_159 : decode cX12_readPart 159 = .ok (.lload 9, 2) := by decide +kernel
theorem dX12_readPart_161 : decode cX12_readPart 161 = .ok (.goto 10, 3) := by decide +kernel
theorem dX12_readPart_164 : decode cX12_readPart 164 = .ok (.aload_n 0, 1) := by decide +kernel
theorem dX12_readPart_165 : decode cX12_readPart 165 = .ok (.getfield 82, 3) := by decide +kernel
theorem dX12_readPart_168 : decode cX12_readPart 168 = .ok (.iload 8, 2) := by decide +kernel
theorem dX12_readPart_170 : decode cX12_readPart 170 = .ok (.laload, 1) := by decide +kernel
theorem dX12_readPart_171 : decode cX12_readPart 171 = .ok (.lastore, 1) := by decide +kernel
theorem dX12_readPart_172 : decode cX12_readPart 172 = .ok (.goto 214, 3) := by decide +kernel
theorem dX12_readPart_175 : decode cX12_readPart 175 = .ok (.lload 4, 2) := by decide +kernel
theorem dX12_readPart_177 : decode cX12_readPart 177 = .ok (.ldc2_w 121, 3) := by decide +kernel
theorem dX12_readPart_180 : decode cX12_readPart 180 = .ok (.lcmp, 1) := by decide +kernel
theorem dX12_readPart_181 : decode cX12_readPart 181 = .ok (.ifCond .ne 82, 3) := by decide +kernel
theorem dX12_readPart_184 : decode cX12_readPart 184 = .ok (.aload_n 0, 1) := by decide +kernel
theorem dX12_readPart_185 : decode cX12_readPart 185 = .ok (.invokevirtual 254, 3) := by decide +kernel
theorem dX12_readPart_188 : decode cX12_readPart 188 = .ok (.lstore 9, 2) := by decide +kernel
theorem dX12_readPart_190 : decode cX12_readPart 190 = .ok (.iload 7, 2) := by decide +kernel
theorem dX12_readPart_192 : decode cX12_readPart 192 = .ok (.ifCond .eq 68, 3) := by decide +kernel
theorem dX12_readPart_195 : decode cX12_readPart 195 = .ok (.aload_n 0, 1) := by decide +kernel
theorem dX12_readPart_196 : decode cX12_readPart 196 = .ok (.getfield 238, 3) := by decide +kernel
theorem dX12_readPart_199 : decode cX12_readPart 199 = .ok (.ifCond .ne 61, 3) := by decide +kernel
theorem dX12_readPart_202 : decode cX12_readPart 202 = .ok (.lload 9, 2) := by decide +kernel
theorem dX12_readPart_204 : decode cX12_readPart 204 = .ok (.ldc2_w 227, 3) := by decide +kernel
theorem dX12_readPart_207 : decode cX12_readPart 207 = .ok (.lcmp, 1) := by decide +kernel
theorem dX12_readPart_208 : decode cX12_readPart 208 = .ok (.ifCond .ne 7, 3) := by decide +kernel
theorem dX12_readPart_211 : decode cX12_readPart 211 = .ok (.iconst (-1), 1) := by decide +kernel
theorem dX12_readPart_212 : decode cX12_readPart 212 = .ok (.goto 24, 3) := by decide +kernel
theorem dX12_readPart_215 : decode cX12_readPart 215 = .ok (.aload_n 0, 1) := by decide +kernel
theorem dX12_readPart_216 : decode cX12_readPart 216 = .ok (.aload_n 0, 1) := by decide +kernel
theorem dX12_readPart_217 : decode cX12_readPart 217 = .ok (.getfield 29, 3) := by decide +kernel
theorem dX12_readPart_220 : decode cX12_readPart 220 = .ok (.iconst 5, 1) := by decide +kernel
theorem dX12_readPart_221 : decode cX12_readPart 221 = .ok (.iload_n 1, 1) := by decide +kernel
theorem dX12_readPart_222 : decode cX12_readPart 222 = .ok (.imul, 1) := by decide +kernel
theorem dX12_readPart_223 : decode cX12_readPart 223 = .ok (.iload 6, 2) := by decide +kernel
theorem dX12_readPart_225 : decode cX12_readPart 225 = .ok (.iadd, 1) := by decide +kernel
theorem dX12_readPart_226 : decode cX12_readPart 226 = .ok (.iaload, 1) := by decide +kernel
theorem dX12_readPart_227 : decode cX12_readPart 227 = .ok (.aload_n 0, 1) := by decide +kernel
theorem dX12_readPart_228 : decode cX12_readPart 228 = .ok (.getfield 258, 3) := by decide +kernel
theorem dX12_readPart_231 : decode cX12_readPart 231 = .ok (.lload 9, 2) := by decide +kernel
theorem dX12_readPart_233 : decode cX12_readPart 233 = .ok (.invokevirtual 129, 3) := by decide +kernel
theorem dX12_readPart_236 : decode cX12_readPart 236 = .ok (.istore 11, 2) := by decide +kernel
theorem dX12_readPart_238 : decode cX12_readPart 238 = .ok (.iload 11, 2) := by decide +kernel
theorem dX12_readPart_240 : decode cX12_readPart 240 = .ok (.bipush (-3), 2) := by decide +kernel
theorem dX12_readPart_242 : decode cX12_readPart 242 = .ok (.if_icmp .ne 9, 3) := by decide +kernel
theorem dX12_readPart_245 : decode cX12_readPart 245 = .ok (.aload_n 0, 1) := by decide +kernel
theorem dX12_readPart_246 : decode cX12_readPart 246 = .ok (.bipush 7, 2) := by decide +kernel
theorem dX12_readPart_248 : decode cX12_readPart 248 = .ok (.invokevirtual 247, 3) := by decide +kernel
theorem dX12_readPart_251 : decode cX12_readPart 251 = .ok (.aload_n 0, 1) := by decide +kernel
theorem dX12_readPart_252 : decode cX12_readPart 252 = .ok (.getfield 85, 3) := by decide +kernel
theorem dX12_readPart_255 : decode cX12_readPart 255 = .ok (.iload 8, 2) := by decide +kernel
theorem dX12_readPart_257 : decode cX12_readPart 257 = .ok (.iload 11, 2) := by decide +kernel
theorem dX12_readPart_259 : decode cX12_readPart 259 = .ok (.iastore, 1) := by decide +kernel
theorem dX12_readPart_260 : decode cX12_readPart 260 = .ok (.goto 126, 3) := by decide +kernel
theorem dX12_readPart_263 : decode cX12_readPart 263 = .ok (.lload 4, 2) := by decide +kernel
theorem dX12_readPart_265 : decode cX12_readPart 265 = .ok (.ldc2_w 137, 3) := by decide +kernel
theorem dX12_readPart_268 : decode cX12_readPart 268 = .ok (.lcmp, 1) := by decide +kernel
theorem dX12_readPart_269 : decode cX12_readPart 269 = .ok (.ifCond .ne 38, 3) := by decide +kernel
theorem dX12_readPart_272 : decode cX12_readPart 272 = .ok (.aload_n 0, 1) := by decide +kernel
theorem dX12_readPart_273 : decode cX12_readPart 273 = .ok (.iload 7, 2) := by decide +kernel
theorem dX12_readPart_275 : decode cX12_readPart 275 = .ok (.invokevirtual 261, 3) := by decide +kernel
theorem dX12_readPart_278 : decode cX12_readPart 278 = .ok (.istore 9, 2) := by decide +kernel
theorem dX12_readPart_280 : decode cX12_readPart 280 = .ok (.aload_n 0, 1) := by decide +kernel
theorem dX12_readPart_281 : decode cX12_readPart 281 = .ok (.getfield 85, 3) := by decide +kernel
theorem dX12_readPart_284 : decode cX12_readPart 284 = .ok (.iload 8, 2) := by decide +kernel
theorem dX12_readPart_286 : decode cX12_readPart 286 = .ok (.iload 7, 2) := by decide +kernel
theorem dX12_readPart_288 : decode cX12_readPart 288 = .ok (.ifCond .eq 8, 3) := by decide +kernel
theorem dX12_readPart_291 : decode cX12_readPart 291 = .ok (.iload 9, 2) := by decide +kernel
theorem dX12_readPart_293 : decode cX12_readPart 293 = .ok (.goto 10, 3) := by decide +kernel
theorem dX12_readPart_296 : decode cX12_readPart 296 = .ok (.aload_n 0, 1) := by decide +kernel
theorem dX12_readPart_297 : decode cX12_readPart 297 = .ok (.getfield 85, 3) := by decide +kernel
theorem dX12_readPart_300 : decode cX12_readPart 300 = .ok (.iload 8, 2) := by decide +kernel
theorem dX12_readPart_302 : decode cX12_readPart 302 = .ok (.iaload, 1) := by decide +kernel
theorem dX12_readPart_303 : decode cX12_readPart 303 = .ok (.iastore, 1) := by decide +kernel
theorem dX12_readPart_304 : decode cX12_readPart 304 = .ok (.goto 82, 3) := by decide +kernel
theorem dX12_readPart_307 : decode cX12_readPart 307 = .ok (.aload_n 0, 1) := by decide +kernel
theorem dX12_readPart_308 : decode cX12_readPart 308 = .ok (.invokevirtual 254, 3) := by decide +kernel
theorem dX12_readPart_311 : decode cX12_readPart 311 = .ok (.lstore 9, 2) := by decide +kernel
theorem dX12_readPart_313 : decode cX12_readPart 313 = .ok (.aload_n 0, 1) := by decide +kernel
theorem dX12_readPart_314 : decode cX12_readPart 314 = .ok (.getfield 85, 3) := by decide +kernel
theorem dX12_readPart_317 : decode cX12_readPart 317 = .ok (.iload 8, 2) := by decide +kernel
theorem dX12_readPart_319 : decode cX12_readPart 319 = .ok (.iload 7, 2) := by decide +kernel
theorem dX12_readPart_321 : decode cX12_readPart 321 = .ok (.ifCond .eq 14, 3) := by decide +kernel
theorem dX12_readPart_324 : decode cX12_readPart 324 = .ok (.lload 9, 2) := by decide +kernel
theorem dX12_readPart_326 : decode cX12_readPart 326 = .ok (.lconst 0, 1) := by decide +kernel
theorem dX12_readPart_327 : decode cX12_readPart 327 = .ok (.lcmp, 1) := by decide +kernel
theorem dX12_readPart_328 : decode cX12_readPart 328 = .ok (.ifCond .ne 7, 3) := by decide +kernel
theorem dX12_readPart_331 : decode cX12_readPart 331 = .ok (.iconst (-1), 1) := by decide +kernel
theorem dX12_readPart_332 : decode cX12_readPart 332 = .ok (.goto 10, 3) := by decide +kernel
theorem dX12_readPart_335 : decode cX12_readPart 335 = .ok (.aload_n 0, 1) := by decide +kernel
theorem dX12_readPart_336 : decode cX12_readPart 336 = .ok (.getfield 85, 3) := by decide +kernel
theorem dX12_readPart_339 : decode cX12_readPart 339 = .ok (.iload 8, 2) := by decide +kernel
theorem dX12_readPart_341 : decode cX12_readPart 341 = .ok (.iaload, 1) := by decide +kernel
theorem dX12_readPart_342 : decode cX12_readPart 342 = .ok (.iastore, 1) := by decide +kernel
theorem dX12_readPart_343 : decode cX12_readPart 343 = .ok (.aload_n 0, 1) := by decide +kernel
theorem dX12_readPart_344 : decode cX12_readPart 344 = .ok (.getfield 238, 3) := by decide +kernel
theorem dX12_readPart_347 : decode cX12_readPart 347 = .ok (.ifCond .ne 39, 3) := by decide +kernel
theorem dX12_readPart_350 : decode cX12_readPart 350 = .ok (.lload 9, 2) := by decide +kernel
theorem dX12_readPart_352 : decode cX12_readPart 352 = .ok (.lconst 0, 1) := by decide +kernel
theorem dX12_readPart_353 : decode cX12_readPart 353 = .ok (.lcmp, 1) := by decide +kernel
theorem dX12_readPart_354 : decode cX12_readPart 354 = .ok (.ifCond .eq 32, 3) := by decide +kernel
theorem dX12_readPart_357 : decode cX12_readPart 357 = .ok (.aload_n 0, 1) := by decide +kernel
theorem dX12_readPart_358 : decode cX12_readPart 358 = .ok (.getfield 112, 3) := by decide +kernel
theorem dX12_readPart_361 : decode cX12_readPart 361 = .ok (.aload_n 0, 1) := by decide +kernel
theorem dX12_readPart_362 : decode cX12_readPart 362 = .ok (.getfield 251, 3) := by decide +kernel
theorem dX12_readPart_365 : decode cX12_readPart 365 = .ok (.iconst 1, 1) := by decide +kernel
theorem dX12_readPart_366 : decode cX12_readPart 366 = .ok (.isub, 1) := by decide +kernel
theorem dX12_readPart_367 : decode cX12_readPart 367 = .ok (.iload 7, 2) := by decide +kernel
theorem dX12_readPart_369 : decode cX12_readPart 369 = .ok (.ifCond .eq 8, 3) := by decide +kernel
theorem dX12_readPart_372 : decode cX12_readPart 372 = .ok (.iload 6, 2) := by decide +kernel
theorem dX12_readPart_374 : decode cX12_readPart 374 = .ok (.goto 5, 3) := by decide +kernel
theorem dX12_readPart_377 : decode cX12_readPart 377 = .ok (.bipush (-3), 2) := by decide +kernel
theorem dX12_readPart_379 : decode cX12_readPart 379 = .ok (.iastore, 1) := by decide +kernel
theorem dX12_readPart_380 : decode cX12_readPart 380 = .ok (.aload_n 0, 1) := by decide +kernel
theorem dX12_readPart_381 : decode cX12_readPart 381 = .ok (.iload 7, 2) := by decide +kernel
theorem dX12_readPart_383 : decode cX12_readPart 383 = .ok (.invokevirtual 265, 3) := by decide +kernel
theorem dX12_readPart_386 : decode cX12_readPart 386 = .ok (.return_, 1) := by decide +kernel
theorem dX12_endRecord_0 : decode cX12_endRecord 0 = .ok (.iconst (-1), 1) := by decide +kernel
theorem dX12_endRecord_1 : decode cX12_endRecord 1 = .ok (.istore_n 1, 1) := by decide +kernel
theorem dX12_endRecord_2 : decode cX12_endRecord 2 = .ok (.aload_n 0, 1) := by decide +kernel
theorem dX12_endRecord_3 : decode cX12_endRecord 3 = .ok (.getfield 106, 3) := by decide +kernel
theorem dX12_endRecord_6 : decode cX12_endRecord 6 = .ok (.aload_n 0, 1) := by decide +kernel
theorem dX12_endRecord_7 : decode cX12_endRecord 7 = .ok (.getfield 251, 3) := by decide +kernel
theorem dX12_endRecord_10 : decode cX12_endRecord 10 = .ok (.iconst 1, 1) := by decide +kernel
theorem dX12_endRecord_11 : decode cX12_endRecord 11 = .ok (.isub, 1) := by decide +kernel
theorem dX12_endRecord_12 : decode cX12_endRecord 12 = .ok (.iaload, 1) := by decide +kernel
theorem dX12_endRecord_13 : decode cX12_endRecord 13 = .ok (.ifCond .lt 39, 3) := by decide +kernel
theorem dX12_endRecord_16 : decode cX12_endRecord 16 = .ok (.aload_n 0, 1) := by decide +kernel
theorem dX12_endRecord_17 : decode cX12_endRecord 17 = .ok (.aload_n 0, 1) := by decide +kernel
theorem dX12_endRecord_18 : decode cX12_endRecord 18 = .ok (.getfield 106, 3) := by decide +kernel
theorem dX12_endRecord_21 : decode cX12_endRecord 21 = .ok (.aload_n 0, 1) := by decide +kernel
theorem dX12_endRecord_22 : decode cX12_endRecord 22 = .ok (.getfield 251, 3) := by decide +kernel
theorem dX12_endRecord_25 : decode cX12_endRecord 25 = .ok (.iconst 1, 1) := by decide +kernel
theorem dX12_endRecord_26 : decode cX12_endRecord 26 = .ok (.isub, 1) := by decide +kernel
theorem dX12_endRecord_27 : decode cX12_endRecord 27 = .ok (.iaload, 1) := by decide +kernel
theorem dX12_endRecord_28 : decode cX12_endRecord 28 = .ok (.iconst 5, 1) := by decide +kernel
theorem dX12_endRecord_29 : decode cX12_endRecord 29 = .ok (.aload_n 0, 1) := by decide +kernel
theorem dX12_endRecord_30 : decode cX12_endRecord 30 = .ok (.getfield 251, 3) := by decide +kernel
theorem dX12_endRecord_33 : decode cX12_endRecord 33 = .ok (.imul, 1) := by decide +kernel
theorem dX12_endRecord_34 : decode cX12_endRecord 34 = .ok (.invokevirtual 183, 3) := by decide +kernel
theorem dX12_endRecord_37 : decode cX12_endRecord 37 = .ok (.istore_n 1, 1) := by decide +kernel
theorem dX12_endRecord_38 : decode cX12_endRecord 38 = .ok (.iload_n 1, 1) := by decide +kernel
theorem dX12_endRecord_39 : decode cX12_endRecord 39 = .ok (.ifCond .ge 13, 3) := by decide +kernel
theorem dX12_endRecord_42 : decode cX12_endRecord 42 = .ok (.aload_n 0, 1) := by decide +kernel
theorem dX12_endRecord_43 : decode cX12_endRecord 43 = .ok (.bipush (-10), 2) := by decide +kernel
theorem dX12_endRecord_45 : decode cX12_endRecord 45 = .ok (.iload_n 1, 1) := by decide +kernel
theorem dX12_endRecord_46 : decode cX12_endRecord 46 = .ok (.isub, 1) := by decide +kernel
theorem dX12_endRecord_47 : decode cX12_endRecord 47 = .ok (.invokevirtual 247, 3) := by decide +kernel
theorem dX12_endRecord_50 : decode cX12_endRecord 50 = .ok (.iconst (-1), 1) := by decide +kernel
theorem dX12_endRecord_51 : decode cX12_endRecord 51 = .ok (.ireturn, 1) := by decide +kernel
theorem dX12_endRecord_52 : decode cX12_endRecord 52 = .ok (.aload_n 0, 1) := by decide +kernel
theorem dX12_endRecord_53 : decode cX12_endRecord 53 = .ok (.dup, 1) := by decide +kernel
theorem dX12_endRecord_54 : decode cX12_endRecord 54 = .ok (.getfield 251, 3) := by decide +kernel
theorem dX12_endRecord_57 : decode cX12_endRecord 57 = .ok (.iconst 1, 1) := by decide +kernel
theorem dX12_endRecord_58 : decode cX12_endRecord 58 = .ok (.isub, 1) := by decide +kernel
theorem dX12_endRecord_59 : decode cX12_endRecord 59 = .ok (.putfield 251, 3) := by decide +kernel
theorem dX12_endRecord_62 : decode cX12_endRecord 62 = .ok (.aload_n 0, 1) := by decide +kernel
theorem dX12_endRecord_63 : decode cX12_endRecord 63 = .ok (.getfield 251, 3) := by decide +kernel
theorem dX12_endRecord_66 : decode cX12_endRecord 66 = .ok (.ifCond .le 41, 3) := by decide +kernel
theorem dX12_endRecord_69 : decode cX12_endRecord 69 = .ok (.aload_n 0, 1) := by decide +kernel
theorem dX12_endRecord_70 : decode cX12_endRecord 70 = .ok (.getfield 112, 3) := by decide +kernel
theorem dX12_endRecord_73 : decode cX12_endRecord 73 = .ok (.aload_n 0, 1) := by decide +kernel
theorem dX12_endRecord_74 : decode cX12_endRecord 74 = .ok (.getfield 251, 3) := by decide +kernel
theorem dX12_endRecord_77 : decode cX12_endRecord 77 = .ok (.iconst 1, 1) := by decide +kernel
theorem dX12_endRecord_78 : decode cX12_endRecord 78 = .ok (.isub, 1) := by decide +kernel
theorem dX12_endRecord_79 : decode cX12_endRecord 79 = .ok (.iaload, 1) := by decide +kernel
theorem dX12_endRecord_80 : decode cX12_endRecord 80 = .ok (.ifCond .lt 27, 3) := by decide +kernel
theorem dX12_endRecord_83 : decode cX12_endRecord 83 = .ok (.aload_n 0, 1) := by decide +kernel
theorem dX12_endRecord_84 : decode cX12_endRecord 84 = .ok (.getfield 85, 3) := by decide +kernel
theorem dX12_endRecord_87 : decode cX12_endRecord 87 = .ok (.iconst 5, 1) := by decide +kernel
theorem dX12_endRecord_88 : decode cX12_endRecord 88 = .ok (.aload_n 0, 1) := by decide +kernel
theorem dX12_endRecord_89 : decode cX12_endRecord 89 = .ok (.getfield 251, 3) := by decide +kernel
theorem dX12_endRecord_92 : decode cX12_endRecord 92 = .ok (.imul, 1) := by decide +kernel
theorem dX12_endRecord_93 : decode cX12_endRecord 93 = .ok (.aload_n 0, 1) := by decide +kernel
theorem dX12_endRecord_94 : decode cX12_endRecord 94 = .ok (.getfield 112, 3) := by decide +kernel
theorem dX12_endRecord_97 : decode cX12_endRecord 97 = .ok (.aload_n 0, 1) := by decide +kernel
theorem dX12_endRecord_98 : decode cX12_endRecord 98 = .ok (.getfield 251, 3) := by decide +kernel
theorem dX12_endRecord_101 : decode cX12_endRecord 101 = .ok (.iconst 1, 1) := by decide +kernel
theorem dX12_endRecord_102 : decode cX12_endRecord 102 = .ok (.isub, 1) := by decide +kernel
theorem dX12_endRecord_103 : decode cX12_endRecord 103 = .ok (.iaload, 1) := by decide +kernel
theorem dX12_endRecord_104 : decode cX12_endRecord 104 = .ok (.iadd, 1) := by decide +kernel
theorem dX12_endRecord_105 : decode cX12_endRecord 105 = .ok (.iload_n 1, 1) := by decide +kernel
theorem dX12_endRecord_106 : decode cX12_endRecord 106 = .ok (.iastore, 1) := by decide +kernel
theorem dX12_endRecord_107 : decode cX12_endRecord 107 = .ok (.iload_n 1, 1) := by decide +kernel
theorem dX12_endRecord_108 : decode cX12_endRecord 108 = .ok (.ireturn, 1) := by decide +kernel
theorem dX12_read_0 : decode cX12_read 0 = .ok (.iload_n 1, 1) := by decide +kernel
theorem dX12_read_1 : decode cX12_read 1 = .ok (.invokestatic 125, 3) := by decide +kernel
theorem dX12_read_4 : decode cX12_read 4 = .ok (.ifCond .eq 10, 3) := by decide +kernel
theorem dX12_read_7 : decode cX12_read 7 = .ok (.iload_n 2, 1) := by decide +kernel
theorem dX12_read_8 : decode cX12_read 8 = .ok (.invokestatic 148, 3) := by decide +kernel
theorem dX12_read_11 : decode cX12_read 11 = .ok (.ifCond .ne 5, 3) := by decide +kernel
theorem dX12_read_14 : decode cX12_read 14 = .ok (.iconst (-1), 1) := by decide +kernel
theorem dX12_read_15 : decode cX12_read 15 = .ok (.ireturn, 1) := by decide +kernel
theorem dX12_read_16 : decode cX12_read 16 = .ok (.aload_n 0, 1) := by decide +kernel
theorem dX12_read_17 : decode cX12_read 17 = .ok (.getfield 151, 3) := by decide +kernel
theorem dX12_read_20 : decode cX12_read 20 = .ok (.istore_n 3, 1) := by decide +kernel
theorem dX12_read_21 : decode cX12_read 21 = .ok (.aload_n 0, 1) := by decide +kernel
theorem dX12_read_22 : decode cX12_read 22 = .ok (.getfield 177, 3) := by decide +kernel
theorem dX12_read_25 : decode cX12_read 25 = .ok (.istore 4, 2) := by decide +kernel
theorem dX12_read_27 : decode cX12_read 27 = .ok (.aload_n 0, 1) := by decide +kernel
theorem dX12_read_28 : decode cX12_read 28 = .ok (.iload_n 1, 1) := by decide +kernel
theorem dX12_read_29 : decode cX12_read 29 = .ok (.putfield 258, 3) := by decide +kernel
theorem dX12_read_32 : decode cX12_read 32 = .ok (.aload_n 0, 1) := by decide +kernel
theorem dX12_read_33 : decode cX12_read 33 = .ok (.iconst 0, 1) := by decide +kernel
theorem dX12_read_34 : decode cX12_read 34 = .ok (.putfield 241, 3) := by decide +kernel
theorem dX12_read_37 : decode cX12_read 37 = .ok (.aload_n 0, 1) := by decide +kernel
theorem dX12_read_38 : decode cX12_read 38 = .ok (.bipush (-3), 2) := by decide +kernel
theorem dX12_read_40 : decode cX12_read 40 = .ok (.putfield 244, 3) := by decide +kernel
theorem dX12_read_43 : decode cX12_read 43 = .ok (.aload_n 0, 1) := by decide +kernel
theorem dX12_read_44 : decode cX12_read 44 = .ok (.iconst 0, 1) := by decide +kernel
theorem dX12_read_45 : decode cX12_read 45 = .ok (.putfield 238, 3) := by decide +kernel
theorem dX12_read_48 : decode cX12_read 48 = .ok (.aload_n 0, 1) := by decide +kernel
theorem dX12_read_49 : decode cX12_read 49 = .ok (.iconst 0, 1) := by decide +kernel
theorem dX12_read_50 : decode cX12_read 50 = .ok (.putfield 251, 3) := by decide +kernel
theorem dX12_read_53 : decode cX12_read 53 = .ok (.iconst (-1), 1) := by decide +kernel
theorem dX12_read_54 : decode cX12_read 54 = .ok (.istore 5, 2) := by decide +kernel
theorem dX12_read_56 : decode cX12_read 56 = .ok (.aload_n 0, 1) := by decide +kernel
theorem dX12_read_57 : decode cX12_read 57 = .ok (.iconst 1, 1) := by decide +kernel
theorem dX12_read_58 : decode cX12_read 58 = .ok (.invokevirtual 265, 3) := by decide +kernel
theorem dX12_read_61 : decode cX12_read 61 = .ok (.aload_n 0, 1) := by decide +kernel
theorem dX12_read_62 : decode cX12_read 62 = .ok (.getfield 238, 3) := by decide +kernel
theorem dX12_read_65 : decode cX12_read 65 = .ok (.ifCond .ne 57, 3) := by decide +kernel
theorem dX12_read_68 : decode cX12_read 68 = .ok (.aload_n 0, 1) := by decide +kernel
theorem dX12_read_69 : decode cX12_read 69 = .ok (.getfield 251, 3) := by decide +kernel
theorem dX12_read_72 : decode cX12_read 72 = .ok (.ifCond .le 50, 3) := by decide +kernel
theorem dX12_read_75 : decode cX12_read 75 = .ok (.aload_n 0, 1) := by decide +kernel
theorem dX12_read_76 : decode cX12_read 76 = .ok (.getfield 109, 3) := by decide +kernel
theorem dX12_read_79 : decode cX12_read 79 = .ok (.aload_n 0, 1) := by decide +kernel
theorem dX12_read_80 : decode cX12_read 80 = .ok (.getfield 251, 3) := by decide +kernel
theorem dX12_read_83 : decode cX12_read 83 = .ok (.iconst 1, 1) := by decide +kernel
theorem dX12_read_84 : decode cX12_read 84 = .ok (.isub, 1) := by decide +kernel
theorem dX12_read_85 : decode cX12_read 85 = .ok (.laload, 1) := by decide +kernel
theorem dX12_read_86 : decode cX12_read 86 = .ok (.lconst 0, 1) := by decide +kernel
theorem dX12_read_87 : decode cX12_read 87 = .ok (.lcmp, 1) := by decide +kernel
theorem dX12_read_88 : decode cX12_read 88 = .ok (.ifCond .le 25, 3) := by decide +kernel
theorem dX12_read_91 : decode cX12_read 91 = .ok (.aload_n 0, 1) := by decide +kernel
theorem dX12_read_92 : decode cX12_read 92 = .ok (.getfield 109, 3) := by decide +kernel
theorem dX12_read_95 : decode cX12_read 95 = .ok (.aload_n 0, 1) := by decide +kernel
theorem dX12_read_96 : decode cX12_read 96 = .ok (.getfield 251, 3) := by decide +kernel
theorem dX12_read_99 : decode cX12_read 99 = .ok (.iconst 1, 1) := by decide +kernel
theorem dX12_read_100 : decode cX12_read 100 = .ok (.isub, 1) := by decide +kernel
theorem dX12_read_101 : decode cX12_read 101 = .ok (.dup2, 1) := by decide +kernel
theorem dX12_read_102 : decode cX12_read 102 = .ok (.laload, 1) := by decide +kernel
theorem dX12_read_103 : decode cX12_read 103 = .ok (.lconst 1, 1) := by decide +kernel
theorem dX12_read_104 : decode cX12_read 104 = .ok (.lsub, 1) := by decide +kernel
theorem dX12_read_105 : decode cX12_read 105 = .ok (.lastore, 1) := by decide +kernel
theorem dX12_read_106 : decode cX12_read 106 = .ok (.aload_n 0, 1) := by decide +kernel
theorem dX12_read_107 : decode cX12_read 107 = .ok (.invokevirtual 269, 3) := by decide +kernel
theorem dX12_read_110 : decode cX12_read 110 = .ok (.goto (-49), 3) := by decide +kernel
theorem dX12_read_113 : decode cX12_read 113 = .ok (.aload_n 0, 1) := by decide +kernel
theorem dX12_read_114 : decode cX12_read 114 = .ok (.invokevirtual 272, 3) := by decide +kernel
theorem dX12_read_117 : decode cX12_read 117 = .ok (.istore 5, 2) := by decide +kernel
theorem dX12_read_119 : decode cX12_read 119 = .ok (.goto (-58), 3) := by decide +kernel
theorem dX12_read_122 : decode cX12_read 122 = .ok (.aload_n 0, 1) := by decide +kernel
theorem dX12_read_123 : decode cX12_read 123 = .ok (.aload_n 0, 1) := by decide +kernel
theorem dX12_read_124 : decode cX12_read 124 = .ok (.getfield 238, 3) := by decide +kernel
theorem dX12_read_127 : decode cX12_read 127 = .ok (.putfield 187, 3) := by decide +kernel
theorem dX12_read_130 : decode cX12_read 130 = .ok (.aload_n 0, 1) := by decide +kernel
theorem dX12_read_131 : decode cX12_read 131 = .ok (.aload_n 0, 1) := by decide +kernel
theorem dX12_read_132 : decode cX12_read 132 = .ok (.getfield 238, 3) := by decide +kernel
theorem dX12_read_135 : decode cX12_read 135 = .ok (.ifCond .ne 8, 3) := by decide +kernel
theorem dX12_read_138 : decode cX12_read 138 = .ok (.bipush (-3), 2) := by decide +kernel
theorem dX12_read_140 : decode cX12_read 140 = .ok (.goto 7, 3) := by decide +kernel
theorem dX12_read_143 : decode cX12_read 143 = .ok (.aload_n 0, 1) := by decide +kernel
theorem dX12_read_144 : decode cX12_read 144 = .ok (.getfield 244, 3) := by decide +kernel
theorem dX12_read_147 : decode cX12_read 147 = .ok (.putfield 78, 3) := by decide +kernel
theorem dX12_read_150 : decode cX12_read 150 = .ok (.aload_n 0, 1) := by decide +kernel
theorem dX12_read_151 : decode cX12_read 151 = .ok (.aload_n 0, 1) := by decide +kernel
theorem dX12_read_152 : decode cX12_read 152 = .ok (.getfield 238, 3) := by decide +kernel
theorem dX12_read_155 : decode cX12_read 155 = .ok (.ifCond .ne 7, 3) := by decide +kernel
theorem dX12_read_158 : decode cX12_read 158 = .ok (.iconst 0, 1) := by decide +kernel
theorem dX12_read_159 : decode cX12_read 159 = .ok (.goto 7, 3) := by decide +kernel
theorem dX12_read_162 : decode cX12_read 162 = .ok (.aload_n 0, 1) := by decide +kernel
theorem dX12_read_163 : decode cX12_read 163 = .ok (.getfield 251, 3) := by decide +kernel
theorem dX12_read_166 : decode cX12_read 166 = .ok (.putfield 190, 3) := by decide +kernel
theorem dX12_read_169 : decode cX12_read 169 = .ok (.aload_n 0, 1) := by decide +kernel
theorem dX12_read_170 : decode cX12_read 170 = .ok (.getfield 238, 3) := by decide +kernel
theorem dX12_read_173 : decode cX12_read 173 = .ok (.ifCond .ne 24, 3) := by decide +kernel
theorem dX12_read_176 : decode cX12_read 176 = .ok (.aload_n 0, 1) := by decide +kernel
theorem dX12_read_177 : decode cX12_read 177 = .ok (.getfield 66, 3) := by decide +kernel
theorem dX12_read_180 : decode cX12_read 180 = .ok (.iload_n 2, 1) := by decide +kernel
theorem dX12_read_181 : decode cX12_read 181 = .ok (.iload 5, 2) := by decide +kernel
theorem dX12_read_183 : decode cX12_read 183 = .ok (.iastore, 1) := by decide +kernel
theorem dX12_read_184 : decode cX12_read 184 = .ok (.aload_n 0, 1) := by decide +kernel
theorem dX12_read_185 : decode cX12_read 185 = .ok (.dup, 1) := by decide +kernel
theorem dX12_read_186 : decode cX12_read 186 = .ok (.getfield 276, 3) := by decide +kernel
theorem dX12_read_189 : decode cX12_read 189 = .ok (.iconst 1, 1) := by decide +kernel
theorem dX12_read_190 : decode cX12_read 190 = .ok (.iadd, 1) := by decide +kernel
theorem dX12_read_191 : decode cX12_read 191 = .ok (.putfield 276, 3) := by decide +kernel
theorem dX12_read_194 : decode cX12_read 194 = .ok (.goto 24, 3) := by decide +kernel
theorem dX12_read_197 : decode cX12_read 197 = .ok (.aload_n 0, 1) := by decide +kernel
theorem dX12_read_198 : decode cX12_read 198 = .ok (.iload_n 3, 1) := by decide +kernel
theorem dX12_read_199 : decode cX12_read 199 = .ok (.putfield 151, 3) := by decide +kernel
theorem dX12_read_202 : decode cX12_read 202 = .ok (.aload_n 0, 1) := by decide +kernel
theorem dX12_read_203 : decode cX12_read 203 = .ok (.iload 4, 2) := by decide +kernel
theorem dX12_read_205 : decode cX12_read 205 = .ok (.putfield 177, 3) := by decide +kernel
theorem dX12_read_208 : decode cX12_read 208 = .ok (.aload_n 0, 1) := by decide +kernel
theorem dX12_read_209 : decode cX12_read 209 = .ok (.dup, 1) := by decide +kernel
theorem dX12_read_210 : decode cX12_read 210 = .ok (.getfield 279, 3) := by decide +kernel
theorem dX12_read_213 : decode cX12_read 213 = .ok (.iconst 1, 1) := by decide +kernel
theorem dX12_read_214 : decode cX12_read 214 = .ok (.iadd, 1) := by decide +kernel
theorem dX12_read_215 : decode cX12_read 215 = .ok (.putfield 279, 3) := by decide +kernel
theorem dX12_read_218 : decode cX12_read 218 = .ok (.aload_n 0, 1) := by decide +kernel
theorem dX12_read_219 : decode cX12_read 219 = .ok (.getfield 187, 3) := by decide +kernel
theorem dX12_read_222 : decode cX12_read 222 = .ok (.ireturn, 1) := by decide +kernel
theorem dX12_cause_0 : decode cX12_cause 0 = .ok (.iload_n 1, 1) := by decide +kernel
theorem dX12_cause_1 : decode cX12_cause 1 = .ok (.ifCond .ne 10, 3) := by decide +kernel
theorem dX12_cause_4 : decode cX12_cause 4 = .ok (.aload_n 0, 1) := by decide +kernel
theorem dX12_cause_5 : decode cX12_cause 5 = .ok (.getfield 187, 3) := by decide +kernel
theorem dX12_cause_8 : decode cX12_cause 8 = .ok (.goto 28, 3) := by decide +kernel
theorem dX12_cause_11 : decode cX12_cause 11 = .ok (.iload_n 1, 1) := by decide +kernel
theorem dX12_cause_12 : decode cX12_cause 12 = .ok (.iconst 1, 1) := by decide +kernel
theorem dX12_cause_13 : decode cX12_cause 13 = .ok (.if_icmp .ne 10, 3) := by decide +kernel
theorem dX12_cause_16 : decode cX12_cause 16 = .ok (.aload_n 0, 1) := by decide +kernel
theorem dX12_cause_17 : decode cX12_cause 17 = .ok (.getfield 78, 3) := by decide +kernel
theorem dX12_cause_20 : decode cX12_cause 20 = .ok (.goto 16, 3) := by decide +kernel
theorem dX12_cause_23 : decode cX12_cause 23 = .ok (.iload_n 1, 1) := by decide +kernel
theorem dX12_cause_24 : decode cX12_cause 24 = .ok (.iconst 2, 1) := by decide +kernel
theorem dX12_cause_25 : decode cX12_cause 25 = .ok (.if_icmp .ne 10, 3) := by decide +kernel
theorem dX12_cause_28 : decode cX12_cause 28 = .ok (.aload_n 0, 1) := by decide +kernel
theorem dX12_cause_29 : decode cX12_cause 29 = .ok (.getfield 190, 3) := by decide +kernel
theorem dX12_cause_32 : decode cX12_cause 32 = .ok (.goto 4, 3) := by decide +kernel
theorem dX12_cause_35 : decode cX12_cause 35 = .ok (.iconst (-1), 1) := by decide +kernel
theorem dX12_cause_36 : decode cX12_cause 36 = .ok (.ireturn, 1) := by decide +kernel
theorem dX12_status_0 : decode cX12_status 0 = .ok (.aload_n 0, 1) := by decide +kernel
theorem dX12_status_1 : decode cX12_status 1 = .ok (.getfield 198, 3) := by decide +kernel
theorem dX12_status_4 : decode cX12_status 4 = .ok (.ireturn, 1) := by decide +kernel
theorem dX12_count_0 : decode cX12_count 0 = .ok (.iconst 0, 1) := by decide +kernel
theorem dX12_count_1 : decode cX12_count 1 = .ok (.istore_n 2, 1) := by decide +kernel
theorem dX12_count_2 : decode cX12_count 2 = .ok (.iconst 0, 1) := by decide +kernel
theorem dX12_count_3 : decode cX12_count 3 = .ok (.istore_n 3, 1) := by decide +kernel
theorem dX12_count_4 : decode cX12_count 4 = .ok (.iload_n 3, 1) := by decide +kernel
theorem dX12_count_5 : decode cX12_count 5 = .ok (.bipush 10, 2) := by decide +kernel
theorem dX12_count_7 : decode cX12_count 7 = .ok (.if_icmp .ge 27, 3) := by decide +kernel
theorem dX12_count_10 : decode cX12_count 10 = .ok (.iload_n 2, 1) := by decide +kernel
theorem dX12_count_11 : decode cX12_count 11 = .ok (.aload_n 0, 1) := by decide +kernel
theorem dX12_count_12 : decode cX12_count 12 = .ok (.getfield 66, 3) := by decide +kernel
theorem dX12_count_15 : decode cX12_count 15 = .ok (.iload_n 3, 1) := by decide +kernel
theorem dX12_count_16 : decode cX12_count 16 = .ok (.iaload, 1) := by decide +kernel
theorem dX12_count_17 : decode cX12_count 17 = .ok (.iconst (-1), 1) := by decide +kernel
theorem dX12_count_18 : decode cX12_count 18 = .ok (.if_icmp .ne 7, 3) := by decide +kernel
theorem dX12_count_21 : decode cX12_count 21 = .ok (.iconst 0, 1) := by decide +kernel
theorem dX12_count_22 : decode cX12_count 22 = .ok (.goto 4, 3) := by decide +kernel
theorem dX12_count_25 : decode cX12_count 25 = .ok (.iconst 1, 1) := by decide +kernel
theorem dX12_count_26 : decode cX12_count 26 = .ok (.iadd, 1) := by decide +kernel
theorem dX12_count_27 : decode cX12_count 27 = .ok (.istore_n 2, 1) := by decide +kernel
theorem dX12_count_28 : decode cX12_count 28 = .ok (.iinc 3 1, 3) := by decide +kernel
theorem dX12_count_31 : decode cX12_count 31 = .ok (.goto (-27), 3) := by decide +kernel
theorem dX12_count_34 : decode cX12_count 34 = .ok (.iload_n 1, 1) := by decide +kernel
theorem dX12_count_35 : decode cX12_count 35 = .ok (.ifCond .ne 10, 3) := by decide +kernel
theorem dX12_count_38 : decode cX12_count 38 = .ok (.aload_n 0, 1) := by decide +kernel
theorem dX12_count_39 : decode cX12_count 39 = .ok (.getfield 180, 3) := by decide +kernel
theorem dX12_count_42 : decode cX12_count 42 = .ok (.goto 49, 3) := by decide +kernel
theorem dX12_count_45 : decode cX12_count 45 = .ok (.iload_n 1, 1) := by decide +kernel
theorem dX12_count_46 : decode cX12_count 46 = .ok (.iconst 1, 1) := by decide +kernel
theorem dX12_count_47 : decode cX12_count 47 = .ok (.if_icmp .ne 10, 3) := by decide +kernel
theorem dX12_count_50 : decode cX12_count 50 = .ok (.aload_n 0, 1) := by decide +kernel
theorem dX12_count_51 : decode cX12_count 51 = .ok (.getfield 276, 3) := by decide +kernel
theorem dX12_count_54 : decode cX12_count 54 = .ok (.goto 37, 3) := by decide +kernel
theorem dX12_count_57 : decode cX12_count 57 = .ok (.iload_n 1, 1) := by decide +kernel
theorem dX12_count_58 : decode cX12_count 58 = .ok (.iconst 2, 1) := by decide +kernel
theorem dX12_count_59 : decode cX12_count 59 = .ok (.if_icmp .ne 10, 3) := by decide +kernel
theorem dX12_count_62 : decode cX12_count 62 = .ok (.aload_n 0, 1) := by decide +kernel
theorem dX12_count_63 : decode cX12_count 63 = .ok (.getfield 279, 3) := by decide +kernel
theorem dX12_count_66 : decode cX12_count 66 = .ok (.goto 25, 3) := by decide +kernel
theorem dX12_count_69 : decode cX12_count 69 = .ok (.iload_n 1, 1) := by decide +kernel
theorem dX12_count_70 : decode cX12_count 70 = .ok (.iconst 3, 1) := by decide +kernel
theorem dX12_count_71 : decode cX12_count 71 = .ok (.if_icmp .ne 10, 3) := by decide +kernel
theorem dX12_count_74 : decode cX12_count 74 = .ok (.aload_n 0, 1) := by decide +kernel
theorem dX12_count_75 : decode cX12_count 75 = .ok (.getfield 235, 3) := by decide +kernel
theorem dX12_count_78 : decode cX12_count 78 = .ok (.goto 13, 3) := by decide +kernel
theorem dX12_count_81 : decode cX12_count 81 = .ok (.iload_n 1, 1) := by decide +kernel
theorem dX12_count_82 : decode cX12_count 82 = .ok (.iconst 4, 1) := by decide +kernel
theorem dX12_count_83 : decode cX12_count 83 = .ok (.if_icmp .ne 7, 3) := by decide +kernel
theorem dX12_count_86 : decode cX12_count 86 = .ok (.iload_n 2, 1) := by decide +kernel
theorem dX12_count_87 : decode cX12_count 87 = .ok (.goto 4, 3) := by decide +kernel
theorem dX12_count_90 : decode cX12_count 90 = .ok (.iconst (-1), 1) := by decide +kernel
theorem dX12_count_91 : decode cX12_count 91 = .ok (.ireturn, 1) := by decide +kernel
