theorem dX0_init_0 : decode cX0_init 0 = .ok (.aload_n 0, 1) := by decide +kernel
theorem dX0_init_1 : decode cX0_init 1 = .ok (.invokespecial 3, 3) := by decide +kernel
theorem dX0_init_4 : decode cX0_init 4 = .ok (.aload_n 0, 1) := by decide +kernel
theorem dX0_init_5 : decode cX0_init 5 = .ok (.iconst (-1), 1) := by decide +kernel
theorem dX0_init_6 : decode cX0_init 6 = .ok (.putfield 9, 3) := by decide +kernel
theorem dX0_init_9 : decode cX0_init 9 = .ok (.aload_n 0, 1) := by decide +kernel
theorem dX0_init_10 : decode cX0_init 10 = .ok (.bipush 6, 2) := by decide +kernel
theorem dX0_init_12 : decode cX0_init 12 = .ok (.bipush 64, 2) := by decide +kernel
theorem dX0_init_14 : decode cX0_init 14 = .ok (.multianewarray 15 2, 4) := by decide +kernel
theorem dX0_init_18 : decode cX0_init 18 = .ok (.putfield 17, 3) := by decide +kernel
theorem dX0_init_21 : decode cX0_init 21 = .ok (.aload_n 0, 1) := by decide +kernel
theorem dX0_init_22 : decode cX0_init 22 = .ok (.sipush 500, 3) := by decide +kernel
theorem dX0_init_25 : decode cX0_init 25 = .ok (.newarray .long, 2) := by decide +kernel
theorem dX0_init_27 : decode cX0_init 27 = .ok (.putfield 20, 3) := by decide +kernel
theorem dX0_init_30 : decode cX0_init 30 = .ok (.return_, 1) := by decide +kernel
theorem dX0_take_0 : decode cX0_take 0 = .ok (.aload_n 0, 1) := by decide +kernel
theorem dX0_take_1 : decode cX0_take 1 = .ok (.iload_n 1, 1) := by decide +kernel
theorem dX0_take_2 : decode cX0_take 2 = .ok (.putfield 24, 3) := by decide +kernel
theorem dX0_take_5 : decode cX0_take 5 = .ok (.aload_n 0, 1) := by decide +kernel
theorem dX0_take_6 : decode cX0_take 6 = .ok (.iload_n 2, 1) := by decide +kernel
theorem dX0_take_7 : decode cX0_take 7 = .ok (.putfield 9, 3) := by decide +kernel
theorem dX0_take_10 : decode cX0_take 10 = .ok (.iconst 0, 1) := by decide +kernel
theorem dX0_take_11 : decode cX0_take 11 = .ok (.istore 5, 2) := by decide +kernel
theorem dX0_take_13 : decode cX0_take 13 = .ok (.iload 5, 2) := by decide +kernel
theorem dX0_take_15 : decode cX0_take 15 = .ok (.bipush 6, 2) := by decide +kernel
theorem dX0_take_17 : decode cX0_take 17 = .ok (.if_icmp .ge 27, 3) := by decide +kernel
theorem dX0_take_20 : decode cX0_take 20 = .ok (.aload_n 3, 1) := by decide +kernel
theorem dX0_take_21 : decode cX0_take 21 = .ok (.iload 5, 2) := by decide +kernel
theorem dX0_take_23 : decode cX0_take 23 = .ok (.aaload, 1) := by decide +kernel
theorem dX0_take_24 : decode cX0_take 24 = .ok (.iconst 0, 1) := by decide +kernel
theorem dX0_take_25 : decode cX0_take 25 = .ok (.aload_n 0, 1) := by decide +kernel
theorem dX0_take_26 : decode cX0_take 26 = .ok (.getfield 17, 3) := by decide +kernel
theorem dX0_take_29 : decode cX0_take 29 = .ok (.iload 5, 2) := by decide +kernel
theorem dX0_take_31 : decode cX0_take 31 = .ok (.aaload, 1) := by decide +kernel
theorem dX0_take_32 : decode cX0_take 32 = .ok (.iconst 0, 1) := by decide +kernel
theorem dX0_take_33 : decode cX0_take 33 = .ok (.bipush 64, 2) := by decide +kernel
theorem dX0_take_35 : decode cX0_take 35 = .ok (.invokestatic 27, 3) := by decide +kernel
theorem dX0_take_38 : decode cX0_take 38 = .ok (.iinc 5 1, 3) := by decide +kernel
theorem dX0_take_41 : decode cX0_take 41 = .ok (.goto (-28), 3) := by decide +kernel
theorem dX0_take_44 : decode cX0_take 44 = .ok (.aload 4, 2) := by decide +kernel
theorem dX0_take_46 : decode cX0_take 46 = .ok (.iconst 0, 1) := by decide +kernel
theorem dX0_take_47 : decode cX0_take 47 = .ok (.aload_n 0, 1) := by decide +kernel
theorem dX0_take_48 : decode cX0_take 48 = .ok (.getfield 20, 3) := by decide +kernel
theorem dX0_take_51 : decode cX0_take 51 = .ok (.iconst 0, 1) := by decide +kernel
theorem dX0_take_52 : decode cX0_take 52 = .ok (.sipush 500, 3) := by decide +kernel
theorem dX0_take_55 : decode cX0_take 55 = .ok (.invokestatic 27, 3) := by decide +kernel
theorem dX0_take_58 : decode cX0_take 58 = .ok (.return_, 1) := by decide +kernel
theorem dX0_copyFrom_0 : decode cX0_copyFrom 0 = .ok (.aload_n 0, 1) := by decide +kernel
theorem dX0_copyFrom_1 : decode cX0_copyFrom 1 = .ok (.aload_n 1, 1) := by decide +kernel
theorem dX0_copyFrom_2 : decode cX0_copyFrom 2 = .ok (.getfield 24, 3) := by decide +kernel
theorem dX0_copyFrom_5 : decode cX0_copyFrom 5 = .ok (.aload_n 1, 1) := by decide +kernel
theorem dX0_copyFrom_6 : decode cX0_copyFrom 6 = .ok (.getfield 9, 3) := by decide +kernel
theorem dX0_copyFrom_9 : decode cX0_copyFrom 9 = .ok (.aload_n 1, 1) := by decide +kernel
theorem dX0_copyFrom_10 : decode cX0_copyFrom 10 = .ok (.getfield 17, 3) := by decide +kernel
theorem dX0_copyFrom_13 : decode cX0_copyFrom 13 = .ok (.aload_n 1, 1) := by decide +kernel
theorem dX0_copyFrom_14 : decode cX0_copyFrom 14 = .ok (.getfield 20, 3) := by decide +kernel
theorem dX0_copyFrom_17 : decode cX0_copyFrom 17 = .ok (.invokevirtual 33, 3) := by decide +kernel
theorem dX0_copyFrom_20 : decode cX0_copyFrom 20 = .ok (.return_, 1) := by decide +kernel
theorem dX0_at_0 : decode cX0_at 0 = .ok (.iload_n 1, 1) := by decide +kernel
theorem dX0_at_1 : decode cX0_at 1 = .ok (.ifCond .lt 19, 3) := by decide +kernel
theorem dX0_at_4 : decode cX0_at 4 = .ok (.iload_n 1, 1) := by decide +kernel
theorem dX0_at_5 : decode cX0_at 5 = .ok (.aload_n 0, 1) := by decide +kernel
theorem dX0_at_6 : decode cX0_at 6 = .ok (.getfield 9, 3) := by decide +kernel
theorem dX0_at_9 : decode cX0_at 9 = .ok (.if_icmp .ge 11, 3) := by decide +kernel
theorem dX0_at_12 : decode cX0_at 12 = .ok (.aload_n 0, 1) := by decide +kernel
theorem dX0_at_13 : decode cX0_at 13 = .ok (.iload_n 2, 1) := by decide +kernel
theorem dX0_at_14 : decode cX0_at 14 = .ok (.invokevirtual 37, 3) := by decide +kernel
theorem dX0_at_17 : decode cX0_at 17 = .ok (.ifCond .ne 7, 3) := by decide +kernel
theorem dX0_at_20 : decode cX0_at 20 = .ok (.iconst 0, 1) := by decide +kernel
theorem dX0_at_21 : decode cX0_at 21 = .ok (.goto 20, 3) := by decide +kernel
theorem dX0_at_24 : decode cX0_at 24 = .ok (.aload_n 0, 1) := by decide +kernel
theorem dX0_at_25 : decode cX0_at 25 = .ok (.getfield 17, 3) := by decide +kernel
theorem dX0_at_28 : decode cX0_at 28 = .ok (.iload_n 2, 1) := by decide +kernel
theorem dX0_at_29 : decode cX0_at 29 = .ok (.aaload, 1) := by decide +kernel
theorem dX0_at_30 : decode cX0_at 30 = .ok (.aload_n 0, 1) := by decide +kernel
theorem dX0_at_31 : decode cX0_at 31 = .ok (.getfield 20, 3) := by decide +kernel
theorem dX0_at_34 : decode cX0_at 34 = .ok (.iload_n 1, 1) := by decide +kernel
theorem dX0_at_35 : decode cX0_at 35 = .ok (.laload, 1) := by decide +kernel
theorem dX0_at_36 : decode cX0_at 36 = .ok (.iload_n 2, 1) := by decide +kernel
theorem dX0_at_37 : decode cX0_at 37 = .ok (.invokestatic 41, 3) := by decide +kernel
theorem dX0_at_40 : decode cX0_at 40 = .ok (.iaload, 1) := by decide +kernel
theorem dX0_at_41 : decode cX0_at 41 = .ok (.ireturn, 1) := by decide +kernel
theorem dX0_carries_0 : decode cX0_carries 0 = .ok (.aload_n 0, 1) := by decide +kernel
theorem dX0_carries_1 : decode cX0_carries 1 = .ok (.getfield 9, 3) := by decide +kernel
theorem dX0_carries_4 : decode cX0_carries 4 = .ok (.iconst (-1), 1) := by decide +kernel
theorem dX0_carries_5 : decode cX0_carries 5 = .ok (.if_icmp .eq 19, 3) := by decide +kernel
theorem dX0_carries_8 : decode cX0_carries 8 = .ok (.iload_n 1, 1) := by decide +kernel
theorem dX0_carries_9 : decode cX0_carries 9 = .ok (.ifCond .lt 15, 3) := by decide +kernel
theorem dX0_carries_12 : decode cX0_carries 12 = .ok (.iload_n 1, 1) := by decide +kernel
theorem dX0_carries_13 : decode cX0_carries 13 = .ok (.aload_n 0, 1) := by decide +kernel
theorem dX0_carries_14 : decode cX0_carries 14 = .ok (.getfield 24, 3) := by decide +kernel
theorem dX0_carries_17 : decode cX0_carries 17 = .ok (.if_icmp .ge 7, 3) := by decide +kernel
theorem dX0_carries_20 : decode cX0_carries 20 = .ok (.iconst 1, 1) := by decide +kernel
theorem dX0_carries_21 : decode cX0_carries 21 = .ok (.goto 4, 3) := by decide +kernel
theorem dX0_carries_24 : decode cX0_carries 24 = .ok (.iconst 0, 1) := by decide +kernel
theorem dX0_carries_25 : decode cX0_carries 25 = .ok (.ireturn, 1) := by decide +kernel
theorem dX0_inOrderWith_0 : decode cX0_inOrderWith 0 = .ok (.iconst 0, 1) := by decide +kernel
theorem dX0_inOrderWith_1 : decode cX0_inOrderWith 1 = .ok (.istore 4, 2) := by decide +kernel
theorem dX0_inOrderWith_3 : decode cX0_inOrderWith 3 = .ok (.iload 4, 2) := by decide +kernel
theorem dX0_inOrderWith_5 : decode cX0_inOrderWith 5 = .ok (.aload_n 0, 1) := by decide +kernel
theorem dX0_inOrderWith_6 : decode cX0_inOrderWith 6 = .ok (.getfield 24, 3) := by decide +kernel
theorem dX0_inOrderWith_9 : decode cX0_inOrderWith 9 = .ok (.if_icmp .ge 36, 3) := by decide +kernel
theorem dX0_inOrderWith_12 : decode cX0_inOrderWith 12 = .ok (.aload_n 0, 1) := by decide +kernel
theorem dX0_inOrderWith_13 : decode cX0_inOrderWith 13 = .ok (.iload_n 1, 1) := by decide +kernel
theorem dX0_inOrderWith_14 : decode cX0_inOrderWith 14 = .ok (.iload 4, 2) := by decide +kernel
theorem dX0_inOrderWith_16 : decode cX0_inOrderWith 16 = .ok (.invokevirtual 45, 3) := by decide +kernel
theorem dX0_inOrderWith_19 : decode cX0_inOrderWith 19 = .ok (.aload_n 2, 1) := by decide +kernel
theorem dX0_inOrderWith_20 : decode cX0_inOrderWith 20 = .ok (.iload_n 3, 1) := by decide +kernel
theorem dX0_inOrderWith_21 : decode cX0_inOrderWith 21 = .ok (.iload 4, 2) := by decide +kernel
theorem dX0_inOrderWith_23 : decode cX0_inOrderWith 23 = .ok (.invokevirtual 45, 3) := by decide +kernel
theorem dX0_inOrderWith_26 : decode cX0_inOrderWith 26 = .ok (.invokestatic 49, 3) := by decide +kernel
theorem dX0_inOrderWith_29 : decode cX0_inOrderWith 29 = .ok (.istore 5, 2) := by decide +kernel
theorem dX0_inOrderWith_31 : decode cX0_inOrderWith 31 = .ok (.iload 5, 2) := by decide +kernel
theorem dX0_inOrderWith_33 : decode cX0_inOrderWith 33 = .ok (.ifCond .eq 6, 3) := by decide +kernel
theorem dX0_inOrderWith_36 : decode cX0_inOrderWith 36 = .ok (.iload 5, 2) := by decide +kernel
theorem dX0_inOrderWith_38 : decode cX0_inOrderWith 38 = .ok (.ireturn, 1) := by decide +kernel
theorem dX0_inOrderWith_39 : decode cX0_inOrderWith 39 = .ok (.iinc 4 1, 3) := by decide +kernel
theorem dX0_inOrderWith_42 : decode cX0_inOrderWith 42 = .ok (.goto (-39), 3) := by decide +kernel
theorem dX0_inOrderWith_45 : decode cX0_inOrderWith 45 = .ok (.iconst 0, 1) := by decide +kernel
theorem dX0_inOrderWith_46 : decode cX0_inOrderWith 46 = .ok (.ireturn, 1) := by decide +kernel
theorem dX0_total_0 : decode cX0_total 0 = .ok (.lconst 0, 1) := by decide +kernel
theorem dX0_total_1 : decode cX0_total 1 = .ok (.lstore_n 2, 1) := by decide +kernel
theorem dX0_total_2 : decode cX0_total 2 = .ok (.iconst 0, 1) := by decide +kernel
theorem dX0_total_3 : decode cX0_total 3 = .ok (.istore 4, 2) := by decide +kernel
theorem dX0_total_5 : decode cX0_total 5 = .ok (.iload 4, 2) := by decide +kernel
theorem dX0_total_7 : decode cX0_total 7 = .ok (.aload_n 0, 1) := by decide +kernel
theorem dX0_total_8 : decode cX0_total 8 = .ok (.getfield 9, 3) := by decide +kernel
theorem dX0_total_11 : decode cX0_total 11 = .ok (.if_icmp .ge 20, 3) := by decide +kernel
theorem dX0_total_14 : decode cX0_total 14 = .ok (.lload_n 2, 1) := by decide +kernel
theorem dX0_total_15 : decode cX0_total 15 = .ok (.aload_n 0, 1) := by decide +kernel
theorem dX0_total_16 : decode cX0_total 16 = .ok (.iload 4, 2) := by decide +kernel
theorem dX0_total_18 : decode cX0_total 18 = .ok (.iload_n 1, 1) := by decide +kernel
theorem dX0_total_19 : decode cX0_total 19 = .ok (.invokevirtual 52, 3) := by decide +kernel
theorem dX0_total_22 : decode cX0_total 22 = .ok (.i2l, 1) := by decide +kernel
theorem dX0_total_23 : decode cX0_total 23 = .ok (.ladd, 1) := by decide +kernel
theorem dX0_total_24 : decode cX0_total 24 = .ok (.lstore_n 2, 1) := by decide +kernel
theorem dX0_total_25 : decode cX0_total 25 = .ok (.iinc 4 1, 3) := by decide +kernel
theorem dX0_total_28 : decode cX0_total 28 = .ok (.goto (-23), 3) := by decide +kernel
theorem dX0_total_31 : decode cX0_total 31 = .ok (.lload_n 2, 1) := by decide +kernel
theorem dX0_total_32 : decode cX0_total 32 = .ok (.lreturn, 1) := by decide +kernel
theorem dX0_numbers_0 : decode cX0_numbers 0 = .ok (.aload_n 0, 1) := by decide +kernel
theorem dX0_numbers_1 : decode cX0_numbers 1 = .ok (.getfield 9, 3) := by decide +kernel
theorem dX0_numbers_4 : decode cX0_numbers 4 = .ok (.i2l, 1) := by decide +kernel
theorem dX0_numbers_5 : decode cX0_numbers 5 = .ok (.aload_n 0, 1) := by decide +kernel
theorem dX0_numbers_6 : decode cX0_numbers 6 = .ok (.iload_n 1, 1) := by decide +kernel
theorem dX0_numbers_7 : decode cX0_numbers 7 = .ok (.ldc 55, 2) := by decide +kernel
theorem dX0_numbers_9 : decode cX0_numbers 9 = .ok (.invokevirtual 56, 3) := by decide +kernel
theorem dX0_numbers_12 : decode cX0_numbers 12 = .ok (.lsub, 1) := by decide +kernel
theorem dX0_numbers_13 : decode cX0_numbers 13 = .ok (.lreturn, 1) := by decide +kernel
theorem dX0_greatest_0 : decode cX0_greatest 0 = .ok (.ldc 55, 2) := by decide +kernel
theorem dX0_greatest_2 : decode cX0_greatest 2 = .ok (.istore_n 2, 1) := by decide +kernel
theorem dX0_greatest_3 : decode cX0_greatest 3 = .ok (.iconst 0, 1) := by decide +kernel
theorem dX0_greatest_4 : decode cX0_greatest 4 = .ok (.istore_n 3, 1) := by decide +kernel
theorem dX0_greatest_5 : decode cX0_greatest 5 = .ok (.iload_n 3, 1) := by decide +kernel
theorem dX0_greatest_6 : decode cX0_greatest 6 = .ok (.aload_n 0, 1) := by decide +kernel
theorem dX0_greatest_7 : decode cX0_greatest 7 = .ok (.getfield 9, 3) := by decide +kernel
theorem dX0_greatest_10 : decode cX0_greatest 10 = .ok (.if_icmp .ge 20, 3) := by decide +kernel
theorem dX0_greatest_13 : decode cX0_greatest 13 = .ok (.iload_n 2, 1) := by decide +kernel
theorem dX0_greatest_14 : decode cX0_greatest 14 = .ok (.aload_n 0, 1) := by decide +kernel
theorem dX0_greatest_15 : decode cX0_greatest 15 = .ok (.iload_n 3, 1) := by decide +kernel
theorem dX0_greatest_16 : decode cX0_greatest 16 = .ok (.iload_n 1, 1) := by decide +kernel
theorem dX0_greatest_17 : decode cX0_greatest 17 = .ok (.invokevirtual 45, 3) := by decide +kernel
theorem dX0_greatest_20 : decode cX0_greatest 20 = .ok (.invokestatic 60, 3) := by decide +kernel
theorem dX0_greatest_23 : decode cX0_greatest 23 = .ok (.istore_n 2, 1) := by decide +kernel
theorem dX0_greatest_24 : decode cX0_greatest 24 = .ok (.iinc 3 1, 3) := by decide +kernel
theorem dX0_greatest_27 : decode cX0_greatest 27 = .ok (.goto (-22), 3) := by decide +kernel
theorem dX0_greatest_30 : decode cX0_greatest 30 = .ok (.iload_n 2, 1) := by decide +kernel
theorem dX0_greatest_31 : decode cX0_greatest 31 = .ok (.i2l, 1) := by decide +kernel
theorem dX0_greatest_32 : decode cX0_greatest 32 = .ok (.lreturn, 1) := by decide +kernel
theorem dX0_least_0 : decode cX0_least 0 = .ok (.ldc 55, 2) := by decide +kernel
theorem dX0_least_2 : decode cX0_least 2 = .ok (.istore_n 2, 1) := by decide +kernel
theorem dX0_least_3 : decode cX0_least 3 = .ok (.iconst 0, 1) := by decide +kernel
theorem dX0_least_4 : decode cX0_least 4 = .ok (.istore_n 3, 1) := by decide +kernel
theorem dX0_least_5 : decode cX0_least 5 = .ok (.iload_n 3, 1) := by decide +kernel
theorem dX0_least_6 : decode cX0_least 6 = .ok (.aload_n 0, 1) := by decide +kernel
theorem dX0_least_7 : decode cX0_least 7 = .ok (.getfield 9, 3) := by decide +kernel
theorem dX0_least_10 : decode cX0_least 10 = .ok (.if_icmp .ge 29, 3) := by decide +kernel
theorem dX0_least_13 : decode cX0_least 13 = .ok (.aload_n 0, 1) := by decide +kernel
theorem dX0_least_14 : decode cX0_least 14 = .ok (.iload_n 3, 1) := by decide +kernel
theorem dX0_least_15 : decode cX0_least 15 = .ok (.iload_n 1, 1) := by decide +kernel
theorem dX0_least_16 : decode cX0_least 16 = .ok (.invokevirtual 45, 3) := by decide +kernel
theorem dX0_least_19 : decode cX0_least 19 = .ok (.iload_n 2, 1) := by decide +kernel
theorem dX0_least_20 : decode cX0_least 20 = .ok (.invokestatic 65, 3) := by decide +kernel
theorem dX0_least_23 : decode cX0_least 23 = .ok (.ifCond .eq 10, 3) := by decide +kernel
theorem dX0_least_26 : decode cX0_least 26 = .ok (.aload_n 0, 1) := by decide +kernel
theorem dX0_least_27 : decode cX0_least 27 = .ok (.iload_n 3, 1) := by decide +kernel
theorem dX0_least_28 : decode cX0_least 28 = .ok (.iload_n 1, 1) := by decide +kernel
theorem dX0_least_29 : decode cX0_least 29 = .ok (.invokevirtual 45, 3) := by decide +kernel
theorem dX0_least_32 : decode cX0_least 32 = .ok (.istore_n 2, 1) := by decide +kernel
theorem dX0_least_33 : decode cX0_least 33 = .ok (.iinc 3 1, 3) := by decide +kernel
theorem dX0_least_36 : decode cX0_least 36 = .ok (.goto (-31), 3) := by decide +kernel
theorem dX0_least_39 : decode cX0_least 39 = .ok (.iload_n 2, 1) := by decide +kernel
theorem dX0_least_40 : decode cX0_least 40 = .ok (.i2l, 1) := by decide +kernel
theorem dX0_least_41 : decode cX0_least 41 = .ok (.lreturn, 1) := by decide +kernel
theorem dX0_howManyWith_0 : decode cX0_howManyWith 0 = .ok (.iconst 0, 1) := by decide +kernel
theorem dX0_howManyWith_1 : decode cX0_howManyWith 1 = .ok (.istore_n 3, 1) := by decide +kernel
theorem dX0_howManyWith_2 : decode cX0_howManyWith 2 = .ok (.iconst 0, 1) := by decide +kernel
theorem dX0_howManyWith_3 : decode cX0_howManyWith 3 = .ok (.istore 4, 2) := by decide +kernel
theorem dX0_howManyWith_5 : decode cX0_howManyWith 5 = .ok (.iload 4, 2) := by decide +kernel
theorem dX0_howManyWith_7 : decode cX0_howManyWith 7 = .ok (.aload_n 0, 1) := by decide +kernel
theorem dX0_howManyWith_8 : decode cX0_howManyWith 8 = .ok (.getfield 9, 3) := by decide +kernel
theorem dX0_howManyWith_11 : decode cX0_howManyWith 11 = .ok (.if_icmp .ge 23, 3) := by decide +kernel
theorem dX0_howManyWith_14 : decode cX0_howManyWith 14 = .ok (.aload_n 0, 1) := by decide +kernel
theorem dX0_howManyWith_15 : decode cX0_howManyWith 15 = .ok (.iload 4, 2) := by decide +kernel
theorem dX0_howManyWith_17 : decode cX0_howManyWith 17 = .ok (.iload_n 1, 1) := by decide +kernel
theorem dX0_howManyWith_18 : decode cX0_howManyWith 18 = .ok (.invokevirtual 45, 3) := by decide +kernel
theorem dX0_howManyWith_21 : decode cX0_howManyWith 21 = .ok (.iload_n 2, 1) := by decide +kernel
theorem dX0_howManyWith_22 : decode cX0_howManyWith 22 = .ok (.if_icmp .ne 6, 3) := by decide +kernel
theorem dX0_howManyWith_25 : decode cX0_howManyWith 25 = .ok (.iinc 3 1, 3) := by decide +kernel
theorem dX0_howManyWith_28 : decode cX0_howManyWith 28 = .ok (.iinc 4 1, 3) := by decide +kernel
theorem dX0_howManyWith_31 : decode cX0_howManyWith 31 = .ok (.goto (-26), 3) := by decide +kernel
theorem dX0_howManyWith_34 : decode cX0_howManyWith 34 = .ok (.iload_n 3, 1) := by decide +kernel
theorem dX0_howManyWith_35 : decode cX0_howManyWith 35 = .ok (.i2l, 1) := by decide +kernel
theorem dX0_howManyWith_36 : decode cX0_howManyWith 36 = .ok (.lreturn, 1) := by decide +kernel
theorem dX0_totalWith_0 : decode cX0_totalWith 0 = .ok (.lconst 0, 1) := by decide +kernel
theorem dX0_totalWith_1 : decode cX0_totalWith 1 = .ok (.lstore 4, 2) := by decide +kernel
theorem dX0_totalWith_3 : decode cX0_totalWith 3 = .ok (.iconst 0, 1) := by decide +kernel
theorem dX0_totalWith_4 : decode cX0_totalWith 4 = .ok (.istore 6, 2) := by decide +kernel
theorem dX0_totalWith_6 : decode cX0_totalWith 6 = .ok (.iload 6, 2) := by decide +kernel
theorem dX0_totalWith_8 : decode cX0_totalWith 8 = .ok (.aload_n 0, 1) := by decide +kernel
theorem dX0_totalWith_9 : decode cX0_totalWith 9 = .ok (.getfield 9, 3) := by decide +kernel
theorem dX0_totalWith_12 : decode cX0_totalWith 12 = .ok (.if_icmp .ge 33, 3) := by decide +kernel
theorem dX0_totalWith_15 : decode cX0_totalWith 15 = .ok (.aload_n 0, 1) := by decide +kernel
theorem dX0_totalWith_16 : decode cX0_totalWith 16 = .ok (.iload 6, 2) := by decide +kernel
theorem dX0_totalWith_18 : decode cX0_totalWith 18 = .ok (.iload_n 1, 1) := by decide +kernel
theorem dX0_totalWith_19 : decode cX0_totalWith 19 = .ok (.invokevirtual 45, 3) := by decide +kernel
theorem dX0_totalWith_22 : decode cX0_totalWith 22 = .ok (.iload_n 2, 1) := by decide +kernel
theorem dX0_totalWith_23 : decode cX0_totalWith 23 = .ok (.if_icmp .ne 16, 3) := by decide +kernel
theorem dX0_totalWith_26 : decode cX0_totalWith 26 = .ok (.lload 4, 2) := by decide +kernel
theorem dX0_totalWith_28 : decode cX0_totalWith 28 = .ok (.aload_n 0, 1) := by decide +kernel
theorem dX0_totalWith_29 : decode cX0_totalWith 29 = .ok (.iload 6, 2) := by decide +kernel
theorem dX0_totalWith_31 : decode cX0_totalWith 31 = .ok (.iload_n 3, 1) := by decide +kernel
theorem dX0_totalWith_32 : decode cX0_totalWith 32 = .ok (.invokevirtual 52, 3) := by decide +kernel
theorem dX0_totalWith_35 : decode cX0_totalWith 35 = .ok (.i2l, 1) := by decide +kernel
theorem dX0_totalWith_36 : decode cX0_totalWith 36 = .ok (.ladd, 1) := by decide +kernel
theorem dX0_totalWith_37 : decode cX0_totalWith 37 = .ok (.lstore 4, 2) := by decide +kernel
theorem dX0_totalWith_39 : decode cX0_totalWith 39 = .ok (.iinc 6 1, 3) := by decide +kernel
theorem dX0_totalWith_42 : decode cX0_totalWith 42 = .ok (.goto (-36), 3) := by decide +kernel
theorem dX0_totalWith_45 : decode cX0_totalWith 45 = .ok (.lload 4, 2) := by decide +kernel
theorem dX0_totalWith_47 : decode cX0_totalWith 47 = .ok (.lreturn, 1) := by decide +kernel
theorem dX0_differentValues_0 : decode cX0_differentValues 0 = .ok (.lconst 0, 1) := by decide +kernel
theorem dX0_differentValues_1 : decode cX0_differentValues 1 = .ok (.lstore_n 2, 1) := by decide +kernel
theorem dX0_differentValues_2 : decode cX0_differentValues 2 = .ok (.iconst 0, 1) := by decide +kernel
theorem dX0_differentValues_3 : decode cX0_differentValues 3 = .ok (.istore 4, 2) := by decide +kernel
theorem dX0_differentValues_5 : decode cX0_differentValues 5 = .ok (.iload 4, 2) := by decide +kernel
theorem dX0_differentValues_7 : decode cX0_differentValues 7 = .ok (.aload_n 0, 1) := by decide +kernel
theorem dX0_differentValues_8 : decode cX0_differentValues 8 = .ok (.getfield 9, 3) := by decide +kernel
theorem dX0_differentValues_11 : decode cX0_differentValues 11 = .ok (.if_icmp .ge 25, 3) := by decide +kernel
theorem dX0_differentValues_14 : decode cX0_differentValues 14 = .ok (.lload_n 2, 1) := by decide +kernel
theorem dX0_differentValues_15 : decode cX0_differentValues 15 = .ok (.lconst 1, 1) := by decide +kernel
theorem dX0_differentValues_16 : decode cX0_differentValues 16 = .ok (.aload_n 0, 1) := by decide +kernel
theorem dX0_differentValues_17 : decode cX0_differentValues 17 = .ok (.getfield 20, 3) := by decide +kernel
theorem dX0_differentValues_20 : decode cX0_differentValues 20 = .ok (.iload 4, 2) := by decide +kernel
theorem dX0_differentValues_22 : decode cX0_differentValues 22 = .ok (.laload, 1) := by decide +kernel
theorem dX0_differentValues_23 : decode cX0_differentValues 23 = .ok (.iload_n 1, 1) := by decide +kernel
theorem dX0_differentValues_24 : decode cX0_differentValues 24 = .ok (.invokestatic 41, 3) := by decide +kernel
theorem dX0_differentValues_27 : decode cX0_differentValues 27 = .ok (.lshl, 1) := by decide +kernel
theorem dX0_differentValues_28 : decode cX0_differentValues 28 = .ok (.lor, 1) := by decide +kernel
theorem dX0_differentValues_29 : decode cX0_differentValues 29 = .ok (.lstore_n 2, 1) := by decide +kernel
theorem dX0_differentValues_30 : decode cX0_differentValues 30 = .ok (.iinc 4 1, 3) := by decide +kernel
theorem dX0_differentValues_33 : decode cX0_differentValues 33 = .ok (.goto (-28), 3) := by decide +kernel
theorem dX0_differentValues_36 : decode cX0_differentValues 36 = .ok (.lload_n 2, 1) := by decide +kernel
theorem dX0_differentValues_37 : decode cX0_differentValues 37 = .ok (.invokestatic 69, 3) := by decide +kernel
theorem dX0_differentValues_40 : decode cX0_differentValues 40 = .ok (.i2l, 1) := by decide +kernel
theorem dX0_differentValues_41 : decode cX0_differentValues 41 = .ok (.lreturn, 1) := by decide +kernel
theorem dX0_numberOrZero_0 : decode cX0_numberOrZero 0 = .ok (.aload_n 0, 1) := by decide +kernel
theorem dX0_numberOrZero_1 : decode cX0_numberOrZero 1 = .ok (.iload_n 1, 1) := by decide +kernel
theorem dX0_numberOrZero_2 : decode cX0_numberOrZero 2 = .ok (.iload_n 2, 1) := by decide +kernel
theorem dX0_numberOrZero_3 : decode cX0_numberOrZero 3 = .ok (.invokevirtual 45, 3) := by decide +kernel
theorem dX0_numberOrZero_6 : decode cX0_numberOrZero 6 = .ok (.istore_n 3, 1) := by decide +kernel
theorem dX0_numberOrZero_7 : decode cX0_numberOrZero 7 = .ok (.iload_n 3, 1) := by decide +kernel
theorem dX0_numberOrZero_8 : decode cX0_numberOrZero 8 = .ok (.ldc 55, 2) := by decide +kernel
theorem dX0_numberOrZero_10 : decode cX0_numberOrZero 10 = .ok (.if_icmp .ne 7, 3) := by decide +kernel
theorem dX0_numberOrZero_13 : decode cX0_numberOrZero 13 = .ok (.iconst 0, 1) := by decide +kernel
theorem dX0_numberOrZero_14 : decode cX0_numberOrZero 14 = .ok (.goto 4, 3) := by decide +kernel
theorem dX0_numberOrZero_17 : decode cX0_numberOrZero 17 = .ok (.iload_n 3, 1) := by decide +kernel
theorem dX0_numberOrZero_18 : decode cX0_numberOrZero 18 = .ok (.ireturn, 1) := by decide +kernel
theorem dX1_init_0 : decode cX1_init 0 = .ok (.aload_n 0, 1) := by decide +kernel
theorem dX1_init_1 : decode cX1_init 1 = .ok (.invokespecial 3, 3) := by decide +kernel
theorem dX1_init_4 : decode cX1_init 4 = .ok (.aload_n 0, 1) := by decide +kernel
theorem dX1_init_5 : decode cX1_init 5 = .ok (.iconst 5, 1) := by decide +kernel
theorem dX1_init_6 : decode cX1_init 6 = .ok (.newarray .int, 2) := by decide +kernel
theorem dX1_init_8 : decode cX1_init 8 = .ok (.putfield 9, 3) := by decide +kernel
theorem dX1_init_11 : decode cX1_init 11 = .ok (.aload_n 0, 1) := by decide +kernel
theorem dX1_init_12 : decode cX1_init 12 = .ok (.iconst 5, 1) := by decide +kernel
theorem dX1_init_13 : decode cX1_init 13 = .ok (.newarray .int, 2) := by decide +kernel
theorem dX1_init_15 : decode cX1_init 15 = .ok (.putfield 15, 3) := by decide +kernel
theorem dX1_init_18 : decode cX1_init 18 = .ok (.return_, 1) := by decide +kernel
theorem dX1_find_0 : decode cX1_find 0 = .ok (.aload_n 0, 1) := by decide +kernel
theorem dX1_find_1 : decode cX1_find 1 = .ok (.aload_n 2, 1) := by decide +kernel
theorem dX1_find_2 : decode cX1_find 2 = .ok (.invokevirtual 18, 3) := by decide +kernel
theorem dX1_find_5 : decode cX1_find 5 = .ok (.istore_n 3, 1) := by decide +kernel
theorem dX1_find_6 : decode cX1_find 6 = .ok (.iconst 0, 1) := by decide +kernel
theorem dX1_find_7 : decode cX1_find 7 = .ok (.istore 4, 2) := by decide +kernel
theorem dX1_find_9 : decode cX1_find 9 = .ok (.aload_n 0, 1) := by decide +kernel
theorem dX1_find_10 : decode cX1_find 10 = .ok (.ldc2_w 22, 3) := by decide +kernel
theorem dX1_find_13 : decode cX1_find 13 = .ok (.putfield 24, 3) := by decide +kernel
theorem dX1_find_16 : decode cX1_find 16 = .ok (.iconst 0, 1) := by decide +kernel
theorem dX1_find_17 : decode cX1_find 17 = .ok (.istore 5, 2) := by decide +kernel
theorem dX1_find_19 : decode cX1_find 19 = .ok (.iload 5, 2) := by decide +kernel
theorem dX1_find_21 : decode cX1_find 21 = .ok (.iload_n 3, 1) := by decide +kernel
theorem dX1_find_22 : decode cX1_find 22 = .ok (.if_icmp .ge 62, 3) := by decide +kernel
theorem dX1_find_25 : decode cX1_find 25 = .ok (.aload_n 0, 1) := by decide +kernel
theorem dX1_find_26 : decode cX1_find 26 = .ok (.iload 5, 2) := by decide +kernel
theorem dX1_find_28 : decode cX1_find 28 = .ok (.invokevirtual 28, 3) := by decide +kernel
theorem dX1_find_31 : decode cX1_find 31 = .ok (.aload_n 0, 1) := by decide +kernel
theorem dX1_find_32 : decode cX1_find 32 = .ok (.aload_n 2, 1) := by decide +kernel
theorem dX1_find_33 : decode cX1_find 33 = .ok (.invokevirtual 32, 3) := by decide +kernel
theorem dX1_find_36 : decode cX1_find 36 = .ok (.ifCond .eq 42, 3) := by decide +kernel
theorem dX1_find_39 : decode cX1_find 39 = .ok (.aload_n 0, 1) := by decide +kernel
theorem dX1_find_40 : decode cX1_find 40 = .ok (.aload_n 1, 1) := by decide +kernel
theorem dX1_find_41 : decode cX1_find 41 = .ok (.aload_n 2, 1) := by decide +kernel
theorem dX1_find_42 : decode cX1_find 42 = .ok (.invokevirtual 36, 3) := by decide +kernel
theorem dX1_find_45 : decode cX1_find 45 = .ok (.lstore 6, 2) := by decide +kernel
theorem dX1_find_47 : decode cX1_find 47 = .ok (.aload_n 0, 1) := by decide +kernel
theorem dX1_find_48 : decode cX1_find 48 = .ok (.getfield 24, 3) := by decide +kernel
theorem dX1_find_51 : decode cX1_find 51 = .ok (.ldc2_w 22, 3) := by decide +kernel
theorem dX1_find_54 : decode cX1_find 54 = .ok (.lcmp, 1) := by decide +kernel
theorem dX1_find_55 : decode cX1_find 55 = .ok (.ifCond .eq 13, 3) := by decide +kernel
theorem dX1_find_58 : decode cX1_find 58 = .ok (.lload 6, 2) := by decide +kernel
theorem dX1_find_60 : decode cX1_find 60 = .ok (.aload_n 0, 1) := by decide +kernel
theorem dX1_find_61 : decode cX1_find 61 = .ok (.getfield 24, 3) := by decide +kernel
theorem dX1_find_64 : decode cX1_find 64 = .ok (.lcmp, 1) := by decide +kernel
theorem dX1_find_65 : decode cX1_find 65 = .ok (.ifCond .ge 13, 3) := by decide +kernel
theorem dX1_find_68 : decode cX1_find 68 = .ok (.aload_n 0, 1) := by decide +kernel
theorem dX1_find_69 : decode cX1_find 69 = .ok (.lload 6, 2) := by decide +kernel
theorem dX1_find_71 : decode cX1_find 71 = .ok (.putfield 24, 3) := by decide +kernel
theorem dX1_find_74 : decode cX1_find 74 = .ok (.iload 5, 2) := by decide +kernel
theorem dX1_find_76 : decode cX1_find 76 = .ok (.istore 4, 2) := by decide +kernel
theorem dX1_find_78 : decode cX1_find 78 = .ok (.iinc 5 1, 3) := by decide +kernel
theorem dX1_find_81 : decode cX1_find 81 = .ok (.goto (-62), 3) := by decide +kernel
theorem dX1_find_84 : decode cX1_find 84 = .ok (.aload_n 0, 1) := by decide +kernel
theorem dX1_find_85 : decode cX1_find 85 = .ok (.iload 4, 2) := by decide +kernel
theorem dX1_find_87 : decode cX1_find 87 = .ok (.invokevirtual 28, 3) := by decide +kernel
theorem dX1_find_90 : decode cX1_find 90 = .ok (.return_, 1) := by decide +kernel
theorem dX1_shareOf_0 : decode cX1_shareOf 0 = .ok (.iconst 0, 1) := by decide +kernel
theorem dX1_shareOf_1 : decode cX1_shareOf 1 = .ok (.istore_n 2, 1) := by decide +kernel
theorem dX1_shareOf_2 : decode cX1_shareOf 2 = .ok (.iload_n 2, 1) := by decide +kernel
theorem dX1_shareOf_3 : decode cX1_shareOf 3 = .ok (.aload_n 0, 1) := by decide +kernel
theorem dX1_shareOf_4 : decode cX1_shareOf 4 = .ok (.getfield 40, 3) := by decide +kernel
theorem dX1_shareOf_7 : decode cX1_shareOf 7 = .ok (.if_icmp .ge 26, 3) := by decide +kernel
theorem dX1_shareOf_10 : decode cX1_shareOf 10 = .ok (.aload_n 0, 1) := by decide +kernel
theorem dX1_shareOf_11 : decode cX1_shareOf 11 = .ok (.getfield 9, 3) := by decide +kernel
theorem dX1_shareOf_14 : decode cX1_shareOf 14 = .ok (.iload_n 2, 1) := by decide +kernel
theorem dX1_shareOf_15 : decode cX1_shareOf 15 = .ok (.iaload, 1) := by decide +kernel
theorem dX1_shareOf_16 : decode cX1_shareOf 16 = .ok (.iload_n 1, 1) := by decide +kernel
theorem dX1_shareOf_17 : decode cX1_shareOf 17 = .ok (.if_icmp .ne 10, 3) := by decide +kernel
theorem dX1_shareOf_20 : decode cX1_shareOf 20 = .ok (.aload_n 0, 1) := by decide +kernel
theorem dX1_shareOf_21 : decode cX1_shareOf 21 = .ok (.getfield 15, 3) := by decide +kernel
theorem dX1_shareOf_24 : decode cX1_shareOf 24 = .ok (.iload_n 2, 1) := by decide +kernel
theorem dX1_shareOf_25 : decode cX1_shareOf 25 = .ok (.iaload, 1) := by decide +kernel
theorem dX1_shareOf_26 : decode cX1_shareOf 26 = .ok (.ireturn, 1) := by decide +kernel
theorem dX1_shareOf_27 : decode cX1_shareOf 27 = .ok (.iinc 2 1, 3) := by decide +kernel
theorem dX1_shareOf_30 : decode cX1_shareOf 30 = .ok (.goto (-28), 3) := by decide +kernel
theorem dX1_shareOf_33 : decode cX1_shareOf 33 = .ok (.iconst (-1), 1) := by decide +kernel
theorem dX1_shareOf_34 : decode cX1_shareOf 34 = .ok (.ireturn, 1) := by decide +kernel
theorem dX1_gatherCarriers_0 : decode cX1_gatherCarriers 0 = .ok (.iconst 1, 1) := by decide +kernel
theorem dX1_gatherCarriers_1 : decode cX1_gatherCarriers 1 = .ok (.istore_n 2, 1) := by decide +kernel
theorem dX1_gatherCarriers_2 : decode cX1_gatherCarriers 2 = .ok (.aload_n 0, 1) := by decide +kernel
theorem dX1_gatherCarriers_3 : decode cX1_gatherCarriers 3 = .ok (.iconst 0, 1) := by decide +kernel
theorem dX1_gatherCarriers_4 : decode cX1_gatherCarriers 4 = .ok (.putfield 40, 3) := by decide +kernel
theorem dX1_gatherCarriers_7 : decode cX1_gatherCarriers 7 = .ok (.iconst 0, 1) := by decide +kernel
theorem dX1_gatherCarriers_8 : decode cX1_gatherCarriers 8 = .ok (.istore_n 3, 1) := by decide +kernel
theorem dX1_gatherCarriers_9 : decode cX1_gatherCarriers 9 = .ok (.iload_n 3, 1) := by decide +kernel
theorem dX1_gatherCarriers_10 : decode cX1_gatherCarriers 10 = .ok (.aload_n 1, 1) := by decide +kernel
theorem dX1_gatherCarriers_11 : decode cX1_gatherCarriers 11 = .ok (.getfield 44, 3) := by decide +kernel
theorem dX1_gatherCarriers_14 : decode cX1_gatherCarriers 14 = .ok (.if_icmp .ge 65, 3) := by decide +kernel
theorem dX1_gatherCarriers_17 : decode cX1_gatherCarriers 17 = .ok (.aload_n 0, 1) := by decide +kernel
theorem dX1_gatherCarriers_18 : decode cX1_gatherCarriers 18 = .ok (.getfield 40, 3) := by decide +kernel
theorem dX1_gatherCarriers_21 : decode cX1_gatherCarriers 21 = .ok (.iconst 5, 1) := by decide +kernel
theorem dX1_gatherCarriers_22 : decode cX1_gatherCarriers 22 = .ok (.if_icmp .ge 57, 3) := by decide +kernel
theorem dX1_gatherCarriers_25 : decode cX1_gatherCarriers 25 = .ok (.aload_n 1, 1) := by decide +kernel
theorem dX1_gatherCarriers_26 : decode cX1_gatherCarriers 26 = .ok (.getfield 49, 3) := by decide +kernel
theorem dX1_gatherCarriers_29 : decode cX1_gatherCarriers 29 = .ok (.iload_n 3, 1) := by decide +kernel
theorem dX1_gatherCarriers_30 : decode cX1_gatherCarriers 30 = .ok (.aaload, 1) := by decide +kernel
theorem dX1_gatherCarriers_31 : decode cX1_gatherCarriers 31 = .ok (.astore 4, 2) := by decide +kernel
theorem dX1_gatherCarriers_33 : decode cX1_gatherCarriers 33 = .ok (.aload 4, 2) := by decide +kernel
theorem dX1_gatherCarriers_35 : decode cX1_gatherCarriers 35 = .ok (.getfield 53, 3) := by decide +kernel
theorem dX1_gatherCarriers_38 : decode cX1_gatherCarriers 38 = .ok (.ifCond .ne 35, 3) := by decide +kernel
theorem dX1_gatherCarriers_41 : decode cX1_gatherCarriers 41 = .ok (.aload 4, 2) := by decide +kernel
theorem dX1_gatherCarriers_43 : decode cX1_gatherCarriers 43 = .ok (.getfield 58, 3) := by decide +kernel
theorem dX1_gatherCarriers_46 : decode cX1_gatherCarriers 46 = .ok (.ifCond .eq 27, 3) := by decide +kernel
theorem dX1_gatherCarriers_49 : decode cX1_gatherCarriers 49 = .ok (.aload_n 0, 1) := by decide +kernel
theorem dX1_gatherCarriers_50 : decode cX1_gatherCarriers 50 = .ok (.getfield 9, 3) := by decide +kernel
theorem dX1_gatherCarriers_53 : decode cX1_gatherCarriers 53 = .ok (.aload_n 0, 1) := by decide +kernel
theorem dX1_gatherCarriers_54 : decode cX1_gatherCarriers 54 = .ok (.getfield 40, 3) := by decide +kernel
theorem dX1_gatherCarriers_57 : decode cX1_gatherCarriers 57 = .ok (.iload_n 3, 1) := by decide +kernel
theorem dX1_gatherCarriers_58 : decode cX1_gatherCarriers 58 = .ok (.iastore, 1) := by decide +kernel
theorem dX1_gatherCarriers_59 : decode cX1_gatherCarriers 59 = .ok (.aload_n 0, 1) := by decide +kernel
theorem dX1_gatherCarriers_60 : decode cX1_gatherCarriers 60 = .ok (.dup, 1) := by decide +kernel
theorem dX1_gatherCarriers_61 : decode cX1_gatherCarriers 61 = .ok (.getfield 40, 3) := by decide +kernel
theorem dX1_gatherCarriers_64 : decode cX1_gatherCarriers 64 = .ok (.iconst 1, 1) := by decide +kernel
theorem dX1_gatherCarriers_65 : decode cX1_gatherCarriers 65 = .ok (.iadd, 1) := by decide +kernel
theorem dX1_gatherCarriers_66 : decode cX1_gatherCarriers 66 = .ok (.putfield 40, 3) := by decide +kernel
theorem dX1_gatherCarriers_69 : decode cX1_gatherCarriers 69 = .ok (.iload_n 2, 1) := by decide +kernel
theorem dX1_gatherCarriers_70 : decode cX1_gatherCarriers 70 = .ok (.iconst 3, 1) := by decide +kernel
theorem dX1_gatherCarriers_71 : decode cX1_gatherCarriers 71 = .ok (.imul, 1) := by decide +kernel
theorem dX1_gatherCarriers_72 : decode cX1_gatherCarriers 72 = .ok (.istore_n 2, 1) := by decide +kernel
theorem dX1_gatherCarriers_73 : decode cX1_gatherCarriers 73 = .ok (.iinc 3 1, 3) := by decide +kernel
theorem dX1_gatherCarriers_76 : decode cX1_gatherCarriers 76 = .ok (.goto (-67), 3) := by decide +kernel
theorem dX1_gatherCarriers_79 : decode cX1_gatherCarriers 79 = .ok (.iload_n 2, 1) := by decide +kernel
theorem dX1_gatherCarriers_80 : decode cX1_gatherCarriers 80 = .ok (.ireturn, 1) := by decide +kernel
theorem dX1_takeTrial_0 : decode cX1_takeTrial 0 = .ok (.iload_n 1, 1) := by decide +kernel
theorem dX1_takeTrial_1 : decode cX1_takeTrial 1 = .ok (.istore_n 2, 1) := by decide +kernel
theorem dX1_takeTrial_2 : decode cX1_takeTrial 2 = .ok (.aload_n 0, 1) := by decide +kernel
theorem dX1_takeTrial_3 : decode cX1_takeTrial 3 = .ok (.getfield 40, 3) := by decide +kernel
theorem dX1_takeTrial_6 : decode cX1_takeTrial 6 = .ok (.iconst 1, 1) := by decide +kernel
theorem dX1_takeTrial_7 : decode cX1_takeTrial 7 = .ok (.isub, 1) := by decide +kernel
theorem dX1_takeTrial_8 : decode cX1_takeTrial 8 = .ok (.istore_n 3, 1) := by decide +kernel
theorem dX1_takeTrial_9 : decode cX1_takeTrial 9 = .ok (.iload_n 3, 1) := by decide +kernel
theorem dX1_takeTrial_10 : decode cX1_takeTrial 10 = .ok (.ifCond .lt 22, 3) := by decide +kernel
theorem dX1_takeTrial_13 : decode cX1_takeTrial 13 = .ok (.aload_n 0, 1) := by decide +kernel
theorem dX1_takeTrial_14 : decode cX1_takeTrial 14 = .ok (.getfield 15, 3) := by decide +kernel
theorem dX1_takeTrial_17 : decode cX1_takeTrial 17 = .ok (.iload_n 3, 1) := by decide +kernel
theorem dX1_takeTrial_18 : decode cX1_takeTrial 18 = .ok (.iload_n 2, 1) := by decide +kernel
theorem dX1_takeTrial_19 : decode cX1_takeTrial 19 = .ok (.iconst 3, 1) := by decide +kernel
theorem dX1_takeTrial_20 : decode cX1_takeTrial 20 = .ok (.irem, 1) := by decide +kernel
theorem dX1_takeTrial_21 : decode cX1_takeTrial 21 = .ok (.iastore, 1) := by decide +kernel
theorem dX1_takeTrial_22 : decode cX1_takeTrial 22 = .ok (.iload_n 2, 1) := by decide +kernel
theorem dX1_takeTrial_23 : decode cX1_takeTrial 23 = .ok (.iconst 3, 1) := by decide +kernel
theorem dX1_takeTrial_24 : decode cX1_takeTrial 24 = .ok (.idiv, 1) := by decide +kernel
theorem dX1_takeTrial_25 : decode cX1_takeTrial 25 = .ok (.istore_n 2, 1) := by decide +kernel
theorem dX1_takeTrial_26 : decode cX1_takeTrial 26 = .ok (.iinc 3 (-1), 3) := by decide +kernel
theorem dX1_takeTrial_29 : decode cX1_takeTrial 29 = .ok (.goto (-20), 3) := by decide +kernel
theorem dX1_takeTrial_32 : decode cX1_takeTrial 32 = .ok (.return_, 1) := by decide +kernel
theorem dX1_coversAllNames_0 : decode cX1_coversAllNames 0 = .ok (.iconst 0, 1) := by decide +kernel
theorem dX1_coversAllNames_1 : decode cX1_coversAllNames 1 = .ok (.istore_n 2, 1) := by decide +kernel
theorem dX1_coversAllNames_2 : decode cX1_coversAllNames 2 = .ok (.iload_n 2, 1) := by decide +kernel
theorem dX1_coversAllNames_3 : decode cX1_coversAllNames 3 = .ok (.aload_n 1, 1) := by decide +kernel
theorem dX1_coversAllNames_4 : decode cX1_coversAllNames 4 = .ok (.getfield 61, 3) := by decide +kernel
theorem dX1_coversAllNames_7 : decode cX1_coversAllNames 7 = .ok (.if_icmp .ge 65, 3) := by decide +kernel
theorem dX1_coversAllNames_10 : decode cX1_coversAllNames 10 = .ok (.iconst 0, 1) := by decide +kernel
theorem dX1_coversAllNames_11 : decode cX1_coversAllNames 11 = .ok (.istore_n 3, 1) := by decide +kernel
theorem dX1_coversAllNames_12 : decode cX1_coversAllNames 12 = .ok (.iconst 0, 1) := by decide +kernel
theorem dX1_coversAllNames_13 : decode cX1_coversAllNames 13 = .ok (.istore 4, 2) := by decide +kernel
theorem dX1_coversAllNames_15 : decode cX1_coversAllNames 15 = .ok (.iload 4, 2) := by decide +kernel
theorem dX1_coversAllNames_17 : decode cX1_coversAllNames 17 = .ok (.aload_n 0, 1) := by decide +kernel
theorem dX1_coversAllNames_18 : decode cX1_coversAllNames 18 = .ok (.getfield 40, 3) := by decide +kernel
theorem dX1_coversAllNames_21 : decode cX1_coversAllNames 21 = .ok (.if_icmp .ge 38, 3) := by decide +kernel
theorem dX1_coversAllNames_24 : decode cX1_coversAllNames 24 = .ok (.aload_n 1, 1) := by decide +kernel
theorem dX1_coversAllNames_25 : decode cX1_coversAllNames 25 = .ok (.getfield 49, 3) := by decide +kernel
theorem dX1_coversAllNames_28 : decode cX1_coversAllNames 28 = .ok (.aload_n 0, 1) := by decide +kernel
theorem dX1_coversAllNames_29 : decode cX1_coversAllNames 29 = .ok (.getfield 9, 3) := by decide +kernel
theorem dX1_coversAllNames_32 : decode cX1_coversAllNames 32 = .ok (.iload 4, 2) := by decide +kernel
theorem dX1_coversAllNames_34 : decode cX1_coversAllNames 34 = .ok (.iaload, 1) := by decide +kernel
theorem dX1_coversAllNames_35 : decode cX1_coversAllNames 35 = .ok (.aaload, 1) := by decide +kernel
theorem dX1_coversAllNames_36 : decode cX1_coversAllNames 36 = .ok (.iload_n 2, 1) := by decide +kernel
theorem dX1_coversAllNames_37 : decode cX1_coversAllNames 37 = .ok (.invokevirtual 64, 3) := by decide +kernel
theorem dX1_coversAllNames_40 : decode cX1_coversAllNames 40 = .ok (.ifCond .eq 13, 3) := by decide +kernel
theorem dX1_coversAllNames_43 : decode cX1_coversAllNames 43 = .ok (.iload_n 3, 1) := by decide +kernel
theorem dX1_coversAllNames_44 : decode cX1_coversAllNames 44 = .ok (.aload_n 0, 1) := by decide +kernel
theorem dX1_coversAllNames_45 : decode cX1_coversAllNames 45 = .ok (.getfield 15, 3) := by decide +kernel
theorem dX1_coversAllNames_48 : decode cX1_coversAllNames 48 = .ok (.iload 4, 2) := by decide +kernel
theorem dX1_coversAllNames_50 : decode cX1_coversAllNames 50 = .ok (.iaload, 1) := by decide +kernel
theorem dX1_coversAllNames_51 : decode cX1_coversAllNames 51 = .ok (.iadd, 1) := by decide +kernel
theorem dX1_coversAllNames_52 : decode cX1_coversAllNames 52 = .ok (.istore_n 3, 1) := by decide +kernel
theorem dX1_coversAllNames_53 : decode cX1_coversAllNames 53 = .ok (.iinc 4 1, 3) := by decide +kernel
theorem dX1_coversAllNames_56 : decode cX1_coversAllNames 56 = .ok (.goto (-41), 3) := by decide +kernel
theorem dX1_coversAllNames_59 : decode cX1_coversAllNames 59 = .ok (.iload_n 3, 1) := by decide +kernel
theorem dX1_coversAllNames_60 : decode cX1_coversAllNames 60 = .ok (.iconst 2, 1) := by decide +kernel
theorem dX1_coversAllNames_61 : decode cX1_coversAllNames 61 = .ok (.if_icmp .ge 5, 3) := by decide +kernel
theorem dX1_coversAllNames_64 : decode cX1_coversAllNames 64 = .ok (.iconst 0, 1) := by decide +kernel
theorem dX1_coversAllNames_65 : decode cX1_coversAllNames 65 = .ok (.ireturn, 1) := by decide +kernel
theorem dX1_coversAllNames_66 : decode cX1_coversAllNames 66 = .ok (.iinc 2 1, 3) := by decide +kernel
theorem dX1_coversAllNames_69 : decode cX1_coversAllNames 69 = .ok (.goto (-67), 3) := by decide +kernel
theorem dX1_coversAllNames_72 : decode cX1_coversAllNames 72 = .ok (.iconst 1, 1) := by decide +kernel
theorem dX1_coversAllNames_73 : decode cX1_coversAllNames 73 = .ok (.ireturn, 1) := by decide +kernel
theorem dX1_productOfShares_0 : decode cX1_productOfShares 0 = .ok (.lconst 1, 1) := by decide +kernel
theorem dX1_productOfShares_1 : decode cX1_productOfShares 1 = .ok (.lstore_n 3, 1) := by decide +kernel
theorem dX1_productOfShares_2 : decode cX1_productOfShares 2 = .ok (.iconst 0, 1) := by decide +kernel
theorem dX1_productOfShares_3 : decode cX1_productOfShares 3 = .ok (.istore 5, 2) := by decide +kernel
theorem dX1_productOfShares_5 : decode cX1_productOfShares 5 = .ok (.iload 5, 2) := by decide +kernel
theorem dX1_productOfShares_7 : decode cX1_productOfShares 7 = .ok (.aload_n 0, 1) := by decide +kernel
theorem dX1_productOfShares_8 : decode cX1_productOfShares 8 = .ok (.getfield 40, 3) := by decide +kernel
theorem dX1_productOfShares_11 : decode cX1_productOfShares 11 = .ok (.if_icmp .ge 58, 3) := by decide +kernel
theorem dX1_productOfShares_14 : decode cX1_productOfShares 14 = .ok (.aload_n 2, 1) := by decide +kernel
theorem dX1_productOfShares_15 : decode cX1_productOfShares 15 = .ok (.getfield 49, 3) := by decide +kernel
theorem dX1_productOfShares_18 : decode cX1_productOfShares 18 = .ok (.aload_n 0, 1) := by decide +kernel
theorem dX1_productOfShares_19 : decode cX1_productOfShares 19 = .ok (.getfield 9, 3) := by decide +kernel
theorem dX1_productOfShares_22 : decode cX1_productOfShares 22 = .ok (.iload 5, 2) := by decide +kernel
theorem dX1_productOfShares_24 : decode cX1_productOfShares 24 = .ok (.iaload, 1) := by decide +kernel
theorem dX1_productOfShares_25 : decode cX1_productOfShares 25 = .ok (.aaload, 1) := by decide +kernel
theorem dX1_productOfShares_26 : decode cX1_productOfShares 26 = .ok (.astore 6, 2) := by decide +kernel
theorem dX1_productOfShares_28 : decode cX1_productOfShares 28 = .ok (.iconst 0, 1) := by decide +kernel
theorem dX1_productOfShares_29 : decode cX1_productOfShares 29 = .ok (.istore 7, 2) := by decide +kernel
theorem dX1_productOfShares_31 : decode cX1_productOfShares 31 = .ok (.iload 7, 2) := by decide +kernel
theorem dX1_productOfShares_33 : decode cX1_productOfShares 33 = .ok (.aload_n 0, 1) := by decide +kernel
theorem dX1_productOfShares_34 : decode cX1_productOfShares 34 = .ok (.getfield 15, 3) := by decide +kernel
theorem dX1_productOfShares_37 : decode cX1_productOfShares 37 = .ok (.iload 5, 2) := by decide +kernel
theorem dX1_productOfShares_39 : decode cX1_productOfShares 39 = .ok (.iaload, 1) := by decide +kernel
theorem dX1_productOfShares_40 : decode cX1_productOfShares 40 = .ok (.if_icmp .ge 23, 3) := by decide +kernel
theorem dX1_productOfShares_43 : decode cX1_productOfShares 43 = .ok (.lload_n 3, 1) := by decide +kernel
theorem dX1_productOfShares_44 : decode cX1_productOfShares 44 = .ok (.aload_n 1, 1) := by decide +kernel
theorem dX1_productOfShares_45 : decode cX1_productOfShares 45 = .ok (.aload 6, 2) := by decide +kernel
theorem dX1_productOfShares_47 : decode cX1_productOfShares 47 = .ok (.getfield 68, 3) := by decide +kernel
theorem dX1_productOfShares_50 : decode cX1_productOfShares 50 = .ok (.aaload, 1) := by decide +kernel
theorem dX1_productOfShares_51 : decode cX1_productOfShares 51 = .ok (.getfield 71, 3) := by decide +kernel
theorem dX1_productOfShares_54 : decode cX1_productOfShares 54 = .ok (.i2l, 1) := by decide +kernel
theorem dX1_productOfShares_55 : decode cX1_productOfShares 55 = .ok (.lmul, 1) := by decide +kernel
theorem dX1_productOfShares_56 : decode cX1_productOfShares 56 = .ok (.lstore_n 3, 1) := by decide +kernel
theorem dX1_productOfShares_57 : decode cX1_productOfShares 57 = .ok (.iinc 7 1, 3) := by decide +kernel
theorem dX1_productOfShares_60 : decode cX1_productOfShares 60 = .ok (.goto (-29), 3) := by decide +kernel
theorem dX1_productOfShares_63 : decode cX1_productOfShares 63 = .ok (.iinc 5 1, 3) := by decide +kernel
theorem dX1_productOfShares_66 : decode cX1_productOfShares 66 = .ok (.goto (-61), 3) := by decide +kernel
theorem dX1_productOfShares_69 : decode cX1_productOfShares 69 = .ok (.lload_n 3, 1) := by decide +kernel
theorem dX1_productOfShares_70 : decode cX1_productOfShares 70 = .ok (.lreturn, 1) := by decide +kernel
theorem dX2_init_0 : decode cX2_init 0 = .ok (.aload_n 0, 1) := by decide +kernel
theorem dX2_init_1 : decode cX2_init 1 = .ok (.invokespecial 3, 3) := by decide +kernel
theorem dX2_init_4 : decode cX2_init 4 = .ok (.aload_n 0, 1) := by decide +kernel
theorem dX2_init_5 : decode cX2_init 5 = .ok (.sipush 500, 3) := by decide +kernel
theorem dX2_init_8 : decode cX2_init 8 = .ok (.newarray .int, 2) := by decide +kernel
theorem dX2_init_10 : decode cX2_init 10 = .ok (.putfield 9, 3) := by decide +kernel
theorem dX2_init_13 : decode cX2_init 13 = .ok (.return_, 1) := by decide +kernel
theorem dX2_find_0 : decode cX2_find 0 = .ok (.aload_n 0, 1) := by decide +kernel
theorem dX2_find_1 : decode cX2_find 1 = .ok (.aload_n 1, 1) := by decide +kernel
theorem dX2_find_2 : decode cX2_find 2 = .ok (.putfield 15, 3) := by decide +kernel
theorem dX2_find_5 : decode cX2_find 5 = .ok (.aload_n 0, 1) := by decide +kernel
theorem dX2_find_6 : decode cX2_find 6 = .ok (.iconst 0, 1) := by decide +kernel
theorem dX2_find_7 : decode cX2_find 7 = .ok (.putfield 19, 3) := by decide +kernel
theorem dX2_find_10 : decode cX2_find 10 = .ok (.iconst 0, 1) := by decide +kernel
theorem dX2_find_11 : decode cX2_find 11 = .ok (.istore_n 3, 1) := by decide +kernel
theorem dX2_find_12 : decode cX2_find 12 = .ok (.iconst 0, 1) := by decide +kernel
theorem dX2_find_13 : decode cX2_find 13 = .ok (.istore 4, 2) := by decide +kernel
theorem dX2_find_15 : decode cX2_find 15 = .ok (.iload 4, 2) := by decide +kernel
theorem dX2_find_17 : decode cX2_find 17 = .ok (.aload_n 1, 1) := by decide +kernel
theorem dX2_find_18 : decode cX2_find 18 = .ok (.getfield 23, 3) := by decide +kernel
theorem dX2_find_21 : decode cX2_find 21 = .ok (.if_icmp .ge 82, 3) := by decide +kernel
theorem dX2_find_24 : decode cX2_find 24 = .ok (.iload 4, 2) := by decide +kernel
theorem dX2_find_26 : decode cX2_find 26 = .ok (.sipush 500, 3) := by decide +kernel
theorem dX2_find_29 : decode cX2_find 29 = .ok (.if_icmp .ge 74, 3) := by decide +kernel
theorem dX2_find_32 : decode cX2_find 32 = .ok (.iload_n 3, 1) := by decide +kernel
theorem dX2_find_33 : decode cX2_find 33 = .ok (.aload_n 2, 1) := by decide +kernel
theorem dX2_find_34 : decode cX2_find 34 = .ok (.getfield 23, 3) := by decide +kernel
theorem dX2_find_37 : decode cX2_find 37 = .ok (.if_icmp .ge 20, 3) := by decide +kernel
theorem dX2_find_40 : decode cX2_find 40 = .ok (.aload_n 2, 1) := by decide +kernel
theorem dX2_find_41 : decode cX2_find 41 = .ok (.iload_n 3, 1) := by decide +kernel
theorem dX2_find_42 : decode cX2_find 42 = .ok (.aload_n 1, 1) := by decide +kernel
theorem dX2_find_43 : decode cX2_find 43 = .ok (.iload 4, 2) := by decide +kernel
theorem dX2_find_45 : decode cX2_find 45 = .ok (.invokevirtual 26, 3) := by decide +kernel
theorem dX2_find_48 : decode cX2_find 48 = .ok (.ifCond .ge 9, 3) := by decide +kernel
theorem dX2_find_51 : decode cX2_find 51 = .ok (.iinc 3 1, 3) := by decide +kernel
theorem dX2_find_54 : decode cX2_find 54 = .ok (.goto (-22), 3) := by decide +kernel
theorem dX2_find_57 : decode cX2_find 57 = .ok (.iload_n 3, 1) := by decide +kernel
theorem dX2_find_58 : decode cX2_find 58 = .ok (.aload_n 2, 1) := by decide +kernel
theorem dX2_find_59 : decode cX2_find 59 = .ok (.getfield 23, 3) := by decide +kernel
theorem dX2_find_62 : decode cX2_find 62 = .ok (.if_icmp .ge 14, 3) := by decide +kernel
theorem dX2_find_65 : decode cX2_find 65 = .ok (.aload_n 2, 1) := by decide +kernel
theorem dX2_find_66 : decode cX2_find 66 = .ok (.iload_n 3, 1) := by decide +kernel
theorem dX2_find_67 : decode cX2_find 67 = .ok (.aload_n 1, 1) := by decide +kernel
theorem dX2_find_68 : decode cX2_find 68 = .ok (.iload 4, 2) := by decide +kernel
theorem dX2_find_70 : decode cX2_find 70 = .ok (.invokevirtual 26, 3) := by decide +kernel
theorem dX2_find_73 : decode cX2_find 73 = .ok (.ifCond .eq 24, 3) := by decide +kernel
theorem dX2_find_76 : decode cX2_find 76 = .ok (.aload_n 0, 1) := by decide +kernel
theorem dX2_find_77 : decode cX2_find 77 = .ok (.getfield 9, 3) := by decide +kernel
theorem dX2_find_80 : decode cX2_find 80 = .ok (.aload_n 0, 1) := by decide +kernel
theorem dX2_find_81 : decode cX2_find 81 = .ok (.getfield 19, 3) := by decide +kernel
theorem dX2_find_84 : decode cX2_find 84 = .ok (.iload 4, 2) := by decide +kernel
theorem dX2_find_86 : decode cX2_find 86 = .ok (.iastore, 1) := by decide +kernel
theorem dX2_find_87 : decode cX2_find 87 = .ok (.aload_n 0, 1) := by decide +kernel
theorem dX2_find_88 : decode cX2_find 88 = .ok (.dup, 1) := by decide +kernel
theorem dX2_find_89 : decode cX2_find 89 = .ok (.getfield 19, 3) := by decide +kernel
theorem dX2_find_92 : decode cX2_find 92 = .ok (.iconst 1, 1) := by decide +kernel
theorem dX2_find_93 : decode cX2_find 93 = .ok (.iadd, 1) := by decide +kernel
theorem dX2_find_94 : decode cX2_find 94 = .ok (.putfield 19, 3) := by decide +kernel
theorem dX2_find_97 : decode cX2_find 97 = .ok (.iinc 4 1, 3) := by decide +kernel
theorem dX2_find_100 : decode cX2_find 100 = .ok (.goto (-85), 3) := by decide +kernel
theorem dX2_find_103 : decode cX2_find 103 = .ok (.return_, 1) := by decide +kernel
theorem dX2_at_0 : decode cX2_at 0 = .ok (.aload_n 0, 1) := by decide +kernel
theorem dX2_at_1 : decode cX2_at 1 = .ok (.getfield 15, 3) := by decide +kernel
theorem dX2_at_4 : decode cX2_at 4 = .ok (.ifnull 15, 3) := by decide +kernel
theorem dX2_at_7 : decode cX2_at 7 = .ok (.iload_n 1, 1) := by decide +kernel
theorem dX2_at_8 : decode cX2_at 8 = .ok (.ifCond .lt 11, 3) := by decide +kernel
theorem dX2_at_11 : decode cX2_at 11 = .ok (.iload_n 1, 1) := by decide +kernel
theorem dX2_at_12 : decode cX2_at 12 = .ok (.aload_n 0, 1) := by decide +kernel
theorem dX2_at_13 : decode cX2_at 13 = .ok (.getfield 19, 3) := by decide +kernel
theorem dX2_at_16 : decode cX2_at 16 = .ok (.if_icmp .lt 7, 3) := by decide +kernel
theorem dX2_at_19 : decode cX2_at 19 = .ok (.iconst 0, 1) := by decide +kernel
theorem dX2_at_20 : decode cX2_at 20 = .ok (.goto 17, 3) := by decide +kernel
theorem dX2_at_23 : decode cX2_at 23 = .ok (.aload_n 0, 1) := by decide +kernel
theorem dX2_at_24 : decode cX2_at 24 = .ok (.getfield 15, 3) := by decide +kernel
theorem dX2_at_27 : decode cX2_at 27 = .ok (.aload_n 0, 1) := by decide +kernel
theorem dX2_at_28 : decode cX2_at 28 = .ok (.getfield 9, 3) := by decide +kernel
theorem dX2_at_31 : decode cX2_at 31 = .ok (.iload_n 1, 1) := by decide +kernel
theorem dX2_at_32 : decode cX2_at 32 = .ok (.iaload, 1) := by decide +kernel
theorem dX2_at_33 : decode cX2_at 33 = .ok (.iload_n 2, 1) := by decide +kernel
theorem dX2_at_34 : decode cX2_at 34 = .ok (.invokevirtual 30, 3) := by decide +kernel
theorem dX2_at_37 : decode cX2_at 37 = .ok (.ireturn, 1) := by decide +kernel
theorem dX3_init_0 : decode cX3_init 0 = .ok (.aload_n 0, 1) := by decide +kernel
theorem dX3_init_1 : decode cX3_init 1 = .ok (.invokespecial 3, 3) := by decide +kernel
theorem dX3_init_4 : decode cX3_init 4 = .ok (.aload_n 0, 1) := by decide +kernel
theorem dX3_init_5 : decode cX3_init 5 = .ok (.iconst 3, 1) := by decide +kernel
theorem dX3_init_6 : decode cX3_init 6 = .ok (.newarray .int, 2) := by decide +kernel
theorem dX3_init_8 : decode cX3_init 8 = .ok (.putfield 9, 3) := by decide +kernel
theorem dX3_init_11 : decode cX3_init 11 = .ok (.aload_n 0, 1) := by decide +kernel
theorem dX3_init_12 : decode cX3_init 12 = .ok (.iconst 3, 1) := by decide +kernel
theorem dX3_init_13 : decode cX3_init 13 = .ok (.newarray .int, 2) := by decide +kernel
theorem dX3_init_15 : decode cX3_init 15 = .ok (.putfield 15, 3) := by decide +kernel
theorem dX3_init_18 : decode cX3_init 18 = .ok (.aload_n 0, 1) := by decide +kernel
theorem dX3_init_19 : decode cX3_init 19 = .ok (.bipush 6, 2) := by decide +kernel
theorem dX3_init_21 : decode cX3_init 21 = .ok (.newarray .int, 2) := by decide +kernel
theorem dX3_init_23 : decode cX3_init 23 = .ok (.putfield 18, 3) := by decide +kernel
theorem dX3_init_26 : decode cX3_init 26 = .ok (.return_, 1) := by decide +kernel
theorem dX3_open_0 : decode cX3_open 0 = .ok (.aload_n 0, 1) := by decide +kernel
theorem dX3_open_1 : decode cX3_open 1 = .ok (.iload_n 1, 1) := by decide +kernel
theorem dX3_open_2 : decode cX3_open 2 = .ok (.putfield 21, 3) := by decide +kernel
theorem dX3_open_5 : decode cX3_open 5 = .ok (.aload_n 0, 1) := by decide +kernel
theorem dX3_open_6 : decode cX3_open 6 = .ok (.iload_n 2, 1) := by decide +kernel
theorem dX3_open_7 : decode cX3_open 7 = .ok (.putfield 25, 3) := by decide +kernel
theorem dX3_open_10 : decode cX3_open 10 = .ok (.aload_n 0, 1) := by decide +kernel
theorem dX3_open_11 : decode cX3_open 11 = .ok (.iconst 0, 1) := by decide +kernel
theorem dX3_open_12 : decode cX3_open 12 = .ok (.putfield 28, 3) := by decide +kernel
theorem dX3_open_15 : decode cX3_open 15 = .ok (.aload_n 0, 1) := by decide +kernel
theorem dX3_open_16 : decode cX3_open 16 = .ok (.iconst 0, 1) := by decide +kernel
theorem dX3_open_17 : decode cX3_open 17 = .ok (.putfield 31, 3) := by decide +kernel
theorem dX3_open_20 : decode cX3_open 20 = .ok (.aload_n 0, 1) := by decide +kernel
theorem dX3_open_21 : decode cX3_open 21 = .ok (.iload_n 3, 1) := by decide +kernel
theorem dX3_open_22 : decode cX3_open 22 = .ok (.putfield 34, 3) := by decide +kernel
theorem dX3_open_25 : decode cX3_open 25 = .ok (.return_, 1) := by decide +kernel
theorem dX3_isFact_0 : decode cX3_isFact 0 = .ok (.aload_n 0, 1) := by decide +kernel
theorem dX3_isFact_1 : decode cX3_isFact 1 = .ok (.getfield 21, 3) := by decide +kernel
theorem dX3_isFact_4 : decode cX3_isFact 4 = .ok (.ifCond .eq 11, 3) := by decide +kernel
theorem dX3_isFact_7 : decode cX3_isFact 7 = .ok (.aload_n 0, 1) := by decide +kernel
theorem dX3_isFact_8 : decode cX3_isFact 8 = .ok (.getfield 21, 3) := by decide +kernel
theorem dX3_isFact_11 : decode cX3_isFact 11 = .ok (.iconst 1, 1) := by decide +kernel
theorem dX3_isFact_12 : decode cX3_isFact 12 = .ok (.if_icmp .ne 7, 3) := by decide +kernel
theorem dX3_isFact_15 : decode cX3_isFact 15 = .ok (.iconst 1, 1) := by decide +kernel
theorem dX3_isFact_16 : decode cX3_isFact 16 = .ok (.goto 4, 3) := by decide +kernel
theorem dX3_isFact_19 : decode cX3_isFact 19 = .ok (.iconst 0, 1) := by decide +kernel
theorem dX3_isFact_20 : decode cX3_isFact 20 = .ok (.ireturn, 1) := by decide +kernel
theorem dX3_isFull_0 : decode cX3_isFull 0 = .ok (.aload_n 0, 1) := by decide +kernel
theorem dX3_isFull_1 : decode cX3_isFull 1 = .ok (.getfield 28, 3) := by decide +kernel
theorem dX3_isFull_4 : decode cX3_isFull 4 = .ok (.aload_n 0, 1) := by decide +kernel
theorem dX3_isFull_5 : decode cX3_isFull 5 = .ok (.getfield 34, 3) := by decide +kernel
theorem dX3_isFull_8 : decode cX3_isFull 8 = .ok (.if_icmp .lt 7, 3) := by decide +kernel
theorem dX3_isFull_11 : decode cX3_isFull 11 = .ok (.iconst 1, 1) := by decide +kernel
theorem dX3_isFull_12 : decode cX3_isFull 12 = .ok (.goto 4, 3) := by decide +kernel
theorem dX3_isFull_15 : decode cX3_isFull 15 = .ok (.iconst 0, 1) := by decide +kernel
theorem dX3_isFull_16 : decode cX3_isFull 16 = .ok (.ireturn, 1) := by decide +kernel
theorem dX3_carries_0 : decode cX3_carries 0 = .ok (.aload_n 0, 1) := by decide +kernel
theorem dX3_carries_1 : decode cX3_carries 1 = .ok (.getfield 31, 3) := by decide +kernel
theorem dX3_carries_4 : decode cX3_carries 4 = .ok (.iload_n 1, 1) := by decide +kernel
theorem dX3_carries_5 : decode cX3_carries 5 = .ok (.ishr, 1) := by decide +kernel
theorem dX3_carries_6 : decode cX3_carries 6 = .ok (.iconst 1, 1) := by decide +kernel
theorem dX3_carries_7 : decode cX3_carries 7 = .ok (.iand, 1) := by decide +kernel
theorem dX3_carries_8 : decode cX3_carries 8 = .ok (.ifCond .eq 7, 3) := by decide +kernel
theorem dX3_carries_11 : decode cX3_carries 11 = .ok (.iconst 1, 1) := by decide +kernel
theorem dX3_carries_12 : decode cX3_carries 12 = .ok (.goto 4, 3) := by decide +kernel
theorem dX3_carries_15 : decode cX3_carries 15 = .ok (.iconst 0, 1) := by decide +kernel
theorem dX3_carries_16 : decode cX3_carries 16 = .ok (.ireturn, 1) := by decide +kernel
theorem dX3_addName_0 : decode cX3_addName 0 = .ok (.aload_n 0, 1) := by decide +kernel
theorem dX3_addName_1 : decode cX3_addName 1 = .ok (.iload_n 1, 1) := by decide +kernel
theorem dX3_addName_2 : decode cX3_addName 2 = .ok (.invokevirtual 37, 3) := by decide +kernel
theorem dX3_addName_5 : decode cX3_addName 5 = .ok (.ifCond .ne 25, 3) := by decide +kernel
theorem dX3_addName_8 : decode cX3_addName 8 = .ok (.aload_n 0, 1) := by decide +kernel
theorem dX3_addName_9 : decode cX3_addName 9 = .ok (.getfield 18, 3) := by decide +kernel
theorem dX3_addName_12 : decode cX3_addName 12 = .ok (.iload_n 1, 1) := by decide +kernel
theorem dX3_addName_13 : decode cX3_addName 13 = .ok (.aload_n 0, 1) := by decide +kernel
theorem dX3_addName_14 : decode cX3_addName 14 = .ok (.getfield 28, 3) := by decide +kernel
theorem dX3_addName_17 : decode cX3_addName 17 = .ok (.iastore, 1) := by decide +kernel
theorem dX3_addName_18 : decode cX3_addName 18 = .ok (.aload_n 0, 1) := by decide +kernel
theorem dX3_addName_19 : decode cX3_addName 19 = .ok (.dup, 1) := by decide +kernel
theorem dX3_addName_20 : decode cX3_addName 20 = .ok (.getfield 31, 3) := by decide +kernel
theorem dX3_addName_23 : decode cX3_addName 23 = .ok (.iconst 1, 1) := by decide +kernel
theorem dX3_addName_24 : decode cX3_addName 24 = .ok (.iload_n 1, 1) := by decide +kernel
theorem dX3_addName_25 : decode cX3_addName 25 = .ok (.ishl, 1) := by decide +kernel
theorem dX3_addName_26 : decode cX3_addName 26 = .ok (.ior, 1) := by decide +kernel
theorem dX3_addName_27 : decode cX3_addName 27 = .ok (.putfield 31, 3) := by decide +kernel
theorem dX3_addName_30 : decode cX3_addName 30 = .ok (.aload_n 0, 1) := by decide +kernel
theorem dX3_addName_31 : decode cX3_addName 31 = .ok (.iload_n 1, 1) := by decide +kernel
theorem dX3_addName_32 : decode cX3_addName 32 = .ok (.iconst 0, 1) := by decide +kernel
theorem dX3_addName_33 : decode cX3_addName 33 = .ok (.invokevirtual 41, 3) := by decide +kernel
theorem dX3_addName_36 : decode cX3_addName 36 = .ok (.ireturn, 1) := by decide +kernel
theorem dX3_addTold_0 : decode cX3_addTold 0 = .ok (.aload_n 0, 1) := by decide +kernel
theorem dX3_addTold_1 : decode cX3_addTold 1 = .ok (.iconst (-1), 1) := by decide +kernel
theorem dX3_addTold_2 : decode cX3_addTold 2 = .ok (.iload_n 1, 1) := by decide +kernel
theorem dX3_addTold_3 : decode cX3_addTold 3 = .ok (.invokevirtual 41, 3) := by decide +kernel
theorem dX3_addTold_6 : decode cX3_addTold 6 = .ok (.ireturn, 1) := by decide +kernel
theorem dX3_fits_0 : decode cX3_fits 0 = .ok (.iconst 0, 1) := by decide +kernel
theorem dX3_fits_1 : decode cX3_fits 1 = .ok (.istore_n 3, 1) := by decide +kernel
theorem dX3_fits_2 : decode cX3_fits 2 = .ok (.iload_n 3, 1) := by decide +kernel
theorem dX3_fits_3 : decode cX3_fits 3 = .ok (.aload_n 0, 1) := by decide +kernel
theorem dX3_fits_4 : decode cX3_fits 4 = .ok (.getfield 28, 3) := by decide +kernel
theorem dX3_fits_7 : decode cX3_fits 7 = .ok (.if_icmp .ge 59, 3) := by decide +kernel
theorem dX3_fits_10 : decode cX3_fits 10 = .ok (.aload_n 0, 1) := by decide +kernel
theorem dX3_fits_11 : decode cX3_fits 11 = .ok (.getfield 9, 3) := by decide +kernel
theorem dX3_fits_14 : decode cX3_fits 14 = .ok (.iload_n 3, 1) := by decide +kernel
theorem dX3_fits_15 : decode cX3_fits 15 = .ok (.iaload, 1) := by decide +kernel
theorem dX3_fits_16 : decode cX3_fits 16 = .ok (.iconst (-1), 1) := by decide +kernel
theorem dX3_fits_17 : decode cX3_fits 17 = .ok (.if_icmp .ne 12, 3) := by decide +kernel
theorem dX3_fits_20 : decode cX3_fits 20 = .ok (.aload_n 0, 1) := by decide +kernel
theorem dX3_fits_21 : decode cX3_fits 21 = .ok (.getfield 15, 3) := by decide +kernel
theorem dX3_fits_24 : decode cX3_fits 24 = .ok (.iload_n 3, 1) := by decide +kernel
theorem dX3_fits_25 : decode cX3_fits 25 = .ok (.iaload, 1) := by decide +kernel
theorem dX3_fits_26 : decode cX3_fits 26 = .ok (.goto 19, 3) := by decide +kernel
theorem dX3_fits_29 : decode cX3_fits 29 = .ok (.aload_n 1, 1) := by decide +kernel
theorem dX3_fits_30 : decode cX3_fits 30 = .ok (.iload_n 2, 1) := by decide +kernel
theorem dX3_fits_31 : decode cX3_fits 31 = .ok (.aload_n 0, 1) := by decide +kernel
theorem dX3_fits_32 : decode cX3_fits 32 = .ok (.getfield 18, 3) := by decide +kernel
theorem dX3_fits_35 : decode cX3_fits 35 = .ok (.aload_n 0, 1) := by decide +kernel
theorem dX3_fits_36 : decode cX3_fits 36 = .ok (.getfield 9, 3) := by decide +kernel
theorem dX3_fits_39 : decode cX3_fits 39 = .ok (.iload_n 3, 1) := by decide +kernel
theorem dX3_fits_40 : decode cX3_fits 40 = .ok (.iaload, 1) := by decide +kernel
theorem dX3_fits_41 : decode cX3_fits 41 = .ok (.iaload, 1) := by decide +kernel
theorem dX3_fits_42 : decode cX3_fits 42 = .ok (.invokevirtual 45, 3) := by decide +kernel
theorem dX3_fits_45 : decode cX3_fits 45 = .ok (.istore 4, 2) := by decide +kernel
theorem dX3_fits_47 : decode cX3_fits 47 = .ok (.aload_n 1, 1) := by decide +kernel
theorem dX3_fits_48 : decode cX3_fits 48 = .ok (.iload_n 2, 1) := by decide +kernel
theorem dX3_fits_49 : decode cX3_fits 49 = .ok (.iload_n 3, 1) := by decide +kernel
theorem dX3_fits_50 : decode cX3_fits 50 = .ok (.invokevirtual 45, 3) := by decide +kernel
theorem dX3_fits_53 : decode cX3_fits 53 = .ok (.iload 4, 2) := by decide +kernel
theorem dX3_fits_55 : decode cX3_fits 55 = .ok (.if_icmp .eq 5, 3) := by decide +kernel
theorem dX3_fits_58 : decode cX3_fits 58 = .ok (.iconst 0, 1) := by decide +kernel
theorem dX3_fits_59 : decode cX3_fits 59 = .ok (.ireturn, 1) := by decide +kernel
theorem dX3_fits_60 : decode cX3_fits 60 = .ok (.iinc 3 1, 3) := by decide +kernel
theorem dX3_fits_63 : decode cX3_fits 63 = .ok (.goto (-61), 3) := by decide +kernel
theorem dX3_fits_66 : decode cX3_fits 66 = .ok (.iconst 1, 1) := by decide +kernel
theorem dX3_fits_67 : decode cX3_fits 67 = .ok (.ireturn, 1) := by decide +kernel
theorem dX3_addPlace_0 : decode cX3_addPlace 0 = .ok (.aload_n 0, 1) := by decide +kernel
theorem dX3_addPlace_1 : decode cX3_addPlace 1 = .ok (.getfield 28, 3) := by decide +kernel
theorem dX3_addPlace_4 : decode cX3_addPlace 4 = .ok (.iconst 3, 1) := by decide +kernel
theorem dX3_addPlace_5 : decode cX3_addPlace 5 = .ok (.if_icmp .lt 5, 3) := by decide +kernel
theorem dX3_addPlace_8 : decode cX3_addPlace 8 = .ok (.iconst (-1), 1) := by decide +kernel
theorem dX3_addPlace_9 : decode cX3_addPlace 9 = .ok (.ireturn, 1) := by decide +kernel
theorem dX3_addPlace_10 : decode cX3_addPlace 10 = .ok (.aload_n 0, 1) := by decide +kernel
theorem dX3_addPlace_11 : decode cX3_addPlace 11 = .ok (.getfield 9, 3) := by decide +kernel
theorem dX3_addPlace_14 : decode cX3_addPlace 14 = .ok (.aload_n 0, 1) := by decide +kernel
theorem dX3_addPlace_15 : decode cX3_addPlace 15 = .ok (.getfield 28, 3) := by decide +kernel
theorem dX3_addPlace_18 : decode cX3_addPlace 18 = .ok (.iload_n 1, 1) := by decide +kernel
theorem dX3_addPlace_19 : decode cX3_addPlace 19 = .ok (.iastore, 1) := by decide +kernel
theorem dX3_addPlace_20 : decode cX3_addPlace 20 = .ok (.aload_n 0, 1) := by decide +kernel
theorem dX3_addPlace_21 : decode cX3_addPlace 21 = .ok (.getfield 15, 3) := by decide +kernel
theorem dX3_addPlace_24 : decode cX3_addPlace 24 = .ok (.aload_n 0, 1) := by decide +kernel
theorem dX3_addPlace_25 : decode cX3_addPlace 25 = .ok (.getfield 28, 3) := by decide +kernel
theorem dX3_addPlace_28 : decode cX3_addPlace 28 = .ok (.iload_n 2, 1) := by decide +kernel
theorem dX3_addPlace_29 : decode cX3_addPlace 29 = .ok (.iastore, 1) := by decide +kernel
theorem dX3_addPlace_30 : decode cX3_addPlace 30 = .ok (.aload_n 0, 1) := by decide +kernel
theorem dX3_addPlace_31 : decode cX3_addPlace 31 = .ok (.dup, 1) := by decide +kernel
theorem dX3_addPlace_32 : decode cX3_addPlace 32 = .ok (.getfield 28, 3) := by decide +kernel
theorem dX3_addPlace_35 : decode cX3_addPlace 35 = .ok (.iconst 1, 1) := by decide +kernel
theorem dX3_addPlace_36 : decode cX3_addPlace 36 = .ok (.iadd, 1) := by decide +kernel
theorem dX3_addPlace_37 : decode cX3_addPlace 37 = .ok (.putfield 28, 3) := by decide +kernel
theorem dX3_addPlace_40 : decode cX3_addPlace 40 = .ok (.aload_n 0, 1) := by decide +kernel
theorem dX3_addPlace_41 : decode cX3_addPlace 41 = .ok (.getfield 28, 3) := by decide +kernel
theorem dX3_addPlace_44 : decode cX3_addPlace 44 = .ok (.ireturn, 1) := by decide +kernel
theorem dX4_init_0 : decode cX4_init 0 = .ok (.aload_n 0, 1) := by decide +kernel
theorem dX4_init_1 : decode cX4_init 1 = .ok (.invokespecial 3, 3) := by decide +kernel
theorem dX4_init_4 : decode cX4_init 4 = .ok (.aload_n 0, 1) := by decide +kernel
theorem dX4_init_5 : decode cX4_init 5 = .ok (.bipush 10, 2) := by decide +kernel
theorem dX4_init_7 : decode cX4_init 7 = .ok (.anewarray 9, 3) := by decide +kernel
theorem dX4_init_10 : decode cX4_init 10 = .ok (.putfield 11, 3) := by decide +kernel
theorem dX4_init_13 : decode cX4_init 13 = .ok (.aload_n 0, 1) := by decide +kernel
theorem dX4_init_14 : decode cX4_init 14 = .ok (.bipush 6, 2) := by decide +kernel
theorem dX4_init_16 : decode cX4_init 16 = .ok (.newarray .int, 2) := by decide +kernel
theorem dX4_init_18 : decode cX4_init 18 = .ok (.putfield 17, 3) := by decide +kernel
theorem dX4_init_21 : decode cX4_init 21 = .ok (.iconst 0, 1) := by decide +kernel
theorem dX4_init_22 : decode cX4_init 22 = .ok (.istore_n 1, 1) := by decide +kernel
theorem dX4_init_23 : decode cX4_init 23 = .ok (.iload_n 1, 1) := by decide +kernel
theorem dX4_init_24 : decode cX4_init 24 = .ok (.bipush 10, 2) := by decide +kernel
theorem dX4_init_26 : decode cX4_init 26 = .ok (.if_icmp .ge 22, 3) := by decide +kernel
theorem dX4_init_29 : decode cX4_init 29 = .ok (.aload_n 0, 1) := by decide +kernel
theorem dX4_init_30 : decode cX4_init 30 = .ok (.getfield 11, 3) := by decide +kernel
theorem dX4_init_33 : decode cX4_init 33 = .ok (.iload_n 1, 1) := by decide +kernel
theorem dX4_init_34 : decode cX4_init 34 = .ok (.new 9, 3) := by decide +kernel
theorem dX4_init_37 : decode cX4_init 37 = .ok (.dup, 1) := by decide +kernel
theorem dX4_init_38 : decode cX4_init 38 = .ok (.invokespecial 21, 3) := by decide +kernel
theorem dX4_init_41 : decode cX4_init 41 = .ok (.aastore, 1) := by decide +kernel
theorem dX4_init_42 : decode cX4_init 42 = .ok (.iinc 1 1, 3) := by decide +kernel
theorem dX4_init_45 : decode cX4_init 45 = .ok (.goto (-22), 3) := by decide +kernel
theorem dX4_init_48 : decode cX4_init 48 = .ok (.return_, 1) := by decide +kernel
theorem dX4_open_0 : decode cX4_open 0 = .ok (.aload_n 0, 1) := by decide +kernel
theorem dX4_open_1 : decode cX4_open 1 = .ok (.iload_n 1, 1) := by decide +kernel
theorem dX4_open_2 : decode cX4_open 2 = .ok (.putfield 22, 3) := by decide +kernel
theorem dX4_open_5 : decode cX4_open 5 = .ok (.aload_n 0, 1) := by decide +kernel
theorem dX4_open_6 : decode cX4_open 6 = .ok (.iconst 0, 1) := by decide +kernel
theorem dX4_open_7 : decode cX4_open 7 = .ok (.putfield 26, 3) := by decide +kernel
theorem dX4_open_10 : decode cX4_open 10 = .ok (.aload_n 0, 1) := by decide +kernel
theorem dX4_open_11 : decode cX4_open 11 = .ok (.iconst 0, 1) := by decide +kernel
theorem dX4_open_12 : decode cX4_open 12 = .ok (.putfield 29, 3) := by decide +kernel
theorem dX4_open_15 : decode cX4_open 15 = .ok (.iconst 0, 1) := by decide +kernel
theorem dX4_open_16 : decode cX4_open 16 = .ok (.istore_n 2, 1) := by decide +kernel
theorem dX4_open_17 : decode cX4_open 17 = .ok (.iload_n 2, 1) := by decide +kernel
theorem dX4_open_18 : decode cX4_open 18 = .ok (.bipush 6, 2) := by decide +kernel
theorem dX4_open_20 : decode cX4_open 20 = .ok (.if_icmp .ge 16, 3) := by decide +kernel
theorem dX4_open_23 : decode cX4_open 23 = .ok (.aload_n 0, 1) := by decide +kernel
theorem dX4_open_24 : decode cX4_open 24 = .ok (.getfield 17, 3) := by decide +kernel
theorem dX4_open_27 : decode cX4_open 27 = .ok (.iload_n 2, 1) := by decide +kernel
theorem dX4_open_28 : decode cX4_open 28 = .ok (.iload_n 2, 1) := by decide +kernel
theorem dX4_open_29 : decode cX4_open 29 = .ok (.iastore, 1) := by decide +kernel
theorem dX4_open_30 : decode cX4_open 30 = .ok (.iinc 2 1, 3) := by decide +kernel
theorem dX4_open_33 : decode cX4_open 33 = .ok (.goto (-16), 3) := by decide +kernel
theorem dX4_open_36 : decode cX4_open 36 = .ok (.return_, 1) := by decide +kernel
theorem dX4_hasName_0 : decode cX4_hasName 0 = .ok (.iload_n 1, 1) := by decide +kernel
theorem dX4_hasName_1 : decode cX4_hasName 1 = .ok (.ifCond .lt 15, 3) := by decide +kernel
theorem dX4_hasName_4 : decode cX4_hasName 4 = .ok (.iload_n 1, 1) := by decide +kernel
theorem dX4_hasName_5 : decode cX4_hasName 5 = .ok (.aload_n 0, 1) := by decide +kernel
theorem dX4_hasName_6 : decode cX4_hasName 6 = .ok (.getfield 22, 3) := by decide +kernel
theorem dX4_hasName_9 : decode cX4_hasName 9 = .ok (.if_icmp .ge 7, 3) := by decide +kernel
theorem dX4_hasName_12 : decode cX4_hasName 12 = .ok (.iconst 1, 1) := by decide +kernel
theorem dX4_hasName_13 : decode cX4_hasName 13 = .ok (.goto 4, 3) := by decide +kernel
theorem dX4_hasName_16 : decode cX4_hasName 16 = .ok (.iconst 0, 1) := by decide +kernel
theorem dX4_hasName_17 : decode cX4_hasName 17 = .ok (.ireturn, 1) := by decide +kernel
theorem dX4_asksOf_0 : decode cX4_asksOf 0 = .ok (.iconst 0, 1) := by decide +kernel
theorem dX4_asksOf_1 : decode cX4_asksOf 1 = .ok (.istore_n 2, 1) := by decide +kernel
theorem dX4_asksOf_2 : decode cX4_asksOf 2 = .ok (.iload_n 2, 1) := by decide +kernel
theorem dX4_asksOf_3 : decode cX4_asksOf 3 = .ok (.aload_n 0, 1) := by decide +kernel
theorem dX4_asksOf_4 : decode cX4_asksOf 4 = .ok (.getfield 26, 3) := by decide +kernel
theorem dX4_asksOf_7 : decode cX4_asksOf 7 = .ok (.if_icmp .ge 36, 3) := by decide +kernel
theorem dX4_asksOf_10 : decode cX4_asksOf 10 = .ok (.aload_n 0, 1) := by decide +kernel
theorem dX4_asksOf_11 : decode cX4_asksOf 11 = .ok (.getfield 11, 3) := by decide +kernel
theorem dX4_asksOf_14 : decode cX4_asksOf 14 = .ok (.iload_n 2, 1) := by decide +kernel
theorem dX4_asksOf_15 : decode cX4_asksOf 15 = .ok (.aaload, 1) := by decide +kernel
theorem dX4_asksOf_16 : decode cX4_asksOf 16 = .ok (.invokevirtual 32, 3) := by decide +kernel
theorem dX4_asksOf_19 : decode cX4_asksOf 19 = .ok (.ifCond .eq 18, 3) := by decide +kernel
theorem dX4_asksOf_22 : decode cX4_asksOf 22 = .ok (.aload_n 0, 1) := by decide +kernel
theorem dX4_asksOf_23 : decode cX4_asksOf 23 = .ok (.getfield 11, 3) := by decide +kernel
theorem dX4_asksOf_26 : decode cX4_asksOf 26 = .ok (.iload_n 2, 1) := by decide +kernel
theorem dX4_asksOf_27 : decode cX4_asksOf 27 = .ok (.aaload, 1) := by decide +kernel
theorem dX4_asksOf_28 : decode cX4_asksOf 28 = .ok (.getfield 36, 3) := by decide +kernel
theorem dX4_asksOf_31 : decode cX4_asksOf 31 = .ok (.iload_n 1, 1) := by decide +kernel
theorem dX4_asksOf_32 : decode cX4_asksOf 32 = .ok (.if_icmp .ne 5, 3) := by decide +kernel
theorem dX4_asksOf_35 : decode cX4_asksOf 35 = .ok (.iconst 1, 1) := by decide +kernel
theorem dX4_asksOf_36 : decode cX4_asksOf 36 = .ok (.ireturn, 1) := by decide +kernel
theorem dX4_asksOf_37 : decode cX4_asksOf 37 = .ok (.iinc 2 1, 3) := by decide +kernel
theorem dX4_asksOf_40 : decode cX4_asksOf 40 = .ok (.goto (-38), 3) := by decide +kernel
theorem dX4_asksOf_43 : decode cX4_asksOf 43 = .ok (.iconst 0, 1) := by decide +kernel
theorem dX4_asksOf_44 : decode cX4_asksOf 44 = .ok (.ireturn, 1) := by decide +kernel
theorem dX4_hasRoomFor_0 : decode cX4_hasRoomFor 0 = .ok (.aload_n 0, 1) := by decide +kernel
theorem dX4_hasRoomFor_1 : decode cX4_hasRoomFor 1 = .ok (.getfield 22, 3) := by decide +kernel
theorem dX4_hasRoomFor_4 : decode cX4_hasRoomFor 4 = .ok (.ifCond .le 28, 3) := by decide +kernel
theorem dX4_hasRoomFor_7 : decode cX4_hasRoomFor 7 = .ok (.aload_n 0, 1) := by decide +kernel
theorem dX4_hasRoomFor_8 : decode cX4_hasRoomFor 8 = .ok (.getfield 26, 3) := by decide +kernel
theorem dX4_hasRoomFor_11 : decode cX4_hasRoomFor 11 = .ok (.bipush 10, 2) := by decide +kernel
theorem dX4_hasRoomFor_13 : decode cX4_hasRoomFor 13 = .ok (.if_icmp .ge 19, 3) := by decide +kernel
theorem dX4_hasRoomFor_16 : decode cX4_hasRoomFor 16 = .ok (.iload_n 1, 1) := by decide +kernel
theorem dX4_hasRoomFor_17 : decode cX4_hasRoomFor 17 = .ok (.ifCond .ne 11, 3) := by decide +kernel
theorem dX4_hasRoomFor_20 : decode cX4_hasRoomFor 20 = .ok (.aload_n 0, 1) := by decide +kernel
theorem dX4_hasRoomFor_21 : decode cX4_hasRoomFor 21 = .ok (.getfield 29, 3) := by decide +kernel
theorem dX4_hasRoomFor_24 : decode cX4_hasRoomFor 24 = .ok (.iconst 5, 1) := by decide +kernel
theorem dX4_hasRoomFor_25 : decode cX4_hasRoomFor 25 = .ok (.if_icmp .ge 7, 3) := by decide +kernel
theorem dX4_hasRoomFor_28 : decode cX4_hasRoomFor 28 = .ok (.iconst 1, 1) := by decide +kernel
theorem dX4_hasRoomFor_29 : decode cX4_hasRoomFor 29 = .ok (.goto 4, 3) := by decide +kernel
theorem dX4_hasRoomFor_32 : decode cX4_hasRoomFor 32 = .ok (.iconst 0, 1) := by decide +kernel
theorem dX4_hasRoomFor_33 : decode cX4_hasRoomFor 33 = .ok (.ireturn, 1) := by decide +kernel
theorem dX4_lastPart_0 : decode cX4_lastPart 0 = .ok (.aload_n 0, 1) := by decide +kernel
theorem dX4_lastPart_1 : decode cX4_lastPart 1 = .ok (.getfield 26, 3) := by decide +kernel
theorem dX4_lastPart_4 : decode cX4_lastPart 4 = .ok (.ifCond .ne 7, 3) := by decide +kernel
theorem dX4_lastPart_7 : decode cX4_lastPart 7 = .ok (.aconst_null, 1) := by decide +kernel
theorem dX4_lastPart_8 : decode cX4_lastPart 8 = .ok (.goto 14, 3) := by decide +kernel
theorem dX4_lastPart_11 : decode cX4_lastPart 11 = .ok (.aload_n 0, 1) := by decide +kernel
theorem dX4_lastPart_12 : decode cX4_lastPart 12 = .ok (.getfield 11, 3) := by decide +kernel
theorem dX4_lastPart_15 : decode cX4_lastPart 15 = .ok (.aload_n 0, 1) := by decide +kernel
theorem dX4_lastPart_16 : decode cX4_lastPart 16 = .ok (.getfield 26, 3) := by decide +kernel
theorem dX4_lastPart_19 : decode cX4_lastPart 19 = .ok (.iconst 1, 1) := by decide +kernel
theorem dX4_lastPart_20 : decode cX4_lastPart 20 = .ok (.isub, 1) := by decide +kernel
theorem dX4_lastPart_21 : decode cX4_lastPart 21 = .ok (.aaload, 1) := by decide +kernel
theorem dX4_lastPart_22 : decode cX4_lastPart 22 = .ok (.areturn, 1) := by decide +kernel
theorem dX4_addFact_0 : decode cX4_addFact 0 = .ok (.aload_n 0, 1) := by decide +kernel
theorem dX4_addFact_1 : decode cX4_addFact 1 = .ok (.getfield 11, 3) := by decide +kernel
theorem dX4_addFact_4 : decode cX4_addFact 4 = .ok (.aload_n 0, 1) := by decide +kernel
theorem dX4_addFact_5 : decode cX4_addFact 5 = .ok (.getfield 26, 3) := by decide +kernel
theorem dX4_addFact_8 : decode cX4_addFact 8 = .ok (.aaload, 1) := by decide +kernel
theorem dX4_addFact_9 : decode cX4_addFact 9 = .ok (.iload_n 1, 1) := by decide +kernel
theorem dX4_addFact_10 : decode cX4_addFact 10 = .ok (.iload_n 2, 1) := by decide +kernel
theorem dX4_addFact_11 : decode cX4_addFact 11 = .ok (.iload_n 3, 1) := by decide +kernel
theorem dX4_addFact_12 : decode cX4_addFact 12 = .ok (.invokevirtual 39, 3) := by decide +kernel
theorem dX4_addFact_15 : decode cX4_addFact 15 = .ok (.iload_n 1, 1) := by decide +kernel
theorem dX4_addFact_16 : decode cX4_addFact 16 = .ok (.ifCond .ne 13, 3) := by decide +kernel
theorem dX4_addFact_19 : decode cX4_addFact 19 = .ok (.aload_n 0, 1) := by decide +kernel
theorem dX4_addFact_20 : decode cX4_addFact 20 = .ok (.dup, 1) := by decide +kernel
theorem dX4_addFact_21 : decode cX4_addFact 21 = .ok (.getfield 29, 3) := by decide +kernel
theorem dX4_addFact_24 : decode cX4_addFact 24 = .ok (.iconst 1, 1) := by decide +kernel
theorem dX4_addFact_25 : decode cX4_addFact 25 = .ok (.iadd, 1) := by decide +kernel
theorem dX4_addFact_26 : decode cX4_addFact 26 = .ok (.putfield 29, 3) := by decide +kernel
theorem dX4_addFact_29 : decode cX4_addFact 29 = .ok (.aload_n 0, 1) := by decide +kernel
theorem dX4_addFact_30 : decode cX4_addFact 30 = .ok (.dup, 1) := by decide +kernel
theorem dX4_addFact_31 : decode cX4_addFact 31 = .ok (.getfield 26, 3) := by decide +kernel
theorem dX4_addFact_34 : decode cX4_addFact 34 = .ok (.iconst 1, 1) := by decide +kernel
theorem dX4_addFact_35 : decode cX4_addFact 35 = .ok (.iadd, 1) := by decide +kernel
theorem dX4_addFact_36 : decode cX4_addFact 36 = .ok (.putfield 26, 3) := by decide +kernel
theorem dX4_addFact_39 : decode cX4_addFact 39 = .ok (.aload_n 0, 1) := by decide +kernel
theorem dX4_addFact_40 : decode cX4_addFact 40 = .ok (.getfield 26, 3) := by decide +kernel
theorem dX4_addFact_43 : decode cX4_addFact 43 = .ok (.iconst 1, 1) := by decide +kernel
theorem dX4_addFact_44 : decode cX4_addFact 44 = .ok (.isub, 1) := by decide +kernel
theorem dX4_addFact_45 : decode cX4_addFact 45 = .ok (.ireturn, 1) := by decide +kernel
theorem dX4_addComparison_0 : decode cX4_addComparison 0 = .ok (.aload_n 0, 1) := by decide +kernel
theorem dX4_addComparison_1 : decode cX4_addComparison 1 = .ok (.getfield 11, 3) := by decide +kernel
theorem dX4_addComparison_4 : decode cX4_addComparison 4 = .ok (.aload_n 0, 1) := by decide +kernel
theorem dX4_addComparison_5 : decode cX4_addComparison 5 = .ok (.getfield 26, 3) := by decide +kernel
theorem dX4_addComparison_8 : decode cX4_addComparison 8 = .ok (.aaload, 1) := by decide +kernel
theorem dX4_addComparison_9 : decode cX4_addComparison 9 = .ok (.astore 5, 2) := by decide +kernel
theorem dX4_addComparison_11 : decode cX4_addComparison 11 = .ok (.aload 5, 2) := by decide +kernel
theorem dX4_addComparison_13 : decode cX4_addComparison 13 = .ok (.iload_n 1, 1) := by decide +kernel
theorem dX4_addComparison_14 : decode cX4_addComparison 14 = .ok (.iconst (-1), 1) := by decide +kernel
theorem dX4_addComparison_15 : decode cX4_addComparison 15 = .ok (.iconst 2, 1) := by decide +kernel
theorem dX4_addComparison_16 : decode cX4_addComparison 16 = .ok (.invokevirtual 39, 3) := by decide +kernel
theorem dX4_addComparison_19 : decode cX4_addComparison 19 = .ok (.aload 5, 2) := by decide +kernel
theorem dX4_addComparison_21 : decode cX4_addComparison 21 = .ok (.iload_n 2, 1) := by decide +kernel
theorem dX4_addComparison_22 : decode cX4_addComparison 22 = .ok (.invokevirtual 43, 3) := by decide +kernel
theorem dX4_addComparison_25 : decode cX4_addComparison 25 = .ok (.pop, 1) := by decide +kernel
theorem dX4_addComparison_26 : decode cX4_addComparison 26 = .ok (.iload_n 3, 1) := by decide +kernel
theorem dX4_addComparison_27 : decode cX4_addComparison 27 = .ok (.ifCond .eq 14, 3) := by decide +kernel
theorem dX4_addComparison_30 : decode cX4_addComparison 30 = .ok (.aload 5, 2) := by decide +kernel
theorem dX4_addComparison_32 : decode cX4_addComparison 32 = .ok (.iload 4, 2) := by decide +kernel
theorem dX4_addComparison_34 : decode cX4_addComparison 34 = .ok (.invokevirtual 43, 3) := by decide +kernel
theorem dX4_addComparison_37 : decode cX4_addComparison 37 = .ok (.pop, 1) := by decide +kernel
theorem dX4_addComparison_38 : decode cX4_addComparison 38 = .ok (.goto 11, 3) := by decide +kernel
theorem dX4_addComparison_41 : decode cX4_addComparison 41 = .ok (.aload 5, 2) := by decide +kernel
theorem dX4_addComparison_43 : decode cX4_addComparison 43 = .ok (.iload 4, 2) := by decide +kernel
theorem dX4_addComparison_45 : decode cX4_addComparison 45 = .ok (.invokevirtual 47, 3) := by decide +kernel
theorem dX4_addComparison_48 : decode cX4_addComparison 48 = .ok (.pop, 1) := by decide +kernel
theorem dX4_addComparison_49 : decode cX4_addComparison 49 = .ok (.aload_n 0, 1) := by decide +kernel
theorem dX4_addComparison_50 : decode cX4_addComparison 50 = .ok (.dup, 1) := by decide +kernel
theorem dX4_addComparison_51 : decode cX4_addComparison 51 = .ok (.getfield 26, 3) := by decide +kernel
theorem dX4_addComparison_54 : decode cX4_addComparison 54 = .ok (.iconst 1, 1) := by decide +kernel
theorem dX4_addComparison_55 : decode cX4_addComparison 55 = .ok (.iadd, 1) := by decide +kernel
theorem dX4_addComparison_56 : decode cX4_addComparison 56 = .ok (.putfield 26, 3) := by decide +kernel
theorem dX4_addComparison_59 : decode cX4_addComparison 59 = .ok (.aload_n 0, 1) := by decide +kernel
theorem dX4_addComparison_60 : decode cX4_addComparison 60 = .ok (.getfield 26, 3) := by decide +kernel
theorem dX4_addComparison_63 : decode cX4_addComparison 63 = .ok (.iconst 1, 1) := by decide +kernel
theorem dX4_addComparison_64 : decode cX4_addComparison 64 = .ok (.isub, 1) := by decide +kernel
theorem dX4_addComparison_65 : decode cX4_addComparison 65 = .ok (.ireturn, 1) := by decide +kernel
theorem dX4_stands_0 : decode cX4_stands 0 = .ok (.iconst 0, 1) := by decide +kernel
theorem dX4_stands_1 : decode cX4_stands 1 = .ok (.istore_n 1, 1) := by decide +kernel
theorem dX4_stands_2 : decode cX4_stands 2 = .ok (.iconst 0, 1) := by decide +kernel
theorem dX4_stands_3 : decode cX4_stands 3 = .ok (.istore_n 2, 1) := by decide +kernel
theorem dX4_stands_4 : decode cX4_stands 4 = .ok (.iload_n 2, 1) := by decide +kernel
theorem dX4_stands_5 : decode cX4_stands 5 = .ok (.aload_n 0, 1) := by decide +kernel
theorem dX4_stands_6 : decode cX4_stands 6 = .ok (.getfield 26, 3) := by decide +kernel
theorem dX4_stands_9 : decode cX4_stands 9 = .ok (.if_icmp .ge 47, 3) := by decide +kernel
theorem dX4_stands_12 : decode cX4_stands 12 = .ok (.aload_n 0, 1) := by decide +kernel
theorem dX4_stands_13 : decode cX4_stands 13 = .ok (.getfield 11, 3) := by decide +kernel
theorem dX4_stands_16 : decode cX4_stands 16 = .ok (.iload_n 2, 1) := by decide +kernel
theorem dX4_stands_17 : decode cX4_stands 17 = .ok (.aaload, 1) := by decide +kernel
theorem dX4_stands_18 : decode cX4_stands 18 = .ok (.invokevirtual 50, 3) := by decide +kernel
theorem dX4_stands_21 : decode cX4_stands 21 = .ok (.ifCond .ne 5, 3) := by decide +kernel
theorem dX4_stands_24 : decode cX4_stands 24 = .ok (.iconst 0, 1) := by decide +kernel
theorem dX4_stands_25 : decode cX4_stands 25 = .ok (.ireturn, 1) := by decide +kernel
theorem dX4_stands_26 : decode cX4_stands 26 = .ok (.aload_n 0, 1) := by decide +kernel
theorem dX4_stands_27 : decode cX4_stands 27 = .ok (.getfield 11, 3) := by decide +kernel
theorem dX4_stands_30 : decode cX4_stands 30 = .ok (.iload_n 2, 1) := by decide +kernel
theorem dX4_stands_31 : decode cX4_stands 31 = .ok (.aaload, 1) := by decide +kernel
theorem dX4_stands_32 : decode cX4_stands 32 = .ok (.getfield 53, 3) := by decide +kernel
theorem dX4_stands_35 : decode cX4_stands 35 = .ok (.ifCond .ne 15, 3) := by decide +kernel
theorem dX4_stands_38 : decode cX4_stands 38 = .ok (.iload_n 1, 1) := by decide +kernel
theorem dX4_stands_39 : decode cX4_stands 39 = .ok (.aload_n 0, 1) := by decide +kernel
theorem dX4_stands_40 : decode cX4_stands 40 = .ok (.getfield 11, 3) := by decide +kernel
theorem dX4_stands_43 : decode cX4_stands 43 = .ok (.iload_n 2, 1) := by decide +kernel
theorem dX4_stands_44 : decode cX4_stands 44 = .ok (.aaload, 1) := by decide +kernel
theorem dX4_stands_45 : decode cX4_stands 45 = .ok (.getfield 56, 3) := by decide +kernel
theorem dX4_stands_48 : decode cX4_stands 48 = .ok (.ior, 1) := by decide +kernel
theorem dX4_stands_49 : decode cX4_stands 49 = .ok (.istore_n 1, 1) := by decide +kernel
theorem dX4_stands_50 : decode cX4_stands 50 = .ok (.iinc 2 1, 3) := by decide +kernel
theorem dX4_stands_53 : decode cX4_stands 53 = .ok (.goto (-49), 3) := by decide +kernel
theorem dX4_stands_56 : decode cX4_stands 56 = .ok (.aload_n 0, 1) := by decide +kernel
theorem dX4_stands_57 : decode cX4_stands 57 = .ok (.getfield 22, 3) := by decide +kernel
theorem dX4_stands_60 : decode cX4_stands 60 = .ok (.ifCond .le 19, 3) := by decide +kernel
theorem dX4_stands_63 : decode cX4_stands 63 = .ok (.iload_n 1, 1) := by decide +kernel
theorem dX4_stands_64 : decode cX4_stands 64 = .ok (.iconst 1, 1) := by decide +kernel
theorem dX4_stands_65 : decode cX4_stands 65 = .ok (.aload_n 0, 1) := by decide +kernel
theorem dX4_stands_66 : decode cX4_stands 66 = .ok (.getfield 22, 3) := by decide +kernel
theorem dX4_stands_69 : decode cX4_stands 69 = .ok (.ishl, 1) := by decide +kernel
theorem dX4_stands_70 : decode cX4_stands 70 = .ok (.iconst 1, 1) := by decide +kernel
theorem dX4_stands_71 : decode cX4_stands 71 = .ok (.isub, 1) := by decide +kernel
theorem dX4_stands_72 : decode cX4_stands 72 = .ok (.if_icmp .ne 7, 3) := by decide +kernel
theorem dX4_stands_75 : decode cX4_stands 75 = .ok (.iconst 1, 1) := by decide +kernel
theorem dX4_stands_76 : decode cX4_stands 76 = .ok (.goto 4, 3) := by decide +kernel
theorem dX4_stands_79 : decode cX4_stands 79 = .ok (.iconst 0, 1) := by decide +kernel
theorem dX4_stands_80 : decode cX4_stands 80 = .ok (.ireturn, 1) := by decide +kernel
theorem dX4_bringForward_0 : decode cX4_bringForward 0 = .ok (.iconst 0, 1) := by decide +kernel
theorem dX4_bringForward_1 : decode cX4_bringForward 1 = .ok (.istore_n 3, 1) := by decide +kernel
theorem dX4_bringForward_2 : decode cX4_bringForward 2 = .ok (.iload_n 3, 1) := by decide +kernel
theorem dX4_bringForward_3 : decode cX4_bringForward 3 = .ok (.aload_n 0, 1) := by decide +kernel
theorem dX4_bringForward_4 : decode cX4_bringForward 4 = .ok (.getfield 22, 3) := by decide +kernel
theorem dX4_bringForward_7 : decode cX4_bringForward 7 = .ok (.if_icmp .ge 39, 3) := by decide +kernel
theorem dX4_bringForward_10 : decode cX4_bringForward 10 = .ok (.aload_n 0, 1) := by decide +kernel
theorem dX4_bringForward_11 : decode cX4_bringForward 11 = .ok (.getfield 17, 3) := by decide +kernel
theorem dX4_bringForward_14 : decode cX4_bringForward 14 = .ok (.iload_n 3, 1) := by decide +kernel
theorem dX4_bringForward_15 : decode cX4_bringForward 15 = .ok (.iaload, 1) := by decide +kernel
theorem dX4_bringForward_16 : decode cX4_bringForward 16 = .ok (.iload_n 2, 1) := by decide +kernel
theorem dX4_bringForward_17 : decode cX4_bringForward 17 = .ok (.if_icmp .ne 23, 3) := by decide +kernel
theorem dX4_bringForward_20 : decode cX4_bringForward 20 = .ok (.aload_n 0, 1) := by decide +kernel
theorem dX4_bringForward_21 : decode cX4_bringForward 21 = .ok (.getfield 17, 3) := by decide +kernel
theorem dX4_bringForward_24 : decode cX4_bringForward 24 = .ok (.iload_n 3, 1) := by decide +kernel
theorem dX4_bringForward_25 : decode cX4_bringForward 25 = .ok (.aload_n 0, 1) := by decide +kernel
theorem dX4_bringForward_26 : decode cX4_bringForward 26 = .ok (.getfield 17, 3) := by decide +kernel
theorem dX4_bringForward_29 : decode cX4_bringForward 29 = .ok (.iload_n 1, 1) := by decide +kernel
theorem dX4_bringForward_30 : decode cX4_bringForward 30 = .ok (.iaload, 1) := by decide +kernel
theorem dX4_bringForward_31 : decode cX4_bringForward 31 = .ok (.iastore, 1) := by decide +kernel
theorem dX4_bringForward_32 : decode cX4_bringForward 32 = .ok (.aload_n 0, 1) := by decide +kernel
theorem dX4_bringForward_33 : decode cX4_bringForward 33 = .ok (.getfield 17, 3) := by decide +kernel
theorem dX4_bringForward_36 : decode cX4_bringForward 36 = .ok (.iload_n 1, 1) := by decide +kernel
theorem dX4_bringForward_37 : decode cX4_bringForward 37 = .ok (.iload_n 2, 1) := by decide +kernel
theorem dX4_bringForward_38 : decode cX4_bringForward 38 = .ok (.iastore, 1) := by decide +kernel
theorem dX4_bringForward_39 : decode cX4_bringForward 39 = .ok (.return_, 1) := by decide +kernel
theorem dX4_bringForward_40 : decode cX4_bringForward 40 = .ok (.iinc 3 1, 3) := by decide +kernel
theorem dX4_bringForward_43 : decode cX4_bringForward 43 = .ok (.goto (-41), 3) := by decide +kernel
theorem dX4_bringForward_46 : decode cX4_bringForward 46 = .ok (.return_, 1) := by decide +kernel
theorem dX4_nameInOrder_0 : decode cX4_nameInOrder 0 = .ok (.iload_n 1, 1) := by decide +kernel
theorem dX4_nameInOrder_1 : decode cX4_nameInOrder 1 = .ok (.bipush 10, 2) := by decide +kernel
theorem dX4_nameInOrder_3 : decode cX4_nameInOrder 3 = .ok (.if_icmp .lt 14, 3) := by decide +kernel
theorem dX4_nameInOrder_6 : decode cX4_nameInOrder 6 = .ok (.iload_n 1, 1) := by decide +kernel
theorem dX4_nameInOrder_7 : decode cX4_nameInOrder 7 = .ok (.bipush 10, 2) := by decide +kernel
theorem dX4_nameInOrder_9 : decode cX4_nameInOrder 9 = .ok (.isub, 1) := by decide +kernel
theorem dX4_nameInOrder_10 : decode cX4_nameInOrder 10 = .ok (.aload_n 0, 1) := by decide +kernel
theorem dX4_nameInOrder_11 : decode cX4_nameInOrder 11 = .ok (.getfield 22, 3) := by decide +kernel
theorem dX4_nameInOrder_14 : decode cX4_nameInOrder 14 = .ok (.if_icmp .lt 7, 3) := by decide +kernel
theorem dX4_nameInOrder_17 : decode cX4_nameInOrder 17 = .ok (.iconst (-1), 1) := by decide +kernel
theorem dX4_nameInOrder_18 : decode cX4_nameInOrder 18 = .ok (.goto 12, 3) := by decide +kernel
theorem dX4_nameInOrder_21 : decode cX4_nameInOrder 21 = .ok (.aload_n 0, 1) := by decide +kernel
theorem dX4_nameInOrder_22 : decode cX4_nameInOrder 22 = .ok (.getfield 17, 3) := by decide +kernel
theorem dX4_nameInOrder_25 : decode cX4_nameInOrder 25 = .ok (.iload_n 1, 1) := by decide +kernel
theorem dX4_nameInOrder_26 : decode cX4_nameInOrder 26 = .ok (.bipush 10, 2) := by decide +kernel
theorem dX4_nameInOrder_28 : decode cX4_nameInOrder 28 = .ok (.isub, 1) := by decide +kernel
theorem dX4_nameInOrder_29 : decode cX4_nameInOrder 29 = .ok (.iaload, 1) := by decide +kernel
theorem dX4_nameInOrder_30 : decode cX4_nameInOrder 30 = .ok (.ireturn, 1) := by decide +kernel
theorem dX5_init_0 : decode cX5_init 0 = .ok (.aload_n 0, 1) := by decide +kernel
theorem dX5_init_1 : decode cX5_init 1 = .ok (.invokespecial 1, 3) := by decide +kernel
theorem dX5_init_4 : decode cX5_init 4 = .ok (.return_, 1) := by decide +kernel
theorem dX5_walk_0 : decode cX5_walk 0 = .ok (.aload_n 0, 1) := by decide +kernel
theorem dX5_walk_1 : decode cX5_walk 1 = .ok (.iconst 0, 1) := by decide +kernel
theorem dX5_walk_2 : decode cX5_walk 2 = .ok (.putfield 7, 3) := by decide +kernel
theorem dX5_walk_5 : decode cX5_walk 5 = .ok (.iconst 0, 1) := by decide +kernel
theorem dX5_walk_6 : decode cX5_walk 6 = .ok (.istore_n 3, 1) := by decide +kernel
theorem dX5_walk_7 : decode cX5_walk 7 = .ok (.iload_n 3, 1) := by decide +kernel
theorem dX5_walk_8 : decode cX5_walk 8 = .ok (.aload_n 1, 1) := by decide +kernel
theorem dX5_walk_9 : decode cX5_walk 9 = .ok (.getfield 13, 3) := by decide +kernel
theorem dX5_walk_12 : decode cX5_walk 12 = .ok (.if_icmp .ge 50, 3) := by decide +kernel
theorem dX5_walk_15 : decode cX5_walk 15 = .ok (.aload_n 0, 1) := by decide +kernel
theorem dX5_walk_16 : decode cX5_walk 16 = .ok (.getfield 7, 3) := by decide +kernel
theorem dX5_walk_19 : decode cX5_walk 19 = .ok (.iload_n 2, 1) := by decide +kernel
theorem dX5_walk_20 : decode cX5_walk 20 = .ok (.if_icmp .gt 42, 3) := by decide +kernel
theorem dX5_walk_23 : decode cX5_walk 23 = .ok (.aload_n 1, 1) := by decide +kernel
theorem dX5_walk_24 : decode cX5_walk 24 = .ok (.iload_n 3, 1) := by decide +kernel
theorem dX5_walk_25 : decode cX5_walk 25 = .ok (.invokevirtual 18, 3) := by decide +kernel
theorem dX5_walk_28 : decode cX5_walk 28 = .ok (.ifCond .eq 28, 3) := by decide +kernel
theorem dX5_walk_31 : decode cX5_walk 31 = .ok (.aload_n 1, 1) := by decide +kernel
theorem dX5_walk_32 : decode cX5_walk 32 = .ok (.iload_n 3, 1) := by decide +kernel
theorem dX5_walk_33 : decode cX5_walk 33 = .ok (.iconst 0, 1) := by decide +kernel
theorem dX5_walk_34 : decode cX5_walk 34 = .ok (.invokevirtual 22, 3) := by decide +kernel
theorem dX5_walk_37 : decode cX5_walk 37 = .ok (.aload_n 1, 1) := by decide +kernel
theorem dX5_walk_38 : decode cX5_walk 38 = .ok (.iload_n 3, 1) := by decide +kernel
theorem dX5_walk_39 : decode cX5_walk 39 = .ok (.iconst 1, 1) := by decide +kernel
theorem dX5_walk_40 : decode cX5_walk 40 = .ok (.invokevirtual 22, 3) := by decide +kernel
theorem dX5_walk_43 : decode cX5_walk 43 = .ok (.invokestatic 26, 3) := by decide +kernel
theorem dX5_walk_46 : decode cX5_walk 46 = .ok (.ifCond .eq 10, 3) := by decide +kernel
theorem dX5_walk_49 : decode cX5_walk 49 = .ok (.aload_n 0, 1) := by decide +kernel
theorem dX5_walk_50 : decode cX5_walk 50 = .ok (.aload_n 1, 1) := by decide +kernel
theorem dX5_walk_51 : decode cX5_walk 51 = .ok (.iload_n 3, 1) := by decide +kernel
theorem dX5_walk_52 : decode cX5_walk 52 = .ok (.iload_n 2, 1) := by decide +kernel
theorem dX5_walk_53 : decode cX5_walk 53 = .ok (.invokevirtual 32, 3) := by decide +kernel
theorem dX5_walk_56 : decode cX5_walk 56 = .ok (.iinc 3 1, 3) := by decide +kernel
theorem dX5_walk_59 : decode cX5_walk 59 = .ok (.goto (-52), 3) := by decide +kernel
theorem dX5_walk_62 : decode cX5_walk 62 = .ok (.aload_n 0, 1) := by decide +kernel
theorem dX5_walk_63 : decode cX5_walk 63 = .ok (.getfield 7, 3) := by decide +kernel
theorem dX5_walk_66 : decode cX5_walk 66 = .ok (.ireturn, 1) := by decide +kernel
theorem dX5_corner_0 : decode cX5_corner 0 = .ok (.iload_n 1, 1) := by decide +kernel
theorem dX5_corner_1 : decode cX5_corner 1 = .ok (.tableswitch 42 0 2 #[27, 32, 37], 27) := by decide +kernel
theorem dX5_corner_28 : decode cX5_corner 28 = .ok (.aload_n 0, 1) := by decide +kernel
theorem dX5_corner_29 : decode cX5_corner 29 = .ok (.getfield 36, 3) := by decide +kernel
theorem dX5_corner_32 : decode cX5_corner 32 = .ok (.ireturn, 1) := by decide +kernel
theorem dX5_corner_33 : decode cX5_corner 33 = .ok (.aload_n 0, 1) := by decide +kernel
theorem dX5_corner_34 : decode cX5_corner 34 = .ok (.getfield 39, 3) := by decide +kernel
theorem dX5_corner_37 : decode cX5_corner 37 = .ok (.ireturn, 1) := by decide +kernel
theorem dX5_corner_38 : decode cX5_corner 38 = .ok (.aload_n 0, 1) := by decide +kernel
theorem dX5_corner_39 : decode cX5_corner 39 = .ok (.getfield 42, 3) := by decide +kernel
theorem dX5_corner_42 : decode cX5_corner 42 = .ok (.ireturn, 1) := by decide +kernel
theorem dX5_corner_43 : decode cX5_corner 43 = .ok (.iconst 0, 1) := by decide +kernel
theorem dX5_corner_44 : decode cX5_corner 44 = .ok (.ireturn, 1) := by decide +kernel
theorem dX5_close_0 : decode cX5_close 0 = .ok (.aload_n 1, 1) := by decide +kernel
theorem dX5_close_1 : decode cX5_close 1 = .ok (.iload_n 2, 1) := by decide +kernel
theorem dX5_close_2 : decode cX5_close 2 = .ok (.iconst 0, 1) := by decide +kernel
theorem dX5_close_3 : decode cX5_close 3 = .ok (.invokevirtual 22, 3) := by decide +kernel
theorem dX5_close_6 : decode cX5_close 6 = .ok (.istore 4, 2) := by decide +kernel
theorem dX5_close_8 : decode cX5_close 8 = .ok (.aload_n 1, 1) := by decide +kernel
theorem dX5_close_9 : decode cX5_close 9 = .ok (.iload_n 2, 1) := by decide +kernel
theorem dX5_close_10 : decode cX5_close 10 = .ok (.iconst 1, 1) := by decide +kernel
theorem dX5_close_11 : decode cX5_close 11 = .ok (.invokevirtual 22, 3) := by decide +kernel
theorem dX5_close_14 : decode cX5_close 14 = .ok (.istore 5, 2) := by decide +kernel
theorem dX5_close_16 : decode cX5_close 16 = .ok (.iconst 0, 1) := by decide +kernel
theorem dX5_close_17 : decode cX5_close 17 = .ok (.istore 6, 2) := by decide +kernel
theorem dX5_close_19 : decode cX5_close 19 = .ok (.iload 6, 2) := by decide +kernel
theorem dX5_close_21 : decode cX5_close 21 = .ok (.aload_n 1, 1) := by decide +kernel
theorem dX5_close_22 : decode cX5_close 22 = .ok (.getfield 13, 3) := by decide +kernel
theorem dX5_close_25 : decode cX5_close 25 = .ok (.if_icmp .ge 115, 3) := by decide +kernel
theorem dX5_close_28 : decode cX5_close 28 = .ok (.aload_n 0, 1) := by decide +kernel
theorem dX5_close_29 : decode cX5_close 29 = .ok (.getfield 7, 3) := by decide +kernel
theorem dX5_close_32 : decode cX5_close 32 = .ok (.iload_n 3, 1) := by decide +kernel
theorem dX5_close_33 : decode cX5_close 33 = .ok (.if_icmp .gt 107, 3) := by decide +kernel
theorem dX5_close_36 : decode cX5_close 36 = .ok (.aload_n 1, 1) := by decide +kernel
theorem dX5_close_37 : decode cX5_close 37 = .ok (.iload 6, 2) := by decide +kernel
theorem dX5_close_39 : decode cX5_close 39 = .ok (.iconst 1, 1) := by decide +kernel
theorem dX5_close_40 : decode cX5_close 40 = .ok (.invokevirtual 22, 3) := by decide +kernel
theorem dX5_close_43 : decode cX5_close 43 = .ok (.istore 7, 2) := by decide +kernel
theorem dX5_close_45 : decode cX5_close 45 = .ok (.aload_n 1, 1) := by decide +kernel
theorem dX5_close_46 : decode cX5_close 46 = .ok (.iload 6, 2) := by decide +kernel
theorem dX5_close_48 : decode cX5_close 48 = .ok (.iconst 0, 1) := by decide +kernel
theorem dX5_close_49 : decode cX5_close 49 = .ok (.invokevirtual 22, 3) := by decide +kernel
theorem dX5_close_52 : decode cX5_close 52 = .ok (.iload 5, 2) := by decide +kernel
theorem dX5_close_54 : decode cX5_close 54 = .ok (.if_icmp .ne 24, 3) := by decide +kernel
theorem dX5_close_57 : decode cX5_close 57 = .ok (.iload 7, 2) := by decide +kernel
theorem dX5_close_59 : decode cX5_close 59 = .ok (.iload 5, 2) := by decide +kernel
theorem dX5_close_61 : decode cX5_close 61 = .ok (.if_icmp .eq 17, 3) := by decide +kernel
theorem dX5_close_64 : decode cX5_close 64 = .ok (.iload 4, 2) := by decide +kernel
theorem dX5_close_66 : decode cX5_close 66 = .ok (.iload 7, 2) := by decide +kernel
theorem dX5_close_68 : decode cX5_close 68 = .ok (.invokestatic 26, 3) := by decide +kernel
theorem dX5_close_71 : decode cX5_close 71 = .ok (.ifCond .eq 7, 3) := by decide +kernel
theorem dX5_close_74 : decode cX5_close 74 = .ok (.iconst 1, 1) := by decide +kernel
theorem dX5_close_75 : decode cX5_close 75 = .ok (.goto 4, 3) := by decide +kernel
theorem dX5_close_78 : decode cX5_close 78 = .ok (.iconst 0, 1) := by decide +kernel
theorem dX5_close_79 : decode cX5_close 79 = .ok (.istore 8, 2) := by decide +kernel
theorem dX5_close_81 : decode cX5_close 81 = .ok (.iload 8, 2) := by decide +kernel
theorem dX5_close_83 : decode cX5_close 83 = .ok (.ifCond .eq 51, 3) := by decide +kernel
theorem dX5_close_86 : decode cX5_close 86 = .ok (.aload_n 1, 1) := by decide +kernel
theorem dX5_close_87 : decode cX5_close 87 = .ok (.iload 6, 2) := by decide +kernel
theorem dX5_close_89 : decode cX5_close 89 = .ok (.invokevirtual 18, 3) := by decide +kernel
theorem dX5_close_92 : decode cX5_close 92 = .ok (.ifCond .eq 42, 3) := by decide +kernel
theorem dX5_close_95 : decode cX5_close 95 = .ok (.aload_n 1, 1) := by decide +kernel
theorem dX5_close_96 : decode cX5_close 96 = .ok (.iload 7, 2) := by decide +kernel
theorem dX5_close_98 : decode cX5_close 98 = .ok (.iload 4, 2) := by decide +kernel
theorem dX5_close_100 : decode cX5_close 100 = .ok (.invokevirtual 45, 3) := by decide +kernel
theorem dX5_close_103 : decode cX5_close 103 = .ok (.ifCond .eq 31, 3) := by decide +kernel
theorem dX5_close_106 : decode cX5_close 106 = .ok (.aload_n 0, 1) := by decide +kernel
theorem dX5_close_107 : decode cX5_close 107 = .ok (.dup, 1) := by decide +kernel
theorem dX5_close_108 : decode cX5_close 108 = .ok (.getfield 7, 3) := by decide +kernel
theorem dX5_close_111 : decode cX5_close 111 = .ok (.iconst 1, 1) := by decide +kernel
theorem dX5_close_112 : decode cX5_close 112 = .ok (.iadd, 1) := by decide +kernel
theorem dX5_close_113 : decode cX5_close 113 = .ok (.putfield 7, 3) := by decide +kernel
theorem dX5_close_116 : decode cX5_close 116 = .ok (.aload_n 0, 1) := by decide +kernel
theorem dX5_close_117 : decode cX5_close 117 = .ok (.iload 4, 2) := by decide +kernel
theorem dX5_close_119 : decode cX5_close 119 = .ok (.putfield 36, 3) := by decide +kernel
theorem dX5_close_122 : decode cX5_close 122 = .ok (.aload_n 0, 1) := by decide +kernel
theorem dX5_close_123 : decode cX5_close 123 = .ok (.iload 5, 2) := by decide +kernel
theorem dX5_close_125 : decode cX5_close 125 = .ok (.putfield 39, 3) := by decide +kernel
theorem dX5_close_128 : decode cX5_close 128 = .ok (.aload_n 0, 1) := by decide +kernel
theorem dX5_close_129 : decode cX5_close 129 = .ok (.iload 7, 2) := by decide +kernel
theorem dX5_close_131 : decode cX5_close 131 = .ok (.putfield 42, 3) := by decide +kernel
theorem dX5_close_134 : decode cX5_close 134 = .ok (.iinc 6 1, 3) := by decide +kernel
theorem dX5_close_137 : decode cX5_close 137 = .ok (.goto (-118), 3) := by decide +kernel
theorem dX5_close_140 : decode cX5_close 140 = .ok (.return_, 1) := by decide +kernel
theorem dX6_init_0 : decode cX6_init 0 = .ok (.aload_n 0, 1) := by decide +kernel
theorem dX6_init_1 : decode cX6_init 1 = .ok (.invokespecial 3, 3) := by decide +kernel
theorem dX6_init_4 : decode cX6_init 4 = .ok (.aload_n 0, 1) := by decide +kernel
theorem dX6_init_5 : decode cX6_init 5 = .ok (.bipush 120, 2) := by decide +kernel
theorem dX6_init_7 : decode cX6_init 7 = .ok (.newarray .int, 2) := by decide +kernel
theorem dX6_init_9 : decode cX6_init 9 = .ok (.putfield 9, 3) := by decide +kernel
theorem dX6_init_12 : decode cX6_init 12 = .ok (.return_, 1) := by decide +kernel
theorem dX6_open_0 : decode cX6_open 0 = .ok (.aload_n 0, 1) := by decide +kernel
theorem dX6_open_1 : decode cX6_open 1 = .ok (.iload_n 1, 1) := by decide +kernel
theorem dX6_open_2 : decode cX6_open 2 = .ok (.putfield 15, 3) := by decide +kernel
theorem dX6_open_5 : decode cX6_open 5 = .ok (.aload_n 0, 1) := by decide +kernel
theorem dX6_open_6 : decode cX6_open 6 = .ok (.iconst 0, 1) := by decide +kernel
theorem dX6_open_7 : decode cX6_open 7 = .ok (.putfield 19, 3) := by decide +kernel
theorem dX6_open_10 : decode cX6_open 10 = .ok (.return_, 1) := by decide +kernel
theorem dX6_insert_0 : decode cX6_insert 0 = .ok (.aload_n 0, 1) := by decide +kernel
theorem dX6_insert_1 : decode cX6_insert 1 = .ok (.getfield 15, 3) := by decide +kernel
theorem dX6_insert_4 : decode cX6_insert 4 = .ok (.iconst 1, 1) := by decide +kernel
theorem dX6_insert_5 : decode cX6_insert 5 = .ok (.if_icmp .le 7, 3) := by decide +kernel
theorem dX6_insert_8 : decode cX6_insert 8 = .ok (.iload_n 2, 1) := by decide +kernel
theorem dX6_insert_9 : decode cX6_insert 9 = .ok (.goto 4, 3) := by decide +kernel
theorem dX6_insert_12 : decode cX6_insert 12 = .ok (.iconst 0, 1) := by decide +kernel
theorem dX6_insert_13 : decode cX6_insert 13 = .ok (.istore 4, 2) := by decide +kernel
theorem dX6_insert_15 : decode cX6_insert 15 = .ok (.aload_n 0, 1) := by decide +kernel
theorem dX6_insert_16 : decode cX6_insert 16 = .ok (.getfield 15, 3) := by decide +kernel
theorem dX6_insert_19 : decode cX6_insert 19 = .ok (.iconst 2, 1) := by decide +kernel
theorem dX6_insert_20 : decode cX6_insert 20 = .ok (.if_icmp .le 7, 3) := by decide +kernel
theorem dX6_insert_23 : decode cX6_insert 23 = .ok (.iload_n 3, 1) := by decide +kernel
theorem dX6_insert_24 : decode cX6_insert 24 = .ok (.goto 4, 3) := by decide +kernel
theorem dX6_insert_27 : decode cX6_insert 27 = .ok (.iconst 0, 1) := by decide +kernel
theorem dX6_insert_28 : decode cX6_insert 28 = .ok (.istore 5, 2) := by decide +kernel
theorem dX6_insert_30 : decode cX6_insert 30 = .ok (.aload_n 0, 1) := by decide +kernel
theorem dX6_insert_31 : decode cX6_insert 31 = .ok (.iload_n 1, 1) := by decide +kernel
theorem dX6_insert_32 : decode cX6_insert 32 = .ok (.iload 4, 2) := by decide +kernel
theorem dX6_insert_34 : decode cX6_insert 34 = .ok (.iload 5, 2) := by decide +kernel
theorem dX6_insert_36 : decode cX6_insert 36 = .ok (.invokevirtual 22, 3) := by decide +kernel
theorem dX6_insert_39 : decode cX6_insert 39 = .ok (.istore 6, 2) := by decide +kernel
theorem dX6_insert_41 : decode cX6_insert 41 = .ok (.aload_n 0, 1) := by decide +kernel
theorem dX6_insert_42 : decode cX6_insert 42 = .ok (.iload 6, 2) := by decide +kernel
theorem dX6_insert_44 : decode cX6_insert 44 = .ok (.iload_n 1, 1) := by decide +kernel
theorem dX6_insert_45 : decode cX6_insert 45 = .ok (.iload 4, 2) := by decide +kernel
theorem dX6_insert_47 : decode cX6_insert 47 = .ok (.iload 5, 2) := by decide +kernel
theorem dX6_insert_49 : decode cX6_insert 49 = .ok (.invokevirtual 26, 3) := by decide +kernel
theorem dX6_insert_52 : decode cX6_insert 52 = .ok (.ifCond .eq 5, 3) := by decide +kernel
theorem dX6_insert_55 : decode cX6_insert 55 = .ok (.iconst 0, 1) := by decide +kernel
theorem dX6_insert_56 : decode cX6_insert 56 = .ok (.ireturn, 1) := by decide +kernel
theorem dX6_insert_57 : decode cX6_insert 57 = .ok (.aload_n 0, 1) := by decide +kernel
theorem dX6_insert_58 : decode cX6_insert 58 = .ok (.getfield 19, 3) := by decide +kernel
theorem dX6_insert_61 : decode cX6_insert 61 = .ok (.bipush 40, 2) := by decide +kernel
theorem dX6_insert_63 : decode cX6_insert 63 = .ok (.if_icmp .lt 5, 3) := by decide +kernel
theorem dX6_insert_66 : decode cX6_insert 66 = .ok (.iconst (-1), 1) := by decide +kernel
theorem dX6_insert_67 : decode cX6_insert 67 = .ok (.ireturn, 1) := by decide +kernel
theorem dX6_insert_68 : decode cX6_insert 68 = .ok (.iload 6, 2) := by decide +kernel
theorem dX6_insert_70 : decode cX6_insert 70 = .ok (.iconst 3, 1) := by decide +kernel
theorem dX6_insert_71 : decode cX6_insert 71 = .ok (.imul, 1) := by decide +kernel
theorem dX6_insert_72 : decode cX6_insert 72 = .ok (.istore 7, 2) := by decide +kernel
theorem dX6_insert_74 : decode cX6_insert 74 = .ok (.aload_n 0, 1) := by decide +kernel
theorem dX6_insert_75 : decode cX6_insert 75 = .ok (.getfield 9, 3) := by decide +kernel
theorem dX6_insert_78 : decode cX6_insert 78 = .ok (.iload 7, 2) := by decide +kernel
theorem dX6_insert_80 : decode cX6_insert 80 = .ok (.aload_n 0, 1) := by decide +kernel
theorem dX6_insert_81 : decode cX6_insert 81 = .ok (.getfield 9, 3) := by decide +kernel
theorem dX6_insert_84 : decode cX6_insert 84 = .ok (.iload 7, 2) := by decide +kernel
theorem dX6_insert_86 : decode cX6_insert 86 = .ok (.iconst 3, 1) := by decide +kernel
theorem dX6_insert_87 : decode cX6_insert 87 = .ok (.iadd, 1) := by decide +kernel
theorem dX6_insert_88 : decode cX6_insert 88 = .ok (.aload_n 0, 1) := by decide +kernel
theorem dX6_insert_89 : decode cX6_insert 89 = .ok (.getfield 19, 3) := by decide +kernel
theorem dX6_insert_92 : decode cX6_insert 92 = .ok (.iload 6, 2) := by decide +kernel
theorem dX6_insert_94 : decode cX6_insert 94 = .ok (.isub, 1) := by decide +kernel
theorem dX6_insert_95 : decode cX6_insert 95 = .ok (.iconst 3, 1) := by decide +kernel
theorem dX6_insert_96 : decode cX6_insert 96 = .ok (.imul, 1) := by decide +kernel
theorem dX6_insert_97 : decode cX6_insert 97 = .ok (.invokestatic 30, 3) := by decide +kernel
theorem dX6_insert_100 : decode cX6_insert 100 = .ok (.aload_n 0, 1) := by decide +kernel
theorem dX6_insert_101 : decode cX6_insert 101 = .ok (.getfield 9, 3) := by decide +kernel
theorem dX6_insert_104 : decode cX6_insert 104 = .ok (.iload 7, 2) := by decide +kernel
theorem dX6_insert_106 : decode cX6_insert 106 = .ok (.iload_n 1, 1) := by decide +kernel
theorem dX6_insert_107 : decode cX6_insert 107 = .ok (.iastore, 1) := by decide +kernel
theorem dX6_insert_108 : decode cX6_insert 108 = .ok (.aload_n 0, 1) := by decide +kernel
theorem dX6_insert_109 : decode cX6_insert 109 = .ok (.getfield 9, 3) := by decide +kernel
theorem dX6_insert_112 : decode cX6_insert 112 = .ok (.iload 7, 2) := by decide +kernel
theorem dX6_insert_114 : decode cX6_insert 114 = .ok (.iconst 1, 1) := by decide +kernel
theorem dX6_insert_115 : decode cX6_insert 115 = .ok (.iadd, 1) := by decide +kernel
theorem dX6_insert_116 : decode cX6_insert 116 = .ok (.iload 4, 2) := by decide +kernel
theorem dX6_insert_118 : decode cX6_insert 118 = .ok (.iastore, 1) := by decide +kernel
theorem dX6_insert_119 : decode cX6_insert 119 = .ok (.aload_n 0, 1) := by decide +kernel
theorem dX6_insert_120 : decode cX6_insert 120 = .ok (.getfield 9, 3) := by decide +kernel
theorem dX6_insert_123 : decode cX6_insert 123 = .ok (.iload 7, 2) := by decide +kernel
theorem dX6_insert_125 : decode cX6_insert 125 = .ok (.iconst 2, 1) := by decide +kernel
theorem dX6_insert_126 : decode cX6_insert 126 = .ok (.iadd, 1) := by decide +kernel
theorem dX6_insert_127 : decode cX6_insert 127 = .ok (.iload 5, 2) := by decide +kernel
theorem dX6_insert_129 : decode cX6_insert 129 = .ok (.iastore, 1) := by decide +kernel
theorem dX6_insert_130 : decode cX6_insert 130 = .ok (.aload_n 0, 1) := by decide +kernel
theorem dX6_insert_131 : decode cX6_insert 131 = .ok (.dup, 1) := by decide +kernel
theorem dX6_insert_132 : decode cX6_insert 132 = .ok (.getfield 19, 3) := by decide +kernel
theorem dX6_insert_135 : decode cX6_insert 135 = .ok (.iconst 1, 1) := by decide +kernel
theorem dX6_insert_136 : decode cX6_insert 136 = .ok (.iadd, 1) := by decide +kernel
theorem dX6_insert_137 : decode cX6_insert 137 = .ok (.putfield 19, 3) := by decide +kernel
theorem dX6_insert_140 : decode cX6_insert 140 = .ok (.iconst 1, 1) := by decide +kernel
theorem dX6_insert_141 : decode cX6_insert 141 = .ok (.ireturn, 1) := by decide +kernel
theorem dX6_remove_0 : decode cX6_remove 0 = .ok (.aload_n 0, 1) := by decide +kernel
theorem dX6_remove_1 : decode cX6_remove 1 = .ok (.getfield 15, 3) := by decide +kernel
theorem dX6_remove_4 : decode cX6_remove 4 = .ok (.iconst 1, 1) := by decide +kernel
theorem dX6_remove_5 : decode cX6_remove 5 = .ok (.if_icmp .le 7, 3) := by decide +kernel
theorem dX6_remove_8 : decode cX6_remove 8 = .ok (.iload_n 2, 1) := by decide +kernel
theorem dX6_remove_9 : decode cX6_remove 9 = .ok (.goto 4, 3) := by decide +kernel
theorem dX6_remove_12 : decode cX6_remove 12 = .ok (.iconst 0, 1) := by decide +kernel
theorem dX6_remove_13 : decode cX6_remove 13 = .ok (.istore 4, 2) := by decide +kernel
theorem dX6_remove_15 : decode cX6_remove 15 = .ok (.aload_n 0, 1) := by decide +kernel
theorem dX6_remove_16 : decode cX6_remove 16 = .ok (.getfield 15, 3) := by decide +kernel
theorem dX6_remove_19 : decode cX6_remove 19 = .ok (.iconst 2, 1) := by decide +kernel
theorem dX6_remove_20 : decode cX6_remove 20 = .ok (.if_icmp .le 7, 3) := by decide +kernel
theorem dX6_remove_23 : decode cX6_remove 23 = .ok (.iload_n 3, 1) := by decide +kernel
theorem dX6_remove_24 : decode cX6_remove 24 = .ok (.goto 4, 3) := by decide +kernel
theorem dX6_remove_27 : decode cX6_remove 27 = .ok (.iconst 0, 1) := by decide +kernel
theorem dX6_remove_28 : decode cX6_remove 28 = .ok (.istore 5, 2) := by decide +kernel
theorem dX6_remove_30 : decode cX6_remove 30 = .ok (.aload_n 0, 1) := by decide +kernel
theorem dX6_remove_31 : decode cX6_remove 31 = .ok (.iload_n 1, 1) := by decide +kernel
theorem dX6_remove_32 : decode cX6_remove 32 = .ok (.iload 4, 2) := by decide +kernel
theorem dX6_remove_34 : decode cX6_remove 34 = .ok (.iload 5, 2) := by decide +kernel
theorem dX6_remove_36 : decode cX6_remove 36 = .ok (.invokevirtual 22, 3) := by decide +kernel
theorem dX6_remove_39 : decode cX6_remove 39 = .ok (.istore 6, 2) := by decide +kernel
theorem dX6_remove_41 : decode cX6_remove 41 = .ok (.aload_n 0, 1) := by decide +kernel
theorem dX6_remove_42 : decode cX6_remove 42 = .ok (.iload 6, 2) := by decide +kernel
theorem dX6_remove_44 : decode cX6_remove 44 = .ok (.iload_n 1, 1) := by decide +kernel
theorem dX6_remove_45 : decode cX6_remove 45 = .ok (.iload 4, 2) := by decide +kernel
theorem dX6_remove_47 : decode cX6_remove 47 = .ok (.iload 5, 2) := by decide +kernel
theorem dX6_remove_49 : decode cX6_remove 49 = .ok (.invokevirtual 26, 3) := by decide +kernel
theorem dX6_remove_52 : decode cX6_remove 52 = .ok (.ifCond .ne 5, 3) := by decide +kernel
theorem dX6_remove_55 : decode cX6_remove 55 = .ok (.iconst 0, 1) := by decide +kernel
theorem dX6_remove_56 : decode cX6_remove 56 = .ok (.ireturn, 1) := by decide +kernel
theorem dX6_remove_57 : decode cX6_remove 57 = .ok (.aload_n 0, 1) := by decide +kernel
theorem dX6_remove_58 : decode cX6_remove 58 = .ok (.dup, 1) := by decide +kernel
theorem dX6_remove_59 : decode cX6_remove 59 = .ok (.getfield 19, 3) := by decide +kernel
theorem dX6_remove_62 : decode cX6_remove 62 = .ok (.iconst 1, 1) := by decide +kernel
theorem dX6_remove_63 : decode cX6_remove 63 = .ok (.isub, 1) := by decide +kernel
theorem dX6_remove_64 : decode cX6_remove 64 = .ok (.putfield 19, 3) := by decide +kernel
theorem dX6_remove_67 : decode cX6_remove 67 = .ok (.iload 6, 2) := by decide +kernel
theorem dX6_remove_69 : decode cX6_remove 69 = .ok (.iconst 3, 1) := by decide +kernel
theorem dX6_remove_70 : decode cX6_remove 70 = .ok (.imul, 1) := by decide +kernel
theorem dX6_remove_71 : decode cX6_remove 71 = .ok (.istore 7, 2) := by decide +kernel
theorem dX6_remove_73 : decode cX6_remove 73 = .ok (.aload_n 0, 1) := by decide +kernel
theorem dX6_remove_74 : decode cX6_remove 74 = .ok (.getfield 9, 3) := by decide +kernel
theorem dX6_remove_77 : decode cX6_remove 77 = .ok (.iload 7, 2) := by decide +kernel
theorem dX6_remove_79 : decode cX6_remove 79 = .ok (.iconst 3, 1) := by decide +kernel
theorem dX6_remove_80 : decode cX6_remove 80 = .ok (.iadd, 1) := by decide +kernel
theorem dX6_remove_81 : decode cX6_remove 81 = .ok (.aload_n 0, 1) := by decide +kernel
theorem dX6_remove_82 : decode cX6_remove 82 = .ok (.getfield 9, 3) := by decide +kernel
theorem dX6_remove_85 : decode cX6_remove 85 = .ok (.iload 7, 2) := by decide +kernel
theorem dX6_remove_87 : decode cX6_remove 87 = .ok (.aload_n 0, 1) := by decide +kernel
theorem dX6_remove_88 : decode cX6_remove 88 = .ok (.getfield 19, 3) := by decide +kernel
theorem dX6_remove_91 : decode cX6_remove 91 = .ok (.iload 6, 2) := by decide +kernel
theorem dX6_remove_93 : decode cX6_remove 93 = .ok (.isub, 1) := by decide +kernel
theorem dX6_remove_94 : decode cX6_remove 94 = .ok (.iconst 3, 1) := by decide +kernel
theorem dX6_remove_95 : decode cX6_remove 95 = .ok (.imul, 1) := by decide +kernel
theorem dX6_remove_96 : decode cX6_remove 96 = .ok (.invokestatic 30, 3) := by decide +kernel
theorem dX6_remove_99 : decode cX6_remove 99 = .ok (.iconst 1, 1) := by decide +kernel
theorem dX6_remove_100 : decode cX6_remove 100 = .ok (.ireturn, 1) := by decide +kernel
theorem dX6_cell_0 : decode cX6_cell 0 = .ok (.iload_n 1, 1) := by decide +kernel
theorem dX6_cell_1 : decode cX6_cell 1 = .ok (.ifCond .lt 23, 3) := by decide +kernel
theorem dX6_cell_4 : decode cX6_cell 4 = .ok (.iload_n 1, 1) := by decide +kernel
theorem dX6_cell_5 : decode cX6_cell 5 = .ok (.aload_n 0, 1) := by decide +kernel
theorem dX6_cell_6 : decode cX6_cell 6 = .ok (.getfield 19, 3) := by decide +kernel
theorem dX6_cell_9 : decode cX6_cell 9 = .ok (.if_icmp .ge 15, 3) := by decide +kernel
theorem dX6_cell_12 : decode cX6_cell 12 = .ok (.iload_n 2, 1) := by decide +kernel
theorem dX6_cell_13 : decode cX6_cell 13 = .ok (.ifCond .lt 11, 3) := by decide +kernel
theorem dX6_cell_16 : decode cX6_cell 16 = .ok (.iload_n 2, 1) := by decide +kernel
theorem dX6_cell_17 : decode cX6_cell 17 = .ok (.aload_n 0, 1) := by decide +kernel
theorem dX6_cell_18 : decode cX6_cell 18 = .ok (.getfield 15, 3) := by decide +kernel
theorem dX6_cell_21 : decode cX6_cell 21 = .ok (.if_icmp .lt 5, 3) := by decide +kernel
theorem dX6_cell_24 : decode cX6_cell 24 = .ok (.iconst 0, 1) := by decide +kernel
theorem dX6_cell_25 : decode cX6_cell 25 = .ok (.ireturn, 1) := by decide +kernel
theorem dX6_cell_26 : decode cX6_cell 26 = .ok (.aload_n 0, 1) := by decide +kernel
theorem dX6_cell_27 : decode cX6_cell 27 = .ok (.getfield 9, 3) := by decide +kernel
theorem dX6_cell_30 : decode cX6_cell 30 = .ok (.iload_n 1, 1) := by decide +kernel
theorem dX6_cell_31 : decode cX6_cell 31 = .ok (.iconst 3, 1) := by decide +kernel
theorem dX6_cell_32 : decode cX6_cell 32 = .ok (.imul, 1) := by decide +kernel
theorem dX6_cell_33 : decode cX6_cell 33 = .ok (.iload_n 2, 1) := by decide +kernel
theorem dX6_cell_34 : decode cX6_cell 34 = .ok (.iadd, 1) := by decide +kernel
theorem dX6_cell_35 : decode cX6_cell 35 = .ok (.iaload, 1) := by decide +kernel
theorem dX6_cell_36 : decode cX6_cell 36 = .ok (.ireturn, 1) := by decide +kernel
theorem dX6_beginsPair_0 : decode cX6_beginsPair 0 = .ok (.iload_n 1, 1) := by decide +kernel
theorem dX6_beginsPair_1 : decode cX6_beginsPair 1 = .ok (.ifCond .eq 37, 3) := by decide +kernel
theorem dX6_beginsPair_4 : decode cX6_beginsPair 4 = .ok (.aload_n 0, 1) := by decide +kernel
theorem dX6_beginsPair_5 : decode cX6_beginsPair 5 = .ok (.iload_n 1, 1) := by decide +kernel
theorem dX6_beginsPair_6 : decode cX6_beginsPair 6 = .ok (.iconst 0, 1) := by decide +kernel
theorem dX6_beginsPair_7 : decode cX6_beginsPair 7 = .ok (.invokevirtual 36, 3) := by decide +kernel
theorem dX6_beginsPair_10 : decode cX6_beginsPair 10 = .ok (.aload_n 0, 1) := by decide +kernel
theorem dX6_beginsPair_11 : decode cX6_beginsPair 11 = .ok (.iload_n 1, 1) := by decide +kernel
theorem dX6_beginsPair_12 : decode cX6_beginsPair 12 = .ok (.iconst 1, 1) := by decide +kernel
theorem dX6_beginsPair_13 : decode cX6_beginsPair 13 = .ok (.isub, 1) := by decide +kernel
theorem dX6_beginsPair_14 : decode cX6_beginsPair 14 = .ok (.iconst 0, 1) := by decide +kernel
theorem dX6_beginsPair_15 : decode cX6_beginsPair 15 = .ok (.invokevirtual 36, 3) := by decide +kernel
theorem dX6_beginsPair_18 : decode cX6_beginsPair 18 = .ok (.if_icmp .ne 20, 3) := by decide +kernel
theorem dX6_beginsPair_21 : decode cX6_beginsPair 21 = .ok (.aload_n 0, 1) := by decide +kernel
theorem dX6_beginsPair_22 : decode cX6_beginsPair 22 = .ok (.iload_n 1, 1) := by decide +kernel
theorem dX6_beginsPair_23 : decode cX6_beginsPair 23 = .ok (.iconst 1, 1) := by decide +kernel
theorem dX6_beginsPair_24 : decode cX6_beginsPair 24 = .ok (.invokevirtual 36, 3) := by decide +kernel
theorem dX6_beginsPair_27 : decode cX6_beginsPair 27 = .ok (.aload_n 0, 1) := by decide +kernel
theorem dX6_beginsPair_28 : decode cX6_beginsPair 28 = .ok (.iload_n 1, 1) := by decide +kernel
theorem dX6_beginsPair_29 : decode cX6_beginsPair 29 = .ok (.iconst 1, 1) := by decide +kernel
theorem dX6_beginsPair_30 : decode cX6_beginsPair 30 = .ok (.isub, 1) := by decide +kernel
theorem dX6_beginsPair_31 : decode cX6_beginsPair 31 = .ok (.iconst 1, 1) := by decide +kernel
theorem dX6_beginsPair_32 : decode cX6_beginsPair 32 = .ok (.invokevirtual 36, 3) := by decide +kernel
theorem dX6_beginsPair_35 : decode cX6_beginsPair 35 = .ok (.if_icmp .eq 7, 3) := by decide +kernel
theorem dX6_beginsPair_38 : decode cX6_beginsPair 38 = .ok (.iconst 1, 1) := by decide +kernel
theorem dX6_beginsPair_39 : decode cX6_beginsPair 39 = .ok (.goto 4, 3) := by decide +kernel
theorem dX6_beginsPair_42 : decode cX6_beginsPair 42 = .ok (.iconst 0, 1) := by decide +kernel
theorem dX6_beginsPair_43 : decode cX6_beginsPair 43 = .ok (.ireturn, 1) := by decide +kernel
theorem dX6_hasPair_0 : decode cX6_hasPair 0 = .ok (.iconst 0, 1) := by decide +kernel
theorem dX6_hasPair_1 : decode cX6_hasPair 1 = .ok (.istore_n 3, 1) := by decide +kernel
theorem dX6_hasPair_2 : decode cX6_hasPair 2 = .ok (.iload_n 3, 1) := by decide +kernel
theorem dX6_hasPair_3 : decode cX6_hasPair 3 = .ok (.aload_n 0, 1) := by decide +kernel
theorem dX6_hasPair_4 : decode cX6_hasPair 4 = .ok (.getfield 19, 3) := by decide +kernel
theorem dX6_hasPair_7 : decode cX6_hasPair 7 = .ok (.if_icmp .ge 31, 3) := by decide +kernel
theorem dX6_hasPair_10 : decode cX6_hasPair 10 = .ok (.aload_n 0, 1) := by decide +kernel
theorem dX6_hasPair_11 : decode cX6_hasPair 11 = .ok (.iload_n 3, 1) := by decide +kernel
theorem dX6_hasPair_12 : decode cX6_hasPair 12 = .ok (.iconst 0, 1) := by decide +kernel
theorem dX6_hasPair_13 : decode cX6_hasPair 13 = .ok (.invokevirtual 36, 3) := by decide +kernel
theorem dX6_hasPair_16 : decode cX6_hasPair 16 = .ok (.iload_n 1, 1) := by decide +kernel
theorem dX6_hasPair_17 : decode cX6_hasPair 17 = .ok (.if_icmp .ne 15, 3) := by decide +kernel
theorem dX6_hasPair_20 : decode cX6_hasPair 20 = .ok (.aload_n 0, 1) := by decide +kernel
theorem dX6_hasPair_21 : decode cX6_hasPair 21 = .ok (.iload_n 3, 1) := by decide +kernel
theorem dX6_hasPair_22 : decode cX6_hasPair 22 = .ok (.iconst 1, 1) := by decide +kernel
theorem dX6_hasPair_23 : decode cX6_hasPair 23 = .ok (.invokevirtual 36, 3) := by decide +kernel
theorem dX6_hasPair_26 : decode cX6_hasPair 26 = .ok (.iload_n 2, 1) := by decide +kernel
theorem dX6_hasPair_27 : decode cX6_hasPair 27 = .ok (.if_icmp .ne 5, 3) := by decide +kernel
theorem dX6_hasPair_30 : decode cX6_hasPair 30 = .ok (.iconst 1, 1) := by decide +kernel
theorem dX6_hasPair_31 : decode cX6_hasPair 31 = .ok (.ireturn, 1) := by decide +kernel
theorem dX6_hasPair_32 : decode cX6_hasPair 32 = .ok (.iinc 3 1, 3) := by decide +kernel
theorem dX6_hasPair_35 : decode cX6_hasPair 35 = .ok (.goto (-33), 3) := by decide +kernel
theorem dX6_hasPair_38 : decode cX6_hasPair 38 = .ok (.iconst 0, 1) := by decide +kernel
theorem dX6_hasPair_39 : decode cX6_hasPair 39 = .ok (.ireturn, 1) := by decide +kernel
theorem dX6_isAt_0 : decode cX6_isAt 0 = .ok (.iload_n 1, 1) := by decide +kernel
theorem dX6_isAt_1 : decode cX6_isAt 1 = .ok (.aload_n 0, 1) := by decide +kernel
theorem dX6_isAt_2 : decode cX6_isAt 2 = .ok (.getfield 19, 3) := by decide +kernel
theorem dX6_isAt_5 : decode cX6_isAt 5 = .ok (.if_icmp .ge 19, 3) := by decide +kernel
theorem dX6_isAt_8 : decode cX6_isAt 8 = .ok (.aload_n 0, 1) := by decide +kernel
theorem dX6_isAt_9 : decode cX6_isAt 9 = .ok (.iload_n 1, 1) := by decide +kernel
theorem dX6_isAt_10 : decode cX6_isAt 10 = .ok (.iload_n 2, 1) := by decide +kernel
theorem dX6_isAt_11 : decode cX6_isAt 11 = .ok (.iload_n 3, 1) := by decide +kernel
theorem dX6_isAt_12 : decode cX6_isAt 12 = .ok (.iload 4, 2) := by decide +kernel
theorem dX6_isAt_14 : decode cX6_isAt 14 = .ok (.invokevirtual 40, 3) := by decide +kernel
theorem dX6_isAt_17 : decode cX6_isAt 17 = .ok (.ifCond .ne 7, 3) := by decide +kernel
theorem dX6_isAt_20 : decode cX6_isAt 20 = .ok (.iconst 1, 1) := by decide +kernel
theorem dX6_isAt_21 : decode cX6_isAt 21 = .ok (.goto 4, 3) := by decide +kernel
theorem dX6_isAt_24 : decode cX6_isAt 24 = .ok (.iconst 0, 1) := by decide +kernel
theorem dX6_isAt_25 : decode cX6_isAt 25 = .ok (.ireturn, 1) := by decide +kernel
theorem dX6_placeFor_0 : decode cX6_placeFor 0 = .ok (.iconst 0, 1) := by decide +kernel
theorem dX6_placeFor_1 : decode cX6_placeFor 1 = .ok (.istore 4, 2) := by decide +kernel
theorem dX6_placeFor_3 : decode cX6_placeFor 3 = .ok (.aload_n 0, 1) := by decide +kernel
theorem dX6_placeFor_4 : decode cX6_placeFor 4 = .ok (.getfield 19, 3) := by decide +kernel
theorem dX6_placeFor_7 : decode cX6_placeFor 7 = .ok (.istore 5, 2) := by decide +kernel
theorem dX6_placeFor_9 : decode cX6_placeFor 9 = .ok (.iload 4, 2) := by decide +kernel
theorem dX6_placeFor_11 : decode cX6_placeFor 11 = .ok (.iload 5, 2) := by decide +kernel
theorem dX6_placeFor_13 : decode cX6_placeFor 13 = .ok (.if_icmp .ge 40, 3) := by decide +kernel
theorem dX6_placeFor_16 : decode cX6_placeFor 16 = .ok (.iload 4, 2) := by decide +kernel
theorem dX6_placeFor_18 : decode cX6_placeFor 18 = .ok (.iload 5, 2) := by decide +kernel
theorem dX6_placeFor_20 : decode cX6_placeFor 20 = .ok (.iadd, 1) := by decide +kernel
theorem dX6_placeFor_21 : decode cX6_placeFor 21 = .ok (.iconst 1, 1) := by decide +kernel
theorem dX6_placeFor_22 : decode cX6_placeFor 22 = .ok (.iushr, 1) := by decide +kernel
theorem dX6_placeFor_23 : decode cX6_placeFor 23 = .ok (.istore 6, 2) := by decide +kernel
theorem dX6_placeFor_25 : decode cX6_placeFor 25 = .ok (.aload_n 0, 1) := by decide +kernel
theorem dX6_placeFor_26 : decode cX6_placeFor 26 = .ok (.iload 6, 2) := by decide +kernel
theorem dX6_placeFor_28 : decode cX6_placeFor 28 = .ok (.iload_n 1, 1) := by decide +kernel
theorem dX6_placeFor_29 : decode cX6_placeFor 29 = .ok (.iload_n 2, 1) := by decide +kernel
theorem dX6_placeFor_30 : decode cX6_placeFor 30 = .ok (.iload_n 3, 1) := by decide +kernel
theorem dX6_placeFor_31 : decode cX6_placeFor 31 = .ok (.invokevirtual 40, 3) := by decide +kernel
theorem dX6_placeFor_34 : decode cX6_placeFor 34 = .ok (.ifCond .ge 12, 3) := by decide +kernel
theorem dX6_placeFor_37 : decode cX6_placeFor 37 = .ok (.iload 6, 2) := by decide +kernel
theorem dX6_placeFor_39 : decode cX6_placeFor 39 = .ok (.iconst 1, 1) := by decide +kernel
theorem dX6_placeFor_40 : decode cX6_placeFor 40 = .ok (.iadd, 1) := by decide +kernel
theorem dX6_placeFor_41 : decode cX6_placeFor 41 = .ok (.istore 4, 2) := by decide +kernel
theorem dX6_placeFor_43 : decode cX6_placeFor 43 = .ok (.goto 7, 3) := by decide +kernel
theorem dX6_placeFor_46 : decode cX6_placeFor 46 = .ok (.iload 6, 2) := by decide +kernel
theorem dX6_placeFor_48 : decode cX6_placeFor 48 = .ok (.istore 5, 2) := by decide +kernel
theorem dX6_placeFor_50 : decode cX6_placeFor 50 = .ok (.goto (-41), 3) := by decide +kernel
theorem dX6_placeFor_53 : decode cX6_placeFor 53 = .ok (.iload 4, 2) := by decide +kernel
theorem dX6_placeFor_55 : decode cX6_placeFor 55 = .ok (.ireturn, 1) := by decide +kernel
theorem dX6_inOrderWith_0 : decode cX6_inOrderWith 0 = .ok (.iload_n 1, 1) := by decide +kernel
theorem dX6_inOrderWith_1 : decode cX6_inOrderWith 1 = .ok (.iconst 3, 1) := by decide +kernel
theorem dX6_inOrderWith_2 : decode cX6_inOrderWith 2 = .ok (.imul, 1) := by decide +kernel
theorem dX6_inOrderWith_3 : decode cX6_inOrderWith 3 = .ok (.istore 5, 2) := by decide +kernel
theorem dX6_inOrderWith_5 : decode cX6_inOrderWith 5 = .ok (.aload_n 0, 1) := by decide +kernel
theorem dX6_inOrderWith_6 : decode cX6_inOrderWith 6 = .ok (.getfield 9, 3) := by decide +kernel
theorem dX6_inOrderWith_9 : decode cX6_inOrderWith 9 = .ok (.iload 5, 2) := by decide +kernel
theorem dX6_inOrderWith_11 : decode cX6_inOrderWith 11 = .ok (.iaload, 1) := by decide +kernel
theorem dX6_inOrderWith_12 : decode cX6_inOrderWith 12 = .ok (.iload_n 2, 1) := by decide +kernel
theorem dX6_inOrderWith_13 : decode cX6_inOrderWith 13 = .ok (.invokestatic 44, 3) := by decide +kernel
theorem dX6_inOrderWith_16 : decode cX6_inOrderWith 16 = .ok (.istore 6, 2) := by decide +kernel
theorem dX6_inOrderWith_18 : decode cX6_inOrderWith 18 = .ok (.iload 6, 2) := by decide +kernel
theorem dX6_inOrderWith_20 : decode cX6_inOrderWith 20 = .ok (.ifCond .eq 6, 3) := by decide +kernel
theorem dX6_inOrderWith_23 : decode cX6_inOrderWith 23 = .ok (.iload 6, 2) := by decide +kernel
theorem dX6_inOrderWith_25 : decode cX6_inOrderWith 25 = .ok (.ireturn, 1) := by decide +kernel
theorem dX6_inOrderWith_26 : decode cX6_inOrderWith 26 = .ok (.aload_n 0, 1) := by decide +kernel
theorem dX6_inOrderWith_27 : decode cX6_inOrderWith 27 = .ok (.getfield 9, 3) := by decide +kernel
theorem dX6_inOrderWith_30 : decode cX6_inOrderWith 30 = .ok (.iload 5, 2) := by decide +kernel
theorem dX6_inOrderWith_32 : decode cX6_inOrderWith 32 = .ok (.iconst 1, 1) := by decide +kernel
theorem dX6_inOrderWith_33 : decode cX6_inOrderWith 33 = .ok (.iadd, 1) := by decide +kernel
theorem dX6_inOrderWith_34 : decode cX6_inOrderWith 34 = .ok (.iaload, 1) := by decide +kernel
theorem dX6_inOrderWith_35 : decode cX6_inOrderWith 35 = .ok (.iload_n 3, 1) := by decide +kernel
theorem dX6_inOrderWith_36 : decode cX6_inOrderWith 36 = .ok (.invokestatic 44, 3) := by decide +kernel
theorem dX6_inOrderWith_39 : decode cX6_inOrderWith 39 = .ok (.istore 7, 2) := by decide +kernel
theorem dX6_inOrderWith_41 : decode cX6_inOrderWith 41 = .ok (.iload 7, 2) := by decide +kernel
theorem dX6_inOrderWith_43 : decode cX6_inOrderWith 43 = .ok (.ifCond .eq 8, 3) := by decide +kernel
theorem dX6_inOrderWith_46 : decode cX6_inOrderWith 46 = .ok (.iload 7, 2) := by decide +kernel
theorem dX6_inOrderWith_48 : decode cX6_inOrderWith 48 = .ok (.goto 17, 3) := by decide +kernel
theorem dX6_inOrderWith_51 : decode cX6_inOrderWith 51 = .ok (.aload_n 0, 1) := by decide +kernel
theorem dX6_inOrderWith_52 : decode cX6_inOrderWith 52 = .ok (.getfield 9, 3) := by decide +kernel
theorem dX6_inOrderWith_55 : decode cX6_inOrderWith 55 = .ok (.iload 5, 2) := by decide +kernel
theorem dX6_inOrderWith_57 : decode cX6_inOrderWith 57 = .ok (.iconst 2, 1) := by decide +kernel
theorem dX6_inOrderWith_58 : decode cX6_inOrderWith 58 = .ok (.iadd, 1) := by decide +kernel
theorem dX6_inOrderWith_59 : decode cX6_inOrderWith 59 = .ok (.iaload, 1) := by decide +kernel
theorem dX6_inOrderWith_60 : decode cX6_inOrderWith 60 = .ok (.iload 4, 2) := by decide +kernel
theorem dX6_inOrderWith_62 : decode cX6_inOrderWith 62 = .ok (.invokestatic 44, 3) := by decide +kernel
theorem dX6_inOrderWith_65 : decode cX6_inOrderWith 65 = .ok (.ireturn, 1) := by decide +kernel
theorem dX7_init_0 : decode cX7_init 0 = .ok (.aload_n 0, 1) := by decide +kernel
theorem dX7_init_1 : decode cX7_init 1 = .ok (.invokespecial 3, 3) := by decide +kernel
theorem dX7_init_4 : decode cX7_init 4 = .ok (.aload_n 0, 1) := by decide +kernel
theorem dX7_init_5 : decode cX7_init 5 = .ok (.bipush 6, 2) := by decide +kernel
theorem dX7_init_7 : decode cX7_init 7 = .ok (.newarray .int, 2) := by decide +kernel
theorem dX7_init_9 : decode cX7_init 9 = .ok (.putfield 9, 3) := by decide +kernel
theorem dX7_init_12 : decode cX7_init 12 = .ok (.aload_n 0, 1) := by decide +kernel
theorem dX7_init_13 : decode cX7_init 13 = .ok (.bipush 6, 2) := by decide +kernel
theorem dX7_init_15 : decode cX7_init 15 = .ok (.bipush 64, 2) := by decide +kernel
theorem dX7_init_17 : decode cX7_init 17 = .ok (.multianewarray 15 2, 4) := by decide +kernel
theorem dX7_init_21 : decode cX7_init 21 = .ok (.putfield 17, 3) := by decide +kernel
theorem dX7_init_24 : decode cX7_init 24 = .ok (.aload_n 0, 1) := by decide +kernel
theorem dX7_init_25 : decode cX7_init 25 = .ok (.bipush 10, 2) := by decide +kernel
theorem dX7_init_27 : decode cX7_init 27 = .ok (.newarray .long, 2) := by decide +kernel
theorem dX7_init_29 : decode cX7_init 29 = .ok (.putfield 20, 3) := by decide +kernel
theorem dX7_init_32 : decode cX7_init 32 = .ok (.aload_n 0, 1) := by decide +kernel
theorem dX7_init_33 : decode cX7_init 33 = .ok (.bipush 30, 2) := by decide +kernel
theorem dX7_init_35 : decode cX7_init 35 = .ok (.bipush 64, 2) := by decide +kernel
theorem dX7_init_37 : decode cX7_init 37 = .ok (.multianewarray 24 2, 4) := by decide +kernel
theorem dX7_init_41 : decode cX7_init 41 = .ok (.putfield 26, 3) := by decide +kernel
theorem dX7_init_44 : decode cX7_init 44 = .ok (.aload_n 0, 1) := by decide +kernel
theorem dX7_init_45 : decode cX7_init 45 = .ok (.bipush 30, 2) := by decide +kernel
theorem dX7_init_47 : decode cX7_init 47 = .ok (.bipush 64, 2) := by decide +kernel
theorem dX7_init_49 : decode cX7_init 49 = .ok (.multianewarray 15 2, 4) := by decide +kernel
theorem dX7_init_53 : decode cX7_init 53 = .ok (.putfield 29, 3) := by decide +kernel
theorem dX7_init_56 : decode cX7_init 56 = .ok (.aload_n 0, 1) := by decide +kernel
theorem dX7_init_57 : decode cX7_init 57 = .ok (.bipush 7, 2) := by decide +kernel
theorem dX7_init_59 : decode cX7_init 59 = .ok (.newarray .int, 2) := by decide +kernel
theorem dX7_init_61 : decode cX7_init 61 = .ok (.putfield 32, 3) := by decide +kernel
theorem dX7_init_64 : decode cX7_init 64 = .ok (.aload_n 0, 1) := by decide +kernel
theorem dX7_init_65 : decode cX7_init 65 = .ok (.iconst 2, 1) := by decide +kernel
theorem dX7_init_66 : decode cX7_init 66 = .ok (.sipush 500, 3) := by decide +kernel
theorem dX7_init_69 : decode cX7_init 69 = .ok (.multianewarray 24 2, 4) := by decide +kernel
theorem dX7_init_73 : decode cX7_init 73 = .ok (.putfield 35, 3) := by decide +kernel
theorem dX7_init_76 : decode cX7_init 76 = .ok (.aload_n 0, 1) := by decide +kernel
theorem dX7_init_77 : decode cX7_init 77 = .ok (.bipush 6, 2) := by decide +kernel
theorem dX7_init_79 : decode cX7_init 79 = .ok (.newarray .int, 2) := by decide +kernel
theorem dX7_init_81 : decode cX7_init 81 = .ok (.putfield 38, 3) := by decide +kernel
theorem dX7_init_84 : decode cX7_init 84 = .ok (.aload_n 0, 1) := by decide +kernel
theorem dX7_init_85 : decode cX7_init 85 = .ok (.bipush 6, 2) := by decide +kernel
theorem dX7_init_87 : decode cX7_init 87 = .ok (.newarray .int, 2) := by decide +kernel
theorem dX7_init_89 : decode cX7_init 89 = .ok (.putfield 41, 3) := by decide +kernel
theorem dX7_init_92 : decode cX7_init 92 = .ok (.aload_n 0, 1) := by decide +kernel
theorem dX7_init_93 : decode cX7_init 93 = .ok (.bipush 10, 2) := by decide +kernel
theorem dX7_init_95 : decode cX7_init 95 = .ok (.newarray .long, 2) := by decide +kernel
theorem dX7_init_97 : decode cX7_init 97 = .ok (.putfield 44, 3) := by decide +kernel
theorem dX7_init_100 : decode cX7_init 100 = .ok (.aload_n 0, 1) := by decide +kernel
theorem dX7_init_101 : decode cX7_init 101 = .ok (.bipush 16, 2) := by decide +kernel
theorem dX7_init_103 : decode cX7_init 103 = .ok (.newarray .int, 2) := by decide +kernel
theorem dX7_init_105 : decode cX7_init 105 = .ok (.putfield 47, 3) := by decide +kernel
theorem dX7_init_108 : decode cX7_init 108 = .ok (.aload_n 0, 1) := by decide +kernel
theorem dX7_init_109 : decode cX7_init 109 = .ok (.bipush 16, 2) := by decide +kernel
theorem dX7_init_111 : decode cX7_init 111 = .ok (.newarray .int, 2) := by decide +kernel
theorem dX7_init_113 : decode cX7_init 113 = .ok (.putfield 50, 3) := by decide +kernel
theorem dX7_init_116 : decode cX7_init 116 = .ok (.aload_n 0, 1) := by decide +kernel
theorem dX7_init_117 : decode cX7_init 117 = .ok (.iconst 4, 1) := by decide +kernel
theorem dX7_init_118 : decode cX7_init 118 = .ok (.newarray .int, 2) := by decide +kernel
theorem dX7_init_120 : decode cX7_init 120 = .ok (.putfield 53, 3) := by decide +kernel
theorem dX7_init_123 : decode cX7_init 123 = .ok (.return_, 1) := by decide +kernel
theorem dX7_prepare_0 : decode cX7_prepare 0 = .ok (.iconst 1, 1) := by decide +kernel
theorem dX7_prepare_1 : decode cX7_prepare 1 = .ok (.istore_n 3, 1) := by decide +kernel
theorem dX7_prepare_2 : decode cX7_prepare 2 = .ok (.iconst 0, 1) := by decide +kernel
theorem dX7_prepare_3 : decode cX7_prepare 3 = .ok (.istore 4, 2) := by decide +kernel
theorem dX7_prepare_5 : decode cX7_prepare 5 = .ok (.iload 4, 2) := by decide +kernel
theorem dX7_prepare_7 : decode cX7_prepare 7 = .ok (.aload_n 2, 1) := by decide +kernel
theorem dX7_prepare_8 : decode cX7_prepare 8 = .ok (.getfield 56, 3) := by decide +kernel
theorem dX7_prepare_11 : decode cX7_prepare 11 = .ok (.if_icmp .ge 108, 3) := by decide +kernel
theorem dX7_prepare_14 : decode cX7_prepare 14 = .ok (.aload_n 2, 1) := by decide +kernel
theorem dX7_prepare_15 : decode cX7_prepare 15 = .ok (.getfield 62, 3) := by decide +kernel
theorem dX7_prepare_18 : decode cX7_prepare 18 = .ok (.iload 4, 2) := by decide +kernel
theorem dX7_prepare_20 : decode cX7_prepare 20 = .ok (.aaload, 1) := by decide +kernel
theorem dX7_prepare_21 : decode cX7_prepare 21 = .ok (.astore 5, 2) := by decide +kernel
theorem dX7_prepare_23 : decode cX7_prepare 23 = .ok (.aload_n 0, 1) := by decide +kernel
theorem dX7_prepare_24 : decode cX7_prepare 24 = .ok (.getfield 20, 3) := by decide +kernel
theorem dX7_prepare_27 : decode cX7_prepare 27 = .ok (.iload 4, 2) := by decide +kernel
theorem dX7_prepare_29 : decode cX7_prepare 29 = .ok (.aload 5, 2) := by decide +kernel
theorem dX7_prepare_31 : decode cX7_prepare 31 = .ok (.invokevirtual 66, 3) := by decide +kernel
theorem dX7_prepare_34 : decode cX7_prepare 34 = .ok (.ifCond .eq 18, 3) := by decide +kernel
theorem dX7_prepare_37 : decode cX7_prepare 37 = .ok (.aload_n 1, 1) := by decide +kernel
theorem dX7_prepare_38 : decode cX7_prepare 38 = .ok (.aload 5, 2) := by decide +kernel
theorem dX7_prepare_40 : decode cX7_prepare 40 = .ok (.getfield 72, 3) := by decide +kernel
theorem dX7_prepare_43 : decode cX7_prepare 43 = .ok (.aaload, 1) := by decide +kernel
theorem dX7_prepare_44 : decode cX7_prepare 44 = .ok (.aload 5, 2) := by decide +kernel
theorem dX7_prepare_46 : decode cX7_prepare 46 = .ok (.invokestatic 75, 3) := by decide +kernel
theorem dX7_prepare_49 : decode cX7_prepare 49 = .ok (.goto 4, 3) := by decide +kernel
theorem dX7_prepare_52 : decode cX7_prepare 52 = .ok (.lconst 0, 1) := by decide +kernel
theorem dX7_prepare_53 : decode cX7_prepare 53 = .ok (.lastore, 1) := by decide +kernel
theorem dX7_prepare_54 : decode cX7_prepare 54 = .ok (.aload 5, 2) := by decide +kernel
theorem dX7_prepare_56 : decode cX7_prepare 56 = .ok (.invokevirtual 66, 3) := by decide +kernel
theorem dX7_prepare_59 : decode cX7_prepare 59 = .ok (.ifCond .eq 54, 3) := by decide +kernel
theorem dX7_prepare_62 : decode cX7_prepare 62 = .ok (.aload 5, 2) := by decide +kernel
theorem dX7_prepare_64 : decode cX7_prepare 64 = .ok (.getfield 79, 3) := by decide +kernel
theorem dX7_prepare_67 : decode cX7_prepare 67 = .ok (.ifCond .ne 46, 3) := by decide +kernel
theorem dX7_prepare_70 : decode cX7_prepare 70 = .ok (.iload_n 3, 1) := by decide +kernel
theorem dX7_prepare_71 : decode cX7_prepare 71 = .ok (.ifCond .eq 40, 3) := by decide +kernel
theorem dX7_prepare_74 : decode cX7_prepare 74 = .ok (.aload_n 0, 1) := by decide +kernel
theorem dX7_prepare_75 : decode cX7_prepare 75 = .ok (.getfield 20, 3) := by decide +kernel
theorem dX7_prepare_78 : decode cX7_prepare 78 = .ok (.iload 4, 2) := by decide +kernel
theorem dX7_prepare_80 : decode cX7_prepare 80 = .ok (.laload, 1) := by decide +kernel
theorem dX7_prepare_81 : decode cX7_prepare 81 = .ok (.lconst 0, 1) := by decide +kernel
theorem dX7_prepare_82 : decode cX7_prepare 82 = .ok (.lcmp, 1) := by decide +kernel
theorem dX7_prepare_83 : decode cX7_prepare 83 = .ok (.ifCond .eq 7, 3) := by decide +kernel
theorem dX7_prepare_86 : decode cX7_prepare 86 = .ok (.iconst 1, 1) := by decide +kernel
theorem dX7_prepare_87 : decode cX7_prepare 87 = .ok (.goto 4, 3) := by decide +kernel
theorem dX7_prepare_90 : decode cX7_prepare 90 = .ok (.iconst 0, 1) := by decide +kernel
theorem dX7_prepare_91 : decode cX7_prepare 91 = .ok (.aload 5, 2) := by decide +kernel
theorem dX7_prepare_93 : decode cX7_prepare 93 = .ok (.getfield 82, 3) := by decide +kernel
theorem dX7_prepare_96 : decode cX7_prepare 96 = .ok (.ifCond .ne 7, 3) := by decide +kernel
theorem dX7_prepare_99 : decode cX7_prepare 99 = .ok (.iconst 1, 1) := by decide +kernel
theorem dX7_prepare_100 : decode cX7_prepare 100 = .ok (.goto 4, 3) := by decide +kernel
theorem dX7_prepare_103 : decode cX7_prepare 103 = .ok (.iconst 0, 1) := by decide +kernel
theorem dX7_prepare_104 : decode cX7_prepare 104 = .ok (.if_icmp .ne 7, 3) := by decide +kernel
theorem dX7_prepare_107 : decode cX7_prepare 107 = .ok (.iconst 1, 1) := by decide +kernel
theorem dX7_prepare_108 : decode cX7_prepare 108 = .ok (.goto 4, 3) := by decide +kernel
theorem dX7_prepare_111 : decode cX7_prepare 111 = .ok (.iconst 0, 1) := by decide +kernel
theorem dX7_prepare_112 : decode cX7_prepare 112 = .ok (.istore_n 3, 1) := by decide +kernel
theorem dX7_prepare_113 : decode cX7_prepare 113 = .ok (.iinc 4 1, 3) := by decide +kernel
theorem dX7_prepare_116 : decode cX7_prepare 116 = .ok (.goto (-111), 3) := by decide +kernel
theorem dX7_prepare_119 : decode cX7_prepare 119 = .ok (.iconst 0, 1) := by decide +kernel
theorem dX7_prepare_120 : decode cX7_prepare 120 = .ok (.istore 4, 2) := by decide +kernel
theorem dX7_prepare_122 : decode cX7_prepare 122 = .ok (.iload 4, 2) := by decide +kernel
theorem dX7_prepare_124 : decode cX7_prepare 124 = .ok (.aload_n 2, 1) := by decide +kernel
theorem dX7_prepare_125 : decode cX7_prepare 125 = .ok (.getfield 85, 3) := by decide +kernel
theorem dX7_prepare_128 : decode cX7_prepare 128 = .ok (.if_icmp .ge 17, 3) := by decide +kernel
theorem dX7_prepare_131 : decode cX7_prepare 131 = .ok (.aload_n 0, 1) := by decide +kernel
theorem dX7_prepare_132 : decode cX7_prepare 132 = .ok (.aload_n 1, 1) := by decide +kernel
theorem dX7_prepare_133 : decode cX7_prepare 133 = .ok (.aload_n 2, 1) := by decide +kernel
theorem dX7_prepare_134 : decode cX7_prepare 134 = .ok (.iload 4, 2) := by decide +kernel
theorem dX7_prepare_136 : decode cX7_prepare 136 = .ok (.invokevirtual 88, 3) := by decide +kernel
theorem dX7_prepare_139 : decode cX7_prepare 139 = .ok (.iinc 4 1, 3) := by decide +kernel
theorem dX7_prepare_142 : decode cX7_prepare 142 = .ok (.goto (-20), 3) := by decide +kernel
theorem dX7_prepare_145 : decode cX7_prepare 145 = .ok (.iconst 0, 1) := by decide +kernel
theorem dX7_prepare_146 : decode cX7_prepare 146 = .ok (.istore 4, 2) := by decide +kernel
theorem dX7_prepare_148 : decode cX7_prepare 148 = .ok (.iload 4, 2) := by decide +kernel
theorem dX7_prepare_150 : decode cX7_prepare 150 = .ok (.aload_n 2, 1) := by decide +kernel
theorem dX7_prepare_151 : decode cX7_prepare 151 = .ok (.getfield 56, 3) := by decide +kernel
theorem dX7_prepare_154 : decode cX7_prepare 154 = .ok (.if_icmp .ge 85, 3) := by decide +kernel
theorem dX7_prepare_157 : decode cX7_prepare 157 = .ok (.aload_n 2, 1) := by decide +kernel
theorem dX7_prepare_158 : decode cX7_prepare 158 = .ok (.getfield 62, 3) := by decide +kernel
theorem dX7_prepare_161 : decode cX7_prepare 161 = .ok (.iload 4, 2) := by decide +kernel
theorem dX7_prepare_163 : decode cX7_prepare 163 = .ok (.aaload, 1) := by decide +kernel
theorem dX7_prepare_164 : decode cX7_prepare 164 = .ok (.astore 5, 2) := by decide +kernel
theorem dX7_prepare_166 : decode cX7_prepare 166 = .ok (.iconst 0, 1) := by decide +kernel
theorem dX7_prepare_167 : decode cX7_prepare 167 = .ok (.istore 6, 2) := by decide +kernel
theorem dX7_prepare_169 : decode cX7_prepare 169 = .ok (.aload 5, 2) := by decide +kernel
theorem dX7_prepare_171 : decode cX7_prepare 171 = .ok (.invokevirtual 66, 3) := by decide +kernel
theorem dX7_prepare_174 : decode cX7_prepare 174 = .ok (.ifCond .eq 59, 3) := by decide +kernel
theorem dX7_prepare_177 : decode cX7_prepare 177 = .ok (.iload 6, 2) := by decide +kernel
theorem dX7_prepare_179 : decode cX7_prepare 179 = .ok (.aload 5, 2) := by decide +kernel
theorem dX7_prepare_181 : decode cX7_prepare 181 = .ok (.getfield 92, 3) := by decide +kernel
theorem dX7_prepare_184 : decode cX7_prepare 184 = .ok (.if_icmp .ge 49, 3) := by decide +kernel
theorem dX7_prepare_187 : decode cX7_prepare 187 = .ok (.aload 5, 2) := by decide +kernel
theorem dX7_prepare_189 : decode cX7_prepare 189 = .ok (.getfield 95, 3) := by decide +kernel
theorem dX7_prepare_192 : decode cX7_prepare 192 = .ok (.iload 6, 2) := by decide +kernel
theorem dX7_prepare_194 : decode cX7_prepare 194 = .ok (.iaload, 1) := by decide +kernel
theorem dX7_prepare_195 : decode cX7_prepare 195 = .ok (.iconst (-1), 1) := by decide +kernel
theorem dX7_prepare_196 : decode cX7_prepare 196 = .ok (.if_icmp .eq 31, 3) := by decide +kernel
theorem dX7_prepare_199 : decode cX7_prepare 199 = .ok (.aload_n 0, 1) := by decide +kernel
theorem dX7_prepare_200 : decode cX7_prepare 200 = .ok (.aload_n 1, 1) := by decide +kernel
theorem dX7_prepare_201 : decode cX7_prepare 201 = .ok (.aload 5, 2) := by decide +kernel
theorem dX7_prepare_203 : decode cX7_prepare 203 = .ok (.getfield 72, 3) := by decide +kernel
theorem dX7_prepare_206 : decode cX7_prepare 206 = .ok (.aaload, 1) := by decide +kernel
theorem dX7_prepare_207 : decode cX7_prepare 207 = .ok (.iload 6, 2) := by decide +kernel
theorem dX7_prepare_209 : decode cX7_prepare 209 = .ok (.aload 5, 2) := by decide +kernel
theorem dX7_prepare_211 : decode cX7_prepare 211 = .ok (.getfield 95, 3) := by decide +kernel
theorem dX7_prepare_214 : decode cX7_prepare 214 = .ok (.iload 6, 2) := by decide +kernel
theorem dX7_prepare_216 : decode cX7_prepare 216 = .ok (.iaload, 1) := by decide +kernel
theorem dX7_prepare_217 : decode cX7_prepare 217 = .ok (.iload 4, 2) := by decide +kernel
theorem dX7_prepare_219 : decode cX7_prepare 219 = .ok (.iload 6, 2) := by decide +kernel
theorem dX7_prepare_221 : decode cX7_prepare 221 = .ok (.invokestatic 98, 3) := by decide +kernel
theorem dX7_prepare_224 : decode cX7_prepare 224 = .ok (.invokevirtual 102, 3) := by decide +kernel
theorem dX7_prepare_227 : decode cX7_prepare 227 = .ok (.iinc 6 1, 3) := by decide +kernel
theorem dX7_prepare_230 : decode cX7_prepare 230 = .ok (.goto (-61), 3) := by decide +kernel
theorem dX7_prepare_233 : decode cX7_prepare 233 = .ok (.iinc 4 1, 3) := by decide +kernel
theorem dX7_prepare_236 : decode cX7_prepare 236 = .ok (.goto (-88), 3) := by decide +kernel
theorem dX7_prepare_239 : decode cX7_prepare 239 = .ok (.aload_n 0, 1) := by decide +kernel
theorem dX7_prepare_240 : decode cX7_prepare 240 = .ok (.getfield 32, 3) := by decide +kernel
theorem dX7_prepare_243 : decode cX7_prepare 243 = .ok (.iconst 0, 1) := by decide +kernel
theorem dX7_prepare_244 : decode cX7_prepare 244 = .ok (.iload_n 3, 1) := by decide +kernel
theorem dX7_prepare_245 : decode cX7_prepare 245 = .ok (.ifCond .eq 7, 3) := by decide +kernel
theorem dX7_prepare_248 : decode cX7_prepare 248 = .ok (.iconst 1, 1) := by decide +kernel
theorem dX7_prepare_249 : decode cX7_prepare 249 = .ok (.goto 4, 3) := by decide +kernel
theorem dX7_prepare_252 : decode cX7_prepare 252 = .ok (.iconst 0, 1) := by decide +kernel
theorem dX7_prepare_253 : decode cX7_prepare 253 = .ok (.iastore, 1) := by decide +kernel
theorem dX7_prepare_254 : decode cX7_prepare 254 = .ok (.return_, 1) := by decide +kernel
theorem dX7_weaveInto_0 : decode cX7_weaveInto 0 = .ok (.aload_n 1, 1) := by decide +kernel
theorem dX7_weaveInto_1 : decode cX7_weaveInto 1 = .ok (.getfield 85, 3) := by decide +kernel
theorem dX7_weaveInto_4 : decode cX7_weaveInto 4 = .ok (.istore_n 3, 1) := by decide +kernel
theorem dX7_weaveInto_5 : decode cX7_weaveInto 5 = .ok (.aload_n 0, 1) := by decide +kernel
theorem dX7_weaveInto_6 : decode cX7_weaveInto 6 = .ok (.aload_n 1, 1) := by decide +kernel
theorem dX7_weaveInto_7 : decode cX7_weaveInto 7 = .ok (.aload_n 1, 1) := by decide +kernel
theorem dX7_weaveInto_8 : decode cX7_weaveInto 8 = .ok (.getfield 106, 3) := by decide +kernel
theorem dX7_weaveInto_11 : decode cX7_weaveInto 11 = .ok (.iload_n 3, 1) := by decide +kernel
theorem dX7_weaveInto_12 : decode cX7_weaveInto 12 = .ok (.invokevirtual 109, 3) := by decide +kernel
theorem dX7_weaveInto_15 : decode cX7_weaveInto 15 = .ok (.bipush (-2), 2) := by decide +kernel
theorem dX7_weaveInto_17 : decode cX7_weaveInto 17 = .ok (.if_icmp .ne 5, 3) := by decide +kernel
theorem dX7_weaveInto_20 : decode cX7_weaveInto 20 = .ok (.iconst 0, 1) := by decide +kernel
theorem dX7_weaveInto_21 : decode cX7_weaveInto 21 = .ok (.ireturn, 1) := by decide +kernel
theorem dX7_weaveInto_22 : decode cX7_weaveInto 22 = .ok (.aload_n 0, 1) := by decide +kernel
theorem dX7_weaveInto_23 : decode cX7_weaveInto 23 = .ok (.getfield 35, 3) := by decide +kernel
theorem dX7_weaveInto_26 : decode cX7_weaveInto 26 = .ok (.iload_n 3, 1) := by decide +kernel
theorem dX7_weaveInto_27 : decode cX7_weaveInto 27 = .ok (.iconst 1, 1) := by decide +kernel
theorem dX7_weaveInto_28 : decode cX7_weaveInto 28 = .ok (.iand, 1) := by decide +kernel
theorem dX7_weaveInto_29 : decode cX7_weaveInto 29 = .ok (.aaload, 1) := by decide +kernel
theorem dX7_weaveInto_30 : decode cX7_weaveInto 30 = .ok (.astore 4, 2) := by decide +kernel
theorem dX7_weaveInto_32 : decode cX7_weaveInto 32 = .ok (.aload 4, 2) := by decide +kernel
theorem dX7_weaveInto_34 : decode cX7_weaveInto 34 = .ok (.aload_n 0, 1) := by decide +kernel
theorem dX7_weaveInto_35 : decode cX7_weaveInto 35 = .ok (.getfield 32, 3) := by decide +kernel
theorem dX7_weaveInto_38 : decode cX7_weaveInto 38 = .ok (.iload_n 3, 1) := by decide +kernel
theorem dX7_weaveInto_39 : decode cX7_weaveInto 39 = .ok (.iaload, 1) := by decide +kernel
theorem dX7_weaveInto_40 : decode cX7_weaveInto 40 = .ok (.invokestatic 113, 3) := by decide +kernel
theorem dX7_weaveInto_43 : decode cX7_weaveInto 43 = .ok (.aload_n 2, 1) := by decide +kernel
theorem dX7_weaveInto_44 : decode cX7_weaveInto 44 = .ok (.getfield 117, 3) := by decide +kernel
theorem dX7_weaveInto_47 : decode cX7_weaveInto 47 = .ok (.iload_n 3, 1) := by decide +kernel
theorem dX7_weaveInto_48 : decode cX7_weaveInto 48 = .ok (.aload_n 0, 1) := by decide +kernel
theorem dX7_weaveInto_49 : decode cX7_weaveInto 49 = .ok (.getfield 32, 3) := by decide +kernel
theorem dX7_weaveInto_52 : decode cX7_weaveInto 52 = .ok (.iload_n 3, 1) := by decide +kernel
theorem dX7_weaveInto_53 : decode cX7_weaveInto 53 = .ok (.iaload, 1) := by decide +kernel
theorem dX7_weaveInto_54 : decode cX7_weaveInto 54 = .ok (.aload_n 0, 1) := by decide +kernel
theorem dX7_weaveInto_55 : decode cX7_weaveInto 55 = .ok (.getfield 17, 3) := by decide +kernel
theorem dX7_weaveInto_58 : decode cX7_weaveInto 58 = .ok (.aload 4, 2) := by decide +kernel
theorem dX7_weaveInto_60 : decode cX7_weaveInto 60 = .ok (.invokevirtual 123, 3) := by decide +kernel
theorem dX7_weaveInto_63 : decode cX7_weaveInto 63 = .ok (.aload_n 2, 1) := by decide +kernel
theorem dX7_weaveInto_64 : decode cX7_weaveInto 64 = .ok (.aload_n 1, 1) := by decide +kernel
theorem dX7_weaveInto_65 : decode cX7_weaveInto 65 = .ok (.invokevirtual 129, 3) := by decide +kernel
theorem dX7_weaveInto_68 : decode cX7_weaveInto 68 = .ok (.iconst 0, 1) := by decide +kernel
theorem dX7_weaveInto_69 : decode cX7_weaveInto 69 = .ok (.istore 5, 2) := by decide +kernel
theorem dX7_weaveInto_71 : decode cX7_weaveInto 71 = .ok (.iload 5, 2) := by decide +kernel
theorem dX7_weaveInto_73 : decode cX7_weaveInto 73 = .ok (.iload_n 3, 1) := by decide +kernel
theorem dX7_weaveInto_74 : decode cX7_weaveInto 74 = .ok (.if_icmp .ge 24, 3) := by decide +kernel
theorem dX7_weaveInto_77 : decode cX7_weaveInto 77 = .ok (.aload_n 2, 1) := by decide +kernel
theorem dX7_weaveInto_78 : decode cX7_weaveInto 78 = .ok (.iload 5, 2) := by decide +kernel
theorem dX7_weaveInto_80 : decode cX7_weaveInto 80 = .ok (.aload_n 0, 1) := by decide +kernel
theorem dX7_weaveInto_81 : decode cX7_weaveInto 81 = .ok (.getfield 32, 3) := by decide +kernel
theorem dX7_weaveInto_84 : decode cX7_weaveInto 84 = .ok (.iload 5, 2) := by decide +kernel
theorem dX7_weaveInto_86 : decode cX7_weaveInto 86 = .ok (.iconst 1, 1) := by decide +kernel
theorem dX7_weaveInto_87 : decode cX7_weaveInto 87 = .ok (.iadd, 1) := by decide +kernel
theorem dX7_weaveInto_88 : decode cX7_weaveInto 88 = .ok (.iaload, 1) := by decide +kernel
theorem dX7_weaveInto_89 : decode cX7_weaveInto 89 = .ok (.invokevirtual 133, 3) := by decide +kernel
theorem dX7_weaveInto_92 : decode cX7_weaveInto 92 = .ok (.iinc 5 1, 3) := by decide +kernel
theorem dX7_weaveInto_95 : decode cX7_weaveInto 95 = .ok (.goto (-24), 3) := by decide +kernel
theorem dX7_weaveInto_98 : decode cX7_weaveInto 98 = .ok (.iconst 0, 1) := by decide +kernel
theorem dX7_weaveInto_99 : decode cX7_weaveInto 99 = .ok (.istore 5, 2) := by decide +kernel
theorem dX7_weaveInto_101 : decode cX7_weaveInto 101 = .ok (.iload 5, 2) := by decide +kernel
theorem dX7_weaveInto_103 : decode cX7_weaveInto 103 = .ok (.aload_n 0, 1) := by decide +kernel
theorem dX7_weaveInto_104 : decode cX7_weaveInto 104 = .ok (.getfield 32, 3) := by decide +kernel
theorem dX7_weaveInto_107 : decode cX7_weaveInto 107 = .ok (.iload_n 3, 1) := by decide +kernel
theorem dX7_weaveInto_108 : decode cX7_weaveInto 108 = .ok (.iaload, 1) := by decide +kernel
theorem dX7_weaveInto_109 : decode cX7_weaveInto 109 = .ok (.if_icmp .ge 35, 3) := by decide +kernel
theorem dX7_weaveInto_112 : decode cX7_weaveInto 112 = .ok (.aload_n 0, 1) := by decide +kernel
theorem dX7_weaveInto_113 : decode cX7_weaveInto 113 = .ok (.aload_n 1, 1) := by decide +kernel
theorem dX7_weaveInto_114 : decode cX7_weaveInto 114 = .ok (.aload 4, 2) := by decide +kernel
theorem dX7_weaveInto_116 : decode cX7_weaveInto 116 = .ok (.iload 5, 2) := by decide +kernel
theorem dX7_weaveInto_118 : decode cX7_weaveInto 118 = .ok (.laload, 1) := by decide +kernel
theorem dX7_weaveInto_119 : decode cX7_weaveInto 119 = .ok (.iconst 1, 1) := by decide +kernel
theorem dX7_weaveInto_120 : decode cX7_weaveInto 120 = .ok (.iload_n 3, 1) := by decide +kernel
theorem dX7_weaveInto_121 : decode cX7_weaveInto 121 = .ok (.ishl, 1) := by decide +kernel
theorem dX7_weaveInto_122 : decode cX7_weaveInto 122 = .ok (.iconst 1, 1) := by decide +kernel
theorem dX7_weaveInto_123 : decode cX7_weaveInto 123 = .ok (.isub, 1) := by decide +kernel
theorem dX7_weaveInto_124 : decode cX7_weaveInto 124 = .ok (.invokevirtual 136, 3) := by decide +kernel
theorem dX7_weaveInto_127 : decode cX7_weaveInto 127 = .ok (.aload_n 2, 1) := by decide +kernel
theorem dX7_weaveInto_128 : decode cX7_weaveInto 128 = .ok (.iload 5, 2) := by decide +kernel
theorem dX7_weaveInto_130 : decode cX7_weaveInto 130 = .ok (.aload_n 0, 1) := by decide +kernel
theorem dX7_weaveInto_131 : decode cX7_weaveInto 131 = .ok (.aload_n 1, 1) := by decide +kernel
theorem dX7_weaveInto_132 : decode cX7_weaveInto 132 = .ok (.invokevirtual 140, 3) := by decide +kernel
theorem dX7_weaveInto_135 : decode cX7_weaveInto 135 = .ok (.invokevirtual 144, 3) := by decide +kernel
theorem dX7_weaveInto_138 : decode cX7_weaveInto 138 = .ok (.iinc 5 1, 3) := by decide +kernel
theorem dX7_weaveInto_141 : decode cX7_weaveInto 141 = .ok (.goto (-40), 3) := by decide +kernel
theorem dX7_weaveInto_144 : decode cX7_weaveInto 144 = .ok (.iconst 1, 1) := by decide +kernel
theorem dX7_weaveInto_145 : decode cX7_weaveInto 145 = .ok (.ireturn, 1) := by decide +kernel
theorem dX7_meetEachSet_0 : decode cX7_meetEachSet 0 = .ok (.bipush 16, 2) := by decide +kernel
theorem dX7_meetEachSet_2 : decode cX7_meetEachSet 2 = .ok (.iconst 1, 1) := by decide +kernel
theorem dX7_meetEachSet_3 : decode cX7_meetEachSet 3 = .ok (.aload_n 1, 1) := by decide +kernel
theorem dX7_meetEachSet_4 : decode cX7_meetEachSet 4 = .ok (.getfield 85, 3) := by decide +kernel
theorem dX7_meetEachSet_7 : decode cX7_meetEachSet 7 = .ok (.ishl, 1) := by decide +kernel
theorem dX7_meetEachSet_8 : decode cX7_meetEachSet 8 = .ok (.invokestatic 147, 3) := by decide +kernel
theorem dX7_meetEachSet_11 : decode cX7_meetEachSet 11 = .ok (.istore_n 2, 1) := by decide +kernel
theorem dX7_meetEachSet_12 : decode cX7_meetEachSet 12 = .ok (.aload_n 0, 1) := by decide +kernel
theorem dX7_meetEachSet_13 : decode cX7_meetEachSet 13 = .ok (.getfield 47, 3) := by decide +kernel
theorem dX7_meetEachSet_16 : decode cX7_meetEachSet 16 = .ok (.iconst 0, 1) := by decide +kernel
theorem dX7_meetEachSet_17 : decode cX7_meetEachSet 17 = .ok (.aload_n 0, 1) := by decide +kernel
theorem dX7_meetEachSet_18 : decode cX7_meetEachSet 18 = .ok (.getfield 32, 3) := by decide +kernel
theorem dX7_meetEachSet_21 : decode cX7_meetEachSet 21 = .ok (.iconst 0, 1) := by decide +kernel
theorem dX7_meetEachSet_22 : decode cX7_meetEachSet 22 = .ok (.iaload, 1) := by decide +kernel
theorem dX7_meetEachSet_23 : decode cX7_meetEachSet 23 = .ok (.iastore, 1) := by decide +kernel
theorem dX7_meetEachSet_24 : decode cX7_meetEachSet 24 = .ok (.iconst 1, 1) := by decide +kernel
theorem dX7_meetEachSet_25 : decode cX7_meetEachSet 25 = .ok (.istore_n 3, 1) := by decide +kernel
theorem dX7_meetEachSet_26 : decode cX7_meetEachSet 26 = .ok (.iload_n 3, 1) := by decide +kernel
theorem dX7_meetEachSet_27 : decode cX7_meetEachSet 27 = .ok (.iload_n 2, 1) := by decide +kernel
theorem dX7_meetEachSet_28 : decode cX7_meetEachSet 28 = .ok (.if_icmp .ge 56, 3) := by decide +kernel
theorem dX7_meetEachSet_31 : decode cX7_meetEachSet 31 = .ok (.aload_n 0, 1) := by decide +kernel
theorem dX7_meetEachSet_32 : decode cX7_meetEachSet 32 = .ok (.getfield 50, 3) := by decide +kernel
theorem dX7_meetEachSet_35 : decode cX7_meetEachSet 35 = .ok (.iload_n 3, 1) := by decide +kernel
theorem dX7_meetEachSet_36 : decode cX7_meetEachSet 36 = .ok (.aload_n 0, 1) := by decide +kernel
theorem dX7_meetEachSet_37 : decode cX7_meetEachSet 37 = .ok (.aload_n 1, 1) := by decide +kernel
theorem dX7_meetEachSet_38 : decode cX7_meetEachSet 38 = .ok (.iload_n 3, 1) := by decide +kernel
theorem dX7_meetEachSet_39 : decode cX7_meetEachSet 39 = .ok (.invokevirtual 152, 3) := by decide +kernel
theorem dX7_meetEachSet_42 : decode cX7_meetEachSet 42 = .ok (.iastore, 1) := by decide +kernel
theorem dX7_meetEachSet_43 : decode cX7_meetEachSet 43 = .ok (.aload_n 0, 1) := by decide +kernel
theorem dX7_meetEachSet_44 : decode cX7_meetEachSet 44 = .ok (.getfield 47, 3) := by decide +kernel
theorem dX7_meetEachSet_47 : decode cX7_meetEachSet 47 = .ok (.iload_n 3, 1) := by decide +kernel
theorem dX7_meetEachSet_48 : decode cX7_meetEachSet 48 = .ok (.aload_n 0, 1) := by decide +kernel
theorem dX7_meetEachSet_49 : decode cX7_meetEachSet 49 = .ok (.getfield 50, 3) := by decide +kernel
theorem dX7_meetEachSet_52 : decode cX7_meetEachSet 52 = .ok (.iload_n 3, 1) := by decide +kernel
theorem dX7_meetEachSet_53 : decode cX7_meetEachSet 53 = .ok (.iaload, 1) := by decide +kernel
theorem dX7_meetEachSet_54 : decode cX7_meetEachSet 54 = .ok (.iconst (-1), 1) := by decide +kernel
theorem dX7_meetEachSet_55 : decode cX7_meetEachSet 55 = .ok (.if_icmp .ne 8, 3) := by decide +kernel
theorem dX7_meetEachSet_58 : decode cX7_meetEachSet 58 = .ok (.bipush (-2), 2) := by decide +kernel
theorem dX7_meetEachSet_60 : decode cX7_meetEachSet 60 = .ok (.goto 17, 3) := by decide +kernel
theorem dX7_meetEachSet_63 : decode cX7_meetEachSet 63 = .ok (.aload_n 0, 1) := by decide +kernel
theorem dX7_meetEachSet_64 : decode cX7_meetEachSet 64 = .ok (.aload_n 1, 1) := by decide +kernel
theorem dX7_meetEachSet_65 : decode cX7_meetEachSet 65 = .ok (.aload_n 0, 1) := by decide +kernel
theorem dX7_meetEachSet_66 : decode cX7_meetEachSet 66 = .ok (.getfield 53, 3) := by decide +kernel
theorem dX7_meetEachSet_69 : decode cX7_meetEachSet 69 = .ok (.aload_n 0, 1) := by decide +kernel
theorem dX7_meetEachSet_70 : decode cX7_meetEachSet 70 = .ok (.iload_n 3, 1) := by decide +kernel
theorem dX7_meetEachSet_71 : decode cX7_meetEachSet 71 = .ok (.invokevirtual 156, 3) := by decide +kernel
theorem dX7_meetEachSet_74 : decode cX7_meetEachSet 74 = .ok (.invokevirtual 109, 3) := by decide +kernel
theorem dX7_meetEachSet_77 : decode cX7_meetEachSet 77 = .ok (.iastore, 1) := by decide +kernel
theorem dX7_meetEachSet_78 : decode cX7_meetEachSet 78 = .ok (.iinc 3 1, 3) := by decide +kernel
theorem dX7_meetEachSet_81 : decode cX7_meetEachSet 81 = .ok (.goto (-55), 3) := by decide +kernel
theorem dX7_meetEachSet_84 : decode cX7_meetEachSet 84 = .ok (.return_, 1) := by decide +kernel
theorem dX7_takeBestOrder_0 : decode cX7_takeBestOrder 0 = .ok (.bipush (-2), 2) := by decide +kernel
theorem dX7_takeBestOrder_2 : decode cX7_takeBestOrder 2 = .ok (.istore_n 2, 1) := by decide +kernel
theorem dX7_takeBestOrder_3 : decode cX7_takeBestOrder 3 = .ok (.iconst 0, 1) := by decide +kernel
theorem dX7_takeBestOrder_4 : decode cX7_takeBestOrder 4 = .ok (.istore_n 3, 1) := by decide +kernel
theorem dX7_takeBestOrder_5 : decode cX7_takeBestOrder 5 = .ok (.sipush 256, 3) := by decide +kernel
theorem dX7_takeBestOrder_8 : decode cX7_takeBestOrder 8 = .ok (.istore 4, 2) := by decide +kernel
theorem dX7_takeBestOrder_10 : decode cX7_takeBestOrder 10 = .ok (.iconst 0, 1) := by decide +kernel
theorem dX7_takeBestOrder_11 : decode cX7_takeBestOrder 11 = .ok (.istore 5, 2) := by decide +kernel
theorem dX7_takeBestOrder_13 : decode cX7_takeBestOrder 13 = .ok (.iload 5, 2) := by decide +kernel
theorem dX7_takeBestOrder_15 : decode cX7_takeBestOrder 15 = .ok (.iload 4, 2) := by decide +kernel
theorem dX7_takeBestOrder_17 : decode cX7_takeBestOrder 17 = .ok (.if_icmp .ge 43, 3) := by decide +kernel
theorem dX7_takeBestOrder_20 : decode cX7_takeBestOrder 20 = .ok (.aload_n 0, 1) := by decide +kernel
theorem dX7_takeBestOrder_21 : decode cX7_takeBestOrder 21 = .ok (.aload_n 1, 1) := by decide +kernel
theorem dX7_takeBestOrder_22 : decode cX7_takeBestOrder 22 = .ok (.iload 5, 2) := by decide +kernel
theorem dX7_takeBestOrder_24 : decode cX7_takeBestOrder 24 = .ok (.invokevirtual 160, 3) := by decide +kernel
theorem dX7_takeBestOrder_27 : decode cX7_takeBestOrder 27 = .ok (.istore 6, 2) := by decide +kernel
theorem dX7_takeBestOrder_29 : decode cX7_takeBestOrder 29 = .ok (.iload 6, 2) := by decide +kernel
theorem dX7_takeBestOrder_31 : decode cX7_takeBestOrder 31 = .ok (.bipush (-2), 2) := by decide +kernel
theorem dX7_takeBestOrder_33 : decode cX7_takeBestOrder 33 = .ok (.if_icmp .eq 21, 3) := by decide +kernel
theorem dX7_takeBestOrder_36 : decode cX7_takeBestOrder 36 = .ok (.iload_n 2, 1) := by decide +kernel
theorem dX7_takeBestOrder_37 : decode cX7_takeBestOrder 37 = .ok (.bipush (-2), 2) := by decide +kernel
theorem dX7_takeBestOrder_39 : decode cX7_takeBestOrder 39 = .ok (.if_icmp .eq 9, 3) := by decide +kernel
theorem dX7_takeBestOrder_42 : decode cX7_takeBestOrder 42 = .ok (.iload 6, 2) := by decide +kernel
theorem dX7_takeBestOrder_44 : decode cX7_takeBestOrder 44 = .ok (.iload_n 2, 1) := by decide +kernel
theorem dX7_takeBestOrder_45 : decode cX7_takeBestOrder 45 = .ok (.if_icmp .ge 9, 3) := by decide +kernel
theorem dX7_takeBestOrder_48 : decode cX7_takeBestOrder 48 = .ok (.iload 6, 2) := by decide +kernel
theorem dX7_takeBestOrder_50 : decode cX7_takeBestOrder 50 = .ok (.istore_n 2, 1) := by decide +kernel
theorem dX7_takeBestOrder_51 : decode cX7_takeBestOrder 51 = .ok (.iload 5, 2) := by decide +kernel
theorem dX7_takeBestOrder_53 : decode cX7_takeBestOrder 53 = .ok (.istore_n 3, 1) := by decide +kernel
theorem dX7_takeBestOrder_54 : decode cX7_takeBestOrder 54 = .ok (.iinc 5 1, 3) := by decide +kernel
theorem dX7_takeBestOrder_57 : decode cX7_takeBestOrder 57 = .ok (.goto (-44), 3) := by decide +kernel
theorem dX7_takeBestOrder_60 : decode cX7_takeBestOrder 60 = .ok (.iconst 0, 1) := by decide +kernel
theorem dX7_takeBestOrder_61 : decode cX7_takeBestOrder 61 = .ok (.istore 5, 2) := by decide +kernel
theorem dX7_takeBestOrder_63 : decode cX7_takeBestOrder 63 = .ok (.iload_n 2, 1) := by decide +kernel
theorem dX7_takeBestOrder_64 : decode cX7_takeBestOrder 64 = .ok (.bipush (-2), 2) := by decide +kernel
theorem dX7_takeBestOrder_66 : decode cX7_takeBestOrder 66 = .ok (.if_icmp .eq 31, 3) := by decide +kernel
theorem dX7_takeBestOrder_69 : decode cX7_takeBestOrder 69 = .ok (.iload 5, 2) := by decide +kernel
theorem dX7_takeBestOrder_71 : decode cX7_takeBestOrder 71 = .ok (.aload_n 1, 1) := by decide +kernel
theorem dX7_takeBestOrder_72 : decode cX7_takeBestOrder 72 = .ok (.getfield 85, 3) := by decide +kernel
theorem dX7_takeBestOrder_75 : decode cX7_takeBestOrder 75 = .ok (.if_icmp .ge 22, 3) := by decide +kernel
theorem dX7_takeBestOrder_78 : decode cX7_takeBestOrder 78 = .ok (.aload_n 1, 1) := by decide +kernel
theorem dX7_takeBestOrder_79 : decode cX7_takeBestOrder 79 = .ok (.getfield 106, 3) := by decide +kernel
theorem dX7_takeBestOrder_82 : decode cX7_takeBestOrder 82 = .ok (.iload 5, 2) := by decide +kernel
theorem dX7_takeBestOrder_84 : decode cX7_takeBestOrder 84 = .ok (.iload_n 3, 1) := by decide +kernel
theorem dX7_takeBestOrder_85 : decode cX7_takeBestOrder 85 = .ok (.iload 5, 2) := by decide +kernel
theorem dX7_takeBestOrder_87 : decode cX7_takeBestOrder 87 = .ok (.invokestatic 163, 3) := by decide +kernel
theorem dX7_takeBestOrder_90 : decode cX7_takeBestOrder 90 = .ok (.iastore, 1) := by decide +kernel
theorem dX7_takeBestOrder_91 : decode cX7_takeBestOrder 91 = .ok (.iinc 5 1, 3) := by decide +kernel
theorem dX7_takeBestOrder_94 : decode cX7_takeBestOrder 94 = .ok (.goto (-31), 3) := by decide +kernel
theorem dX7_takeBestOrder_97 : decode cX7_takeBestOrder 97 = .ok (.iload_n 2, 1) := by decide +kernel
theorem dX7_takeBestOrder_98 : decode cX7_takeBestOrder 98 = .ok (.ireturn, 1) := by decide +kernel
theorem dX7_meetingsTogether_0 : decode cX7_meetingsTogether 0 = .ok (.iconst 0, 1) := by decide +kernel
theorem dX7_meetingsTogether_1 : decode cX7_meetingsTogether 1 = .ok (.istore_n 3, 1) := by decide +kernel
theorem dX7_meetingsTogether_2 : decode cX7_meetingsTogether 2 = .ok (.iconst 0, 1) := by decide +kernel
theorem dX7_meetingsTogether_3 : decode cX7_meetingsTogether 3 = .ok (.istore 4, 2) := by decide +kernel
theorem dX7_meetingsTogether_5 : decode cX7_meetingsTogether 5 = .ok (.iconst 0, 1) := by decide +kernel
theorem dX7_meetingsTogether_6 : decode cX7_meetingsTogether 6 = .ok (.istore 5, 2) := by decide +kernel
theorem dX7_meetingsTogether_8 : decode cX7_meetingsTogether 8 = .ok (.iload 5, 2) := by decide +kernel
theorem dX7_meetingsTogether_10 : decode cX7_meetingsTogether 10 = .ok (.aload_n 1, 1) := by decide +kernel
theorem dX7_meetingsTogether_11 : decode cX7_meetingsTogether 11 = .ok (.getfield 85, 3) := by decide +kernel
theorem dX7_meetingsTogether_14 : decode cX7_meetingsTogether 14 = .ok (.if_icmp .ge 71, 3) := by decide +kernel
theorem dX7_meetingsTogether_17 : decode cX7_meetingsTogether 17 = .ok (.iload_n 2, 1) := by decide +kernel
theorem dX7_meetingsTogether_18 : decode cX7_meetingsTogether 18 = .ok (.iload 5, 2) := by decide +kernel
theorem dX7_meetingsTogether_20 : decode cX7_meetingsTogether 20 = .ok (.invokestatic 163, 3) := by decide +kernel
theorem dX7_meetingsTogether_23 : decode cX7_meetingsTogether 23 = .ok (.istore 6, 2) := by decide +kernel
theorem dX7_meetingsTogether_25 : decode cX7_meetingsTogether 25 = .ok (.iload 4, 2) := by decide +kernel
theorem dX7_meetingsTogether_27 : decode cX7_meetingsTogether 27 = .ok (.iconst 1, 1) := by decide +kernel
theorem dX7_meetingsTogether_28 : decode cX7_meetingsTogether 28 = .ok (.iload 6, 2) := by decide +kernel
theorem dX7_meetingsTogether_30 : decode cX7_meetingsTogether 30 = .ok (.ishl, 1) := by decide +kernel
theorem dX7_meetingsTogether_31 : decode cX7_meetingsTogether 31 = .ok (.ior, 1) := by decide +kernel
theorem dX7_meetingsTogether_32 : decode cX7_meetingsTogether 32 = .ok (.istore 7, 2) := by decide +kernel
theorem dX7_meetingsTogether_34 : decode cX7_meetingsTogether 34 = .ok (.iload 6, 2) := by decide +kernel
theorem dX7_meetingsTogether_36 : decode cX7_meetingsTogether 36 = .ok (.aload_n 1, 1) := by decide +kernel
theorem dX7_meetingsTogether_37 : decode cX7_meetingsTogether 37 = .ok (.getfield 85, 3) := by decide +kernel
theorem dX7_meetingsTogether_40 : decode cX7_meetingsTogether 40 = .ok (.if_icmp .ge 22, 3) := by decide +kernel
theorem dX7_meetingsTogether_43 : decode cX7_meetingsTogether 43 = .ok (.iload 7, 2) := by decide +kernel
theorem dX7_meetingsTogether_45 : decode cX7_meetingsTogether 45 = .ok (.iload 4, 2) := by decide +kernel
theorem dX7_meetingsTogether_47 : decode cX7_meetingsTogether 47 = .ok (.if_icmp .eq 15, 3) := by decide +kernel
theorem dX7_meetingsTogether_50 : decode cX7_meetingsTogether 50 = .ok (.aload_n 0, 1) := by decide +kernel
theorem dX7_meetingsTogether_51 : decode cX7_meetingsTogether 51 = .ok (.getfield 47, 3) := by decide +kernel
theorem dX7_meetingsTogether_54 : decode cX7_meetingsTogether 54 = .ok (.iload 7, 2) := by decide +kernel
theorem dX7_meetingsTogether_56 : decode cX7_meetingsTogether 56 = .ok (.iaload, 1) := by decide +kernel
theorem dX7_meetingsTogether_57 : decode cX7_meetingsTogether 57 = .ok (.bipush (-2), 2) := by decide +kernel
theorem dX7_meetingsTogether_59 : decode cX7_meetingsTogether 59 = .ok (.if_icmp .ne 6, 3) := by decide +kernel
theorem dX7_meetingsTogether_62 : decode cX7_meetingsTogether 62 = .ok (.bipush (-2), 2) := by decide +kernel
theorem dX7_meetingsTogether_64 : decode cX7_meetingsTogether 64 = .ok (.ireturn, 1) := by decide +kernel
theorem dX7_meetingsTogether_65 : decode cX7_meetingsTogether 65 = .ok (.iload 7, 2) := by decide +kernel
theorem dX7_meetingsTogether_67 : decode cX7_meetingsTogether 67 = .ok (.istore 4, 2) := by decide +kernel
theorem dX7_meetingsTogether_69 : decode cX7_meetingsTogether 69 = .ok (.iload_n 3, 1) := by decide +kernel
theorem dX7_meetingsTogether_70 : decode cX7_meetingsTogether 70 = .ok (.aload_n 0, 1) := by decide +kernel
theorem dX7_meetingsTogether_71 : decode cX7_meetingsTogether 71 = .ok (.getfield 47, 3) := by decide +kernel
theorem dX7_meetingsTogether_74 : decode cX7_meetingsTogether 74 = .ok (.iload 4, 2) := by decide +kernel
theorem dX7_meetingsTogether_76 : decode cX7_meetingsTogether 76 = .ok (.iaload, 1) := by decide +kernel
theorem dX7_meetingsTogether_77 : decode cX7_meetingsTogether 77 = .ok (.iadd, 1) := by decide +kernel
theorem dX7_meetingsTogether_78 : decode cX7_meetingsTogether 78 = .ok (.istore_n 3, 1) := by decide +kernel
theorem dX7_meetingsTogether_79 : decode cX7_meetingsTogether 79 = .ok (.iinc 5 1, 3) := by decide +kernel
theorem dX7_meetingsTogether_82 : decode cX7_meetingsTogether 82 = .ok (.goto (-74), 3) := by decide +kernel
theorem dX7_meetingsTogether_85 : decode cX7_meetingsTogether 85 = .ok (.iload_n 3, 1) := by decide +kernel
theorem dX7_meetingsTogether_86 : decode cX7_meetingsTogether 86 = .ok (.ireturn, 1) := by decide +kernel
theorem dX7_codedName_0 : decode cX7_codedName 0 = .ok (.iload_n 0, 1) := by decide +kernel
theorem dX7_codedName_1 : decode cX7_codedName 1 = .ok (.iconst 2, 1) := by decide +kernel
theorem dX7_codedName_2 : decode cX7_codedName 2 = .ok (.iconst 3, 1) := by decide +kernel
theorem dX7_codedName_3 : decode cX7_codedName 3 = .ok (.iload_n 1, 1) := by decide +kernel
theorem dX7_codedName_4 : decode cX7_codedName 4 = .ok (.isub, 1) := by decide +kernel
theorem dX7_codedName_5 : decode cX7_codedName 5 = .ok (.imul, 1) := by decide +kernel
theorem dX7_codedName_6 : decode cX7_codedName 6 = .ok (.ishr, 1) := by decide +kernel
theorem dX7_codedName_7 : decode cX7_codedName 7 = .ok (.iconst 3, 1) := by decide +kernel
theorem dX7_codedName_8 : decode cX7_codedName 8 = .ok (.iand, 1) := by decide +kernel
theorem dX7_codedName_9 : decode cX7_codedName 9 = .ok (.ireturn, 1) := by decide +kernel
theorem dX7_lastNameFor_0 : decode cX7_lastNameFor 0 = .ok (.iconst 0, 1) := by decide +kernel
theorem dX7_lastNameFor_1 : decode cX7_lastNameFor 1 = .ok (.istore_n 3, 1) := by decide +kernel
theorem dX7_lastNameFor_2 : decode cX7_lastNameFor 2 = .ok (.iload_n 3, 1) := by decide +kernel
theorem dX7_lastNameFor_3 : decode cX7_lastNameFor 3 = .ok (.aload_n 1, 1) := by decide +kernel
theorem dX7_lastNameFor_4 : decode cX7_lastNameFor 4 = .ok (.getfield 85, 3) := by decide +kernel
theorem dX7_lastNameFor_7 : decode cX7_lastNameFor 7 = .ok (.if_icmp .ge 38, 3) := by decide +kernel
theorem dX7_lastNameFor_10 : decode cX7_lastNameFor 10 = .ok (.iload_n 2, 1) := by decide +kernel
theorem dX7_lastNameFor_11 : decode cX7_lastNameFor 11 = .ok (.iconst 1, 1) := by decide +kernel
theorem dX7_lastNameFor_12 : decode cX7_lastNameFor 12 = .ok (.iload_n 3, 1) := by decide +kernel
theorem dX7_lastNameFor_13 : decode cX7_lastNameFor 13 = .ok (.ishl, 1) := by decide +kernel
theorem dX7_lastNameFor_14 : decode cX7_lastNameFor 14 = .ok (.iconst (-1), 1) := by decide +kernel
theorem dX7_lastNameFor_15 : decode cX7_lastNameFor 15 = .ok (.ixor, 1) := by decide +kernel
theorem dX7_lastNameFor_16 : decode cX7_lastNameFor 16 = .ok (.iand, 1) := by decide +kernel
theorem dX7_lastNameFor_17 : decode cX7_lastNameFor 17 = .ok (.istore 4, 2) := by decide +kernel
theorem dX7_lastNameFor_19 : decode cX7_lastNameFor 19 = .ok (.iload 4, 2) := by decide +kernel
theorem dX7_lastNameFor_21 : decode cX7_lastNameFor 21 = .ok (.iload_n 2, 1) := by decide +kernel
theorem dX7_lastNameFor_22 : decode cX7_lastNameFor 22 = .ok (.if_icmp .eq 17, 3) := by decide +kernel
theorem dX7_lastNameFor_25 : decode cX7_lastNameFor 25 = .ok (.aload_n 0, 1) := by decide +kernel
theorem dX7_lastNameFor_26 : decode cX7_lastNameFor 26 = .ok (.getfield 47, 3) := by decide +kernel
theorem dX7_lastNameFor_29 : decode cX7_lastNameFor 29 = .ok (.iload 4, 2) := by decide +kernel
theorem dX7_lastNameFor_31 : decode cX7_lastNameFor 31 = .ok (.iaload, 1) := by decide +kernel
theorem dX7_lastNameFor_32 : decode cX7_lastNameFor 32 = .ok (.bipush (-2), 2) := by decide +kernel
theorem dX7_lastNameFor_34 : decode cX7_lastNameFor 34 = .ok (.if_icmp .eq 5, 3) := by decide +kernel
theorem dX7_lastNameFor_37 : decode cX7_lastNameFor 37 = .ok (.iload_n 3, 1) := by decide +kernel
theorem dX7_lastNameFor_38 : decode cX7_lastNameFor 38 = .ok (.ireturn, 1) := by decide +kernel
theorem dX7_lastNameFor_39 : decode cX7_lastNameFor 39 = .ok (.iinc 3 1, 3) := by decide +kernel
theorem dX7_lastNameFor_42 : decode cX7_lastNameFor 42 = .ok (.goto (-40), 3) := by decide +kernel
theorem dX7_lastNameFor_45 : decode cX7_lastNameFor 45 = .ok (.iconst (-1), 1) := by decide +kernel
theorem dX7_lastNameFor_46 : decode cX7_lastNameFor 46 = .ok (.ireturn, 1) := by decide +kernel
theorem dX7_lineUp_0 : decode cX7_lineUp 0 = .ok (.iload_n 1, 1) := by decide +kernel
theorem dX7_lineUp_1 : decode cX7_lineUp 1 = .ok (.invokestatic 166, 3) := by decide +kernel
theorem dX7_lineUp_4 : decode cX7_lineUp 4 = .ok (.istore_n 2, 1) := by decide +kernel
theorem dX7_lineUp_5 : decode cX7_lineUp 5 = .ok (.iload_n 1, 1) := by decide +kernel
theorem dX7_lineUp_6 : decode cX7_lineUp 6 = .ok (.istore_n 3, 1) := by decide +kernel
theorem dX7_lineUp_7 : decode cX7_lineUp 7 = .ok (.iload_n 2, 1) := by decide +kernel
theorem dX7_lineUp_8 : decode cX7_lineUp 8 = .ok (.iconst 1, 1) := by decide +kernel
theorem dX7_lineUp_9 : decode cX7_lineUp 9 = .ok (.isub, 1) := by decide +kernel
theorem dX7_lineUp_10 : decode cX7_lineUp 10 = .ok (.istore 4, 2) := by decide +kernel
theorem dX7_lineUp_12 : decode cX7_lineUp 12 = .ok (.iload 4, 2) := by decide +kernel
theorem dX7_lineUp_14 : decode cX7_lineUp 14 = .ok (.ifCond .lt 35, 3) := by decide +kernel
theorem dX7_lineUp_17 : decode cX7_lineUp 17 = .ok (.aload_n 0, 1) := by decide +kernel
theorem dX7_lineUp_18 : decode cX7_lineUp 18 = .ok (.getfield 53, 3) := by decide +kernel
theorem dX7_lineUp_21 : decode cX7_lineUp 21 = .ok (.iload 4, 2) := by decide +kernel
theorem dX7_lineUp_23 : decode cX7_lineUp 23 = .ok (.aload_n 0, 1) := by decide +kernel
theorem dX7_lineUp_24 : decode cX7_lineUp 24 = .ok (.getfield 50, 3) := by decide +kernel
theorem dX7_lineUp_27 : decode cX7_lineUp 27 = .ok (.iload_n 3, 1) := by decide +kernel
theorem dX7_lineUp_28 : decode cX7_lineUp 28 = .ok (.iaload, 1) := by decide +kernel
theorem dX7_lineUp_29 : decode cX7_lineUp 29 = .ok (.iastore, 1) := by decide +kernel
theorem dX7_lineUp_30 : decode cX7_lineUp 30 = .ok (.iload_n 3, 1) := by decide +kernel
theorem dX7_lineUp_31 : decode cX7_lineUp 31 = .ok (.iconst 1, 1) := by decide +kernel
theorem dX7_lineUp_32 : decode cX7_lineUp 32 = .ok (.aload_n 0, 1) := by decide +kernel
theorem dX7_lineUp_33 : decode cX7_lineUp 33 = .ok (.getfield 50, 3) := by decide +kernel
theorem dX7_lineUp_36 : decode cX7_lineUp 36 = .ok (.iload_n 3, 1) := by decide +kernel
theorem dX7_lineUp_37 : decode cX7_lineUp 37 = .ok (.iaload, 1) := by decide +kernel
theorem dX7_lineUp_38 : decode cX7_lineUp 38 = .ok (.ishl, 1) := by decide +kernel
theorem dX7_lineUp_39 : decode cX7_lineUp 39 = .ok (.iconst (-1), 1) := by decide +kernel
theorem dX7_lineUp_40 : decode cX7_lineUp 40 = .ok (.ixor, 1) := by decide +kernel
theorem dX7_lineUp_41 : decode cX7_lineUp 41 = .ok (.iand, 1) := by decide +kernel
theorem dX7_lineUp_42 : decode cX7_lineUp 42 = .ok (.istore_n 3, 1) := by decide +kernel
theorem dX7_lineUp_43 : decode cX7_lineUp 43 = .ok (.iinc 4 (-1), 3) := by decide +kernel
theorem dX7_lineUp_46 : decode cX7_lineUp 46 = .ok (.goto (-34), 3) := by decide +kernel
theorem dX7_lineUp_49 : decode cX7_lineUp 49 = .ok (.iload_n 2, 1) := by decide +kernel
theorem dX7_lineUp_50 : decode cX7_lineUp 50 = .ok (.ireturn, 1) := by decide +kernel
theorem dX7_fittingRows_0 : decode cX7_fittingRows 0 = .ok (.lconst 0, 1) := by decide +kernel
theorem dX7_fittingRows_1 : decode cX7_fittingRows 1 = .ok (.lstore_n 2, 1) := by decide +kernel
theorem dX7_fittingRows_2 : decode cX7_fittingRows 2 = .ok (.iconst 0, 1) := by decide +kernel
theorem dX7_fittingRows_3 : decode cX7_fittingRows 3 = .ok (.istore 4, 2) := by decide +kernel
theorem dX7_fittingRows_5 : decode cX7_fittingRows 5 = .ok (.iload 4, 2) := by decide +kernel
theorem dX7_fittingRows_7 : decode cX7_fittingRows 7 = .ok (.aload_n 0, 1) := by decide +kernel
theorem dX7_fittingRows_8 : decode cX7_fittingRows 8 = .ok (.getfield 171, 3) := by decide +kernel
theorem dX7_fittingRows_11 : decode cX7_fittingRows 11 = .ok (.if_icmp .ge 26, 3) := by decide +kernel
theorem dX7_fittingRows_14 : decode cX7_fittingRows 14 = .ok (.aload_n 1, 1) := by decide +kernel
theorem dX7_fittingRows_15 : decode cX7_fittingRows 15 = .ok (.aload_n 0, 1) := by decide +kernel
theorem dX7_fittingRows_16 : decode cX7_fittingRows 16 = .ok (.iload 4, 2) := by decide +kernel
theorem dX7_fittingRows_18 : decode cX7_fittingRows 18 = .ok (.invokevirtual 174, 3) := by decide +kernel
theorem dX7_fittingRows_21 : decode cX7_fittingRows 21 = .ok (.ifCond .eq 10, 3) := by decide +kernel
theorem dX7_fittingRows_24 : decode cX7_fittingRows 24 = .ok (.lload_n 2, 1) := by decide +kernel
theorem dX7_fittingRows_25 : decode cX7_fittingRows 25 = .ok (.lconst 1, 1) := by decide +kernel
theorem dX7_fittingRows_26 : decode cX7_fittingRows 26 = .ok (.iload 4, 2) := by decide +kernel
theorem dX7_fittingRows_28 : decode cX7_fittingRows 28 = .ok (.lshl, 1) := by decide +kernel
theorem dX7_fittingRows_29 : decode cX7_fittingRows 29 = .ok (.lor, 1) := by decide +kernel
theorem dX7_fittingRows_30 : decode cX7_fittingRows 30 = .ok (.lstore_n 2, 1) := by decide +kernel
theorem dX7_fittingRows_31 : decode cX7_fittingRows 31 = .ok (.iinc 4 1, 3) := by decide +kernel
theorem dX7_fittingRows_34 : decode cX7_fittingRows 34 = .ok (.goto (-29), 3) := by decide +kernel
theorem dX7_fittingRows_37 : decode cX7_fittingRows 37 = .ok (.lload_n 2, 1) := by decide +kernel
theorem dX7_fittingRows_38 : decode cX7_fittingRows 38 = .ok (.lreturn, 1) := by decide +kernel
theorem dX7_gatherDomain_0 : decode cX7_gatherDomain 0 = .ok (.aload_n 0, 1) := by decide +kernel
theorem dX7_gatherDomain_1 : decode cX7_gatherDomain 1 = .ok (.getfield 9, 3) := by decide +kernel
theorem dX7_gatherDomain_4 : decode cX7_gatherDomain 4 = .ok (.iload_n 3, 1) := by decide +kernel
theorem dX7_gatherDomain_5 : decode cX7_gatherDomain 5 = .ok (.iconst 0, 1) := by decide +kernel
theorem dX7_gatherDomain_6 : decode cX7_gatherDomain 6 = .ok (.iastore, 1) := by decide +kernel
theorem dX7_gatherDomain_7 : decode cX7_gatherDomain 7 = .ok (.iconst 0, 1) := by decide +kernel
theorem dX7_gatherDomain_8 : decode cX7_gatherDomain 8 = .ok (.istore 4, 2) := by decide +kernel
theorem dX7_gatherDomain_10 : decode cX7_gatherDomain 10 = .ok (.iload 4, 2) := by decide +kernel
theorem dX7_gatherDomain_12 : decode cX7_gatherDomain 12 = .ok (.aload_n 2, 1) := by decide +kernel
theorem dX7_gatherDomain_13 : decode cX7_gatherDomain 13 = .ok (.getfield 56, 3) := by decide +kernel
theorem dX7_gatherDomain_16 : decode cX7_gatherDomain 16 = .ok (.if_icmp .ge 83, 3) := by decide +kernel
theorem dX7_gatherDomain_19 : decode cX7_gatherDomain 19 = .ok (.aload_n 2, 1) := by decide +kernel
theorem dX7_gatherDomain_20 : decode cX7_gatherDomain 20 = .ok (.getfield 62, 3) := by decide +kernel
theorem dX7_gatherDomain_23 : decode cX7_gatherDomain 23 = .ok (.iload 4, 2) := by decide +kernel
theorem dX7_gatherDomain_25 : decode cX7_gatherDomain 25 = .ok (.aaload, 1) := by decide +kernel
theorem dX7_gatherDomain_26 : decode cX7_gatherDomain 26 = .ok (.astore 5, 2) := by decide +kernel
theorem dX7_gatherDomain_28 : decode cX7_gatherDomain 28 = .ok (.aload 5, 2) := by decide +kernel
theorem dX7_gatherDomain_30 : decode cX7_gatherDomain 30 = .ok (.getfield 82, 3) := by decide +kernel
theorem dX7_gatherDomain_33 : decode cX7_gatherDomain 33 = .ok (.ifCond .ne 60, 3) := by decide +kernel
theorem dX7_gatherDomain_36 : decode cX7_gatherDomain 36 = .ok (.aload 5, 2) := by decide +kernel
theorem dX7_gatherDomain_38 : decode cX7_gatherDomain 38 = .ok (.iload_n 3, 1) := by decide +kernel
theorem dX7_gatherDomain_39 : decode cX7_gatherDomain 39 = .ok (.invokevirtual 178, 3) := by decide +kernel
theorem dX7_gatherDomain_42 : decode cX7_gatherDomain 42 = .ok (.ifCond .eq 51, 3) := by decide +kernel
theorem dX7_gatherDomain_45 : decode cX7_gatherDomain 45 = .ok (.aload_n 1, 1) := by decide +kernel
theorem dX7_gatherDomain_46 : decode cX7_gatherDomain 46 = .ok (.aload 5, 2) := by decide +kernel
theorem dX7_gatherDomain_48 : decode cX7_gatherDomain 48 = .ok (.getfield 72, 3) := by decide +kernel
theorem dX7_gatherDomain_51 : decode cX7_gatherDomain 51 = .ok (.aaload, 1) := by decide +kernel
theorem dX7_gatherDomain_52 : decode cX7_gatherDomain 52 = .ok (.astore 6, 2) := by decide +kernel
theorem dX7_gatherDomain_54 : decode cX7_gatherDomain 54 = .ok (.iconst 0, 1) := by decide +kernel
theorem dX7_gatherDomain_55 : decode cX7_gatherDomain 55 = .ok (.istore 7, 2) := by decide +kernel
theorem dX7_gatherDomain_57 : decode cX7_gatherDomain 57 = .ok (.iload 7, 2) := by decide +kernel
theorem dX7_gatherDomain_59 : decode cX7_gatherDomain 59 = .ok (.aload 6, 2) := by decide +kernel
theorem dX7_gatherDomain_61 : decode cX7_gatherDomain 61 = .ok (.getfield 171, 3) := by decide +kernel
theorem dX7_gatherDomain_64 : decode cX7_gatherDomain 64 = .ok (.if_icmp .ge 28, 3) := by decide +kernel
theorem dX7_gatherDomain_67 : decode cX7_gatherDomain 67 = .ok (.aload_n 0, 1) := by decide +kernel
theorem dX7_gatherDomain_68 : decode cX7_gatherDomain 68 = .ok (.iload_n 3, 1) := by decide +kernel
theorem dX7_gatherDomain_69 : decode cX7_gatherDomain 69 = .ok (.aload 6, 2) := by decide +kernel
theorem dX7_gatherDomain_71 : decode cX7_gatherDomain 71 = .ok (.iload 7, 2) := by decide +kernel
theorem dX7_gatherDomain_73 : decode cX7_gatherDomain 73 = .ok (.aload 5, 2) := by decide +kernel
theorem dX7_gatherDomain_75 : decode cX7_gatherDomain 75 = .ok (.getfield 182, 3) := by decide +kernel
theorem dX7_gatherDomain_78 : decode cX7_gatherDomain 78 = .ok (.iload_n 3, 1) := by decide +kernel
theorem dX7_gatherDomain_79 : decode cX7_gatherDomain 79 = .ok (.iaload, 1) := by decide +kernel
theorem dX7_gatherDomain_80 : decode cX7_gatherDomain 80 = .ok (.invokevirtual 185, 3) := by decide +kernel
theorem dX7_gatherDomain_83 : decode cX7_gatherDomain 83 = .ok (.invokevirtual 188, 3) := by decide +kernel
theorem dX7_gatherDomain_86 : decode cX7_gatherDomain 86 = .ok (.iinc 7 1, 3) := by decide +kernel
theorem dX7_gatherDomain_89 : decode cX7_gatherDomain 89 = .ok (.goto (-32), 3) := by decide +kernel
theorem dX7_gatherDomain_92 : decode cX7_gatherDomain 92 = .ok (.return_, 1) := by decide +kernel
theorem dX7_gatherDomain_93 : decode cX7_gatherDomain 93 = .ok (.iinc 4 1, 3) := by decide +kernel
theorem dX7_gatherDomain_96 : decode cX7_gatherDomain 96 = .ok (.goto (-86), 3) := by decide +kernel
theorem dX7_gatherDomain_99 : decode cX7_gatherDomain 99 = .ok (.return_, 1) := by decide +kernel
theorem dX7_addToDomain_0 : decode cX7_addToDomain 0 = .ok (.aload_n 0, 1) := by decide +kernel
theorem dX7_addToDomain_1 : decode cX7_addToDomain 1 = .ok (.getfield 17, 3) := by decide +kernel
theorem dX7_addToDomain_4 : decode cX7_addToDomain 4 = .ok (.iload_n 1, 1) := by decide +kernel
theorem dX7_addToDomain_5 : decode cX7_addToDomain 5 = .ok (.aaload, 1) := by decide +kernel
theorem dX7_addToDomain_6 : decode cX7_addToDomain 6 = .ok (.astore_n 3, 1) := by decide +kernel
theorem dX7_addToDomain_7 : decode cX7_addToDomain 7 = .ok (.aload_n 0, 1) := by decide +kernel
theorem dX7_addToDomain_8 : decode cX7_addToDomain 8 = .ok (.getfield 9, 3) := by decide +kernel
theorem dX7_addToDomain_11 : decode cX7_addToDomain 11 = .ok (.iload_n 1, 1) := by decide +kernel
theorem dX7_addToDomain_12 : decode cX7_addToDomain 12 = .ok (.iaload, 1) := by decide +kernel
theorem dX7_addToDomain_13 : decode cX7_addToDomain 13 = .ok (.istore 4, 2) := by decide +kernel
theorem dX7_addToDomain_15 : decode cX7_addToDomain 15 = .ok (.aload_n 0, 1) := by decide +kernel
theorem dX7_addToDomain_16 : decode cX7_addToDomain 16 = .ok (.iload_n 1, 1) := by decide +kernel
theorem dX7_addToDomain_17 : decode cX7_addToDomain 17 = .ok (.iload_n 2, 1) := by decide +kernel
theorem dX7_addToDomain_18 : decode cX7_addToDomain 18 = .ok (.invokevirtual 191, 3) := by decide +kernel
theorem dX7_addToDomain_21 : decode cX7_addToDomain 21 = .ok (.istore 5, 2) := by decide +kernel
theorem dX7_addToDomain_23 : decode cX7_addToDomain 23 = .ok (.iload 4, 2) := by decide +kernel
theorem dX7_addToDomain_25 : decode cX7_addToDomain 25 = .ok (.bipush 40, 2) := by decide +kernel
theorem dX7_addToDomain_27 : decode cX7_addToDomain 27 = .ok (.if_icmp .ge 18, 3) := by decide +kernel
theorem dX7_addToDomain_30 : decode cX7_addToDomain 30 = .ok (.iload 5, 2) := by decide +kernel
theorem dX7_addToDomain_32 : decode cX7_addToDomain 32 = .ok (.iload 4, 2) := by decide +kernel
theorem dX7_addToDomain_34 : decode cX7_addToDomain 34 = .ok (.if_icmp .ge 12, 3) := by decide +kernel
theorem dX7_addToDomain_37 : decode cX7_addToDomain 37 = .ok (.aload_n 3, 1) := by decide +kernel
theorem dX7_addToDomain_38 : decode cX7_addToDomain 38 = .ok (.iload 5, 2) := by decide +kernel
theorem dX7_addToDomain_40 : decode cX7_addToDomain 40 = .ok (.iaload, 1) := by decide +kernel
theorem dX7_addToDomain_41 : decode cX7_addToDomain 41 = .ok (.iload_n 2, 1) := by decide +kernel
theorem dX7_addToDomain_42 : decode cX7_addToDomain 42 = .ok (.if_icmp .ne 4, 3) := by decide +kernel
theorem dX7_addToDomain_45 : decode cX7_addToDomain 45 = .ok (.return_, 1) := by decide +kernel
theorem dX7_addToDomain_46 : decode cX7_addToDomain 46 = .ok (.aload_n 3, 1) := by decide +kernel
theorem dX7_addToDomain_47 : decode cX7_addToDomain 47 = .ok (.iload 5, 2) := by decide +kernel
theorem dX7_addToDomain_49 : decode cX7_addToDomain 49 = .ok (.aload_n 3, 1) := by decide +kernel
theorem dX7_addToDomain_50 : decode cX7_addToDomain 50 = .ok (.iload 5, 2) := by decide +kernel
theorem dX7_addToDomain_52 : decode cX7_addToDomain 52 = .ok (.iconst 1, 1) := by decide +kernel
theorem dX7_addToDomain_53 : decode cX7_addToDomain 53 = .ok (.iadd, 1) := by decide +kernel
theorem dX7_addToDomain_54 : decode cX7_addToDomain 54 = .ok (.iload 4, 2) := by decide +kernel
theorem dX7_addToDomain_56 : decode cX7_addToDomain 56 = .ok (.iload 5, 2) := by decide +kernel
theorem dX7_addToDomain_58 : decode cX7_addToDomain 58 = .ok (.isub, 1) := by decide +kernel
theorem dX7_addToDomain_59 : decode cX7_addToDomain 59 = .ok (.invokestatic 194, 3) := by decide +kernel
theorem dX7_addToDomain_62 : decode cX7_addToDomain 62 = .ok (.aload_n 3, 1) := by decide +kernel
theorem dX7_addToDomain_63 : decode cX7_addToDomain 63 = .ok (.iload 5, 2) := by decide +kernel
theorem dX7_addToDomain_65 : decode cX7_addToDomain 65 = .ok (.iload_n 2, 1) := by decide +kernel
theorem dX7_addToDomain_66 : decode cX7_addToDomain 66 = .ok (.iastore, 1) := by decide +kernel
theorem dX7_addToDomain_67 : decode cX7_addToDomain 67 = .ok (.aload_n 0, 1) := by decide +kernel
theorem dX7_addToDomain_68 : decode cX7_addToDomain 68 = .ok (.getfield 9, 3) := by decide +kernel
theorem dX7_addToDomain_71 : decode cX7_addToDomain 71 = .ok (.iload_n 1, 1) := by decide +kernel
theorem dX7_addToDomain_72 : decode cX7_addToDomain 72 = .ok (.iload 4, 2) := by decide +kernel
theorem dX7_addToDomain_74 : decode cX7_addToDomain 74 = .ok (.iconst 1, 1) := by decide +kernel
theorem dX7_addToDomain_75 : decode cX7_addToDomain 75 = .ok (.iadd, 1) := by decide +kernel
theorem dX7_addToDomain_76 : decode cX7_addToDomain 76 = .ok (.iastore, 1) := by decide +kernel
theorem dX7_addToDomain_77 : decode cX7_addToDomain 77 = .ok (.return_, 1) := by decide +kernel
theorem dX7_spotFor_0 : decode cX7_spotFor 0 = .ok (.iconst 0, 1) := by decide +kernel
theorem dX7_spotFor_1 : decode cX7_spotFor 1 = .ok (.istore_n 3, 1) := by decide +kernel
theorem dX7_spotFor_2 : decode cX7_spotFor 2 = .ok (.aload_n 0, 1) := by decide +kernel
theorem dX7_spotFor_3 : decode cX7_spotFor 3 = .ok (.getfield 9, 3) := by decide +kernel
theorem dX7_spotFor_6 : decode cX7_spotFor 6 = .ok (.iload_n 1, 1) := by decide +kernel
theorem dX7_spotFor_7 : decode cX7_spotFor 7 = .ok (.iaload, 1) := by decide +kernel
theorem dX7_spotFor_8 : decode cX7_spotFor 8 = .ok (.istore 4, 2) := by decide +kernel
theorem dX7_spotFor_10 : decode cX7_spotFor 10 = .ok (.iload_n 3, 1) := by decide +kernel
theorem dX7_spotFor_11 : decode cX7_spotFor 11 = .ok (.iload 4, 2) := by decide +kernel
theorem dX7_spotFor_13 : decode cX7_spotFor 13 = .ok (.if_icmp .ge 42, 3) := by decide +kernel
theorem dX7_spotFor_16 : decode cX7_spotFor 16 = .ok (.iload_n 3, 1) := by decide +kernel
theorem dX7_spotFor_17 : decode cX7_spotFor 17 = .ok (.iload 4, 2) := by decide +kernel
theorem dX7_spotFor_19 : decode cX7_spotFor 19 = .ok (.iadd, 1) := by decide +kernel
theorem dX7_spotFor_20 : decode cX7_spotFor 20 = .ok (.iconst 1, 1) := by decide +kernel
theorem dX7_spotFor_21 : decode cX7_spotFor 21 = .ok (.iushr, 1) := by decide +kernel
theorem dX7_spotFor_22 : decode cX7_spotFor 22 = .ok (.istore 5, 2) := by decide +kernel
theorem dX7_spotFor_24 : decode cX7_spotFor 24 = .ok (.aload_n 0, 1) := by decide +kernel
theorem dX7_spotFor_25 : decode cX7_spotFor 25 = .ok (.getfield 17, 3) := by decide +kernel
theorem dX7_spotFor_28 : decode cX7_spotFor 28 = .ok (.iload_n 1, 1) := by decide +kernel
theorem dX7_spotFor_29 : decode cX7_spotFor 29 = .ok (.aaload, 1) := by decide +kernel
theorem dX7_spotFor_30 : decode cX7_spotFor 30 = .ok (.iload 5, 2) := by decide +kernel
theorem dX7_spotFor_32 : decode cX7_spotFor 32 = .ok (.iaload, 1) := by decide +kernel
theorem dX7_spotFor_33 : decode cX7_spotFor 33 = .ok (.iload_n 2, 1) := by decide +kernel
theorem dX7_spotFor_34 : decode cX7_spotFor 34 = .ok (.invokestatic 200, 3) := by decide +kernel
theorem dX7_spotFor_37 : decode cX7_spotFor 37 = .ok (.ifCond .eq 11, 3) := by decide +kernel
theorem dX7_spotFor_40 : decode cX7_spotFor 40 = .ok (.iload 5, 2) := by decide +kernel
theorem dX7_spotFor_42 : decode cX7_spotFor 42 = .ok (.iconst 1, 1) := by decide +kernel
theorem dX7_spotFor_43 : decode cX7_spotFor 43 = .ok (.iadd, 1) := by decide +kernel
theorem dX7_spotFor_44 : decode cX7_spotFor 44 = .ok (.istore_n 3, 1) := by decide +kernel
theorem dX7_spotFor_45 : decode cX7_spotFor 45 = .ok (.goto 7, 3) := by decide +kernel
theorem dX7_spotFor_48 : decode cX7_spotFor 48 = .ok (.iload 5, 2) := by decide +kernel
theorem dX7_spotFor_50 : decode cX7_spotFor 50 = .ok (.istore 4, 2) := by decide +kernel
theorem dX7_spotFor_52 : decode cX7_spotFor 52 = .ok (.goto (-42), 3) := by decide +kernel
theorem dX7_spotFor_55 : decode cX7_spotFor 55 = .ok (.iload_n 3, 1) := by decide +kernel
theorem dX7_spotFor_56 : decode cX7_spotFor 56 = .ok (.ireturn, 1) := by decide +kernel
theorem dX7_gatherRowsWith_0 : decode cX7_gatherRowsWith 0 = .ok (.aload_n 0, 1) := by decide +kernel
theorem dX7_gatherRowsWith_1 : decode cX7_gatherRowsWith 1 = .ok (.getfield 26, 3) := by decide +kernel
theorem dX7_gatherRowsWith_4 : decode cX7_gatherRowsWith 4 = .ok (.iload 4, 2) := by decide +kernel
theorem dX7_gatherRowsWith_6 : decode cX7_gatherRowsWith 6 = .ok (.aaload, 1) := by decide +kernel
theorem dX7_gatherRowsWith_7 : decode cX7_gatherRowsWith 7 = .ok (.astore 5, 2) := by decide +kernel
theorem dX7_gatherRowsWith_9 : decode cX7_gatherRowsWith 9 = .ok (.aload_n 0, 1) := by decide +kernel
theorem dX7_gatherRowsWith_10 : decode cX7_gatherRowsWith 10 = .ok (.getfield 29, 3) := by decide +kernel
theorem dX7_gatherRowsWith_13 : decode cX7_gatherRowsWith 13 = .ok (.iload 4, 2) := by decide +kernel
theorem dX7_gatherRowsWith_15 : decode cX7_gatherRowsWith 15 = .ok (.aaload, 1) := by decide +kernel
theorem dX7_gatherRowsWith_16 : decode cX7_gatherRowsWith 16 = .ok (.astore 6, 2) := by decide +kernel
theorem dX7_gatherRowsWith_18 : decode cX7_gatherRowsWith 18 = .ok (.iconst 0, 1) := by decide +kernel
theorem dX7_gatherRowsWith_19 : decode cX7_gatherRowsWith 19 = .ok (.istore 7, 2) := by decide +kernel
theorem dX7_gatherRowsWith_21 : decode cX7_gatherRowsWith 21 = .ok (.iload 7, 2) := by decide +kernel
theorem dX7_gatherRowsWith_23 : decode cX7_gatherRowsWith 23 = .ok (.aload_n 0, 1) := by decide +kernel
theorem dX7_gatherRowsWith_24 : decode cX7_gatherRowsWith 24 = .ok (.getfield 9, 3) := by decide +kernel
theorem dX7_gatherRowsWith_27 : decode cX7_gatherRowsWith 27 = .ok (.iload_n 3, 1) := by decide +kernel
theorem dX7_gatherRowsWith_28 : decode cX7_gatherRowsWith 28 = .ok (.iaload, 1) := by decide +kernel
theorem dX7_gatherRowsWith_29 : decode cX7_gatherRowsWith 29 = .ok (.if_icmp .ge 15, 3) := by decide +kernel
theorem dX7_gatherRowsWith_32 : decode cX7_gatherRowsWith 32 = .ok (.aload 5, 2) := by decide +kernel
theorem dX7_gatherRowsWith_34 : decode cX7_gatherRowsWith 34 = .ok (.iload 7, 2) := by decide +kernel
theorem dX7_gatherRowsWith_36 : decode cX7_gatherRowsWith 36 = .ok (.lconst 0, 1) := by decide +kernel
theorem dX7_gatherRowsWith_37 : decode cX7_gatherRowsWith 37 = .ok (.lastore, 1) := by decide +kernel
theorem dX7_gatherRowsWith_38 : decode cX7_gatherRowsWith 38 = .ok (.iinc 7 1, 3) := by decide +kernel
theorem dX7_gatherRowsWith_41 : decode cX7_gatherRowsWith 41 = .ok (.goto (-20), 3) := by decide +kernel
theorem dX7_gatherRowsWith_44 : decode cX7_gatherRowsWith 44 = .ok (.iconst 0, 1) := by decide +kernel
theorem dX7_gatherRowsWith_45 : decode cX7_gatherRowsWith 45 = .ok (.istore 7, 2) := by decide +kernel
theorem dX7_gatherRowsWith_47 : decode cX7_gatherRowsWith 47 = .ok (.iload 7, 2) := by decide +kernel
theorem dX7_gatherRowsWith_49 : decode cX7_gatherRowsWith 49 = .ok (.aload_n 1, 1) := by decide +kernel
theorem dX7_gatherRowsWith_50 : decode cX7_gatherRowsWith 50 = .ok (.getfield 171, 3) := by decide +kernel
theorem dX7_gatherRowsWith_53 : decode cX7_gatherRowsWith 53 = .ok (.if_icmp .ge 92, 3) := by decide +kernel
theorem dX7_gatherRowsWith_56 : decode cX7_gatherRowsWith 56 = .ok (.aload_n 1, 1) := by decide +kernel
theorem dX7_gatherRowsWith_57 : decode cX7_gatherRowsWith 57 = .ok (.iload 7, 2) := by decide +kernel
theorem dX7_gatherRowsWith_59 : decode cX7_gatherRowsWith 59 = .ok (.iload_n 2, 1) := by decide +kernel
theorem dX7_gatherRowsWith_60 : decode cX7_gatherRowsWith 60 = .ok (.invokevirtual 185, 3) := by decide +kernel
theorem dX7_gatherRowsWith_63 : decode cX7_gatherRowsWith 63 = .ok (.istore 8, 2) := by decide +kernel
theorem dX7_gatherRowsWith_65 : decode cX7_gatherRowsWith 65 = .ok (.aload_n 0, 1) := by decide +kernel
theorem dX7_gatherRowsWith_66 : decode cX7_gatherRowsWith 66 = .ok (.iload_n 3, 1) := by decide +kernel
theorem dX7_gatherRowsWith_67 : decode cX7_gatherRowsWith 67 = .ok (.iload 8, 2) := by decide +kernel
theorem dX7_gatherRowsWith_69 : decode cX7_gatherRowsWith 69 = .ok (.invokevirtual 191, 3) := by decide +kernel
theorem dX7_gatherRowsWith_72 : decode cX7_gatherRowsWith 72 = .ok (.istore 9, 2) := by decide +kernel
theorem dX7_gatherRowsWith_74 : decode cX7_gatherRowsWith 74 = .ok (.iload 9, 2) := by decide +kernel
theorem dX7_gatherRowsWith_76 : decode cX7_gatherRowsWith 76 = .ok (.aload_n 0, 1) := by decide +kernel
theorem dX7_gatherRowsWith_77 : decode cX7_gatherRowsWith 77 = .ok (.getfield 9, 3) := by decide +kernel
theorem dX7_gatherRowsWith_80 : decode cX7_gatherRowsWith 80 = .ok (.iload_n 3, 1) := by decide +kernel
theorem dX7_gatherRowsWith_81 : decode cX7_gatherRowsWith 81 = .ok (.iaload, 1) := by decide +kernel
theorem dX7_gatherRowsWith_82 : decode cX7_gatherRowsWith 82 = .ok (.if_icmp .ge 21, 3) := by decide +kernel
theorem dX7_gatherRowsWith_85 : decode cX7_gatherRowsWith 85 = .ok (.aload_n 0, 1) := by decide +kernel
theorem dX7_gatherRowsWith_86 : decode cX7_gatherRowsWith 86 = .ok (.getfield 17, 3) := by decide +kernel
theorem dX7_gatherRowsWith_89 : decode cX7_gatherRowsWith 89 = .ok (.iload_n 3, 1) := by decide +kernel
theorem dX7_gatherRowsWith_90 : decode cX7_gatherRowsWith 90 = .ok (.aaload, 1) := by decide +kernel
theorem dX7_gatherRowsWith_91 : decode cX7_gatherRowsWith 91 = .ok (.iload 9, 2) := by decide +kernel
theorem dX7_gatherRowsWith_93 : decode cX7_gatherRowsWith 93 = .ok (.iaload, 1) := by decide +kernel
theorem dX7_gatherRowsWith_94 : decode cX7_gatherRowsWith 94 = .ok (.iload 8, 2) := by decide +kernel
theorem dX7_gatherRowsWith_96 : decode cX7_gatherRowsWith 96 = .ok (.if_icmp .ne 7, 3) := by decide +kernel
theorem dX7_gatherRowsWith_99 : decode cX7_gatherRowsWith 99 = .ok (.iconst 1, 1) := by decide +kernel
theorem dX7_gatherRowsWith_100 : decode cX7_gatherRowsWith 100 = .ok (.goto 4, 3) := by decide +kernel
theorem dX7_gatherRowsWith_103 : decode cX7_gatherRowsWith 103 = .ok (.iconst 0, 1) := by decide +kernel
theorem dX7_gatherRowsWith_104 : decode cX7_gatherRowsWith 104 = .ok (.istore 10, 2) := by decide +kernel
theorem dX7_gatherRowsWith_106 : decode cX7_gatherRowsWith 106 = .ok (.aload 6, 2) := by decide +kernel
theorem dX7_gatherRowsWith_108 : decode cX7_gatherRowsWith 108 = .ok (.iload 7, 2) := by decide +kernel
theorem dX7_gatherRowsWith_110 : decode cX7_gatherRowsWith 110 = .ok (.iload 10, 2) := by decide +kernel
theorem dX7_gatherRowsWith_112 : decode cX7_gatherRowsWith 112 = .ok (.ifCond .eq 8, 3) := by decide +kernel
theorem dX7_gatherRowsWith_115 : decode cX7_gatherRowsWith 115 = .ok (.iload 9, 2) := by decide +kernel
theorem dX7_gatherRowsWith_117 : decode cX7_gatherRowsWith 117 = .ok (.goto 4, 3) := by decide +kernel
theorem dX7_gatherRowsWith_120 : decode cX7_gatherRowsWith 120 = .ok (.iconst (-1), 1) := by decide +kernel
theorem dX7_gatherRowsWith_121 : decode cX7_gatherRowsWith 121 = .ok (.iastore, 1) := by decide +kernel
theorem dX7_gatherRowsWith_122 : decode cX7_gatherRowsWith 122 = .ok (.iload 10, 2) := by decide +kernel
theorem dX7_gatherRowsWith_124 : decode cX7_gatherRowsWith 124 = .ok (.ifCond .eq 15, 3) := by decide +kernel
theorem dX7_gatherRowsWith_127 : decode cX7_gatherRowsWith 127 = .ok (.aload 5, 2) := by decide +kernel
theorem dX7_gatherRowsWith_129 : decode cX7_gatherRowsWith 129 = .ok (.iload 9, 2) := by decide +kernel
theorem dX7_gatherRowsWith_131 : decode cX7_gatherRowsWith 131 = .ok (.dup2, 1) := by decide +kernel
theorem dX7_gatherRowsWith_132 : decode cX7_gatherRowsWith 132 = .ok (.laload, 1) := by decide +kernel
theorem dX7_gatherRowsWith_133 : decode cX7_gatherRowsWith 133 = .ok (.lconst 1, 1) := by decide +kernel
theorem dX7_gatherRowsWith_134 : decode cX7_gatherRowsWith 134 = .ok (.iload 7, 2) := by decide +kernel
theorem dX7_gatherRowsWith_136 : decode cX7_gatherRowsWith 136 = .ok (.lshl, 1) := by decide +kernel
theorem dX7_gatherRowsWith_137 : decode cX7_gatherRowsWith 137 = .ok (.lor, 1) := by decide +kernel
theorem dX7_gatherRowsWith_138 : decode cX7_gatherRowsWith 138 = .ok (.lastore, 1) := by decide +kernel
theorem dX7_gatherRowsWith_139 : decode cX7_gatherRowsWith 139 = .ok (.iinc 7 1, 3) := by decide +kernel
theorem dX7_gatherRowsWith_142 : decode cX7_gatherRowsWith 142 = .ok (.goto (-95), 3) := by decide +kernel
theorem dX7_gatherRowsWith_145 : decode cX7_gatherRowsWith 145 = .ok (.return_, 1) := by decide +kernel
theorem dX7_meetAlong_0 : decode cX7_meetAlong 0 = .ok (.iconst 0, 1) := by decide +kernel
theorem dX7_meetAlong_1 : decode cX7_meetAlong 1 = .ok (.istore 4, 2) := by decide +kernel
theorem dX7_meetAlong_3 : decode cX7_meetAlong 3 = .ok (.aload_n 0, 1) := by decide +kernel
theorem dX7_meetAlong_4 : decode cX7_meetAlong 4 = .ok (.getfield 35, 3) := by decide +kernel
theorem dX7_meetAlong_7 : decode cX7_meetAlong 7 = .ok (.iconst 0, 1) := by decide +kernel
theorem dX7_meetAlong_8 : decode cX7_meetAlong 8 = .ok (.aaload, 1) := by decide +kernel
theorem dX7_meetAlong_9 : decode cX7_meetAlong 9 = .ok (.iconst 0, 1) := by decide +kernel
theorem dX7_meetAlong_10 : decode cX7_meetAlong 10 = .ok (.lconst 0, 1) := by decide +kernel
theorem dX7_meetAlong_11 : decode cX7_meetAlong 11 = .ok (.lastore, 1) := by decide +kernel
theorem dX7_meetAlong_12 : decode cX7_meetAlong 12 = .ok (.iconst 0, 1) := by decide +kernel
theorem dX7_meetAlong_13 : decode cX7_meetAlong 13 = .ok (.istore 5, 2) := by decide +kernel
theorem dX7_meetAlong_15 : decode cX7_meetAlong 15 = .ok (.iload 5, 2) := by decide +kernel
theorem dX7_meetAlong_17 : decode cX7_meetAlong 17 = .ok (.iload_n 3, 1) := by decide +kernel
theorem dX7_meetAlong_18 : decode cX7_meetAlong 18 = .ok (.if_icmp .ge 104, 3) := by decide +kernel
theorem dX7_meetAlong_21 : decode cX7_meetAlong 21 = .ok (.aload_n 0, 1) := by decide +kernel
theorem dX7_meetAlong_22 : decode cX7_meetAlong 22 = .ok (.getfield 32, 3) := by decide +kernel
theorem dX7_meetAlong_25 : decode cX7_meetAlong 25 = .ok (.iload 5, 2) := by decide +kernel
theorem dX7_meetAlong_27 : decode cX7_meetAlong 27 = .ok (.iconst 1, 1) := by decide +kernel
theorem dX7_meetAlong_28 : decode cX7_meetAlong 28 = .ok (.iadd, 1) := by decide +kernel
theorem dX7_meetAlong_29 : decode cX7_meetAlong 29 = .ok (.iconst 0, 1) := by decide +kernel
theorem dX7_meetAlong_30 : decode cX7_meetAlong 30 = .ok (.iastore, 1) := by decide +kernel
theorem dX7_meetAlong_31 : decode cX7_meetAlong 31 = .ok (.iconst 0, 1) := by decide +kernel
theorem dX7_meetAlong_32 : decode cX7_meetAlong 32 = .ok (.istore 6, 2) := by decide +kernel
theorem dX7_meetAlong_34 : decode cX7_meetAlong 34 = .ok (.iload 6, 2) := by decide +kernel
theorem dX7_meetAlong_36 : decode cX7_meetAlong 36 = .ok (.aload_n 0, 1) := by decide +kernel
theorem dX7_meetAlong_37 : decode cX7_meetAlong 37 = .ok (.getfield 32, 3) := by decide +kernel
theorem dX7_meetAlong_40 : decode cX7_meetAlong 40 = .ok (.iload 5, 2) := by decide +kernel
theorem dX7_meetAlong_42 : decode cX7_meetAlong 42 = .ok (.iaload, 1) := by decide +kernel
theorem dX7_meetAlong_43 : decode cX7_meetAlong 43 = .ok (.if_icmp .ge 62, 3) := by decide +kernel
theorem dX7_meetAlong_46 : decode cX7_meetAlong 46 = .ok (.aload_n 0, 1) := by decide +kernel
theorem dX7_meetAlong_47 : decode cX7_meetAlong 47 = .ok (.getfield 35, 3) := by decide +kernel
theorem dX7_meetAlong_50 : decode cX7_meetAlong 50 = .ok (.iload 5, 2) := by decide +kernel
theorem dX7_meetAlong_52 : decode cX7_meetAlong 52 = .ok (.iconst 1, 1) := by decide +kernel
theorem dX7_meetAlong_53 : decode cX7_meetAlong 53 = .ok (.iand, 1) := by decide +kernel
theorem dX7_meetAlong_54 : decode cX7_meetAlong 54 = .ok (.aaload, 1) := by decide +kernel
theorem dX7_meetAlong_55 : decode cX7_meetAlong 55 = .ok (.iload 6, 2) := by decide +kernel
theorem dX7_meetAlong_57 : decode cX7_meetAlong 57 = .ok (.laload, 1) := by decide +kernel
theorem dX7_meetAlong_58 : decode cX7_meetAlong 58 = .ok (.lstore 7, 2) := by decide +kernel
theorem dX7_meetAlong_60 : decode cX7_meetAlong 60 = .ok (.aload_n 0, 1) := by decide +kernel
theorem dX7_meetAlong_61 : decode cX7_meetAlong 61 = .ok (.aload_n 1, 1) := by decide +kernel
theorem dX7_meetAlong_62 : decode cX7_meetAlong 62 = .ok (.lload 7, 2) := by decide +kernel
theorem dX7_meetAlong_64 : decode cX7_meetAlong 64 = .ok (.iload 4, 2) := by decide +kernel
theorem dX7_meetAlong_66 : decode cX7_meetAlong 66 = .ok (.invokevirtual 136, 3) := by decide +kernel
theorem dX7_meetAlong_69 : decode cX7_meetAlong 69 = .ok (.aload_n 0, 1) := by decide +kernel
theorem dX7_meetAlong_70 : decode cX7_meetAlong 70 = .ok (.aload_n 1, 1) := by decide +kernel
theorem dX7_meetAlong_71 : decode cX7_meetAlong 71 = .ok (.iload 5, 2) := by decide +kernel
theorem dX7_meetAlong_73 : decode cX7_meetAlong 73 = .ok (.iconst 1, 1) := by decide +kernel
theorem dX7_meetAlong_74 : decode cX7_meetAlong 74 = .ok (.iadd, 1) := by decide +kernel
theorem dX7_meetAlong_75 : decode cX7_meetAlong 75 = .ok (.lload 7, 2) := by decide +kernel
theorem dX7_meetAlong_77 : decode cX7_meetAlong 77 = .ok (.iload 4, 2) := by decide +kernel
theorem dX7_meetAlong_79 : decode cX7_meetAlong 79 = .ok (.iconst 1, 1) := by decide +kernel
theorem dX7_meetAlong_80 : decode cX7_meetAlong 80 = .ok (.aload_n 2, 1) := by decide +kernel
theorem dX7_meetAlong_81 : decode cX7_meetAlong 81 = .ok (.iload 5, 2) := by decide +kernel
theorem dX7_meetAlong_83 : decode cX7_meetAlong 83 = .ok (.iaload, 1) := by decide +kernel
theorem dX7_meetAlong_84 : decode cX7_meetAlong 84 = .ok (.ishl, 1) := by decide +kernel
theorem dX7_meetAlong_85 : decode cX7_meetAlong 85 = .ok (.ior, 1) := by decide +kernel
theorem dX7_meetAlong_86 : decode cX7_meetAlong 86 = .ok (.aload_n 2, 1) := by decide +kernel
theorem dX7_meetAlong_87 : decode cX7_meetAlong 87 = .ok (.iload 5, 2) := by decide +kernel
theorem dX7_meetAlong_89 : decode cX7_meetAlong 89 = .ok (.iaload, 1) := by decide +kernel
theorem dX7_meetAlong_90 : decode cX7_meetAlong 90 = .ok (.invokevirtual 204, 3) := by decide +kernel
theorem dX7_meetAlong_93 : decode cX7_meetAlong 93 = .ok (.ifCond .ne 6, 3) := by decide +kernel
theorem dX7_meetAlong_96 : decode cX7_meetAlong 96 = .ok (.bipush (-2), 2) := by decide +kernel
theorem dX7_meetAlong_98 : decode cX7_meetAlong 98 = .ok (.ireturn, 1) := by decide +kernel
theorem dX7_meetAlong_99 : decode cX7_meetAlong 99 = .ok (.iinc 6 1, 3) := by decide +kernel
theorem dX7_meetAlong_102 : decode cX7_meetAlong 102 = .ok (.goto (-68), 3) := by decide +kernel
theorem dX7_meetAlong_105 : decode cX7_meetAlong 105 = .ok (.iload 4, 2) := by decide +kernel
theorem dX7_meetAlong_107 : decode cX7_meetAlong 107 = .ok (.iconst 1, 1) := by decide +kernel
theorem dX7_meetAlong_108 : decode cX7_meetAlong 108 = .ok (.aload_n 2, 1) := by decide +kernel
theorem dX7_meetAlong_109 : decode cX7_meetAlong 109 = .ok (.iload 5, 2) := by decide +kernel
theorem dX7_meetAlong_111 : decode cX7_meetAlong 111 = .ok (.iaload, 1) := by decide +kernel
theorem dX7_meetAlong_112 : decode cX7_meetAlong 112 = .ok (.ishl, 1) := by decide +kernel
theorem dX7_meetAlong_113 : decode cX7_meetAlong 113 = .ok (.ior, 1) := by decide +kernel
theorem dX7_meetAlong_114 : decode cX7_meetAlong 114 = .ok (.istore 4, 2) := by decide +kernel
theorem dX7_meetAlong_116 : decode cX7_meetAlong 116 = .ok (.iinc 5 1, 3) := by decide +kernel
theorem dX7_meetAlong_119 : decode cX7_meetAlong 119 = .ok (.goto (-104), 3) := by decide +kernel
theorem dX7_meetAlong_122 : decode cX7_meetAlong 122 = .ok (.aload_n 0, 1) := by decide +kernel
theorem dX7_meetAlong_123 : decode cX7_meetAlong 123 = .ok (.getfield 32, 3) := by decide +kernel
theorem dX7_meetAlong_126 : decode cX7_meetAlong 126 = .ok (.iload_n 3, 1) := by decide +kernel
theorem dX7_meetAlong_127 : decode cX7_meetAlong 127 = .ok (.iaload, 1) := by decide +kernel
theorem dX7_meetAlong_128 : decode cX7_meetAlong 128 = .ok (.ireturn, 1) := by decide +kernel
theorem dX7_extend_0 : decode cX7_extend 0 = .ok (.aload_n 0, 1) := by decide +kernel
theorem dX7_extend_1 : decode cX7_extend 1 = .ok (.aload_n 1, 1) := by decide +kernel
theorem dX7_extend_2 : decode cX7_extend 2 = .ok (.iload 6, 2) := by decide +kernel
theorem dX7_extend_4 : decode cX7_extend 4 = .ok (.invokevirtual 208, 3) := by decide +kernel
theorem dX7_extend_7 : decode cX7_extend 7 = .ok (.istore 7, 2) := by decide +kernel
theorem dX7_extend_9 : decode cX7_extend 9 = .ok (.iload 7, 2) := by decide +kernel
theorem dX7_extend_11 : decode cX7_extend 11 = .ok (.iconst (-1), 1) := by decide +kernel
theorem dX7_extend_12 : decode cX7_extend 12 = .ok (.if_icmp .ne 5, 3) := by decide +kernel
theorem dX7_extend_15 : decode cX7_extend 15 = .ok (.iconst 1, 1) := by decide +kernel
theorem dX7_extend_16 : decode cX7_extend 16 = .ok (.ireturn, 1) := by decide +kernel
theorem dX7_extend_17 : decode cX7_extend 17 = .ok (.iload 7, 2) := by decide +kernel
theorem dX7_extend_19 : decode cX7_extend 19 = .ok (.aload_n 1, 1) := by decide +kernel
theorem dX7_extend_20 : decode cX7_extend 20 = .ok (.getfield 62, 3) := by decide +kernel
theorem dX7_extend_23 : decode cX7_extend 23 = .ok (.iload 7, 2) := by decide +kernel
theorem dX7_extend_25 : decode cX7_extend 25 = .ok (.aaload, 1) := by decide +kernel
theorem dX7_extend_26 : decode cX7_extend 26 = .ok (.getfield 182, 3) := by decide +kernel
theorem dX7_extend_29 : decode cX7_extend 29 = .ok (.iload 6, 2) := by decide +kernel
theorem dX7_extend_31 : decode cX7_extend 31 = .ok (.iaload, 1) := by decide +kernel
theorem dX7_extend_32 : decode cX7_extend 32 = .ok (.invokestatic 98, 3) := by decide +kernel
theorem dX7_extend_35 : decode cX7_extend 35 = .ok (.istore 8, 2) := by decide +kernel
theorem dX7_extend_37 : decode cX7_extend 37 = .ok (.aload_n 0, 1) := by decide +kernel
theorem dX7_extend_38 : decode cX7_extend 38 = .ok (.getfield 44, 3) := by decide +kernel
theorem dX7_extend_41 : decode cX7_extend 41 = .ok (.iload 7, 2) := by decide +kernel
theorem dX7_extend_43 : decode cX7_extend 43 = .ok (.laload, 1) := by decide +kernel
theorem dX7_extend_44 : decode cX7_extend 44 = .ok (.lstore 9, 2) := by decide +kernel
theorem dX7_extend_46 : decode cX7_extend 46 = .ok (.iconst 0, 1) := by decide +kernel
theorem dX7_extend_47 : decode cX7_extend 47 = .ok (.istore 11, 2) := by decide +kernel
theorem dX7_extend_49 : decode cX7_extend 49 = .ok (.iload 11, 2) := by decide +kernel
theorem dX7_extend_51 : decode cX7_extend 51 = .ok (.bipush 40, 2) := by decide +kernel
theorem dX7_extend_53 : decode cX7_extend 53 = .ok (.if_icmp .ge 153, 3) := by decide +kernel
theorem dX7_extend_56 : decode cX7_extend 56 = .ok (.lload 9, 2) := by decide +kernel
theorem dX7_extend_58 : decode cX7_extend 58 = .ok (.lconst 0, 1) := by decide +kernel
theorem dX7_extend_59 : decode cX7_extend 59 = .ok (.lcmp, 1) := by decide +kernel
theorem dX7_extend_60 : decode cX7_extend 60 = .ok (.ifCond .eq 146, 3) := by decide +kernel
theorem dX7_extend_63 : decode cX7_extend 63 = .ok (.aload_n 0, 1) := by decide +kernel
theorem dX7_extend_64 : decode cX7_extend 64 = .ok (.getfield 29, 3) := by decide +kernel
theorem dX7_extend_67 : decode cX7_extend 67 = .ok (.iload 8, 2) := by decide +kernel
theorem dX7_extend_69 : decode cX7_extend 69 = .ok (.aaload, 1) := by decide +kernel
theorem dX7_extend_70 : decode cX7_extend 70 = .ok (.lload 9, 2) := by decide +kernel
theorem dX7_extend_72 : decode cX7_extend 72 = .ok (.invokestatic 211, 3) := by decide +kernel
theorem dX7_extend_75 : decode cX7_extend 75 = .ok (.iaload, 1) := by decide +kernel
theorem dX7_extend_76 : decode cX7_extend 76 = .ok (.istore 12, 2) := by decide +kernel
theorem dX7_extend_78 : decode cX7_extend 78 = .ok (.lload 9, 2) := by decide +kernel
theorem dX7_extend_80 : decode cX7_extend 80 = .ok (.lload 9, 2) := by decide +kernel
theorem dX7_extend_82 : decode cX7_extend 82 = .ok (.lconst 1, 1) := by decide +kernel
theorem dX7_extend_83 : decode cX7_extend 83 = .ok (.lsub, 1) := by decide +kernel
theorem dX7_extend_84 : decode cX7_extend 84 = .ok (.land, 1) := by decide +kernel
theorem dX7_extend_85 : decode cX7_extend 85 = .ok (.lstore 9, 2) := by decide +kernel
theorem dX7_extend_87 : decode cX7_extend 87 = .ok (.iload 12, 2) := by decide +kernel
theorem dX7_extend_89 : decode cX7_extend 89 = .ok (.iconst (-1), 1) := by decide +kernel
theorem dX7_extend_90 : decode cX7_extend 90 = .ok (.if_icmp .eq 110, 3) := by decide +kernel
theorem dX7_extend_93 : decode cX7_extend 93 = .ok (.lload 9, 2) := by decide +kernel
theorem dX7_extend_95 : decode cX7_extend 95 = .ok (.aload_n 0, 1) := by decide +kernel
theorem dX7_extend_96 : decode cX7_extend 96 = .ok (.getfield 26, 3) := by decide +kernel
theorem dX7_extend_99 : decode cX7_extend 99 = .ok (.iload 8, 2) := by decide +kernel
theorem dX7_extend_101 : decode cX7_extend 101 = .ok (.aaload, 1) := by decide +kernel
theorem dX7_extend_102 : decode cX7_extend 102 = .ok (.iload 12, 2) := by decide +kernel
theorem dX7_extend_104 : decode cX7_extend 104 = .ok (.laload, 1) := by decide +kernel
theorem dX7_extend_105 : decode cX7_extend 105 = .ok (.ldc2_w 215, 3) := by decide +kernel
theorem dX7_extend_108 : decode cX7_extend 108 = .ok (.lxor, 1) := by decide +kernel
theorem dX7_extend_109 : decode cX7_extend 109 = .ok (.land, 1) := by decide +kernel
theorem dX7_extend_110 : decode cX7_extend 110 = .ok (.lstore 9, 2) := by decide +kernel
theorem dX7_extend_112 : decode cX7_extend 112 = .ok (.aload_n 0, 1) := by decide +kernel
theorem dX7_extend_113 : decode cX7_extend 113 = .ok (.getfield 38, 3) := by decide +kernel
theorem dX7_extend_116 : decode cX7_extend 116 = .ok (.iload 6, 2) := by decide +kernel
theorem dX7_extend_118 : decode cX7_extend 118 = .ok (.iload 12, 2) := by decide +kernel
theorem dX7_extend_120 : decode cX7_extend 120 = .ok (.iastore, 1) := by decide +kernel
theorem dX7_extend_121 : decode cX7_extend 121 = .ok (.aload_n 0, 1) := by decide +kernel
theorem dX7_extend_122 : decode cX7_extend 122 = .ok (.getfield 41, 3) := by decide +kernel
theorem dX7_extend_125 : decode cX7_extend 125 = .ok (.iload 6, 2) := by decide +kernel
theorem dX7_extend_127 : decode cX7_extend 127 = .ok (.aload_n 0, 1) := by decide +kernel
theorem dX7_extend_128 : decode cX7_extend 128 = .ok (.getfield 17, 3) := by decide +kernel
theorem dX7_extend_131 : decode cX7_extend 131 = .ok (.iload 6, 2) := by decide +kernel
theorem dX7_extend_133 : decode cX7_extend 133 = .ok (.aaload, 1) := by decide +kernel
theorem dX7_extend_134 : decode cX7_extend 134 = .ok (.iload 12, 2) := by decide +kernel
theorem dX7_extend_136 : decode cX7_extend 136 = .ok (.iaload, 1) := by decide +kernel
theorem dX7_extend_137 : decode cX7_extend 137 = .ok (.iastore, 1) := by decide +kernel
theorem dX7_extend_138 : decode cX7_extend 138 = .ok (.aload_n 0, 1) := by decide +kernel
theorem dX7_extend_139 : decode cX7_extend 139 = .ok (.aload_n 1, 1) := by decide +kernel
theorem dX7_extend_140 : decode cX7_extend 140 = .ok (.iload 5, 2) := by decide +kernel
theorem dX7_extend_142 : decode cX7_extend 142 = .ok (.iload 6, 2) := by decide +kernel
theorem dX7_extend_144 : decode cX7_extend 144 = .ok (.invokevirtual 217, 3) := by decide +kernel
theorem dX7_extend_147 : decode cX7_extend 147 = .ok (.ifCond .eq 53, 3) := by decide +kernel
theorem dX7_extend_150 : decode cX7_extend 150 = .ok (.aload_n 0, 1) := by decide +kernel
theorem dX7_extend_151 : decode cX7_extend 151 = .ok (.getfield 32, 3) := by decide +kernel
theorem dX7_extend_154 : decode cX7_extend 154 = .ok (.iload_n 2, 1) := by decide +kernel
theorem dX7_extend_155 : decode cX7_extend 155 = .ok (.iaload, 1) := by decide +kernel
theorem dX7_extend_156 : decode cX7_extend 156 = .ok (.sipush 500, 3) := by decide +kernel
theorem dX7_extend_159 : decode cX7_extend 159 = .ok (.if_icmp .lt 5, 3) := by decide +kernel
theorem dX7_extend_162 : decode cX7_extend 162 = .ok (.iconst 0, 1) := by decide +kernel
theorem dX7_extend_163 : decode cX7_extend 163 = .ok (.ireturn, 1) := by decide +kernel
theorem dX7_extend_164 : decode cX7_extend 164 = .ok (.aload_n 0, 1) := by decide +kernel
theorem dX7_extend_165 : decode cX7_extend 165 = .ok (.getfield 35, 3) := by decide +kernel
theorem dX7_extend_168 : decode cX7_extend 168 = .ok (.iload_n 2, 1) := by decide +kernel
theorem dX7_extend_169 : decode cX7_extend 169 = .ok (.iconst 1, 1) := by decide +kernel
theorem dX7_extend_170 : decode cX7_extend 170 = .ok (.iand, 1) := by decide +kernel
theorem dX7_extend_171 : decode cX7_extend 171 = .ok (.aaload, 1) := by decide +kernel
theorem dX7_extend_172 : decode cX7_extend 172 = .ok (.aload_n 0, 1) := by decide +kernel
theorem dX7_extend_173 : decode cX7_extend 173 = .ok (.getfield 32, 3) := by decide +kernel
theorem dX7_extend_176 : decode cX7_extend 176 = .ok (.iload_n 2, 1) := by decide +kernel
theorem dX7_extend_177 : decode cX7_extend 177 = .ok (.iaload, 1) := by decide +kernel
theorem dX7_extend_178 : decode cX7_extend 178 = .ok (.lload_n 3, 1) := by decide +kernel
theorem dX7_extend_179 : decode cX7_extend 179 = .ok (.iload 12, 2) := by decide +kernel
theorem dX7_extend_181 : decode cX7_extend 181 = .ok (.i2l, 1) := by decide +kernel
theorem dX7_extend_182 : decode cX7_extend 182 = .ok (.iload 6, 2) := by decide +kernel
theorem dX7_extend_184 : decode cX7_extend 184 = .ok (.invokestatic 221, 3) := by decide +kernel
theorem dX7_extend_187 : decode cX7_extend 187 = .ok (.lshl, 1) := by decide +kernel
theorem dX7_extend_188 : decode cX7_extend 188 = .ok (.lor, 1) := by decide +kernel
theorem dX7_extend_189 : decode cX7_extend 189 = .ok (.lastore, 1) := by decide +kernel
theorem dX7_extend_190 : decode cX7_extend 190 = .ok (.aload_n 0, 1) := by decide +kernel
theorem dX7_extend_191 : decode cX7_extend 191 = .ok (.getfield 32, 3) := by decide +kernel
theorem dX7_extend_194 : decode cX7_extend 194 = .ok (.iload_n 2, 1) := by decide +kernel
theorem dX7_extend_195 : decode cX7_extend 195 = .ok (.dup2, 1) := by decide +kernel
theorem dX7_extend_196 : decode cX7_extend 196 = .ok (.iaload, 1) := by decide +kernel
theorem dX7_extend_197 : decode cX7_extend 197 = .ok (.iconst 1, 1) := by decide +kernel
theorem dX7_extend_198 : decode cX7_extend 198 = .ok (.iadd, 1) := by decide +kernel
theorem dX7_extend_199 : decode cX7_extend 199 = .ok (.iastore, 1) := by decide +kernel
theorem dX7_extend_200 : decode cX7_extend 200 = .ok (.iinc 11 1, 3) := by decide +kernel
theorem dX7_extend_203 : decode cX7_extend 203 = .ok (.goto (-154), 3) := by decide +kernel
theorem dX7_extend_206 : decode cX7_extend 206 = .ok (.iconst 1, 1) := by decide +kernel
theorem dX7_extend_207 : decode cX7_extend 207 = .ok (.ireturn, 1) := by decide +kernel
theorem dX7_narrowest_0 : decode cX7_narrowest 0 = .ok (.iconst (-1), 1) := by decide +kernel
theorem dX7_narrowest_1 : decode cX7_narrowest 1 = .ok (.istore_n 3, 1) := by decide +kernel
theorem dX7_narrowest_2 : decode cX7_narrowest 2 = .ok (.bipush 41, 2) := by decide +kernel
theorem dX7_narrowest_4 : decode cX7_narrowest 4 = .ok (.istore 4, 2) := by decide +kernel
theorem dX7_narrowest_6 : decode cX7_narrowest 6 = .ok (.iconst 0, 1) := by decide +kernel
theorem dX7_narrowest_7 : decode cX7_narrowest 7 = .ok (.istore 5, 2) := by decide +kernel
theorem dX7_narrowest_9 : decode cX7_narrowest 9 = .ok (.iload 5, 2) := by decide +kernel
theorem dX7_narrowest_11 : decode cX7_narrowest 11 = .ok (.aload_n 1, 1) := by decide +kernel
theorem dX7_narrowest_12 : decode cX7_narrowest 12 = .ok (.getfield 56, 3) := by decide +kernel
theorem dX7_narrowest_15 : decode cX7_narrowest 15 = .ok (.if_icmp .ge 65, 3) := by decide +kernel
theorem dX7_narrowest_18 : decode cX7_narrowest 18 = .ok (.aload_n 1, 1) := by decide +kernel
theorem dX7_narrowest_19 : decode cX7_narrowest 19 = .ok (.getfield 62, 3) := by decide +kernel
theorem dX7_narrowest_22 : decode cX7_narrowest 22 = .ok (.iload 5, 2) := by decide +kernel
theorem dX7_narrowest_24 : decode cX7_narrowest 24 = .ok (.aaload, 1) := by decide +kernel
theorem dX7_narrowest_25 : decode cX7_narrowest 25 = .ok (.astore 6, 2) := by decide +kernel
theorem dX7_narrowest_27 : decode cX7_narrowest 27 = .ok (.aload 6, 2) := by decide +kernel
theorem dX7_narrowest_29 : decode cX7_narrowest 29 = .ok (.getfield 82, 3) := by decide +kernel
theorem dX7_narrowest_32 : decode cX7_narrowest 32 = .ok (.ifCond .ne 42, 3) := by decide +kernel
theorem dX7_narrowest_35 : decode cX7_narrowest 35 = .ok (.aload 6, 2) := by decide +kernel
theorem dX7_narrowest_37 : decode cX7_narrowest 37 = .ok (.iload_n 2, 1) := by decide +kernel
theorem dX7_narrowest_38 : decode cX7_narrowest 38 = .ok (.invokevirtual 178, 3) := by decide +kernel
theorem dX7_narrowest_41 : decode cX7_narrowest 41 = .ok (.ifCond .eq 33, 3) := by decide +kernel
theorem dX7_narrowest_44 : decode cX7_narrowest 44 = .ok (.aload_n 0, 1) := by decide +kernel
theorem dX7_narrowest_45 : decode cX7_narrowest 45 = .ok (.getfield 44, 3) := by decide +kernel
theorem dX7_narrowest_48 : decode cX7_narrowest 48 = .ok (.iload 5, 2) := by decide +kernel
theorem dX7_narrowest_50 : decode cX7_narrowest 50 = .ok (.laload, 1) := by decide +kernel
theorem dX7_narrowest_51 : decode cX7_narrowest 51 = .ok (.invokestatic 224, 3) := by decide +kernel
theorem dX7_narrowest_54 : decode cX7_narrowest 54 = .ok (.iload 4, 2) := by decide +kernel
theorem dX7_narrowest_56 : decode cX7_narrowest 56 = .ok (.if_icmp .ge 18, 3) := by decide +kernel
theorem dX7_narrowest_59 : decode cX7_narrowest 59 = .ok (.iload 5, 2) := by decide +kernel
theorem dX7_narrowest_61 : decode cX7_narrowest 61 = .ok (.istore_n 3, 1) := by decide +kernel
theorem dX7_narrowest_62 : decode cX7_narrowest 62 = .ok (.aload_n 0, 1) := by decide +kernel
theorem dX7_narrowest_63 : decode cX7_narrowest 63 = .ok (.getfield 44, 3) := by decide +kernel
theorem dX7_narrowest_66 : decode cX7_narrowest 66 = .ok (.iload 5, 2) := by decide +kernel
theorem dX7_narrowest_68 : decode cX7_narrowest 68 = .ok (.laload, 1) := by decide +kernel
theorem dX7_narrowest_69 : decode cX7_narrowest 69 = .ok (.invokestatic 224, 3) := by decide +kernel
theorem dX7_narrowest_72 : decode cX7_narrowest 72 = .ok (.istore 4, 2) := by decide +kernel
theorem dX7_narrowest_74 : decode cX7_narrowest 74 = .ok (.iinc 5 1, 3) := by decide +kernel
theorem dX7_narrowest_77 : decode cX7_narrowest 77 = .ok (.goto (-68), 3) := by decide +kernel
theorem dX7_narrowest_80 : decode cX7_narrowest 80 = .ok (.iload_n 3, 1) := by decide +kernel
theorem dX7_narrowest_81 : decode cX7_narrowest 81 = .ok (.ireturn, 1) := by decide +kernel
theorem dX7_meets_0 : decode cX7_meets 0 = .ok (.iconst 0, 1) := by decide +kernel
theorem dX7_meets_1 : decode cX7_meets 1 = .ok (.istore 4, 2) := by decide +kernel
theorem dX7_meets_3 : decode cX7_meets 3 = .ok (.iload 4, 2) := by decide +kernel
theorem dX7_meets_5 : decode cX7_meets 5 = .ok (.aload_n 1, 1) := by decide +kernel
theorem dX7_meets_6 : decode cX7_meets 6 = .ok (.getfield 56, 3) := by decide +kernel
theorem dX7_meets_9 : decode cX7_meets 9 = .ok (.if_icmp .ge 42, 3) := by decide +kernel
theorem dX7_meets_12 : decode cX7_meets 12 = .ok (.aload_n 1, 1) := by decide +kernel
theorem dX7_meets_13 : decode cX7_meets 13 = .ok (.getfield 62, 3) := by decide +kernel
theorem dX7_meets_16 : decode cX7_meets 16 = .ok (.iload 4, 2) := by decide +kernel
theorem dX7_meets_18 : decode cX7_meets 18 = .ok (.aaload, 1) := by decide +kernel
theorem dX7_meets_19 : decode cX7_meets 19 = .ok (.astore 5, 2) := by decide +kernel
theorem dX7_meets_21 : decode cX7_meets 21 = .ok (.aload 5, 2) := by decide +kernel
theorem dX7_meets_23 : decode cX7_meets 23 = .ok (.iload_n 3, 1) := by decide +kernel
theorem dX7_meets_24 : decode cX7_meets 24 = .ok (.invokevirtual 178, 3) := by decide +kernel
theorem dX7_meets_27 : decode cX7_meets 27 = .ok (.ifCond .eq 18, 3) := by decide +kernel
theorem dX7_meets_30 : decode cX7_meets 30 = .ok (.aload_n 0, 1) := by decide +kernel
theorem dX7_meets_31 : decode cX7_meets 31 = .ok (.iload 4, 2) := by decide +kernel
theorem dX7_meets_33 : decode cX7_meets 33 = .ok (.aload 5, 2) := by decide +kernel
theorem dX7_meets_35 : decode cX7_meets 35 = .ok (.iload_n 2, 1) := by decide +kernel
theorem dX7_meets_36 : decode cX7_meets 36 = .ok (.iload_n 3, 1) := by decide +kernel
theorem dX7_meets_37 : decode cX7_meets 37 = .ok (.invokevirtual 228, 3) := by decide +kernel
theorem dX7_meets_40 : decode cX7_meets 40 = .ok (.ifCond .ne 5, 3) := by decide +kernel
theorem dX7_meets_43 : decode cX7_meets 43 = .ok (.iconst 0, 1) := by decide +kernel
theorem dX7_meets_44 : decode cX7_meets 44 = .ok (.ireturn, 1) := by decide +kernel
theorem dX7_meets_45 : decode cX7_meets 45 = .ok (.iinc 4 1, 3) := by decide +kernel
theorem dX7_meets_48 : decode cX7_meets 48 = .ok (.goto (-45), 3) := by decide +kernel
theorem dX7_meets_51 : decode cX7_meets 51 = .ok (.iconst 1, 1) := by decide +kernel
theorem dX7_meets_52 : decode cX7_meets 52 = .ok (.ireturn, 1) := by decide +kernel
theorem dX7_holds_0 : decode cX7_holds 0 = .ok (.aload_n 2, 1) := by decide +kernel
theorem dX7_holds_1 : decode cX7_holds 1 = .ok (.getfield 79, 3) := by decide +kernel
theorem dX7_holds_4 : decode cX7_holds 4 = .ok (.iload_n 3, 1) := by decide +kernel
theorem dX7_holds_5 : decode cX7_holds 5 = .ok (.iconst (-1), 1) := by decide +kernel
theorem dX7_holds_6 : decode cX7_holds 6 = .ok (.ixor, 1) := by decide +kernel
theorem dX7_holds_7 : decode cX7_holds 7 = .ok (.iand, 1) := by decide +kernel
theorem dX7_holds_8 : decode cX7_holds 8 = .ok (.ifCond .ne 7, 3) := by decide +kernel
theorem dX7_holds_11 : decode cX7_holds 11 = .ok (.iconst 1, 1) := by decide +kernel
theorem dX7_holds_12 : decode cX7_holds 12 = .ok (.goto 4, 3) := by decide +kernel
theorem dX7_holds_15 : decode cX7_holds 15 = .ok (.iconst 0, 1) := by decide +kernel
theorem dX7_holds_16 : decode cX7_holds 16 = .ok (.istore 5, 2) := by decide +kernel
theorem dX7_holds_18 : decode cX7_holds 18 = .ok (.aload_n 2, 1) := by decide +kernel
theorem dX7_holds_19 : decode cX7_holds 19 = .ok (.getfield 82, 3) := by decide +kernel
theorem dX7_holds_22 : decode cX7_holds 22 = .ok (.tableswitch 141 0 2 #[26, 68, 115], 26) := by decide +kernel
theorem dX7_holds_48 : decode cX7_holds 48 = .ok (.aload_n 0, 1) := by decide +kernel
theorem dX7_holds_49 : decode cX7_holds 49 = .ok (.getfield 44, 3) := by decide +kernel
theorem dX7_holds_52 : decode cX7_holds 52 = .ok (.iload_n 1, 1) := by decide +kernel
theorem dX7_holds_53 : decode cX7_holds 53 = .ok (.laload, 1) := by decide +kernel
theorem dX7_holds_54 : decode cX7_holds 54 = .ok (.aload_n 0, 1) := by decide +kernel
theorem dX7_holds_55 : decode cX7_holds 55 = .ok (.getfield 26, 3) := by decide +kernel
theorem dX7_holds_58 : decode cX7_holds 58 = .ok (.iload_n 1, 1) := by decide +kernel
theorem dX7_holds_59 : decode cX7_holds 59 = .ok (.aload_n 2, 1) := by decide +kernel
theorem dX7_holds_60 : decode cX7_holds 60 = .ok (.getfield 182, 3) := by decide +kernel
theorem dX7_holds_63 : decode cX7_holds 63 = .ok (.iload 4, 2) := by decide +kernel
theorem dX7_holds_65 : decode cX7_holds 65 = .ok (.iaload, 1) := by decide +kernel
theorem dX7_holds_66 : decode cX7_holds 66 = .ok (.invokestatic 98, 3) := by decide +kernel
theorem dX7_holds_69 : decode cX7_holds 69 = .ok (.aaload, 1) := by decide +kernel
theorem dX7_holds_70 : decode cX7_holds 70 = .ok (.aload_n 0, 1) := by decide +kernel
theorem dX7_holds_71 : decode cX7_holds 71 = .ok (.getfield 38, 3) := by decide +kernel
theorem dX7_holds_74 : decode cX7_holds 74 = .ok (.iload 4, 2) := by decide +kernel
theorem dX7_holds_76 : decode cX7_holds 76 = .ok (.iaload, 1) := by decide +kernel
theorem dX7_holds_77 : decode cX7_holds 77 = .ok (.laload, 1) := by decide +kernel
theorem dX7_holds_78 : decode cX7_holds 78 = .ok (.land, 1) := by decide +kernel
theorem dX7_holds_79 : decode cX7_holds 79 = .ok (.lconst 0, 1) := by decide +kernel
theorem dX7_holds_80 : decode cX7_holds 80 = .ok (.lcmp, 1) := by decide +kernel
theorem dX7_holds_81 : decode cX7_holds 81 = .ok (.ifCond .eq 7, 3) := by decide +kernel
theorem dX7_holds_84 : decode cX7_holds 84 = .ok (.iconst 1, 1) := by decide +kernel
theorem dX7_holds_85 : decode cX7_holds 85 = .ok (.goto 4, 3) := by decide +kernel
theorem dX7_holds_88 : decode cX7_holds 88 = .ok (.iconst 0, 1) := by decide +kernel
theorem dX7_holds_89 : decode cX7_holds 89 = .ok (.ireturn, 1) := by decide +kernel
theorem dX7_holds_90 : decode cX7_holds 90 = .ok (.iload 5, 2) := by decide +kernel
theorem dX7_holds_92 : decode cX7_holds 92 = .ok (.ifCond .eq 39, 3) := by decide +kernel
theorem dX7_holds_95 : decode cX7_holds 95 = .ok (.aload_n 0, 1) := by decide +kernel
theorem dX7_holds_96 : decode cX7_holds 96 = .ok (.getfield 44, 3) := by decide +kernel
theorem dX7_holds_99 : decode cX7_holds 99 = .ok (.iload_n 1, 1) := by decide +kernel
theorem dX7_holds_100 : decode cX7_holds 100 = .ok (.laload, 1) := by decide +kernel
theorem dX7_holds_101 : decode cX7_holds 101 = .ok (.aload_n 0, 1) := by decide +kernel
theorem dX7_holds_102 : decode cX7_holds 102 = .ok (.getfield 26, 3) := by decide +kernel
theorem dX7_holds_105 : decode cX7_holds 105 = .ok (.iload_n 1, 1) := by decide +kernel
theorem dX7_holds_106 : decode cX7_holds 106 = .ok (.aload_n 2, 1) := by decide +kernel
theorem dX7_holds_107 : decode cX7_holds 107 = .ok (.getfield 182, 3) := by decide +kernel
theorem dX7_holds_110 : decode cX7_holds 110 = .ok (.iload 4, 2) := by decide +kernel
theorem dX7_holds_112 : decode cX7_holds 112 = .ok (.iaload, 1) := by decide +kernel
theorem dX7_holds_113 : decode cX7_holds 113 = .ok (.invokestatic 98, 3) := by decide +kernel
theorem dX7_holds_116 : decode cX7_holds 116 = .ok (.aaload, 1) := by decide +kernel
theorem dX7_holds_117 : decode cX7_holds 117 = .ok (.aload_n 0, 1) := by decide +kernel
theorem dX7_holds_118 : decode cX7_holds 118 = .ok (.getfield 38, 3) := by decide +kernel
theorem dX7_holds_121 : decode cX7_holds 121 = .ok (.iload 4, 2) := by decide +kernel
theorem dX7_holds_123 : decode cX7_holds 123 = .ok (.iaload, 1) := by decide +kernel
theorem dX7_holds_124 : decode cX7_holds 124 = .ok (.laload, 1) := by decide +kernel
theorem dX7_holds_125 : decode cX7_holds 125 = .ok (.land, 1) := by decide +kernel
theorem dX7_holds_126 : decode cX7_holds 126 = .ok (.lconst 0, 1) := by decide +kernel
theorem dX7_holds_127 : decode cX7_holds 127 = .ok (.lcmp, 1) := by decide +kernel
theorem dX7_holds_128 : decode cX7_holds 128 = .ok (.ifCond .ne 7, 3) := by decide +kernel
theorem dX7_holds_131 : decode cX7_holds 131 = .ok (.iconst 1, 1) := by decide +kernel
theorem dX7_holds_132 : decode cX7_holds 132 = .ok (.goto 4, 3) := by decide +kernel
theorem dX7_holds_135 : decode cX7_holds 135 = .ok (.iconst 0, 1) := by decide +kernel
theorem dX7_holds_136 : decode cX7_holds 136 = .ok (.ireturn, 1) := by decide +kernel
theorem dX7_holds_137 : decode cX7_holds 137 = .ok (.iload 5, 2) := by decide +kernel
theorem dX7_holds_139 : decode cX7_holds 139 = .ok (.ifCond .eq 18, 3) := by decide +kernel
theorem dX7_holds_142 : decode cX7_holds 142 = .ok (.aload_n 0, 1) := by decide +kernel
theorem dX7_holds_143 : decode cX7_holds 143 = .ok (.aload_n 2, 1) := by decide +kernel
theorem dX7_holds_144 : decode cX7_holds 144 = .ok (.iconst 0, 1) := by decide +kernel
theorem dX7_holds_145 : decode cX7_holds 145 = .ok (.invokevirtual 232, 3) := by decide +kernel
theorem dX7_holds_148 : decode cX7_holds 148 = .ok (.aload_n 0, 1) := by decide +kernel
theorem dX7_holds_149 : decode cX7_holds 149 = .ok (.aload_n 2, 1) := by decide +kernel
theorem dX7_holds_150 : decode cX7_holds 150 = .ok (.iconst 1, 1) := by decide +kernel
theorem dX7_holds_151 : decode cX7_holds 151 = .ok (.invokevirtual 232, 3) := by decide +kernel
theorem dX7_holds_154 : decode cX7_holds 154 = .ok (.if_icmp .ne 7, 3) := by decide +kernel
theorem dX7_holds_157 : decode cX7_holds 157 = .ok (.iconst 1, 1) := by decide +kernel
theorem dX7_holds_158 : decode cX7_holds 158 = .ok (.goto 4, 3) := by decide +kernel
theorem dX7_holds_161 : decode cX7_holds 161 = .ok (.iconst 0, 1) := by decide +kernel
theorem dX7_holds_162 : decode cX7_holds 162 = .ok (.ireturn, 1) := by decide +kernel
theorem dX7_holds_163 : decode cX7_holds 163 = .ok (.iload 5, 2) := by decide +kernel
theorem dX7_holds_165 : decode cX7_holds 165 = .ok (.ifCond .eq 21, 3) := by decide +kernel
theorem dX7_holds_168 : decode cX7_holds 168 = .ok (.aload_n 0, 1) := by decide +kernel
theorem dX7_holds_169 : decode cX7_holds 169 = .ok (.aload_n 2, 1) := by decide +kernel
theorem dX7_holds_170 : decode cX7_holds 170 = .ok (.iconst 0, 1) := by decide +kernel
theorem dX7_holds_171 : decode cX7_holds 171 = .ok (.invokevirtual 232, 3) := by decide +kernel
theorem dX7_holds_174 : decode cX7_holds 174 = .ok (.aload_n 0, 1) := by decide +kernel
theorem dX7_holds_175 : decode cX7_holds 175 = .ok (.aload_n 2, 1) := by decide +kernel
theorem dX7_holds_176 : decode cX7_holds 176 = .ok (.iconst 1, 1) := by decide +kernel
theorem dX7_holds_177 : decode cX7_holds 177 = .ok (.invokevirtual 232, 3) := by decide +kernel
theorem dX7_holds_180 : decode cX7_holds 180 = .ok (.invokestatic 200, 3) := by decide +kernel
theorem dX7_holds_183 : decode cX7_holds 183 = .ok (.ifCond .eq 7, 3) := by decide +kernel
theorem dX7_holds_186 : decode cX7_holds 186 = .ok (.iconst 1, 1) := by decide +kernel
theorem dX7_holds_187 : decode cX7_holds 187 = .ok (.goto 4, 3) := by decide +kernel
theorem dX7_holds_190 : decode cX7_holds 190 = .ok (.iconst 0, 1) := by decide +kernel
theorem dX7_holds_191 : decode cX7_holds 191 = .ok (.ireturn, 1) := by decide +kernel
theorem dX7_side_0 : decode cX7_side 0 = .ok (.aload_n 1, 1) := by decide +kernel
theorem dX7_side_1 : decode cX7_side 1 = .ok (.getfield 95, 3) := by decide +kernel
theorem dX7_side_4 : decode cX7_side 4 = .ok (.iload_n 2, 1) := by decide +kernel
theorem dX7_side_5 : decode cX7_side 5 = .ok (.iaload, 1) := by decide +kernel
theorem dX7_side_6 : decode cX7_side 6 = .ok (.istore_n 3, 1) := by decide +kernel
theorem dX7_side_7 : decode cX7_side 7 = .ok (.iload_n 3, 1) := by decide +kernel
theorem dX7_side_8 : decode cX7_side 8 = .ok (.iconst (-1), 1) := by decide +kernel
theorem dX7_side_9 : decode cX7_side 9 = .ok (.if_icmp .ne 12, 3) := by decide +kernel
theorem dX7_side_12 : decode cX7_side 12 = .ok (.aload_n 1, 1) := by decide +kernel
theorem dX7_side_13 : decode cX7_side 13 = .ok (.getfield 236, 3) := by decide +kernel
theorem dX7_side_16 : decode cX7_side 16 = .ok (.iload_n 2, 1) := by decide +kernel
theorem dX7_side_17 : decode cX7_side 17 = .ok (.iaload, 1) := by decide +kernel
theorem dX7_side_18 : decode cX7_side 18 = .ok (.goto 9, 3) := by decide +kernel
theorem dX7_side_21 : decode cX7_side 21 = .ok (.aload_n 0, 1) := by decide +kernel
theorem dX7_side_22 : decode cX7_side 22 = .ok (.getfield 41, 3) := by decide +kernel
theorem dX7_side_25 : decode cX7_side 25 = .ok (.iload_n 3, 1) := by decide +kernel
theorem dX7_side_26 : decode cX7_side 26 = .ok (.iaload, 1) := by decide +kernel
theorem dX7_side_27 : decode cX7_side 27 = .ok (.ireturn, 1) := by decide +kernel
theorem dX7_agree_0 : decode cX7_agree 0 = .ok (.iconst 0, 1) := by decide +kernel
theorem dX7_agree_1 : decode cX7_agree 1 = .ok (.istore 5, 2) := by decide +kernel
theorem dX7_agree_3 : decode cX7_agree 3 = .ok (.iload 5, 2) := by decide +kernel
theorem dX7_agree_5 : decode cX7_agree 5 = .ok (.aload_n 1, 1) := by decide +kernel
theorem dX7_agree_6 : decode cX7_agree 6 = .ok (.getfield 85, 3) := by decide +kernel
theorem dX7_agree_9 : decode cX7_agree 9 = .ok (.if_icmp .ge 44, 3) := by decide +kernel
theorem dX7_agree_12 : decode cX7_agree 12 = .ok (.aload_n 0, 1) := by decide +kernel
theorem dX7_agree_13 : decode cX7_agree 13 = .ok (.getfield 38, 3) := by decide +kernel
theorem dX7_agree_16 : decode cX7_agree 16 = .ok (.iload 5, 2) := by decide +kernel
theorem dX7_agree_18 : decode cX7_agree 18 = .ok (.lload_n 2, 1) := by decide +kernel
theorem dX7_agree_19 : decode cX7_agree 19 = .ok (.iload 5, 2) := by decide +kernel
theorem dX7_agree_21 : decode cX7_agree 21 = .ok (.invokestatic 239, 3) := by decide +kernel
theorem dX7_agree_24 : decode cX7_agree 24 = .ok (.iastore, 1) := by decide +kernel
theorem dX7_agree_25 : decode cX7_agree 25 = .ok (.aload_n 0, 1) := by decide +kernel
theorem dX7_agree_26 : decode cX7_agree 26 = .ok (.getfield 41, 3) := by decide +kernel
theorem dX7_agree_29 : decode cX7_agree 29 = .ok (.iload 5, 2) := by decide +kernel
theorem dX7_agree_31 : decode cX7_agree 31 = .ok (.aload_n 0, 1) := by decide +kernel
theorem dX7_agree_32 : decode cX7_agree 32 = .ok (.getfield 17, 3) := by decide +kernel
theorem dX7_agree_35 : decode cX7_agree 35 = .ok (.iload 5, 2) := by decide +kernel
theorem dX7_agree_37 : decode cX7_agree 37 = .ok (.aaload, 1) := by decide +kernel
theorem dX7_agree_38 : decode cX7_agree 38 = .ok (.aload_n 0, 1) := by decide +kernel
theorem dX7_agree_39 : decode cX7_agree 39 = .ok (.getfield 38, 3) := by decide +kernel
theorem dX7_agree_42 : decode cX7_agree 42 = .ok (.iload 5, 2) := by decide +kernel
theorem dX7_agree_44 : decode cX7_agree 44 = .ok (.iaload, 1) := by decide +kernel
theorem dX7_agree_45 : decode cX7_agree 45 = .ok (.iaload, 1) := by decide +kernel
theorem dX7_agree_46 : decode cX7_agree 46 = .ok (.iastore, 1) := by decide +kernel
theorem dX7_agree_47 : decode cX7_agree 47 = .ok (.iinc 5 1, 3) := by decide +kernel
theorem dX7_agree_50 : decode cX7_agree 50 = .ok (.goto (-47), 3) := by decide +kernel
theorem dX7_agree_53 : decode cX7_agree 53 = .ok (.iconst 0, 1) := by decide +kernel
theorem dX7_agree_54 : decode cX7_agree 54 = .ok (.istore 5, 2) := by decide +kernel
theorem dX7_agree_56 : decode cX7_agree 56 = .ok (.iload 5, 2) := by decide +kernel
theorem dX7_agree_58 : decode cX7_agree 58 = .ok (.aload_n 1, 1) := by decide +kernel
theorem dX7_agree_59 : decode cX7_agree 59 = .ok (.getfield 56, 3) := by decide +kernel
theorem dX7_agree_62 : decode cX7_agree 62 = .ok (.if_icmp .ge 114, 3) := by decide +kernel
theorem dX7_agree_65 : decode cX7_agree 65 = .ok (.aload_n 1, 1) := by decide +kernel
theorem dX7_agree_66 : decode cX7_agree 66 = .ok (.getfield 62, 3) := by decide +kernel
theorem dX7_agree_69 : decode cX7_agree 69 = .ok (.iload 5, 2) := by decide +kernel
theorem dX7_agree_71 : decode cX7_agree 71 = .ok (.aaload, 1) := by decide +kernel
theorem dX7_agree_72 : decode cX7_agree 72 = .ok (.astore 6, 2) := by decide +kernel
theorem dX7_agree_74 : decode cX7_agree 74 = .ok (.aload_n 0, 1) := by decide +kernel
theorem dX7_agree_75 : decode cX7_agree 75 = .ok (.getfield 20, 3) := by decide +kernel
theorem dX7_agree_78 : decode cX7_agree 78 = .ok (.iload 5, 2) := by decide +kernel
theorem dX7_agree_80 : decode cX7_agree 80 = .ok (.laload, 1) := by decide +kernel
theorem dX7_agree_81 : decode cX7_agree 81 = .ok (.lstore 7, 2) := by decide +kernel
theorem dX7_agree_83 : decode cX7_agree 83 = .ok (.iconst 0, 1) := by decide +kernel
theorem dX7_agree_84 : decode cX7_agree 84 = .ok (.istore 9, 2) := by decide +kernel
theorem dX7_agree_86 : decode cX7_agree 86 = .ok (.aload 6, 2) := by decide +kernel
theorem dX7_agree_88 : decode cX7_agree 88 = .ok (.invokevirtual 66, 3) := by decide +kernel
theorem dX7_agree_91 : decode cX7_agree 91 = .ok (.ifCond .eq 70, 3) := by decide +kernel
theorem dX7_agree_94 : decode cX7_agree 94 = .ok (.iload 9, 2) := by decide +kernel
theorem dX7_agree_96 : decode cX7_agree 96 = .ok (.aload 6, 2) := by decide +kernel
theorem dX7_agree_98 : decode cX7_agree 98 = .ok (.getfield 92, 3) := by decide +kernel
theorem dX7_agree_101 : decode cX7_agree 101 = .ok (.if_icmp .ge 60, 3) := by decide +kernel
theorem dX7_agree_104 : decode cX7_agree 104 = .ok (.aload 6, 2) := by decide +kernel
theorem dX7_agree_106 : decode cX7_agree 106 = .ok (.getfield 95, 3) := by decide +kernel
theorem dX7_agree_109 : decode cX7_agree 109 = .ok (.iload 9, 2) := by decide +kernel
theorem dX7_agree_111 : decode cX7_agree 111 = .ok (.iaload, 1) := by decide +kernel
theorem dX7_agree_112 : decode cX7_agree 112 = .ok (.istore 10, 2) := by decide +kernel
theorem dX7_agree_114 : decode cX7_agree 114 = .ok (.iload 10, 2) := by decide +kernel
theorem dX7_agree_116 : decode cX7_agree 116 = .ok (.iconst (-1), 1) := by decide +kernel
theorem dX7_agree_117 : decode cX7_agree 117 = .ok (.if_icmp .eq 38, 3) := by decide +kernel
theorem dX7_agree_120 : decode cX7_agree 120 = .ok (.iload 4, 2) := by decide +kernel
theorem dX7_agree_122 : decode cX7_agree 122 = .ok (.iload 10, 2) := by decide +kernel
theorem dX7_agree_124 : decode cX7_agree 124 = .ok (.ishr, 1) := by decide +kernel
theorem dX7_agree_125 : decode cX7_agree 125 = .ok (.iconst 1, 1) := by decide +kernel
theorem dX7_agree_126 : decode cX7_agree 126 = .ok (.iand, 1) := by decide +kernel
theorem dX7_agree_127 : decode cX7_agree 127 = .ok (.ifCond .eq 28, 3) := by decide +kernel
theorem dX7_agree_130 : decode cX7_agree 130 = .ok (.lload 7, 2) := by decide +kernel
theorem dX7_agree_132 : decode cX7_agree 132 = .ok (.aload_n 0, 1) := by decide +kernel
theorem dX7_agree_133 : decode cX7_agree 133 = .ok (.getfield 26, 3) := by decide +kernel
theorem dX7_agree_136 : decode cX7_agree 136 = .ok (.iload 5, 2) := by decide +kernel
theorem dX7_agree_138 : decode cX7_agree 138 = .ok (.iload 9, 2) := by decide +kernel
theorem dX7_agree_140 : decode cX7_agree 140 = .ok (.invokestatic 98, 3) := by decide +kernel
theorem dX7_agree_143 : decode cX7_agree 143 = .ok (.aaload, 1) := by decide +kernel
theorem dX7_agree_144 : decode cX7_agree 144 = .ok (.aload_n 0, 1) := by decide +kernel
theorem dX7_agree_145 : decode cX7_agree 145 = .ok (.getfield 38, 3) := by decide +kernel
theorem dX7_agree_148 : decode cX7_agree 148 = .ok (.iload 10, 2) := by decide +kernel
theorem dX7_agree_150 : decode cX7_agree 150 = .ok (.iaload, 1) := by decide +kernel
theorem dX7_agree_151 : decode cX7_agree 151 = .ok (.laload, 1) := by decide +kernel
theorem dX7_agree_152 : decode cX7_agree 152 = .ok (.land, 1) := by decide +kernel
theorem dX7_agree_153 : decode cX7_agree 153 = .ok (.lstore 7, 2) := by decide +kernel
theorem dX7_agree_155 : decode cX7_agree 155 = .ok (.iinc 9 1, 3) := by decide +kernel
theorem dX7_agree_158 : decode cX7_agree 158 = .ok (.goto (-72), 3) := by decide +kernel
theorem dX7_agree_161 : decode cX7_agree 161 = .ok (.aload_n 0, 1) := by decide +kernel
theorem dX7_agree_162 : decode cX7_agree 162 = .ok (.getfield 44, 3) := by decide +kernel
theorem dX7_agree_165 : decode cX7_agree 165 = .ok (.iload 5, 2) := by decide +kernel
theorem dX7_agree_167 : decode cX7_agree 167 = .ok (.lload 7, 2) := by decide +kernel
theorem dX7_agree_169 : decode cX7_agree 169 = .ok (.lastore, 1) := by decide +kernel
theorem dX7_agree_170 : decode cX7_agree 170 = .ok (.iinc 5 1, 3) := by decide +kernel
theorem dX7_agree_173 : decode cX7_agree 173 = .ok (.goto (-117), 3) := by decide +kernel
theorem dX7_agree_176 : decode cX7_agree 176 = .ok (.return_, 1) := by decide +kernel
theorem dX7_witnessesNow_0 : decode cX7_witnessesNow 0 = .ok (.iconst 0, 1) := by decide +kernel
theorem dX7_witnessesNow_1 : decode cX7_witnessesNow 1 = .ok (.istore_n 2, 1) := by decide +kernel
theorem dX7_witnessesNow_2 : decode cX7_witnessesNow 2 = .ok (.iconst 0, 1) := by decide +kernel
theorem dX7_witnessesNow_3 : decode cX7_witnessesNow 3 = .ok (.istore_n 3, 1) := by decide +kernel
theorem dX7_witnessesNow_4 : decode cX7_witnessesNow 4 = .ok (.iconst 0, 1) := by decide +kernel
theorem dX7_witnessesNow_5 : decode cX7_witnessesNow 5 = .ok (.istore 4, 2) := by decide +kernel
theorem dX7_witnessesNow_7 : decode cX7_witnessesNow 7 = .ok (.iload 4, 2) := by decide +kernel
theorem dX7_witnessesNow_9 : decode cX7_witnessesNow 9 = .ok (.aload_n 1, 1) := by decide +kernel
theorem dX7_witnessesNow_10 : decode cX7_witnessesNow 10 = .ok (.getfield 56, 3) := by decide +kernel
theorem dX7_witnessesNow_13 : decode cX7_witnessesNow 13 = .ok (.if_icmp .ge 40, 3) := by decide +kernel
theorem dX7_witnessesNow_16 : decode cX7_witnessesNow 16 = .ok (.aload_n 1, 1) := by decide +kernel
theorem dX7_witnessesNow_17 : decode cX7_witnessesNow 17 = .ok (.getfield 62, 3) := by decide +kernel
theorem dX7_witnessesNow_20 : decode cX7_witnessesNow 20 = .ok (.iload 4, 2) := by decide +kernel
theorem dX7_witnessesNow_22 : decode cX7_witnessesNow 22 = .ok (.aaload, 1) := by decide +kernel
theorem dX7_witnessesNow_23 : decode cX7_witnessesNow 23 = .ok (.getfield 82, 3) := by decide +kernel
theorem dX7_witnessesNow_26 : decode cX7_witnessesNow 26 = .ok (.ifCond .ne 21, 3) := by decide +kernel
theorem dX7_witnessesNow_29 : decode cX7_witnessesNow 29 = .ok (.iload_n 2, 1) := by decide +kernel
theorem dX7_witnessesNow_30 : decode cX7_witnessesNow 30 = .ok (.aload_n 0, 1) := by decide +kernel
theorem dX7_witnessesNow_31 : decode cX7_witnessesNow 31 = .ok (.getfield 44, 3) := by decide +kernel
theorem dX7_witnessesNow_34 : decode cX7_witnessesNow 34 = .ok (.iload 4, 2) := by decide +kernel
theorem dX7_witnessesNow_36 : decode cX7_witnessesNow 36 = .ok (.laload, 1) := by decide +kernel
theorem dX7_witnessesNow_37 : decode cX7_witnessesNow 37 = .ok (.invokestatic 211, 3) := by decide +kernel
theorem dX7_witnessesNow_40 : decode cX7_witnessesNow 40 = .ok (.iload_n 3, 1) := by decide +kernel
theorem dX7_witnessesNow_41 : decode cX7_witnessesNow 41 = .ok (.ishl, 1) := by decide +kernel
theorem dX7_witnessesNow_42 : decode cX7_witnessesNow 42 = .ok (.ior, 1) := by decide +kernel
theorem dX7_witnessesNow_43 : decode cX7_witnessesNow 43 = .ok (.istore_n 2, 1) := by decide +kernel
theorem dX7_witnessesNow_44 : decode cX7_witnessesNow 44 = .ok (.iinc 3 6, 3) := by decide +kernel
theorem dX7_witnessesNow_47 : decode cX7_witnessesNow 47 = .ok (.iinc 4 1, 3) := by decide +kernel
theorem dX7_witnessesNow_50 : decode cX7_witnessesNow 50 = .ok (.goto (-43), 3) := by decide +kernel
theorem dX7_witnessesNow_53 : decode cX7_witnessesNow 53 = .ok (.iload_n 2, 1) := by decide +kernel
theorem dX7_witnessesNow_54 : decode cX7_witnessesNow 54 = .ok (.ireturn, 1) := by decide +kernel
theorem dX7_sort_0 : decode cX7_sort 0 = .ok (.sipush 250, 3) := by decide +kernel
theorem dX7_sort_3 : decode cX7_sort 3 = .ok (.istore_n 2, 1) := by decide +kernel
theorem dX7_sort_4 : decode cX7_sort 4 = .ok (.iload_n 2, 1) := by decide +kernel
theorem dX7_sort_5 : decode cX7_sort 5 = .ok (.ifCond .le 74, 3) := by decide +kernel
theorem dX7_sort_8 : decode cX7_sort 8 = .ok (.iload_n 2, 1) := by decide +kernel
theorem dX7_sort_9 : decode cX7_sort 9 = .ok (.istore_n 3, 1) := by decide +kernel
theorem dX7_sort_10 : decode cX7_sort 10 = .ok (.iload_n 3, 1) := by decide +kernel
theorem dX7_sort_11 : decode cX7_sort 11 = .ok (.iload_n 1, 1) := by decide +kernel
theorem dX7_sort_12 : decode cX7_sort 12 = .ok (.if_icmp .ge 60, 3) := by decide +kernel
theorem dX7_sort_15 : decode cX7_sort 15 = .ok (.aload_n 0, 1) := by decide +kernel
theorem dX7_sort_16 : decode cX7_sort 16 = .ok (.iload_n 3, 1) := by decide +kernel
theorem dX7_sort_17 : decode cX7_sort 17 = .ok (.laload, 1) := by decide +kernel
theorem dX7_sort_18 : decode cX7_sort 18 = .ok (.lstore 4, 2) := by decide +kernel
theorem dX7_sort_20 : decode cX7_sort 20 = .ok (.iload_n 3, 1) := by decide +kernel
theorem dX7_sort_21 : decode cX7_sort 21 = .ok (.istore 6, 2) := by decide +kernel
theorem dX7_sort_23 : decode cX7_sort 23 = .ok (.iload 6, 2) := by decide +kernel
theorem dX7_sort_25 : decode cX7_sort 25 = .ok (.iload_n 2, 1) := by decide +kernel
theorem dX7_sort_26 : decode cX7_sort 26 = .ok (.if_icmp .lt 34, 3) := by decide +kernel
theorem dX7_sort_29 : decode cX7_sort 29 = .ok (.aload_n 0, 1) := by decide +kernel
theorem dX7_sort_30 : decode cX7_sort 30 = .ok (.iload 6, 2) := by decide +kernel
theorem dX7_sort_32 : decode cX7_sort 32 = .ok (.iload_n 2, 1) := by decide +kernel
theorem dX7_sort_33 : decode cX7_sort 33 = .ok (.isub, 1) := by decide +kernel
theorem dX7_sort_34 : decode cX7_sort 34 = .ok (.laload, 1) := by decide +kernel
theorem dX7_sort_35 : decode cX7_sort 35 = .ok (.lload 4, 2) := by decide +kernel
theorem dX7_sort_37 : decode cX7_sort 37 = .ok (.lcmp, 1) := by decide +kernel
theorem dX7_sort_38 : decode cX7_sort 38 = .ok (.ifCond .le 22, 3) := by decide +kernel
theorem dX7_sort_41 : decode cX7_sort 41 = .ok (.aload_n 0, 1) := by decide +kernel
theorem dX7_sort_42 : decode cX7_sort 42 = .ok (.iload 6, 2) := by decide +kernel
theorem dX7_sort_44 : decode cX7_sort 44 = .ok (.aload_n 0, 1) := by decide +kernel
theorem dX7_sort_45 : decode cX7_sort 45 = .ok (.iload 6, 2) := by decide +kernel
theorem dX7_sort_47 : decode cX7_sort 47 = .ok (.iload_n 2, 1) := by decide +kernel
theorem dX7_sort_48 : decode cX7_sort 48 = .ok (.isub, 1) := by decide +kernel
theorem dX7_sort_49 : decode cX7_sort 49 = .ok (.laload, 1) := by decide +kernel
theorem dX7_sort_50 : decode cX7_sort 50 = .ok (.lastore, 1) := by decide +kernel
theorem dX7_sort_51 : decode cX7_sort 51 = .ok (.iload 6, 2) := by decide +kernel
theorem dX7_sort_53 : decode cX7_sort 53 = .ok (.iload_n 2, 1) := by decide +kernel
theorem dX7_sort_54 : decode cX7_sort 54 = .ok (.isub, 1) := by decide +kernel
theorem dX7_sort_55 : decode cX7_sort 55 = .ok (.istore 6, 2) := by decide +kernel
theorem dX7_sort_57 : decode cX7_sort 57 = .ok (.goto (-34), 3) := by decide +kernel
theorem dX7_sort_60 : decode cX7_sort 60 = .ok (.aload_n 0, 1) := by decide +kernel
theorem dX7_sort_61 : decode cX7_sort 61 = .ok (.iload 6, 2) := by decide +kernel
theorem dX7_sort_63 : decode cX7_sort 63 = .ok (.lload 4, 2) := by decide +kernel
theorem dX7_sort_65 : decode cX7_sort 65 = .ok (.lastore, 1) := by decide +kernel
theorem dX7_sort_66 : decode cX7_sort 66 = .ok (.iinc 3 1, 3) := by decide +kernel
theorem dX7_sort_69 : decode cX7_sort 69 = .ok (.goto (-59), 3) := by decide +kernel
theorem dX7_sort_72 : decode cX7_sort 72 = .ok (.iload_n 2, 1) := by decide +kernel
theorem dX7_sort_73 : decode cX7_sort 73 = .ok (.iconst 2, 1) := by decide +kernel
theorem dX7_sort_74 : decode cX7_sort 74 = .ok (.idiv, 1) := by decide +kernel
theorem dX7_sort_75 : decode cX7_sort 75 = .ok (.istore_n 2, 1) := by decide +kernel
theorem dX7_sort_76 : decode cX7_sort 76 = .ok (.goto (-72), 3) := by decide +kernel
theorem dX7_sort_79 : decode cX7_sort 79 = .ok (.return_, 1) := by decide +kernel
theorem dX7_pair_0 : decode cX7_pair 0 = .ok (.iload_n 0, 1) := by decide +kernel
theorem dX7_pair_1 : decode cX7_pair 1 = .ok (.iconst 3, 1) := by decide +kernel
theorem dX7_pair_2 : decode cX7_pair 2 = .ok (.imul, 1) := by decide +kernel
theorem dX7_pair_3 : decode cX7_pair 3 = .ok (.iload_n 1, 1) := by decide +kernel
theorem dX7_pair_4 : decode cX7_pair 4 = .ok (.iadd, 1) := by decide +kernel
theorem dX7_pair_5 : decode cX7_pair 5 = .ok (.ireturn, 1) := by decide +kernel
theorem dX8_init_0 : decode cX8_init 0 = .ok (.aload_n 0, 1) := by decide +kernel
theorem dX8_init_1 : decode cX8_init 1 = .ok (.invokespecial 3, 3) := by decide +kernel
theorem dX8_init_4 : decode cX8_init 4 = .ok (.aload_n 0, 1) := by decide +kernel
theorem dX8_init_5 : decode cX8_init 5 = .ok (.new 9, 3) := by decide +kernel
theorem dX8_init_8 : decode cX8_init 8 = .ok (.dup, 1) := by decide +kernel
theorem dX8_init_9 : decode cX8_init 9 = .ok (.invokespecial 11, 3) := by decide +kernel
theorem dX8_init_12 : decode cX8_init 12 = .ok (.putfield 12, 3) := by decide +kernel
theorem dX8_init_15 : decode cX8_init 15 = .ok (.aload_n 0, 1) := by decide +kernel
theorem dX8_init_16 : decode cX8_init 16 = .ok (.bipush 10, 2) := by decide +kernel
theorem dX8_init_18 : decode cX8_init 18 = .ok (.newarray .int, 2) := by decide +kernel
theorem dX8_init_20 : decode cX8_init 20 = .ok (.putfield 18, 3) := by decide +kernel
theorem dX8_init_23 : decode cX8_init 23 = .ok (.aload_n 0, 1) := by decide +kernel
theorem dX8_init_24 : decode cX8_init 24 = .ok (.bipush 6, 2) := by decide +kernel
theorem dX8_init_26 : decode cX8_init 26 = .ok (.newarray .int, 2) := by decide +kernel
theorem dX8_init_28 : decode cX8_init 28 = .ok (.putfield 22, 3) := by decide +kernel
theorem dX8_init_31 : decode cX8_init 31 = .ok (.aload_n 0, 1) := by decide +kernel
theorem dX8_init_32 : decode cX8_init 32 = .ok (.sipush 500, 3) := by decide +kernel
theorem dX8_init_35 : decode cX8_init 35 = .ok (.newarray .int, 2) := by decide +kernel
theorem dX8_init_37 : decode cX8_init 37 = .ok (.putfield 25, 3) := by decide +kernel
theorem dX8_init_40 : decode cX8_init 40 = .ok (.return_, 1) := by decide +kernel
theorem dX8_takeParts_0 : decode cX8_takeParts 0 = .ok (.iconst 0, 1) := by decide +kernel
theorem dX8_takeParts_1 : decode cX8_takeParts 1 = .ok (.istore_n 2, 1) := by decide +kernel
theorem dX8_takeParts_2 : decode cX8_takeParts 2 = .ok (.aload_n 0, 1) := by decide +kernel
theorem dX8_takeParts_3 : decode cX8_takeParts 3 = .ok (.aload_n 1, 1) := by decide +kernel
theorem dX8_takeParts_4 : decode cX8_takeParts 4 = .ok (.getfield 28, 3) := by decide +kernel
theorem dX8_takeParts_7 : decode cX8_takeParts 7 = .ok (.putfield 34, 3) := by decide +kernel
theorem dX8_takeParts_10 : decode cX8_takeParts 10 = .ok (.iconst 0, 1) := by decide +kernel
theorem dX8_takeParts_11 : decode cX8_takeParts 11 = .ok (.istore_n 3, 1) := by decide +kernel
theorem dX8_takeParts_12 : decode cX8_takeParts 12 = .ok (.iload_n 3, 1) := by decide +kernel
theorem dX8_takeParts_13 : decode cX8_takeParts 13 = .ok (.aload_n 0, 1) := by decide +kernel
theorem dX8_takeParts_14 : decode cX8_takeParts 14 = .ok (.getfield 34, 3) := by decide +kernel
theorem dX8_takeParts_17 : decode cX8_takeParts 17 = .ok (.if_icmp .ge 57, 3) := by decide +kernel
theorem dX8_takeParts_20 : decode cX8_takeParts 20 = .ok (.aload_n 1, 1) := by decide +kernel
theorem dX8_takeParts_21 : decode cX8_takeParts 21 = .ok (.getfield 37, 3) := by decide +kernel
theorem dX8_takeParts_24 : decode cX8_takeParts 24 = .ok (.iload_n 3, 1) := by decide +kernel
theorem dX8_takeParts_25 : decode cX8_takeParts 25 = .ok (.aaload, 1) := by decide +kernel
theorem dX8_takeParts_26 : decode cX8_takeParts 26 = .ok (.getfield 40, 3) := by decide +kernel
theorem dX8_takeParts_29 : decode cX8_takeParts 29 = .ok (.ifCond .ne 7, 3) := by decide +kernel
theorem dX8_takeParts_32 : decode cX8_takeParts 32 = .ok (.iconst 1, 1) := by decide +kernel
theorem dX8_takeParts_33 : decode cX8_takeParts 33 = .ok (.goto 4, 3) := by decide +kernel
theorem dX8_takeParts_36 : decode cX8_takeParts 36 = .ok (.iconst 0, 1) := by decide +kernel
theorem dX8_takeParts_37 : decode cX8_takeParts 37 = .ok (.istore 4, 2) := by decide +kernel
theorem dX8_takeParts_39 : decode cX8_takeParts 39 = .ok (.aload_n 0, 1) := by decide +kernel
theorem dX8_takeParts_40 : decode cX8_takeParts 40 = .ok (.getfield 18, 3) := by decide +kernel
theorem dX8_takeParts_43 : decode cX8_takeParts 43 = .ok (.iload_n 3, 1) := by decide +kernel
theorem dX8_takeParts_44 : decode cX8_takeParts 44 = .ok (.iload 4, 2) := by decide +kernel
theorem dX8_takeParts_46 : decode cX8_takeParts 46 = .ok (.ifCond .eq 7, 3) := by decide +kernel
theorem dX8_takeParts_49 : decode cX8_takeParts 49 = .ok (.iload_n 2, 1) := by decide +kernel
theorem dX8_takeParts_50 : decode cX8_takeParts 50 = .ok (.goto 4, 3) := by decide +kernel
theorem dX8_takeParts_53 : decode cX8_takeParts 53 = .ok (.iconst (-1), 1) := by decide +kernel
theorem dX8_takeParts_54 : decode cX8_takeParts 54 = .ok (.iastore, 1) := by decide +kernel
theorem dX8_takeParts_55 : decode cX8_takeParts 55 = .ok (.iload_n 2, 1) := by decide +kernel
theorem dX8_takeParts_56 : decode cX8_takeParts 56 = .ok (.iload 4, 2) := by decide +kernel
theorem dX8_takeParts_58 : decode cX8_takeParts 58 = .ok (.ifCond .eq 7, 3) := by decide +kernel
theorem dX8_takeParts_61 : decode cX8_takeParts 61 = .ok (.iconst 1, 1) := by decide +kernel
theorem dX8_takeParts_62 : decode cX8_takeParts 62 = .ok (.goto 4, 3) := by decide +kernel
theorem dX8_takeParts_65 : decode cX8_takeParts 65 = .ok (.iconst 0, 1) := by decide +kernel
theorem dX8_takeParts_66 : decode cX8_takeParts 66 = .ok (.iadd, 1) := by decide +kernel
theorem dX8_takeParts_67 : decode cX8_takeParts 67 = .ok (.istore_n 2, 1) := by decide +kernel
theorem dX8_takeParts_68 : decode cX8_takeParts 68 = .ok (.iinc 3 1, 3) := by decide +kernel
theorem dX8_takeParts_71 : decode cX8_takeParts 71 = .ok (.goto (-59), 3) := by decide +kernel
theorem dX8_takeParts_74 : decode cX8_takeParts 74 = .ok (.return_, 1) := by decide +kernel
theorem dX8_setMet_0 : decode cX8_setMet 0 = .ok (.aload_n 0, 1) := by decide +kernel
theorem dX8_setMet_1 : decode cX8_setMet 1 = .ok (.getfield 12, 3) := by decide +kernel
theorem dX8_setMet_4 : decode cX8_setMet 4 = .ok (.iload_n 1, 1) := by decide +kernel
theorem dX8_setMet_5 : decode cX8_setMet 5 = .ok (.invokevirtual 45, 3) := by decide +kernel
theorem dX8_setMet_8 : decode cX8_setMet 8 = .ok (.ifCond .eq 10, 3) := by decide +kernel
theorem dX8_setMet_11 : decode cX8_setMet 11 = .ok (.aload_n 0, 1) := by decide +kernel
theorem dX8_setMet_12 : decode cX8_setMet 12 = .ok (.getfield 22, 3) := by decide +kernel
theorem dX8_setMet_15 : decode cX8_setMet 15 = .ok (.iload_n 1, 1) := by decide +kernel
theorem dX8_setMet_16 : decode cX8_setMet 16 = .ok (.iload_n 2, 1) := by decide +kernel
theorem dX8_setMet_17 : decode cX8_setMet 17 = .ok (.iastore, 1) := by decide +kernel
theorem dX8_setMet_18 : decode cX8_setMet 18 = .ok (.return_, 1) := by decide +kernel
theorem dX8_metAt_0 : decode cX8_metAt 0 = .ok (.aload_n 0, 1) := by decide +kernel
theorem dX8_metAt_1 : decode cX8_metAt 1 = .ok (.getfield 12, 3) := by decide +kernel
theorem dX8_metAt_4 : decode cX8_metAt 4 = .ok (.iload_n 1, 1) := by decide +kernel
theorem dX8_metAt_5 : decode cX8_metAt 5 = .ok (.invokevirtual 45, 3) := by decide +kernel
theorem dX8_metAt_8 : decode cX8_metAt 8 = .ok (.ifCond .eq 12, 3) := by decide +kernel
theorem dX8_metAt_11 : decode cX8_metAt 11 = .ok (.aload_n 0, 1) := by decide +kernel
theorem dX8_metAt_12 : decode cX8_metAt 12 = .ok (.getfield 22, 3) := by decide +kernel
theorem dX8_metAt_15 : decode cX8_metAt 15 = .ok (.iload_n 1, 1) := by decide +kernel
theorem dX8_metAt_16 : decode cX8_metAt 16 = .ok (.iaload, 1) := by decide +kernel
theorem dX8_metAt_17 : decode cX8_metAt 17 = .ok (.goto 4, 3) := by decide +kernel
theorem dX8_metAt_20 : decode cX8_metAt 20 = .ok (.iconst (-1), 1) := by decide +kernel
theorem dX8_metAt_21 : decode cX8_metAt 21 = .ok (.ireturn, 1) := by decide +kernel
theorem dX8_setWitnesses_0 : decode cX8_setWitnesses 0 = .ok (.iload_n 1, 1) := by decide +kernel
theorem dX8_setWitnesses_1 : decode cX8_setWitnesses 1 = .ok (.ifCond .lt 21, 3) := by decide +kernel
theorem dX8_setWitnesses_4 : decode cX8_setWitnesses 4 = .ok (.iload_n 1, 1) := by decide +kernel
theorem dX8_setWitnesses_5 : decode cX8_setWitnesses 5 = .ok (.aload_n 0, 1) := by decide +kernel
theorem dX8_setWitnesses_6 : decode cX8_setWitnesses 6 = .ok (.getfield 12, 3) := by decide +kernel
theorem dX8_setWitnesses_9 : decode cX8_setWitnesses 9 = .ok (.getfield 49, 3) := by decide +kernel
theorem dX8_setWitnesses_12 : decode cX8_setWitnesses 12 = .ok (.if_icmp .ge 10, 3) := by decide +kernel
theorem dX8_setWitnesses_15 : decode cX8_setWitnesses 15 = .ok (.aload_n 0, 1) := by decide +kernel
theorem dX8_setWitnesses_16 : decode cX8_setWitnesses 16 = .ok (.getfield 25, 3) := by decide +kernel
theorem dX8_setWitnesses_19 : decode cX8_setWitnesses 19 = .ok (.iload_n 1, 1) := by decide +kernel
theorem dX8_setWitnesses_20 : decode cX8_setWitnesses 20 = .ok (.iload_n 2, 1) := by decide +kernel
theorem dX8_setWitnesses_21 : decode cX8_setWitnesses 21 = .ok (.iastore, 1) := by decide +kernel
theorem dX8_setWitnesses_22 : decode cX8_setWitnesses 22 = .ok (.return_, 1) := by decide +kernel
theorem dX8_witnessOf_0 : decode cX8_witnessOf 0 = .ok (.iload_n 1, 1) := by decide +kernel
theorem dX8_witnessOf_1 : decode cX8_witnessOf 1 = .ok (.ifCond .lt 36, 3) := by decide +kernel
theorem dX8_witnessOf_4 : decode cX8_witnessOf 4 = .ok (.iload_n 1, 1) := by decide +kernel
theorem dX8_witnessOf_5 : decode cX8_witnessOf 5 = .ok (.aload_n 0, 1) := by decide +kernel
theorem dX8_witnessOf_6 : decode cX8_witnessOf 6 = .ok (.getfield 12, 3) := by decide +kernel
theorem dX8_witnessOf_9 : decode cX8_witnessOf 9 = .ok (.getfield 49, 3) := by decide +kernel
theorem dX8_witnessOf_12 : decode cX8_witnessOf 12 = .ok (.if_icmp .ge 25, 3) := by decide +kernel
theorem dX8_witnessOf_15 : decode cX8_witnessOf 15 = .ok (.iload_n 2, 1) := by decide +kernel
theorem dX8_witnessOf_16 : decode cX8_witnessOf 16 = .ok (.ifCond .lt 21, 3) := by decide +kernel
theorem dX8_witnessOf_19 : decode cX8_witnessOf 19 = .ok (.iload_n 2, 1) := by decide +kernel
theorem dX8_witnessOf_20 : decode cX8_witnessOf 20 = .ok (.aload_n 0, 1) := by decide +kernel
theorem dX8_witnessOf_21 : decode cX8_witnessOf 21 = .ok (.getfield 34, 3) := by decide +kernel
theorem dX8_witnessOf_24 : decode cX8_witnessOf 24 = .ok (.if_icmp .ge 13, 3) := by decide +kernel
theorem dX8_witnessOf_27 : decode cX8_witnessOf 27 = .ok (.aload_n 0, 1) := by decide +kernel
theorem dX8_witnessOf_28 : decode cX8_witnessOf 28 = .ok (.getfield 18, 3) := by decide +kernel
theorem dX8_witnessOf_31 : decode cX8_witnessOf 31 = .ok (.iload_n 2, 1) := by decide +kernel
theorem dX8_witnessOf_32 : decode cX8_witnessOf 32 = .ok (.iaload, 1) := by decide +kernel
theorem dX8_witnessOf_33 : decode cX8_witnessOf 33 = .ok (.iconst (-1), 1) := by decide +kernel
theorem dX8_witnessOf_34 : decode cX8_witnessOf 34 = .ok (.if_icmp .ne 5, 3) := by decide +kernel
theorem dX8_witnessOf_37 : decode cX8_witnessOf 37 = .ok (.iconst (-1), 1) := by decide +kernel
theorem dX8_witnessOf_38 : decode cX8_witnessOf 38 = .ok (.ireturn, 1) := by decide +kernel
theorem dX8_witnessOf_39 : decode cX8_witnessOf 39 = .ok (.aload_n 0, 1) := by decide +kernel
theorem dX8_witnessOf_40 : decode cX8_witnessOf 40 = .ok (.getfield 25, 3) := by decide +kernel
theorem dX8_witnessOf_43 : decode cX8_witnessOf 43 = .ok (.iload_n 1, 1) := by decide +kernel
theorem dX8_witnessOf_44 : decode cX8_witnessOf 44 = .ok (.iaload, 1) := by decide +kernel
theorem dX8_witnessOf_45 : decode cX8_witnessOf 45 = .ok (.aload_n 0, 1) := by decide +kernel
theorem dX8_witnessOf_46 : decode cX8_witnessOf 46 = .ok (.getfield 18, 3) := by decide +kernel
theorem dX8_witnessOf_49 : decode cX8_witnessOf 49 = .ok (.iload_n 2, 1) := by decide +kernel
theorem dX8_witnessOf_50 : decode cX8_witnessOf 50 = .ok (.iaload, 1) := by decide +kernel
theorem dX8_witnessOf_51 : decode cX8_witnessOf 51 = .ok (.bipush 6, 2) := by decide +kernel
theorem dX8_witnessOf_53 : decode cX8_witnessOf 53 = .ok (.imul, 1) := by decide +kernel
theorem dX8_witnessOf_54 : decode cX8_witnessOf 54 = .ok (.ishr, 1) := by decide +kernel
theorem dX8_witnessOf_55 : decode cX8_witnessOf 55 = .ok (.bipush 63, 2) := by decide +kernel
theorem dX8_witnessOf_57 : decode cX8_witnessOf 57 = .ok (.iand, 1) := by decide +kernel
theorem dX8_witnessOf_58 : decode cX8_witnessOf 58 = .ok (.ireturn, 1) := by decide +kernel
theorem dX9_init_0 : decode cX9_init 0 = .ok (.aload_n 0, 1) := by decide +kernel
theorem dX9_init_1 : decode cX9_init 1 = .ok (.invokespecial 3, 3) := by decide +kernel
theorem dX9_init_4 : decode cX9_init 4 = .ok (.aload_n 0, 1) := by decide +kernel
theorem dX9_init_5 : decode cX9_init 5 = .ok (.bipush 8, 2) := by decide +kernel
theorem dX9_init_7 : decode cX9_init 7 = .ok (.anewarray 9, 3) := by decide +kernel
theorem dX9_init_10 : decode cX9_init 10 = .ok (.putfield 11, 3) := by decide +kernel
theorem dX9_init_13 : decode cX9_init 13 = .ok (.aload_n 0, 1) := by decide +kernel
theorem dX9_init_14 : decode cX9_init 14 = .ok (.new 15, 3) := by decide +kernel
theorem dX9_init_17 : decode cX9_init 17 = .ok (.dup, 1) := by decide +kernel
theorem dX9_init_18 : decode cX9_init 18 = .ok (.invokespecial 17, 3) := by decide +kernel
theorem dX9_init_21 : decode cX9_init 21 = .ok (.putfield 18, 3) := by decide +kernel
theorem dX9_init_24 : decode cX9_init 24 = .ok (.aload_n 0, 1) := by decide +kernel
theorem dX9_init_25 : decode cX9_init 25 = .ok (.new 22, 3) := by decide +kernel
theorem dX9_init_28 : decode cX9_init 28 = .ok (.dup, 1) := by decide +kernel
theorem dX9_init_29 : decode cX9_init 29 = .ok (.invokespecial 24, 3) := by decide +kernel
theorem dX9_init_32 : decode cX9_init 32 = .ok (.putfield 25, 3) := by decide +kernel
theorem dX9_init_35 : decode cX9_init 35 = .ok (.aload_n 0, 1) := by decide +kernel
theorem dX9_init_36 : decode cX9_init 36 = .ok (.new 29, 3) := by decide +kernel
theorem dX9_init_39 : decode cX9_init 39 = .ok (.dup, 1) := by decide +kernel
theorem dX9_init_40 : decode cX9_init 40 = .ok (.invokespecial 31, 3) := by decide +kernel
theorem dX9_init_43 : decode cX9_init 43 = .ok (.putfield 32, 3) := by decide +kernel
theorem dX9_init_46 : decode cX9_init 46 = .ok (.aload_n 0, 1) := by decide +kernel
theorem dX9_init_47 : decode cX9_init 47 = .ok (.new 36, 3) := by decide +kernel
theorem dX9_init_50 : decode cX9_init 50 = .ok (.dup, 1) := by decide +kernel
theorem dX9_init_51 : decode cX9_init 51 = .ok (.invokespecial 38, 3) := by decide +kernel
theorem dX9_init_54 : decode cX9_init 54 = .ok (.putfield 39, 3) := by decide +kernel
theorem dX9_init_57 : decode cX9_init 57 = .ok (.aload_n 0, 1) := by decide +kernel
theorem dX9_init_58 : decode cX9_init 58 = .ok (.new 43, 3) := by decide +kernel
theorem dX9_init_61 : decode cX9_init 61 = .ok (.dup, 1) := by decide +kernel
theorem dX9_init_62 : decode cX9_init 62 = .ok (.invokespecial 45, 3) := by decide +kernel
theorem dX9_init_65 : decode cX9_init 65 = .ok (.putfield 46, 3) := by decide +kernel
theorem dX9_init_68 : decode cX9_init 68 = .ok (.aload_n 0, 1) := by decide +kernel
theorem dX9_init_69 : decode cX9_init 69 = .ok (.new 50, 3) := by decide +kernel
theorem dX9_init_72 : decode cX9_init 72 = .ok (.dup, 1) := by decide +kernel
theorem dX9_init_73 : decode cX9_init 73 = .ok (.invokespecial 52, 3) := by decide +kernel
theorem dX9_init_76 : decode cX9_init 76 = .ok (.putfield 53, 3) := by decide +kernel
theorem dX9_init_79 : decode cX9_init 79 = .ok (.aload_n 0, 1) := by decide +kernel
theorem dX9_init_80 : decode cX9_init 80 = .ok (.new 57, 3) := by decide +kernel
theorem dX9_init_83 : decode cX9_init 83 = .ok (.dup, 1) := by decide +kernel
theorem dX9_init_84 : decode cX9_init 84 = .ok (.invokespecial 59, 3) := by decide +kernel
theorem dX9_init_87 : decode cX9_init 87 = .ok (.putfield 60, 3) := by decide +kernel
theorem dX9_init_90 : decode cX9_init 90 = .ok (.iconst 0, 1) := by decide +kernel
theorem dX9_init_91 : decode cX9_init 91 = .ok (.istore_n 1, 1) := by decide +kernel
theorem dX9_init_92 : decode cX9_init 92 = .ok (.iload_n 1, 1) := by decide +kernel
theorem dX9_init_93 : decode cX9_init 93 = .ok (.bipush 8, 2) := by decide +kernel
theorem dX9_init_95 : decode cX9_init 95 = .ok (.if_icmp .ge 22, 3) := by decide +kernel
theorem dX9_init_98 : decode cX9_init 98 = .ok (.aload_n 0, 1) := by decide +kernel
theorem dX9_init_99 : decode cX9_init 99 = .ok (.getfield 11, 3) := by decide +kernel
theorem dX9_init_102 : decode cX9_init 102 = .ok (.iload_n 1, 1) := by decide +kernel
theorem dX9_init_103 : decode cX9_init 103 = .ok (.new 9, 3) := by decide +kernel
theorem dX9_init_106 : decode cX9_init 106 = .ok (.dup, 1) := by decide +kernel
theorem dX9_init_107 : decode cX9_init 107 = .ok (.invokespecial 64, 3) := by decide +kernel
theorem dX9_init_110 : decode cX9_init 110 = .ok (.aastore, 1) := by decide +kernel
theorem dX9_init_111 : decode cX9_init 111 = .ok (.iinc 1 1, 3) := by decide +kernel
theorem dX9_init_114 : decode cX9_init 114 = .ok (.goto (-22), 3) := by decide +kernel
theorem dX9_init_117 : decode cX9_init 117 = .ok (.return_, 1) := by decide +kernel
theorem dX9_table_0 : decode cX9_table 0 = .ok (.iload_n 1, 1) := by decide +kernel
theorem dX9_table_1 : decode cX9_table 1 = .ok (.ifCond .lt 30, 3) := by decide +kernel
theorem dX9_table_4 : decode cX9_table 4 = .ok (.iload_n 1, 1) := by decide +kernel
theorem dX9_table_5 : decode cX9_table 5 = .ok (.bipush 8, 2) := by decide +kernel
theorem dX9_table_7 : decode cX9_table 7 = .ok (.if_icmp .ge 24, 3) := by decide +kernel
theorem dX9_table_10 : decode cX9_table 10 = .ok (.iload_n 2, 1) := by decide +kernel
theorem dX9_table_11 : decode cX9_table 11 = .ok (.iconst 1, 1) := by decide +kernel
theorem dX9_table_12 : decode cX9_table 12 = .ok (.if_icmp .lt 19, 3) := by decide +kernel
theorem dX9_table_15 : decode cX9_table 15 = .ok (.iload_n 2, 1) := by decide +kernel
theorem dX9_table_16 : decode cX9_table 16 = .ok (.iconst 3, 1) := by decide +kernel
theorem dX9_table_17 : decode cX9_table 17 = .ok (.if_icmp .gt 14, 3) := by decide +kernel
theorem dX9_table_20 : decode cX9_table 20 = .ok (.aload_n 0, 1) := by decide +kernel
theorem dX9_table_21 : decode cX9_table 21 = .ok (.getfield 18, 3) := by decide +kernel
theorem dX9_table_24 : decode cX9_table 24 = .ok (.iload_n 1, 1) := by decide +kernel
theorem dX9_table_25 : decode cX9_table 25 = .ok (.invokevirtual 65, 3) := by decide +kernel
theorem dX9_table_28 : decode cX9_table 28 = .ok (.ifCond .eq 5, 3) := by decide +kernel
theorem dX9_table_31 : decode cX9_table 31 = .ok (.iconst 0, 1) := by decide +kernel
theorem dX9_table_32 : decode cX9_table 32 = .ok (.ireturn, 1) := by decide +kernel
theorem dX9_table_33 : decode cX9_table 33 = .ok (.aload_n 0, 1) := by decide +kernel
theorem dX9_table_34 : decode cX9_table 34 = .ok (.getfield 11, 3) := by decide +kernel
theorem dX9_table_37 : decode cX9_table 37 = .ok (.iload_n 1, 1) := by decide +kernel
theorem dX9_table_38 : decode cX9_table 38 = .ok (.aaload, 1) := by decide +kernel
theorem dX9_table_39 : decode cX9_table 39 = .ok (.iload_n 2, 1) := by decide +kernel
theorem dX9_table_40 : decode cX9_table 40 = .ok (.invokevirtual 69, 3) := by decide +kernel
theorem dX9_table_43 : decode cX9_table 43 = .ok (.iconst 1, 1) := by decide +kernel
theorem dX9_table_44 : decode cX9_table 44 = .ok (.ireturn, 1) := by decide +kernel
theorem dX9_put_0 : decode cX9_put 0 = .ok (.aload_n 0, 1) := by decide +kernel
theorem dX9_put_1 : decode cX9_put 1 = .ok (.iload_n 1, 1) := by decide +kernel
theorem dX9_put_2 : decode cX9_put 2 = .ok (.invokevirtual 73, 3) := by decide +kernel
theorem dX9_put_5 : decode cX9_put 5 = .ok (.astore 5, 2) := by decide +kernel
theorem dX9_put_7 : decode cX9_put 7 = .ok (.aload 5, 2) := by decide +kernel
theorem dX9_put_9 : decode cX9_put 9 = .ok (.ifnonnull 7, 3) := by decide +kernel
theorem dX9_put_12 : decode cX9_put 12 = .ok (.iconst (-1), 1) := by decide +kernel
theorem dX9_put_13 : decode cX9_put 13 = .ok (.goto 12, 3) := by decide +kernel
theorem dX9_put_16 : decode cX9_put 16 = .ok (.aload 5, 2) := by decide +kernel
theorem dX9_put_18 : decode cX9_put 18 = .ok (.iload_n 2, 1) := by decide +kernel
theorem dX9_put_19 : decode cX9_put 19 = .ok (.iload_n 3, 1) := by decide +kernel
theorem dX9_put_20 : decode cX9_put 20 = .ok (.iload 4, 2) := by decide +kernel
theorem dX9_put_22 : decode cX9_put 22 = .ok (.invokevirtual 77, 3) := by decide +kernel
theorem dX9_put_25 : decode cX9_put 25 = .ok (.ireturn, 1) := by decide +kernel
theorem dX9_drop_0 : decode cX9_drop 0 = .ok (.aload_n 0, 1) := by decide +kernel
theorem dX9_drop_1 : decode cX9_drop 1 = .ok (.iload_n 1, 1) := by decide +kernel
theorem dX9_drop_2 : decode cX9_drop 2 = .ok (.invokevirtual 73, 3) := by decide +kernel
theorem dX9_drop_5 : decode cX9_drop 5 = .ok (.astore 5, 2) := by decide +kernel
theorem dX9_drop_7 : decode cX9_drop 7 = .ok (.aload 5, 2) := by decide +kernel
theorem dX9_drop_9 : decode cX9_drop 9 = .ok (.ifnull 19, 3) := by decide +kernel
theorem dX9_drop_12 : decode cX9_drop 12 = .ok (.aload 5, 2) := by decide +kernel
theorem dX9_drop_14 : decode cX9_drop 14 = .ok (.iload_n 2, 1) := by decide +kernel
theorem dX9_drop_15 : decode cX9_drop 15 = .ok (.iload_n 3, 1) := by decide +kernel
theorem dX9_drop_16 : decode cX9_drop 16 = .ok (.iload 4, 2) := by decide +kernel
theorem dX9_drop_18 : decode cX9_drop 18 = .ok (.invokevirtual 81, 3) := by decide +kernel
theorem dX9_drop_21 : decode cX9_drop 21 = .ok (.ifCond .eq 7, 3) := by decide +kernel
theorem dX9_drop_24 : decode cX9_drop 24 = .ok (.iconst 1, 1) := by decide +kernel
theorem dX9_drop_25 : decode cX9_drop 25 = .ok (.goto 4, 3) := by decide +kernel
theorem dX9_drop_28 : decode cX9_drop 28 = .ok (.iconst 0, 1) := by decide +kernel
theorem dX9_drop_29 : decode cX9_drop 29 = .ok (.ireturn, 1) := by decide +kernel
theorem dX9_rows_0 : decode cX9_rows 0 = .ok (.aload_n 0, 1) := by decide +kernel
theorem dX9_rows_1 : decode cX9_rows 1 = .ok (.iload_n 1, 1) := by decide +kernel
theorem dX9_rows_2 : decode cX9_rows 2 = .ok (.invokevirtual 73, 3) := by decide +kernel
theorem dX9_rows_5 : decode cX9_rows 5 = .ok (.astore_n 2, 1) := by decide +kernel
theorem dX9_rows_6 : decode cX9_rows 6 = .ok (.aload_n 2, 1) := by decide +kernel
theorem dX9_rows_7 : decode cX9_rows 7 = .ok (.ifnonnull 7, 3) := by decide +kernel
theorem dX9_rows_10 : decode cX9_rows 10 = .ok (.iconst (-1), 1) := by decide +kernel
theorem dX9_rows_11 : decode cX9_rows 11 = .ok (.goto 7, 3) := by decide +kernel
theorem dX9_rows_14 : decode cX9_rows 14 = .ok (.aload_n 2, 1) := by decide +kernel
theorem dX9_rows_15 : decode cX9_rows 15 = .ok (.getfield 85, 3) := by decide +kernel
theorem dX9_rows_18 : decode cX9_rows 18 = .ok (.ireturn, 1) := by decide +kernel
theorem dX9_row_0 : decode cX9_row 0 = .ok (.aload_n 0, 1) := by decide +kernel
theorem dX9_row_1 : decode cX9_row 1 = .ok (.iload_n 1, 1) := by decide +kernel
theorem dX9_row_2 : decode cX9_row 2 = .ok (.invokevirtual 73, 3) := by decide +kernel
theorem dX9_row_5 : decode cX9_row 5 = .ok (.astore 4, 2) := by decide +kernel
theorem dX9_row_7 : decode cX9_row 7 = .ok (.aload 4, 2) := by decide +kernel
theorem dX9_row_9 : decode cX9_row 9 = .ok (.ifnonnull 7, 3) := by decide +kernel
theorem dX9_row_12 : decode cX9_row 12 = .ok (.iconst 0, 1) := by decide +kernel
theorem dX9_row_13 : decode cX9_row 13 = .ok (.goto 10, 3) := by decide +kernel
theorem dX9_row_16 : decode cX9_row 16 = .ok (.aload 4, 2) := by decide +kernel
theorem dX9_row_18 : decode cX9_row 18 = .ok (.iload_n 2, 1) := by decide +kernel
theorem dX9_row_19 : decode cX9_row 19 = .ok (.iload_n 3, 1) := by decide +kernel
theorem dX9_row_20 : decode cX9_row 20 = .ok (.invokevirtual 89, 3) := by decide +kernel
theorem dX9_row_23 : decode cX9_row 23 = .ok (.ireturn, 1) := by decide +kernel
theorem dX9_ask_0 : decode cX9_ask 0 = .ok (.iload_n 1, 1) := by decide +kernel
theorem dX9_ask_1 : decode cX9_ask 1 = .ok (.iconst 1, 1) := by decide +kernel
theorem dX9_ask_2 : decode cX9_ask 2 = .ok (.if_icmp .lt 9, 3) := by decide +kernel
theorem dX9_ask_5 : decode cX9_ask 5 = .ok (.iload_n 1, 1) := by decide +kernel
theorem dX9_ask_6 : decode cX9_ask 6 = .ok (.bipush 6, 2) := by decide +kernel
theorem dX9_ask_8 : decode cX9_ask 8 = .ok (.if_icmp .le 5, 3) := by decide +kernel
theorem dX9_ask_11 : decode cX9_ask 11 = .ok (.iconst 0, 1) := by decide +kernel
theorem dX9_ask_12 : decode cX9_ask 12 = .ok (.ireturn, 1) := by decide +kernel
theorem dX9_ask_13 : decode cX9_ask 13 = .ok (.aload_n 0, 1) := by decide +kernel
theorem dX9_ask_14 : decode cX9_ask 14 = .ok (.getfield 18, 3) := by decide +kernel
theorem dX9_ask_17 : decode cX9_ask 17 = .ok (.iload_n 1, 1) := by decide +kernel
theorem dX9_ask_18 : decode cX9_ask 18 = .ok (.invokevirtual 93, 3) := by decide +kernel
theorem dX9_ask_21 : decode cX9_ask 21 = .ok (.iconst 1, 1) := by decide +kernel
theorem dX9_ask_22 : decode cX9_ask 22 = .ok (.ireturn, 1) := by decide +kernel
theorem dX9_part_0 : decode cX9_part 0 = .ok (.aload_n 0, 1) := by decide +kernel
theorem dX9_part_1 : decode cX9_part 1 = .ok (.iload_n 2, 1) := by decide +kernel
theorem dX9_part_2 : decode cX9_part 2 = .ok (.invokevirtual 73, 3) := by decide +kernel
theorem dX9_part_5 : decode cX9_part 5 = .ok (.astore_n 3, 1) := by decide +kernel
theorem dX9_part_6 : decode cX9_part 6 = .ok (.iload_n 1, 1) := by decide +kernel
theorem dX9_part_7 : decode cX9_part 7 = .ok (.ifCond .eq 8, 3) := by decide +kernel
theorem dX9_part_10 : decode cX9_part 10 = .ok (.iload_n 1, 1) := by decide +kernel
theorem dX9_part_11 : decode cX9_part 11 = .ok (.iconst 1, 1) := by decide +kernel
theorem dX9_part_12 : decode cX9_part 12 = .ok (.if_icmp .ne 18, 3) := by decide +kernel
theorem dX9_part_15 : decode cX9_part 15 = .ok (.aload_n 3, 1) := by decide +kernel
theorem dX9_part_16 : decode cX9_part 16 = .ok (.ifnull 14, 3) := by decide +kernel
theorem dX9_part_19 : decode cX9_part 19 = .ok (.aload_n 0, 1) := by decide +kernel
theorem dX9_part_20 : decode cX9_part 20 = .ok (.getfield 18, 3) := by decide +kernel
theorem dX9_part_23 : decode cX9_part 23 = .ok (.iload_n 1, 1) := by decide +kernel
theorem dX9_part_24 : decode cX9_part 24 = .ok (.invokevirtual 94, 3) := by decide +kernel
theorem dX9_part_27 : decode cX9_part 27 = .ok (.ifCond .ne 5, 3) := by decide +kernel
theorem dX9_part_30 : decode cX9_part 30 = .ok (.iconst (-1), 1) := by decide +kernel
theorem dX9_part_31 : decode cX9_part 31 = .ok (.ireturn, 1) := by decide +kernel
theorem dX9_part_32 : decode cX9_part 32 = .ok (.aload_n 0, 1) := by decide +kernel
theorem dX9_part_33 : decode cX9_part 33 = .ok (.getfield 18, 3) := by decide +kernel
theorem dX9_part_36 : decode cX9_part 36 = .ok (.iload_n 1, 1) := by decide +kernel
theorem dX9_part_37 : decode cX9_part 37 = .ok (.iload_n 2, 1) := by decide +kernel
theorem dX9_part_38 : decode cX9_part 38 = .ok (.aload_n 3, 1) := by decide +kernel
theorem dX9_part_39 : decode cX9_part 39 = .ok (.getfield 97, 3) := by decide +kernel
theorem dX9_part_42 : decode cX9_part 42 = .ok (.invokevirtual 100, 3) := by decide +kernel
theorem dX9_part_45 : decode cX9_part 45 = .ok (.ireturn, 1) := by decide +kernel
theorem dX9_name_0 : decode cX9_name 0 = .ok (.aload_n 0, 1) := by decide +kernel
theorem dX9_name_1 : decode cX9_name 1 = .ok (.invokevirtual 103, 3) := by decide +kernel
theorem dX9_name_4 : decode cX9_name 4 = .ok (.astore_n 2, 1) := by decide +kernel
theorem dX9_name_5 : decode cX9_name 5 = .ok (.aload_n 2, 1) := by decide +kernel
theorem dX9_name_6 : decode cX9_name 6 = .ok (.ifnull 14, 3) := by decide +kernel
theorem dX9_name_9 : decode cX9_name 9 = .ok (.aload_n 0, 1) := by decide +kernel
theorem dX9_name_10 : decode cX9_name 10 = .ok (.getfield 18, 3) := by decide +kernel
theorem dX9_name_13 : decode cX9_name 13 = .ok (.iload_n 1, 1) := by decide +kernel
theorem dX9_name_14 : decode cX9_name 14 = .ok (.invokevirtual 107, 3) := by decide +kernel
theorem dX9_name_17 : decode cX9_name 17 = .ok (.ifCond .ne 7, 3) := by decide +kernel
theorem dX9_name_20 : decode cX9_name 20 = .ok (.iconst (-1), 1) := by decide +kernel
theorem dX9_name_21 : decode cX9_name 21 = .ok (.goto 8, 3) := by decide +kernel
theorem dX9_name_24 : decode cX9_name 24 = .ok (.aload_n 2, 1) := by decide +kernel
theorem dX9_name_25 : decode cX9_name 25 = .ok (.iload_n 1, 1) := by decide +kernel
theorem dX9_name_26 : decode cX9_name 26 = .ok (.invokevirtual 110, 3) := by decide +kernel
theorem dX9_name_29 : decode cX9_name 29 = .ok (.ireturn, 1) := by decide +kernel
theorem dX9_value_0 : decode cX9_value 0 = .ok (.aload_n 0, 1) := by decide +kernel
theorem dX9_value_1 : decode cX9_value 1 = .ok (.invokevirtual 103, 3) := by decide +kernel
theorem dX9_value_4 : decode cX9_value 4 = .ok (.astore_n 2, 1) := by decide +kernel
theorem dX9_value_5 : decode cX9_value 5 = .ok (.aload_n 2, 1) := by decide +kernel
theorem dX9_value_6 : decode cX9_value 6 = .ok (.ifnonnull 7, 3) := by decide +kernel
theorem dX9_value_9 : decode cX9_value 9 = .ok (.iconst (-1), 1) := by decide +kernel
theorem dX9_value_10 : decode cX9_value 10 = .ok (.goto 8, 3) := by decide +kernel
theorem dX9_value_13 : decode cX9_value 13 = .ok (.aload_n 2, 1) := by decide +kernel
theorem dX9_value_14 : decode cX9_value 14 = .ok (.iload_n 1, 1) := by decide +kernel
theorem dX9_value_15 : decode cX9_value 15 = .ok (.invokevirtual 116, 3) := by decide +kernel
theorem dX9_value_18 : decode cX9_value 18 = .ok (.ireturn, 1) := by decide +kernel
theorem dX9_compare_0 : decode cX9_compare 0 = .ok (.aload_n 0, 1) := by decide +kernel
theorem dX9_compare_1 : decode cX9_compare 1 = .ok (.getfield 18, 3) := by decide +kernel
theorem dX9_compare_4 : decode cX9_compare 4 = .ok (.iload_n 2, 1) := by decide +kernel
theorem dX9_compare_5 : decode cX9_compare 5 = .ok (.invokevirtual 107, 3) := by decide +kernel
theorem dX9_compare_8 : decode cX9_compare 8 = .ok (.ifCond .eq 23, 3) := by decide +kernel
theorem dX9_compare_11 : decode cX9_compare 11 = .ok (.iload_n 3, 1) := by decide +kernel
theorem dX9_compare_12 : decode cX9_compare 12 = .ok (.ifCond .eq 15, 3) := by decide +kernel
theorem dX9_compare_15 : decode cX9_compare 15 = .ok (.aload_n 0, 1) := by decide +kernel
theorem dX9_compare_16 : decode cX9_compare 16 = .ok (.getfield 18, 3) := by decide +kernel
theorem dX9_compare_19 : decode cX9_compare 19 = .ok (.iload 4, 2) := by decide +kernel
theorem dX9_compare_21 : decode cX9_compare 21 = .ok (.invokevirtual 107, 3) := by decide +kernel
theorem dX9_compare_24 : decode cX9_compare 24 = .ok (.ifCond .eq 7, 3) := by decide +kernel
theorem dX9_compare_27 : decode cX9_compare 27 = .ok (.iconst 1, 1) := by decide +kernel
theorem dX9_compare_28 : decode cX9_compare 28 = .ok (.goto 4, 3) := by decide +kernel
theorem dX9_compare_31 : decode cX9_compare 31 = .ok (.iconst 0, 1) := by decide +kernel
theorem dX9_compare_32 : decode cX9_compare 32 = .ok (.istore 5, 2) := by decide +kernel
theorem dX9_compare_34 : decode cX9_compare 34 = .ok (.iload_n 1, 1) := by decide +kernel
theorem dX9_compare_35 : decode cX9_compare 35 = .ok (.iconst 2, 1) := by decide +kernel
theorem dX9_compare_36 : decode cX9_compare 36 = .ok (.if_icmp .eq 8, 3) := by decide +kernel
theorem dX9_compare_39 : decode cX9_compare 39 = .ok (.iload_n 1, 1) := by decide +kernel
theorem dX9_compare_40 : decode cX9_compare 40 = .ok (.iconst 3, 1) := by decide +kernel
theorem dX9_compare_41 : decode cX9_compare 41 = .ok (.if_icmp .ne 19, 3) := by decide +kernel
theorem dX9_compare_44 : decode cX9_compare 44 = .ok (.iload 5, 2) := by decide +kernel
theorem dX9_compare_46 : decode cX9_compare 46 = .ok (.ifCond .eq 14, 3) := by decide +kernel
theorem dX9_compare_49 : decode cX9_compare 49 = .ok (.aload_n 0, 1) := by decide +kernel
theorem dX9_compare_50 : decode cX9_compare 50 = .ok (.getfield 18, 3) := by decide +kernel
theorem dX9_compare_53 : decode cX9_compare 53 = .ok (.iload_n 1, 1) := by decide +kernel
theorem dX9_compare_54 : decode cX9_compare 54 = .ok (.invokevirtual 94, 3) := by decide +kernel
theorem dX9_compare_57 : decode cX9_compare 57 = .ok (.ifCond .ne 5, 3) := by decide +kernel
theorem dX9_compare_60 : decode cX9_compare 60 = .ok (.iconst (-1), 1) := by decide +kernel
theorem dX9_compare_61 : decode cX9_compare 61 = .ok (.ireturn, 1) := by decide +kernel
theorem dX9_compare_62 : decode cX9_compare 62 = .ok (.aload_n 0, 1) := by decide +kernel
theorem dX9_compare_63 : decode cX9_compare 63 = .ok (.getfield 18, 3) := by decide +kernel
theorem dX9_compare_66 : decode cX9_compare 66 = .ok (.iload_n 1, 1) := by decide +kernel
theorem dX9_compare_67 : decode cX9_compare 67 = .ok (.iload_n 2, 1) := by decide +kernel
theorem dX9_compare_68 : decode cX9_compare 68 = .ok (.iload_n 3, 1) := by decide +kernel
theorem dX9_compare_69 : decode cX9_compare 69 = .ok (.iload 4, 2) := by decide +kernel
theorem dX9_compare_71 : decode cX9_compare 71 = .ok (.invokevirtual 119, 3) := by decide +kernel
theorem dX9_compare_74 : decode cX9_compare 74 = .ok (.ireturn, 1) := by decide +kernel
theorem dX9_order_0 : decode cX9_order 0 = .ok (.aload_n 0, 1) := by decide +kernel
theorem dX9_order_1 : decode cX9_order 1 = .ok (.getfield 18, 3) := by decide +kernel
theorem dX9_order_4 : decode cX9_order 4 = .ok (.iload_n 1, 1) := by decide +kernel
theorem dX9_order_5 : decode cX9_order 5 = .ok (.invokevirtual 107, 3) := by decide +kernel
theorem dX9_order_8 : decode cX9_order 8 = .ok (.ifCond .eq 14, 3) := by decide +kernel
theorem dX9_order_11 : decode cX9_order 11 = .ok (.aload_n 0, 1) := by decide +kernel
theorem dX9_order_12 : decode cX9_order 12 = .ok (.getfield 18, 3) := by decide +kernel
theorem dX9_order_15 : decode cX9_order 15 = .ok (.iload_n 2, 1) := by decide +kernel
theorem dX9_order_16 : decode cX9_order 16 = .ok (.invokevirtual 107, 3) := by decide +kernel
theorem dX9_order_19 : decode cX9_order 19 = .ok (.ifCond .ne 5, 3) := by decide +kernel
theorem dX9_order_22 : decode cX9_order 22 = .ok (.iconst 0, 1) := by decide +kernel
theorem dX9_order_23 : decode cX9_order 23 = .ok (.ireturn, 1) := by decide +kernel
theorem dX9_order_24 : decode cX9_order 24 = .ok (.aload_n 0, 1) := by decide +kernel
theorem dX9_order_25 : decode cX9_order 25 = .ok (.getfield 18, 3) := by decide +kernel
theorem dX9_order_28 : decode cX9_order 28 = .ok (.iload_n 1, 1) := by decide +kernel
theorem dX9_order_29 : decode cX9_order 29 = .ok (.iload_n 2, 1) := by decide +kernel
theorem dX9_order_30 : decode cX9_order 30 = .ok (.invokevirtual 123, 3) := by decide +kernel
theorem dX9_order_33 : decode cX9_order 33 = .ok (.iconst 1, 1) := by decide +kernel
theorem dX9_order_34 : decode cX9_order 34 = .ok (.ireturn, 1) := by decide +kernel
theorem dX9_weave_0 : decode cX9_weave 0 = .ok (.aload_n 0, 1) := by decide +kernel
theorem dX9_weave_1 : decode cX9_weave 1 = .ok (.getfield 18, 3) := by decide +kernel
theorem dX9_weave_4 : decode cX9_weave 4 = .ok (.invokevirtual 127, 3) := by decide +kernel
theorem dX9_weave_7 : decode cX9_weave 7 = .ok (.ifCond .ne 5, 3) := by decide +kernel
theorem dX9_weave_10 : decode cX9_weave 10 = .ok (.iconst (-1), 1) := by decide +kernel
theorem dX9_weave_11 : decode cX9_weave 11 = .ok (.ireturn, 1) := by decide +kernel
theorem dX9_weave_12 : decode cX9_weave 12 = .ok (.aload_n 0, 1) := by decide +kernel
theorem dX9_weave_13 : decode cX9_weave 13 = .ok (.getfield 60, 3) := by decide +kernel
theorem dX9_weave_16 : decode cX9_weave 16 = .ok (.aload_n 0, 1) := by decide +kernel
theorem dX9_weave_17 : decode cX9_weave 17 = .ok (.getfield 11, 3) := by decide +kernel
theorem dX9_weave_20 : decode cX9_weave 20 = .ok (.aload_n 0, 1) := by decide +kernel
theorem dX9_weave_21 : decode cX9_weave 21 = .ok (.getfield 18, 3) := by decide +kernel
theorem dX9_weave_24 : decode cX9_weave 24 = .ok (.invokevirtual 131, 3) := by decide +kernel
theorem dX9_weave_27 : decode cX9_weave 27 = .ok (.aload_n 0, 1) := by decide +kernel
theorem dX9_weave_28 : decode cX9_weave 28 = .ok (.getfield 60, 3) := by decide +kernel
theorem dX9_weave_31 : decode cX9_weave 31 = .ok (.aload_n 0, 1) := by decide +kernel
theorem dX9_weave_32 : decode cX9_weave 32 = .ok (.getfield 18, 3) := by decide +kernel
theorem dX9_weave_35 : decode cX9_weave 35 = .ok (.aload_n 0, 1) := by decide +kernel
theorem dX9_weave_36 : decode cX9_weave 36 = .ok (.getfield 25, 3) := by decide +kernel
theorem dX9_weave_39 : decode cX9_weave 39 = .ok (.invokevirtual 135, 3) := by decide +kernel
theorem dX9_weave_42 : decode cX9_weave 42 = .ok (.ifCond .eq 16, 3) := by decide +kernel
theorem dX9_weave_45 : decode cX9_weave 45 = .ok (.aload_n 0, 1) := by decide +kernel
theorem dX9_weave_46 : decode cX9_weave 46 = .ok (.getfield 25, 3) := by decide +kernel
theorem dX9_weave_49 : decode cX9_weave 49 = .ok (.getfield 139, 3) := by decide +kernel
theorem dX9_weave_52 : decode cX9_weave 52 = .ok (.getfield 142, 3) := by decide +kernel
theorem dX9_weave_55 : decode cX9_weave 55 = .ok (.goto 5, 3) := by decide +kernel
theorem dX9_weave_58 : decode cX9_weave 58 = .ok (.bipush (-2), 2) := by decide +kernel
theorem dX9_weave_60 : decode cX9_weave 60 = .ok (.ireturn, 1) := by decide +kernel
theorem dX9_answer_0 : decode cX9_answer 0 = .ok (.aload_n 0, 1) := by decide +kernel
theorem dX9_answer_1 : decode cX9_answer 1 = .ok (.getfield 25, 3) := by decide +kernel
theorem dX9_answer_4 : decode cX9_answer 4 = .ok (.getfield 139, 3) := by decide +kernel
theorem dX9_answer_7 : decode cX9_answer 7 = .ok (.iload_n 1, 1) := by decide +kernel
theorem dX9_answer_8 : decode cX9_answer 8 = .ok (.iload_n 2, 1) := by decide +kernel
theorem dX9_answer_9 : decode cX9_answer 9 = .ok (.invokevirtual 143, 3) := by decide +kernel
theorem dX9_answer_12 : decode cX9_answer 12 = .ok (.ireturn, 1) := by decide +kernel
theorem dX9_meetings_0 : decode cX9_meetings 0 = .ok (.aload_n 0, 1) := by decide +kernel
theorem dX9_meetings_1 : decode cX9_meetings 1 = .ok (.getfield 25, 3) := by decide +kernel
theorem dX9_meetings_4 : decode cX9_meetings 4 = .ok (.iload_n 1, 1) := by decide +kernel
theorem dX9_meetings_5 : decode cX9_meetings 5 = .ok (.invokevirtual 146, 3) := by decide +kernel
theorem dX9_meetings_8 : decode cX9_meetings 8 = .ok (.ireturn, 1) := by decide +kernel
theorem dX9_witness_0 : decode cX9_witness 0 = .ok (.aload_n 0, 1) := by decide +kernel
theorem dX9_witness_1 : decode cX9_witness 1 = .ok (.getfield 25, 3) := by decide +kernel
theorem dX9_witness_4 : decode cX9_witness 4 = .ok (.iload_n 1, 1) := by decide +kernel
theorem dX9_witness_5 : decode cX9_witness 5 = .ok (.iload_n 2, 1) := by decide +kernel
theorem dX9_witness_6 : decode cX9_witness 6 = .ok (.invokevirtual 149, 3) := by decide +kernel
theorem dX9_witness_9 : decode cX9_witness 9 = .ok (.ireturn, 1) := by decide +kernel
theorem dX9_sum_0 : decode cX9_sum 0 = .ok (.aload_n 0, 1) := by decide +kernel
theorem dX9_sum_1 : decode cX9_sum 1 = .ok (.getfield 25, 3) := by decide +kernel
theorem dX9_sum_4 : decode cX9_sum 4 = .ok (.getfield 139, 3) := by decide +kernel
theorem dX9_sum_7 : decode cX9_sum 7 = .ok (.astore_n 3, 1) := by decide +kernel
theorem dX9_sum_8 : decode cX9_sum 8 = .ok (.aload_n 3, 1) := by decide +kernel
theorem dX9_sum_9 : decode cX9_sum 9 = .ok (.iload_n 1, 1) := by decide +kernel
theorem dX9_sum_10 : decode cX9_sum 10 = .ok (.invokevirtual 152, 3) := by decide +kernel
theorem dX9_sum_13 : decode cX9_sum 13 = .ok (.ifCond .ne 5, 3) := by decide +kernel
theorem dX9_sum_16 : decode cX9_sum 16 = .ok (.lconst 0, 1) := by decide +kernel
theorem dX9_sum_17 : decode cX9_sum 17 = .ok (.lreturn, 1) := by decide +kernel
theorem dX9_sum_18 : decode cX9_sum 18 = .ok (.iload_n 2, 1) := by decide +kernel
theorem dX9_sum_19 : decode cX9_sum 19 = .ok (.tableswitch 63 0 4 #[33, 39, 45, 51, 57], 33) := by decide +kernel
theorem dX9_sum_52 : decode cX9_sum 52 = .ok (.aload_n 3, 1) := by decide +kernel
theorem dX9_sum_53 : decode cX9_sum 53 = .ok (.iload_n 1, 1) := by decide +kernel
theorem dX9_sum_54 : decode cX9_sum 54 = .ok (.invokevirtual 155, 3) := by decide +kernel
theorem dX9_sum_57 : decode cX9_sum 57 = .ok (.lreturn, 1) := by decide +kernel
theorem dX9_sum_58 : decode cX9_sum 58 = .ok (.aload_n 3, 1) := by decide +kernel
theorem dX9_sum_59 : decode cX9_sum 59 = .ok (.iload_n 1, 1) := by decide +kernel
theorem dX9_sum_60 : decode cX9_sum 60 = .ok (.invokevirtual 159, 3) := by decide +kernel
theorem dX9_sum_63 : decode cX9_sum 63 = .ok (.lreturn, 1) := by decide +kernel
theorem dX9_sum_64 : decode cX9_sum 64 = .ok (.aload_n 3, 1) := by decide +kernel
theorem dX9_sum_65 : decode cX9_sum 65 = .ok (.iload_n 1, 1) := by decide +kernel
theorem dX9_sum_66 : decode cX9_sum 66 = .ok (.invokevirtual 162, 3) := by decide +kernel
theorem dX9_sum_69 : decode cX9_sum 69 = .ok (.lreturn, 1) := by decide +kernel
theorem dX9_sum_70 : decode cX9_sum 70 = .ok (.aload_n 3, 1) := by decide +kernel
theorem dX9_sum_71 : decode cX9_sum 71 = .ok (.iload_n 1, 1) := by decide +kernel
theorem dX9_sum_72 : decode cX9_sum 72 = .ok (.invokevirtual 165, 3) := by decide +kernel
theorem dX9_sum_75 : decode cX9_sum 75 = .ok (.lreturn, 1) := by decide +kernel
theorem dX9_sum_76 : decode cX9_sum 76 = .ok (.aload_n 3, 1) := by decide +kernel
theorem dX9_sum_77 : decode cX9_sum 77 = .ok (.iload_n 1, 1) := by decide +kernel
theorem dX9_sum_78 : decode cX9_sum 78 = .ok (.invokevirtual 168, 3) := by decide +kernel
theorem dX9_sum_81 : decode cX9_sum 81 = .ok (.lreturn, 1) := by decide +kernel
theorem dX9_sum_82 : decode cX9_sum 82 = .ok (.lconst 0, 1) := by decide +kernel
theorem dX9_sum_83 : decode cX9_sum 83 = .ok (.lreturn, 1) := by decide +kernel
theorem dX9_group_0 : decode cX9_group 0 = .ok (.aload_n 0, 1) := by decide +kernel
theorem dX9_group_1 : decode cX9_group 1 = .ok (.getfield 25, 3) := by decide +kernel
theorem dX9_group_4 : decode cX9_group 4 = .ok (.getfield 139, 3) := by decide +kernel
theorem dX9_group_7 : decode cX9_group 7 = .ok (.astore 5, 2) := by decide +kernel
theorem dX9_group_9 : decode cX9_group 9 = .ok (.aload 5, 2) := by decide +kernel
theorem dX9_group_11 : decode cX9_group 11 = .ok (.iload_n 1, 1) := by decide +kernel
theorem dX9_group_12 : decode cX9_group 12 = .ok (.invokevirtual 152, 3) := by decide +kernel
theorem dX9_group_15 : decode cX9_group 15 = .ok (.ifCond .ne 5, 3) := by decide +kernel
theorem dX9_group_18 : decode cX9_group 18 = .ok (.lconst 0, 1) := by decide +kernel
theorem dX9_group_19 : decode cX9_group 19 = .ok (.lreturn, 1) := by decide +kernel
theorem dX9_group_20 : decode cX9_group 20 = .ok (.iload_n 3, 1) := by decide +kernel
theorem dX9_group_21 : decode cX9_group 21 = .ok (.ifCond .ne 11, 3) := by decide +kernel
theorem dX9_group_24 : decode cX9_group 24 = .ok (.aload 5, 2) := by decide +kernel
theorem dX9_group_26 : decode cX9_group 26 = .ok (.iload_n 1, 1) := by decide +kernel
theorem dX9_group_27 : decode cX9_group 27 = .ok (.iload_n 2, 1) := by decide +kernel
theorem dX9_group_28 : decode cX9_group 28 = .ok (.invokevirtual 171, 3) := by decide +kernel
theorem dX9_group_31 : decode cX9_group 31 = .ok (.lreturn, 1) := by decide +kernel
theorem dX9_group_32 : decode cX9_group 32 = .ok (.iload_n 3, 1) := by decide +kernel
theorem dX9_group_33 : decode cX9_group 33 = .ok (.iconst 1, 1) := by decide +kernel
theorem dX9_group_34 : decode cX9_group 34 = .ok (.if_icmp .ne 25, 3) := by decide +kernel
theorem dX9_group_37 : decode cX9_group 37 = .ok (.aload 5, 2) := by decide +kernel
theorem dX9_group_39 : decode cX9_group 39 = .ok (.iload 4, 2) := by decide +kernel
theorem dX9_group_41 : decode cX9_group 41 = .ok (.invokevirtual 152, 3) := by decide +kernel
theorem dX9_group_44 : decode cX9_group 44 = .ok (.ifCond .eq 15, 3) := by decide +kernel
theorem dX9_group_47 : decode cX9_group 47 = .ok (.aload 5, 2) := by decide +kernel
theorem dX9_group_49 : decode cX9_group 49 = .ok (.iload_n 1, 1) := by decide +kernel
theorem dX9_group_50 : decode cX9_group 50 = .ok (.iload_n 2, 1) := by decide +kernel
theorem dX9_group_51 : decode cX9_group 51 = .ok (.iload 4, 2) := by decide +kernel
theorem dX9_group_53 : decode cX9_group 53 = .ok (.invokevirtual 175, 3) := by decide +kernel
theorem dX9_group_56 : decode cX9_group 56 = .ok (.goto 4, 3) := by decide +kernel
theorem dX9_group_59 : decode cX9_group 59 = .ok (.lconst 0, 1) := by decide +kernel
theorem dX9_group_60 : decode cX9_group 60 = .ok (.lreturn, 1) := by decide +kernel
theorem dX9_keep_0 : decode cX9_keep 0 = .ok (.aload_n 0, 1) := by decide +kernel
theorem dX9_keep_1 : decode cX9_keep 1 = .ok (.getfield 25, 3) := by decide +kernel
theorem dX9_keep_4 : decode cX9_keep 4 = .ok (.getfield 139, 3) := by decide +kernel
theorem dX9_keep_7 : decode cX9_keep 7 = .ok (.getfield 142, 3) := by decide +kernel
theorem dX9_keep_10 : decode cX9_keep 10 = .ok (.iconst (-1), 1) := by decide +kernel
theorem dX9_keep_11 : decode cX9_keep 11 = .ok (.if_icmp .ne 5, 3) := by decide +kernel
theorem dX9_keep_14 : decode cX9_keep 14 = .ok (.iconst (-1), 1) := by decide +kernel
theorem dX9_keep_15 : decode cX9_keep 15 = .ok (.ireturn, 1) := by decide +kernel
theorem dX9_keep_16 : decode cX9_keep 16 = .ok (.aload_n 0, 1) := by decide +kernel
theorem dX9_keep_17 : decode cX9_keep 17 = .ok (.getfield 32, 3) := by decide +kernel
theorem dX9_keep_20 : decode cX9_keep 20 = .ok (.aload_n 0, 1) := by decide +kernel
theorem dX9_keep_21 : decode cX9_keep 21 = .ok (.getfield 25, 3) := by decide +kernel
theorem dX9_keep_24 : decode cX9_keep 24 = .ok (.getfield 139, 3) := by decide +kernel
theorem dX9_keep_27 : decode cX9_keep 27 = .ok (.invokevirtual 179, 3) := by decide +kernel
theorem dX9_keep_30 : decode cX9_keep 30 = .ok (.aload_n 0, 1) := by decide +kernel
theorem dX9_keep_31 : decode cX9_keep 31 = .ok (.getfield 32, 3) := by decide +kernel
theorem dX9_keep_34 : decode cX9_keep 34 = .ok (.getfield 142, 3) := by decide +kernel
theorem dX9_keep_37 : decode cX9_keep 37 = .ok (.ireturn, 1) := by decide +kernel
theorem dX9_delta_0 : decode cX9_delta 0 = .ok (.aload_n 0, 1) := by decide +kernel
theorem dX9_delta_1 : decode cX9_delta 1 = .ok (.iload_n 1, 1) := by decide +kernel
theorem dX9_delta_2 : decode cX9_delta 2 = .ok (.invokevirtual 183, 3) := by decide +kernel
theorem dX9_delta_5 : decode cX9_delta 5 = .ok (.ifCond .eq 13, 3) := by decide +kernel
theorem dX9_delta_8 : decode cX9_delta 8 = .ok (.aload_n 0, 1) := by decide +kernel
theorem dX9_delta_9 : decode cX9_delta 9 = .ok (.getfield 39, 3) := by decide +kernel
theorem dX9_delta_12 : decode cX9_delta 12 = .ok (.getfield 186, 3) := by decide +kernel
theorem dX9_delta_15 : decode cX9_delta 15 = .ok (.goto 4, 3) := by decide +kernel
theorem dX9_delta_18 : decode cX9_delta 18 = .ok (.iconst (-1), 1) := by decide +kernel
theorem dX9_delta_19 : decode cX9_delta 19 = .ok (.ireturn, 1) := by decide +kernel
theorem dX9_change_0 : decode cX9_change 0 = .ok (.aload_n 0, 1) := by decide +kernel
theorem dX9_change_1 : decode cX9_change 1 = .ok (.iload_n 1, 1) := by decide +kernel
theorem dX9_change_2 : decode cX9_change 2 = .ok (.invokevirtual 183, 3) := by decide +kernel
theorem dX9_change_5 : decode cX9_change 5 = .ok (.ifCond .eq 15, 3) := by decide +kernel
theorem dX9_change_8 : decode cX9_change 8 = .ok (.aload_n 0, 1) := by decide +kernel
theorem dX9_change_9 : decode cX9_change 9 = .ok (.getfield 39, 3) := by decide +kernel
theorem dX9_change_12 : decode cX9_change 12 = .ok (.iload_n 2, 1) := by decide +kernel
theorem dX9_change_13 : decode cX9_change 13 = .ok (.iload_n 3, 1) := by decide +kernel
theorem dX9_change_14 : decode cX9_change 14 = .ok (.invokevirtual 187, 3) := by decide +kernel
theorem dX9_change_17 : decode cX9_change 17 = .ok (.goto 4, 3) := by decide +kernel
theorem dX9_change_20 : decode cX9_change 20 = .ok (.iconst 0, 1) := by decide +kernel
theorem dX9_change_21 : decode cX9_change 21 = .ok (.ireturn, 1) := by decide +kernel
theorem dX9_bound_0 : decode cX9_bound 0 = .ok (.aload_n 0, 1) := by decide +kernel
theorem dX9_bound_1 : decode cX9_bound 1 = .ok (.getfield 18, 3) := by decide +kernel
theorem dX9_bound_4 : decode cX9_bound 4 = .ok (.invokevirtual 127, 3) := by decide +kernel
theorem dX9_bound_7 : decode cX9_bound 7 = .ok (.ifCond .ne 7, 3) := by decide +kernel
theorem dX9_bound_10 : decode cX9_bound 10 = .ok (.ldc2_w 188, 3) := by decide +kernel
theorem dX9_bound_13 : decode cX9_bound 13 = .ok (.lreturn, 1) := by decide +kernel
theorem dX9_bound_14 : decode cX9_bound 14 = .ok (.aload_n 0, 1) := by decide +kernel
theorem dX9_bound_15 : decode cX9_bound 15 = .ok (.getfield 53, 3) := by decide +kernel
theorem dX9_bound_18 : decode cX9_bound 18 = .ok (.aload_n 0, 1) := by decide +kernel
theorem dX9_bound_19 : decode cX9_bound 19 = .ok (.getfield 11, 3) := by decide +kernel
theorem dX9_bound_22 : decode cX9_bound 22 = .ok (.aload_n 0, 1) := by decide +kernel
theorem dX9_bound_23 : decode cX9_bound 23 = .ok (.getfield 18, 3) := by decide +kernel
theorem dX9_bound_26 : decode cX9_bound 26 = .ok (.invokevirtual 190, 3) := by decide +kernel
theorem dX9_bound_29 : decode cX9_bound 29 = .ok (.aload_n 0, 1) := by decide +kernel
theorem dX9_bound_30 : decode cX9_bound 30 = .ok (.getfield 53, 3) := by decide +kernel
theorem dX9_bound_33 : decode cX9_bound 33 = .ok (.getfield 193, 3) := by decide +kernel
theorem dX9_bound_36 : decode cX9_bound 36 = .ok (.lreturn, 1) := by decide +kernel
theorem dX9_cover_0 : decode cX9_cover 0 = .ok (.aload_n 0, 1) := by decide +kernel
theorem dX9_cover_1 : decode cX9_cover 1 = .ok (.getfield 18, 3) := by decide +kernel
theorem dX9_cover_4 : decode cX9_cover 4 = .ok (.invokevirtual 127, 3) := by decide +kernel
theorem dX9_cover_7 : decode cX9_cover 7 = .ok (.ifCond .ne 5, 3) := by decide +kernel
theorem dX9_cover_10 : decode cX9_cover 10 = .ok (.iconst (-1), 1) := by decide +kernel
theorem dX9_cover_11 : decode cX9_cover 11 = .ok (.ireturn, 1) := by decide +kernel
theorem dX9_cover_12 : decode cX9_cover 12 = .ok (.aload_n 0, 1) := by decide +kernel
theorem dX9_cover_13 : decode cX9_cover 13 = .ok (.getfield 53, 3) := by decide +kernel
theorem dX9_cover_16 : decode cX9_cover 16 = .ok (.aload_n 0, 1) := by decide +kernel
theorem dX9_cover_17 : decode cX9_cover 17 = .ok (.getfield 11, 3) := by decide +kernel
theorem dX9_cover_20 : decode cX9_cover 20 = .ok (.aload_n 0, 1) := by decide +kernel
theorem dX9_cover_21 : decode cX9_cover 21 = .ok (.getfield 18, 3) := by decide +kernel
theorem dX9_cover_24 : decode cX9_cover 24 = .ok (.invokevirtual 190, 3) := by decide +kernel
theorem dX9_cover_27 : decode cX9_cover 27 = .ok (.aload_n 0, 1) := by decide +kernel
theorem dX9_cover_28 : decode cX9_cover 28 = .ok (.getfield 53, 3) := by decide +kernel
theorem dX9_cover_31 : decode cX9_cover 31 = .ok (.iload_n 1, 1) := by decide +kernel
theorem dX9_cover_32 : decode cX9_cover 32 = .ok (.invokevirtual 197, 3) := by decide +kernel
theorem dX9_cover_35 : decode cX9_cover 35 = .ok (.ireturn, 1) := by decide +kernel
theorem dX9_best_0 : decode cX9_best 0 = .ok (.aload_n 0, 1) := by decide +kernel
theorem dX9_best_1 : decode cX9_best 1 = .ok (.getfield 18, 3) := by decide +kernel
theorem dX9_best_4 : decode cX9_best 4 = .ok (.invokevirtual 127, 3) := by decide +kernel
theorem dX9_best_7 : decode cX9_best 7 = .ok (.ifCond .eq 14, 3) := by decide +kernel
theorem dX9_best_10 : decode cX9_best 10 = .ok (.aload_n 0, 1) := by decide +kernel
theorem dX9_best_11 : decode cX9_best 11 = .ok (.getfield 18, 3) := by decide +kernel
theorem dX9_best_14 : decode cX9_best 14 = .ok (.getfield 200, 3) := by decide +kernel
theorem dX9_best_17 : decode cX9_best 17 = .ok (.iconst 4, 1) := by decide +kernel
theorem dX9_best_18 : decode cX9_best 18 = .ok (.if_icmp .le 5, 3) := by decide +kernel
theorem dX9_best_21 : decode cX9_best 21 = .ok (.iconst (-1), 1) := by decide +kernel
theorem dX9_best_22 : decode cX9_best 22 = .ok (.ireturn, 1) := by decide +kernel
theorem dX9_best_23 : decode cX9_best 23 = .ok (.aload_n 0, 1) := by decide +kernel
theorem dX9_best_24 : decode cX9_best 24 = .ok (.getfield 60, 3) := by decide +kernel
theorem dX9_best_27 : decode cX9_best 27 = .ok (.aload_n 0, 1) := by decide +kernel
theorem dX9_best_28 : decode cX9_best 28 = .ok (.getfield 11, 3) := by decide +kernel
theorem dX9_best_31 : decode cX9_best 31 = .ok (.aload_n 0, 1) := by decide +kernel
theorem dX9_best_32 : decode cX9_best 32 = .ok (.getfield 18, 3) := by decide +kernel
theorem dX9_best_35 : decode cX9_best 35 = .ok (.invokevirtual 131, 3) := by decide +kernel
theorem dX9_best_38 : decode cX9_best 38 = .ok (.aload_n 0, 1) := by decide +kernel
theorem dX9_best_39 : decode cX9_best 39 = .ok (.getfield 60, 3) := by decide +kernel
theorem dX9_best_42 : decode cX9_best 42 = .ok (.aload_n 0, 1) := by decide +kernel
theorem dX9_best_43 : decode cX9_best 43 = .ok (.getfield 18, 3) := by decide +kernel
theorem dX9_best_46 : decode cX9_best 46 = .ok (.invokevirtual 203, 3) := by decide +kernel
theorem dX9_best_49 : decode cX9_best 49 = .ok (.aload_n 0, 1) := by decide +kernel
theorem dX9_best_50 : decode cX9_best 50 = .ok (.getfield 60, 3) := by decide +kernel
theorem dX9_best_53 : decode cX9_best 53 = .ok (.aload_n 0, 1) := by decide +kernel
theorem dX9_best_54 : decode cX9_best 54 = .ok (.getfield 18, 3) := by decide +kernel
theorem dX9_best_57 : decode cX9_best 57 = .ok (.invokevirtual 207, 3) := by decide +kernel
theorem dX9_best_60 : decode cX9_best 60 = .ok (.ireturn, 1) := by decide +kernel
theorem dX9_rings_0 : decode cX9_rings 0 = .ok (.aload_n 0, 1) := by decide +kernel
theorem dX9_rings_1 : decode cX9_rings 1 = .ok (.iload_n 1, 1) := by decide +kernel
theorem dX9_rings_2 : decode cX9_rings 2 = .ok (.invokevirtual 73, 3) := by decide +kernel
theorem dX9_rings_5 : decode cX9_rings 5 = .ok (.astore_n 2, 1) := by decide +kernel
theorem dX9_rings_6 : decode cX9_rings 6 = .ok (.aload_n 2, 1) := by decide +kernel
theorem dX9_rings_7 : decode cX9_rings 7 = .ok (.ifnull 11, 3) := by decide +kernel
theorem dX9_rings_10 : decode cX9_rings 10 = .ok (.aload_n 2, 1) := by decide +kernel
theorem dX9_rings_11 : decode cX9_rings 11 = .ok (.getfield 97, 3) := by decide +kernel
theorem dX9_rings_14 : decode cX9_rings 14 = .ok (.iconst 2, 1) := by decide +kernel
theorem dX9_rings_15 : decode cX9_rings 15 = .ok (.if_icmp .ge 5, 3) := by decide +kernel
theorem dX9_rings_18 : decode cX9_rings 18 = .ok (.iconst (-1), 1) := by decide +kernel
theorem dX9_rings_19 : decode cX9_rings 19 = .ok (.ireturn, 1) := by decide +kernel
theorem dX9_rings_20 : decode cX9_rings 20 = .ok (.aload_n 0, 1) := by decide +kernel
theorem dX9_rings_21 : decode cX9_rings 21 = .ok (.getfield 46, 3) := by decide +kernel
theorem dX9_rings_24 : decode cX9_rings 24 = .ok (.aload_n 2, 1) := by decide +kernel
theorem dX9_rings_25 : decode cX9_rings 25 = .ok (.sipush 1600, 3) := by decide +kernel
theorem dX9_rings_28 : decode cX9_rings 28 = .ok (.invokevirtual 211, 3) := by decide +kernel
theorem dX9_rings_31 : decode cX9_rings 31 = .ok (.ireturn, 1) := by decide +kernel
theorem dX9_ring_0 : decode cX9_ring 0 = .ok (.aload_n 0, 1) := by decide +kernel
theorem dX9_ring_1 : decode cX9_ring 1 = .ok (.iload_n 1, 1) := by decide +kernel
theorem dX9_ring_2 : decode cX9_ring 2 = .ok (.invokevirtual 73, 3) := by decide +kernel
theorem dX9_ring_5 : decode cX9_ring 5 = .ok (.astore 4, 2) := by decide +kernel
theorem dX9_ring_7 : decode cX9_ring 7 = .ok (.aload 4, 2) := by decide +kernel
theorem dX9_ring_9 : decode cX9_ring 9 = .ok (.ifnull 30, 3) := by decide +kernel
theorem dX9_ring_12 : decode cX9_ring 12 = .ok (.aload 4, 2) := by decide +kernel
theorem dX9_ring_14 : decode cX9_ring 14 = .ok (.getfield 97, 3) := by decide +kernel
theorem dX9_ring_17 : decode cX9_ring 17 = .ok (.iconst 2, 1) := by decide +kernel
theorem dX9_ring_18 : decode cX9_ring 18 = .ok (.if_icmp .lt 21, 3) := by decide +kernel
theorem dX9_ring_21 : decode cX9_ring 21 = .ok (.iload_n 2, 1) := by decide +kernel
theorem dX9_ring_22 : decode cX9_ring 22 = .ok (.ifCond .lt 17, 3) := by decide +kernel
theorem dX9_ring_25 : decode cX9_ring 25 = .ok (.aload_n 0, 1) := by decide +kernel
theorem dX9_ring_26 : decode cX9_ring 26 = .ok (.getfield 46, 3) := by decide +kernel
theorem dX9_ring_29 : decode cX9_ring 29 = .ok (.aload 4, 2) := by decide +kernel
theorem dX9_ring_31 : decode cX9_ring 31 = .ok (.iload_n 2, 1) := by decide +kernel
theorem dX9_ring_32 : decode cX9_ring 32 = .ok (.invokevirtual 211, 3) := by decide +kernel
theorem dX9_ring_35 : decode cX9_ring 35 = .ok (.iload_n 2, 1) := by decide +kernel
theorem dX9_ring_36 : decode cX9_ring 36 = .ok (.if_icmp .gt 5, 3) := by decide +kernel
theorem dX9_ring_39 : decode cX9_ring 39 = .ok (.iconst 0, 1) := by decide +kernel
theorem dX9_ring_40 : decode cX9_ring 40 = .ok (.ireturn, 1) := by decide +kernel
theorem dX9_ring_41 : decode cX9_ring 41 = .ok (.aload_n 0, 1) := by decide +kernel
theorem dX9_ring_42 : decode cX9_ring 42 = .ok (.getfield 46, 3) := by decide +kernel
theorem dX9_ring_45 : decode cX9_ring 45 = .ok (.iload_n 3, 1) := by decide +kernel
theorem dX9_ring_46 : decode cX9_ring 46 = .ok (.invokevirtual 215, 3) := by decide +kernel
theorem dX9_ring_49 : decode cX9_ring 49 = .ok (.ireturn, 1) := by decide +kernel
theorem dX9_count_0 : decode cX9_count 0 = .ok (.iload_n 1, 1) := by decide +kernel
theorem dX9_count_1 : decode cX9_count 1 = .ok (.tableswitch 86 0 4 #[35, 43, 51, 62, 70], 35) := by decide +kernel
theorem dX9_count_36 : decode cX9_count 36 = .ok (.aload_n 0, 1) := by decide +kernel
theorem dX9_count_37 : decode cX9_count 37 = .ok (.getfield 18, 3) := by decide +kernel
theorem dX9_count_40 : decode cX9_count 40 = .ok (.getfield 200, 3) := by decide +kernel
theorem dX9_count_43 : decode cX9_count 43 = .ok (.ireturn, 1) := by decide +kernel
theorem dX9_count_44 : decode cX9_count 44 = .ok (.aload_n 0, 1) := by decide +kernel
theorem dX9_count_45 : decode cX9_count 45 = .ok (.getfield 18, 3) := by decide +kernel
theorem dX9_count_48 : decode cX9_count 48 = .ok (.getfield 218, 3) := by decide +kernel
theorem dX9_count_51 : decode cX9_count 51 = .ok (.ireturn, 1) := by decide +kernel
theorem dX9_count_52 : decode cX9_count 52 = .ok (.aload_n 0, 1) := by decide +kernel
theorem dX9_count_53 : decode cX9_count 53 = .ok (.getfield 25, 3) := by decide +kernel
theorem dX9_count_56 : decode cX9_count 56 = .ok (.getfield 139, 3) := by decide +kernel
theorem dX9_count_59 : decode cX9_count 59 = .ok (.getfield 142, 3) := by decide +kernel
theorem dX9_count_62 : decode cX9_count 62 = .ok (.ireturn, 1) := by decide +kernel
theorem dX9_count_63 : decode cX9_count 63 = .ok (.aload_n 0, 1) := by decide +kernel
theorem dX9_count_64 : decode cX9_count 64 = .ok (.getfield 32, 3) := by decide +kernel
theorem dX9_count_67 : decode cX9_count 67 = .ok (.getfield 142, 3) := by decide +kernel
theorem dX9_count_70 : decode cX9_count 70 = .ok (.ireturn, 1) := by decide +kernel
theorem dX9_count_71 : decode cX9_count 71 = .ok (.aload_n 0, 1) := by decide +kernel
theorem dX9_count_72 : decode cX9_count 72 = .ok (.getfield 18, 3) := by decide +kernel
theorem dX9_count_75 : decode cX9_count 75 = .ok (.invokevirtual 127, 3) := by decide +kernel
theorem dX9_count_78 : decode cX9_count 78 = .ok (.ifCond .eq 7, 3) := by decide +kernel
theorem dX9_count_81 : decode cX9_count 81 = .ok (.iconst 1, 1) := by decide +kernel
theorem dX9_count_82 : decode cX9_count 82 = .ok (.goto 4, 3) := by decide +kernel
theorem dX9_count_85 : decode cX9_count 85 = .ok (.iconst 0, 1) := by decide +kernel
theorem dX9_count_86 : decode cX9_count 86 = .ok (.ireturn, 1) := by decide +kernel
theorem dX9_count_87 : decode cX9_count 87 = .ok (.aload_n 0, 1) := by decide +kernel
theorem dX9_count_88 : decode cX9_count 88 = .ok (.getfield 18, 3) := by decide +kernel
theorem dX9_count_91 : decode cX9_count 91 = .ok (.iload_n 1, 1) := by decide +kernel
theorem dX9_count_92 : decode cX9_count 92 = .ok (.invokevirtual 219, 3) := by decide +kernel
theorem dX9_count_95 : decode cX9_count 95 = .ok (.ireturn, 1) := by decide +kernel
theorem dX9_tableAt_0 : decode cX9_tableAt 0 = .ok (.iload_n 1, 1) := by decide +kernel
theorem dX9_tableAt_1 : decode cX9_tableAt 1 = .ok (.ifCond .lt 21, 3) := by decide +kernel
theorem dX9_tableAt_4 : decode cX9_tableAt 4 = .ok (.iload_n 1, 1) := by decide +kernel
theorem dX9_tableAt_5 : decode cX9_tableAt 5 = .ok (.bipush 8, 2) := by decide +kernel
theorem dX9_tableAt_7 : decode cX9_tableAt 7 = .ok (.if_icmp .ge 15, 3) := by decide +kernel
theorem dX9_tableAt_10 : decode cX9_tableAt 10 = .ok (.aload_n 0, 1) := by decide +kernel
theorem dX9_tableAt_11 : decode cX9_tableAt 11 = .ok (.getfield 11, 3) := by decide +kernel
theorem dX9_tableAt_14 : decode cX9_tableAt 14 = .ok (.iload_n 1, 1) := by decide +kernel
theorem dX9_tableAt_15 : decode cX9_tableAt 15 = .ok (.aaload, 1) := by decide +kernel
theorem dX9_tableAt_16 : decode cX9_tableAt 16 = .ok (.getfield 97, 3) := by decide +kernel
theorem dX9_tableAt_19 : decode cX9_tableAt 19 = .ok (.ifCond .ne 5, 3) := by decide +kernel
theorem dX9_tableAt_22 : decode cX9_tableAt 22 = .ok (.aconst_null, 1) := by decide +kernel
theorem dX9_tableAt_23 : decode cX9_tableAt 23 = .ok (.areturn, 1) := by decide +kernel
theorem dX9_tableAt_24 : decode cX9_tableAt 24 = .ok (.aload_n 0, 1) := by decide +kernel
theorem dX9_tableAt_25 : decode cX9_tableAt 25 = .ok (.getfield 11, 3) := by decide +kernel
theorem dX9_tableAt_28 : decode cX9_tableAt 28 = .ok (.iload_n 1, 1) := by decide +kernel
theorem dX9_tableAt_29 : decode cX9_tableAt 29 = .ok (.aaload, 1) := by decide +kernel
theorem dX9_tableAt_30 : decode cX9_tableAt 30 = .ok (.areturn, 1) := by decide +kernel
theorem dX9_openPart_0 : decode cX9_openPart 0 = .ok (.aload_n 0, 1) := by decide +kernel
theorem dX9_openPart_1 : decode cX9_openPart 1 = .ok (.getfield 18, 3) := by decide +kernel
theorem dX9_openPart_4 : decode cX9_openPart 4 = .ok (.invokevirtual 222, 3) := by decide +kernel
theorem dX9_openPart_7 : decode cX9_openPart 7 = .ok (.astore_n 1, 1) := by decide +kernel
theorem dX9_openPart_8 : decode cX9_openPart 8 = .ok (.aload_n 1, 1) := by decide +kernel
theorem dX9_openPart_9 : decode cX9_openPart 9 = .ok (.ifnull 17, 3) := by decide +kernel
theorem dX9_openPart_12 : decode cX9_openPart 12 = .ok (.aload_n 1, 1) := by decide +kernel
theorem dX9_openPart_13 : decode cX9_openPart 13 = .ok (.invokevirtual 225, 3) := by decide +kernel
theorem dX9_openPart_16 : decode cX9_openPart 16 = .ok (.ifCond .eq 10, 3) := by decide +kernel
theorem dX9_openPart_19 : decode cX9_openPart 19 = .ok (.aload_n 1, 1) := by decide +kernel
theorem dX9_openPart_20 : decode cX9_openPart 20 = .ok (.invokevirtual 228, 3) := by decide +kernel
theorem dX9_openPart_23 : decode cX9_openPart 23 = .ok (.ifCond .eq 7, 3) := by decide +kernel
theorem dX9_openPart_26 : decode cX9_openPart 26 = .ok (.aconst_null, 1) := by decide +kernel
theorem dX9_openPart_27 : decode cX9_openPart 27 = .ok (.goto 4, 3) := by decide +kernel
theorem dX9_openPart_30 : decode cX9_openPart 30 = .ok (.aload_n 1, 1) := by decide +kernel
theorem dX9_openPart_31 : decode cX9_openPart 31 = .ok (.areturn, 1) := by decide +kernel
theorem dX9_findDifference_0 : decode cX9_findDifference 0 = .ok (.aload_n 0, 1) := by decide +kernel
theorem dX9_findDifference_1 : decode cX9_findDifference 1 = .ok (.getfield 25, 3) := by decide +kernel
theorem dX9_findDifference_4 : decode cX9_findDifference 4 = .ok (.getfield 139, 3) := by decide +kernel
theorem dX9_findDifference_7 : decode cX9_findDifference 7 = .ok (.astore_n 2, 1) := by decide +kernel
theorem dX9_findDifference_8 : decode cX9_findDifference 8 = .ok (.aload_n 0, 1) := by decide +kernel
theorem dX9_findDifference_9 : decode cX9_findDifference 9 = .ok (.getfield 32, 3) := by decide +kernel
theorem dX9_findDifference_12 : decode cX9_findDifference 12 = .ok (.getfield 142, 3) := by decide +kernel
theorem dX9_findDifference_15 : decode cX9_findDifference 15 = .ok (.iconst (-1), 1) := by decide +kernel
theorem dX9_findDifference_16 : decode cX9_findDifference 16 = .ok (.if_icmp .eq 34, 3) := by decide +kernel
theorem dX9_findDifference_19 : decode cX9_findDifference 19 = .ok (.aload_n 2, 1) := by decide +kernel
theorem dX9_findDifference_20 : decode cX9_findDifference 20 = .ok (.getfield 142, 3) := by decide +kernel
theorem dX9_findDifference_23 : decode cX9_findDifference 23 = .ok (.iconst (-1), 1) := by decide +kernel
theorem dX9_findDifference_24 : decode cX9_findDifference 24 = .ok (.if_icmp .eq 26, 3) := by decide +kernel
theorem dX9_findDifference_27 : decode cX9_findDifference 27 = .ok (.aload_n 0, 1) := by decide +kernel
theorem dX9_findDifference_28 : decode cX9_findDifference 28 = .ok (.getfield 32, 3) := by decide +kernel
theorem dX9_findDifference_31 : decode cX9_findDifference 31 = .ok (.getfield 231, 3) := by decide +kernel
theorem dX9_findDifference_34 : decode cX9_findDifference 34 = .ok (.aload_n 2, 1) := by decide +kernel
theorem dX9_findDifference_35 : decode cX9_findDifference 35 = .ok (.getfield 231, 3) := by decide +kernel
theorem dX9_findDifference_38 : decode cX9_findDifference 38 = .ok (.if_icmp .ne 12, 3) := by decide +kernel
theorem dX9_findDifference_41 : decode cX9_findDifference 41 = .ok (.iload_n 1, 1) := by decide +kernel
theorem dX9_findDifference_42 : decode cX9_findDifference 42 = .ok (.ifCond .lt 8, 3) := by decide +kernel
theorem dX9_findDifference_45 : decode cX9_findDifference 45 = .ok (.iload_n 1, 1) := by decide +kernel
theorem dX9_findDifference_46 : decode cX9_findDifference 46 = .ok (.iconst 1, 1) := by decide +kernel
theorem dX9_findDifference_47 : decode cX9_findDifference 47 = .ok (.if_icmp .le 5, 3) := by decide +kernel
theorem dX9_findDifference_50 : decode cX9_findDifference 50 = .ok (.iconst 0, 1) := by decide +kernel
theorem dX9_findDifference_51 : decode cX9_findDifference 51 = .ok (.ireturn, 1) := by decide +kernel
theorem dX9_findDifference_52 : decode cX9_findDifference 52 = .ok (.iload_n 1, 1) := by decide +kernel
theorem dX9_findDifference_53 : decode cX9_findDifference 53 = .ok (.ifCond .ne 18, 3) := by decide +kernel
theorem dX9_findDifference_56 : decode cX9_findDifference 56 = .ok (.aload_n 0, 1) := by decide +kernel
theorem dX9_findDifference_57 : decode cX9_findDifference 57 = .ok (.getfield 39, 3) := by decide +kernel
theorem dX9_findDifference_60 : decode cX9_findDifference 60 = .ok (.aload_n 2, 1) := by decide +kernel
theorem dX9_findDifference_61 : decode cX9_findDifference 61 = .ok (.aload_n 0, 1) := by decide +kernel
theorem dX9_findDifference_62 : decode cX9_findDifference 62 = .ok (.getfield 32, 3) := by decide +kernel
theorem dX9_findDifference_65 : decode cX9_findDifference 65 = .ok (.invokevirtual 232, 3) := by decide +kernel
theorem dX9_findDifference_68 : decode cX9_findDifference 68 = .ok (.goto 15, 3) := by decide +kernel
theorem dX9_findDifference_71 : decode cX9_findDifference 71 = .ok (.aload_n 0, 1) := by decide +kernel
theorem dX9_findDifference_72 : decode cX9_findDifference 72 = .ok (.getfield 39, 3) := by decide +kernel
theorem dX9_findDifference_75 : decode cX9_findDifference 75 = .ok (.aload_n 0, 1) := by decide +kernel
theorem dX9_findDifference_76 : decode cX9_findDifference 76 = .ok (.getfield 32, 3) := by decide +kernel
theorem dX9_findDifference_79 : decode cX9_findDifference 79 = .ok (.aload_n 2, 1) := by decide +kernel
theorem dX9_findDifference_80 : decode cX9_findDifference 80 = .ok (.invokevirtual 232, 3) := by decide +kernel
theorem dX9_findDifference_83 : decode cX9_findDifference 83 = .ok (.iconst 1, 1) := by decide +kernel
theorem dX9_findDifference_84 : decode cX9_findDifference 84 = .ok (.ireturn, 1) := by decide +kernel
theorem dX9_ahead_0 : decode cX9_ahead 0 = .ok (.iload_n 0, 1) := by decide +kernel
theorem dX9_ahead_1 : decode cX9_ahead 1 = .ok (.iconst 1, 1) := by decide +kernel
theorem dX9_ahead_2 : decode cX9_ahead 2 = .ok (.isub, 1) := by decide +kernel
theorem dX9_ahead_3 : decode cX9_ahead 3 = .ok (.iload_n 1, 1) := by decide +kernel
theorem dX9_ahead_4 : decode cX9_ahead 4 = .ok (.iconst 1, 1) := by decide +kernel
theorem dX9_ahead_5 : decode cX9_ahead 5 = .ok (.isub, 1) := by decide +kernel
theorem dX9_ahead_6 : decode cX9_ahead 6 = .ok (.if_icmp .ge 7, 3) := by decide +kernel
theorem dX9_ahead_9 : decode cX9_ahead 9 = .ok (.iconst 1, 1) := by decide +kernel
theorem dX9_ahead_10 : decode cX9_ahead 10 = .ok (.goto 4, 3) := by decide +kernel
theorem dX9_ahead_13 : decode cX9_ahead 13 = .ok (.iconst 0, 1) := by decide +kernel
theorem dX9_ahead_14 : decode cX9_ahead 14 = .ok (.ireturn, 1) := by decide +kernel
theorem dX9_inOrder_0 : decode cX9_inOrder 0 = .ok (.iload_n 0, 1) := by decide +kernel
theorem dX9_inOrder_1 : decode cX9_inOrder 1 = .ok (.iconst 1, 1) := by decide +kernel
theorem dX9_inOrder_2 : decode cX9_inOrder 2 = .ok (.isub, 1) := by decide +kernel
theorem dX9_inOrder_3 : decode cX9_inOrder 3 = .ok (.iload_n 1, 1) := by decide +kernel
theorem dX9_inOrder_4 : decode cX9_inOrder 4 = .ok (.iconst 1, 1) := by decide +kernel
theorem dX9_inOrder_5 : decode cX9_inOrder 5 = .ok (.isub, 1) := by decide +kernel
theorem dX9_inOrder_6 : decode cX9_inOrder 6 = .ok (.invokestatic 235, 3) := by decide +kernel
theorem dX9_inOrder_9 : decode cX9_inOrder 9 = .ok (.ireturn, 1) := by decide +kernel
theorem dX9_spotIn_0 : decode cX9_spotIn 0 = .ok (.lload_n 0, 1) := by decide +kernel
theorem dX9_spotIn_1 : decode cX9_spotIn 1 = .ok (.iload_n 2, 1) := by decide +kernel
theorem dX9_spotIn_2 : decode cX9_spotIn 2 = .ok (.invokestatic 240, 3) := by decide +kernel
theorem dX9_spotIn_5 : decode cX9_spotIn 5 = .ok (.lushr, 1) := by decide +kernel
theorem dX9_spotIn_6 : decode cX9_spotIn 6 = .ok (.l2i, 1) := by decide +kernel
theorem dX9_spotIn_7 : decode cX9_spotIn 7 = .ok (.bipush 63, 2) := by decide +kernel
theorem dX9_spotIn_9 : decode cX9_spotIn 9 = .ok (.iand, 1) := by decide +kernel
theorem dX9_spotIn_10 : decode cX9_spotIn 10 = .ok (.ireturn, 1) := by decide +kernel
theorem dX9_shift_0 : decode cX9_shift 0 = .ok (.iconst 5, 1) := by decide +kernel
theorem dX9_shift_1 : decode cX9_shift 1 = .ok (.iload_n 0, 1) := by decide +kernel
theorem dX9_shift_2 : decode cX9_shift 2 = .ok (.isub, 1) := by decide +kernel
theorem dX9_shift_3 : decode cX9_shift 3 = .ok (.bipush 6, 2) := by decide +kernel
theorem dX9_shift_5 : decode cX9_shift 5 = .ok (.imul, 1) := by decide +kernel
theorem dX9_shift_6 : decode cX9_shift 6 = .ok (.ireturn, 1) := by decide +kernel
theorem dX9_lowestPlace_0 : decode cX9_lowestPlace 0 = .ok (.lload_n 0, 1) := by decide +kernel
theorem dX9_lowestPlace_1 : decode cX9_lowestPlace 1 = .ok (.lload_n 0, 1) := by decide +kernel
theorem dX9_lowestPlace_2 : decode cX9_lowestPlace 2 = .ok (.lneg, 1) := by decide +kernel
theorem dX9_lowestPlace_3 : decode cX9_lowestPlace 3 = .ok (.land, 1) := by decide +kernel
theorem dX9_lowestPlace_4 : decode cX9_lowestPlace 4 = .ok (.lconst 1, 1) := by decide +kernel
theorem dX9_lowestPlace_5 : decode cX9_lowestPlace 5 = .ok (.lsub, 1) := by decide +kernel
theorem dX9_lowestPlace_6 : decode cX9_lowestPlace 6 = .ok (.invokestatic 243, 3) := by decide +kernel
theorem dX9_lowestPlace_9 : decode cX9_lowestPlace 9 = .ok (.ireturn, 1) := by decide +kernel
theorem dX10_init_0 : decode cX10_init 0 = .ok (.aload_n 0, 1) := by decide +kernel
theorem dX10_init_1 : decode cX10_init 1 = .ok (.invokespecial 1, 3) := by decide +kernel
theorem dX10_init_4 : decode cX10_init 4 = .ok (.aload_n 0, 1) := by decide +kernel
theorem dX10_init_5 : decode cX10_init 5 = .ok (.bipush 8, 2) := by decide +kernel
theorem dX10_init_7 : decode cX10_init 7 = .ok (.newarray .int, 2) := by decide +kernel
theorem dX10_init_9 : decode cX10_init 9 = .ok (.putfield 7, 3) := by decide +kernel
theorem dX10_init_12 : decode cX10_init 12 = .ok (.aload_n 0, 1) := by decide +kernel
theorem dX10_init_13 : decode cX10_init 13 = .ok (.bipush 8, 2) := by decide +kernel
theorem dX10_init_15 : decode cX10_init 15 = .ok (.newarray .int, 2) := by decide +kernel
theorem dX10_init_17 : decode cX10_init 17 = .ok (.putfield 13, 3) := by decide +kernel
theorem dX10_init_20 : decode cX10_init 20 = .ok (.aload_n 0, 1) := by decide +kernel
theorem dX10_init_21 : decode cX10_init 21 = .ok (.sipush 960, 3) := by decide +kernel
theorem dX10_init_24 : decode cX10_init 24 = .ok (.newarray .int, 2) := by decide +kernel
theorem dX10_init_26 : decode cX10_init 26 = .ok (.putfield 16, 3) := by decide +kernel
theorem dX10_init_29 : decode cX10_init 29 = .ok (.aload_n 0, 1) := by decide +kernel
theorem dX10_init_30 : decode cX10_init 30 = .ok (.bipush 10, 2) := by decide +kernel
theorem dX10_init_32 : decode cX10_init 32 = .ok (.newarray .int, 2) := by decide +kernel
theorem dX10_init_34 : decode cX10_init 34 = .ok (.putfield 19, 3) := by decide +kernel
theorem dX10_init_37 : decode cX10_init 37 = .ok (.aload_n 0, 1) := by decide +kernel
theorem dX10_init_38 : decode cX10_init 38 = .ok (.bipush 10, 2) := by decide +kernel
theorem dX10_init_40 : decode cX10_init 40 = .ok (.newarray .int, 2) := by decide +kernel
theorem dX10_init_42 : decode cX10_init 42 = .ok (.putfield 22, 3) := by decide +kernel
theorem dX10_init_45 : decode cX10_init 45 = .ok (.aload_n 0, 1) := by decide +kernel
theorem dX10_init_46 : decode cX10_init 46 = .ok (.bipush 10, 2) := by decide +kernel
theorem dX10_init_48 : decode cX10_init 48 = .ok (.newarray .int, 2) := by decide +kernel
theorem dX10_init_50 : decode cX10_init 50 = .ok (.putfield 25, 3) := by decide +kernel
theorem dX10_init_53 : decode cX10_init 53 = .ok (.aload_n 0, 1) := by decide +kernel
theorem dX10_init_54 : decode cX10_init 54 = .ok (.bipush 30, 2) := by decide +kernel
theorem dX10_init_56 : decode cX10_init 56 = .ok (.newarray .int, 2) := by decide +kernel
theorem dX10_init_58 : decode cX10_init 58 = .ok (.putfield 28, 3) := by decide +kernel
theorem dX10_init_61 : decode cX10_init 61 = .ok (.aload_n 0, 1) := by decide +kernel
theorem dX10_init_62 : decode cX10_init 62 = .ok (.bipush 30, 2) := by decide +kernel
theorem dX10_init_64 : decode cX10_init 64 = .ok (.newarray .int, 2) := by decide +kernel
theorem dX10_init_66 : decode cX10_init 66 = .ok (.putfield 31, 3) := by decide +kernel
theorem dX10_init_69 : decode cX10_init 69 = .ok (.aload_n 0, 1) := by decide +kernel
theorem dX10_init_70 : decode cX10_init 70 = .ok (.bipush 6, 2) := by decide +kernel
theorem dX10_init_72 : decode cX10_init 72 = .ok (.newarray .int, 2) := by decide +kernel
theorem dX10_init_74 : decode cX10_init 74 = .ok (.putfield 34, 3) := by decide +kernel
theorem dX10_init_77 : decode cX10_init 77 = .ok (.aload_n 0, 1) := by decide +kernel
theorem dX10_init_78 : decode cX10_init 78 = .ok (.sipush 3006, 3) := by decide +kernel
theorem dX10_init_81 : decode cX10_init 81 = .ok (.newarray .int, 2) := by decide +kernel
theorem dX10_init_83 : decode cX10_init 83 = .ok (.putfield 37, 3) := by decide +kernel
theorem dX10_init_86 : decode cX10_init 86 = .ok (.aload_n 0, 1) := by decide +kernel
theorem dX10_init_87 : decode cX10_init 87 = .ok (.sipush 3006, 3) := by decide +kernel
theorem dX10_init_90 : decode cX10_init 90 = .ok (.newarray .int, 2) := by decide +kernel
theorem dX10_init_92 : decode cX10_init 92 = .ok (.putfield 40, 3) := by decide +kernel
theorem dX10_init_95 : decode cX10_init 95 = .ok (.aload_n 0, 1) := by decide +kernel
theorem dX10_init_96 : decode cX10_init 96 = .ok (.bipush 6, 2) := by decide +kernel
theorem dX10_init_98 : decode cX10_init 98 = .ok (.newarray .int, 2) := by decide +kernel
theorem dX10_init_100 : decode cX10_init 100 = .ok (.putfield 43, 3) := by decide +kernel
theorem dX10_init_103 : decode cX10_init 103 = .ok (.aload_n 0, 1) := by decide +kernel
theorem dX10_init_104 : decode cX10_init 104 = .ok (.iconst (-1), 1) := by decide +kernel
theorem dX10_init_105 : decode cX10_init 105 = .ok (.putfield 46, 3) := by decide +kernel
theorem dX10_init_108 : decode cX10_init 108 = .ok (.aload_n 0, 1) := by decide +kernel
theorem dX10_init_109 : decode cX10_init 109 = .ok (.sipush 3006, 3) := by decide +kernel
theorem dX10_init_112 : decode cX10_init 112 = .ok (.newarray .int, 2) := by decide +kernel
theorem dX10_init_114 : decode cX10_init 114 = .ok (.putfield 50, 3) := by decide +kernel
theorem dX10_init_117 : decode cX10_init 117 = .ok (.aload_n 0, 1) := by decide +kernel
theorem dX10_init_118 : decode cX10_init 118 = .ok (.bipush 6, 2) := by decide +kernel
theorem dX10_init_120 : decode cX10_init 120 = .ok (.newarray .int, 2) := by decide +kernel
theorem dX10_init_122 : decode cX10_init 122 = .ok (.putfield 53, 3) := by decide +kernel
theorem dX10_init_125 : decode cX10_init 125 = .ok (.aload_n 0, 1) := by decide +kernel
theorem dX10_init_126 : decode cX10_init 126 = .ok (.sipush 5010, 3) := by decide +kernel
theorem dX10_init_129 : decode cX10_init 129 = .ok (.newarray .int, 2) := by decide +kernel
theorem dX10_init_131 : decode cX10_init 131 = .ok (.putfield 56, 3) := by decide +kernel
theorem dX10_init_134 : decode cX10_init 134 = .ok (.aload_n 0, 1) := by decide +kernel
theorem dX10_init_135 : decode cX10_init 135 = .ok (.bipush 10, 2) := by decide +kernel
theorem dX10_init_137 : decode cX10_init 137 = .ok (.newarray .boolean, 2) := by decide +kernel
theorem dX10_init_139 : decode cX10_init 139 = .ok (.putfield 59, 3) := by decide +kernel
theorem dX10_init_142 : decode cX10_init 142 = .ok (.aload_n 0, 1) := by decide +kernel
theorem dX10_init_143 : decode cX10_init 143 = .ok (.iconst (-1), 1) := by decide +kernel
theorem dX10_init_144 : decode cX10_init 144 = .ok (.putfield 63, 3) := by decide +kernel
theorem dX10_init_147 : decode cX10_init 147 = .ok (.aload_n 0, 1) := by decide +kernel
theorem dX10_init_148 : decode cX10_init 148 = .ok (.sipush 3006, 3) := by decide +kernel
theorem dX10_init_151 : decode cX10_init 151 = .ok (.newarray .int, 2) := by decide +kernel
theorem dX10_init_153 : decode cX10_init 153 = .ok (.putfield 66, 3) := by decide +kernel
theorem dX10_init_156 : decode cX10_init 156 = .ok (.aload_n 0, 1) := by decide +kernel
theorem dX10_init_157 : decode cX10_init 157 = .ok (.bipush 6, 2) := by decide +kernel
theorem dX10_init_159 : decode cX10_init 159 = .ok (.newarray .int, 2) := by decide +kernel
theorem dX10_init_161 : decode cX10_init 161 = .ok (.putfield 69, 3) := by decide +kernel
theorem dX10_init_164 : decode cX10_init 164 = .ok (.aload_n 0, 1) := by decide +kernel
theorem dX10_init_165 : decode cX10_init 165 = .ok (.bipush 10, 2) := by decide +kernel
theorem dX10_init_167 : decode cX10_init 167 = .ok (.newarray .int, 2) := by decide +kernel
theorem dX10_init_169 : decode cX10_init 169 = .ok (.putfield 72, 3) := by decide +kernel
theorem dX10_init_172 : decode cX10_init 172 = .ok (.aload_n 0, 1) := by decide +kernel
theorem dX10_init_173 : decode cX10_init 173 = .ok (.bipush 10, 2) := by decide +kernel
theorem dX10_init_175 : decode cX10_init 175 = .ok (.newarray .int, 2) := by decide +kernel
theorem dX10_init_177 : decode cX10_init 177 = .ok (.putfield 75, 3) := by decide +kernel
theorem dX10_init_180 : decode cX10_init 180 = .ok (.aload_n 0, 1) := by decide +kernel
theorem dX10_init_181 : decode cX10_init 181 = .ok (.bipush 6, 2) := by decide +kernel
theorem dX10_init_183 : decode cX10_init 183 = .ok (.newarray .int, 2) := by decide +kernel
theorem dX10_init_185 : decode cX10_init 185 = .ok (.putfield 78, 3) := by decide +kernel
theorem dX10_init_188 : decode cX10_init 188 = .ok (.aload_n 0, 1) := by decide +kernel
theorem dX10_init_189 : decode cX10_init 189 = .ok (.bipush 6, 2) := by decide +kernel
theorem dX10_init_191 : decode cX10_init 191 = .ok (.newarray .int, 2) := by decide +kernel
theorem dX10_init_193 : decode cX10_init 193 = .ok (.putfield 81, 3) := by decide +kernel
theorem dX10_init_196 : decode cX10_init 196 = .ok (.aload_n 0, 1) := by decide +kernel
theorem dX10_init_197 : decode cX10_init 197 = .ok (.iconst 3, 1) := by decide +kernel
theorem dX10_init_198 : decode cX10_init 198 = .ok (.newarray .int, 2) := by decide +kernel
theorem dX10_init_200 : decode cX10_init 200 = .ok (.putfield 84, 3) := by decide +kernel
theorem dX10_init_203 : decode cX10_init 203 = .ok (.return_, 1) := by decide +kernel
theorem dX10_lies_0 : decode cX10_lies 0 = .ok (.iload_n 0, 1) := by decide +kernel
theorem dX10_lies_1 : decode cX10_lies 1 = .ok (.iload_n 1, 1) := by decide +kernel
theorem dX10_lies_2 : decode cX10_lies 2 = .ok (.if_icmp .lt 12, 3) := by decide +kernel
theorem dX10_lies_5 : decode cX10_lies 5 = .ok (.iload_n 0, 1) := by decide +kernel
theorem dX10_lies_6 : decode cX10_lies 6 = .ok (.iload_n 2, 1) := by decide +kernel
theorem dX10_lies_7 : decode cX10_lies 7 = .ok (.if_icmp .gt 7, 3) := by decide +kernel
theorem dX10_lies_10 : decode cX10_lies 10 = .ok (.iconst 1, 1) := by decide +kernel
theorem dX10_lies_11 : decode cX10_lies 11 = .ok (.goto 4, 3) := by decide +kernel
theorem dX10_lies_14 : decode cX10_lies 14 = .ok (.iconst 0, 1) := by decide +kernel
theorem dX10_lies_15 : decode cX10_lies 15 = .ok (.ireturn, 1) := by decide +kernel
theorem dX10_rank_0 : decode cX10_rank 0 = .ok (.iload_n 0, 1) := by decide +kernel
theorem dX10_rank_1 : decode cX10_rank 1 = .ok (.iload_n 1, 1) := by decide +kernel
theorem dX10_rank_2 : decode cX10_rank 2 = .ok (.if_icmp .ne 5, 3) := by decide +kernel
theorem dX10_rank_5 : decode cX10_rank 5 = .ok (.iconst 0, 1) := by decide +kernel
theorem dX10_rank_6 : decode cX10_rank 6 = .ok (.ireturn, 1) := by decide +kernel
theorem dX10_rank_7 : decode cX10_rank 7 = .ok (.iload_n 0, 1) := by decide +kernel
theorem dX10_rank_8 : decode cX10_rank 8 = .ok (.ldc 87, 2) := by decide +kernel
theorem dX10_rank_10 : decode cX10_rank 10 = .ok (.if_icmp .ne 5, 3) := by decide +kernel
theorem dX10_rank_13 : decode cX10_rank 13 = .ok (.iconst 1, 1) := by decide +kernel
theorem dX10_rank_14 : decode cX10_rank 14 = .ok (.ireturn, 1) := by decide +kernel
theorem dX10_rank_15 : decode cX10_rank 15 = .ok (.iload_n 1, 1) := by decide +kernel
theorem dX10_rank_16 : decode cX10_rank 16 = .ok (.ldc 87, 2) := by decide +kernel
theorem dX10_rank_18 : decode cX10_rank 18 = .ok (.if_icmp .ne 5, 3) := by decide +kernel
theorem dX10_rank_21 : decode cX10_rank 21 = .ok (.iconst (-1), 1) := by decide +kernel
theorem dX10_rank_22 : decode cX10_rank 22 = .ok (.ireturn, 1) := by decide +kernel
theorem dX10_rank_23 : decode cX10_rank 23 = .ok (.iload_n 0, 1) := by decide +kernel
theorem dX10_rank_24 : decode cX10_rank 24 = .ok (.iload_n 1, 1) := by decide +kernel
theorem dX10_rank_25 : decode cX10_rank 25 = .ok (.if_icmp .ge 7, 3) := by decide +kernel
theorem dX10_rank_28 : decode cX10_rank 28 = .ok (.iconst (-1), 1) := by decide +kernel
theorem dX10_rank_29 : decode cX10_rank 29 = .ok (.goto 4, 3) := by decide +kernel
theorem dX10_rank_32 : decode cX10_rank 32 = .ok (.iconst 1, 1) := by decide +kernel
theorem dX10_rank_33 : decode cX10_rank 33 = .ok (.ireturn, 1) := by decide +kernel
theorem dX10_isTable_0 : decode cX10_isTable 0 = .ok (.iload_n 1, 1) := by decide +kernel
theorem dX10_isTable_1 : decode cX10_isTable 1 = .ok (.iconst 0, 1) := by decide +kernel
theorem dX10_isTable_2 : decode cX10_isTable 2 = .ok (.bipush 7, 2) := by decide +kernel
theorem dX10_isTable_4 : decode cX10_isTable 4 = .ok (.invokestatic 88, 3) := by decide +kernel
theorem dX10_isTable_7 : decode cX10_isTable 7 = .ok (.ifCond .eq 16, 3) := by decide +kernel
theorem dX10_isTable_10 : decode cX10_isTable 10 = .ok (.aload_n 0, 1) := by decide +kernel
theorem dX10_isTable_11 : decode cX10_isTable 11 = .ok (.getfield 7, 3) := by decide +kernel
theorem dX10_isTable_14 : decode cX10_isTable 14 = .ok (.iload_n 1, 1) := by decide +kernel
theorem dX10_isTable_15 : decode cX10_isTable 15 = .ok (.iaload, 1) := by decide +kernel
theorem dX10_isTable_16 : decode cX10_isTable 16 = .ok (.ifCond .le 7, 3) := by decide +kernel
theorem dX10_isTable_19 : decode cX10_isTable 19 = .ok (.iconst 1, 1) := by decide +kernel
theorem dX10_isTable_20 : decode cX10_isTable 20 = .ok (.goto 4, 3) := by decide +kernel
theorem dX10_isTable_23 : decode cX10_isTable 23 = .ok (.iconst 0, 1) := by decide +kernel
theorem dX10_isTable_24 : decode cX10_isTable 24 = .ok (.ireturn, 1) := by decide +kernel
theorem dX10_table_0 : decode cX10_table 0 = .ok (.iload_n 1, 1) := by decide +kernel
theorem dX10_table_1 : decode cX10_table 1 = .ok (.iconst 0, 1) := by decide +kernel
theorem dX10_table_2 : decode cX10_table 2 = .ok (.bipush 7, 2) := by decide +kernel
theorem dX10_table_4 : decode cX10_table 4 = .ok (.invokestatic 88, 3) := by decide +kernel
theorem dX10_table_7 : decode cX10_table 7 = .ok (.ifCond .eq 12, 3) := by decide +kernel
theorem dX10_table_10 : decode cX10_table 10 = .ok (.iload_n 2, 1) := by decide +kernel
theorem dX10_table_11 : decode cX10_table 11 = .ok (.iconst 1, 1) := by decide +kernel
theorem dX10_table_12 : decode cX10_table 12 = .ok (.iconst 3, 1) := by decide +kernel
theorem dX10_table_13 : decode cX10_table 13 = .ok (.invokestatic 88, 3) := by decide +kernel
theorem dX10_table_16 : decode cX10_table 16 = .ok (.ifCond .ne 5, 3) := by decide +kernel
theorem dX10_table_19 : decode cX10_table 19 = .ok (.iconst 0, 1) := by decide +kernel
theorem dX10_table_20 : decode cX10_table 20 = .ok (.ireturn, 1) := by decide +kernel
theorem dX10_table_21 : decode cX10_table 21 = .ok (.iconst 0, 1) := by decide +kernel
theorem dX10_table_22 : decode cX10_table 22 = .ok (.istore_n 3, 1) := by decide +kernel
theorem dX10_table_23 : decode cX10_table 23 = .ok (.iload_n 3, 1) := by decide +kernel
theorem dX10_table_24 : decode cX10_table 24 = .ok (.aload_n 0, 1) := by decide +kernel
theorem dX10_table_25 : decode cX10_table 25 = .ok (.getfield 92, 3) := by decide +kernel
theorem dX10_table_28 : decode cX10_table 28 = .ok (.if_icmp .ge 31, 3) := by decide +kernel
theorem dX10_table_31 : decode cX10_table 31 = .ok (.aload_n 0, 1) := by decide +kernel
theorem dX10_table_32 : decode cX10_table 32 = .ok (.getfield 19, 3) := by decide +kernel
theorem dX10_table_35 : decode cX10_table 35 = .ok (.iload_n 3, 1) := by decide +kernel
theorem dX10_table_36 : decode cX10_table 36 = .ok (.iaload, 1) := by decide +kernel
theorem dX10_table_37 : decode cX10_table 37 = .ok (.iconst 1, 1) := by decide +kernel
theorem dX10_table_38 : decode cX10_table 38 = .ok (.if_icmp .gt 15, 3) := by decide +kernel
theorem dX10_table_41 : decode cX10_table 41 = .ok (.aload_n 0, 1) := by decide +kernel
theorem dX10_table_42 : decode cX10_table 42 = .ok (.getfield 22, 3) := by decide +kernel
theorem dX10_table_45 : decode cX10_table 45 = .ok (.iload_n 3, 1) := by decide +kernel
theorem dX10_table_46 : decode cX10_table 46 = .ok (.iaload, 1) := by decide +kernel
theorem dX10_table_47 : decode cX10_table 47 = .ok (.iload_n 1, 1) := by decide +kernel
theorem dX10_table_48 : decode cX10_table 48 = .ok (.if_icmp .ne 5, 3) := by decide +kernel
theorem dX10_table_51 : decode cX10_table 51 = .ok (.iconst 0, 1) := by decide +kernel
theorem dX10_table_52 : decode cX10_table 52 = .ok (.ireturn, 1) := by decide +kernel
theorem dX10_table_53 : decode cX10_table 53 = .ok (.iinc 3 1, 3) := by decide +kernel
theorem dX10_table_56 : decode cX10_table 56 = .ok (.goto (-33), 3) := by decide +kernel
theorem dX10_table_59 : decode cX10_table 59 = .ok (.aload_n 0, 1) := by decide +kernel
theorem dX10_table_60 : decode cX10_table 60 = .ok (.getfield 7, 3) := by decide +kernel
theorem dX10_table_63 : decode cX10_table 63 = .ok (.iload_n 1, 1) := by decide +kernel
theorem dX10_table_64 : decode cX10_table 64 = .ok (.iload_n 2, 1) := by decide +kernel
theorem dX10_table_65 : decode cX10_table 65 = .ok (.iastore, 1) := by decide +kernel
theorem dX10_table_66 : decode cX10_table 66 = .ok (.aload_n 0, 1) := by decide +kernel
theorem dX10_table_67 : decode cX10_table 67 = .ok (.getfield 13, 3) := by decide +kernel
theorem dX10_table_70 : decode cX10_table 70 = .ok (.iload_n 1, 1) := by decide +kernel
theorem dX10_table_71 : decode cX10_table 71 = .ok (.iconst 0, 1) := by decide +kernel
theorem dX10_table_72 : decode cX10_table 72 = .ok (.iastore, 1) := by decide +kernel
theorem dX10_table_73 : decode cX10_table 73 = .ok (.iconst 1, 1) := by decide +kernel
theorem dX10_table_74 : decode cX10_table 74 = .ok (.ireturn, 1) := by decide +kernel
theorem dX10_cell_0 : decode cX10_cell 0 = .ok (.aload_n 0, 1) := by decide +kernel
theorem dX10_cell_1 : decode cX10_cell 1 = .ok (.getfield 16, 3) := by decide +kernel
theorem dX10_cell_4 : decode cX10_cell 4 = .ok (.bipush 120, 2) := by decide +kernel
theorem dX10_cell_6 : decode cX10_cell 6 = .ok (.iload_n 1, 1) := by decide +kernel
theorem dX10_cell_7 : decode cX10_cell 7 = .ok (.imul, 1) := by decide +kernel
theorem dX10_cell_8 : decode cX10_cell 8 = .ok (.iconst 3, 1) := by decide +kernel
theorem dX10_cell_9 : decode cX10_cell 9 = .ok (.iload_n 2, 1) := by decide +kernel
theorem dX10_cell_10 : decode cX10_cell 10 = .ok (.imul, 1) := by decide +kernel
theorem dX10_cell_11 : decode cX10_cell 11 = .ok (.iadd, 1) := by decide +kernel
theorem dX10_cell_12 : decode cX10_cell 12 = .ok (.iload_n 3, 1) := by decide +kernel
theorem dX10_cell_13 : decode cX10_cell 13 = .ok (.iadd, 1) := by decide +kernel
theorem dX10_cell_14 : decode cX10_cell 14 = .ok (.iaload, 1) := by decide +kernel
theorem dX10_cell_15 : decode cX10_cell 15 = .ok (.ireturn, 1) := by decide +kernel
theorem dX10_against_0 : decode cX10_against 0 = .ok (.iconst 0, 1) := by decide +kernel
theorem dX10_against_1 : decode cX10_against 1 = .ok (.istore 6, 2) := by decide +kernel
theorem dX10_against_3 : decode cX10_against 3 = .ok (.iload 6, 2) := by decide +kernel
theorem dX10_against_5 : decode cX10_against 5 = .ok (.aload_n 0, 1) := by decide +kernel
theorem dX10_against_6 : decode cX10_against 6 = .ok (.getfield 7, 3) := by decide +kernel
theorem dX10_against_9 : decode cX10_against 9 = .ok (.iload_n 1, 1) := by decide +kernel
theorem dX10_against_10 : decode cX10_against 10 = .ok (.iaload, 1) := by decide +kernel
theorem dX10_against_11 : decode cX10_against 11 = .ok (.if_icmp .ge 52, 3) := by decide +kernel
theorem dX10_against_14 : decode cX10_against 14 = .ok (.aload_n 0, 1) := by decide +kernel
theorem dX10_against_15 : decode cX10_against 15 = .ok (.iload_n 1, 1) := by decide +kernel
theorem dX10_against_16 : decode cX10_against 16 = .ok (.iload_n 2, 1) := by decide +kernel
theorem dX10_against_17 : decode cX10_against 17 = .ok (.iload 6, 2) := by decide +kernel
theorem dX10_against_19 : decode cX10_against 19 = .ok (.invokevirtual 95, 3) := by decide +kernel
theorem dX10_against_22 : decode cX10_against 22 = .ok (.iload 6, 2) := by decide +kernel
theorem dX10_against_24 : decode cX10_against 24 = .ok (.ifCond .ne 7, 3) := by decide +kernel
theorem dX10_against_27 : decode cX10_against 27 = .ok (.iload_n 3, 1) := by decide +kernel
theorem dX10_against_28 : decode cX10_against 28 = .ok (.goto 16, 3) := by decide +kernel
theorem dX10_against_31 : decode cX10_against 31 = .ok (.iload 6, 2) := by decide +kernel
theorem dX10_against_33 : decode cX10_against 33 = .ok (.iconst 1, 1) := by decide +kernel
theorem dX10_against_34 : decode cX10_against 34 = .ok (.if_icmp .ne 8, 3) := by decide +kernel
theorem dX10_against_37 : decode cX10_against 37 = .ok (.iload 4, 2) := by decide +kernel
theorem dX10_against_39 : decode cX10_against 39 = .ok (.goto 5, 3) := by decide +kernel
theorem dX10_against_42 : decode cX10_against 42 = .ok (.iload 5, 2) := by decide +kernel
theorem dX10_against_44 : decode cX10_against 44 = .ok (.invokestatic 99, 3) := by decide +kernel
theorem dX10_against_47 : decode cX10_against 47 = .ok (.istore 7, 2) := by decide +kernel
theorem dX10_against_49 : decode cX10_against 49 = .ok (.iload 7, 2) := by decide +kernel
theorem dX10_against_51 : decode cX10_against 51 = .ok (.ifCond .eq 6, 3) := by decide +kernel
theorem dX10_against_54 : decode cX10_against 54 = .ok (.iload 7, 2) := by decide +kernel
theorem dX10_against_56 : decode cX10_against 56 = .ok (.ireturn, 1) := by decide +kernel
theorem dX10_against_57 : decode cX10_against 57 = .ok (.iinc 6 1, 3) := by decide +kernel
theorem dX10_against_60 : decode cX10_against 60 = .ok (.goto (-57), 3) := by decide +kernel
theorem dX10_against_63 : decode cX10_against 63 = .ok (.iconst 0, 1) := by decide +kernel
theorem dX10_against_64 : decode cX10_against 64 = .ok (.ireturn, 1) := by decide +kernel
theorem dX10_find_0 : decode cX10_find 0 = .ok (.iconst 0, 1) := by decide +kernel
theorem dX10_find_1 : decode cX10_find 1 = .ok (.istore 5, 2) := by decide +kernel
theorem dX10_find_3 : decode cX10_find 3 = .ok (.iload 5, 2) := by decide +kernel
theorem dX10_find_5 : decode cX10_find 5 = .ok (.aload_n 0, 1) := by decide +kernel
theorem dX10_find_6 : decode cX10_find 6 = .ok (.getfield 13, 3) := by decide +kernel
theorem dX10_find_9 : decode cX10_find 9 = .ok (.iload_n 1, 1) := by decide +kernel
theorem dX10_find_10 : decode cX10_find 10 = .ok (.iaload, 1) := by decide +kernel
theorem dX10_find_11 : decode cX10_find 11 = .ok (.if_icmp .ge 26, 3) := by decide +kernel
theorem dX10_find_14 : decode cX10_find 14 = .ok (.aload_n 0, 1) := by decide +kernel
theorem dX10_find_15 : decode cX10_find 15 = .ok (.iload_n 1, 1) := by decide +kernel
theorem dX10_find_16 : decode cX10_find 16 = .ok (.iload 5, 2) := by decide +kernel
theorem dX10_find_18 : decode cX10_find 18 = .ok (.iload_n 2, 1) := by decide +kernel
theorem dX10_find_19 : decode cX10_find 19 = .ok (.iload_n 3, 1) := by decide +kernel
theorem dX10_find_20 : decode cX10_find 20 = .ok (.iload 4, 2) := by decide +kernel
theorem dX10_find_22 : decode cX10_find 22 = .ok (.invokevirtual 103, 3) := by decide +kernel
theorem dX10_find_25 : decode cX10_find 25 = .ok (.ifCond .ne 6, 3) := by decide +kernel
theorem dX10_find_28 : decode cX10_find 28 = .ok (.iload 5, 2) := by decide +kernel
theorem dX10_find_30 : decode cX10_find 30 = .ok (.ireturn, 1) := by decide +kernel
theorem dX10_find_31 : decode cX10_find 31 = .ok (.iinc 5 1, 3) := by decide +kernel
theorem dX10_find_34 : decode cX10_find 34 = .ok (.goto (-31), 3) := by decide +kernel
theorem dX10_find_37 : decode cX10_find 37 = .ok (.iconst (-1), 1) := by decide +kernel
theorem dX10_find_38 : decode cX10_find 38 = .ok (.ireturn, 1) := by decide +kernel
theorem dX10_moves_0 : decode cX10_moves 0 = .ok (.iconst 0, 1) := by decide +kernel
theorem dX10_moves_1 : decode cX10_moves 1 = .ok (.istore 4, 2) := by decide +kernel
theorem dX10_moves_3 : decode cX10_moves 3 = .ok (.iload 4, 2) := by decide +kernel
theorem dX10_moves_5 : decode cX10_moves 5 = .ok (.iconst 3, 1) := by decide +kernel
theorem dX10_moves_6 : decode cX10_moves 6 = .ok (.if_icmp .ge 41, 3) := by decide +kernel
theorem dX10_moves_9 : decode cX10_moves 9 = .ok (.aload_n 0, 1) := by decide +kernel
theorem dX10_moves_10 : decode cX10_moves 10 = .ok (.getfield 16, 3) := by decide +kernel
theorem dX10_moves_13 : decode cX10_moves 13 = .ok (.bipush 120, 2) := by decide +kernel
theorem dX10_moves_15 : decode cX10_moves 15 = .ok (.iload_n 1, 1) := by decide +kernel
theorem dX10_moves_16 : decode cX10_moves 16 = .ok (.imul, 1) := by decide +kernel
theorem dX10_moves_17 : decode cX10_moves 17 = .ok (.iconst 3, 1) := by decide +kernel
theorem dX10_moves_18 : decode cX10_moves 18 = .ok (.iload_n 3, 1) := by decide +kernel
theorem dX10_moves_19 : decode cX10_moves 19 = .ok (.imul, 1) := by decide +kernel
theorem dX10_moves_20 : decode cX10_moves 20 = .ok (.iadd, 1) := by decide +kernel
theorem dX10_moves_21 : decode cX10_moves 21 = .ok (.iload 4, 2) := by decide +kernel
theorem dX10_moves_23 : decode cX10_moves 23 = .ok (.iadd, 1) := by decide +kernel
theorem dX10_moves_24 : decode cX10_moves 24 = .ok (.aload_n 0, 1) := by decide +kernel
theorem dX10_moves_25 : decode cX10_moves 25 = .ok (.getfield 16, 3) := by decide +kernel
theorem dX10_moves_28 : decode cX10_moves 28 = .ok (.bipush 120, 2) := by decide +kernel
theorem dX10_moves_30 : decode cX10_moves 30 = .ok (.iload_n 1, 1) := by decide +kernel
theorem dX10_moves_31 : decode cX10_moves 31 = .ok (.imul, 1) := by decide +kernel
theorem dX10_moves_32 : decode cX10_moves 32 = .ok (.iconst 3, 1) := by decide +kernel
theorem dX10_moves_33 : decode cX10_moves 33 = .ok (.iload_n 2, 1) := by decide +kernel
theorem dX10_moves_34 : decode cX10_moves 34 = .ok (.imul, 1) := by decide +kernel
theorem dX10_moves_35 : decode cX10_moves 35 = .ok (.iadd, 1) := by decide +kernel
theorem dX10_moves_36 : decode cX10_moves 36 = .ok (.iload 4, 2) := by decide +kernel
theorem dX10_moves_38 : decode cX10_moves 38 = .ok (.iadd, 1) := by decide +kernel
theorem dX10_moves_39 : decode cX10_moves 39 = .ok (.iaload, 1) := by decide +kernel
theorem dX10_moves_40 : decode cX10_moves 40 = .ok (.iastore, 1) := by decide +kernel
theorem dX10_moves_41 : decode cX10_moves 41 = .ok (.iinc 4 1, 3) := by decide +kernel
theorem dX10_moves_44 : decode cX10_moves 44 = .ok (.goto (-41), 3) := by decide +kernel
theorem dX10_moves_47 : decode cX10_moves 47 = .ok (.return_, 1) := by decide +kernel
theorem dX10_put_0 : decode cX10_put 0 = .ok (.aload_n 0, 1) := by decide +kernel
theorem dX10_put_1 : decode cX10_put 1 = .ok (.iload_n 1, 1) := by decide +kernel
theorem dX10_put_2 : decode cX10_put 2 = .ok (.invokevirtual 107, 3) := by decide +kernel
theorem dX10_put_5 : decode cX10_put 5 = .ok (.ifCond .ne 5, 3) := by decide +kernel
theorem dX10_put_8 : decode cX10_put 8 = .ok (.iconst (-1), 1) := by decide +kernel
theorem dX10_put_9 : decode cX10_put 9 = .ok (.ireturn, 1) := by decide +kernel
theorem dX10_put_10 : decode cX10_put 10 = .ok (.aload_n 0, 1) := by decide +kernel
theorem dX10_put_11 : decode cX10_put 11 = .ok (.iload_n 1, 1) := by decide +kernel
theorem dX10_put_12 : decode cX10_put 12 = .ok (.iload_n 2, 1) := by decide +kernel
theorem dX10_put_13 : decode cX10_put 13 = .ok (.iload_n 3, 1) := by decide +kernel
theorem dX10_put_14 : decode cX10_put 14 = .ok (.iload 4, 2) := by decide +kernel
theorem dX10_put_16 : decode cX10_put 16 = .ok (.invokevirtual 111, 3) := by decide +kernel
theorem dX10_put_19 : decode cX10_put 19 = .ok (.iconst (-1), 1) := by decide +kernel
theorem dX10_put_20 : decode cX10_put 20 = .ok (.if_icmp .eq 5, 3) := by decide +kernel
theorem dX10_put_23 : decode cX10_put 23 = .ok (.iconst 0, 1) := by decide +kernel
theorem dX10_put_24 : decode cX10_put 24 = .ok (.ireturn, 1) := by decide +kernel
theorem dX10_put_25 : decode cX10_put 25 = .ok (.aload_n 0, 1) := by decide +kernel
theorem dX10_put_26 : decode cX10_put 26 = .ok (.getfield 13, 3) := by decide +kernel
theorem dX10_put_29 : decode cX10_put 29 = .ok (.iload_n 1, 1) := by decide +kernel
theorem dX10_put_30 : decode cX10_put 30 = .ok (.iaload, 1) := by decide +kernel
theorem dX10_put_31 : decode cX10_put 31 = .ok (.bipush 40, 2) := by decide +kernel
theorem dX10_put_33 : decode cX10_put 33 = .ok (.if_icmp .ne 5, 3) := by decide +kernel
theorem dX10_put_36 : decode cX10_put 36 = .ok (.iconst (-1), 1) := by decide +kernel
theorem dX10_put_37 : decode cX10_put 37 = .ok (.ireturn, 1) := by decide +kernel
theorem dX10_put_38 : decode cX10_put 38 = .ok (.aload_n 0, 1) := by decide +kernel
theorem dX10_put_39 : decode cX10_put 39 = .ok (.getfield 13, 3) := by decide +kernel
theorem dX10_put_42 : decode cX10_put 42 = .ok (.iload_n 1, 1) := by decide +kernel
theorem dX10_put_43 : decode cX10_put 43 = .ok (.iaload, 1) := by decide +kernel
theorem dX10_put_44 : decode cX10_put 44 = .ok (.istore 5, 2) := by decide +kernel
theorem dX10_put_46 : decode cX10_put 46 = .ok (.iload 5, 2) := by decide +kernel
theorem dX10_put_48 : decode cX10_put 48 = .ok (.ifCond .le 36, 3) := by decide +kernel
theorem dX10_put_51 : decode cX10_put 51 = .ok (.aload_n 0, 1) := by decide +kernel
theorem dX10_put_52 : decode cX10_put 52 = .ok (.iload_n 1, 1) := by decide +kernel
theorem dX10_put_53 : decode cX10_put 53 = .ok (.iload 5, 2) := by decide +kernel
theorem dX10_put_55 : decode cX10_put 55 = .ok (.iconst 1, 1) := by decide +kernel
theorem dX10_put_56 : decode cX10_put 56 = .ok (.isub, 1) := by decide +kernel
theorem dX10_put_57 : decode cX10_put 57 = .ok (.iload_n 2, 1) := by decide +kernel
theorem dX10_put_58 : decode cX10_put 58 = .ok (.iload_n 3, 1) := by decide +kernel
theorem dX10_put_59 : decode cX10_put 59 = .ok (.iload 4, 2) := by decide +kernel
theorem dX10_put_61 : decode cX10_put 61 = .ok (.invokevirtual 103, 3) := by decide +kernel
theorem dX10_put_64 : decode cX10_put 64 = .ok (.ifCond .le 20, 3) := by decide +kernel
theorem dX10_put_67 : decode cX10_put 67 = .ok (.aload_n 0, 1) := by decide +kernel
theorem dX10_put_68 : decode cX10_put 68 = .ok (.iload_n 1, 1) := by decide +kernel
theorem dX10_put_69 : decode cX10_put 69 = .ok (.iload 5, 2) := by decide +kernel
theorem dX10_put_71 : decode cX10_put 71 = .ok (.iconst 1, 1) := by decide +kernel
theorem dX10_put_72 : decode cX10_put 72 = .ok (.isub, 1) := by decide +kernel
theorem dX10_put_73 : decode cX10_put 73 = .ok (.iload 5, 2) := by decide +kernel
theorem dX10_put_75 : decode cX10_put 75 = .ok (.invokevirtual 115, 3) := by decide +kernel
theorem dX10_put_78 : decode cX10_put 78 = .ok (.iinc 5 (-1), 3) := by decide +kernel
theorem dX10_put_81 : decode cX10_put 81 = .ok (.goto (-35), 3) := by decide +kernel
theorem dX10_put_84 : decode cX10_put 84 = .ok (.aload_n 0, 1) := by decide +kernel
theorem dX10_put_85 : decode cX10_put 85 = .ok (.getfield 16, 3) := by decide +kernel
theorem dX10_put_88 : decode cX10_put 88 = .ok (.bipush 120, 2) := by decide +kernel
theorem dX10_put_90 : decode cX10_put 90 = .ok (.iload_n 1, 1) := by decide +kernel
theorem dX10_put_91 : decode cX10_put 91 = .ok (.imul, 1) := by decide +kernel
theorem dX10_put_92 : decode cX10_put 92 = .ok (.iconst 3, 1) := by decide +kernel
theorem dX10_put_93 : decode cX10_put 93 = .ok (.iload 5, 2) := by decide +kernel
theorem dX10_put_95 : decode cX10_put 95 = .ok (.imul, 1) := by decide +kernel
theorem dX10_put_96 : decode cX10_put 96 = .ok (.iadd, 1) := by decide +kernel
theorem dX10_put_97 : decode cX10_put 97 = .ok (.iload_n 2, 1) := by decide +kernel
theorem dX10_put_98 : decode cX10_put 98 = .ok (.iastore, 1) := by decide +kernel
theorem dX10_put_99 : decode cX10_put 99 = .ok (.aload_n 0, 1) := by decide +kernel
theorem dX10_put_100 : decode cX10_put 100 = .ok (.getfield 16, 3) := by decide +kernel
theorem dX10_put_103 : decode cX10_put 103 = .ok (.bipush 120, 2) := by decide +kernel
theorem dX10_put_105 : decode cX10_put 105 = .ok (.iload_n 1, 1) := by decide +kernel
theorem dX10_put_106 : decode cX10_put 106 = .ok (.imul, 1) := by decide +kernel
theorem dX10_put_107 : decode cX10_put 107 = .ok (.iconst 3, 1) := by decide +kernel
theorem dX10_put_108 : decode cX10_put 108 = .ok (.iload 5, 2) := by decide +kernel
theorem dX10_put_110 : decode cX10_put 110 = .ok (.imul, 1) := by decide +kernel
theorem dX10_put_111 : decode cX10_put 111 = .ok (.iadd, 1) := by decide +kernel
theorem dX10_put_112 : decode cX10_put 112 = .ok (.iconst 1, 1) := by decide +kernel
theorem dX10_put_113 : decode cX10_put 113 = .ok (.iadd, 1) := by decide +kernel
theorem dX10_put_114 : decode cX10_put 114 = .ok (.iload_n 3, 1) := by decide +kernel
theorem dX10_put_115 : decode cX10_put 115 = .ok (.iastore, 1) := by decide +kernel
theorem dX10_put_116 : decode cX10_put 116 = .ok (.aload_n 0, 1) := by decide +kernel
theorem dX10_put_117 : decode cX10_put 117 = .ok (.getfield 16, 3) := by decide +kernel
theorem dX10_put_120 : decode cX10_put 120 = .ok (.bipush 120, 2) := by decide +kernel
theorem dX10_put_122 : decode cX10_put 122 = .ok (.iload_n 1, 1) := by decide +kernel
theorem dX10_put_123 : decode cX10_put 123 = .ok (.imul, 1) := by decide +kernel
theorem dX10_put_124 : decode cX10_put 124 = .ok (.iconst 3, 1) := by decide +kernel
theorem dX10_put_125 : decode cX10_put 125 = .ok (.iload 5, 2) := by decide +kernel
theorem dX10_put_127 : decode cX10_put 127 = .ok (.imul, 1) := by decide +kernel
theorem dX10_put_128 : decode cX10_put 128 = .ok (.iadd, 1) := by decide +kernel
theorem dX10_put_129 : decode cX10_put 129 = .ok (.iconst 2, 1) := by decide +kernel
theorem dX10_put_130 : decode cX10_put 130 = .ok (.iadd, 1) := by decide +kernel
theorem dX10_put_131 : decode cX10_put 131 = .ok (.iload 4, 2) := by decide +kernel
theorem dX10_put_133 : decode cX10_put 133 = .ok (.iastore, 1) := by decide +kernel
theorem dX10_put_134 : decode cX10_put 134 = .ok (.aload_n 0, 1) := by decide +kernel
theorem dX10_put_135 : decode cX10_put 135 = .ok (.getfield 13, 3) := by decide +kernel
theorem dX10_put_138 : decode cX10_put 138 = .ok (.iload_n 1, 1) := by decide +kernel
theorem dX10_put_139 : decode cX10_put 139 = .ok (.dup2, 1) := by decide +kernel
theorem dX10_put_140 : decode cX10_put 140 = .ok (.iaload, 1) := by decide +kernel
theorem dX10_put_141 : decode cX10_put 141 = .ok (.iconst 1, 1) := by decide +kernel
theorem dX10_put_142 : decode cX10_put 142 = .ok (.iadd, 1) := by decide +kernel
theorem dX10_put_143 : decode cX10_put 143 = .ok (.iastore, 1) := by decide +kernel
theorem dX10_put_144 : decode cX10_put 144 = .ok (.iconst 1, 1) := by decide +kernel
theorem dX10_put_145 : decode cX10_put 145 = .ok (.ireturn, 1) := by decide +kernel
theorem dX10_drop_0 : decode cX10_drop 0 = .ok (.aload_n 0, 1) := by decide +kernel
theorem dX10_drop_1 : decode cX10_drop 1 = .ok (.iload_n 1, 1) := by decide +kernel
theorem dX10_drop_2 : decode cX10_drop 2 = .ok (.invokevirtual 107, 3) := by decide +kernel
theorem dX10_drop_5 : decode cX10_drop 5 = .ok (.ifCond .eq 15, 3) := by decide +kernel
theorem dX10_drop_8 : decode cX10_drop 8 = .ok (.aload_n 0, 1) := by decide +kernel
theorem dX10_drop_9 : decode cX10_drop 9 = .ok (.iload_n 1, 1) := by decide +kernel
theorem dX10_drop_10 : decode cX10_drop 10 = .ok (.iload_n 2, 1) := by decide +kernel
theorem dX10_drop_11 : decode cX10_drop 11 = .ok (.iload_n 3, 1) := by decide +kernel
theorem dX10_drop_12 : decode cX10_drop 12 = .ok (.iload 4, 2) := by decide +kernel
theorem dX10_drop_14 : decode cX10_drop 14 = .ok (.invokevirtual 111, 3) := by decide +kernel
theorem dX10_drop_17 : decode cX10_drop 17 = .ok (.goto 4, 3) := by decide +kernel
theorem dX10_drop_20 : decode cX10_drop 20 = .ok (.iconst (-1), 1) := by decide +kernel
theorem dX10_drop_21 : decode cX10_drop 21 = .ok (.istore 5, 2) := by decide +kernel
theorem dX10_drop_23 : decode cX10_drop 23 = .ok (.iload 5, 2) := by decide +kernel
theorem dX10_drop_25 : decode cX10_drop 25 = .ok (.iconst (-1), 1) := by decide +kernel
theorem dX10_drop_26 : decode cX10_drop 26 = .ok (.if_icmp .ne 5, 3) := by decide +kernel
theorem dX10_drop_29 : decode cX10_drop 29 = .ok (.iconst 0, 1) := by decide +kernel
theorem dX10_drop_30 : decode cX10_drop 30 = .ok (.ireturn, 1) := by decide +kernel
theorem dX10_drop_31 : decode cX10_drop 31 = .ok (.aload_n 0, 1) := by decide +kernel
theorem dX10_drop_32 : decode cX10_drop 32 = .ok (.getfield 13, 3) := by decide +kernel
theorem dX10_drop_35 : decode cX10_drop 35 = .ok (.iload_n 1, 1) := by decide +kernel
theorem dX10_drop_36 : decode cX10_drop 36 = .ok (.dup2, 1) := by decide +kernel
theorem dX10_drop_37 : decode cX10_drop 37 = .ok (.iaload, 1) := by decide +kernel
theorem dX10_drop_38 : decode cX10_drop 38 = .ok (.iconst 1, 1) := by decide +kernel
theorem dX10_drop_39 : decode cX10_drop 39 = .ok (.isub, 1) := by decide +kernel
theorem dX10_drop_40 : decode cX10_drop 40 = .ok (.iastore, 1) := by decide +kernel
theorem dX10_drop_41 : decode cX10_drop 41 = .ok (.iload 5, 2) := by decide +kernel
theorem dX10_drop_43 : decode cX10_drop 43 = .ok (.istore 6, 2) := by decide +kernel
theorem dX10_drop_45 : decode cX10_drop 45 = .ok (.iload 6, 2) := by decide +kernel
theorem dX10_drop_47 : decode cX10_drop 47 = .ok (.aload_n 0, 1) := by decide +kernel
theorem dX10_drop_48 : decode cX10_drop 48 = .ok (.getfield 13, 3) := by decide +kernel
theorem dX10_drop_51 : decode cX10_drop 51 = .ok (.iload_n 1, 1) := by decide +kernel
theorem dX10_drop_52 : decode cX10_drop 52 = .ok (.iaload, 1) := by decide +kernel
theorem dX10_drop_53 : decode cX10_drop 53 = .ok (.if_icmp .ge 20, 3) := by decide +kernel
theorem dX10_drop_56 : decode cX10_drop 56 = .ok (.aload_n 0, 1) := by decide +kernel
theorem dX10_drop_57 : decode cX10_drop 57 = .ok (.iload_n 1, 1) := by decide +kernel
theorem dX10_drop_58 : decode cX10_drop 58 = .ok (.iload 6, 2) := by decide +kernel
theorem dX10_drop_60 : decode cX10_drop 60 = .ok (.iconst 1, 1) := by decide +kernel
theorem dX10_drop_61 : decode cX10_drop 61 = .ok (.iadd, 1) := by decide +kernel
theorem dX10_drop_62 : decode cX10_drop 62 = .ok (.iload 6, 2) := by decide +kernel
theorem dX10_drop_64 : decode cX10_drop 64 = .ok (.invokevirtual 115, 3) := by decide +kernel
theorem dX10_drop_67 : decode cX10_drop 67 = .ok (.iinc 6 1, 3) := by decide +kernel
theorem dX10_drop_70 : decode cX10_drop 70 = .ok (.goto (-25), 3) := by decide +kernel
theorem dX10_drop_73 : decode cX10_drop 73 = .ok (.iconst 1, 1) := by decide +kernel
theorem dX10_drop_74 : decode cX10_drop 74 = .ok (.ireturn, 1) := by decide +kernel
theorem dX10_rows_0 : decode cX10_rows 0 = .ok (.aload_n 0, 1) := by decide +kernel
theorem dX10_rows_1 : decode cX10_rows 1 = .ok (.iload_n 1, 1) := by decide +kernel
theorem dX10_rows_2 : decode cX10_rows 2 = .ok (.invokevirtual 107, 3) := by decide +kernel
theorem dX10_rows_5 : decode cX10_rows 5 = .ok (.ifCond .eq 12, 3) := by decide +kernel
theorem dX10_rows_8 : decode cX10_rows 8 = .ok (.aload_n 0, 1) := by decide +kernel
theorem dX10_rows_9 : decode cX10_rows 9 = .ok (.getfield 13, 3) := by decide +kernel
theorem dX10_rows_12 : decode cX10_rows 12 = .ok (.iload_n 1, 1) := by decide +kernel
theorem dX10_rows_13 : decode cX10_rows 13 = .ok (.iaload, 1) := by decide +kernel
theorem dX10_rows_14 : decode cX10_rows 14 = .ok (.goto 4, 3) := by decide +kernel
theorem dX10_rows_17 : decode cX10_rows 17 = .ok (.iconst (-1), 1) := by decide +kernel
theorem dX10_rows_18 : decode cX10_rows 18 = .ok (.ireturn, 1) := by decide +kernel
theorem dX10_row_0 : decode cX10_row 0 = .ok (.aload_n 0, 1) := by decide +kernel
theorem dX10_row_1 : decode cX10_row 1 = .ok (.iload_n 1, 1) := by decide +kernel
theorem dX10_row_2 : decode cX10_row 2 = .ok (.invokevirtual 107, 3) := by decide +kernel
theorem dX10_row_5 : decode cX10_row 5 = .ok (.ifCond .eq 45, 3) := by decide +kernel
theorem dX10_row_8 : decode cX10_row 8 = .ok (.iload_n 2, 1) := by decide +kernel
theorem dX10_row_9 : decode cX10_row 9 = .ok (.iconst 0, 1) := by decide +kernel
theorem dX10_row_10 : decode cX10_row 10 = .ok (.aload_n 0, 1) := by decide +kernel
theorem dX10_row_11 : decode cX10_row 11 = .ok (.getfield 13, 3) := by decide +kernel
theorem dX10_row_14 : decode cX10_row 14 = .ok (.iload_n 1, 1) := by decide +kernel
theorem dX10_row_15 : decode cX10_row 15 = .ok (.iaload, 1) := by decide +kernel
theorem dX10_row_16 : decode cX10_row 16 = .ok (.iconst 1, 1) := by decide +kernel
theorem dX10_row_17 : decode cX10_row 17 = .ok (.isub, 1) := by decide +kernel
theorem dX10_row_18 : decode cX10_row 18 = .ok (.invokestatic 88, 3) := by decide +kernel
theorem dX10_row_21 : decode cX10_row 21 = .ok (.ifCond .eq 29, 3) := by decide +kernel
theorem dX10_row_24 : decode cX10_row 24 = .ok (.iload_n 3, 1) := by decide +kernel
theorem dX10_row_25 : decode cX10_row 25 = .ok (.iconst 0, 1) := by decide +kernel
theorem dX10_row_26 : decode cX10_row 26 = .ok (.aload_n 0, 1) := by decide +kernel
theorem dX10_row_27 : decode cX10_row 27 = .ok (.getfield 7, 3) := by decide +kernel
theorem dX10_row_30 : decode cX10_row 30 = .ok (.iload_n 1, 1) := by decide +kernel
theorem dX10_row_31 : decode cX10_row 31 = .ok (.iaload, 1) := by decide +kernel
theorem dX10_row_32 : decode cX10_row 32 = .ok (.iconst 1, 1) := by decide +kernel
theorem dX10_row_33 : decode cX10_row 33 = .ok (.isub, 1) := by decide +kernel
theorem dX10_row_34 : decode cX10_row 34 = .ok (.invokestatic 88, 3) := by decide +kernel
theorem dX10_row_37 : decode cX10_row 37 = .ok (.ifCond .eq 13, 3) := by decide +kernel
theorem dX10_row_40 : decode cX10_row 40 = .ok (.aload_n 0, 1) := by decide +kernel
theorem dX10_row_41 : decode cX10_row 41 = .ok (.iload_n 1, 1) := by decide +kernel
theorem dX10_row_42 : decode cX10_row 42 = .ok (.iload_n 2, 1) := by decide +kernel
theorem dX10_row_43 : decode cX10_row 43 = .ok (.iload_n 3, 1) := by decide +kernel
theorem dX10_row_44 : decode cX10_row 44 = .ok (.invokevirtual 95, 3) := by decide +kernel
theorem dX10_row_47 : decode cX10_row 47 = .ok (.goto 4, 3) := by decide +kernel
theorem dX10_row_50 : decode cX10_row 50 = .ok (.iconst 0, 1) := by decide +kernel
theorem dX10_row_51 : decode cX10_row 51 = .ok (.ireturn, 1) := by decide +kernel
theorem dX10_ask_0 : decode cX10_ask 0 = .ok (.iload_n 1, 1) := by decide +kernel
theorem dX10_ask_1 : decode cX10_ask 1 = .ok (.iconst 1, 1) := by decide +kernel
theorem dX10_ask_2 : decode cX10_ask 2 = .ok (.bipush 6, 2) := by decide +kernel
theorem dX10_ask_4 : decode cX10_ask 4 = .ok (.invokestatic 88, 3) := by decide +kernel
theorem dX10_ask_7 : decode cX10_ask 7 = .ok (.ifCond .ne 5, 3) := by decide +kernel
theorem dX10_ask_10 : decode cX10_ask 10 = .ok (.iconst 0, 1) := by decide +kernel
theorem dX10_ask_11 : decode cX10_ask 11 = .ok (.ireturn, 1) := by decide +kernel
theorem dX10_ask_12 : decode cX10_ask 12 = .ok (.aload_n 0, 1) := by decide +kernel
theorem dX10_ask_13 : decode cX10_ask 13 = .ok (.iload_n 1, 1) := by decide +kernel
theorem dX10_ask_14 : decode cX10_ask 14 = .ok (.putfield 119, 3) := by decide +kernel
theorem dX10_ask_17 : decode cX10_ask 17 = .ok (.aload_n 0, 1) := by decide +kernel
theorem dX10_ask_18 : decode cX10_ask 18 = .ok (.iconst 0, 1) := by decide +kernel
theorem dX10_ask_19 : decode cX10_ask 19 = .ok (.putfield 92, 3) := by decide +kernel
theorem dX10_ask_22 : decode cX10_ask 22 = .ok (.iconst 0, 1) := by decide +kernel
theorem dX10_ask_23 : decode cX10_ask 23 = .ok (.istore_n 2, 1) := by decide +kernel
theorem dX10_ask_24 : decode cX10_ask 24 = .ok (.iload_n 2, 1) := by decide +kernel
theorem dX10_ask_25 : decode cX10_ask 25 = .ok (.bipush 6, 2) := by decide +kernel
theorem dX10_ask_27 : decode cX10_ask 27 = .ok (.if_icmp .ge 16, 3) := by decide +kernel
theorem dX10_ask_30 : decode cX10_ask 30 = .ok (.aload_n 0, 1) := by decide +kernel
theorem dX10_ask_31 : decode cX10_ask 31 = .ok (.getfield 34, 3) := by decide +kernel
theorem dX10_ask_34 : decode cX10_ask 34 = .ok (.iload_n 2, 1) := by decide +kernel
theorem dX10_ask_35 : decode cX10_ask 35 = .ok (.iload_n 2, 1) := by decide +kernel
theorem dX10_ask_36 : decode cX10_ask 36 = .ok (.iastore, 1) := by decide +kernel
theorem dX10_ask_37 : decode cX10_ask 37 = .ok (.iinc 2 1, 3) := by decide +kernel
theorem dX10_ask_40 : decode cX10_ask 40 = .ok (.goto (-16), 3) := by decide +kernel
theorem dX10_ask_43 : decode cX10_ask 43 = .ok (.iconst 1, 1) := by decide +kernel
theorem dX10_ask_44 : decode cX10_ask 44 = .ok (.ireturn, 1) := by decide +kernel
theorem dX10_part_0 : decode cX10_part 0 = .ok (.aload_n 0, 1) := by decide +kernel
theorem dX10_part_1 : decode cX10_part 1 = .ok (.getfield 119, 3) := by decide +kernel
theorem dX10_part_4 : decode cX10_part 4 = .ok (.ifCond .eq 29, 3) := by decide +kernel
theorem dX10_part_7 : decode cX10_part 7 = .ok (.iload_n 1, 1) := by decide +kernel
theorem dX10_part_8 : decode cX10_part 8 = .ok (.iconst 0, 1) := by decide +kernel
theorem dX10_part_9 : decode cX10_part 9 = .ok (.iconst 1, 1) := by decide +kernel
theorem dX10_part_10 : decode cX10_part 10 = .ok (.invokestatic 88, 3) := by decide +kernel
theorem dX10_part_13 : decode cX10_part 13 = .ok (.ifCond .eq 20, 3) := by decide +kernel
theorem dX10_part_16 : decode cX10_part 16 = .ok (.aload_n 0, 1) := by decide +kernel
theorem dX10_part_17 : decode cX10_part 17 = .ok (.iload_n 2, 1) := by decide +kernel
theorem dX10_part_18 : decode cX10_part 18 = .ok (.invokevirtual 107, 3) := by decide +kernel
theorem dX10_part_21 : decode cX10_part 21 = .ok (.ifCond .eq 12, 3) := by decide +kernel
theorem dX10_part_24 : decode cX10_part 24 = .ok (.aload_n 0, 1) := by decide +kernel
theorem dX10_part_25 : decode cX10_part 25 = .ok (.getfield 92, 3) := by decide +kernel
theorem dX10_part_28 : decode cX10_part 28 = .ok (.bipush 10, 2) := by decide +kernel
theorem dX10_part_30 : decode cX10_part 30 = .ok (.if_icmp .ne 5, 3) := by decide +kernel
theorem dX10_part_33 : decode cX10_part 33 = .ok (.iconst (-1), 1) := by decide +kernel
theorem dX10_part_34 : decode cX10_part 34 = .ok (.ireturn, 1) := by decide +kernel
theorem dX10_part_35 : decode cX10_part 35 = .ok (.iconst 0, 1) := by decide +kernel
theorem dX10_part_36 : decode cX10_part 36 = .ok (.istore_n 3, 1) := by decide +kernel
theorem dX10_part_37 : decode cX10_part 37 = .ok (.iconst 0, 1) := by decide +kernel
theorem dX10_part_38 : decode cX10_part 38 = .ok (.istore 4, 2) := by decide +kernel
theorem dX10_part_40 : decode cX10_part 40 = .ok (.iload 4, 2) := by decide +kernel
theorem dX10_part_42 : decode cX10_part 42 = .ok (.aload_n 0, 1) := by decide +kernel
theorem dX10_part_43 : decode cX10_part 43 = .ok (.getfield 92, 3) := by decide +kernel
theorem dX10_part_46 : decode cX10_part 46 = .ok (.if_icmp .ge 27, 3) := by decide +kernel
theorem dX10_part_49 : decode cX10_part 49 = .ok (.iload_n 3, 1) := by decide +kernel
theorem dX10_part_50 : decode cX10_part 50 = .ok (.aload_n 0, 1) := by decide +kernel
theorem dX10_part_51 : decode cX10_part 51 = .ok (.getfield 19, 3) := by decide +kernel
theorem dX10_part_54 : decode cX10_part 54 = .ok (.iload 4, 2) := by decide +kernel
theorem dX10_part_56 : decode cX10_part 56 = .ok (.iaload, 1) := by decide +kernel
theorem dX10_part_57 : decode cX10_part 57 = .ok (.ifCond .ne 7, 3) := by decide +kernel
theorem dX10_part_60 : decode cX10_part 60 = .ok (.iconst 1, 1) := by decide +kernel
theorem dX10_part_61 : decode cX10_part 61 = .ok (.goto 4, 3) := by decide +kernel
theorem dX10_part_64 : decode cX10_part 64 = .ok (.iconst 0, 1) := by decide +kernel
theorem dX10_part_65 : decode cX10_part 65 = .ok (.iadd, 1) := by decide +kernel
theorem dX10_part_66 : decode cX10_part 66 = .ok (.istore_n 3, 1) := by decide +kernel
theorem dX10_part_67 : decode cX10_part 67 = .ok (.iinc 4 1, 3) := by decide +kernel
theorem dX10_part_70 : decode cX10_part 70 = .ok (.goto (-30), 3) := by decide +kernel
theorem dX10_part_73 : decode cX10_part 73 = .ok (.iload_n 1, 1) := by decide +kernel
theorem dX10_part_74 : decode cX10_part 74 = .ok (.ifCond .ne 10, 3) := by decide +kernel
theorem dX10_part_77 : decode cX10_part 77 = .ok (.iload_n 3, 1) := by decide +kernel
theorem dX10_part_78 : decode cX10_part 78 = .ok (.iconst 5, 1) := by decide +kernel
theorem dX10_part_79 : decode cX10_part 79 = .ok (.if_icmp .ne 5, 3) := by decide +kernel
theorem dX10_part_82 : decode cX10_part 82 = .ok (.iconst (-1), 1) := by decide +kernel
theorem dX10_part_83 : decode cX10_part 83 = .ok (.ireturn, 1) := by decide +kernel
theorem dX10_part_84 : decode cX10_part 84 = .ok (.aload_n 0, 1) := by decide +kernel
theorem dX10_part_85 : decode cX10_part 85 = .ok (.getfield 19, 3) := by decide +kernel
theorem dX10_part_88 : decode cX10_part 88 = .ok (.aload_n 0, 1) := by decide +kernel
theorem dX10_part_89 : decode cX10_part 89 = .ok (.getfield 92, 3) := by decide +kernel
theorem dX10_part_92 : decode cX10_part 92 = .ok (.iload_n 1, 1) := by decide +kernel
theorem dX10_part_93 : decode cX10_part 93 = .ok (.iastore, 1) := by decide +kernel
theorem dX10_part_94 : decode cX10_part 94 = .ok (.aload_n 0, 1) := by decide +kernel
theorem dX10_part_95 : decode cX10_part 95 = .ok (.getfield 22, 3) := by decide +kernel
theorem dX10_part_98 : decode cX10_part 98 = .ok (.aload_n 0, 1) := by decide +kernel
theorem dX10_part_99 : decode cX10_part 99 = .ok (.getfield 92, 3) := by decide +kernel
theorem dX10_part_102 : decode cX10_part 102 = .ok (.iload_n 2, 1) := by decide +kernel
theorem dX10_part_103 : decode cX10_part 103 = .ok (.iastore, 1) := by decide +kernel
theorem dX10_part_104 : decode cX10_part 104 = .ok (.aload_n 0, 1) := by decide +kernel
theorem dX10_part_105 : decode cX10_part 105 = .ok (.getfield 25, 3) := by decide +kernel
theorem dX10_part_108 : decode cX10_part 108 = .ok (.aload_n 0, 1) := by decide +kernel
theorem dX10_part_109 : decode cX10_part 109 = .ok (.getfield 92, 3) := by decide +kernel
theorem dX10_part_112 : decode cX10_part 112 = .ok (.iconst 0, 1) := by decide +kernel
theorem dX10_part_113 : decode cX10_part 113 = .ok (.iastore, 1) := by decide +kernel
theorem dX10_part_114 : decode cX10_part 114 = .ok (.aload_n 0, 1) := by decide +kernel
theorem dX10_part_115 : decode cX10_part 115 = .ok (.dup, 1) := by decide +kernel
theorem dX10_part_116 : decode cX10_part 116 = .ok (.getfield 92, 3) := by decide +kernel
theorem dX10_part_119 : decode cX10_part 119 = .ok (.iconst 1, 1) := by decide +kernel
theorem dX10_part_120 : decode cX10_part 120 = .ok (.iadd, 1) := by decide +kernel
theorem dX10_part_121 : decode cX10_part 121 = .ok (.putfield 92, 3) := by decide +kernel
theorem dX10_part_124 : decode cX10_part 124 = .ok (.aload_n 0, 1) := by decide +kernel
theorem dX10_part_125 : decode cX10_part 125 = .ok (.getfield 92, 3) := by decide +kernel
theorem dX10_part_128 : decode cX10_part 128 = .ok (.iconst 1, 1) := by decide +kernel
theorem dX10_part_129 : decode cX10_part 129 = .ok (.isub, 1) := by decide +kernel
theorem dX10_part_130 : decode cX10_part 130 = .ok (.ireturn, 1) := by decide +kernel
theorem dX10_place_0 : decode cX10_place 0 = .ok (.aload_n 0, 1) := by decide +kernel
theorem dX10_place_1 : decode cX10_place 1 = .ok (.getfield 92, 3) := by decide +kernel
theorem dX10_place_4 : decode cX10_place 4 = .ok (.iconst 1, 1) := by decide +kernel
theorem dX10_place_5 : decode cX10_place 5 = .ok (.isub, 1) := by decide +kernel
theorem dX10_place_6 : decode cX10_place 6 = .ok (.istore_n 3, 1) := by decide +kernel
theorem dX10_place_7 : decode cX10_place 7 = .ok (.iload_n 3, 1) := by decide +kernel
theorem dX10_place_8 : decode cX10_place 8 = .ok (.ifCond .lt 33, 3) := by decide +kernel
theorem dX10_place_11 : decode cX10_place 11 = .ok (.aload_n 0, 1) := by decide +kernel
theorem dX10_place_12 : decode cX10_place 12 = .ok (.getfield 19, 3) := by decide +kernel
theorem dX10_place_15 : decode cX10_place 15 = .ok (.iload_n 3, 1) := by decide +kernel
theorem dX10_place_16 : decode cX10_place 16 = .ok (.iaload, 1) := by decide +kernel
theorem dX10_place_17 : decode cX10_place 17 = .ok (.iconst 1, 1) := by decide +kernel
theorem dX10_place_18 : decode cX10_place 18 = .ok (.if_icmp .gt 23, 3) := by decide +kernel
theorem dX10_place_21 : decode cX10_place 21 = .ok (.aload_n 0, 1) := by decide +kernel
theorem dX10_place_22 : decode cX10_place 22 = .ok (.getfield 25, 3) := by decide +kernel
theorem dX10_place_25 : decode cX10_place 25 = .ok (.iload_n 3, 1) := by decide +kernel
theorem dX10_place_26 : decode cX10_place 26 = .ok (.iaload, 1) := by decide +kernel
theorem dX10_place_27 : decode cX10_place 27 = .ok (.aload_n 0, 1) := by decide +kernel
theorem dX10_place_28 : decode cX10_place 28 = .ok (.getfield 7, 3) := by decide +kernel
theorem dX10_place_31 : decode cX10_place 31 = .ok (.aload_n 0, 1) := by decide +kernel
theorem dX10_place_32 : decode cX10_place 32 = .ok (.getfield 22, 3) := by decide +kernel
theorem dX10_place_35 : decode cX10_place 35 = .ok (.iload_n 3, 1) := by decide +kernel
theorem dX10_place_36 : decode cX10_place 36 = .ok (.iaload, 1) := by decide +kernel
theorem dX10_place_37 : decode cX10_place 37 = .ok (.iaload, 1) := by decide +kernel
theorem dX10_place_38 : decode cX10_place 38 = .ok (.if_icmp .ne 5, 3) := by decide +kernel
theorem dX10_place_41 : decode cX10_place 41 = .ok (.iconst (-1), 1) := by decide +kernel
theorem dX10_place_42 : decode cX10_place 42 = .ok (.ireturn, 1) := by decide +kernel
theorem dX10_place_43 : decode cX10_place 43 = .ok (.aload_n 0, 1) := by decide +kernel
theorem dX10_place_44 : decode cX10_place 44 = .ok (.getfield 28, 3) := by decide +kernel
theorem dX10_place_47 : decode cX10_place 47 = .ok (.iconst 3, 1) := by decide +kernel
theorem dX10_place_48 : decode cX10_place 48 = .ok (.iload_n 3, 1) := by decide +kernel
theorem dX10_place_49 : decode cX10_place 49 = .ok (.imul, 1) := by decide +kernel
theorem dX10_place_50 : decode cX10_place 50 = .ok (.aload_n 0, 1) := by decide +kernel
theorem dX10_place_51 : decode cX10_place 51 = .ok (.getfield 25, 3) := by decide +kernel
theorem dX10_place_54 : decode cX10_place 54 = .ok (.iload_n 3, 1) := by decide +kernel
theorem dX10_place_55 : decode cX10_place 55 = .ok (.iaload, 1) := by decide +kernel
theorem dX10_place_56 : decode cX10_place 56 = .ok (.iadd, 1) := by decide +kernel
theorem dX10_place_57 : decode cX10_place 57 = .ok (.iload_n 1, 1) := by decide +kernel
theorem dX10_place_58 : decode cX10_place 58 = .ok (.iastore, 1) := by decide +kernel
theorem dX10_place_59 : decode cX10_place 59 = .ok (.aload_n 0, 1) := by decide +kernel
theorem dX10_place_60 : decode cX10_place 60 = .ok (.getfield 31, 3) := by decide +kernel
theorem dX10_place_63 : decode cX10_place 63 = .ok (.iconst 3, 1) := by decide +kernel
theorem dX10_place_64 : decode cX10_place 64 = .ok (.iload_n 3, 1) := by decide +kernel
theorem dX10_place_65 : decode cX10_place 65 = .ok (.imul, 1) := by decide +kernel
theorem dX10_place_66 : decode cX10_place 66 = .ok (.aload_n 0, 1) := by decide +kernel
theorem dX10_place_67 : decode cX10_place 67 = .ok (.getfield 25, 3) := by decide +kernel
theorem dX10_place_70 : decode cX10_place 70 = .ok (.iload_n 3, 1) := by decide +kernel
theorem dX10_place_71 : decode cX10_place 71 = .ok (.iaload, 1) := by decide +kernel
theorem dX10_place_72 : decode cX10_place 72 = .ok (.iadd, 1) := by decide +kernel
theorem dX10_place_73 : decode cX10_place 73 = .ok (.iload_n 2, 1) := by decide +kernel
theorem dX10_place_74 : decode cX10_place 74 = .ok (.iastore, 1) := by decide +kernel
theorem dX10_place_75 : decode cX10_place 75 = .ok (.aload_n 0, 1) := by decide +kernel
theorem dX10_place_76 : decode cX10_place 76 = .ok (.getfield 25, 3) := by decide +kernel
theorem dX10_place_79 : decode cX10_place 79 = .ok (.iload_n 3, 1) := by decide +kernel
theorem dX10_place_80 : decode cX10_place 80 = .ok (.dup2, 1) := by decide +kernel
theorem dX10_place_81 : decode cX10_place 81 = .ok (.iaload, 1) := by decide +kernel
theorem dX10_place_82 : decode cX10_place 82 = .ok (.iconst 1, 1) := by decide +kernel
theorem dX10_place_83 : decode cX10_place 83 = .ok (.iadd, 1) := by decide +kernel
theorem dX10_place_84 : decode cX10_place 84 = .ok (.iastore, 1) := by decide +kernel
theorem dX10_place_85 : decode cX10_place 85 = .ok (.aload_n 0, 1) := by decide +kernel
theorem dX10_place_86 : decode cX10_place 86 = .ok (.getfield 25, 3) := by decide +kernel
theorem dX10_place_89 : decode cX10_place 89 = .ok (.iload_n 3, 1) := by decide +kernel
theorem dX10_place_90 : decode cX10_place 90 = .ok (.iaload, 1) := by decide +kernel
theorem dX10_place_91 : decode cX10_place 91 = .ok (.ireturn, 1) := by decide +kernel
theorem dX10_name_0 : decode cX10_name 0 = .ok (.iload_n 1, 1) := by decide +kernel
theorem dX10_name_1 : decode cX10_name 1 = .ok (.iconst 0, 1) := by decide +kernel
theorem dX10_name_2 : decode cX10_name 2 = .ok (.aload_n 0, 1) := by decide +kernel
theorem dX10_name_3 : decode cX10_name 3 = .ok (.getfield 119, 3) := by decide +kernel
theorem dX10_name_6 : decode cX10_name 6 = .ok (.iconst 1, 1) := by decide +kernel
theorem dX10_name_7 : decode cX10_name 7 = .ok (.isub, 1) := by decide +kernel
theorem dX10_name_8 : decode cX10_name 8 = .ok (.invokestatic 88, 3) := by decide +kernel
theorem dX10_name_11 : decode cX10_name 11 = .ok (.ifCond .eq 12, 3) := by decide +kernel
theorem dX10_name_14 : decode cX10_name 14 = .ok (.aload_n 0, 1) := by decide +kernel
theorem dX10_name_15 : decode cX10_name 15 = .ok (.iload_n 1, 1) := by decide +kernel
theorem dX10_name_16 : decode cX10_name 16 = .ok (.iconst 0, 1) := by decide +kernel
theorem dX10_name_17 : decode cX10_name 17 = .ok (.invokevirtual 122, 3) := by decide +kernel
theorem dX10_name_20 : decode cX10_name 20 = .ok (.goto 4, 3) := by decide +kernel
theorem dX10_name_23 : decode cX10_name 23 = .ok (.iconst (-1), 1) := by decide +kernel
theorem dX10_name_24 : decode cX10_name 24 = .ok (.ireturn, 1) := by decide +kernel
theorem dX10_value_0 : decode cX10_value 0 = .ok (.aload_n 0, 1) := by decide +kernel
theorem dX10_value_1 : decode cX10_value 1 = .ok (.iconst (-1), 1) := by decide +kernel
theorem dX10_value_2 : decode cX10_value 2 = .ok (.iload_n 1, 1) := by decide +kernel
theorem dX10_value_3 : decode cX10_value 3 = .ok (.invokevirtual 122, 3) := by decide +kernel
theorem dX10_value_6 : decode cX10_value 6 = .ok (.ireturn, 1) := by decide +kernel
theorem dX10_compare_0 : decode cX10_compare 0 = .ok (.aload_n 0, 1) := by decide +kernel
theorem dX10_compare_1 : decode cX10_compare 1 = .ok (.getfield 119, 3) := by decide +kernel
theorem dX10_compare_4 : decode cX10_compare 4 = .ok (.ifCond .eq 54, 3) := by decide +kernel
theorem dX10_compare_7 : decode cX10_compare 7 = .ok (.iload_n 1, 1) := by decide +kernel
theorem dX10_compare_8 : decode cX10_compare 8 = .ok (.iconst 2, 1) := by decide +kernel
theorem dX10_compare_9 : decode cX10_compare 9 = .ok (.iconst 3, 1) := by decide +kernel
theorem dX10_compare_10 : decode cX10_compare 10 = .ok (.invokestatic 88, 3) := by decide +kernel
theorem dX10_compare_13 : decode cX10_compare 13 = .ok (.ifCond .eq 45, 3) := by decide +kernel
theorem dX10_compare_16 : decode cX10_compare 16 = .ok (.iload_n 2, 1) := by decide +kernel
theorem dX10_compare_17 : decode cX10_compare 17 = .ok (.iconst 0, 1) := by decide +kernel
theorem dX10_compare_18 : decode cX10_compare 18 = .ok (.aload_n 0, 1) := by decide +kernel
theorem dX10_compare_19 : decode cX10_compare 19 = .ok (.getfield 119, 3) := by decide +kernel
theorem dX10_compare_22 : decode cX10_compare 22 = .ok (.iconst 1, 1) := by decide +kernel
theorem dX10_compare_23 : decode cX10_compare 23 = .ok (.isub, 1) := by decide +kernel
theorem dX10_compare_24 : decode cX10_compare 24 = .ok (.invokestatic 88, 3) := by decide +kernel
theorem dX10_compare_27 : decode cX10_compare 27 = .ok (.ifCond .eq 31, 3) := by decide +kernel
theorem dX10_compare_30 : decode cX10_compare 30 = .ok (.iload_n 3, 1) := by decide +kernel
theorem dX10_compare_31 : decode cX10_compare 31 = .ok (.ifCond .eq 18, 3) := by decide +kernel
theorem dX10_compare_34 : decode cX10_compare 34 = .ok (.iload 4, 2) := by decide +kernel
theorem dX10_compare_36 : decode cX10_compare 36 = .ok (.iconst 0, 1) := by decide +kernel
theorem dX10_compare_37 : decode cX10_compare 37 = .ok (.aload_n 0, 1) := by decide +kernel
theorem dX10_compare_38 : decode cX10_compare 38 = .ok (.getfield 119, 3) := by decide +kernel
theorem dX10_compare_41 : decode cX10_compare 41 = .ok (.iconst 1, 1) := by decide +kernel
theorem dX10_compare_42 : decode cX10_compare 42 = .ok (.isub, 1) := by decide +kernel
theorem dX10_compare_43 : decode cX10_compare 43 = .ok (.invokestatic 88, 3) := by decide +kernel
theorem dX10_compare_46 : decode cX10_compare 46 = .ok (.ifCond .eq 12, 3) := by decide +kernel
theorem dX10_compare_49 : decode cX10_compare 49 = .ok (.aload_n 0, 1) := by decide +kernel
theorem dX10_compare_50 : decode cX10_compare 50 = .ok (.getfield 92, 3) := by decide +kernel
theorem dX10_compare_53 : decode cX10_compare 53 = .ok (.bipush 10, 2) := by decide +kernel
theorem dX10_compare_55 : decode cX10_compare 55 = .ok (.if_icmp .ne 5, 3) := by decide +kernel
theorem dX10_compare_58 : decode cX10_compare 58 = .ok (.iconst (-1), 1) := by decide +kernel
theorem dX10_compare_59 : decode cX10_compare 59 = .ok (.ireturn, 1) := by decide +kernel
theorem dX10_compare_60 : decode cX10_compare 60 = .ok (.aload_n 0, 1) := by decide +kernel
theorem dX10_compare_61 : decode cX10_compare 61 = .ok (.getfield 19, 3) := by decide +kernel
theorem dX10_compare_64 : decode cX10_compare 64 = .ok (.aload_n 0, 1) := by decide +kernel
theorem dX10_compare_65 : decode cX10_compare 65 = .ok (.getfield 92, 3) := by decide +kernel
theorem dX10_compare_68 : decode cX10_compare 68 = .ok (.iload_n 1, 1) := by decide +kernel
theorem dX10_compare_69 : decode cX10_compare 69 = .ok (.iastore, 1) := by decide +kernel
theorem dX10_compare_70 : decode cX10_compare 70 = .ok (.aload_n 0, 1) := by decide +kernel
theorem dX10_compare_71 : decode cX10_compare 71 = .ok (.getfield 25, 3) := by decide +kernel
theorem dX10_compare_74 : decode cX10_compare 74 = .ok (.aload_n 0, 1) := by decide +kernel
theorem dX10_compare_75 : decode cX10_compare 75 = .ok (.getfield 92, 3) := by decide +kernel
theorem dX10_compare_78 : decode cX10_compare 78 = .ok (.iconst 2, 1) := by decide +kernel
theorem dX10_compare_79 : decode cX10_compare 79 = .ok (.iastore, 1) := by decide +kernel
theorem dX10_compare_80 : decode cX10_compare 80 = .ok (.aload_n 0, 1) := by decide +kernel
theorem dX10_compare_81 : decode cX10_compare 81 = .ok (.getfield 28, 3) := by decide +kernel
theorem dX10_compare_84 : decode cX10_compare 84 = .ok (.iconst 3, 1) := by decide +kernel
theorem dX10_compare_85 : decode cX10_compare 85 = .ok (.aload_n 0, 1) := by decide +kernel
theorem dX10_compare_86 : decode cX10_compare 86 = .ok (.getfield 92, 3) := by decide +kernel
theorem dX10_compare_89 : decode cX10_compare 89 = .ok (.imul, 1) := by decide +kernel
theorem dX10_compare_90 : decode cX10_compare 90 = .ok (.iload_n 2, 1) := by decide +kernel
theorem dX10_compare_91 : decode cX10_compare 91 = .ok (.iastore, 1) := by decide +kernel
theorem dX10_compare_92 : decode cX10_compare 92 = .ok (.aload_n 0, 1) := by decide +kernel
theorem dX10_compare_93 : decode cX10_compare 93 = .ok (.getfield 28, 3) := by decide +kernel
theorem dX10_compare_96 : decode cX10_compare 96 = .ok (.iconst 3, 1) := by decide +kernel
theorem dX10_compare_97 : decode cX10_compare 97 = .ok (.aload_n 0, 1) := by decide +kernel
theorem dX10_compare_98 : decode cX10_compare 98 = .ok (.getfield 92, 3) := by decide +kernel
theorem dX10_compare_101 : decode cX10_compare 101 = .ok (.imul, 1) := by decide +kernel
theorem dX10_compare_102 : decode cX10_compare 102 = .ok (.iconst 1, 1) := by decide +kernel
theorem dX10_compare_103 : decode cX10_compare 103 = .ok (.iadd, 1) := by decide +kernel
theorem dX10_compare_104 : decode cX10_compare 104 = .ok (.iload_n 3, 1) := by decide +kernel
theorem dX10_compare_105 : decode cX10_compare 105 = .ok (.ifCond .eq 8, 3) := by decide +kernel
theorem dX10_compare_108 : decode cX10_compare 108 = .ok (.iload 4, 2) := by decide +kernel
theorem dX10_compare_110 : decode cX10_compare 110 = .ok (.goto 4, 3) := by decide +kernel
theorem dX10_compare_113 : decode cX10_compare 113 = .ok (.iconst (-1), 1) := by decide +kernel
theorem dX10_compare_114 : decode cX10_compare 114 = .ok (.iastore, 1) := by decide +kernel
theorem dX10_compare_115 : decode cX10_compare 115 = .ok (.aload_n 0, 1) := by decide +kernel
theorem dX10_compare_116 : decode cX10_compare 116 = .ok (.getfield 31, 3) := by decide +kernel
theorem dX10_compare_119 : decode cX10_compare 119 = .ok (.iconst 3, 1) := by decide +kernel
theorem dX10_compare_120 : decode cX10_compare 120 = .ok (.aload_n 0, 1) := by decide +kernel
theorem dX10_compare_121 : decode cX10_compare 121 = .ok (.getfield 92, 3) := by decide +kernel
theorem dX10_compare_124 : decode cX10_compare 124 = .ok (.imul, 1) := by decide +kernel
theorem dX10_compare_125 : decode cX10_compare 125 = .ok (.iconst 1, 1) := by decide +kernel
theorem dX10_compare_126 : decode cX10_compare 126 = .ok (.iadd, 1) := by decide +kernel
theorem dX10_compare_127 : decode cX10_compare 127 = .ok (.iload 4, 2) := by decide +kernel
theorem dX10_compare_129 : decode cX10_compare 129 = .ok (.iastore, 1) := by decide +kernel
theorem dX10_compare_130 : decode cX10_compare 130 = .ok (.aload_n 0, 1) := by decide +kernel
theorem dX10_compare_131 : decode cX10_compare 131 = .ok (.dup, 1) := by decide +kernel
theorem dX10_compare_132 : decode cX10_compare 132 = .ok (.getfield 92, 3) := by decide +kernel
theorem dX10_compare_135 : decode cX10_compare 135 = .ok (.iconst 1, 1) := by decide +kernel
theorem dX10_compare_136 : decode cX10_compare 136 = .ok (.iadd, 1) := by decide +kernel
theorem dX10_compare_137 : decode cX10_compare 137 = .ok (.putfield 92, 3) := by decide +kernel
theorem dX10_compare_140 : decode cX10_compare 140 = .ok (.aload_n 0, 1) := by decide +kernel
theorem dX10_compare_141 : decode cX10_compare 141 = .ok (.getfield 92, 3) := by decide +kernel
theorem dX10_compare_144 : decode cX10_compare 144 = .ok (.iconst 1, 1) := by decide +kernel
theorem dX10_compare_145 : decode cX10_compare 145 = .ok (.isub, 1) := by decide +kernel
theorem dX10_compare_146 : decode cX10_compare 146 = .ok (.ireturn, 1) := by decide +kernel
theorem dX10_hasName_0 : decode cX10_hasName 0 = .ok (.iconst 0, 1) := by decide +kernel
theorem dX10_hasName_1 : decode cX10_hasName 1 = .ok (.istore_n 3, 1) := by decide +kernel
theorem dX10_hasName_2 : decode cX10_hasName 2 = .ok (.iload_n 3, 1) := by decide +kernel
theorem dX10_hasName_3 : decode cX10_hasName 3 = .ok (.aload_n 0, 1) := by decide +kernel
theorem dX10_hasName_4 : decode cX10_hasName 4 = .ok (.getfield 25, 3) := by decide +kernel
theorem dX10_hasName_7 : decode cX10_hasName 7 = .ok (.iload_n 1, 1) := by decide +kernel
theorem dX10_hasName_8 : decode cX10_hasName 8 = .ok (.iaload, 1) := by decide +kernel
theorem dX10_hasName_9 : decode cX10_hasName 9 = .ok (.if_icmp .ge 25, 3) := by decide +kernel
theorem dX10_hasName_12 : decode cX10_hasName 12 = .ok (.aload_n 0, 1) := by decide +kernel
theorem dX10_hasName_13 : decode cX10_hasName 13 = .ok (.getfield 28, 3) := by decide +kernel
theorem dX10_hasName_16 : decode cX10_hasName 16 = .ok (.iconst 3, 1) := by decide +kernel
theorem dX10_hasName_17 : decode cX10_hasName 17 = .ok (.iload_n 1, 1) := by decide +kernel
theorem dX10_hasName_18 : decode cX10_hasName 18 = .ok (.imul, 1) := by decide +kernel
theorem dX10_hasName_19 : decode cX10_hasName 19 = .ok (.iload_n 3, 1) := by decide +kernel
theorem dX10_hasName_20 : decode cX10_hasName 20 = .ok (.iadd, 1) := by decide +kernel
theorem dX10_hasName_21 : decode cX10_hasName 21 = .ok (.iaload, 1) := by decide +kernel
theorem dX10_hasName_22 : decode cX10_hasName 22 = .ok (.iload_n 2, 1) := by decide +kernel
theorem dX10_hasName_23 : decode cX10_hasName 23 = .ok (.if_icmp .ne 5, 3) := by decide +kernel
theorem dX10_hasName_26 : decode cX10_hasName 26 = .ok (.iconst 1, 1) := by decide +kernel
theorem dX10_hasName_27 : decode cX10_hasName 27 = .ok (.ireturn, 1) := by decide +kernel
theorem dX10_hasName_28 : decode cX10_hasName 28 = .ok (.iinc 3 1, 3) := by decide +kernel
theorem dX10_hasName_31 : decode cX10_hasName 31 = .ok (.goto (-29), 3) := by decide +kernel
theorem dX10_hasName_34 : decode cX10_hasName 34 = .ok (.iconst 0, 1) := by decide +kernel
theorem dX10_hasName_35 : decode cX10_hasName 35 = .ok (.ireturn, 1) := by decide +kernel
theorem dX10_isNamed_0 : decode cX10_isNamed 0 = .ok (.iconst 0, 1) := by decide +kernel
theorem dX10_isNamed_1 : decode cX10_isNamed 1 = .ok (.istore_n 2, 1) := by decide +kernel
theorem dX10_isNamed_2 : decode cX10_isNamed 2 = .ok (.iload_n 2, 1) := by decide +kernel
theorem dX10_isNamed_3 : decode cX10_isNamed 3 = .ok (.aload_n 0, 1) := by decide +kernel
theorem dX10_isNamed_4 : decode cX10_isNamed 4 = .ok (.getfield 25, 3) := by decide +kernel
theorem dX10_isNamed_7 : decode cX10_isNamed 7 = .ok (.iload_n 1, 1) := by decide +kernel
theorem dX10_isNamed_8 : decode cX10_isNamed 8 = .ok (.iaload, 1) := by decide +kernel
theorem dX10_isNamed_9 : decode cX10_isNamed 9 = .ok (.if_icmp .ge 25, 3) := by decide +kernel
theorem dX10_isNamed_12 : decode cX10_isNamed 12 = .ok (.aload_n 0, 1) := by decide +kernel
theorem dX10_isNamed_13 : decode cX10_isNamed 13 = .ok (.getfield 28, 3) := by decide +kernel
theorem dX10_isNamed_16 : decode cX10_isNamed 16 = .ok (.iconst 3, 1) := by decide +kernel
theorem dX10_isNamed_17 : decode cX10_isNamed 17 = .ok (.iload_n 1, 1) := by decide +kernel
theorem dX10_isNamed_18 : decode cX10_isNamed 18 = .ok (.imul, 1) := by decide +kernel
theorem dX10_isNamed_19 : decode cX10_isNamed 19 = .ok (.iload_n 2, 1) := by decide +kernel
theorem dX10_isNamed_20 : decode cX10_isNamed 20 = .ok (.iadd, 1) := by decide +kernel
theorem dX10_isNamed_21 : decode cX10_isNamed 21 = .ok (.iaload, 1) := by decide +kernel
theorem dX10_isNamed_22 : decode cX10_isNamed 22 = .ok (.iconst (-1), 1) := by decide +kernel
theorem dX10_isNamed_23 : decode cX10_isNamed 23 = .ok (.if_icmp .eq 5, 3) := by decide +kernel
theorem dX10_isNamed_26 : decode cX10_isNamed 26 = .ok (.iconst 1, 1) := by decide +kernel
theorem dX10_isNamed_27 : decode cX10_isNamed 27 = .ok (.ireturn, 1) := by decide +kernel
theorem dX10_isNamed_28 : decode cX10_isNamed 28 = .ok (.iinc 2 1, 3) := by decide +kernel
theorem dX10_isNamed_31 : decode cX10_isNamed 31 = .ok (.goto (-29), 3) := by decide +kernel
theorem dX10_isNamed_34 : decode cX10_isNamed 34 = .ok (.iconst 0, 1) := by decide +kernel
theorem dX10_isNamed_35 : decode cX10_isNamed 35 = .ok (.ireturn, 1) := by decide +kernel
theorem dX10_holds_0 : decode cX10_holds 0 = .ok (.aload_n 0, 1) := by decide +kernel
theorem dX10_holds_1 : decode cX10_holds 1 = .ok (.getfield 119, 3) := by decide +kernel
theorem dX10_holds_4 : decode cX10_holds 4 = .ok (.ifCond .ne 5, 3) := by decide +kernel
theorem dX10_holds_7 : decode cX10_holds 7 = .ok (.iconst 0, 1) := by decide +kernel
theorem dX10_holds_8 : decode cX10_holds 8 = .ok (.ireturn, 1) := by decide +kernel
theorem dX10_holds_9 : decode cX10_holds 9 = .ok (.iconst 0, 1) := by decide +kernel
theorem dX10_holds_10 : decode cX10_holds 10 = .ok (.istore_n 1, 1) := by decide +kernel
theorem dX10_holds_11 : decode cX10_holds 11 = .ok (.iload_n 1, 1) := by decide +kernel
theorem dX10_holds_12 : decode cX10_holds 12 = .ok (.aload_n 0, 1) := by decide +kernel
theorem dX10_holds_13 : decode cX10_holds 13 = .ok (.getfield 92, 3) := by decide +kernel
theorem dX10_holds_16 : decode cX10_holds 16 = .ok (.if_icmp .ge 41, 3) := by decide +kernel
theorem dX10_holds_19 : decode cX10_holds 19 = .ok (.aload_n 0, 1) := by decide +kernel
theorem dX10_holds_20 : decode cX10_holds 20 = .ok (.getfield 19, 3) := by decide +kernel
theorem dX10_holds_23 : decode cX10_holds 23 = .ok (.iload_n 1, 1) := by decide +kernel
theorem dX10_holds_24 : decode cX10_holds 24 = .ok (.iaload, 1) := by decide +kernel
theorem dX10_holds_25 : decode cX10_holds 25 = .ok (.iconst 1, 1) := by decide +kernel
theorem dX10_holds_26 : decode cX10_holds 26 = .ok (.if_icmp .gt 25, 3) := by decide +kernel
theorem dX10_holds_29 : decode cX10_holds 29 = .ok (.aload_n 0, 1) := by decide +kernel
theorem dX10_holds_30 : decode cX10_holds 30 = .ok (.getfield 25, 3) := by decide +kernel
theorem dX10_holds_33 : decode cX10_holds 33 = .ok (.iload_n 1, 1) := by decide +kernel
theorem dX10_holds_34 : decode cX10_holds 34 = .ok (.iaload, 1) := by decide +kernel
theorem dX10_holds_35 : decode cX10_holds 35 = .ok (.aload_n 0, 1) := by decide +kernel
theorem dX10_holds_36 : decode cX10_holds 36 = .ok (.getfield 7, 3) := by decide +kernel
theorem dX10_holds_39 : decode cX10_holds 39 = .ok (.aload_n 0, 1) := by decide +kernel
theorem dX10_holds_40 : decode cX10_holds 40 = .ok (.getfield 22, 3) := by decide +kernel
theorem dX10_holds_43 : decode cX10_holds 43 = .ok (.iload_n 1, 1) := by decide +kernel
theorem dX10_holds_44 : decode cX10_holds 44 = .ok (.iaload, 1) := by decide +kernel
theorem dX10_holds_45 : decode cX10_holds 45 = .ok (.iaload, 1) := by decide +kernel
theorem dX10_holds_46 : decode cX10_holds 46 = .ok (.if_icmp .ge 5, 3) := by decide +kernel
theorem dX10_holds_49 : decode cX10_holds 49 = .ok (.iconst 0, 1) := by decide +kernel
theorem dX10_holds_50 : decode cX10_holds 50 = .ok (.ireturn, 1) := by decide +kernel
theorem dX10_holds_51 : decode cX10_holds 51 = .ok (.iinc 1 1, 3) := by decide +kernel
theorem dX10_holds_54 : decode cX10_holds 54 = .ok (.goto (-43), 3) := by decide +kernel
theorem dX10_holds_57 : decode cX10_holds 57 = .ok (.iconst 0, 1) := by decide +kernel
theorem dX10_holds_58 : decode cX10_holds 58 = .ok (.istore_n 1, 1) := by decide +kernel
theorem dX10_holds_59 : decode cX10_holds 59 = .ok (.iload_n 1, 1) := by decide +kernel
theorem dX10_holds_60 : decode cX10_holds 60 = .ok (.aload_n 0, 1) := by decide +kernel
theorem dX10_holds_61 : decode cX10_holds 61 = .ok (.getfield 119, 3) := by decide +kernel
theorem dX10_holds_64 : decode cX10_holds 64 = .ok (.if_icmp .ge 61, 3) := by decide +kernel
theorem dX10_holds_67 : decode cX10_holds 67 = .ok (.iconst 0, 1) := by decide +kernel
theorem dX10_holds_68 : decode cX10_holds 68 = .ok (.istore_n 2, 1) := by decide +kernel
theorem dX10_holds_69 : decode cX10_holds 69 = .ok (.iconst 0, 1) := by decide +kernel
theorem dX10_holds_70 : decode cX10_holds 70 = .ok (.istore_n 3, 1) := by decide +kernel
theorem dX10_holds_71 : decode cX10_holds 71 = .ok (.iload_n 3, 1) := by decide +kernel
theorem dX10_holds_72 : decode cX10_holds 72 = .ok (.aload_n 0, 1) := by decide +kernel
theorem dX10_holds_73 : decode cX10_holds 73 = .ok (.getfield 92, 3) := by decide +kernel
theorem dX10_holds_76 : decode cX10_holds 76 = .ok (.if_icmp .ge 37, 3) := by decide +kernel
theorem dX10_holds_79 : decode cX10_holds 79 = .ok (.iload_n 2, 1) := by decide +kernel
theorem dX10_holds_80 : decode cX10_holds 80 = .ok (.ifCond .ne 21, 3) := by decide +kernel
theorem dX10_holds_83 : decode cX10_holds 83 = .ok (.aload_n 0, 1) := by decide +kernel
theorem dX10_holds_84 : decode cX10_holds 84 = .ok (.getfield 19, 3) := by decide +kernel
theorem dX10_holds_87 : decode cX10_holds 87 = .ok (.iload_n 3, 1) := by decide +kernel
theorem dX10_holds_88 : decode cX10_holds 88 = .ok (.iaload, 1) := by decide +kernel
theorem dX10_holds_89 : decode cX10_holds 89 = .ok (.ifCond .ne 16, 3) := by decide +kernel
theorem dX10_holds_92 : decode cX10_holds 92 = .ok (.aload_n 0, 1) := by decide +kernel
theorem dX10_holds_93 : decode cX10_holds 93 = .ok (.iload_n 3, 1) := by decide +kernel
theorem dX10_holds_94 : decode cX10_holds 94 = .ok (.iload_n 1, 1) := by decide +kernel
theorem dX10_holds_95 : decode cX10_holds 95 = .ok (.invokevirtual 125, 3) := by decide +kernel
theorem dX10_holds_98 : decode cX10_holds 98 = .ok (.ifCond .eq 7, 3) := by decide +kernel
theorem dX10_holds_101 : decode cX10_holds 101 = .ok (.iconst 1, 1) := by decide +kernel
theorem dX10_holds_102 : decode cX10_holds 102 = .ok (.goto 4, 3) := by decide +kernel
theorem dX10_holds_105 : decode cX10_holds 105 = .ok (.iconst 0, 1) := by decide +kernel
theorem dX10_holds_106 : decode cX10_holds 106 = .ok (.istore_n 2, 1) := by decide +kernel
theorem dX10_holds_107 : decode cX10_holds 107 = .ok (.iinc 3 1, 3) := by decide +kernel
theorem dX10_holds_110 : decode cX10_holds 110 = .ok (.goto (-39), 3) := by decide +kernel
theorem dX10_holds_113 : decode cX10_holds 113 = .ok (.iload_n 2, 1) := by decide +kernel
theorem dX10_holds_114 : decode cX10_holds 114 = .ok (.ifCond .ne 5, 3) := by decide +kernel
theorem dX10_holds_117 : decode cX10_holds 117 = .ok (.iconst 0, 1) := by decide +kernel
theorem dX10_holds_118 : decode cX10_holds 118 = .ok (.ireturn, 1) := by decide +kernel
theorem dX10_holds_119 : decode cX10_holds 119 = .ok (.iinc 1 1, 3) := by decide +kernel
theorem dX10_holds_122 : decode cX10_holds 122 = .ok (.goto (-63), 3) := by decide +kernel
theorem dX10_holds_125 : decode cX10_holds 125 = .ok (.iconst 1, 1) := by decide +kernel
theorem dX10_holds_126 : decode cX10_holds 126 = .ok (.ireturn, 1) := by decide +kernel
theorem dX10_isSet_0 : decode cX10_isSet 0 = .ok (.iload_n 1, 1) := by decide +kernel
theorem dX10_isSet_1 : decode cX10_isSet 1 = .ok (.iload_n 2, 1) := by decide +kernel
theorem dX10_isSet_2 : decode cX10_isSet 2 = .ok (.ishr, 1) := by decide +kernel
theorem dX10_isSet_3 : decode cX10_isSet 3 = .ok (.iconst 1, 1) := by decide +kernel
theorem dX10_isSet_4 : decode cX10_isSet 4 = .ok (.iand, 1) := by decide +kernel
theorem dX10_isSet_5 : decode cX10_isSet 5 = .ok (.iconst 1, 1) := by decide +kernel
theorem dX10_isSet_6 : decode cX10_isSet 6 = .ok (.if_icmp .ne 7, 3) := by decide +kernel
theorem dX10_isSet_9 : decode cX10_isSet 9 = .ok (.iconst 1, 1) := by decide +kernel
theorem dX10_isSet_10 : decode cX10_isSet 10 = .ok (.goto 4, 3) := by decide +kernel
theorem dX10_isSet_13 : decode cX10_isSet 13 = .ok (.iconst 0, 1) := by decide +kernel
theorem dX10_isSet_14 : decode cX10_isSet 14 = .ok (.ireturn, 1) := by decide +kernel
theorem dX10_isWhole_0 : decode cX10_isWhole 0 = .ok (.iconst 0, 1) := by decide +kernel
theorem dX10_isWhole_1 : decode cX10_isWhole 1 = .ok (.istore_n 3, 1) := by decide +kernel
theorem dX10_isWhole_2 : decode cX10_isWhole 2 = .ok (.iload_n 3, 1) := by decide +kernel
theorem dX10_isWhole_3 : decode cX10_isWhole 3 = .ok (.aload_n 0, 1) := by decide +kernel
theorem dX10_isWhole_4 : decode cX10_isWhole 4 = .ok (.getfield 25, 3) := by decide +kernel
theorem dX10_isWhole_7 : decode cX10_isWhole 7 = .ok (.iload_n 1, 1) := by decide +kernel
theorem dX10_isWhole_8 : decode cX10_isWhole 8 = .ok (.iaload, 1) := by decide +kernel
theorem dX10_isWhole_9 : decode cX10_isWhole 9 = .ok (.if_icmp .ge 43, 3) := by decide +kernel
theorem dX10_isWhole_12 : decode cX10_isWhole 12 = .ok (.aload_n 0, 1) := by decide +kernel
theorem dX10_isWhole_13 : decode cX10_isWhole 13 = .ok (.getfield 28, 3) := by decide +kernel
theorem dX10_isWhole_16 : decode cX10_isWhole 16 = .ok (.iconst 3, 1) := by decide +kernel
theorem dX10_isWhole_17 : decode cX10_isWhole 17 = .ok (.iload_n 1, 1) := by decide +kernel
theorem dX10_isWhole_18 : decode cX10_isWhole 18 = .ok (.imul, 1) := by decide +kernel
theorem dX10_isWhole_19 : decode cX10_isWhole 19 = .ok (.iload_n 3, 1) := by decide +kernel
theorem dX10_isWhole_20 : decode cX10_isWhole 20 = .ok (.iadd, 1) := by decide +kernel
theorem dX10_isWhole_21 : decode cX10_isWhole 21 = .ok (.iaload, 1) := by decide +kernel
theorem dX10_isWhole_22 : decode cX10_isWhole 22 = .ok (.iconst (-1), 1) := by decide +kernel
theorem dX10_isWhole_23 : decode cX10_isWhole 23 = .ok (.if_icmp .eq 23, 3) := by decide +kernel
theorem dX10_isWhole_26 : decode cX10_isWhole 26 = .ok (.aload_n 0, 1) := by decide +kernel
theorem dX10_isWhole_27 : decode cX10_isWhole 27 = .ok (.iload_n 2, 1) := by decide +kernel
theorem dX10_isWhole_28 : decode cX10_isWhole 28 = .ok (.aload_n 0, 1) := by decide +kernel
theorem dX10_isWhole_29 : decode cX10_isWhole 29 = .ok (.getfield 28, 3) := by decide +kernel
theorem dX10_isWhole_32 : decode cX10_isWhole 32 = .ok (.iconst 3, 1) := by decide +kernel
theorem dX10_isWhole_33 : decode cX10_isWhole 33 = .ok (.iload_n 1, 1) := by decide +kernel
theorem dX10_isWhole_34 : decode cX10_isWhole 34 = .ok (.imul, 1) := by decide +kernel
theorem dX10_isWhole_35 : decode cX10_isWhole 35 = .ok (.iload_n 3, 1) := by decide +kernel
theorem dX10_isWhole_36 : decode cX10_isWhole 36 = .ok (.iadd, 1) := by decide +kernel
theorem dX10_isWhole_37 : decode cX10_isWhole 37 = .ok (.iaload, 1) := by decide +kernel
theorem dX10_isWhole_38 : decode cX10_isWhole 38 = .ok (.invokevirtual 129, 3) := by decide +kernel
theorem dX10_isWhole_41 : decode cX10_isWhole 41 = .ok (.ifCond .ne 5, 3) := by decide +kernel
theorem dX10_isWhole_44 : decode cX10_isWhole 44 = .ok (.iconst 0, 1) := by decide +kernel
theorem dX10_isWhole_45 : decode cX10_isWhole 45 = .ok (.ireturn, 1) := by decide +kernel
theorem dX10_isWhole_46 : decode cX10_isWhole 46 = .ok (.iinc 3 1, 3) := by decide +kernel
theorem dX10_isWhole_49 : decode cX10_isWhole 49 = .ok (.goto (-47), 3) := by decide +kernel
theorem dX10_isWhole_52 : decode cX10_isWhole 52 = .ok (.iconst 1, 1) := by decide +kernel
theorem dX10_isWhole_53 : decode cX10_isWhole 53 = .ok (.ireturn, 1) := by decide +kernel
theorem dX10_told_0 : decode cX10_told 0 = .ok (.aload_n 0, 1) := by decide +kernel
theorem dX10_told_1 : decode cX10_told 1 = .ok (.getfield 28, 3) := by decide +kernel
theorem dX10_told_4 : decode cX10_told 4 = .ok (.iconst 3, 1) := by decide +kernel
theorem dX10_told_5 : decode cX10_told 5 = .ok (.iload_n 1, 1) := by decide +kernel
theorem dX10_told_6 : decode cX10_told 6 = .ok (.imul, 1) := by decide +kernel
theorem dX10_told_7 : decode cX10_told 7 = .ok (.iload_n 2, 1) := by decide +kernel
theorem dX10_told_8 : decode cX10_told 8 = .ok (.iadd, 1) := by decide +kernel
theorem dX10_told_9 : decode cX10_told 9 = .ok (.iaload, 1) := by decide +kernel
theorem dX10_told_10 : decode cX10_told 10 = .ok (.iconst (-1), 1) := by decide +kernel
theorem dX10_told_11 : decode cX10_told 11 = .ok (.if_icmp .ne 16, 3) := by decide +kernel
theorem dX10_told_14 : decode cX10_told 14 = .ok (.aload_n 0, 1) := by decide +kernel
theorem dX10_told_15 : decode cX10_told 15 = .ok (.getfield 31, 3) := by decide +kernel
theorem dX10_told_18 : decode cX10_told 18 = .ok (.iconst 3, 1) := by decide +kernel
theorem dX10_told_19 : decode cX10_told 19 = .ok (.iload_n 1, 1) := by decide +kernel
theorem dX10_told_20 : decode cX10_told 20 = .ok (.imul, 1) := by decide +kernel
theorem dX10_told_21 : decode cX10_told 21 = .ok (.iload_n 2, 1) := by decide +kernel
theorem dX10_told_22 : decode cX10_told 22 = .ok (.iadd, 1) := by decide +kernel
theorem dX10_told_23 : decode cX10_told 23 = .ok (.iaload, 1) := by decide +kernel
theorem dX10_told_24 : decode cX10_told 24 = .ok (.goto 18, 3) := by decide +kernel
theorem dX10_told_27 : decode cX10_told 27 = .ok (.aload_n 0, 1) := by decide +kernel
theorem dX10_told_28 : decode cX10_told 28 = .ok (.getfield 69, 3) := by decide +kernel
theorem dX10_told_31 : decode cX10_told 31 = .ok (.aload_n 0, 1) := by decide +kernel
theorem dX10_told_32 : decode cX10_told 32 = .ok (.getfield 28, 3) := by decide +kernel
theorem dX10_told_35 : decode cX10_told 35 = .ok (.iconst 3, 1) := by decide +kernel
theorem dX10_told_36 : decode cX10_told 36 = .ok (.iload_n 1, 1) := by decide +kernel
theorem dX10_told_37 : decode cX10_told 37 = .ok (.imul, 1) := by decide +kernel
theorem dX10_told_38 : decode cX10_told 38 = .ok (.iload_n 2, 1) := by decide +kernel
theorem dX10_told_39 : decode cX10_told 39 = .ok (.iadd, 1) := by decide +kernel
theorem dX10_told_40 : decode cX10_told 40 = .ok (.iaload, 1) := by decide +kernel
theorem dX10_told_41 : decode cX10_told 41 = .ok (.iaload, 1) := by decide +kernel
theorem dX10_told_42 : decode cX10_told 42 = .ok (.ireturn, 1) := by decide +kernel
theorem dX10_agrees_0 : decode cX10_agrees 0 = .ok (.iconst 0, 1) := by decide +kernel
theorem dX10_agrees_1 : decode cX10_agrees 1 = .ok (.istore 4, 2) := by decide +kernel
theorem dX10_agrees_3 : decode cX10_agrees 3 = .ok (.iload 4, 2) := by decide +kernel
theorem dX10_agrees_5 : decode cX10_agrees 5 = .ok (.aload_n 0, 1) := by decide +kernel
theorem dX10_agrees_6 : decode cX10_agrees 6 = .ok (.getfield 25, 3) := by decide +kernel
theorem dX10_agrees_9 : decode cX10_agrees 9 = .ok (.iload_n 1, 1) := by decide +kernel
theorem dX10_agrees_10 : decode cX10_agrees 10 = .ok (.iaload, 1) := by decide +kernel
theorem dX10_agrees_11 : decode cX10_agrees 11 = .ok (.if_icmp .ge 125, 3) := by decide +kernel
theorem dX10_agrees_14 : decode cX10_agrees 14 = .ok (.aload_n 0, 1) := by decide +kernel
theorem dX10_agrees_15 : decode cX10_agrees 15 = .ok (.getfield 28, 3) := by decide +kernel
theorem dX10_agrees_18 : decode cX10_agrees 18 = .ok (.iconst 3, 1) := by decide +kernel
theorem dX10_agrees_19 : decode cX10_agrees 19 = .ok (.iload_n 1, 1) := by decide +kernel
theorem dX10_agrees_20 : decode cX10_agrees 20 = .ok (.imul, 1) := by decide +kernel
theorem dX10_agrees_21 : decode cX10_agrees 21 = .ok (.iload 4, 2) := by decide +kernel
theorem dX10_agrees_23 : decode cX10_agrees 23 = .ok (.iadd, 1) := by decide +kernel
theorem dX10_agrees_24 : decode cX10_agrees 24 = .ok (.iaload, 1) := by decide +kernel
theorem dX10_agrees_25 : decode cX10_agrees 25 = .ok (.istore 5, 2) := by decide +kernel
theorem dX10_agrees_27 : decode cX10_agrees 27 = .ok (.aload_n 0, 1) := by decide +kernel
theorem dX10_agrees_28 : decode cX10_agrees 28 = .ok (.aload_n 0, 1) := by decide +kernel
theorem dX10_agrees_29 : decode cX10_agrees 29 = .ok (.getfield 22, 3) := by decide +kernel
theorem dX10_agrees_32 : decode cX10_agrees 32 = .ok (.iload_n 1, 1) := by decide +kernel
theorem dX10_agrees_33 : decode cX10_agrees 33 = .ok (.iaload, 1) := by decide +kernel
theorem dX10_agrees_34 : decode cX10_agrees 34 = .ok (.iload_n 2, 1) := by decide +kernel
theorem dX10_agrees_35 : decode cX10_agrees 35 = .ok (.iload 4, 2) := by decide +kernel
theorem dX10_agrees_37 : decode cX10_agrees 37 = .ok (.invokevirtual 95, 3) := by decide +kernel
theorem dX10_agrees_40 : decode cX10_agrees 40 = .ok (.istore 6, 2) := by decide +kernel
theorem dX10_agrees_42 : decode cX10_agrees 42 = .ok (.iload 5, 2) := by decide +kernel
theorem dX10_agrees_44 : decode cX10_agrees 44 = .ok (.iconst (-1), 1) := by decide +kernel
theorem dX10_agrees_45 : decode cX10_agrees 45 = .ok (.if_icmp .eq 13, 3) := by decide +kernel
theorem dX10_agrees_48 : decode cX10_agrees 48 = .ok (.aload_n 0, 1) := by decide +kernel
theorem dX10_agrees_49 : decode cX10_agrees 49 = .ok (.iload_n 3, 1) := by decide +kernel
theorem dX10_agrees_50 : decode cX10_agrees 50 = .ok (.iload 5, 2) := by decide +kernel
theorem dX10_agrees_52 : decode cX10_agrees 52 = .ok (.invokevirtual 129, 3) := by decide +kernel
theorem dX10_agrees_55 : decode cX10_agrees 55 = .ok (.ifCond .eq 17, 3) := by decide +kernel
theorem dX10_agrees_58 : decode cX10_agrees 58 = .ok (.iload 6, 2) := by decide +kernel
theorem dX10_agrees_60 : decode cX10_agrees 60 = .ok (.aload_n 0, 1) := by decide +kernel
theorem dX10_agrees_61 : decode cX10_agrees 61 = .ok (.iload_n 1, 1) := by decide +kernel
theorem dX10_agrees_62 : decode cX10_agrees 62 = .ok (.iload 4, 2) := by decide +kernel
theorem dX10_agrees_64 : decode cX10_agrees 64 = .ok (.invokevirtual 132, 3) := by decide +kernel
theorem dX10_agrees_67 : decode cX10_agrees 67 = .ok (.if_icmp .eq 5, 3) := by decide +kernel
theorem dX10_agrees_70 : decode cX10_agrees 70 = .ok (.iconst 0, 1) := by decide +kernel
theorem dX10_agrees_71 : decode cX10_agrees 71 = .ok (.ireturn, 1) := by decide +kernel
theorem dX10_agrees_72 : decode cX10_agrees 72 = .ok (.iconst 0, 1) := by decide +kernel
theorem dX10_agrees_73 : decode cX10_agrees 73 = .ok (.istore 7, 2) := by decide +kernel
theorem dX10_agrees_75 : decode cX10_agrees 75 = .ok (.iload 7, 2) := by decide +kernel
theorem dX10_agrees_77 : decode cX10_agrees 77 = .ok (.iload 4, 2) := by decide +kernel
theorem dX10_agrees_79 : decode cX10_agrees 79 = .ok (.if_icmp .ge 51, 3) := by decide +kernel
theorem dX10_agrees_82 : decode cX10_agrees 82 = .ok (.iload 5, 2) := by decide +kernel
theorem dX10_agrees_84 : decode cX10_agrees 84 = .ok (.iconst (-1), 1) := by decide +kernel
theorem dX10_agrees_85 : decode cX10_agrees 85 = .ok (.if_icmp .eq 39, 3) := by decide +kernel
theorem dX10_agrees_88 : decode cX10_agrees 88 = .ok (.aload_n 0, 1) := by decide +kernel
theorem dX10_agrees_89 : decode cX10_agrees 89 = .ok (.getfield 28, 3) := by decide +kernel
theorem dX10_agrees_92 : decode cX10_agrees 92 = .ok (.iconst 3, 1) := by decide +kernel
theorem dX10_agrees_93 : decode cX10_agrees 93 = .ok (.iload_n 1, 1) := by decide +kernel
theorem dX10_agrees_94 : decode cX10_agrees 94 = .ok (.imul, 1) := by decide +kernel
theorem dX10_agrees_95 : decode cX10_agrees 95 = .ok (.iload 7, 2) := by decide +kernel
theorem dX10_agrees_97 : decode cX10_agrees 97 = .ok (.iadd, 1) := by decide +kernel
theorem dX10_agrees_98 : decode cX10_agrees 98 = .ok (.iaload, 1) := by decide +kernel
theorem dX10_agrees_99 : decode cX10_agrees 99 = .ok (.iload 5, 2) := by decide +kernel
theorem dX10_agrees_101 : decode cX10_agrees 101 = .ok (.if_icmp .ne 23, 3) := by decide +kernel
theorem dX10_agrees_104 : decode cX10_agrees 104 = .ok (.aload_n 0, 1) := by decide +kernel
theorem dX10_agrees_105 : decode cX10_agrees 105 = .ok (.aload_n 0, 1) := by decide +kernel
theorem dX10_agrees_106 : decode cX10_agrees 106 = .ok (.getfield 22, 3) := by decide +kernel
theorem dX10_agrees_109 : decode cX10_agrees 109 = .ok (.iload_n 1, 1) := by decide +kernel
theorem dX10_agrees_110 : decode cX10_agrees 110 = .ok (.iaload, 1) := by decide +kernel
theorem dX10_agrees_111 : decode cX10_agrees 111 = .ok (.iload_n 2, 1) := by decide +kernel
theorem dX10_agrees_112 : decode cX10_agrees 112 = .ok (.iload 7, 2) := by decide +kernel
theorem dX10_agrees_114 : decode cX10_agrees 114 = .ok (.invokevirtual 95, 3) := by decide +kernel
theorem dX10_agrees_117 : decode cX10_agrees 117 = .ok (.iload 6, 2) := by decide +kernel
theorem dX10_agrees_119 : decode cX10_agrees 119 = .ok (.if_icmp .eq 5, 3) := by decide +kernel
theorem dX10_agrees_122 : decode cX10_agrees 122 = .ok (.iconst 0, 1) := by decide +kernel
theorem dX10_agrees_123 : decode cX10_agrees 123 = .ok (.ireturn, 1) := by decide +kernel
theorem dX10_agrees_124 : decode cX10_agrees 124 = .ok (.iinc 7 1, 3) := by decide +kernel
theorem dX10_agrees_127 : decode cX10_agrees 127 = .ok (.goto (-52), 3) := by decide +kernel
theorem dX10_agrees_130 : decode cX10_agrees 130 = .ok (.iinc 4 1, 3) := by decide +kernel
theorem dX10_agrees_133 : decode cX10_agrees 133 = .ok (.goto (-130), 3) := by decide +kernel
theorem dX10_agrees_136 : decode cX10_agrees 136 = .ok (.iconst 1, 1) := by decide +kernel
theorem dX10_agrees_137 : decode cX10_agrees 137 = .ok (.ireturn, 1) := by decide +kernel
theorem dX10_rowOf_0 : decode cX10_rowOf 0 = .ok (.iconst 0, 1) := by decide +kernel
theorem dX10_rowOf_1 : decode cX10_rowOf 1 = .ok (.istore_n 3, 1) := by decide +kernel
theorem dX10_rowOf_2 : decode cX10_rowOf 2 = .ok (.iload_n 3, 1) := by decide +kernel
theorem dX10_rowOf_3 : decode cX10_rowOf 3 = .ok (.aload_n 0, 1) := by decide +kernel
theorem dX10_rowOf_4 : decode cX10_rowOf 4 = .ok (.getfield 13, 3) := by decide +kernel
theorem dX10_rowOf_7 : decode cX10_rowOf 7 = .ok (.aload_n 0, 1) := by decide +kernel
theorem dX10_rowOf_8 : decode cX10_rowOf 8 = .ok (.getfield 22, 3) := by decide +kernel
theorem dX10_rowOf_11 : decode cX10_rowOf 11 = .ok (.iload_n 1, 1) := by decide +kernel
theorem dX10_rowOf_12 : decode cX10_rowOf 12 = .ok (.iaload, 1) := by decide +kernel
theorem dX10_rowOf_13 : decode cX10_rowOf 13 = .ok (.iaload, 1) := by decide +kernel
theorem dX10_rowOf_14 : decode cX10_rowOf 14 = .ok (.if_icmp .ge 21, 3) := by decide +kernel
theorem dX10_rowOf_17 : decode cX10_rowOf 17 = .ok (.aload_n 0, 1) := by decide +kernel
theorem dX10_rowOf_18 : decode cX10_rowOf 18 = .ok (.iload_n 1, 1) := by decide +kernel
theorem dX10_rowOf_19 : decode cX10_rowOf 19 = .ok (.iload_n 3, 1) := by decide +kernel
theorem dX10_rowOf_20 : decode cX10_rowOf 20 = .ok (.iload_n 2, 1) := by decide +kernel
theorem dX10_rowOf_21 : decode cX10_rowOf 21 = .ok (.invokevirtual 135, 3) := by decide +kernel
theorem dX10_rowOf_24 : decode cX10_rowOf 24 = .ok (.ifCond .eq 5, 3) := by decide +kernel
theorem dX10_rowOf_27 : decode cX10_rowOf 27 = .ok (.iload_n 3, 1) := by decide +kernel
theorem dX10_rowOf_28 : decode cX10_rowOf 28 = .ok (.ireturn, 1) := by decide +kernel
theorem dX10_rowOf_29 : decode cX10_rowOf 29 = .ok (.iinc 3 1, 3) := by decide +kernel
theorem dX10_rowOf_32 : decode cX10_rowOf 32 = .ok (.goto (-30), 3) := by decide +kernel
theorem dX10_rowOf_35 : decode cX10_rowOf 35 = .ok (.iconst (-1), 1) := by decide +kernel
theorem dX10_rowOf_36 : decode cX10_rowOf 36 = .ok (.ireturn, 1) := by decide +kernel
theorem dX10_touches_0 : decode cX10_touches 0 = .ok (.iconst 0, 1) := by decide +kernel
theorem dX10_touches_1 : decode cX10_touches 1 = .ok (.istore_n 3, 1) := by decide +kernel
theorem dX10_touches_2 : decode cX10_touches 2 = .ok (.iload_n 3, 1) := by decide +kernel
theorem dX10_touches_3 : decode cX10_touches 3 = .ok (.aload_n 0, 1) := by decide +kernel
theorem dX10_touches_4 : decode cX10_touches 4 = .ok (.getfield 25, 3) := by decide +kernel
theorem dX10_touches_7 : decode cX10_touches 7 = .ok (.iload_n 1, 1) := by decide +kernel
theorem dX10_touches_8 : decode cX10_touches 8 = .ok (.iaload, 1) := by decide +kernel
theorem dX10_touches_9 : decode cX10_touches 9 = .ok (.if_icmp .ge 43, 3) := by decide +kernel
theorem dX10_touches_12 : decode cX10_touches 12 = .ok (.aload_n 0, 1) := by decide +kernel
theorem dX10_touches_13 : decode cX10_touches 13 = .ok (.getfield 28, 3) := by decide +kernel
theorem dX10_touches_16 : decode cX10_touches 16 = .ok (.iconst 3, 1) := by decide +kernel
theorem dX10_touches_17 : decode cX10_touches 17 = .ok (.iload_n 1, 1) := by decide +kernel
theorem dX10_touches_18 : decode cX10_touches 18 = .ok (.imul, 1) := by decide +kernel
theorem dX10_touches_19 : decode cX10_touches 19 = .ok (.iload_n 3, 1) := by decide +kernel
theorem dX10_touches_20 : decode cX10_touches 20 = .ok (.iadd, 1) := by decide +kernel
theorem dX10_touches_21 : decode cX10_touches 21 = .ok (.iaload, 1) := by decide +kernel
theorem dX10_touches_22 : decode cX10_touches 22 = .ok (.iconst (-1), 1) := by decide +kernel
theorem dX10_touches_23 : decode cX10_touches 23 = .ok (.if_icmp .eq 23, 3) := by decide +kernel
theorem dX10_touches_26 : decode cX10_touches 26 = .ok (.aload_n 0, 1) := by decide +kernel
theorem dX10_touches_27 : decode cX10_touches 27 = .ok (.iload_n 2, 1) := by decide +kernel
theorem dX10_touches_28 : decode cX10_touches 28 = .ok (.aload_n 0, 1) := by decide +kernel
theorem dX10_touches_29 : decode cX10_touches 29 = .ok (.getfield 28, 3) := by decide +kernel
theorem dX10_touches_32 : decode cX10_touches 32 = .ok (.iconst 3, 1) := by decide +kernel
theorem dX10_touches_33 : decode cX10_touches 33 = .ok (.iload_n 1, 1) := by decide +kernel
theorem dX10_touches_34 : decode cX10_touches 34 = .ok (.imul, 1) := by decide +kernel
theorem dX10_touches_35 : decode cX10_touches 35 = .ok (.iload_n 3, 1) := by decide +kernel
theorem dX10_touches_36 : decode cX10_touches 36 = .ok (.iadd, 1) := by decide +kernel
theorem dX10_touches_37 : decode cX10_touches 37 = .ok (.iaload, 1) := by decide +kernel
theorem dX10_touches_38 : decode cX10_touches 38 = .ok (.invokevirtual 129, 3) := by decide +kernel
theorem dX10_touches_41 : decode cX10_touches 41 = .ok (.ifCond .eq 5, 3) := by decide +kernel
theorem dX10_touches_44 : decode cX10_touches 44 = .ok (.iconst 1, 1) := by decide +kernel
theorem dX10_touches_45 : decode cX10_touches 45 = .ok (.ireturn, 1) := by decide +kernel
theorem dX10_touches_46 : decode cX10_touches 46 = .ok (.iinc 3 1, 3) := by decide +kernel
theorem dX10_touches_49 : decode cX10_touches 49 = .ok (.goto (-47), 3) := by decide +kernel
theorem dX10_touches_52 : decode cX10_touches 52 = .ok (.iconst 0, 1) := by decide +kernel
theorem dX10_touches_53 : decode cX10_touches 53 = .ok (.ireturn, 1) := by decide +kernel
theorem dX10_isTrue_0 : decode cX10_isTrue 0 = .ok (.aload_n 0, 1) := by decide +kernel
theorem dX10_isTrue_1 : decode cX10_isTrue 1 = .ok (.getfield 19, 3) := by decide +kernel
theorem dX10_isTrue_4 : decode cX10_isTrue 4 = .ok (.iload_n 1, 1) := by decide +kernel
theorem dX10_isTrue_5 : decode cX10_isTrue 5 = .ok (.iaload, 1) := by decide +kernel
theorem dX10_isTrue_6 : decode cX10_isTrue 6 = .ok (.tableswitch 114 0 2 #[26, 59, 84], 26) := by decide +kernel
theorem dX10_isTrue_32 : decode cX10_isTrue 32 = .ok (.aload_n 0, 1) := by decide +kernel
theorem dX10_isTrue_33 : decode cX10_isTrue 33 = .ok (.iload_n 1, 1) := by decide +kernel
theorem dX10_isTrue_34 : decode cX10_isTrue 34 = .ok (.invokevirtual 138, 3) := by decide +kernel
theorem dX10_isTrue_37 : decode cX10_isTrue 37 = .ok (.ifCond .eq 12, 3) := by decide +kernel
theorem dX10_isTrue_40 : decode cX10_isTrue 40 = .ok (.aload_n 0, 1) := by decide +kernel
theorem dX10_isTrue_41 : decode cX10_isTrue 41 = .ok (.iload_n 1, 1) := by decide +kernel
theorem dX10_isTrue_42 : decode cX10_isTrue 42 = .ok (.iload_n 2, 1) := by decide +kernel
theorem dX10_isTrue_43 : decode cX10_isTrue 43 = .ok (.invokevirtual 141, 3) := by decide +kernel
theorem dX10_isTrue_46 : decode cX10_isTrue 46 = .ok (.ifCond .eq 13, 3) := by decide +kernel
theorem dX10_isTrue_49 : decode cX10_isTrue 49 = .ok (.aload_n 0, 1) := by decide +kernel
theorem dX10_isTrue_50 : decode cX10_isTrue 50 = .ok (.iload_n 1, 1) := by decide +kernel
theorem dX10_isTrue_51 : decode cX10_isTrue 51 = .ok (.iload_n 2, 1) := by decide +kernel
theorem dX10_isTrue_52 : decode cX10_isTrue 52 = .ok (.invokevirtual 144, 3) := by decide +kernel
theorem dX10_isTrue_55 : decode cX10_isTrue 55 = .ok (.iconst (-1), 1) := by decide +kernel
theorem dX10_isTrue_56 : decode cX10_isTrue 56 = .ok (.if_icmp .eq 7, 3) := by decide +kernel
theorem dX10_isTrue_59 : decode cX10_isTrue 59 = .ok (.iconst 1, 1) := by decide +kernel
theorem dX10_isTrue_60 : decode cX10_isTrue 60 = .ok (.goto 4, 3) := by decide +kernel
theorem dX10_isTrue_63 : decode cX10_isTrue 63 = .ok (.iconst 0, 1) := by decide +kernel
theorem dX10_isTrue_64 : decode cX10_isTrue 64 = .ok (.ireturn, 1) := by decide +kernel
theorem dX10_isTrue_65 : decode cX10_isTrue 65 = .ok (.aload_n 0, 1) := by decide +kernel
theorem dX10_isTrue_66 : decode cX10_isTrue 66 = .ok (.iload_n 1, 1) := by decide +kernel
theorem dX10_isTrue_67 : decode cX10_isTrue 67 = .ok (.iload_n 2, 1) := by decide +kernel
theorem dX10_isTrue_68 : decode cX10_isTrue 68 = .ok (.invokevirtual 147, 3) := by decide +kernel
theorem dX10_isTrue_71 : decode cX10_isTrue 71 = .ok (.ifCond .eq 13, 3) := by decide +kernel
theorem dX10_isTrue_74 : decode cX10_isTrue 74 = .ok (.aload_n 0, 1) := by decide +kernel
theorem dX10_isTrue_75 : decode cX10_isTrue 75 = .ok (.iload_n 1, 1) := by decide +kernel
theorem dX10_isTrue_76 : decode cX10_isTrue 76 = .ok (.iload_n 2, 1) := by decide +kernel
theorem dX10_isTrue_77 : decode cX10_isTrue 77 = .ok (.invokevirtual 144, 3) := by decide +kernel
theorem dX10_isTrue_80 : decode cX10_isTrue 80 = .ok (.iconst (-1), 1) := by decide +kernel
theorem dX10_isTrue_81 : decode cX10_isTrue 81 = .ok (.if_icmp .ne 7, 3) := by decide +kernel
theorem dX10_isTrue_84 : decode cX10_isTrue 84 = .ok (.iconst 1, 1) := by decide +kernel
theorem dX10_isTrue_85 : decode cX10_isTrue 85 = .ok (.goto 4, 3) := by decide +kernel
theorem dX10_isTrue_88 : decode cX10_isTrue 88 = .ok (.iconst 0, 1) := by decide +kernel
theorem dX10_isTrue_89 : decode cX10_isTrue 89 = .ok (.ireturn, 1) := by decide +kernel
theorem dX10_isTrue_90 : decode cX10_isTrue 90 = .ok (.aload_n 0, 1) := by decide +kernel
theorem dX10_isTrue_91 : decode cX10_isTrue 91 = .ok (.iload_n 1, 1) := by decide +kernel
theorem dX10_isTrue_92 : decode cX10_isTrue 92 = .ok (.iload_n 2, 1) := by decide +kernel
theorem dX10_isTrue_93 : decode cX10_isTrue 93 = .ok (.invokevirtual 147, 3) := by decide +kernel
theorem dX10_isTrue_96 : decode cX10_isTrue 96 = .ok (.ifCond .eq 18, 3) := by decide +kernel
theorem dX10_isTrue_99 : decode cX10_isTrue 99 = .ok (.aload_n 0, 1) := by decide +kernel
theorem dX10_isTrue_100 : decode cX10_isTrue 100 = .ok (.iload_n 1, 1) := by decide +kernel
theorem dX10_isTrue_101 : decode cX10_isTrue 101 = .ok (.iconst 0, 1) := by decide +kernel
theorem dX10_isTrue_102 : decode cX10_isTrue 102 = .ok (.invokevirtual 132, 3) := by decide +kernel
theorem dX10_isTrue_105 : decode cX10_isTrue 105 = .ok (.aload_n 0, 1) := by decide +kernel
theorem dX10_isTrue_106 : decode cX10_isTrue 106 = .ok (.iload_n 1, 1) := by decide +kernel
theorem dX10_isTrue_107 : decode cX10_isTrue 107 = .ok (.iconst 1, 1) := by decide +kernel
theorem dX10_isTrue_108 : decode cX10_isTrue 108 = .ok (.invokevirtual 132, 3) := by decide +kernel
theorem dX10_isTrue_111 : decode cX10_isTrue 111 = .ok (.if_icmp .ne 7, 3) := by decide +kernel
theorem dX10_isTrue_114 : decode cX10_isTrue 114 = .ok (.iconst 1, 1) := by decide +kernel
theorem dX10_isTrue_115 : decode cX10_isTrue 115 = .ok (.goto 4, 3) := by decide +kernel
theorem dX10_isTrue_118 : decode cX10_isTrue 118 = .ok (.iconst 0, 1) := by decide +kernel
theorem dX10_isTrue_119 : decode cX10_isTrue 119 = .ok (.ireturn, 1) := by decide +kernel
theorem dX10_isTrue_120 : decode cX10_isTrue 120 = .ok (.aload_n 0, 1) := by decide +kernel
theorem dX10_isTrue_121 : decode cX10_isTrue 121 = .ok (.iload_n 1, 1) := by decide +kernel
theorem dX10_isTrue_122 : decode cX10_isTrue 122 = .ok (.iload_n 2, 1) := by decide +kernel
theorem dX10_isTrue_123 : decode cX10_isTrue 123 = .ok (.invokevirtual 147, 3) := by decide +kernel
theorem dX10_isTrue_126 : decode cX10_isTrue 126 = .ok (.ifCond .eq 21, 3) := by decide +kernel
theorem dX10_isTrue_129 : decode cX10_isTrue 129 = .ok (.aload_n 0, 1) := by decide +kernel
theorem dX10_isTrue_130 : decode cX10_isTrue 130 = .ok (.iload_n 1, 1) := by decide +kernel
theorem dX10_isTrue_131 : decode cX10_isTrue 131 = .ok (.iconst 0, 1) := by decide +kernel
theorem dX10_isTrue_132 : decode cX10_isTrue 132 = .ok (.invokevirtual 132, 3) := by decide +kernel
theorem dX10_isTrue_135 : decode cX10_isTrue 135 = .ok (.aload_n 0, 1) := by decide +kernel
theorem dX10_isTrue_136 : decode cX10_isTrue 136 = .ok (.iload_n 1, 1) := by decide +kernel
theorem dX10_isTrue_137 : decode cX10_isTrue 137 = .ok (.iconst 1, 1) := by decide +kernel
theorem dX10_isTrue_138 : decode cX10_isTrue 138 = .ok (.invokevirtual 132, 3) := by decide +kernel
theorem dX10_isTrue_141 : decode cX10_isTrue 141 = .ok (.invokestatic 99, 3) := by decide +kernel
theorem dX10_isTrue_144 : decode cX10_isTrue 144 = .ok (.ifCond .ge 7, 3) := by decide +kernel
theorem dX10_isTrue_147 : decode cX10_isTrue 147 = .ok (.iconst 1, 1) := by decide +kernel
theorem dX10_isTrue_148 : decode cX10_isTrue 148 = .ok (.goto 4, 3) := by decide +kernel
theorem dX10_isTrue_151 : decode cX10_isTrue 151 = .ok (.iconst 0, 1) := by decide +kernel
theorem dX10_isTrue_152 : decode cX10_isTrue 152 = .ok (.ireturn, 1) := by decide +kernel
theorem dX10_areTrue_0 : decode cX10_areTrue 0 = .ok (.iconst 0, 1) := by decide +kernel
theorem dX10_areTrue_1 : decode cX10_areTrue 1 = .ok (.istore_n 2, 1) := by decide +kernel
theorem dX10_areTrue_2 : decode cX10_areTrue 2 = .ok (.iload_n 2, 1) := by decide +kernel
theorem dX10_areTrue_3 : decode cX10_areTrue 3 = .ok (.aload_n 0, 1) := by decide +kernel
theorem dX10_areTrue_4 : decode cX10_areTrue 4 = .ok (.getfield 92, 3) := by decide +kernel
theorem dX10_areTrue_7 : decode cX10_areTrue 7 = .ok (.if_icmp .ge 20, 3) := by decide +kernel
theorem dX10_areTrue_10 : decode cX10_areTrue 10 = .ok (.aload_n 0, 1) := by decide +kernel
theorem dX10_areTrue_11 : decode cX10_areTrue 11 = .ok (.iload_n 2, 1) := by decide +kernel
theorem dX10_areTrue_12 : decode cX10_areTrue 12 = .ok (.iload_n 1, 1) := by decide +kernel
theorem dX10_areTrue_13 : decode cX10_areTrue 13 = .ok (.invokevirtual 150, 3) := by decide +kernel
theorem dX10_areTrue_16 : decode cX10_areTrue 16 = .ok (.ifCond .ne 5, 3) := by decide +kernel
theorem dX10_areTrue_19 : decode cX10_areTrue 19 = .ok (.iconst 0, 1) := by decide +kernel
theorem dX10_areTrue_20 : decode cX10_areTrue 20 = .ok (.ireturn, 1) := by decide +kernel
theorem dX10_areTrue_21 : decode cX10_areTrue 21 = .ok (.iinc 2 1, 3) := by decide +kernel
theorem dX10_areTrue_24 : decode cX10_areTrue 24 = .ok (.goto (-22), 3) := by decide +kernel
theorem dX10_areTrue_27 : decode cX10_areTrue 27 = .ok (.iconst 1, 1) := by decide +kernel
theorem dX10_areTrue_28 : decode cX10_areTrue 28 = .ok (.ireturn, 1) := by decide +kernel
theorem dX10_columnOf_0 : decode cX10_columnOf 0 = .ok (.iconst 0, 1) := by decide +kernel
theorem dX10_columnOf_1 : decode cX10_columnOf 1 = .ok (.istore_n 2, 1) := by decide +kernel
theorem dX10_columnOf_2 : decode cX10_columnOf 2 = .ok (.iload_n 2, 1) := by decide +kernel
theorem dX10_columnOf_3 : decode cX10_columnOf 3 = .ok (.aload_n 0, 1) := by decide +kernel
theorem dX10_columnOf_4 : decode cX10_columnOf 4 = .ok (.getfield 92, 3) := by decide +kernel
theorem dX10_columnOf_7 : decode cX10_columnOf 7 = .ok (.if_icmp .ge 56, 3) := by decide +kernel
theorem dX10_columnOf_10 : decode cX10_columnOf 10 = .ok (.iconst 0, 1) := by decide +kernel
theorem dX10_columnOf_11 : decode cX10_columnOf 11 = .ok (.istore_n 3, 1) := by decide +kernel
theorem dX10_columnOf_12 : decode cX10_columnOf 12 = .ok (.iload_n 3, 1) := by decide +kernel
theorem dX10_columnOf_13 : decode cX10_columnOf 13 = .ok (.aload_n 0, 1) := by decide +kernel
theorem dX10_columnOf_14 : decode cX10_columnOf 14 = .ok (.getfield 25, 3) := by decide +kernel
theorem dX10_columnOf_17 : decode cX10_columnOf 17 = .ok (.iload_n 2, 1) := by decide +kernel
theorem dX10_columnOf_18 : decode cX10_columnOf 18 = .ok (.iaload, 1) := by decide +kernel
theorem dX10_columnOf_19 : decode cX10_columnOf 19 = .ok (.if_icmp .ge 38, 3) := by decide +kernel
theorem dX10_columnOf_22 : decode cX10_columnOf 22 = .ok (.aload_n 0, 1) := by decide +kernel
theorem dX10_columnOf_23 : decode cX10_columnOf 23 = .ok (.getfield 19, 3) := by decide +kernel
theorem dX10_columnOf_26 : decode cX10_columnOf 26 = .ok (.iload_n 2, 1) := by decide +kernel
theorem dX10_columnOf_27 : decode cX10_columnOf 27 = .ok (.iaload, 1) := by decide +kernel
theorem dX10_columnOf_28 : decode cX10_columnOf 28 = .ok (.ifCond .ne 29, 3) := by decide +kernel
theorem dX10_columnOf_31 : decode cX10_columnOf 31 = .ok (.aload_n 0, 1) := by decide +kernel
theorem dX10_columnOf_32 : decode cX10_columnOf 32 = .ok (.getfield 28, 3) := by decide +kernel
theorem dX10_columnOf_35 : decode cX10_columnOf 35 = .ok (.iconst 3, 1) := by decide +kernel
theorem dX10_columnOf_36 : decode cX10_columnOf 36 = .ok (.iload_n 2, 1) := by decide +kernel
theorem dX10_columnOf_37 : decode cX10_columnOf 37 = .ok (.imul, 1) := by decide +kernel
theorem dX10_columnOf_38 : decode cX10_columnOf 38 = .ok (.iload_n 3, 1) := by decide +kernel
theorem dX10_columnOf_39 : decode cX10_columnOf 39 = .ok (.iadd, 1) := by decide +kernel
theorem dX10_columnOf_40 : decode cX10_columnOf 40 = .ok (.iaload, 1) := by decide +kernel
theorem dX10_columnOf_41 : decode cX10_columnOf 41 = .ok (.iload_n 1, 1) := by decide +kernel
theorem dX10_columnOf_42 : decode cX10_columnOf 42 = .ok (.if_icmp .ne 9, 3) := by decide +kernel
theorem dX10_columnOf_45 : decode cX10_columnOf 45 = .ok (.iconst 3, 1) := by decide +kernel
theorem dX10_columnOf_46 : decode cX10_columnOf 46 = .ok (.iload_n 2, 1) := by decide +kernel
theorem dX10_columnOf_47 : decode cX10_columnOf 47 = .ok (.imul, 1) := by decide +kernel
theorem dX10_columnOf_48 : decode cX10_columnOf 48 = .ok (.iload_n 3, 1) := by decide +kernel
theorem dX10_columnOf_49 : decode cX10_columnOf 49 = .ok (.iadd, 1) := by decide +kernel
theorem dX10_columnOf_50 : decode cX10_columnOf 50 = .ok (.ireturn, 1) := by decide +kernel
theorem dX10_columnOf_51 : decode cX10_columnOf 51 = .ok (.iinc 3 1, 3) := by decide +kernel
theorem dX10_columnOf_54 : decode cX10_columnOf 54 = .ok (.goto (-42), 3) := by decide +kernel
theorem dX10_columnOf_57 : decode cX10_columnOf 57 = .ok (.iinc 2 1, 3) := by decide +kernel
theorem dX10_columnOf_60 : decode cX10_columnOf 60 = .ok (.goto (-58), 3) := by decide +kernel
theorem dX10_columnOf_63 : decode cX10_columnOf 63 = .ok (.iconst (-1), 1) := by decide +kernel
theorem dX10_columnOf_64 : decode cX10_columnOf 64 = .ok (.ireturn, 1) := by decide +kernel
theorem dX10_isAgain_0 : decode cX10_isAgain 0 = .ok (.iconst 0, 1) := by decide +kernel
theorem dX10_isAgain_1 : decode cX10_isAgain 1 = .ok (.istore 4, 2) := by decide +kernel
theorem dX10_isAgain_3 : decode cX10_isAgain 3 = .ok (.iload 4, 2) := by decide +kernel
theorem dX10_isAgain_5 : decode cX10_isAgain 5 = .ok (.iload_n 3, 1) := by decide +kernel
theorem dX10_isAgain_6 : decode cX10_isAgain 6 = .ok (.if_icmp .ge 29, 3) := by decide +kernel
theorem dX10_isAgain_9 : decode cX10_isAgain 9 = .ok (.aload_n 0, 1) := by decide +kernel
theorem dX10_isAgain_10 : decode cX10_isAgain 10 = .ok (.iload_n 1, 1) := by decide +kernel
theorem dX10_isAgain_11 : decode cX10_isAgain 11 = .ok (.iload 4, 2) := by decide +kernel
theorem dX10_isAgain_13 : decode cX10_isAgain 13 = .ok (.iload_n 2, 1) := by decide +kernel
theorem dX10_isAgain_14 : decode cX10_isAgain 14 = .ok (.invokevirtual 95, 3) := by decide +kernel
theorem dX10_isAgain_17 : decode cX10_isAgain 17 = .ok (.aload_n 0, 1) := by decide +kernel
theorem dX10_isAgain_18 : decode cX10_isAgain 18 = .ok (.iload_n 1, 1) := by decide +kernel
theorem dX10_isAgain_19 : decode cX10_isAgain 19 = .ok (.iload_n 3, 1) := by decide +kernel
theorem dX10_isAgain_20 : decode cX10_isAgain 20 = .ok (.iload_n 2, 1) := by decide +kernel
theorem dX10_isAgain_21 : decode cX10_isAgain 21 = .ok (.invokevirtual 95, 3) := by decide +kernel
theorem dX10_isAgain_24 : decode cX10_isAgain 24 = .ok (.if_icmp .ne 5, 3) := by decide +kernel
theorem dX10_isAgain_27 : decode cX10_isAgain 27 = .ok (.iconst 1, 1) := by decide +kernel
theorem dX10_isAgain_28 : decode cX10_isAgain 28 = .ok (.ireturn, 1) := by decide +kernel
theorem dX10_isAgain_29 : decode cX10_isAgain 29 = .ok (.iinc 4 1, 3) := by decide +kernel
theorem dX10_isAgain_32 : decode cX10_isAgain 32 = .ok (.goto (-29), 3) := by decide +kernel
theorem dX10_isAgain_35 : decode cX10_isAgain 35 = .ok (.iconst 0, 1) := by decide +kernel
theorem dX10_isAgain_36 : decode cX10_isAgain 36 = .ok (.ireturn, 1) := by decide +kernel
theorem dX10_meets_0 : decode cX10_meets 0 = .ok (.aload_n 0, 1) := by decide +kernel
theorem dX10_meets_1 : decode cX10_meets 1 = .ok (.iconst 1, 1) := by decide +kernel
theorem dX10_meets_2 : decode cX10_meets 2 = .ok (.putfield 153, 3) := by decide +kernel
theorem dX10_meets_5 : decode cX10_meets 5 = .ok (.iconst 0, 1) := by decide +kernel
theorem dX10_meets_6 : decode cX10_meets 6 = .ok (.istore_n 1, 1) := by decide +kernel
theorem dX10_meets_7 : decode cX10_meets 7 = .ok (.iload_n 1, 1) := by decide +kernel
theorem dX10_meets_8 : decode cX10_meets 8 = .ok (.bipush 6, 2) := by decide +kernel
theorem dX10_meets_10 : decode cX10_meets 10 = .ok (.if_icmp .ge 16, 3) := by decide +kernel
theorem dX10_meets_13 : decode cX10_meets 13 = .ok (.aload_n 0, 1) := by decide +kernel
theorem dX10_meets_14 : decode cX10_meets 14 = .ok (.getfield 37, 3) := by decide +kernel
theorem dX10_meets_17 : decode cX10_meets 17 = .ok (.iload_n 1, 1) := by decide +kernel
theorem dX10_meets_18 : decode cX10_meets 18 = .ok (.iconst 0, 1) := by decide +kernel
theorem dX10_meets_19 : decode cX10_meets 19 = .ok (.iastore, 1) := by decide +kernel
theorem dX10_meets_20 : decode cX10_meets 20 = .ok (.iinc 1 1, 3) := by decide +kernel
theorem dX10_meets_23 : decode cX10_meets 23 = .ok (.goto (-16), 3) := by decide +kernel
theorem dX10_meets_26 : decode cX10_meets 26 = .ok (.iconst 0, 1) := by decide +kernel
theorem dX10_meets_27 : decode cX10_meets 27 = .ok (.istore_n 1, 1) := by decide +kernel
theorem dX10_meets_28 : decode cX10_meets 28 = .ok (.iconst 0, 1) := by decide +kernel
theorem dX10_meets_29 : decode cX10_meets 29 = .ok (.istore_n 2, 1) := by decide +kernel
theorem dX10_meets_30 : decode cX10_meets 30 = .ok (.iload_n 2, 1) := by decide +kernel
theorem dX10_meets_31 : decode cX10_meets 31 = .ok (.aload_n 0, 1) := by decide +kernel
theorem dX10_meets_32 : decode cX10_meets 32 = .ok (.getfield 119, 3) := by decide +kernel
theorem dX10_meets_35 : decode cX10_meets 35 = .ok (.if_icmp .ge 261, 3) := by decide +kernel
theorem dX10_meets_38 : decode cX10_meets 38 = .ok (.aload_n 0, 1) := by decide +kernel
theorem dX10_meets_39 : decode cX10_meets 39 = .ok (.getfield 34, 3) := by decide +kernel
theorem dX10_meets_42 : decode cX10_meets 42 = .ok (.iload_n 2, 1) := by decide +kernel
theorem dX10_meets_43 : decode cX10_meets 43 = .ok (.iaload, 1) := by decide +kernel
theorem dX10_meets_44 : decode cX10_meets 44 = .ok (.istore_n 3, 1) := by decide +kernel
theorem dX10_meets_45 : decode cX10_meets 45 = .ok (.iload_n 1, 1) := by decide +kernel
theorem dX10_meets_46 : decode cX10_meets 46 = .ok (.iconst 1, 1) := by decide +kernel
theorem dX10_meets_47 : decode cX10_meets 47 = .ok (.iload_n 3, 1) := by decide +kernel
theorem dX10_meets_48 : decode cX10_meets 48 = .ok (.ishl, 1) := by decide +kernel
theorem dX10_meets_49 : decode cX10_meets 49 = .ok (.ior, 1) := by decide +kernel
theorem dX10_meets_50 : decode cX10_meets 50 = .ok (.istore_n 1, 1) := by decide +kernel
theorem dX10_meets_51 : decode cX10_meets 51 = .ok (.aload_n 0, 1) := by decide +kernel
theorem dX10_meets_52 : decode cX10_meets 52 = .ok (.iload_n 3, 1) := by decide +kernel
theorem dX10_meets_53 : decode cX10_meets 53 = .ok (.invokevirtual 156, 3) := by decide +kernel
theorem dX10_meets_56 : decode cX10_meets 56 = .ok (.istore 4, 2) := by decide +kernel
theorem dX10_meets_58 : decode cX10_meets 58 = .ok (.aload_n 0, 1) := by decide +kernel
theorem dX10_meets_59 : decode cX10_meets 59 = .ok (.getfield 22, 3) := by decide +kernel
theorem dX10_meets_62 : decode cX10_meets 62 = .ok (.iload 4, 2) := by decide +kernel
theorem dX10_meets_64 : decode cX10_meets 64 = .ok (.iconst 3, 1) := by decide +kernel
theorem dX10_meets_65 : decode cX10_meets 65 = .ok (.idiv, 1) := by decide +kernel
theorem dX10_meets_66 : decode cX10_meets 66 = .ok (.iaload, 1) := by decide +kernel
theorem dX10_meets_67 : decode cX10_meets 67 = .ok (.istore 5, 2) := by decide +kernel
theorem dX10_meets_69 : decode cX10_meets 69 = .ok (.iconst 0, 1) := by decide +kernel
theorem dX10_meets_70 : decode cX10_meets 70 = .ok (.istore 6, 2) := by decide +kernel
theorem dX10_meets_72 : decode cX10_meets 72 = .ok (.iconst 0, 1) := by decide +kernel
theorem dX10_meets_73 : decode cX10_meets 73 = .ok (.istore 7, 2) := by decide +kernel
theorem dX10_meets_75 : decode cX10_meets 75 = .ok (.iload 7, 2) := by decide +kernel
theorem dX10_meets_77 : decode cX10_meets 77 = .ok (.aload_n 0, 1) := by decide +kernel
theorem dX10_meets_78 : decode cX10_meets 78 = .ok (.getfield 153, 3) := by decide +kernel
theorem dX10_meets_81 : decode cX10_meets 81 = .ok (.if_icmp .ge 162, 3) := by decide +kernel
theorem dX10_meets_84 : decode cX10_meets 84 = .ok (.iconst 0, 1) := by decide +kernel
theorem dX10_meets_85 : decode cX10_meets 85 = .ok (.istore 8, 2) := by decide +kernel
theorem dX10_meets_87 : decode cX10_meets 87 = .ok (.iload 8, 2) := by decide +kernel
theorem dX10_meets_89 : decode cX10_meets 89 = .ok (.aload_n 0, 1) := by decide +kernel
theorem dX10_meets_90 : decode cX10_meets 90 = .ok (.getfield 13, 3) := by decide +kernel
theorem dX10_meets_93 : decode cX10_meets 93 = .ok (.iload 5, 2) := by decide +kernel
theorem dX10_meets_95 : decode cX10_meets 95 = .ok (.iaload, 1) := by decide +kernel
theorem dX10_meets_96 : decode cX10_meets 96 = .ok (.if_icmp .ge 141, 3) := by decide +kernel
theorem dX10_meets_99 : decode cX10_meets 99 = .ok (.aload_n 0, 1) := by decide +kernel
theorem dX10_meets_100 : decode cX10_meets 100 = .ok (.iload 5, 2) := by decide +kernel
theorem dX10_meets_102 : decode cX10_meets 102 = .ok (.iload 4, 2) := by decide +kernel
theorem dX10_meets_104 : decode cX10_meets 104 = .ok (.iconst 3, 1) := by decide +kernel
theorem dX10_meets_105 : decode cX10_meets 105 = .ok (.irem, 1) := by decide +kernel
theorem dX10_meets_106 : decode cX10_meets 106 = .ok (.iload 8, 2) := by decide +kernel
theorem dX10_meets_108 : decode cX10_meets 108 = .ok (.invokevirtual 160, 3) := by decide +kernel
theorem dX10_meets_111 : decode cX10_meets 111 = .ok (.ifCond .eq 6, 3) := by decide +kernel
theorem dX10_meets_114 : decode cX10_meets 114 = .ok (.goto 117, 3) := by decide +kernel
theorem dX10_meets_117 : decode cX10_meets 117 = .ok (.iconst 0, 1) := by decide +kernel
theorem dX10_meets_118 : decode cX10_meets 118 = .ok (.istore 9, 2) := by decide +kernel
theorem dX10_meets_120 : decode cX10_meets 120 = .ok (.iload 9, 2) := by decide +kernel
theorem dX10_meets_122 : decode cX10_meets 122 = .ok (.bipush 6, 2) := by decide +kernel
theorem dX10_meets_124 : decode cX10_meets 124 = .ok (.if_icmp .ge 29, 3) := by decide +kernel
theorem dX10_meets_127 : decode cX10_meets 127 = .ok (.aload_n 0, 1) := by decide +kernel
theorem dX10_meets_128 : decode cX10_meets 128 = .ok (.getfield 69, 3) := by decide +kernel
theorem dX10_meets_131 : decode cX10_meets 131 = .ok (.iload 9, 2) := by decide +kernel
theorem dX10_meets_133 : decode cX10_meets 133 = .ok (.aload_n 0, 1) := by decide +kernel
theorem dX10_meets_134 : decode cX10_meets 134 = .ok (.getfield 37, 3) := by decide +kernel
theorem dX10_meets_137 : decode cX10_meets 137 = .ok (.bipush 6, 2) := by decide +kernel
theorem dX10_meets_139 : decode cX10_meets 139 = .ok (.iload 7, 2) := by decide +kernel
theorem dX10_meets_141 : decode cX10_meets 141 = .ok (.imul, 1) := by decide +kernel
theorem dX10_meets_142 : decode cX10_meets 142 = .ok (.iload 9, 2) := by decide +kernel
theorem dX10_meets_144 : decode cX10_meets 144 = .ok (.iadd, 1) := by decide +kernel
theorem dX10_meets_145 : decode cX10_meets 145 = .ok (.iaload, 1) := by decide +kernel
theorem dX10_meets_146 : decode cX10_meets 146 = .ok (.iastore, 1) := by decide +kernel
theorem dX10_meets_147 : decode cX10_meets 147 = .ok (.iinc 9 1, 3) := by decide +kernel
theorem dX10_meets_150 : decode cX10_meets 150 = .ok (.goto (-30), 3) := by decide +kernel
theorem dX10_meets_153 : decode cX10_meets 153 = .ok (.aload_n 0, 1) := by decide +kernel
theorem dX10_meets_154 : decode cX10_meets 154 = .ok (.getfield 69, 3) := by decide +kernel
theorem dX10_meets_157 : decode cX10_meets 157 = .ok (.iload_n 3, 1) := by decide +kernel
theorem dX10_meets_158 : decode cX10_meets 158 = .ok (.aload_n 0, 1) := by decide +kernel
theorem dX10_meets_159 : decode cX10_meets 159 = .ok (.iload 5, 2) := by decide +kernel
theorem dX10_meets_161 : decode cX10_meets 161 = .ok (.iload 8, 2) := by decide +kernel
theorem dX10_meets_163 : decode cX10_meets 163 = .ok (.iload 4, 2) := by decide +kernel
theorem dX10_meets_165 : decode cX10_meets 165 = .ok (.iconst 3, 1) := by decide +kernel
theorem dX10_meets_166 : decode cX10_meets 166 = .ok (.irem, 1) := by decide +kernel
theorem dX10_meets_167 : decode cX10_meets 167 = .ok (.invokevirtual 95, 3) := by decide +kernel
theorem dX10_meets_170 : decode cX10_meets 170 = .ok (.iastore, 1) := by decide +kernel
theorem dX10_meets_171 : decode cX10_meets 171 = .ok (.aload_n 0, 1) := by decide +kernel
theorem dX10_meets_172 : decode cX10_meets 172 = .ok (.iload_n 1, 1) := by decide +kernel
theorem dX10_meets_173 : decode cX10_meets 173 = .ok (.invokevirtual 163, 3) := by decide +kernel
theorem dX10_meets_176 : decode cX10_meets 176 = .ok (.ifCond .ne 6, 3) := by decide +kernel
theorem dX10_meets_179 : decode cX10_meets 179 = .ok (.goto 52, 3) := by decide +kernel
theorem dX10_meets_182 : decode cX10_meets 182 = .ok (.iload 6, 2) := by decide +kernel
theorem dX10_meets_184 : decode cX10_meets 184 = .ok (.sipush 500, 3) := by decide +kernel
theorem dX10_meets_187 : decode cX10_meets 187 = .ok (.if_icmp .ne 5, 3) := by decide +kernel
theorem dX10_meets_190 : decode cX10_meets 190 = .ok (.iconst 0, 1) := by decide +kernel
theorem dX10_meets_191 : decode cX10_meets 191 = .ok (.ireturn, 1) := by decide +kernel
theorem dX10_meets_192 : decode cX10_meets 192 = .ok (.iconst 0, 1) := by decide +kernel
theorem dX10_meets_193 : decode cX10_meets 193 = .ok (.istore 9, 2) := by decide +kernel
theorem dX10_meets_195 : decode cX10_meets 195 = .ok (.iload 9, 2) := by decide +kernel
theorem dX10_meets_197 : decode cX10_meets 197 = .ok (.bipush 6, 2) := by decide +kernel
theorem dX10_meets_199 : decode cX10_meets 199 = .ok (.if_icmp .ge 29, 3) := by decide +kernel
theorem dX10_meets_202 : decode cX10_meets 202 = .ok (.aload_n 0, 1) := by decide +kernel
theorem dX10_meets_203 : decode cX10_meets 203 = .ok (.getfield 40, 3) := by decide +kernel
theorem dX10_meets_206 : decode cX10_meets 206 = .ok (.bipush 6, 2) := by decide +kernel
theorem dX10_meets_208 : decode cX10_meets 208 = .ok (.iload 6, 2) := by decide +kernel
theorem dX10_meets_210 : decode cX10_meets 210 = .ok (.imul, 1) := by decide +kernel
theorem dX10_meets_211 : decode cX10_meets 211 = .ok (.iload 9, 2) := by decide +kernel
theorem dX10_meets_213 : decode cX10_meets 213 = .ok (.iadd, 1) := by decide +kernel
theorem dX10_meets_214 : decode cX10_meets 214 = .ok (.aload_n 0, 1) := by decide +kernel
theorem dX10_meets_215 : decode cX10_meets 215 = .ok (.getfield 69, 3) := by decide +kernel
theorem dX10_meets_218 : decode cX10_meets 218 = .ok (.iload 9, 2) := by decide +kernel
theorem dX10_meets_220 : decode cX10_meets 220 = .ok (.iaload, 1) := by decide +kernel
theorem dX10_meets_221 : decode cX10_meets 221 = .ok (.iastore, 1) := by decide +kernel
theorem dX10_meets_222 : decode cX10_meets 222 = .ok (.iinc 9 1, 3) := by decide +kernel
theorem dX10_meets_225 : decode cX10_meets 225 = .ok (.goto (-30), 3) := by decide +kernel
theorem dX10_meets_228 : decode cX10_meets 228 = .ok (.iinc 6 1, 3) := by decide +kernel
theorem dX10_meets_231 : decode cX10_meets 231 = .ok (.iinc 8 1, 3) := by decide +kernel
theorem dX10_meets_234 : decode cX10_meets 234 = .ok (.goto (-147), 3) := by decide +kernel
theorem dX10_meets_237 : decode cX10_meets 237 = .ok (.iinc 7 1, 3) := by decide +kernel
theorem dX10_meets_240 : decode cX10_meets 240 = .ok (.goto (-165), 3) := by decide +kernel
theorem dX10_meets_243 : decode cX10_meets 243 = .ok (.iconst 0, 1) := by decide +kernel
theorem dX10_meets_244 : decode cX10_meets 244 = .ok (.istore 7, 2) := by decide +kernel
theorem dX10_meets_246 : decode cX10_meets 246 = .ok (.iload 7, 2) := by decide +kernel
theorem dX10_meets_248 : decode cX10_meets 248 = .ok (.bipush 6, 2) := by decide +kernel
theorem dX10_meets_250 : decode cX10_meets 250 = .ok (.iload 6, 2) := by decide +kernel
theorem dX10_meets_252 : decode cX10_meets 252 = .ok (.imul, 1) := by decide +kernel
theorem dX10_meets_253 : decode cX10_meets 253 = .ok (.if_icmp .ge 23, 3) := by decide +kernel
theorem dX10_meets_256 : decode cX10_meets 256 = .ok (.aload_n 0, 1) := by decide +kernel
theorem dX10_meets_257 : decode cX10_meets 257 = .ok (.getfield 37, 3) := by decide +kernel
theorem dX10_meets_260 : decode cX10_meets 260 = .ok (.iload 7, 2) := by decide +kernel
theorem dX10_meets_262 : decode cX10_meets 262 = .ok (.aload_n 0, 1) := by decide +kernel
theorem dX10_meets_263 : decode cX10_meets 263 = .ok (.getfield 40, 3) := by decide +kernel
theorem dX10_meets_266 : decode cX10_meets 266 = .ok (.iload 7, 2) := by decide +kernel
theorem dX10_meets_268 : decode cX10_meets 268 = .ok (.iaload, 1) := by decide +kernel
theorem dX10_meets_269 : decode cX10_meets 269 = .ok (.iastore, 1) := by decide +kernel
theorem dX10_meets_270 : decode cX10_meets 270 = .ok (.iinc 7 1, 3) := by decide +kernel
theorem dX10_meets_273 : decode cX10_meets 273 = .ok (.goto (-27), 3) := by decide +kernel
theorem dX10_meets_276 : decode cX10_meets 276 = .ok (.aload_n 0, 1) := by decide +kernel
theorem dX10_meets_277 : decode cX10_meets 277 = .ok (.iload 6, 2) := by decide +kernel
theorem dX10_meets_279 : decode cX10_meets 279 = .ok (.putfield 153, 3) := by decide +kernel
theorem dX10_meets_282 : decode cX10_meets 282 = .ok (.aload_n 0, 1) := by decide +kernel
theorem dX10_meets_283 : decode cX10_meets 283 = .ok (.getfield 43, 3) := by decide +kernel
theorem dX10_meets_286 : decode cX10_meets 286 = .ok (.iload_n 2, 1) := by decide +kernel
theorem dX10_meets_287 : decode cX10_meets 287 = .ok (.iload 6, 2) := by decide +kernel
theorem dX10_meets_289 : decode cX10_meets 289 = .ok (.iastore, 1) := by decide +kernel
theorem dX10_meets_290 : decode cX10_meets 290 = .ok (.iinc 2 1, 3) := by decide +kernel
theorem dX10_meets_293 : decode cX10_meets 293 = .ok (.goto (-263), 3) := by decide +kernel
theorem dX10_meets_296 : decode cX10_meets 296 = .ok (.iconst 1, 1) := by decide +kernel
theorem dX10_meets_297 : decode cX10_meets 297 = .ok (.ireturn, 1) := by decide +kernel
theorem dX10_against__0 : decode cX10_against_ 0 = .ok (.iconst 0, 1) := by decide +kernel
theorem dX10_against__1 : decode cX10_against_ 1 = .ok (.istore 5, 2) := by decide +kernel
theorem dX10_against__3 : decode cX10_against_ 3 = .ok (.iload 5, 2) := by decide +kernel
theorem dX10_against__5 : decode cX10_against_ 5 = .ok (.iload 4, 2) := by decide +kernel
theorem dX10_against__7 : decode cX10_against_ 7 = .ok (.if_icmp .ge 40, 3) := by decide +kernel
theorem dX10_against__10 : decode cX10_against_ 10 = .ok (.aload_n 0, 1) := by decide +kernel
theorem dX10_against__11 : decode cX10_against_ 11 = .ok (.bipush 6, 2) := by decide +kernel
theorem dX10_against__13 : decode cX10_against_ 13 = .ok (.iload_n 1, 1) := by decide +kernel
theorem dX10_against__14 : decode cX10_against_ 14 = .ok (.imul, 1) := by decide +kernel
theorem dX10_against__15 : decode cX10_against_ 15 = .ok (.iload 5, 2) := by decide +kernel
theorem dX10_against__17 : decode cX10_against_ 17 = .ok (.iadd, 1) := by decide +kernel
theorem dX10_against__18 : decode cX10_against_ 18 = .ok (.iaload, 1) := by decide +kernel
theorem dX10_against__19 : decode cX10_against_ 19 = .ok (.aload_n 2, 1) := by decide +kernel
theorem dX10_against__20 : decode cX10_against_ 20 = .ok (.bipush 6, 2) := by decide +kernel
theorem dX10_against__22 : decode cX10_against_ 22 = .ok (.iload_n 3, 1) := by decide +kernel
theorem dX10_against__23 : decode cX10_against_ 23 = .ok (.imul, 1) := by decide +kernel
theorem dX10_against__24 : decode cX10_against_ 24 = .ok (.iload 5, 2) := by decide +kernel
theorem dX10_against__26 : decode cX10_against_ 26 = .ok (.iadd, 1) := by decide +kernel
theorem dX10_against__27 : decode cX10_against_ 27 = .ok (.iaload, 1) := by decide +kernel
theorem dX10_against__28 : decode cX10_against_ 28 = .ok (.invokestatic 99, 3) := by decide +kernel
theorem dX10_against__31 : decode cX10_against_ 31 = .ok (.istore 6, 2) := by decide +kernel
theorem dX10_against__33 : decode cX10_against_ 33 = .ok (.iload 6, 2) := by decide +kernel
theorem dX10_against__35 : decode cX10_against_ 35 = .ok (.ifCond .eq 6, 3) := by decide +kernel
theorem dX10_against__38 : decode cX10_against_ 38 = .ok (.iload 6, 2) := by decide +kernel
theorem dX10_against__40 : decode cX10_against_ 40 = .ok (.ireturn, 1) := by decide +kernel
theorem dX10_against__41 : decode cX10_against_ 41 = .ok (.iinc 5 1, 3) := by decide +kernel
theorem dX10_against__44 : decode cX10_against_ 44 = .ok (.goto (-41), 3) := by decide +kernel
theorem dX10_against__47 : decode cX10_against_ 47 = .ok (.iconst 0, 1) := by decide +kernel
theorem dX10_against__48 : decode cX10_against_ 48 = .ok (.ireturn, 1) := by decide +kernel
theorem dX10_weave_0 : decode cX10_weave 0 = .ok (.aload_n 0, 1) := by decide +kernel
theorem dX10_weave_1 : decode cX10_weave 1 = .ok (.invokevirtual 166, 3) := by decide +kernel
theorem dX10_weave_4 : decode cX10_weave 4 = .ok (.ifCond .ne 5, 3) := by decide +kernel
theorem dX10_weave_7 : decode cX10_weave 7 = .ok (.iconst (-1), 1) := by decide +kernel
theorem dX10_weave_8 : decode cX10_weave 8 = .ok (.ireturn, 1) := by decide +kernel
theorem dX10_weave_9 : decode cX10_weave 9 = .ok (.aload_n 0, 1) := by decide +kernel
theorem dX10_weave_10 : decode cX10_weave 10 = .ok (.invokevirtual 170, 3) := by decide +kernel
theorem dX10_weave_13 : decode cX10_weave 13 = .ok (.ifCond .ne 6, 3) := by decide +kernel
theorem dX10_weave_16 : decode cX10_weave 16 = .ok (.bipush (-2), 2) := by decide +kernel
theorem dX10_weave_18 : decode cX10_weave 18 = .ok (.ireturn, 1) := by decide +kernel
theorem dX10_weave_19 : decode cX10_weave 19 = .ok (.aload_n 0, 1) := by decide +kernel
theorem dX10_weave_20 : decode cX10_weave 20 = .ok (.aload_n 0, 1) := by decide +kernel
theorem dX10_weave_21 : decode cX10_weave 21 = .ok (.getfield 119, 3) := by decide +kernel
theorem dX10_weave_24 : decode cX10_weave 24 = .ok (.putfield 173, 3) := by decide +kernel
theorem dX10_weave_27 : decode cX10_weave 27 = .ok (.aload_n 0, 1) := by decide +kernel
theorem dX10_weave_28 : decode cX10_weave 28 = .ok (.aload_n 0, 1) := by decide +kernel
theorem dX10_weave_29 : decode cX10_weave 29 = .ok (.getfield 153, 3) := by decide +kernel
theorem dX10_weave_32 : decode cX10_weave 32 = .ok (.putfield 46, 3) := by decide +kernel
theorem dX10_weave_35 : decode cX10_weave 35 = .ok (.aload_n 0, 1) := by decide +kernel
theorem dX10_weave_36 : decode cX10_weave 36 = .ok (.aload_n 0, 1) := by decide +kernel
theorem dX10_weave_37 : decode cX10_weave 37 = .ok (.getfield 92, 3) := by decide +kernel
theorem dX10_weave_40 : decode cX10_weave 40 = .ok (.putfield 176, 3) := by decide +kernel
theorem dX10_weave_43 : decode cX10_weave 43 = .ok (.iconst 0, 1) := by decide +kernel
theorem dX10_weave_44 : decode cX10_weave 44 = .ok (.istore_n 1, 1) := by decide +kernel
theorem dX10_weave_45 : decode cX10_weave 45 = .ok (.iload_n 1, 1) := by decide +kernel
theorem dX10_weave_46 : decode cX10_weave 46 = .ok (.aload_n 0, 1) := by decide +kernel
theorem dX10_weave_47 : decode cX10_weave 47 = .ok (.getfield 119, 3) := by decide +kernel
theorem dX10_weave_50 : decode cX10_weave 50 = .ok (.if_icmp .ge 21, 3) := by decide +kernel
theorem dX10_weave_53 : decode cX10_weave 53 = .ok (.aload_n 0, 1) := by decide +kernel
theorem dX10_weave_54 : decode cX10_weave 54 = .ok (.getfield 53, 3) := by decide +kernel
theorem dX10_weave_57 : decode cX10_weave 57 = .ok (.iload_n 1, 1) := by decide +kernel
theorem dX10_weave_58 : decode cX10_weave 58 = .ok (.aload_n 0, 1) := by decide +kernel
theorem dX10_weave_59 : decode cX10_weave 59 = .ok (.getfield 43, 3) := by decide +kernel
theorem dX10_weave_62 : decode cX10_weave 62 = .ok (.iload_n 1, 1) := by decide +kernel
theorem dX10_weave_63 : decode cX10_weave 63 = .ok (.iaload, 1) := by decide +kernel
theorem dX10_weave_64 : decode cX10_weave 64 = .ok (.iastore, 1) := by decide +kernel
theorem dX10_weave_65 : decode cX10_weave 65 = .ok (.iinc 1 1, 3) := by decide +kernel
theorem dX10_weave_68 : decode cX10_weave 68 = .ok (.goto (-23), 3) := by decide +kernel
theorem dX10_weave_71 : decode cX10_weave 71 = .ok (.iconst 0, 1) := by decide +kernel
theorem dX10_weave_72 : decode cX10_weave 72 = .ok (.istore_n 1, 1) := by decide +kernel
theorem dX10_weave_73 : decode cX10_weave 73 = .ok (.iload_n 1, 1) := by decide +kernel
theorem dX10_weave_74 : decode cX10_weave 74 = .ok (.aload_n 0, 1) := by decide +kernel
theorem dX10_weave_75 : decode cX10_weave 75 = .ok (.getfield 153, 3) := by decide +kernel
theorem dX10_weave_78 : decode cX10_weave 78 = .ok (.if_icmp .ge 118, 3) := by decide +kernel
theorem dX10_weave_81 : decode cX10_weave 81 = .ok (.iload_n 1, 1) := by decide +kernel
theorem dX10_weave_82 : decode cX10_weave 82 = .ok (.istore_n 2, 1) := by decide +kernel
theorem dX10_weave_83 : decode cX10_weave 83 = .ok (.iload_n 2, 1) := by decide +kernel
theorem dX10_weave_84 : decode cX10_weave 84 = .ok (.ifCond .le 70, 3) := by decide +kernel
theorem dX10_weave_87 : decode cX10_weave 87 = .ok (.aload_n 0, 1) := by decide +kernel
theorem dX10_weave_88 : decode cX10_weave 88 = .ok (.getfield 50, 3) := by decide +kernel
theorem dX10_weave_91 : decode cX10_weave 91 = .ok (.iload_n 2, 1) := by decide +kernel
theorem dX10_weave_92 : decode cX10_weave 92 = .ok (.iconst 1, 1) := by decide +kernel
theorem dX10_weave_93 : decode cX10_weave 93 = .ok (.isub, 1) := by decide +kernel
theorem dX10_weave_94 : decode cX10_weave 94 = .ok (.aload_n 0, 1) := by decide +kernel
theorem dX10_weave_95 : decode cX10_weave 95 = .ok (.getfield 37, 3) := by decide +kernel
theorem dX10_weave_98 : decode cX10_weave 98 = .ok (.iload_n 1, 1) := by decide +kernel
theorem dX10_weave_99 : decode cX10_weave 99 = .ok (.aload_n 0, 1) := by decide +kernel
theorem dX10_weave_100 : decode cX10_weave 100 = .ok (.getfield 119, 3) := by decide +kernel
theorem dX10_weave_103 : decode cX10_weave 103 = .ok (.invokestatic 179, 3) := by decide +kernel
theorem dX10_weave_106 : decode cX10_weave 106 = .ok (.ifCond .le 48, 3) := by decide +kernel
theorem dX10_weave_109 : decode cX10_weave 109 = .ok (.iconst 0, 1) := by decide +kernel
theorem dX10_weave_110 : decode cX10_weave 110 = .ok (.istore_n 3, 1) := by decide +kernel
theorem dX10_weave_111 : decode cX10_weave 111 = .ok (.iload_n 3, 1) := by decide +kernel
theorem dX10_weave_112 : decode cX10_weave 112 = .ok (.bipush 6, 2) := by decide +kernel
theorem dX10_weave_114 : decode cX10_weave 114 = .ok (.if_icmp .ge 34, 3) := by decide +kernel
theorem dX10_weave_117 : decode cX10_weave 117 = .ok (.aload_n 0, 1) := by decide +kernel
theorem dX10_weave_118 : decode cX10_weave 118 = .ok (.getfield 50, 3) := by decide +kernel
theorem dX10_weave_121 : decode cX10_weave 121 = .ok (.bipush 6, 2) := by decide +kernel
theorem dX10_weave_123 : decode cX10_weave 123 = .ok (.iload_n 2, 1) := by decide +kernel
theorem dX10_weave_124 : decode cX10_weave 124 = .ok (.imul, 1) := by decide +kernel
theorem dX10_weave_125 : decode cX10_weave 125 = .ok (.iload_n 3, 1) := by decide +kernel
theorem dX10_weave_126 : decode cX10_weave 126 = .ok (.iadd, 1) := by decide +kernel
theorem dX10_weave_127 : decode cX10_weave 127 = .ok (.aload_n 0, 1) := by decide +kernel
theorem dX10_weave_128 : decode cX10_weave 128 = .ok (.getfield 50, 3) := by decide +kernel
theorem dX10_weave_131 : decode cX10_weave 131 = .ok (.bipush 6, 2) := by decide +kernel
theorem dX10_weave_133 : decode cX10_weave 133 = .ok (.iload_n 2, 1) := by decide +kernel
theorem dX10_weave_134 : decode cX10_weave 134 = .ok (.imul, 1) := by decide +kernel
theorem dX10_weave_135 : decode cX10_weave 135 = .ok (.bipush 6, 2) := by decide +kernel
theorem dX10_weave_137 : decode cX10_weave 137 = .ok (.isub, 1) := by decide +kernel
theorem dX10_weave_138 : decode cX10_weave 138 = .ok (.iload_n 3, 1) := by decide +kernel
theorem dX10_weave_139 : decode cX10_weave 139 = .ok (.iadd, 1) := by decide +kernel
theorem dX10_weave_140 : decode cX10_weave 140 = .ok (.iaload, 1) := by decide +kernel
theorem dX10_weave_141 : decode cX10_weave 141 = .ok (.iastore, 1) := by decide +kernel
theorem dX10_weave_142 : decode cX10_weave 142 = .ok (.iinc 3 1, 3) := by decide +kernel
theorem dX10_weave_145 : decode cX10_weave 145 = .ok (.goto (-34), 3) := by decide +kernel
theorem dX10_weave_148 : decode cX10_weave 148 = .ok (.iinc 2 (-1), 3) := by decide +kernel
theorem dX10_weave_151 : decode cX10_weave 151 = .ok (.goto (-68), 3) := by decide +kernel
theorem dX10_weave_154 : decode cX10_weave 154 = .ok (.iconst 0, 1) := by decide +kernel
theorem dX10_weave_155 : decode cX10_weave 155 = .ok (.istore_n 3, 1) := by decide +kernel
theorem dX10_weave_156 : decode cX10_weave 156 = .ok (.iload_n 3, 1) := by decide +kernel
theorem dX10_weave_157 : decode cX10_weave 157 = .ok (.bipush 6, 2) := by decide +kernel
theorem dX10_weave_159 : decode cX10_weave 159 = .ok (.if_icmp .ge 31, 3) := by decide +kernel
theorem dX10_weave_162 : decode cX10_weave 162 = .ok (.aload_n 0, 1) := by decide +kernel
theorem dX10_weave_163 : decode cX10_weave 163 = .ok (.getfield 50, 3) := by decide +kernel
theorem dX10_weave_166 : decode cX10_weave 166 = .ok (.bipush 6, 2) := by decide +kernel
theorem dX10_weave_168 : decode cX10_weave 168 = .ok (.iload_n 2, 1) := by decide +kernel
theorem dX10_weave_169 : decode cX10_weave 169 = .ok (.imul, 1) := by decide +kernel
theorem dX10_weave_170 : decode cX10_weave 170 = .ok (.iload_n 3, 1) := by decide +kernel
theorem dX10_weave_171 : decode cX10_weave 171 = .ok (.iadd, 1) := by decide +kernel
theorem dX10_weave_172 : decode cX10_weave 172 = .ok (.aload_n 0, 1) := by decide +kernel
theorem dX10_weave_173 : decode cX10_weave 173 = .ok (.getfield 37, 3) := by decide +kernel
theorem dX10_weave_176 : decode cX10_weave 176 = .ok (.bipush 6, 2) := by decide +kernel
theorem dX10_weave_178 : decode cX10_weave 178 = .ok (.iload_n 1, 1) := by decide +kernel
theorem dX10_weave_179 : decode cX10_weave 179 = .ok (.imul, 1) := by decide +kernel
theorem dX10_weave_180 : decode cX10_weave 180 = .ok (.iload_n 3, 1) := by decide +kernel
theorem dX10_weave_181 : decode cX10_weave 181 = .ok (.iadd, 1) := by decide +kernel
theorem dX10_weave_182 : decode cX10_weave 182 = .ok (.iaload, 1) := by decide +kernel
theorem dX10_weave_183 : decode cX10_weave 183 = .ok (.iastore, 1) := by decide +kernel
theorem dX10_weave_184 : decode cX10_weave 184 = .ok (.iinc 3 1, 3) := by decide +kernel
theorem dX10_weave_187 : decode cX10_weave 187 = .ok (.goto (-31), 3) := by decide +kernel
theorem dX10_weave_190 : decode cX10_weave 190 = .ok (.iinc 1 1, 3) := by decide +kernel
theorem dX10_weave_193 : decode cX10_weave 193 = .ok (.goto (-120), 3) := by decide +kernel
theorem dX10_weave_196 : decode cX10_weave 196 = .ok (.iconst 0, 1) := by decide +kernel
theorem dX10_weave_197 : decode cX10_weave 197 = .ok (.istore_n 1, 1) := by decide +kernel
theorem dX10_weave_198 : decode cX10_weave 198 = .ok (.iload_n 1, 1) := by decide +kernel
theorem dX10_weave_199 : decode cX10_weave 199 = .ok (.bipush 10, 2) := by decide +kernel
theorem dX10_weave_201 : decode cX10_weave 201 = .ok (.if_icmp .ge 37, 3) := by decide +kernel
theorem dX10_weave_204 : decode cX10_weave 204 = .ok (.aload_n 0, 1) := by decide +kernel
theorem dX10_weave_205 : decode cX10_weave 205 = .ok (.getfield 59, 3) := by decide +kernel
theorem dX10_weave_208 : decode cX10_weave 208 = .ok (.iload_n 1, 1) := by decide +kernel
theorem dX10_weave_209 : decode cX10_weave 209 = .ok (.iload_n 1, 1) := by decide +kernel
theorem dX10_weave_210 : decode cX10_weave 210 = .ok (.aload_n 0, 1) := by decide +kernel
theorem dX10_weave_211 : decode cX10_weave 211 = .ok (.getfield 92, 3) := by decide +kernel
theorem dX10_weave_214 : decode cX10_weave 214 = .ok (.if_icmp .ge 16, 3) := by decide +kernel
theorem dX10_weave_217 : decode cX10_weave 217 = .ok (.aload_n 0, 1) := by decide +kernel
theorem dX10_weave_218 : decode cX10_weave 218 = .ok (.getfield 19, 3) := by decide +kernel
theorem dX10_weave_221 : decode cX10_weave 221 = .ok (.iload_n 1, 1) := by decide +kernel
theorem dX10_weave_222 : decode cX10_weave 222 = .ok (.iaload, 1) := by decide +kernel
theorem dX10_weave_223 : decode cX10_weave 223 = .ok (.ifCond .ne 7, 3) := by decide +kernel
theorem dX10_weave_226 : decode cX10_weave 226 = .ok (.iconst 1, 1) := by decide +kernel
theorem dX10_weave_227 : decode cX10_weave 227 = .ok (.goto 4, 3) := by decide +kernel
theorem dX10_weave_230 : decode cX10_weave 230 = .ok (.iconst 0, 1) := by decide +kernel
theorem dX10_weave_231 : decode cX10_weave 231 = .ok (.bastore, 1) := by decide +kernel
theorem dX10_weave_232 : decode cX10_weave 232 = .ok (.iinc 1 1, 3) := by decide +kernel
theorem dX10_weave_235 : decode cX10_weave 235 = .ok (.goto (-37), 3) := by decide +kernel
theorem dX10_weave_238 : decode cX10_weave 238 = .ok (.iconst 0, 1) := by decide +kernel
theorem dX10_weave_239 : decode cX10_weave 239 = .ok (.istore_n 1, 1) := by decide +kernel
theorem dX10_weave_240 : decode cX10_weave 240 = .ok (.iload_n 1, 1) := by decide +kernel
theorem dX10_weave_241 : decode cX10_weave 241 = .ok (.aload_n 0, 1) := by decide +kernel
theorem dX10_weave_242 : decode cX10_weave 242 = .ok (.getfield 46, 3) := by decide +kernel
theorem dX10_weave_245 : decode cX10_weave 245 = .ok (.if_icmp .ge 93, 3) := by decide +kernel
theorem dX10_weave_248 : decode cX10_weave 248 = .ok (.iconst 0, 1) := by decide +kernel
theorem dX10_weave_249 : decode cX10_weave 249 = .ok (.istore_n 2, 1) := by decide +kernel
theorem dX10_weave_250 : decode cX10_weave 250 = .ok (.iload_n 2, 1) := by decide +kernel
theorem dX10_weave_251 : decode cX10_weave 251 = .ok (.bipush 6, 2) := by decide +kernel
theorem dX10_weave_253 : decode cX10_weave 253 = .ok (.if_icmp .ge 26, 3) := by decide +kernel
theorem dX10_weave_256 : decode cX10_weave 256 = .ok (.aload_n 0, 1) := by decide +kernel
theorem dX10_weave_257 : decode cX10_weave 257 = .ok (.getfield 69, 3) := by decide +kernel
theorem dX10_weave_260 : decode cX10_weave 260 = .ok (.iload_n 2, 1) := by decide +kernel
theorem dX10_weave_261 : decode cX10_weave 261 = .ok (.aload_n 0, 1) := by decide +kernel
theorem dX10_weave_262 : decode cX10_weave 262 = .ok (.getfield 50, 3) := by decide +kernel
theorem dX10_weave_265 : decode cX10_weave 265 = .ok (.bipush 6, 2) := by decide +kernel
theorem dX10_weave_267 : decode cX10_weave 267 = .ok (.iload_n 1, 1) := by decide +kernel
theorem dX10_weave_268 : decode cX10_weave 268 = .ok (.imul, 1) := by decide +kernel
theorem dX10_weave_269 : decode cX10_weave 269 = .ok (.iload_n 2, 1) := by decide +kernel
theorem dX10_weave_270 : decode cX10_weave 270 = .ok (.iadd, 1) := by decide +kernel
theorem dX10_weave_271 : decode cX10_weave 271 = .ok (.iaload, 1) := by decide +kernel
theorem dX10_weave_272 : decode cX10_weave 272 = .ok (.iastore, 1) := by decide +kernel
theorem dX10_weave_273 : decode cX10_weave 273 = .ok (.iinc 2 1, 3) := by decide +kernel
theorem dX10_weave_276 : decode cX10_weave 276 = .ok (.goto (-26), 3) := by decide +kernel
theorem dX10_weave_279 : decode cX10_weave 279 = .ok (.iconst 0, 1) := by decide +kernel
theorem dX10_weave_280 : decode cX10_weave 280 = .ok (.istore_n 2, 1) := by decide +kernel
theorem dX10_weave_281 : decode cX10_weave 281 = .ok (.iload_n 2, 1) := by decide +kernel
theorem dX10_weave_282 : decode cX10_weave 282 = .ok (.aload_n 0, 1) := by decide +kernel
theorem dX10_weave_283 : decode cX10_weave 283 = .ok (.getfield 92, 3) := by decide +kernel
theorem dX10_weave_286 : decode cX10_weave 286 = .ok (.if_icmp .ge 46, 3) := by decide +kernel
theorem dX10_weave_289 : decode cX10_weave 289 = .ok (.aload_n 0, 1) := by decide +kernel
theorem dX10_weave_290 : decode cX10_weave 290 = .ok (.getfield 56, 3) := by decide +kernel
theorem dX10_weave_293 : decode cX10_weave 293 = .ok (.bipush 10, 2) := by decide +kernel
theorem dX10_weave_295 : decode cX10_weave 295 = .ok (.iload_n 1, 1) := by decide +kernel
theorem dX10_weave_296 : decode cX10_weave 296 = .ok (.imul, 1) := by decide +kernel
theorem dX10_weave_297 : decode cX10_weave 297 = .ok (.iload_n 2, 1) := by decide +kernel
theorem dX10_weave_298 : decode cX10_weave 298 = .ok (.iadd, 1) := by decide +kernel
theorem dX10_weave_299 : decode cX10_weave 299 = .ok (.aload_n 0, 1) := by decide +kernel
theorem dX10_weave_300 : decode cX10_weave 300 = .ok (.getfield 19, 3) := by decide +kernel
theorem dX10_weave_303 : decode cX10_weave 303 = .ok (.iload_n 2, 1) := by decide +kernel
theorem dX10_weave_304 : decode cX10_weave 304 = .ok (.iaload, 1) := by decide +kernel
theorem dX10_weave_305 : decode cX10_weave 305 = .ok (.ifCond .ne 19, 3) := by decide +kernel
theorem dX10_weave_308 : decode cX10_weave 308 = .ok (.aload_n 0, 1) := by decide +kernel
theorem dX10_weave_309 : decode cX10_weave 309 = .ok (.iload_n 2, 1) := by decide +kernel
theorem dX10_weave_310 : decode cX10_weave 310 = .ok (.iconst 1, 1) := by decide +kernel
theorem dX10_weave_311 : decode cX10_weave 311 = .ok (.aload_n 0, 1) := by decide +kernel
theorem dX10_weave_312 : decode cX10_weave 312 = .ok (.getfield 119, 3) := by decide +kernel
theorem dX10_weave_315 : decode cX10_weave 315 = .ok (.ishl, 1) := by decide +kernel
theorem dX10_weave_316 : decode cX10_weave 316 = .ok (.iconst 1, 1) := by decide +kernel
theorem dX10_weave_317 : decode cX10_weave 317 = .ok (.isub, 1) := by decide +kernel
theorem dX10_weave_318 : decode cX10_weave 318 = .ok (.invokevirtual 144, 3) := by decide +kernel
theorem dX10_weave_321 : decode cX10_weave 321 = .ok (.goto 4, 3) := by decide +kernel
theorem dX10_weave_324 : decode cX10_weave 324 = .ok (.iconst (-1), 1) := by decide +kernel
theorem dX10_weave_325 : decode cX10_weave 325 = .ok (.iastore, 1) := by decide +kernel
theorem dX10_weave_326 : decode cX10_weave 326 = .ok (.iinc 2 1, 3) := by decide +kernel
theorem dX10_weave_329 : decode cX10_weave 329 = .ok (.goto (-48), 3) := by decide +kernel
theorem dX10_weave_332 : decode cX10_weave 332 = .ok (.iinc 1 1, 3) := by decide +kernel
theorem dX10_weave_335 : decode cX10_weave 335 = .ok (.goto (-95), 3) := by decide +kernel
theorem dX10_weave_338 : decode cX10_weave 338 = .ok (.aload_n 0, 1) := by decide +kernel
theorem dX10_weave_339 : decode cX10_weave 339 = .ok (.getfield 46, 3) := by decide +kernel
theorem dX10_weave_342 : decode cX10_weave 342 = .ok (.ireturn, 1) := by decide +kernel
theorem dX10_isName_0 : decode cX10_isName 0 = .ok (.aload_n 0, 1) := by decide +kernel
theorem dX10_isName_1 : decode cX10_isName 1 = .ok (.getfield 46, 3) := by decide +kernel
theorem dX10_isName_4 : decode cX10_isName 4 = .ok (.iconst (-1), 1) := by decide +kernel
theorem dX10_isName_5 : decode cX10_isName 5 = .ok (.if_icmp .eq 21, 3) := by decide +kernel
theorem dX10_isName_8 : decode cX10_isName 8 = .ok (.iload_n 1, 1) := by decide +kernel
theorem dX10_isName_9 : decode cX10_isName 9 = .ok (.iconst 0, 1) := by decide +kernel
theorem dX10_isName_10 : decode cX10_isName 10 = .ok (.aload_n 0, 1) := by decide +kernel
theorem dX10_isName_11 : decode cX10_isName 11 = .ok (.getfield 173, 3) := by decide +kernel
theorem dX10_isName_14 : decode cX10_isName 14 = .ok (.iconst 1, 1) := by decide +kernel
theorem dX10_isName_15 : decode cX10_isName 15 = .ok (.isub, 1) := by decide +kernel
theorem dX10_isName_16 : decode cX10_isName 16 = .ok (.invokestatic 88, 3) := by decide +kernel
theorem dX10_isName_19 : decode cX10_isName 19 = .ok (.ifCond .eq 7, 3) := by decide +kernel
theorem dX10_isName_22 : decode cX10_isName 22 = .ok (.iconst 1, 1) := by decide +kernel
theorem dX10_isName_23 : decode cX10_isName 23 = .ok (.goto 4, 3) := by decide +kernel
theorem dX10_isName_26 : decode cX10_isName 26 = .ok (.iconst 0, 1) := by decide +kernel
theorem dX10_isName_27 : decode cX10_isName 27 = .ok (.ireturn, 1) := by decide +kernel
theorem dX10_answer_0 : decode cX10_answer 0 = .ok (.aload_n 0, 1) := by decide +kernel
theorem dX10_answer_1 : decode cX10_answer 1 = .ok (.iload_n 2, 1) := by decide +kernel
theorem dX10_answer_2 : decode cX10_answer 2 = .ok (.invokevirtual 182, 3) := by decide +kernel
theorem dX10_answer_5 : decode cX10_answer 5 = .ok (.ifCond .eq 31, 3) := by decide +kernel
theorem dX10_answer_8 : decode cX10_answer 8 = .ok (.iload_n 1, 1) := by decide +kernel
theorem dX10_answer_9 : decode cX10_answer 9 = .ok (.iconst 0, 1) := by decide +kernel
theorem dX10_answer_10 : decode cX10_answer 10 = .ok (.aload_n 0, 1) := by decide +kernel
theorem dX10_answer_11 : decode cX10_answer 11 = .ok (.getfield 46, 3) := by decide +kernel
theorem dX10_answer_14 : decode cX10_answer 14 = .ok (.iconst 1, 1) := by decide +kernel
theorem dX10_answer_15 : decode cX10_answer 15 = .ok (.isub, 1) := by decide +kernel
theorem dX10_answer_16 : decode cX10_answer 16 = .ok (.invokestatic 88, 3) := by decide +kernel
theorem dX10_answer_19 : decode cX10_answer 19 = .ok (.ifCond .eq 17, 3) := by decide +kernel
theorem dX10_answer_22 : decode cX10_answer 22 = .ok (.aload_n 0, 1) := by decide +kernel
theorem dX10_answer_23 : decode cX10_answer 23 = .ok (.getfield 50, 3) := by decide +kernel
theorem dX10_answer_26 : decode cX10_answer 26 = .ok (.bipush 6, 2) := by decide +kernel
theorem dX10_answer_28 : decode cX10_answer 28 = .ok (.iload_n 1, 1) := by decide +kernel
theorem dX10_answer_29 : decode cX10_answer 29 = .ok (.imul, 1) := by decide +kernel
theorem dX10_answer_30 : decode cX10_answer 30 = .ok (.iload_n 2, 1) := by decide +kernel
theorem dX10_answer_31 : decode cX10_answer 31 = .ok (.iadd, 1) := by decide +kernel
theorem dX10_answer_32 : decode cX10_answer 32 = .ok (.iaload, 1) := by decide +kernel
theorem dX10_answer_33 : decode cX10_answer 33 = .ok (.goto 4, 3) := by decide +kernel
theorem dX10_answer_36 : decode cX10_answer 36 = .ok (.iconst 0, 1) := by decide +kernel
theorem dX10_answer_37 : decode cX10_answer 37 = .ok (.ireturn, 1) := by decide +kernel
theorem dX10_meetings_0 : decode cX10_meetings 0 = .ok (.aload_n 0, 1) := by decide +kernel
theorem dX10_meetings_1 : decode cX10_meetings 1 = .ok (.iload_n 1, 1) := by decide +kernel
theorem dX10_meetings_2 : decode cX10_meetings 2 = .ok (.invokevirtual 182, 3) := by decide +kernel
theorem dX10_meetings_5 : decode cX10_meetings 5 = .ok (.ifCond .eq 12, 3) := by decide +kernel
theorem dX10_meetings_8 : decode cX10_meetings 8 = .ok (.aload_n 0, 1) := by decide +kernel
theorem dX10_meetings_9 : decode cX10_meetings 9 = .ok (.getfield 53, 3) := by decide +kernel
theorem dX10_meetings_12 : decode cX10_meetings 12 = .ok (.iload_n 1, 1) := by decide +kernel
theorem dX10_meetings_13 : decode cX10_meetings 13 = .ok (.iaload, 1) := by decide +kernel
theorem dX10_meetings_14 : decode cX10_meetings 14 = .ok (.goto 4, 3) := by decide +kernel
theorem dX10_meetings_17 : decode cX10_meetings 17 = .ok (.iconst (-1), 1) := by decide +kernel
theorem dX10_meetings_18 : decode cX10_meetings 18 = .ok (.ireturn, 1) := by decide +kernel
theorem dX10_witness_0 : decode cX10_witness 0 = .ok (.aload_n 0, 1) := by decide +kernel
theorem dX10_witness_1 : decode cX10_witness 1 = .ok (.getfield 46, 3) := by decide +kernel
theorem dX10_witness_4 : decode cX10_witness 4 = .ok (.iconst (-1), 1) := by decide +kernel
theorem dX10_witness_5 : decode cX10_witness 5 = .ok (.if_icmp .eq 54, 3) := by decide +kernel
theorem dX10_witness_8 : decode cX10_witness 8 = .ok (.iload_n 1, 1) := by decide +kernel
theorem dX10_witness_9 : decode cX10_witness 9 = .ok (.iconst 0, 1) := by decide +kernel
theorem dX10_witness_10 : decode cX10_witness 10 = .ok (.aload_n 0, 1) := by decide +kernel
theorem dX10_witness_11 : decode cX10_witness 11 = .ok (.getfield 46, 3) := by decide +kernel
theorem dX10_witness_14 : decode cX10_witness 14 = .ok (.iconst 1, 1) := by decide +kernel
theorem dX10_witness_15 : decode cX10_witness 15 = .ok (.isub, 1) := by decide +kernel
theorem dX10_witness_16 : decode cX10_witness 16 = .ok (.invokestatic 88, 3) := by decide +kernel
theorem dX10_witness_19 : decode cX10_witness 19 = .ok (.ifCond .eq 40, 3) := by decide +kernel
theorem dX10_witness_22 : decode cX10_witness 22 = .ok (.iload_n 2, 1) := by decide +kernel
theorem dX10_witness_23 : decode cX10_witness 23 = .ok (.iconst 0, 1) := by decide +kernel
theorem dX10_witness_24 : decode cX10_witness 24 = .ok (.aload_n 0, 1) := by decide +kernel
theorem dX10_witness_25 : decode cX10_witness 25 = .ok (.getfield 176, 3) := by decide +kernel
theorem dX10_witness_28 : decode cX10_witness 28 = .ok (.iconst 1, 1) := by decide +kernel
theorem dX10_witness_29 : decode cX10_witness 29 = .ok (.isub, 1) := by decide +kernel
theorem dX10_witness_30 : decode cX10_witness 30 = .ok (.invokestatic 88, 3) := by decide +kernel
theorem dX10_witness_33 : decode cX10_witness 33 = .ok (.ifCond .eq 26, 3) := by decide +kernel
theorem dX10_witness_36 : decode cX10_witness 36 = .ok (.aload_n 0, 1) := by decide +kernel
theorem dX10_witness_37 : decode cX10_witness 37 = .ok (.getfield 59, 3) := by decide +kernel
theorem dX10_witness_40 : decode cX10_witness 40 = .ok (.iload_n 2, 1) := by decide +kernel
theorem dX10_witness_41 : decode cX10_witness 41 = .ok (.baload, 1) := by decide +kernel
theorem dX10_witness_42 : decode cX10_witness 42 = .ok (.ifCond .eq 17, 3) := by decide +kernel
theorem dX10_witness_45 : decode cX10_witness 45 = .ok (.aload_n 0, 1) := by decide +kernel
theorem dX10_witness_46 : decode cX10_witness 46 = .ok (.getfield 56, 3) := by decide +kernel
theorem dX10_witness_49 : decode cX10_witness 49 = .ok (.bipush 10, 2) := by decide +kernel
theorem dX10_witness_51 : decode cX10_witness 51 = .ok (.iload_n 1, 1) := by decide +kernel
theorem dX10_witness_52 : decode cX10_witness 52 = .ok (.imul, 1) := by decide +kernel
theorem dX10_witness_53 : decode cX10_witness 53 = .ok (.iload_n 2, 1) := by decide +kernel
theorem dX10_witness_54 : decode cX10_witness 54 = .ok (.iadd, 1) := by decide +kernel
theorem dX10_witness_55 : decode cX10_witness 55 = .ok (.iaload, 1) := by decide +kernel
theorem dX10_witness_56 : decode cX10_witness 56 = .ok (.goto 4, 3) := by decide +kernel
theorem dX10_witness_59 : decode cX10_witness 59 = .ok (.iconst (-1), 1) := by decide +kernel
theorem dX10_witness_60 : decode cX10_witness 60 = .ok (.ireturn, 1) := by decide +kernel
theorem dX10_isNew_0 : decode cX10_isNew 0 = .ok (.iconst 0, 1) := by decide +kernel
theorem dX10_isNew_1 : decode cX10_isNew 1 = .ok (.istore_n 3, 1) := by decide +kernel
theorem dX10_isNew_2 : decode cX10_isNew 2 = .ok (.iload_n 3, 1) := by decide +kernel
theorem dX10_isNew_3 : decode cX10_isNew 3 = .ok (.iload_n 1, 1) := by decide +kernel
theorem dX10_isNew_4 : decode cX10_isNew 4 = .ok (.if_icmp .ge 36, 3) := by decide +kernel
theorem dX10_isNew_7 : decode cX10_isNew 7 = .ok (.aload_n 0, 1) := by decide +kernel
theorem dX10_isNew_8 : decode cX10_isNew 8 = .ok (.getfield 50, 3) := by decide +kernel
theorem dX10_isNew_11 : decode cX10_isNew 11 = .ok (.bipush 6, 2) := by decide +kernel
theorem dX10_isNew_13 : decode cX10_isNew 13 = .ok (.iload_n 3, 1) := by decide +kernel
theorem dX10_isNew_14 : decode cX10_isNew 14 = .ok (.imul, 1) := by decide +kernel
theorem dX10_isNew_15 : decode cX10_isNew 15 = .ok (.iload_n 2, 1) := by decide +kernel
theorem dX10_isNew_16 : decode cX10_isNew 16 = .ok (.iadd, 1) := by decide +kernel
theorem dX10_isNew_17 : decode cX10_isNew 17 = .ok (.iaload, 1) := by decide +kernel
theorem dX10_isNew_18 : decode cX10_isNew 18 = .ok (.aload_n 0, 1) := by decide +kernel
theorem dX10_isNew_19 : decode cX10_isNew 19 = .ok (.getfield 50, 3) := by decide +kernel
theorem dX10_isNew_22 : decode cX10_isNew 22 = .ok (.bipush 6, 2) := by decide +kernel
theorem dX10_isNew_24 : decode cX10_isNew 24 = .ok (.iload_n 1, 1) := by decide +kernel
theorem dX10_isNew_25 : decode cX10_isNew 25 = .ok (.imul, 1) := by decide +kernel
theorem dX10_isNew_26 : decode cX10_isNew 26 = .ok (.iload_n 2, 1) := by decide +kernel
theorem dX10_isNew_27 : decode cX10_isNew 27 = .ok (.iadd, 1) := by decide +kernel
theorem dX10_isNew_28 : decode cX10_isNew 28 = .ok (.iaload, 1) := by decide +kernel
theorem dX10_isNew_29 : decode cX10_isNew 29 = .ok (.if_icmp .ne 5, 3) := by decide +kernel
theorem dX10_isNew_32 : decode cX10_isNew 32 = .ok (.iconst 0, 1) := by decide +kernel
theorem dX10_isNew_33 : decode cX10_isNew 33 = .ok (.ireturn, 1) := by decide +kernel
theorem dX10_isNew_34 : decode cX10_isNew 34 = .ok (.iinc 3 1, 3) := by decide +kernel
theorem dX10_isNew_37 : decode cX10_isNew 37 = .ok (.goto (-35), 3) := by decide +kernel
theorem dX10_isNew_40 : decode cX10_isNew 40 = .ok (.iconst 1, 1) := by decide +kernel
theorem dX10_isNew_41 : decode cX10_isNew 41 = .ok (.ireturn, 1) := by decide +kernel
theorem dX10_sum_0 : decode cX10_sum 0 = .ok (.iload_n 2, 1) := by decide +kernel
theorem dX10_sum_1 : decode cX10_sum 1 = .ok (.iconst 0, 1) := by decide +kernel
theorem dX10_sum_2 : decode cX10_sum 2 = .ok (.iconst 4, 1) := by decide +kernel
theorem dX10_sum_3 : decode cX10_sum 3 = .ok (.invokestatic 88, 3) := by decide +kernel
theorem dX10_sum_6 : decode cX10_sum 6 = .ok (.ifCond .eq 11, 3) := by decide +kernel
theorem dX10_sum_9 : decode cX10_sum 9 = .ok (.aload_n 0, 1) := by decide +kernel
theorem dX10_sum_10 : decode cX10_sum 10 = .ok (.iload_n 1, 1) := by decide +kernel
theorem dX10_sum_11 : decode cX10_sum 11 = .ok (.invokevirtual 182, 3) := by decide +kernel
theorem dX10_sum_14 : decode cX10_sum 14 = .ok (.ifCond .ne 5, 3) := by decide +kernel
theorem dX10_sum_17 : decode cX10_sum 17 = .ok (.lconst 0, 1) := by decide +kernel
theorem dX10_sum_18 : decode cX10_sum 18 = .ok (.lreturn, 1) := by decide +kernel
theorem dX10_sum_19 : decode cX10_sum 19 = .ok (.lconst 0, 1) := by decide +kernel
theorem dX10_sum_20 : decode cX10_sum 20 = .ok (.lstore_n 3, 1) := by decide +kernel
theorem dX10_sum_21 : decode cX10_sum 21 = .ok (.iconst 0, 1) := by decide +kernel
theorem dX10_sum_22 : decode cX10_sum 22 = .ok (.istore 5, 2) := by decide +kernel
theorem dX10_sum_24 : decode cX10_sum 24 = .ok (.iconst 0, 1) := by decide +kernel
theorem dX10_sum_25 : decode cX10_sum 25 = .ok (.istore 6, 2) := by decide +kernel
theorem dX10_sum_27 : decode cX10_sum 27 = .ok (.ldc 87, 2) := by decide +kernel
theorem dX10_sum_29 : decode cX10_sum 29 = .ok (.istore 7, 2) := by decide +kernel
theorem dX10_sum_31 : decode cX10_sum 31 = .ok (.ldc 87, 2) := by decide +kernel
theorem dX10_sum_33 : decode cX10_sum 33 = .ok (.istore 8, 2) := by decide +kernel
theorem dX10_sum_35 : decode cX10_sum 35 = .ok (.iconst 0, 1) := by decide +kernel
theorem dX10_sum_36 : decode cX10_sum 36 = .ok (.istore 9, 2) := by decide +kernel
theorem dX10_sum_38 : decode cX10_sum 38 = .ok (.iload 9, 2) := by decide +kernel
theorem dX10_sum_40 : decode cX10_sum 40 = .ok (.aload_n 0, 1) := by decide +kernel
theorem dX10_sum_41 : decode cX10_sum 41 = .ok (.getfield 46, 3) := by decide +kernel
theorem dX10_sum_44 : decode cX10_sum 44 = .ok (.if_icmp .ge 104, 3) := by decide +kernel
theorem dX10_sum_47 : decode cX10_sum 47 = .ok (.aload_n 0, 1) := by decide +kernel
theorem dX10_sum_48 : decode cX10_sum 48 = .ok (.getfield 50, 3) := by decide +kernel
theorem dX10_sum_51 : decode cX10_sum 51 = .ok (.bipush 6, 2) := by decide +kernel
theorem dX10_sum_53 : decode cX10_sum 53 = .ok (.iload 9, 2) := by decide +kernel
theorem dX10_sum_55 : decode cX10_sum 55 = .ok (.imul, 1) := by decide +kernel
theorem dX10_sum_56 : decode cX10_sum 56 = .ok (.iload_n 1, 1) := by decide +kernel
theorem dX10_sum_57 : decode cX10_sum 57 = .ok (.iadd, 1) := by decide +kernel
theorem dX10_sum_58 : decode cX10_sum 58 = .ok (.iaload, 1) := by decide +kernel
theorem dX10_sum_59 : decode cX10_sum 59 = .ok (.istore 10, 2) := by decide +kernel
theorem dX10_sum_61 : decode cX10_sum 61 = .ok (.iload 6, 2) := by decide +kernel
theorem dX10_sum_63 : decode cX10_sum 63 = .ok (.aload_n 0, 1) := by decide +kernel
theorem dX10_sum_64 : decode cX10_sum 64 = .ok (.iload 9, 2) := by decide +kernel
theorem dX10_sum_66 : decode cX10_sum 66 = .ok (.iload_n 1, 1) := by decide +kernel
theorem dX10_sum_67 : decode cX10_sum 67 = .ok (.invokevirtual 185, 3) := by decide +kernel
theorem dX10_sum_70 : decode cX10_sum 70 = .ok (.ifCond .eq 7, 3) := by decide +kernel
theorem dX10_sum_73 : decode cX10_sum 73 = .ok (.iconst 1, 1) := by decide +kernel
theorem dX10_sum_74 : decode cX10_sum 74 = .ok (.goto 4, 3) := by decide +kernel
theorem dX10_sum_77 : decode cX10_sum 77 = .ok (.iconst 0, 1) := by decide +kernel
theorem dX10_sum_78 : decode cX10_sum 78 = .ok (.iadd, 1) := by decide +kernel
theorem dX10_sum_79 : decode cX10_sum 79 = .ok (.istore 6, 2) := by decide +kernel
theorem dX10_sum_81 : decode cX10_sum 81 = .ok (.iload 10, 2) := by decide +kernel
theorem dX10_sum_83 : decode cX10_sum 83 = .ok (.ldc 87, 2) := by decide +kernel
theorem dX10_sum_85 : decode cX10_sum 85 = .ok (.if_icmp .ne 6, 3) := by decide +kernel
theorem dX10_sum_88 : decode cX10_sum 88 = .ok (.goto 54, 3) := by decide +kernel
theorem dX10_sum_91 : decode cX10_sum 91 = .ok (.iload 5, 2) := by decide +kernel
theorem dX10_sum_93 : decode cX10_sum 93 = .ok (.ifCond .eq 10, 3) := by decide +kernel
theorem dX10_sum_96 : decode cX10_sum 96 = .ok (.iload 10, 2) := by decide +kernel
theorem dX10_sum_98 : decode cX10_sum 98 = .ok (.iload 7, 2) := by decide +kernel
theorem dX10_sum_100 : decode cX10_sum 100 = .ok (.if_icmp .le 8, 3) := by decide +kernel
theorem dX10_sum_103 : decode cX10_sum 103 = .ok (.iload 10, 2) := by decide +kernel
theorem dX10_sum_105 : decode cX10_sum 105 = .ok (.goto 5, 3) := by decide +kernel
theorem dX10_sum_108 : decode cX10_sum 108 = .ok (.iload 7, 2) := by decide +kernel
theorem dX10_sum_110 : decode cX10_sum 110 = .ok (.istore 7, 2) := by decide +kernel
theorem dX10_sum_112 : decode cX10_sum 112 = .ok (.iload 5, 2) := by decide +kernel
theorem dX10_sum_114 : decode cX10_sum 114 = .ok (.ifCond .eq 10, 3) := by decide +kernel
theorem dX10_sum_117 : decode cX10_sum 117 = .ok (.iload 10, 2) := by decide +kernel
theorem dX10_sum_119 : decode cX10_sum 119 = .ok (.iload 8, 2) := by decide +kernel
theorem dX10_sum_121 : decode cX10_sum 121 = .ok (.if_icmp .ge 8, 3) := by decide +kernel
theorem dX10_sum_124 : decode cX10_sum 124 = .ok (.iload 10, 2) := by decide +kernel
theorem dX10_sum_126 : decode cX10_sum 126 = .ok (.goto 5, 3) := by decide +kernel
theorem dX10_sum_129 : decode cX10_sum 129 = .ok (.iload 8, 2) := by decide +kernel
theorem dX10_sum_131 : decode cX10_sum 131 = .ok (.istore 8, 2) := by decide +kernel
theorem dX10_sum_133 : decode cX10_sum 133 = .ok (.lload_n 3, 1) := by decide +kernel
theorem dX10_sum_134 : decode cX10_sum 134 = .ok (.iload 10, 2) := by decide +kernel
theorem dX10_sum_136 : decode cX10_sum 136 = .ok (.i2l, 1) := by decide +kernel
theorem dX10_sum_137 : decode cX10_sum 137 = .ok (.ladd, 1) := by decide +kernel
theorem dX10_sum_138 : decode cX10_sum 138 = .ok (.lstore_n 3, 1) := by decide +kernel
theorem dX10_sum_139 : decode cX10_sum 139 = .ok (.iinc 5 1, 3) := by decide +kernel
theorem dX10_sum_142 : decode cX10_sum 142 = .ok (.iinc 9 1, 3) := by decide +kernel
theorem dX10_sum_145 : decode cX10_sum 145 = .ok (.goto (-107), 3) := by decide +kernel
theorem dX10_sum_148 : decode cX10_sum 148 = .ok (.iload_n 2, 1) := by decide +kernel
theorem dX10_sum_149 : decode cX10_sum 149 = .ok (.ifCond .ne 7, 3) := by decide +kernel
theorem dX10_sum_152 : decode cX10_sum 152 = .ok (.lload_n 3, 1) := by decide +kernel
theorem dX10_sum_153 : decode cX10_sum 153 = .ok (.goto 39, 3) := by decide +kernel
theorem dX10_sum_156 : decode cX10_sum 156 = .ok (.iload_n 2, 1) := by decide +kernel
theorem dX10_sum_157 : decode cX10_sum 157 = .ok (.iconst 1, 1) := by decide +kernel
theorem dX10_sum_158 : decode cX10_sum 158 = .ok (.if_icmp .ne 9, 3) := by decide +kernel
theorem dX10_sum_161 : decode cX10_sum 161 = .ok (.iload 5, 2) := by decide +kernel
theorem dX10_sum_163 : decode cX10_sum 163 = .ok (.i2l, 1) := by decide +kernel
theorem dX10_sum_164 : decode cX10_sum 164 = .ok (.goto 28, 3) := by decide +kernel
theorem dX10_sum_167 : decode cX10_sum 167 = .ok (.iload_n 2, 1) := by decide +kernel
theorem dX10_sum_168 : decode cX10_sum 168 = .ok (.iconst 2, 1) := by decide +kernel
theorem dX10_sum_169 : decode cX10_sum 169 = .ok (.if_icmp .ne 9, 3) := by decide +kernel
theorem dX10_sum_172 : decode cX10_sum 172 = .ok (.iload 7, 2) := by decide +kernel
theorem dX10_sum_174 : decode cX10_sum 174 = .ok (.i2l, 1) := by decide +kernel
theorem dX10_sum_175 : decode cX10_sum 175 = .ok (.goto 17, 3) := by decide +kernel
theorem dX10_sum_178 : decode cX10_sum 178 = .ok (.iload_n 2, 1) := by decide +kernel
theorem dX10_sum_179 : decode cX10_sum 179 = .ok (.iconst 3, 1) := by decide +kernel
theorem dX10_sum_180 : decode cX10_sum 180 = .ok (.if_icmp .ne 9, 3) := by decide +kernel
theorem dX10_sum_183 : decode cX10_sum 183 = .ok (.iload 8, 2) := by decide +kernel
theorem dX10_sum_185 : decode cX10_sum 185 = .ok (.i2l, 1) := by decide +kernel
theorem dX10_sum_186 : decode cX10_sum 186 = .ok (.goto 6, 3) := by decide +kernel
theorem dX10_sum_189 : decode cX10_sum 189 = .ok (.iload 6, 2) := by decide +kernel
theorem dX10_sum_191 : decode cX10_sum 191 = .ok (.i2l, 1) := by decide +kernel
theorem dX10_sum_192 : decode cX10_sum 192 = .ok (.lreturn, 1) := by decide +kernel
theorem dX10_group_0 : decode cX10_group 0 = .ok (.aload_n 0, 1) := by decide +kernel
theorem dX10_group_1 : decode cX10_group 1 = .ok (.iload_n 1, 1) := by decide +kernel
theorem dX10_group_2 : decode cX10_group 2 = .ok (.invokevirtual 182, 3) := by decide +kernel
theorem dX10_group_5 : decode cX10_group 5 = .ok (.ifCond .eq 26, 3) := by decide +kernel
theorem dX10_group_8 : decode cX10_group 8 = .ok (.iload_n 3, 1) := by decide +kernel
theorem dX10_group_9 : decode cX10_group 9 = .ok (.iconst 0, 1) := by decide +kernel
theorem dX10_group_10 : decode cX10_group 10 = .ok (.iconst 1, 1) := by decide +kernel
theorem dX10_group_11 : decode cX10_group 11 = .ok (.invokestatic 88, 3) := by decide +kernel
theorem dX10_group_14 : decode cX10_group 14 = .ok (.ifCond .eq 17, 3) := by decide +kernel
theorem dX10_group_17 : decode cX10_group 17 = .ok (.iload_n 3, 1) := by decide +kernel
theorem dX10_group_18 : decode cX10_group 18 = .ok (.iconst 1, 1) := by decide +kernel
theorem dX10_group_19 : decode cX10_group 19 = .ok (.if_icmp .ne 14, 3) := by decide +kernel
theorem dX10_group_22 : decode cX10_group 22 = .ok (.aload_n 0, 1) := by decide +kernel
theorem dX10_group_23 : decode cX10_group 23 = .ok (.iload 4, 2) := by decide +kernel
theorem dX10_group_25 : decode cX10_group 25 = .ok (.invokevirtual 182, 3) := by decide +kernel
theorem dX10_group_28 : decode cX10_group 28 = .ok (.ifCond .ne 5, 3) := by decide +kernel
theorem dX10_group_31 : decode cX10_group 31 = .ok (.lconst 0, 1) := by decide +kernel
theorem dX10_group_32 : decode cX10_group 32 = .ok (.lreturn, 1) := by decide +kernel
theorem dX10_group_33 : decode cX10_group 33 = .ok (.lconst 0, 1) := by decide +kernel
theorem dX10_group_34 : decode cX10_group 34 = .ok (.lstore 5, 2) := by decide +kernel
theorem dX10_group_36 : decode cX10_group 36 = .ok (.iconst 0, 1) := by decide +kernel
theorem dX10_group_37 : decode cX10_group 37 = .ok (.istore 7, 2) := by decide +kernel
theorem dX10_group_39 : decode cX10_group 39 = .ok (.iload 7, 2) := by decide +kernel
theorem dX10_group_41 : decode cX10_group 41 = .ok (.aload_n 0, 1) := by decide +kernel
theorem dX10_group_42 : decode cX10_group 42 = .ok (.getfield 46, 3) := by decide +kernel
theorem dX10_group_45 : decode cX10_group 45 = .ok (.if_icmp .ge 70, 3) := by decide +kernel
theorem dX10_group_48 : decode cX10_group 48 = .ok (.aload_n 0, 1) := by decide +kernel
theorem dX10_group_49 : decode cX10_group 49 = .ok (.getfield 50, 3) := by decide +kernel
theorem dX10_group_52 : decode cX10_group 52 = .ok (.bipush 6, 2) := by decide +kernel
theorem dX10_group_54 : decode cX10_group 54 = .ok (.iload 7, 2) := by decide +kernel
theorem dX10_group_56 : decode cX10_group 56 = .ok (.imul, 1) := by decide +kernel
theorem dX10_group_57 : decode cX10_group 57 = .ok (.iload_n 1, 1) := by decide +kernel
theorem dX10_group_58 : decode cX10_group 58 = .ok (.iadd, 1) := by decide +kernel
theorem dX10_group_59 : decode cX10_group 59 = .ok (.iaload, 1) := by decide +kernel
theorem dX10_group_60 : decode cX10_group 60 = .ok (.iload_n 2, 1) := by decide +kernel
theorem dX10_group_61 : decode cX10_group 61 = .ok (.if_icmp .eq 6, 3) := by decide +kernel
theorem dX10_group_64 : decode cX10_group 64 = .ok (.goto 45, 3) := by decide +kernel
theorem dX10_group_67 : decode cX10_group 67 = .ok (.iload_n 3, 1) := by decide +kernel
theorem dX10_group_68 : decode cX10_group 68 = .ok (.ifCond .ne 7, 3) := by decide +kernel
theorem dX10_group_71 : decode cX10_group 71 = .ok (.iconst 1, 1) := by decide +kernel
theorem dX10_group_72 : decode cX10_group 72 = .ok (.goto 16, 3) := by decide +kernel
theorem dX10_group_75 : decode cX10_group 75 = .ok (.aload_n 0, 1) := by decide +kernel
theorem dX10_group_76 : decode cX10_group 76 = .ok (.getfield 50, 3) := by decide +kernel
theorem dX10_group_79 : decode cX10_group 79 = .ok (.bipush 6, 2) := by decide +kernel
theorem dX10_group_81 : decode cX10_group 81 = .ok (.iload 7, 2) := by decide +kernel
theorem dX10_group_83 : decode cX10_group 83 = .ok (.imul, 1) := by decide +kernel
theorem dX10_group_84 : decode cX10_group 84 = .ok (.iload 4, 2) := by decide +kernel
theorem dX10_group_86 : decode cX10_group 86 = .ok (.iadd, 1) := by decide +kernel
theorem dX10_group_87 : decode cX10_group 87 = .ok (.iaload, 1) := by decide +kernel
theorem dX10_group_88 : decode cX10_group 88 = .ok (.istore 8, 2) := by decide +kernel
theorem dX10_group_90 : decode cX10_group 90 = .ok (.lload 5, 2) := by decide +kernel
theorem dX10_group_92 : decode cX10_group 92 = .ok (.iload 8, 2) := by decide +kernel
theorem dX10_group_94 : decode cX10_group 94 = .ok (.ldc 87, 2) := by decide +kernel
theorem dX10_group_96 : decode cX10_group 96 = .ok (.if_icmp .ne 7, 3) := by decide +kernel
theorem dX10_group_99 : decode cX10_group 99 = .ok (.lconst 0, 1) := by decide +kernel
theorem dX10_group_100 : decode cX10_group 100 = .ok (.goto 6, 3) := by decide +kernel
theorem dX10_group_103 : decode cX10_group 103 = .ok (.iload 8, 2) := by decide +kernel
theorem dX10_group_105 : decode cX10_group 105 = .ok (.i2l, 1) := by decide +kernel
theorem dX10_group_106 : decode cX10_group 106 = .ok (.ladd, 1) := by decide +kernel
theorem dX10_group_107 : decode cX10_group 107 = .ok (.lstore 5, 2) := by decide +kernel
theorem dX10_group_109 : decode cX10_group 109 = .ok (.iinc 7 1, 3) := by decide +kernel
theorem dX10_group_112 : decode cX10_group 112 = .ok (.goto (-73), 3) := by decide +kernel
theorem dX10_group_115 : decode cX10_group 115 = .ok (.lload 5, 2) := by decide +kernel
theorem dX10_group_117 : decode cX10_group 117 = .ok (.lreturn, 1) := by decide +kernel
theorem dX10_keep_0 : decode cX10_keep 0 = .ok (.aload_n 0, 1) := by decide +kernel
theorem dX10_keep_1 : decode cX10_keep 1 = .ok (.getfield 46, 3) := by decide +kernel
theorem dX10_keep_4 : decode cX10_keep 4 = .ok (.iconst (-1), 1) := by decide +kernel
theorem dX10_keep_5 : decode cX10_keep 5 = .ok (.if_icmp .ne 5, 3) := by decide +kernel
theorem dX10_keep_8 : decode cX10_keep 8 = .ok (.iconst (-1), 1) := by decide +kernel
theorem dX10_keep_9 : decode cX10_keep 9 = .ok (.ireturn, 1) := by decide +kernel
theorem dX10_keep_10 : decode cX10_keep 10 = .ok (.aload_n 0, 1) := by decide +kernel
theorem dX10_keep_11 : decode cX10_keep 11 = .ok (.aload_n 0, 1) := by decide +kernel
theorem dX10_keep_12 : decode cX10_keep 12 = .ok (.getfield 173, 3) := by decide +kernel
theorem dX10_keep_15 : decode cX10_keep 15 = .ok (.putfield 188, 3) := by decide +kernel
theorem dX10_keep_18 : decode cX10_keep 18 = .ok (.aload_n 0, 1) := by decide +kernel
theorem dX10_keep_19 : decode cX10_keep 19 = .ok (.aload_n 0, 1) := by decide +kernel
theorem dX10_keep_20 : decode cX10_keep 20 = .ok (.getfield 46, 3) := by decide +kernel
theorem dX10_keep_23 : decode cX10_keep 23 = .ok (.putfield 63, 3) := by decide +kernel
theorem dX10_keep_26 : decode cX10_keep 26 = .ok (.iconst 0, 1) := by decide +kernel
theorem dX10_keep_27 : decode cX10_keep 27 = .ok (.istore_n 1, 1) := by decide +kernel
theorem dX10_keep_28 : decode cX10_keep 28 = .ok (.iload_n 1, 1) := by decide +kernel
theorem dX10_keep_29 : decode cX10_keep 29 = .ok (.sipush 3006, 3) := by decide +kernel
theorem dX10_keep_32 : decode cX10_keep 32 = .ok (.if_icmp .ge 21, 3) := by decide +kernel
theorem dX10_keep_35 : decode cX10_keep 35 = .ok (.aload_n 0, 1) := by decide +kernel
theorem dX10_keep_36 : decode cX10_keep 36 = .ok (.getfield 66, 3) := by decide +kernel
theorem dX10_keep_39 : decode cX10_keep 39 = .ok (.iload_n 1, 1) := by decide +kernel
theorem dX10_keep_40 : decode cX10_keep 40 = .ok (.aload_n 0, 1) := by decide +kernel
theorem dX10_keep_41 : decode cX10_keep 41 = .ok (.getfield 50, 3) := by decide +kernel
theorem dX10_keep_44 : decode cX10_keep 44 = .ok (.iload_n 1, 1) := by decide +kernel
theorem dX10_keep_45 : decode cX10_keep 45 = .ok (.iaload, 1) := by decide +kernel
theorem dX10_keep_46 : decode cX10_keep 46 = .ok (.iastore, 1) := by decide +kernel
theorem dX10_keep_47 : decode cX10_keep 47 = .ok (.iinc 1 1, 3) := by decide +kernel
theorem dX10_keep_50 : decode cX10_keep 50 = .ok (.goto (-22), 3) := by decide +kernel
theorem dX10_keep_53 : decode cX10_keep 53 = .ok (.aload_n 0, 1) := by decide +kernel
theorem dX10_keep_54 : decode cX10_keep 54 = .ok (.getfield 63, 3) := by decide +kernel
theorem dX10_keep_57 : decode cX10_keep 57 = .ok (.ireturn, 1) := by decide +kernel
theorem dX10_isAmong_0 : decode cX10_isAmong 0 = .ok (.iconst 0, 1) := by decide +kernel
theorem dX10_isAmong_1 : decode cX10_isAmong 1 = .ok (.istore 5, 2) := by decide +kernel
theorem dX10_isAmong_3 : decode cX10_isAmong 3 = .ok (.iload 5, 2) := by decide +kernel
theorem dX10_isAmong_5 : decode cX10_isAmong 5 = .ok (.iload_n 3, 1) := by decide +kernel
theorem dX10_isAmong_6 : decode cX10_isAmong 6 = .ok (.if_icmp .ge 24, 3) := by decide +kernel
theorem dX10_isAmong_9 : decode cX10_isAmong 9 = .ok (.aload_n 0, 1) := by decide +kernel
theorem dX10_isAmong_10 : decode cX10_isAmong 10 = .ok (.iload_n 1, 1) := by decide +kernel
theorem dX10_isAmong_11 : decode cX10_isAmong 11 = .ok (.aload_n 2, 1) := by decide +kernel
theorem dX10_isAmong_12 : decode cX10_isAmong 12 = .ok (.iload 5, 2) := by decide +kernel
theorem dX10_isAmong_14 : decode cX10_isAmong 14 = .ok (.iload 4, 2) := by decide +kernel
theorem dX10_isAmong_16 : decode cX10_isAmong 16 = .ok (.invokestatic 179, 3) := by decide +kernel
theorem dX10_isAmong_19 : decode cX10_isAmong 19 = .ok (.ifCond .ne 5, 3) := by decide +kernel
theorem dX10_isAmong_22 : decode cX10_isAmong 22 = .ok (.iconst 1, 1) := by decide +kernel
theorem dX10_isAmong_23 : decode cX10_isAmong 23 = .ok (.ireturn, 1) := by decide +kernel
theorem dX10_isAmong_24 : decode cX10_isAmong 24 = .ok (.iinc 5 1, 3) := by decide +kernel
theorem dX10_isAmong_27 : decode cX10_isAmong 27 = .ok (.goto (-24), 3) := by decide +kernel
theorem dX10_isAmong_30 : decode cX10_isAmong 30 = .ok (.iconst 0, 1) := by decide +kernel
theorem dX10_isAmong_31 : decode cX10_isAmong 31 = .ok (.ireturn, 1) := by decide +kernel
theorem dX10_differs_0 : decode cX10_differs 0 = .ok (.iconst 0, 1) := by decide +kernel
theorem dX10_differs_1 : decode cX10_differs 1 = .ok (.istore_n 3, 1) := by decide +kernel
theorem dX10_differs_2 : decode cX10_differs 2 = .ok (.iload_n 1, 1) := by decide +kernel
theorem dX10_differs_3 : decode cX10_differs 3 = .ok (.ifCond .ne 10, 3) := by decide +kernel
theorem dX10_differs_6 : decode cX10_differs 6 = .ok (.aload_n 0, 1) := by decide +kernel
theorem dX10_differs_7 : decode cX10_differs 7 = .ok (.getfield 46, 3) := by decide +kernel
theorem dX10_differs_10 : decode cX10_differs 10 = .ok (.goto 7, 3) := by decide +kernel
theorem dX10_differs_13 : decode cX10_differs 13 = .ok (.aload_n 0, 1) := by decide +kernel
theorem dX10_differs_14 : decode cX10_differs 14 = .ok (.getfield 63, 3) := by decide +kernel
theorem dX10_differs_17 : decode cX10_differs 17 = .ok (.istore 4, 2) := by decide +kernel
theorem dX10_differs_19 : decode cX10_differs 19 = .ok (.iconst 0, 1) := by decide +kernel
theorem dX10_differs_20 : decode cX10_differs 20 = .ok (.istore 5, 2) := by decide +kernel
theorem dX10_differs_22 : decode cX10_differs 22 = .ok (.iload 5, 2) := by decide +kernel
theorem dX10_differs_24 : decode cX10_differs 24 = .ok (.iload 4, 2) := by decide +kernel
theorem dX10_differs_26 : decode cX10_differs 26 = .ok (.if_icmp .ge 78, 3) := by decide +kernel
theorem dX10_differs_29 : decode cX10_differs 29 = .ok (.iload_n 1, 1) := by decide +kernel
theorem dX10_differs_30 : decode cX10_differs 30 = .ok (.ifCond .ne 30, 3) := by decide +kernel
theorem dX10_differs_33 : decode cX10_differs 33 = .ok (.aload_n 0, 1) := by decide +kernel
theorem dX10_differs_34 : decode cX10_differs 34 = .ok (.getfield 50, 3) := by decide +kernel
theorem dX10_differs_37 : decode cX10_differs 37 = .ok (.iload 5, 2) := by decide +kernel
theorem dX10_differs_39 : decode cX10_differs 39 = .ok (.aload_n 0, 1) := by decide +kernel
theorem dX10_differs_40 : decode cX10_differs 40 = .ok (.getfield 66, 3) := by decide +kernel
theorem dX10_differs_43 : decode cX10_differs 43 = .ok (.aload_n 0, 1) := by decide +kernel
theorem dX10_differs_44 : decode cX10_differs 44 = .ok (.getfield 63, 3) := by decide +kernel
theorem dX10_differs_47 : decode cX10_differs 47 = .ok (.aload_n 0, 1) := by decide +kernel
theorem dX10_differs_48 : decode cX10_differs 48 = .ok (.getfield 188, 3) := by decide +kernel
theorem dX10_differs_51 : decode cX10_differs 51 = .ok (.invokestatic 191, 3) := by decide +kernel
theorem dX10_differs_54 : decode cX10_differs 54 = .ok (.ifCond .eq 33, 3) := by decide +kernel
theorem dX10_differs_57 : decode cX10_differs 57 = .ok (.goto 41, 3) := by decide +kernel
theorem dX10_differs_60 : decode cX10_differs 60 = .ok (.aload_n 0, 1) := by decide +kernel
theorem dX10_differs_61 : decode cX10_differs 61 = .ok (.getfield 66, 3) := by decide +kernel
theorem dX10_differs_64 : decode cX10_differs 64 = .ok (.iload 5, 2) := by decide +kernel
theorem dX10_differs_66 : decode cX10_differs 66 = .ok (.aload_n 0, 1) := by decide +kernel
theorem dX10_differs_67 : decode cX10_differs 67 = .ok (.getfield 50, 3) := by decide +kernel
theorem dX10_differs_70 : decode cX10_differs 70 = .ok (.aload_n 0, 1) := by decide +kernel
theorem dX10_differs_71 : decode cX10_differs 71 = .ok (.getfield 46, 3) := by decide +kernel
theorem dX10_differs_74 : decode cX10_differs 74 = .ok (.aload_n 0, 1) := by decide +kernel
theorem dX10_differs_75 : decode cX10_differs 75 = .ok (.getfield 188, 3) := by decide +kernel
theorem dX10_differs_78 : decode cX10_differs 78 = .ok (.invokestatic 191, 3) := by decide +kernel
theorem dX10_differs_81 : decode cX10_differs 81 = .ok (.ifCond .eq 6, 3) := by decide +kernel
theorem dX10_differs_84 : decode cX10_differs 84 = .ok (.goto 14, 3) := by decide +kernel
theorem dX10_differs_87 : decode cX10_differs 87 = .ok (.iload_n 3, 1) := by decide +kernel
theorem dX10_differs_88 : decode cX10_differs 88 = .ok (.iload_n 2, 1) := by decide +kernel
theorem dX10_differs_89 : decode cX10_differs 89 = .ok (.if_icmp .ne 6, 3) := by decide +kernel
theorem dX10_differs_92 : decode cX10_differs 92 = .ok (.iload 5, 2) := by decide +kernel
theorem dX10_differs_94 : decode cX10_differs 94 = .ok (.ireturn, 1) := by decide +kernel
theorem dX10_differs_95 : decode cX10_differs 95 = .ok (.iinc 3 1, 3) := by decide +kernel
theorem dX10_differs_98 : decode cX10_differs 98 = .ok (.iinc 5 1, 3) := by decide +kernel
theorem dX10_differs_101 : decode cX10_differs 101 = .ok (.goto (-79), 3) := by decide +kernel
theorem dX10_differs_104 : decode cX10_differs 104 = .ok (.iload_n 2, 1) := by decide +kernel
theorem dX10_differs_105 : decode cX10_differs 105 = .ok (.iconst (-1), 1) := by decide +kernel
theorem dX10_differs_106 : decode cX10_differs 106 = .ok (.if_icmp .ne 7, 3) := by decide +kernel
theorem dX10_differs_109 : decode cX10_differs 109 = .ok (.iload_n 3, 1) := by decide +kernel
theorem dX10_differs_110 : decode cX10_differs 110 = .ok (.goto 4, 3) := by decide +kernel
theorem dX10_differs_113 : decode cX10_differs 113 = .ok (.iconst (-1), 1) := by decide +kernel
theorem dX10_differs_114 : decode cX10_differs 114 = .ok (.ireturn, 1) := by decide +kernel
theorem dX10_differ_0 : decode cX10_differ 0 = .ok (.aload_n 0, 1) := by decide +kernel
theorem dX10_differ_1 : decode cX10_differ 1 = .ok (.getfield 63, 3) := by decide +kernel
theorem dX10_differ_4 : decode cX10_differ 4 = .ok (.iconst (-1), 1) := by decide +kernel
theorem dX10_differ_5 : decode cX10_differ 5 = .ok (.if_icmp .eq 27, 3) := by decide +kernel
theorem dX10_differ_8 : decode cX10_differ 8 = .ok (.aload_n 0, 1) := by decide +kernel
theorem dX10_differ_9 : decode cX10_differ 9 = .ok (.getfield 188, 3) := by decide +kernel
theorem dX10_differ_12 : decode cX10_differ 12 = .ok (.aload_n 0, 1) := by decide +kernel
theorem dX10_differ_13 : decode cX10_differ 13 = .ok (.getfield 173, 3) := by decide +kernel
theorem dX10_differ_16 : decode cX10_differ 16 = .ok (.if_icmp .ne 16, 3) := by decide +kernel
theorem dX10_differ_19 : decode cX10_differ 19 = .ok (.iload_n 1, 1) := by decide +kernel
theorem dX10_differ_20 : decode cX10_differ 20 = .ok (.iconst 0, 1) := by decide +kernel
theorem dX10_differ_21 : decode cX10_differ 21 = .ok (.iconst 1, 1) := by decide +kernel
theorem dX10_differ_22 : decode cX10_differ 22 = .ok (.invokestatic 88, 3) := by decide +kernel
theorem dX10_differ_25 : decode cX10_differ 25 = .ok (.ifCond .eq 7, 3) := by decide +kernel
theorem dX10_differ_28 : decode cX10_differ 28 = .ok (.iconst 1, 1) := by decide +kernel
theorem dX10_differ_29 : decode cX10_differ 29 = .ok (.goto 4, 3) := by decide +kernel
theorem dX10_differ_32 : decode cX10_differ 32 = .ok (.iconst 0, 1) := by decide +kernel
theorem dX10_differ_33 : decode cX10_differ 33 = .ok (.ireturn, 1) := by decide +kernel
theorem dX10_delta_0 : decode cX10_delta 0 = .ok (.aload_n 0, 1) := by decide +kernel
theorem dX10_delta_1 : decode cX10_delta 1 = .ok (.iload_n 1, 1) := by decide +kernel
theorem dX10_delta_2 : decode cX10_delta 2 = .ok (.invokevirtual 195, 3) := by decide +kernel
theorem dX10_delta_5 : decode cX10_delta 5 = .ok (.ifCond .eq 12, 3) := by decide +kernel
theorem dX10_delta_8 : decode cX10_delta 8 = .ok (.aload_n 0, 1) := by decide +kernel
theorem dX10_delta_9 : decode cX10_delta 9 = .ok (.iload_n 1, 1) := by decide +kernel
theorem dX10_delta_10 : decode cX10_delta 10 = .ok (.iconst (-1), 1) := by decide +kernel
theorem dX10_delta_11 : decode cX10_delta 11 = .ok (.invokevirtual 198, 3) := by decide +kernel
theorem dX10_delta_14 : decode cX10_delta 14 = .ok (.goto 4, 3) := by decide +kernel
theorem dX10_delta_17 : decode cX10_delta 17 = .ok (.iconst (-1), 1) := by decide +kernel
theorem dX10_delta_18 : decode cX10_delta 18 = .ok (.ireturn, 1) := by decide +kernel
theorem dX10_change_0 : decode cX10_change 0 = .ok (.aload_n 0, 1) := by decide +kernel
theorem dX10_change_1 : decode cX10_change 1 = .ok (.iload_n 1, 1) := by decide +kernel
theorem dX10_change_2 : decode cX10_change 2 = .ok (.invokevirtual 195, 3) := by decide +kernel
theorem dX10_change_5 : decode cX10_change 5 = .ok (.ifCond .eq 15, 3) := by decide +kernel
theorem dX10_change_8 : decode cX10_change 8 = .ok (.iload_n 2, 1) := by decide +kernel
theorem dX10_change_9 : decode cX10_change 9 = .ok (.ifCond .lt 11, 3) := by decide +kernel
theorem dX10_change_12 : decode cX10_change 12 = .ok (.aload_n 0, 1) := by decide +kernel
theorem dX10_change_13 : decode cX10_change 13 = .ok (.iload_n 3, 1) := by decide +kernel
theorem dX10_change_14 : decode cX10_change 14 = .ok (.invokevirtual 182, 3) := by decide +kernel
theorem dX10_change_17 : decode cX10_change 17 = .ok (.ifCond .ne 5, 3) := by decide +kernel
theorem dX10_change_20 : decode cX10_change 20 = .ok (.iconst 0, 1) := by decide +kernel
theorem dX10_change_21 : decode cX10_change 21 = .ok (.ireturn, 1) := by decide +kernel
theorem dX10_change_22 : decode cX10_change 22 = .ok (.aload_n 0, 1) := by decide +kernel
theorem dX10_change_23 : decode cX10_change 23 = .ok (.iload_n 1, 1) := by decide +kernel
theorem dX10_change_24 : decode cX10_change 24 = .ok (.iload_n 2, 1) := by decide +kernel
theorem dX10_change_25 : decode cX10_change 25 = .ok (.invokevirtual 198, 3) := by decide +kernel
theorem dX10_change_28 : decode cX10_change 28 = .ok (.istore 4, 2) := by decide +kernel
theorem dX10_change_30 : decode cX10_change 30 = .ok (.iload 4, 2) := by decide +kernel
theorem dX10_change_32 : decode cX10_change 32 = .ok (.iconst (-1), 1) := by decide +kernel
theorem dX10_change_33 : decode cX10_change 33 = .ok (.if_icmp .ne 7, 3) := by decide +kernel
theorem dX10_change_36 : decode cX10_change 36 = .ok (.iconst 0, 1) := by decide +kernel
theorem dX10_change_37 : decode cX10_change 37 = .ok (.goto 34, 3) := by decide +kernel
theorem dX10_change_40 : decode cX10_change 40 = .ok (.iload_n 1, 1) := by decide +kernel
theorem dX10_change_41 : decode cX10_change 41 = .ok (.ifCond .ne 18, 3) := by decide +kernel
theorem dX10_change_44 : decode cX10_change 44 = .ok (.aload_n 0, 1) := by decide +kernel
theorem dX10_change_45 : decode cX10_change 45 = .ok (.getfield 50, 3) := by decide +kernel
theorem dX10_change_48 : decode cX10_change 48 = .ok (.bipush 6, 2) := by decide +kernel
theorem dX10_change_50 : decode cX10_change 50 = .ok (.iload 4, 2) := by decide +kernel
theorem dX10_change_52 : decode cX10_change 52 = .ok (.imul, 1) := by decide +kernel
theorem dX10_change_53 : decode cX10_change 53 = .ok (.iload_n 3, 1) := by decide +kernel
theorem dX10_change_54 : decode cX10_change 54 = .ok (.iadd, 1) := by decide +kernel
theorem dX10_change_55 : decode cX10_change 55 = .ok (.iaload, 1) := by decide +kernel
theorem dX10_change_56 : decode cX10_change 56 = .ok (.goto 15, 3) := by decide +kernel
theorem dX10_change_59 : decode cX10_change 59 = .ok (.aload_n 0, 1) := by decide +kernel
theorem dX10_change_60 : decode cX10_change 60 = .ok (.getfield 66, 3) := by decide +kernel
theorem dX10_change_63 : decode cX10_change 63 = .ok (.bipush 6, 2) := by decide +kernel
theorem dX10_change_65 : decode cX10_change 65 = .ok (.iload 4, 2) := by decide +kernel
theorem dX10_change_67 : decode cX10_change 67 = .ok (.imul, 1) := by decide +kernel
theorem dX10_change_68 : decode cX10_change 68 = .ok (.iload_n 3, 1) := by decide +kernel
theorem dX10_change_69 : decode cX10_change 69 = .ok (.iadd, 1) := by decide +kernel
theorem dX10_change_70 : decode cX10_change 70 = .ok (.iaload, 1) := by decide +kernel
theorem dX10_change_71 : decode cX10_change 71 = .ok (.ireturn, 1) := by decide +kernel
theorem dX10_covers_0 : decode cX10_covers 0 = .ok (.iconst 0, 1) := by decide +kernel
theorem dX10_covers_1 : decode cX10_covers 1 = .ok (.istore_n 1, 1) := by decide +kernel
theorem dX10_covers_2 : decode cX10_covers 2 = .ok (.iload_n 1, 1) := by decide +kernel
theorem dX10_covers_3 : decode cX10_covers 3 = .ok (.aload_n 0, 1) := by decide +kernel
theorem dX10_covers_4 : decode cX10_covers 4 = .ok (.getfield 119, 3) := by decide +kernel
theorem dX10_covers_7 : decode cX10_covers 7 = .ok (.if_icmp .ge 65, 3) := by decide +kernel
theorem dX10_covers_10 : decode cX10_covers 10 = .ok (.iconst 0, 1) := by decide +kernel
theorem dX10_covers_11 : decode cX10_covers 11 = .ok (.istore_n 2, 1) := by decide +kernel
theorem dX10_covers_12 : decode cX10_covers 12 = .ok (.iconst 0, 1) := by decide +kernel
theorem dX10_covers_13 : decode cX10_covers 13 = .ok (.istore_n 3, 1) := by decide +kernel
theorem dX10_covers_14 : decode cX10_covers 14 = .ok (.iload_n 3, 1) := by decide +kernel
theorem dX10_covers_15 : decode cX10_covers 15 = .ok (.aload_n 0, 1) := by decide +kernel
theorem dX10_covers_16 : decode cX10_covers 16 = .ok (.getfield 92, 3) := by decide +kernel
theorem dX10_covers_19 : decode cX10_covers 19 = .ok (.if_icmp .ge 40, 3) := by decide +kernel
theorem dX10_covers_22 : decode cX10_covers 22 = .ok (.iload_n 2, 1) := by decide +kernel
theorem dX10_covers_23 : decode cX10_covers 23 = .ok (.aload_n 0, 1) := by decide +kernel
theorem dX10_covers_24 : decode cX10_covers 24 = .ok (.getfield 19, 3) := by decide +kernel
theorem dX10_covers_27 : decode cX10_covers 27 = .ok (.iload_n 3, 1) := by decide +kernel
theorem dX10_covers_28 : decode cX10_covers 28 = .ok (.iaload, 1) := by decide +kernel
theorem dX10_covers_29 : decode cX10_covers 29 = .ok (.ifCond .ne 21, 3) := by decide +kernel
theorem dX10_covers_32 : decode cX10_covers 32 = .ok (.aload_n 0, 1) := by decide +kernel
theorem dX10_covers_33 : decode cX10_covers 33 = .ok (.iload_n 3, 1) := by decide +kernel
theorem dX10_covers_34 : decode cX10_covers 34 = .ok (.iload_n 1, 1) := by decide +kernel
theorem dX10_covers_35 : decode cX10_covers 35 = .ok (.invokevirtual 125, 3) := by decide +kernel
theorem dX10_covers_38 : decode cX10_covers 38 = .ok (.ifCond .eq 12, 3) := by decide +kernel
theorem dX10_covers_41 : decode cX10_covers 41 = .ok (.aload_n 0, 1) := by decide +kernel
theorem dX10_covers_42 : decode cX10_covers 42 = .ok (.getfield 72, 3) := by decide +kernel
theorem dX10_covers_45 : decode cX10_covers 45 = .ok (.iload_n 3, 1) := by decide +kernel
theorem dX10_covers_46 : decode cX10_covers 46 = .ok (.iaload, 1) := by decide +kernel
theorem dX10_covers_47 : decode cX10_covers 47 = .ok (.goto 4, 3) := by decide +kernel
theorem dX10_covers_50 : decode cX10_covers 50 = .ok (.iconst 0, 1) := by decide +kernel
theorem dX10_covers_51 : decode cX10_covers 51 = .ok (.iadd, 1) := by decide +kernel
theorem dX10_covers_52 : decode cX10_covers 52 = .ok (.istore_n 2, 1) := by decide +kernel
theorem dX10_covers_53 : decode cX10_covers 53 = .ok (.iinc 3 1, 3) := by decide +kernel
theorem dX10_covers_56 : decode cX10_covers 56 = .ok (.goto (-42), 3) := by decide +kernel
theorem dX10_covers_59 : decode cX10_covers 59 = .ok (.iload_n 2, 1) := by decide +kernel
theorem dX10_covers_60 : decode cX10_covers 60 = .ok (.iconst 2, 1) := by decide +kernel
theorem dX10_covers_61 : decode cX10_covers 61 = .ok (.if_icmp .ge 5, 3) := by decide +kernel
theorem dX10_covers_64 : decode cX10_covers 64 = .ok (.iconst 0, 1) := by decide +kernel
theorem dX10_covers_65 : decode cX10_covers 65 = .ok (.ireturn, 1) := by decide +kernel
theorem dX10_covers_66 : decode cX10_covers 66 = .ok (.iinc 1 1, 3) := by decide +kernel
theorem dX10_covers_69 : decode cX10_covers 69 = .ok (.goto (-67), 3) := by decide +kernel
theorem dX10_covers_72 : decode cX10_covers 72 = .ok (.iconst 1, 1) := by decide +kernel
theorem dX10_covers_73 : decode cX10_covers 73 = .ok (.ireturn, 1) := by decide +kernel
theorem dX10_product_0 : decode cX10_product 0 = .ok (.lconst 1, 1) := by decide +kernel
theorem dX10_product_1 : decode cX10_product 1 = .ok (.lstore_n 1, 1) := by decide +kernel
theorem dX10_product_2 : decode cX10_product 2 = .ok (.iconst 0, 1) := by decide +kernel
theorem dX10_product_3 : decode cX10_product 3 = .ok (.istore_n 3, 1) := by decide +kernel
theorem dX10_product_4 : decode cX10_product 4 = .ok (.iload_n 3, 1) := by decide +kernel
theorem dX10_product_5 : decode cX10_product 5 = .ok (.aload_n 0, 1) := by decide +kernel
theorem dX10_product_6 : decode cX10_product 6 = .ok (.getfield 92, 3) := by decide +kernel
theorem dX10_product_9 : decode cX10_product 9 = .ok (.if_icmp .ge 44, 3) := by decide +kernel
theorem dX10_product_12 : decode cX10_product 12 = .ok (.iconst 0, 1) := by decide +kernel
theorem dX10_product_13 : decode cX10_product 13 = .ok (.istore 4, 2) := by decide +kernel
theorem dX10_product_15 : decode cX10_product 15 = .ok (.iload 4, 2) := by decide +kernel
theorem dX10_product_17 : decode cX10_product 17 = .ok (.aload_n 0, 1) := by decide +kernel
theorem dX10_product_18 : decode cX10_product 18 = .ok (.getfield 72, 3) := by decide +kernel
theorem dX10_product_21 : decode cX10_product 21 = .ok (.iload_n 3, 1) := by decide +kernel
theorem dX10_product_22 : decode cX10_product 22 = .ok (.iaload, 1) := by decide +kernel
theorem dX10_product_23 : decode cX10_product 23 = .ok (.if_icmp .ge 24, 3) := by decide +kernel
theorem dX10_product_26 : decode cX10_product 26 = .ok (.lload_n 1, 1) := by decide +kernel
theorem dX10_product_27 : decode cX10_product 27 = .ok (.aload_n 0, 1) := by decide +kernel
theorem dX10_product_28 : decode cX10_product 28 = .ok (.getfield 13, 3) := by decide +kernel
theorem dX10_product_31 : decode cX10_product 31 = .ok (.aload_n 0, 1) := by decide +kernel
theorem dX10_product_32 : decode cX10_product 32 = .ok (.getfield 22, 3) := by decide +kernel
theorem dX10_product_35 : decode cX10_product 35 = .ok (.iload_n 3, 1) := by decide +kernel
theorem dX10_product_36 : decode cX10_product 36 = .ok (.iaload, 1) := by decide +kernel
theorem dX10_product_37 : decode cX10_product 37 = .ok (.iaload, 1) := by decide +kernel
theorem dX10_product_38 : decode cX10_product 38 = .ok (.i2l, 1) := by decide +kernel
theorem dX10_product_39 : decode cX10_product 39 = .ok (.lmul, 1) := by decide +kernel
theorem dX10_product_40 : decode cX10_product 40 = .ok (.lstore_n 1, 1) := by decide +kernel
theorem dX10_product_41 : decode cX10_product 41 = .ok (.iinc 4 1, 3) := by decide +kernel
theorem dX10_product_44 : decode cX10_product 44 = .ok (.goto (-29), 3) := by decide +kernel
theorem dX10_product_47 : decode cX10_product 47 = .ok (.iinc 3 1, 3) := by decide +kernel
theorem dX10_product_50 : decode cX10_product 50 = .ok (.goto (-46), 3) := by decide +kernel
theorem dX10_product_53 : decode cX10_product 53 = .ok (.lload_n 1, 1) := by decide +kernel
theorem dX10_product_54 : decode cX10_product 54 = .ok (.lreturn, 1) := by decide +kernel
theorem dX10_least_0 : decode cX10_least 0 = .ok (.iconst 1, 1) := by decide +kernel
theorem dX10_least_1 : decode cX10_least 1 = .ok (.istore_n 1, 1) := by decide +kernel
theorem dX10_least_2 : decode cX10_least 2 = .ok (.iconst 0, 1) := by decide +kernel
theorem dX10_least_3 : decode cX10_least 3 = .ok (.istore_n 2, 1) := by decide +kernel
theorem dX10_least_4 : decode cX10_least 4 = .ok (.iload_n 2, 1) := by decide +kernel
theorem dX10_least_5 : decode cX10_least 5 = .ok (.aload_n 0, 1) := by decide +kernel
theorem dX10_least_6 : decode cX10_least 6 = .ok (.getfield 92, 3) := by decide +kernel
theorem dX10_least_9 : decode cX10_least 9 = .ok (.if_icmp .ge 41, 3) := by decide +kernel
theorem dX10_least_12 : decode cX10_least 12 = .ok (.aload_n 0, 1) := by decide +kernel
theorem dX10_least_13 : decode cX10_least 13 = .ok (.getfield 72, 3) := by decide +kernel
theorem dX10_least_16 : decode cX10_least 16 = .ok (.iload_n 2, 1) := by decide +kernel
theorem dX10_least_17 : decode cX10_least 17 = .ok (.iconst 0, 1) := by decide +kernel
theorem dX10_least_18 : decode cX10_least 18 = .ok (.iastore, 1) := by decide +kernel
theorem dX10_least_19 : decode cX10_least 19 = .ok (.iload_n 1, 1) := by decide +kernel
theorem dX10_least_20 : decode cX10_least 20 = .ok (.aload_n 0, 1) := by decide +kernel
theorem dX10_least_21 : decode cX10_least 21 = .ok (.getfield 19, 3) := by decide +kernel
theorem dX10_least_24 : decode cX10_least 24 = .ok (.iload_n 2, 1) := by decide +kernel
theorem dX10_least_25 : decode cX10_least 25 = .ok (.iaload, 1) := by decide +kernel
theorem dX10_least_26 : decode cX10_least 26 = .ok (.ifCond .ne 15, 3) := by decide +kernel
theorem dX10_least_29 : decode cX10_least 29 = .ok (.aload_n 0, 1) := by decide +kernel
theorem dX10_least_30 : decode cX10_least 30 = .ok (.iload_n 2, 1) := by decide +kernel
theorem dX10_least_31 : decode cX10_least 31 = .ok (.invokevirtual 138, 3) := by decide +kernel
theorem dX10_least_34 : decode cX10_least 34 = .ok (.ifCond .eq 7, 3) := by decide +kernel
theorem dX10_least_37 : decode cX10_least 37 = .ok (.iconst 3, 1) := by decide +kernel
theorem dX10_least_38 : decode cX10_least 38 = .ok (.goto 4, 3) := by decide +kernel
theorem dX10_least_41 : decode cX10_least 41 = .ok (.iconst 1, 1) := by decide +kernel
theorem dX10_least_42 : decode cX10_least 42 = .ok (.imul, 1) := by decide +kernel
theorem dX10_least_43 : decode cX10_least 43 = .ok (.istore_n 1, 1) := by decide +kernel
theorem dX10_least_44 : decode cX10_least 44 = .ok (.iinc 2 1, 3) := by decide +kernel
theorem dX10_least_47 : decode cX10_least 47 = .ok (.goto (-43), 3) := by decide +kernel
theorem dX10_least_50 : decode cX10_least 50 = .ok (.ldc2_w 201, 3) := by decide +kernel
theorem dX10_least_53 : decode cX10_least 53 = .ok (.lstore_n 2, 1) := by decide +kernel
theorem dX10_least_54 : decode cX10_least 54 = .ok (.iconst 0, 1) := by decide +kernel
theorem dX10_least_55 : decode cX10_least 55 = .ok (.istore 4, 2) := by decide +kernel
theorem dX10_least_57 : decode cX10_least 57 = .ok (.iload 4, 2) := by decide +kernel
theorem dX10_least_59 : decode cX10_least 59 = .ok (.iload_n 1, 1) := by decide +kernel
theorem dX10_least_60 : decode cX10_least 60 = .ok (.if_icmp .ge 140, 3) := by decide +kernel
theorem dX10_least_63 : decode cX10_least 63 = .ok (.iload 4, 2) := by decide +kernel
theorem dX10_least_65 : decode cX10_least 65 = .ok (.istore 5, 2) := by decide +kernel
theorem dX10_least_67 : decode cX10_least 67 = .ok (.aload_n 0, 1) := by decide +kernel
theorem dX10_least_68 : decode cX10_least 68 = .ok (.getfield 92, 3) := by decide +kernel
theorem dX10_least_71 : decode cX10_least 71 = .ok (.iconst 1, 1) := by decide +kernel
theorem dX10_least_72 : decode cX10_least 72 = .ok (.isub, 1) := by decide +kernel
theorem dX10_least_73 : decode cX10_least 73 = .ok (.istore 6, 2) := by decide +kernel
theorem dX10_least_75 : decode cX10_least 75 = .ok (.iload 6, 2) := by decide +kernel
theorem dX10_least_77 : decode cX10_least 77 = .ok (.ifCond .lt 48, 3) := by decide +kernel
theorem dX10_least_80 : decode cX10_least 80 = .ok (.aload_n 0, 1) := by decide +kernel
theorem dX10_least_81 : decode cX10_least 81 = .ok (.getfield 19, 3) := by decide +kernel
theorem dX10_least_84 : decode cX10_least 84 = .ok (.iload 6, 2) := by decide +kernel
theorem dX10_least_86 : decode cX10_least 86 = .ok (.iaload, 1) := by decide +kernel
theorem dX10_least_87 : decode cX10_least 87 = .ok (.ifCond .ne 32, 3) := by decide +kernel
theorem dX10_least_90 : decode cX10_least 90 = .ok (.aload_n 0, 1) := by decide +kernel
theorem dX10_least_91 : decode cX10_least 91 = .ok (.iload 6, 2) := by decide +kernel
theorem dX10_least_93 : decode cX10_least 93 = .ok (.invokevirtual 138, 3) := by decide +kernel
theorem dX10_least_96 : decode cX10_least 96 = .ok (.ifCond .ne 6, 3) := by decide +kernel
theorem dX10_least_99 : decode cX10_least 99 = .ok (.goto 20, 3) := by decide +kernel
theorem dX10_least_102 : decode cX10_least 102 = .ok (.aload_n 0, 1) := by decide +kernel
theorem dX10_least_103 : decode cX10_least 103 = .ok (.getfield 72, 3) := by decide +kernel
theorem dX10_least_106 : decode cX10_least 106 = .ok (.iload 6, 2) := by decide +kernel
theorem dX10_least_108 : decode cX10_least 108 = .ok (.iload 5, 2) := by decide +kernel
theorem dX10_least_110 : decode cX10_least 110 = .ok (.iconst 3, 1) := by decide +kernel
theorem dX10_least_111 : decode cX10_least 111 = .ok (.irem, 1) := by decide +kernel
theorem dX10_least_112 : decode cX10_least 112 = .ok (.iastore, 1) := by decide +kernel
theorem dX10_least_113 : decode cX10_least 113 = .ok (.iload 5, 2) := by decide +kernel
theorem dX10_least_115 : decode cX10_least 115 = .ok (.iconst 3, 1) := by decide +kernel
theorem dX10_least_116 : decode cX10_least 116 = .ok (.idiv, 1) := by decide +kernel
theorem dX10_least_117 : decode cX10_least 117 = .ok (.istore 5, 2) := by decide +kernel
theorem dX10_least_119 : decode cX10_least 119 = .ok (.iinc 6 (-1), 3) := by decide +kernel
theorem dX10_least_122 : decode cX10_least 122 = .ok (.goto (-47), 3) := by decide +kernel
theorem dX10_least_125 : decode cX10_least 125 = .ok (.aload_n 0, 1) := by decide +kernel
theorem dX10_least_126 : decode cX10_least 126 = .ok (.invokevirtual 203, 3) := by decide +kernel
theorem dX10_least_129 : decode cX10_least 129 = .ok (.ifCond .ne 6, 3) := by decide +kernel
theorem dX10_least_132 : decode cX10_least 132 = .ok (.goto 62, 3) := by decide +kernel
theorem dX10_least_135 : decode cX10_least 135 = .ok (.aload_n 0, 1) := by decide +kernel
theorem dX10_least_136 : decode cX10_least 136 = .ok (.invokevirtual 206, 3) := by decide +kernel
theorem dX10_least_139 : decode cX10_least 139 = .ok (.lstore 6, 2) := by decide +kernel
theorem dX10_least_141 : decode cX10_least 141 = .ok (.lload_n 2, 1) := by decide +kernel
theorem dX10_least_142 : decode cX10_least 142 = .ok (.ldc2_w 201, 3) := by decide +kernel
theorem dX10_least_145 : decode cX10_least 145 = .ok (.lcmp, 1) := by decide +kernel
theorem dX10_least_146 : decode cX10_least 146 = .ok (.ifCond .eq 13, 3) := by decide +kernel
theorem dX10_least_149 : decode cX10_least 149 = .ok (.lload 6, 2) := by decide +kernel
theorem dX10_least_151 : decode cX10_least 151 = .ok (.lload_n 2, 1) := by decide +kernel
theorem dX10_least_152 : decode cX10_least 152 = .ok (.lcmp, 1) := by decide +kernel
theorem dX10_least_153 : decode cX10_least 153 = .ok (.ifCond .lt 6, 3) := by decide +kernel
theorem dX10_least_156 : decode cX10_least 156 = .ok (.goto 38, 3) := by decide +kernel
theorem dX10_least_159 : decode cX10_least 159 = .ok (.lload 6, 2) := by decide +kernel
theorem dX10_least_161 : decode cX10_least 161 = .ok (.lstore_n 2, 1) := by decide +kernel
theorem dX10_least_162 : decode cX10_least 162 = .ok (.iconst 0, 1) := by decide +kernel
theorem dX10_least_163 : decode cX10_least 163 = .ok (.istore 8, 2) := by decide +kernel
theorem dX10_least_165 : decode cX10_least 165 = .ok (.iload 8, 2) := by decide +kernel
theorem dX10_least_167 : decode cX10_least 167 = .ok (.aload_n 0, 1) := by decide +kernel
theorem dX10_least_168 : decode cX10_least 168 = .ok (.getfield 92, 3) := by decide +kernel
theorem dX10_least_171 : decode cX10_least 171 = .ok (.if_icmp .ge 23, 3) := by decide +kernel
theorem dX10_least_174 : decode cX10_least 174 = .ok (.aload_n 0, 1) := by decide +kernel
theorem dX10_least_175 : decode cX10_least 175 = .ok (.getfield 75, 3) := by decide +kernel
theorem dX10_least_178 : decode cX10_least 178 = .ok (.iload 8, 2) := by decide +kernel
theorem dX10_least_180 : decode cX10_least 180 = .ok (.aload_n 0, 1) := by decide +kernel
theorem dX10_least_181 : decode cX10_least 181 = .ok (.getfield 72, 3) := by decide +kernel
theorem dX10_least_184 : decode cX10_least 184 = .ok (.iload 8, 2) := by decide +kernel
theorem dX10_least_186 : decode cX10_least 186 = .ok (.iaload, 1) := by decide +kernel
theorem dX10_least_187 : decode cX10_least 187 = .ok (.iastore, 1) := by decide +kernel
theorem dX10_least_188 : decode cX10_least 188 = .ok (.iinc 8 1, 3) := by decide +kernel
theorem dX10_least_191 : decode cX10_least 191 = .ok (.goto (-26), 3) := by decide +kernel
theorem dX10_least_194 : decode cX10_least 194 = .ok (.iinc 4 1, 3) := by decide +kernel
theorem dX10_least_197 : decode cX10_least 197 = .ok (.goto (-140), 3) := by decide +kernel
theorem dX10_least_200 : decode cX10_least 200 = .ok (.lload_n 2, 1) := by decide +kernel
theorem dX10_least_201 : decode cX10_least 201 = .ok (.lreturn, 1) := by decide +kernel
theorem dX10_bound_0 : decode cX10_bound 0 = .ok (.aload_n 0, 1) := by decide +kernel
theorem dX10_bound_1 : decode cX10_bound 1 = .ok (.invokevirtual 166, 3) := by decide +kernel
theorem dX10_bound_4 : decode cX10_bound 4 = .ok (.ifCond .eq 10, 3) := by decide +kernel
theorem dX10_bound_7 : decode cX10_bound 7 = .ok (.aload_n 0, 1) := by decide +kernel
theorem dX10_bound_8 : decode cX10_bound 8 = .ok (.invokevirtual 210, 3) := by decide +kernel
theorem dX10_bound_11 : decode cX10_bound 11 = .ok (.goto 6, 3) := by decide +kernel
theorem dX10_bound_14 : decode cX10_bound 14 = .ok (.ldc2_w 201, 3) := by decide +kernel
theorem dX10_bound_17 : decode cX10_bound 17 = .ok (.lreturn, 1) := by decide +kernel
theorem dX10_cover_0 : decode cX10_cover 0 = .ok (.aload_n 0, 1) := by decide +kernel
theorem dX10_cover_1 : decode cX10_cover 1 = .ok (.invokevirtual 166, 3) := by decide +kernel
theorem dX10_cover_4 : decode cX10_cover 4 = .ok (.ifCond .eq 34, 3) := by decide +kernel
theorem dX10_cover_7 : decode cX10_cover 7 = .ok (.iload_n 1, 1) := by decide +kernel
theorem dX10_cover_8 : decode cX10_cover 8 = .ok (.iconst 0, 1) := by decide +kernel
theorem dX10_cover_9 : decode cX10_cover 9 = .ok (.aload_n 0, 1) := by decide +kernel
theorem dX10_cover_10 : decode cX10_cover 10 = .ok (.getfield 92, 3) := by decide +kernel
theorem dX10_cover_13 : decode cX10_cover 13 = .ok (.iconst 1, 1) := by decide +kernel
theorem dX10_cover_14 : decode cX10_cover 14 = .ok (.isub, 1) := by decide +kernel
theorem dX10_cover_15 : decode cX10_cover 15 = .ok (.invokestatic 88, 3) := by decide +kernel
theorem dX10_cover_18 : decode cX10_cover 18 = .ok (.ifCond .eq 20, 3) := by decide +kernel
theorem dX10_cover_21 : decode cX10_cover 21 = .ok (.aload_n 0, 1) := by decide +kernel
theorem dX10_cover_22 : decode cX10_cover 22 = .ok (.getfield 19, 3) := by decide +kernel
theorem dX10_cover_25 : decode cX10_cover 25 = .ok (.iload_n 1, 1) := by decide +kernel
theorem dX10_cover_26 : decode cX10_cover 26 = .ok (.iaload, 1) := by decide +kernel
theorem dX10_cover_27 : decode cX10_cover 27 = .ok (.ifCond .ne 11, 3) := by decide +kernel
theorem dX10_cover_30 : decode cX10_cover 30 = .ok (.aload_n 0, 1) := by decide +kernel
theorem dX10_cover_31 : decode cX10_cover 31 = .ok (.iload_n 1, 1) := by decide +kernel
theorem dX10_cover_32 : decode cX10_cover 32 = .ok (.invokevirtual 138, 3) := by decide +kernel
theorem dX10_cover_35 : decode cX10_cover 35 = .ok (.ifCond .ne 5, 3) := by decide +kernel
theorem dX10_cover_38 : decode cX10_cover 38 = .ok (.iconst (-1), 1) := by decide +kernel
theorem dX10_cover_39 : decode cX10_cover 39 = .ok (.ireturn, 1) := by decide +kernel
theorem dX10_cover_40 : decode cX10_cover 40 = .ok (.aload_n 0, 1) := by decide +kernel
theorem dX10_cover_41 : decode cX10_cover 41 = .ok (.invokevirtual 210, 3) := by decide +kernel
theorem dX10_cover_44 : decode cX10_cover 44 = .ok (.lstore_n 2, 1) := by decide +kernel
theorem dX10_cover_45 : decode cX10_cover 45 = .ok (.aload_n 0, 1) := by decide +kernel
theorem dX10_cover_46 : decode cX10_cover 46 = .ok (.getfield 75, 3) := by decide +kernel
theorem dX10_cover_49 : decode cX10_cover 49 = .ok (.iload_n 1, 1) := by decide +kernel
theorem dX10_cover_50 : decode cX10_cover 50 = .ok (.iaload, 1) := by decide +kernel
theorem dX10_cover_51 : decode cX10_cover 51 = .ok (.ireturn, 1) := by decide +kernel
theorem dX10_order_0 : decode cX10_order 0 = .ok (.iload_n 1, 1) := by decide +kernel
theorem dX10_order_1 : decode cX10_order 1 = .ok (.iconst 0, 1) := by decide +kernel
theorem dX10_order_2 : decode cX10_order 2 = .ok (.aload_n 0, 1) := by decide +kernel
theorem dX10_order_3 : decode cX10_order 3 = .ok (.getfield 119, 3) := by decide +kernel
theorem dX10_order_6 : decode cX10_order 6 = .ok (.iconst 1, 1) := by decide +kernel
theorem dX10_order_7 : decode cX10_order 7 = .ok (.isub, 1) := by decide +kernel
theorem dX10_order_8 : decode cX10_order 8 = .ok (.invokestatic 88, 3) := by decide +kernel
theorem dX10_order_11 : decode cX10_order 11 = .ok (.ifCond .eq 17, 3) := by decide +kernel
theorem dX10_order_14 : decode cX10_order 14 = .ok (.iload_n 2, 1) := by decide +kernel
theorem dX10_order_15 : decode cX10_order 15 = .ok (.iconst 0, 1) := by decide +kernel
theorem dX10_order_16 : decode cX10_order 16 = .ok (.aload_n 0, 1) := by decide +kernel
theorem dX10_order_17 : decode cX10_order 17 = .ok (.getfield 119, 3) := by decide +kernel
theorem dX10_order_20 : decode cX10_order 20 = .ok (.iconst 1, 1) := by decide +kernel
theorem dX10_order_21 : decode cX10_order 21 = .ok (.isub, 1) := by decide +kernel
theorem dX10_order_22 : decode cX10_order 22 = .ok (.invokestatic 88, 3) := by decide +kernel
theorem dX10_order_25 : decode cX10_order 25 = .ok (.ifCond .ne 5, 3) := by decide +kernel
theorem dX10_order_28 : decode cX10_order 28 = .ok (.iconst 0, 1) := by decide +kernel
theorem dX10_order_29 : decode cX10_order 29 = .ok (.ireturn, 1) := by decide +kernel
theorem dX10_order_30 : decode cX10_order 30 = .ok (.iconst 0, 1) := by decide +kernel
theorem dX10_order_31 : decode cX10_order 31 = .ok (.istore_n 3, 1) := by decide +kernel
theorem dX10_order_32 : decode cX10_order 32 = .ok (.aload_n 0, 1) := by decide +kernel
theorem dX10_order_33 : decode cX10_order 33 = .ok (.getfield 34, 3) := by decide +kernel
theorem dX10_order_36 : decode cX10_order 36 = .ok (.iload_n 3, 1) := by decide +kernel
theorem dX10_order_37 : decode cX10_order 37 = .ok (.iaload, 1) := by decide +kernel
theorem dX10_order_38 : decode cX10_order 38 = .ok (.iload_n 2, 1) := by decide +kernel
theorem dX10_order_39 : decode cX10_order 39 = .ok (.if_icmp .eq 9, 3) := by decide +kernel
theorem dX10_order_42 : decode cX10_order 42 = .ok (.iinc 3 1, 3) := by decide +kernel
theorem dX10_order_45 : decode cX10_order 45 = .ok (.goto (-13), 3) := by decide +kernel
theorem dX10_order_48 : decode cX10_order 48 = .ok (.aload_n 0, 1) := by decide +kernel
theorem dX10_order_49 : decode cX10_order 49 = .ok (.getfield 34, 3) := by decide +kernel
theorem dX10_order_52 : decode cX10_order 52 = .ok (.iload_n 3, 1) := by decide +kernel
theorem dX10_order_53 : decode cX10_order 53 = .ok (.aload_n 0, 1) := by decide +kernel
theorem dX10_order_54 : decode cX10_order 54 = .ok (.getfield 34, 3) := by decide +kernel
theorem dX10_order_57 : decode cX10_order 57 = .ok (.iload_n 1, 1) := by decide +kernel
theorem dX10_order_58 : decode cX10_order 58 = .ok (.iaload, 1) := by decide +kernel
theorem dX10_order_59 : decode cX10_order 59 = .ok (.iastore, 1) := by decide +kernel
theorem dX10_order_60 : decode cX10_order 60 = .ok (.aload_n 0, 1) := by decide +kernel
theorem dX10_order_61 : decode cX10_order 61 = .ok (.getfield 34, 3) := by decide +kernel
theorem dX10_order_64 : decode cX10_order 64 = .ok (.iload_n 1, 1) := by decide +kernel
theorem dX10_order_65 : decode cX10_order 65 = .ok (.iload_n 2, 1) := by decide +kernel
theorem dX10_order_66 : decode cX10_order 66 = .ok (.iastore, 1) := by decide +kernel
theorem dX10_order_67 : decode cX10_order 67 = .ok (.iconst 1, 1) := by decide +kernel
theorem dX10_order_68 : decode cX10_order 68 = .ok (.ireturn, 1) := by decide +kernel
theorem dX10_nextOrder_0 : decode cX10_nextOrder 0 = .ok (.aload_n 0, 1) := by decide +kernel
theorem dX10_nextOrder_1 : decode cX10_nextOrder 1 = .ok (.getfield 119, 3) := by decide +kernel
theorem dX10_nextOrder_4 : decode cX10_nextOrder 4 = .ok (.iconst 2, 1) := by decide +kernel
theorem dX10_nextOrder_5 : decode cX10_nextOrder 5 = .ok (.isub, 1) := by decide +kernel
theorem dX10_nextOrder_6 : decode cX10_nextOrder 6 = .ok (.istore_n 1, 1) := by decide +kernel
theorem dX10_nextOrder_7 : decode cX10_nextOrder 7 = .ok (.iload_n 1, 1) := by decide +kernel
theorem dX10_nextOrder_8 : decode cX10_nextOrder 8 = .ok (.ifCond .lt 26, 3) := by decide +kernel
theorem dX10_nextOrder_11 : decode cX10_nextOrder 11 = .ok (.aload_n 0, 1) := by decide +kernel
theorem dX10_nextOrder_12 : decode cX10_nextOrder 12 = .ok (.getfield 34, 3) := by decide +kernel
theorem dX10_nextOrder_15 : decode cX10_nextOrder 15 = .ok (.iload_n 1, 1) := by decide +kernel
theorem dX10_nextOrder_16 : decode cX10_nextOrder 16 = .ok (.iaload, 1) := by decide +kernel
theorem dX10_nextOrder_17 : decode cX10_nextOrder 17 = .ok (.aload_n 0, 1) := by decide +kernel
theorem dX10_nextOrder_18 : decode cX10_nextOrder 18 = .ok (.getfield 34, 3) := by decide +kernel
theorem dX10_nextOrder_21 : decode cX10_nextOrder 21 = .ok (.iload_n 1, 1) := by decide +kernel
theorem dX10_nextOrder_22 : decode cX10_nextOrder 22 = .ok (.iconst 1, 1) := by decide +kernel
theorem dX10_nextOrder_23 : decode cX10_nextOrder 23 = .ok (.iadd, 1) := by decide +kernel
theorem dX10_nextOrder_24 : decode cX10_nextOrder 24 = .ok (.iaload, 1) := by decide +kernel
theorem dX10_nextOrder_25 : decode cX10_nextOrder 25 = .ok (.if_icmp .le 9, 3) := by decide +kernel
theorem dX10_nextOrder_28 : decode cX10_nextOrder 28 = .ok (.iinc 1 (-1), 3) := by decide +kernel
theorem dX10_nextOrder_31 : decode cX10_nextOrder 31 = .ok (.goto (-24), 3) := by decide +kernel
theorem dX10_nextOrder_34 : decode cX10_nextOrder 34 = .ok (.iload_n 1, 1) := by decide +kernel
theorem dX10_nextOrder_35 : decode cX10_nextOrder 35 = .ok (.ifCond .ge 5, 3) := by decide +kernel
theorem dX10_nextOrder_38 : decode cX10_nextOrder 38 = .ok (.iconst 0, 1) := by decide +kernel
theorem dX10_nextOrder_39 : decode cX10_nextOrder 39 = .ok (.ireturn, 1) := by decide +kernel
theorem dX10_nextOrder_40 : decode cX10_nextOrder 40 = .ok (.aload_n 0, 1) := by decide +kernel
theorem dX10_nextOrder_41 : decode cX10_nextOrder 41 = .ok (.getfield 119, 3) := by decide +kernel
theorem dX10_nextOrder_44 : decode cX10_nextOrder 44 = .ok (.iconst 1, 1) := by decide +kernel
theorem dX10_nextOrder_45 : decode cX10_nextOrder 45 = .ok (.isub, 1) := by decide +kernel
theorem dX10_nextOrder_46 : decode cX10_nextOrder 46 = .ok (.istore_n 2, 1) := by decide +kernel
theorem dX10_nextOrder_47 : decode cX10_nextOrder 47 = .ok (.aload_n 0, 1) := by decide +kernel
theorem dX10_nextOrder_48 : decode cX10_nextOrder 48 = .ok (.getfield 34, 3) := by decide +kernel
theorem dX10_nextOrder_51 : decode cX10_nextOrder 51 = .ok (.iload_n 2, 1) := by decide +kernel
theorem dX10_nextOrder_52 : decode cX10_nextOrder 52 = .ok (.iaload, 1) := by decide +kernel
theorem dX10_nextOrder_53 : decode cX10_nextOrder 53 = .ok (.aload_n 0, 1) := by decide +kernel
theorem dX10_nextOrder_54 : decode cX10_nextOrder 54 = .ok (.getfield 34, 3) := by decide +kernel
theorem dX10_nextOrder_57 : decode cX10_nextOrder 57 = .ok (.iload_n 1, 1) := by decide +kernel
theorem dX10_nextOrder_58 : decode cX10_nextOrder 58 = .ok (.iaload, 1) := by decide +kernel
theorem dX10_nextOrder_59 : decode cX10_nextOrder 59 = .ok (.if_icmp .ge 9, 3) := by decide +kernel
theorem dX10_nextOrder_62 : decode cX10_nextOrder 62 = .ok (.iinc 2 (-1), 3) := by decide +kernel
theorem dX10_nextOrder_65 : decode cX10_nextOrder 65 = .ok (.goto (-18), 3) := by decide +kernel
theorem dX10_nextOrder_68 : decode cX10_nextOrder 68 = .ok (.aload_n 0, 1) := by decide +kernel
theorem dX10_nextOrder_69 : decode cX10_nextOrder 69 = .ok (.getfield 34, 3) := by decide +kernel
theorem dX10_nextOrder_72 : decode cX10_nextOrder 72 = .ok (.iload_n 1, 1) := by decide +kernel
theorem dX10_nextOrder_73 : decode cX10_nextOrder 73 = .ok (.iaload, 1) := by decide +kernel
theorem dX10_nextOrder_74 : decode cX10_nextOrder 74 = .ok (.istore_n 3, 1) := by decide +kernel
theorem dX10_nextOrder_75 : decode cX10_nextOrder 75 = .ok (.aload_n 0, 1) := by decide +kernel
theorem dX10_nextOrder_76 : decode cX10_nextOrder 76 = .ok (.getfield 34, 3) := by decide +kernel
theorem dX10_nextOrder_79 : decode cX10_nextOrder 79 = .ok (.iload_n 1, 1) := by decide +kernel
theorem dX10_nextOrder_80 : decode cX10_nextOrder 80 = .ok (.aload_n 0, 1) := by decide +kernel
theorem dX10_nextOrder_81 : decode cX10_nextOrder 81 = .ok (.getfield 34, 3) := by decide +kernel
theorem dX10_nextOrder_84 : decode cX10_nextOrder 84 = .ok (.iload_n 2, 1) := by decide +kernel
theorem dX10_nextOrder_85 : decode cX10_nextOrder 85 = .ok (.iaload, 1) := by decide +kernel
theorem dX10_nextOrder_86 : decode cX10_nextOrder 86 = .ok (.iastore, 1) := by decide +kernel
theorem dX10_nextOrder_87 : decode cX10_nextOrder 87 = .ok (.aload_n 0, 1) := by decide +kernel
theorem dX10_nextOrder_88 : decode cX10_nextOrder 88 = .ok (.getfield 34, 3) := by decide +kernel
theorem dX10_nextOrder_91 : decode cX10_nextOrder 91 = .ok (.iload_n 2, 1) := by decide +kernel
theorem dX10_nextOrder_92 : decode cX10_nextOrder 92 = .ok (.iload_n 3, 1) := by decide +kernel
theorem dX10_nextOrder_93 : decode cX10_nextOrder 93 = .ok (.iastore, 1) := by decide +kernel
theorem dX10_nextOrder_94 : decode cX10_nextOrder 94 = .ok (.iload_n 1, 1) := by decide +kernel
theorem dX10_nextOrder_95 : decode cX10_nextOrder 95 = .ok (.iconst 1, 1) := by decide +kernel
theorem dX10_nextOrder_96 : decode cX10_nextOrder 96 = .ok (.iadd, 1) := by decide +kernel
theorem dX10_nextOrder_97 : decode cX10_nextOrder 97 = .ok (.istore 4, 2) := by decide +kernel
theorem dX10_nextOrder_99 : decode cX10_nextOrder 99 = .ok (.aload_n 0, 1) := by decide +kernel
theorem dX10_nextOrder_100 : decode cX10_nextOrder 100 = .ok (.getfield 119, 3) := by decide +kernel
theorem dX10_nextOrder_103 : decode cX10_nextOrder 103 = .ok (.iconst 1, 1) := by decide +kernel
theorem dX10_nextOrder_104 : decode cX10_nextOrder 104 = .ok (.isub, 1) := by decide +kernel
theorem dX10_nextOrder_105 : decode cX10_nextOrder 105 = .ok (.istore 5, 2) := by decide +kernel
theorem dX10_nextOrder_107 : decode cX10_nextOrder 107 = .ok (.iload 4, 2) := by decide +kernel
theorem dX10_nextOrder_109 : decode cX10_nextOrder 109 = .ok (.iload 5, 2) := by decide +kernel
theorem dX10_nextOrder_111 : decode cX10_nextOrder 111 = .ok (.if_icmp .ge 42, 3) := by decide +kernel
theorem dX10_nextOrder_114 : decode cX10_nextOrder 114 = .ok (.aload_n 0, 1) := by decide +kernel
theorem dX10_nextOrder_115 : decode cX10_nextOrder 115 = .ok (.getfield 34, 3) := by decide +kernel
theorem dX10_nextOrder_118 : decode cX10_nextOrder 118 = .ok (.iload 4, 2) := by decide +kernel
theorem dX10_nextOrder_120 : decode cX10_nextOrder 120 = .ok (.iaload, 1) := by decide +kernel
theorem dX10_nextOrder_121 : decode cX10_nextOrder 121 = .ok (.istore_n 3, 1) := by decide +kernel
theorem dX10_nextOrder_122 : decode cX10_nextOrder 122 = .ok (.aload_n 0, 1) := by decide +kernel
theorem dX10_nextOrder_123 : decode cX10_nextOrder 123 = .ok (.getfield 34, 3) := by decide +kernel
theorem dX10_nextOrder_126 : decode cX10_nextOrder 126 = .ok (.iload 4, 2) := by decide +kernel
theorem dX10_nextOrder_128 : decode cX10_nextOrder 128 = .ok (.aload_n 0, 1) := by decide +kernel
theorem dX10_nextOrder_129 : decode cX10_nextOrder 129 = .ok (.getfield 34, 3) := by decide +kernel
theorem dX10_nextOrder_132 : decode cX10_nextOrder 132 = .ok (.iload 5, 2) := by decide +kernel
theorem dX10_nextOrder_134 : decode cX10_nextOrder 134 = .ok (.iaload, 1) := by decide +kernel
theorem dX10_nextOrder_135 : decode cX10_nextOrder 135 = .ok (.iastore, 1) := by decide +kernel
theorem dX10_nextOrder_136 : decode cX10_nextOrder 136 = .ok (.aload_n 0, 1) := by decide +kernel
theorem dX10_nextOrder_137 : decode cX10_nextOrder 137 = .ok (.getfield 34, 3) := by decide +kernel
theorem dX10_nextOrder_140 : decode cX10_nextOrder 140 = .ok (.iload 5, 2) := by decide +kernel
theorem dX10_nextOrder_142 : decode cX10_nextOrder 142 = .ok (.iload_n 3, 1) := by decide +kernel
theorem dX10_nextOrder_143 : decode cX10_nextOrder 143 = .ok (.iastore, 1) := by decide +kernel
theorem dX10_nextOrder_144 : decode cX10_nextOrder 144 = .ok (.iinc 4 1, 3) := by decide +kernel
theorem dX10_nextOrder_147 : decode cX10_nextOrder 147 = .ok (.iinc 5 (-1), 3) := by decide +kernel
theorem dX10_nextOrder_150 : decode cX10_nextOrder 150 = .ok (.goto (-43), 3) := by decide +kernel
theorem dX10_nextOrder_153 : decode cX10_nextOrder 153 = .ok (.iconst 1, 1) := by decide +kernel
theorem dX10_nextOrder_154 : decode cX10_nextOrder 154 = .ok (.ireturn, 1) := by decide +kernel
theorem dX10_best_0 : decode cX10_best 0 = .ok (.aload_n 0, 1) := by decide +kernel
theorem dX10_best_1 : decode cX10_best 1 = .ok (.invokevirtual 166, 3) := by decide +kernel
theorem dX10_best_4 : decode cX10_best 4 = .ok (.ifCond .eq 11, 3) := by decide +kernel
theorem dX10_best_7 : decode cX10_best 7 = .ok (.aload_n 0, 1) := by decide +kernel
theorem dX10_best_8 : decode cX10_best 8 = .ok (.getfield 119, 3) := by decide +kernel
theorem dX10_best_11 : decode cX10_best 11 = .ok (.iconst 4, 1) := by decide +kernel
theorem dX10_best_12 : decode cX10_best 12 = .ok (.if_icmp .le 5, 3) := by decide +kernel
theorem dX10_best_15 : decode cX10_best 15 = .ok (.iconst (-1), 1) := by decide +kernel
theorem dX10_best_16 : decode cX10_best 16 = .ok (.ireturn, 1) := by decide +kernel
theorem dX10_best_17 : decode cX10_best 17 = .ok (.iconst 0, 1) := by decide +kernel
theorem dX10_best_18 : decode cX10_best 18 = .ok (.istore_n 1, 1) := by decide +kernel
theorem dX10_best_19 : decode cX10_best 19 = .ok (.iload_n 1, 1) := by decide +kernel
theorem dX10_best_20 : decode cX10_best 20 = .ok (.bipush 6, 2) := by decide +kernel
theorem dX10_best_22 : decode cX10_best 22 = .ok (.if_icmp .ge 28, 3) := by decide +kernel
theorem dX10_best_25 : decode cX10_best 25 = .ok (.aload_n 0, 1) := by decide +kernel
theorem dX10_best_26 : decode cX10_best 26 = .ok (.getfield 78, 3) := by decide +kernel
theorem dX10_best_29 : decode cX10_best 29 = .ok (.iload_n 1, 1) := by decide +kernel
theorem dX10_best_30 : decode cX10_best 30 = .ok (.aload_n 0, 1) := by decide +kernel
theorem dX10_best_31 : decode cX10_best 31 = .ok (.getfield 34, 3) := by decide +kernel
theorem dX10_best_34 : decode cX10_best 34 = .ok (.iload_n 1, 1) := by decide +kernel
theorem dX10_best_35 : decode cX10_best 35 = .ok (.iaload, 1) := by decide +kernel
theorem dX10_best_36 : decode cX10_best 36 = .ok (.iastore, 1) := by decide +kernel
theorem dX10_best_37 : decode cX10_best 37 = .ok (.aload_n 0, 1) := by decide +kernel
theorem dX10_best_38 : decode cX10_best 38 = .ok (.getfield 34, 3) := by decide +kernel
theorem dX10_best_41 : decode cX10_best 41 = .ok (.iload_n 1, 1) := by decide +kernel
theorem dX10_best_42 : decode cX10_best 42 = .ok (.iload_n 1, 1) := by decide +kernel
theorem dX10_best_43 : decode cX10_best 43 = .ok (.iastore, 1) := by decide +kernel
theorem dX10_best_44 : decode cX10_best 44 = .ok (.iinc 1 1, 3) := by decide +kernel
theorem dX10_best_47 : decode cX10_best 47 = .ok (.goto (-28), 3) := by decide +kernel
theorem dX10_best_50 : decode cX10_best 50 = .ok (.iconst (-1), 1) := by decide +kernel
theorem dX10_best_51 : decode cX10_best 51 = .ok (.istore_n 1, 1) := by decide +kernel
theorem dX10_best_52 : decode cX10_best 52 = .ok (.iconst 1, 1) := by decide +kernel
theorem dX10_best_53 : decode cX10_best 53 = .ok (.istore_n 2, 1) := by decide +kernel
theorem dX10_best_54 : decode cX10_best 54 = .ok (.iload_n 2, 1) := by decide +kernel
theorem dX10_best_55 : decode cX10_best 55 = .ok (.ifCond .eq 90, 3) := by decide +kernel
theorem dX10_best_58 : decode cX10_best 58 = .ok (.aload_n 0, 1) := by decide +kernel
theorem dX10_best_59 : decode cX10_best 59 = .ok (.invokevirtual 170, 3) := by decide +kernel
theorem dX10_best_62 : decode cX10_best 62 = .ok (.ifCond .eq 75, 3) := by decide +kernel
theorem dX10_best_65 : decode cX10_best 65 = .ok (.iconst 0, 1) := by decide +kernel
theorem dX10_best_66 : decode cX10_best 66 = .ok (.istore_n 3, 1) := by decide +kernel
theorem dX10_best_67 : decode cX10_best 67 = .ok (.iconst 0, 1) := by decide +kernel
theorem dX10_best_68 : decode cX10_best 68 = .ok (.istore 4, 2) := by decide +kernel
theorem dX10_best_70 : decode cX10_best 70 = .ok (.iload 4, 2) := by decide +kernel
theorem dX10_best_72 : decode cX10_best 72 = .ok (.aload_n 0, 1) := by decide +kernel
theorem dX10_best_73 : decode cX10_best 73 = .ok (.getfield 119, 3) := by decide +kernel
theorem dX10_best_76 : decode cX10_best 76 = .ok (.if_icmp .ge 19, 3) := by decide +kernel
theorem dX10_best_79 : decode cX10_best 79 = .ok (.iload_n 3, 1) := by decide +kernel
theorem dX10_best_80 : decode cX10_best 80 = .ok (.aload_n 0, 1) := by decide +kernel
theorem dX10_best_81 : decode cX10_best 81 = .ok (.getfield 43, 3) := by decide +kernel
theorem dX10_best_84 : decode cX10_best 84 = .ok (.iload 4, 2) := by decide +kernel
theorem dX10_best_86 : decode cX10_best 86 = .ok (.iaload, 1) := by decide +kernel
theorem dX10_best_87 : decode cX10_best 87 = .ok (.iadd, 1) := by decide +kernel
theorem dX10_best_88 : decode cX10_best 88 = .ok (.istore_n 3, 1) := by decide +kernel
theorem dX10_best_89 : decode cX10_best 89 = .ok (.iinc 4 1, 3) := by decide +kernel
theorem dX10_best_92 : decode cX10_best 92 = .ok (.goto (-22), 3) := by decide +kernel
theorem dX10_best_95 : decode cX10_best 95 = .ok (.iload_n 1, 1) := by decide +kernel
theorem dX10_best_96 : decode cX10_best 96 = .ok (.iconst (-1), 1) := by decide +kernel
theorem dX10_best_97 : decode cX10_best 97 = .ok (.if_icmp .eq 8, 3) := by decide +kernel
theorem dX10_best_100 : decode cX10_best 100 = .ok (.iload_n 3, 1) := by decide +kernel
theorem dX10_best_101 : decode cX10_best 101 = .ok (.iload_n 1, 1) := by decide +kernel
theorem dX10_best_102 : decode cX10_best 102 = .ok (.if_icmp .ge 35, 3) := by decide +kernel
theorem dX10_best_105 : decode cX10_best 105 = .ok (.iload_n 3, 1) := by decide +kernel
theorem dX10_best_106 : decode cX10_best 106 = .ok (.istore_n 1, 1) := by decide +kernel
theorem dX10_best_107 : decode cX10_best 107 = .ok (.iconst 0, 1) := by decide +kernel
theorem dX10_best_108 : decode cX10_best 108 = .ok (.istore 4, 2) := by decide +kernel
theorem dX10_best_110 : decode cX10_best 110 = .ok (.iload 4, 2) := by decide +kernel
theorem dX10_best_112 : decode cX10_best 112 = .ok (.bipush 6, 2) := by decide +kernel
theorem dX10_best_114 : decode cX10_best 114 = .ok (.if_icmp .ge 23, 3) := by decide +kernel
theorem dX10_best_117 : decode cX10_best 117 = .ok (.aload_n 0, 1) := by decide +kernel
theorem dX10_best_118 : decode cX10_best 118 = .ok (.getfield 81, 3) := by decide +kernel
theorem dX10_best_121 : decode cX10_best 121 = .ok (.iload 4, 2) := by decide +kernel
theorem dX10_best_123 : decode cX10_best 123 = .ok (.aload_n 0, 1) := by decide +kernel
theorem dX10_best_124 : decode cX10_best 124 = .ok (.getfield 34, 3) := by decide +kernel
theorem dX10_best_127 : decode cX10_best 127 = .ok (.iload 4, 2) := by decide +kernel
theorem dX10_best_129 : decode cX10_best 129 = .ok (.iaload, 1) := by decide +kernel
theorem dX10_best_130 : decode cX10_best 130 = .ok (.iastore, 1) := by decide +kernel
theorem dX10_best_131 : decode cX10_best 131 = .ok (.iinc 4 1, 3) := by decide +kernel
theorem dX10_best_134 : decode cX10_best 134 = .ok (.goto (-24), 3) := by decide +kernel
theorem dX10_best_137 : decode cX10_best 137 = .ok (.aload_n 0, 1) := by decide +kernel
theorem dX10_best_138 : decode cX10_best 138 = .ok (.invokevirtual 213, 3) := by decide +kernel
theorem dX10_best_141 : decode cX10_best 141 = .ok (.istore_n 2, 1) := by decide +kernel
theorem dX10_best_142 : decode cX10_best 142 = .ok (.goto (-88), 3) := by decide +kernel
theorem dX10_best_145 : decode cX10_best 145 = .ok (.iconst 0, 1) := by decide +kernel
theorem dX10_best_146 : decode cX10_best 146 = .ok (.istore_n 3, 1) := by decide +kernel
theorem dX10_best_147 : decode cX10_best 147 = .ok (.iload_n 3, 1) := by decide +kernel
theorem dX10_best_148 : decode cX10_best 148 = .ok (.bipush 6, 2) := by decide +kernel
theorem dX10_best_150 : decode cX10_best 150 = .ok (.if_icmp .ge 35, 3) := by decide +kernel
theorem dX10_best_153 : decode cX10_best 153 = .ok (.aload_n 0, 1) := by decide +kernel
theorem dX10_best_154 : decode cX10_best 154 = .ok (.getfield 34, 3) := by decide +kernel
theorem dX10_best_157 : decode cX10_best 157 = .ok (.iload_n 3, 1) := by decide +kernel
theorem dX10_best_158 : decode cX10_best 158 = .ok (.iload_n 1, 1) := by decide +kernel
theorem dX10_best_159 : decode cX10_best 159 = .ok (.iconst (-1), 1) := by decide +kernel
theorem dX10_best_160 : decode cX10_best 160 = .ok (.if_icmp .ne 12, 3) := by decide +kernel
theorem dX10_best_163 : decode cX10_best 163 = .ok (.aload_n 0, 1) := by decide +kernel
theorem dX10_best_164 : decode cX10_best 164 = .ok (.getfield 78, 3) := by decide +kernel
theorem dX10_best_167 : decode cX10_best 167 = .ok (.iload_n 3, 1) := by decide +kernel
theorem dX10_best_168 : decode cX10_best 168 = .ok (.iaload, 1) := by decide +kernel
theorem dX10_best_169 : decode cX10_best 169 = .ok (.goto 9, 3) := by decide +kernel
theorem dX10_best_172 : decode cX10_best 172 = .ok (.aload_n 0, 1) := by decide +kernel
theorem dX10_best_173 : decode cX10_best 173 = .ok (.getfield 81, 3) := by decide +kernel
theorem dX10_best_176 : decode cX10_best 176 = .ok (.iload_n 3, 1) := by decide +kernel
theorem dX10_best_177 : decode cX10_best 177 = .ok (.iaload, 1) := by decide +kernel
theorem dX10_best_178 : decode cX10_best 178 = .ok (.iastore, 1) := by decide +kernel
theorem dX10_best_179 : decode cX10_best 179 = .ok (.iinc 3 1, 3) := by decide +kernel
theorem dX10_best_182 : decode cX10_best 182 = .ok (.goto (-35), 3) := by decide +kernel
theorem dX10_best_185 : decode cX10_best 185 = .ok (.iload_n 1, 1) := by decide +kernel
theorem dX10_best_186 : decode cX10_best 186 = .ok (.iconst (-1), 1) := by decide +kernel
theorem dX10_best_187 : decode cX10_best 187 = .ok (.if_icmp .ne 8, 3) := by decide +kernel
theorem dX10_best_190 : decode cX10_best 190 = .ok (.bipush (-2), 2) := by decide +kernel
theorem dX10_best_192 : decode cX10_best 192 = .ok (.goto 4, 3) := by decide +kernel
theorem dX10_best_195 : decode cX10_best 195 = .ok (.iload_n 1, 1) := by decide +kernel
theorem dX10_best_196 : decode cX10_best 196 = .ok (.ireturn, 1) := by decide +kernel
theorem dX10_begins_0 : decode cX10_begins 0 = .ok (.iconst 0, 1) := by decide +kernel
theorem dX10_begins_1 : decode cX10_begins 1 = .ok (.istore 4, 2) := by decide +kernel
theorem dX10_begins_3 : decode cX10_begins 3 = .ok (.iload 4, 2) := by decide +kernel
theorem dX10_begins_5 : decode cX10_begins 5 = .ok (.aload_n 0, 1) := by decide +kernel
theorem dX10_begins_6 : decode cX10_begins 6 = .ok (.getfield 13, 3) := by decide +kernel
theorem dX10_begins_9 : decode cX10_begins 9 = .ok (.iload_n 1, 1) := by decide +kernel
theorem dX10_begins_10 : decode cX10_begins 10 = .ok (.iaload, 1) := by decide +kernel
theorem dX10_begins_11 : decode cX10_begins 11 = .ok (.if_icmp .ge 35, 3) := by decide +kernel
theorem dX10_begins_14 : decode cX10_begins 14 = .ok (.aload_n 0, 1) := by decide +kernel
theorem dX10_begins_15 : decode cX10_begins 15 = .ok (.iload_n 1, 1) := by decide +kernel
theorem dX10_begins_16 : decode cX10_begins 16 = .ok (.iload 4, 2) := by decide +kernel
theorem dX10_begins_18 : decode cX10_begins 18 = .ok (.iconst 0, 1) := by decide +kernel
theorem dX10_begins_19 : decode cX10_begins 19 = .ok (.invokevirtual 95, 3) := by decide +kernel
theorem dX10_begins_22 : decode cX10_begins 22 = .ok (.iload_n 2, 1) := by decide +kernel
theorem dX10_begins_23 : decode cX10_begins 23 = .ok (.if_icmp .ne 17, 3) := by decide +kernel
theorem dX10_begins_26 : decode cX10_begins 26 = .ok (.aload_n 0, 1) := by decide +kernel
theorem dX10_begins_27 : decode cX10_begins 27 = .ok (.iload_n 1, 1) := by decide +kernel
theorem dX10_begins_28 : decode cX10_begins 28 = .ok (.iload 4, 2) := by decide +kernel
theorem dX10_begins_30 : decode cX10_begins 30 = .ok (.iconst 1, 1) := by decide +kernel
theorem dX10_begins_31 : decode cX10_begins 31 = .ok (.invokevirtual 95, 3) := by decide +kernel
theorem dX10_begins_34 : decode cX10_begins 34 = .ok (.iload_n 3, 1) := by decide +kernel
theorem dX10_begins_35 : decode cX10_begins 35 = .ok (.if_icmp .ne 5, 3) := by decide +kernel
theorem dX10_begins_38 : decode cX10_begins 38 = .ok (.iconst 1, 1) := by decide +kernel
theorem dX10_begins_39 : decode cX10_begins 39 = .ok (.ireturn, 1) := by decide +kernel
theorem dX10_begins_40 : decode cX10_begins 40 = .ok (.iinc 4 1, 3) := by decide +kernel
theorem dX10_begins_43 : decode cX10_begins 43 = .ok (.goto (-40), 3) := by decide +kernel
theorem dX10_begins_46 : decode cX10_begins 46 = .ok (.iconst 0, 1) := by decide +kernel
theorem dX10_begins_47 : decode cX10_begins 47 = .ok (.ireturn, 1) := by decide +kernel
theorem dX10_ringsOf_0 : decode cX10_ringsOf 0 = .ok (.iconst 0, 1) := by decide +kernel
theorem dX10_ringsOf_1 : decode cX10_ringsOf 1 = .ok (.istore_n 3, 1) := by decide +kernel
theorem dX10_ringsOf_2 : decode cX10_ringsOf 2 = .ok (.iconst 0, 1) := by decide +kernel
theorem dX10_ringsOf_3 : decode cX10_ringsOf 3 = .ok (.istore 4, 2) := by decide +kernel
theorem dX10_ringsOf_5 : decode cX10_ringsOf 5 = .ok (.iload 4, 2) := by decide +kernel
theorem dX10_ringsOf_7 : decode cX10_ringsOf 7 = .ok (.aload_n 0, 1) := by decide +kernel
theorem dX10_ringsOf_8 : decode cX10_ringsOf 8 = .ok (.getfield 13, 3) := by decide +kernel
theorem dX10_ringsOf_11 : decode cX10_ringsOf 11 = .ok (.iload_n 1, 1) := by decide +kernel
theorem dX10_ringsOf_12 : decode cX10_ringsOf 12 = .ok (.iaload, 1) := by decide +kernel
theorem dX10_ringsOf_13 : decode cX10_ringsOf 13 = .ok (.if_icmp .ge 224, 3) := by decide +kernel
theorem dX10_ringsOf_16 : decode cX10_ringsOf 16 = .ok (.aload_n 0, 1) := by decide +kernel
theorem dX10_ringsOf_17 : decode cX10_ringsOf 17 = .ok (.iload_n 1, 1) := by decide +kernel
theorem dX10_ringsOf_18 : decode cX10_ringsOf 18 = .ok (.iload 4, 2) := by decide +kernel
theorem dX10_ringsOf_20 : decode cX10_ringsOf 20 = .ok (.iconst 0, 1) := by decide +kernel
theorem dX10_ringsOf_21 : decode cX10_ringsOf 21 = .ok (.invokevirtual 95, 3) := by decide +kernel
theorem dX10_ringsOf_24 : decode cX10_ringsOf 24 = .ok (.istore 5, 2) := by decide +kernel
theorem dX10_ringsOf_26 : decode cX10_ringsOf 26 = .ok (.aload_n 0, 1) := by decide +kernel
theorem dX10_ringsOf_27 : decode cX10_ringsOf 27 = .ok (.iload_n 1, 1) := by decide +kernel
theorem dX10_ringsOf_28 : decode cX10_ringsOf 28 = .ok (.iload 4, 2) := by decide +kernel
theorem dX10_ringsOf_30 : decode cX10_ringsOf 30 = .ok (.iconst 1, 1) := by decide +kernel
theorem dX10_ringsOf_31 : decode cX10_ringsOf 31 = .ok (.invokevirtual 95, 3) := by decide +kernel
theorem dX10_ringsOf_34 : decode cX10_ringsOf 34 = .ok (.istore 6, 2) := by decide +kernel
theorem dX10_ringsOf_36 : decode cX10_ringsOf 36 = .ok (.iload 5, 2) := by decide +kernel
theorem dX10_ringsOf_38 : decode cX10_ringsOf 38 = .ok (.iload 6, 2) := by decide +kernel
theorem dX10_ringsOf_40 : decode cX10_ringsOf 40 = .ok (.invokestatic 99, 3) := by decide +kernel
theorem dX10_ringsOf_43 : decode cX10_ringsOf 43 = .ok (.ifCond .ge 188, 3) := by decide +kernel
theorem dX10_ringsOf_46 : decode cX10_ringsOf 46 = .ok (.iload 4, 2) := by decide +kernel
theorem dX10_ringsOf_48 : decode cX10_ringsOf 48 = .ok (.ifCond .le 36, 3) := by decide +kernel
theorem dX10_ringsOf_51 : decode cX10_ringsOf 51 = .ok (.aload_n 0, 1) := by decide +kernel
theorem dX10_ringsOf_52 : decode cX10_ringsOf 52 = .ok (.iload_n 1, 1) := by decide +kernel
theorem dX10_ringsOf_53 : decode cX10_ringsOf 53 = .ok (.iload 4, 2) := by decide +kernel
theorem dX10_ringsOf_55 : decode cX10_ringsOf 55 = .ok (.iconst 1, 1) := by decide +kernel
theorem dX10_ringsOf_56 : decode cX10_ringsOf 56 = .ok (.isub, 1) := by decide +kernel
theorem dX10_ringsOf_57 : decode cX10_ringsOf 57 = .ok (.iconst 0, 1) := by decide +kernel
theorem dX10_ringsOf_58 : decode cX10_ringsOf 58 = .ok (.invokevirtual 95, 3) := by decide +kernel
theorem dX10_ringsOf_61 : decode cX10_ringsOf 61 = .ok (.iload 5, 2) := by decide +kernel
theorem dX10_ringsOf_63 : decode cX10_ringsOf 63 = .ok (.if_icmp .ne 21, 3) := by decide +kernel
theorem dX10_ringsOf_66 : decode cX10_ringsOf 66 = .ok (.aload_n 0, 1) := by decide +kernel
theorem dX10_ringsOf_67 : decode cX10_ringsOf 67 = .ok (.iload_n 1, 1) := by decide +kernel
theorem dX10_ringsOf_68 : decode cX10_ringsOf 68 = .ok (.iload 4, 2) := by decide +kernel
theorem dX10_ringsOf_70 : decode cX10_ringsOf 70 = .ok (.iconst 1, 1) := by decide +kernel
theorem dX10_ringsOf_71 : decode cX10_ringsOf 71 = .ok (.isub, 1) := by decide +kernel
theorem dX10_ringsOf_72 : decode cX10_ringsOf 72 = .ok (.iconst 1, 1) := by decide +kernel
theorem dX10_ringsOf_73 : decode cX10_ringsOf 73 = .ok (.invokevirtual 95, 3) := by decide +kernel
theorem dX10_ringsOf_76 : decode cX10_ringsOf 76 = .ok (.iload 6, 2) := by decide +kernel
theorem dX10_ringsOf_78 : decode cX10_ringsOf 78 = .ok (.if_icmp .ne 6, 3) := by decide +kernel
theorem dX10_ringsOf_81 : decode cX10_ringsOf 81 = .ok (.goto 150, 3) := by decide +kernel
theorem dX10_ringsOf_84 : decode cX10_ringsOf 84 = .ok (.iconst 0, 1) := by decide +kernel
theorem dX10_ringsOf_85 : decode cX10_ringsOf 85 = .ok (.istore 7, 2) := by decide +kernel
theorem dX10_ringsOf_87 : decode cX10_ringsOf 87 = .ok (.iload 7, 2) := by decide +kernel
theorem dX10_ringsOf_89 : decode cX10_ringsOf 89 = .ok (.aload_n 0, 1) := by decide +kernel
theorem dX10_ringsOf_90 : decode cX10_ringsOf 90 = .ok (.getfield 13, 3) := by decide +kernel
theorem dX10_ringsOf_93 : decode cX10_ringsOf 93 = .ok (.iload_n 1, 1) := by decide +kernel
theorem dX10_ringsOf_94 : decode cX10_ringsOf 94 = .ok (.iaload, 1) := by decide +kernel
theorem dX10_ringsOf_95 : decode cX10_ringsOf 95 = .ok (.if_icmp .ge 136, 3) := by decide +kernel
theorem dX10_ringsOf_98 : decode cX10_ringsOf 98 = .ok (.aload_n 0, 1) := by decide +kernel
theorem dX10_ringsOf_99 : decode cX10_ringsOf 99 = .ok (.iload_n 1, 1) := by decide +kernel
theorem dX10_ringsOf_100 : decode cX10_ringsOf 100 = .ok (.iload 7, 2) := by decide +kernel
theorem dX10_ringsOf_102 : decode cX10_ringsOf 102 = .ok (.iconst 1, 1) := by decide +kernel
theorem dX10_ringsOf_103 : decode cX10_ringsOf 103 = .ok (.invokevirtual 95, 3) := by decide +kernel
theorem dX10_ringsOf_106 : decode cX10_ringsOf 106 = .ok (.istore 8, 2) := by decide +kernel
theorem dX10_ringsOf_108 : decode cX10_ringsOf 108 = .ok (.aload_n 0, 1) := by decide +kernel
theorem dX10_ringsOf_109 : decode cX10_ringsOf 109 = .ok (.iload_n 1, 1) := by decide +kernel
theorem dX10_ringsOf_110 : decode cX10_ringsOf 110 = .ok (.iload 7, 2) := by decide +kernel
theorem dX10_ringsOf_112 : decode cX10_ringsOf 112 = .ok (.iconst 0, 1) := by decide +kernel
theorem dX10_ringsOf_113 : decode cX10_ringsOf 113 = .ok (.invokevirtual 95, 3) := by decide +kernel
theorem dX10_ringsOf_116 : decode cX10_ringsOf 116 = .ok (.iload 6, 2) := by decide +kernel
theorem dX10_ringsOf_118 : decode cX10_ringsOf 118 = .ok (.if_icmp .ne 107, 3) := by decide +kernel
theorem dX10_ringsOf_121 : decode cX10_ringsOf 121 = .ok (.iload 7, 2) := by decide +kernel
theorem dX10_ringsOf_123 : decode cX10_ringsOf 123 = .ok (.ifCond .le 36, 3) := by decide +kernel
theorem dX10_ringsOf_126 : decode cX10_ringsOf 126 = .ok (.aload_n 0, 1) := by decide +kernel
theorem dX10_ringsOf_127 : decode cX10_ringsOf 127 = .ok (.iload_n 1, 1) := by decide +kernel
theorem dX10_ringsOf_128 : decode cX10_ringsOf 128 = .ok (.iload 7, 2) := by decide +kernel
theorem dX10_ringsOf_130 : decode cX10_ringsOf 130 = .ok (.iconst 1, 1) := by decide +kernel
theorem dX10_ringsOf_131 : decode cX10_ringsOf 131 = .ok (.isub, 1) := by decide +kernel
theorem dX10_ringsOf_132 : decode cX10_ringsOf 132 = .ok (.iconst 0, 1) := by decide +kernel
theorem dX10_ringsOf_133 : decode cX10_ringsOf 133 = .ok (.invokevirtual 95, 3) := by decide +kernel
theorem dX10_ringsOf_136 : decode cX10_ringsOf 136 = .ok (.iload 6, 2) := by decide +kernel
theorem dX10_ringsOf_138 : decode cX10_ringsOf 138 = .ok (.if_icmp .ne 21, 3) := by decide +kernel
theorem dX10_ringsOf_141 : decode cX10_ringsOf 141 = .ok (.aload_n 0, 1) := by decide +kernel
theorem dX10_ringsOf_142 : decode cX10_ringsOf 142 = .ok (.iload_n 1, 1) := by decide +kernel
theorem dX10_ringsOf_143 : decode cX10_ringsOf 143 = .ok (.iload 7, 2) := by decide +kernel
theorem dX10_ringsOf_145 : decode cX10_ringsOf 145 = .ok (.iconst 1, 1) := by decide +kernel
theorem dX10_ringsOf_146 : decode cX10_ringsOf 146 = .ok (.isub, 1) := by decide +kernel
theorem dX10_ringsOf_147 : decode cX10_ringsOf 147 = .ok (.iconst 1, 1) := by decide +kernel
theorem dX10_ringsOf_148 : decode cX10_ringsOf 148 = .ok (.invokevirtual 95, 3) := by decide +kernel
theorem dX10_ringsOf_151 : decode cX10_ringsOf 151 = .ok (.iload 8, 2) := by decide +kernel
theorem dX10_ringsOf_153 : decode cX10_ringsOf 153 = .ok (.if_icmp .ne 6, 3) := by decide +kernel
theorem dX10_ringsOf_156 : decode cX10_ringsOf 156 = .ok (.goto 69, 3) := by decide +kernel
theorem dX10_ringsOf_159 : decode cX10_ringsOf 159 = .ok (.iload 5, 2) := by decide +kernel
theorem dX10_ringsOf_161 : decode cX10_ringsOf 161 = .ok (.iload 8, 2) := by decide +kernel
theorem dX10_ringsOf_163 : decode cX10_ringsOf 163 = .ok (.invokestatic 99, 3) := by decide +kernel
theorem dX10_ringsOf_166 : decode cX10_ringsOf 166 = .ok (.ifCond .ge 59, 3) := by decide +kernel
theorem dX10_ringsOf_169 : decode cX10_ringsOf 169 = .ok (.iload 8, 2) := by decide +kernel
theorem dX10_ringsOf_171 : decode cX10_ringsOf 171 = .ok (.iload 6, 2) := by decide +kernel
theorem dX10_ringsOf_173 : decode cX10_ringsOf 173 = .ok (.if_icmp .eq 52, 3) := by decide +kernel
theorem dX10_ringsOf_176 : decode cX10_ringsOf 176 = .ok (.aload_n 0, 1) := by decide +kernel
theorem dX10_ringsOf_177 : decode cX10_ringsOf 177 = .ok (.iload_n 1, 1) := by decide +kernel
theorem dX10_ringsOf_178 : decode cX10_ringsOf 178 = .ok (.iload 8, 2) := by decide +kernel
theorem dX10_ringsOf_180 : decode cX10_ringsOf 180 = .ok (.iload 5, 2) := by decide +kernel
theorem dX10_ringsOf_182 : decode cX10_ringsOf 182 = .ok (.invokevirtual 216, 3) := by decide +kernel
theorem dX10_ringsOf_185 : decode cX10_ringsOf 185 = .ok (.ifCond .ne 6, 3) := by decide +kernel
theorem dX10_ringsOf_188 : decode cX10_ringsOf 188 = .ok (.goto 37, 3) := by decide +kernel
theorem dX10_ringsOf_191 : decode cX10_ringsOf 191 = .ok (.iload_n 3, 1) := by decide +kernel
theorem dX10_ringsOf_192 : decode cX10_ringsOf 192 = .ok (.iload_n 2, 1) := by decide +kernel
theorem dX10_ringsOf_193 : decode cX10_ringsOf 193 = .ok (.if_icmp .ne 29, 3) := by decide +kernel
theorem dX10_ringsOf_196 : decode cX10_ringsOf 196 = .ok (.aload_n 0, 1) := by decide +kernel
theorem dX10_ringsOf_197 : decode cX10_ringsOf 197 = .ok (.getfield 84, 3) := by decide +kernel
theorem dX10_ringsOf_200 : decode cX10_ringsOf 200 = .ok (.iconst 0, 1) := by decide +kernel
theorem dX10_ringsOf_201 : decode cX10_ringsOf 201 = .ok (.iload 5, 2) := by decide +kernel
theorem dX10_ringsOf_203 : decode cX10_ringsOf 203 = .ok (.iastore, 1) := by decide +kernel
theorem dX10_ringsOf_204 : decode cX10_ringsOf 204 = .ok (.aload_n 0, 1) := by decide +kernel
theorem dX10_ringsOf_205 : decode cX10_ringsOf 205 = .ok (.getfield 84, 3) := by decide +kernel
theorem dX10_ringsOf_208 : decode cX10_ringsOf 208 = .ok (.iconst 1, 1) := by decide +kernel
theorem dX10_ringsOf_209 : decode cX10_ringsOf 209 = .ok (.iload 6, 2) := by decide +kernel
theorem dX10_ringsOf_211 : decode cX10_ringsOf 211 = .ok (.iastore, 1) := by decide +kernel
theorem dX10_ringsOf_212 : decode cX10_ringsOf 212 = .ok (.aload_n 0, 1) := by decide +kernel
theorem dX10_ringsOf_213 : decode cX10_ringsOf 213 = .ok (.getfield 84, 3) := by decide +kernel
theorem dX10_ringsOf_216 : decode cX10_ringsOf 216 = .ok (.iconst 2, 1) := by decide +kernel
theorem dX10_ringsOf_217 : decode cX10_ringsOf 217 = .ok (.iload 8, 2) := by decide +kernel
theorem dX10_ringsOf_219 : decode cX10_ringsOf 219 = .ok (.iastore, 1) := by decide +kernel
theorem dX10_ringsOf_220 : decode cX10_ringsOf 220 = .ok (.iload_n 3, 1) := by decide +kernel
theorem dX10_ringsOf_221 : decode cX10_ringsOf 221 = .ok (.ireturn, 1) := by decide +kernel
theorem dX10_ringsOf_222 : decode cX10_ringsOf 222 = .ok (.iinc 3 1, 3) := by decide +kernel
theorem dX10_ringsOf_225 : decode cX10_ringsOf 225 = .ok (.iinc 7 1, 3) := by decide +kernel
theorem dX10_ringsOf_228 : decode cX10_ringsOf 228 = .ok (.goto (-141), 3) := by decide +kernel
theorem dX10_ringsOf_231 : decode cX10_ringsOf 231 = .ok (.iinc 4 1, 3) := by decide +kernel
theorem dX10_ringsOf_234 : decode cX10_ringsOf 234 = .ok (.goto (-229), 3) := by decide +kernel
theorem dX10_ringsOf_237 : decode cX10_ringsOf 237 = .ok (.iload_n 2, 1) := by decide +kernel
theorem dX10_ringsOf_238 : decode cX10_ringsOf 238 = .ok (.iconst (-1), 1) := by decide +kernel
theorem dX10_ringsOf_239 : decode cX10_ringsOf 239 = .ok (.if_icmp .ne 7, 3) := by decide +kernel
theorem dX10_ringsOf_242 : decode cX10_ringsOf 242 = .ok (.iload_n 3, 1) := by decide +kernel
theorem dX10_ringsOf_243 : decode cX10_ringsOf 243 = .ok (.goto 4, 3) := by decide +kernel
theorem dX10_ringsOf_246 : decode cX10_ringsOf 246 = .ok (.iconst (-1), 1) := by decide +kernel
theorem dX10_ringsOf_247 : decode cX10_ringsOf 247 = .ok (.ireturn, 1) := by decide +kernel
theorem dX10_isRinged_0 : decode cX10_isRinged 0 = .ok (.aload_n 0, 1) := by decide +kernel
theorem dX10_isRinged_1 : decode cX10_isRinged 1 = .ok (.iload_n 1, 1) := by decide +kernel
theorem dX10_isRinged_2 : decode cX10_isRinged 2 = .ok (.invokevirtual 107, 3) := by decide +kernel
theorem dX10_isRinged_5 : decode cX10_isRinged 5 = .ok (.ifCond .eq 17, 3) := by decide +kernel
theorem dX10_isRinged_8 : decode cX10_isRinged 8 = .ok (.aload_n 0, 1) := by decide +kernel
theorem dX10_isRinged_9 : decode cX10_isRinged 9 = .ok (.getfield 7, 3) := by decide +kernel
theorem dX10_isRinged_12 : decode cX10_isRinged 12 = .ok (.iload_n 1, 1) := by decide +kernel
theorem dX10_isRinged_13 : decode cX10_isRinged 13 = .ok (.iaload, 1) := by decide +kernel
theorem dX10_isRinged_14 : decode cX10_isRinged 14 = .ok (.iconst 1, 1) := by decide +kernel
theorem dX10_isRinged_15 : decode cX10_isRinged 15 = .ok (.if_icmp .le 7, 3) := by decide +kernel
theorem dX10_isRinged_18 : decode cX10_isRinged 18 = .ok (.iconst 1, 1) := by decide +kernel
theorem dX10_isRinged_19 : decode cX10_isRinged 19 = .ok (.goto 4, 3) := by decide +kernel
theorem dX10_isRinged_22 : decode cX10_isRinged 22 = .ok (.iconst 0, 1) := by decide +kernel
theorem dX10_isRinged_23 : decode cX10_isRinged 23 = .ok (.ireturn, 1) := by decide +kernel
theorem dX10_rings_0 : decode cX10_rings 0 = .ok (.aload_n 0, 1) := by decide +kernel
theorem dX10_rings_1 : decode cX10_rings 1 = .ok (.iload_n 1, 1) := by decide +kernel
theorem dX10_rings_2 : decode cX10_rings 2 = .ok (.invokevirtual 219, 3) := by decide +kernel
theorem dX10_rings_5 : decode cX10_rings 5 = .ok (.ifCond .eq 12, 3) := by decide +kernel
theorem dX10_rings_8 : decode cX10_rings 8 = .ok (.aload_n 0, 1) := by decide +kernel
theorem dX10_rings_9 : decode cX10_rings 9 = .ok (.iload_n 1, 1) := by decide +kernel
theorem dX10_rings_10 : decode cX10_rings 10 = .ok (.iconst (-1), 1) := by decide +kernel
theorem dX10_rings_11 : decode cX10_rings 11 = .ok (.invokevirtual 222, 3) := by decide +kernel
theorem dX10_rings_14 : decode cX10_rings 14 = .ok (.goto 4, 3) := by decide +kernel
theorem dX10_rings_17 : decode cX10_rings 17 = .ok (.iconst (-1), 1) := by decide +kernel
theorem dX10_rings_18 : decode cX10_rings 18 = .ok (.ireturn, 1) := by decide +kernel
theorem dX10_ring_0 : decode cX10_ring 0 = .ok (.aload_n 0, 1) := by decide +kernel
theorem dX10_ring_1 : decode cX10_ring 1 = .ok (.iload_n 1, 1) := by decide +kernel
theorem dX10_ring_2 : decode cX10_ring 2 = .ok (.invokevirtual 219, 3) := by decide +kernel
theorem dX10_ring_5 : decode cX10_ring 5 = .ok (.ifCond .eq 35, 3) := by decide +kernel
theorem dX10_ring_8 : decode cX10_ring 8 = .ok (.iload_n 2, 1) := by decide +kernel
theorem dX10_ring_9 : decode cX10_ring 9 = .ok (.ifCond .lt 31, 3) := by decide +kernel
theorem dX10_ring_12 : decode cX10_ring 12 = .ok (.iload_n 3, 1) := by decide +kernel
theorem dX10_ring_13 : decode cX10_ring 13 = .ok (.iconst 0, 1) := by decide +kernel
theorem dX10_ring_14 : decode cX10_ring 14 = .ok (.iconst 2, 1) := by decide +kernel
theorem dX10_ring_15 : decode cX10_ring 15 = .ok (.invokestatic 88, 3) := by decide +kernel
theorem dX10_ring_18 : decode cX10_ring 18 = .ok (.ifCond .eq 22, 3) := by decide +kernel
theorem dX10_ring_21 : decode cX10_ring 21 = .ok (.aload_n 0, 1) := by decide +kernel
theorem dX10_ring_22 : decode cX10_ring 22 = .ok (.iload_n 1, 1) := by decide +kernel
theorem dX10_ring_23 : decode cX10_ring 23 = .ok (.iload_n 2, 1) := by decide +kernel
theorem dX10_ring_24 : decode cX10_ring 24 = .ok (.invokevirtual 222, 3) := by decide +kernel
theorem dX10_ring_27 : decode cX10_ring 27 = .ok (.iconst (-1), 1) := by decide +kernel
theorem dX10_ring_28 : decode cX10_ring 28 = .ok (.if_icmp .eq 12, 3) := by decide +kernel
theorem dX10_ring_31 : decode cX10_ring 31 = .ok (.aload_n 0, 1) := by decide +kernel
theorem dX10_ring_32 : decode cX10_ring 32 = .ok (.getfield 84, 3) := by decide +kernel
theorem dX10_ring_35 : decode cX10_ring 35 = .ok (.iload_n 3, 1) := by decide +kernel
theorem dX10_ring_36 : decode cX10_ring 36 = .ok (.iaload, 1) := by decide +kernel
theorem dX10_ring_37 : decode cX10_ring 37 = .ok (.goto 4, 3) := by decide +kernel
theorem dX10_ring_40 : decode cX10_ring 40 = .ok (.iconst 0, 1) := by decide +kernel
theorem dX10_ring_41 : decode cX10_ring 41 = .ok (.ireturn, 1) := by decide +kernel
theorem dX10_count_0 : decode cX10_count 0 = .ok (.iload_n 1, 1) := by decide +kernel
theorem dX10_count_1 : decode cX10_count 1 = .ok (.bipush 10, 2) := by decide +kernel
theorem dX10_count_3 : decode cX10_count 3 = .ok (.isub, 1) := by decide +kernel
theorem dX10_count_4 : decode cX10_count 4 = .ok (.iconst 0, 1) := by decide +kernel
theorem dX10_count_5 : decode cX10_count 5 = .ok (.aload_n 0, 1) := by decide +kernel
theorem dX10_count_6 : decode cX10_count 6 = .ok (.getfield 119, 3) := by decide +kernel
theorem dX10_count_9 : decode cX10_count 9 = .ok (.iconst 1, 1) := by decide +kernel
theorem dX10_count_10 : decode cX10_count 10 = .ok (.isub, 1) := by decide +kernel
theorem dX10_count_11 : decode cX10_count 11 = .ok (.invokestatic 88, 3) := by decide +kernel
theorem dX10_count_14 : decode cX10_count 14 = .ok (.ifCond .eq 13, 3) := by decide +kernel
theorem dX10_count_17 : decode cX10_count 17 = .ok (.aload_n 0, 1) := by decide +kernel
theorem dX10_count_18 : decode cX10_count 18 = .ok (.getfield 34, 3) := by decide +kernel
theorem dX10_count_21 : decode cX10_count 21 = .ok (.iload_n 1, 1) := by decide +kernel
theorem dX10_count_22 : decode cX10_count 22 = .ok (.bipush 10, 2) := by decide +kernel
theorem dX10_count_24 : decode cX10_count 24 = .ok (.isub, 1) := by decide +kernel
theorem dX10_count_25 : decode cX10_count 25 = .ok (.iaload, 1) := by decide +kernel
theorem dX10_count_26 : decode cX10_count 26 = .ok (.ireturn, 1) := by decide +kernel
theorem dX10_count_27 : decode cX10_count 27 = .ok (.iload_n 1, 1) := by decide +kernel
theorem dX10_count_28 : decode cX10_count 28 = .ok (.tableswitch 69 0 4 #[36, 41, 46, 51, 56], 36) := by decide +kernel
theorem dX10_count_64 : decode cX10_count 64 = .ok (.aload_n 0, 1) := by decide +kernel
theorem dX10_count_65 : decode cX10_count 65 = .ok (.getfield 119, 3) := by decide +kernel
theorem dX10_count_68 : decode cX10_count 68 = .ok (.ireturn, 1) := by decide +kernel
theorem dX10_count_69 : decode cX10_count 69 = .ok (.aload_n 0, 1) := by decide +kernel
theorem dX10_count_70 : decode cX10_count 70 = .ok (.getfield 92, 3) := by decide +kernel
theorem dX10_count_73 : decode cX10_count 73 = .ok (.ireturn, 1) := by decide +kernel
theorem dX10_count_74 : decode cX10_count 74 = .ok (.aload_n 0, 1) := by decide +kernel
theorem dX10_count_75 : decode cX10_count 75 = .ok (.getfield 46, 3) := by decide +kernel
theorem dX10_count_78 : decode cX10_count 78 = .ok (.ireturn, 1) := by decide +kernel
theorem dX10_count_79 : decode cX10_count 79 = .ok (.aload_n 0, 1) := by decide +kernel
theorem dX10_count_80 : decode cX10_count 80 = .ok (.getfield 63, 3) := by decide +kernel
theorem dX10_count_83 : decode cX10_count 83 = .ok (.ireturn, 1) := by decide +kernel
theorem dX10_count_84 : decode cX10_count 84 = .ok (.aload_n 0, 1) := by decide +kernel
theorem dX10_count_85 : decode cX10_count 85 = .ok (.invokevirtual 166, 3) := by decide +kernel
theorem dX10_count_88 : decode cX10_count 88 = .ok (.ifCond .eq 7, 3) := by decide +kernel
theorem dX10_count_91 : decode cX10_count 91 = .ok (.iconst 1, 1) := by decide +kernel
theorem dX10_count_92 : decode cX10_count 92 = .ok (.goto 4, 3) := by decide +kernel
theorem dX10_count_95 : decode cX10_count 95 = .ok (.iconst 0, 1) := by decide +kernel
theorem dX10_count_96 : decode cX10_count 96 = .ok (.ireturn, 1) := by decide +kernel
theorem dX10_count_97 : decode cX10_count 97 = .ok (.iconst (-1), 1) := by decide +kernel
theorem dX10_count_98 : decode cX10_count 98 = .ok (.ireturn, 1) := by decide +kernel
theorem dJ6_compare_7cf53_0 : decode cJ6_compare_7cf53 0 = .ok (.iload_n 0, 1) := by decide +kernel
theorem dJ6_compare_7cf53_1 : decode cJ6_compare_7cf53 1 = .ok (.iload_n 1, 1) := by decide +kernel
theorem dJ6_compare_7cf53_2 : decode cJ6_compare_7cf53 2 = .ok (.if_icmp .ge 7, 3) := by decide +kernel
theorem dJ6_compare_7cf53_5 : decode cJ6_compare_7cf53 5 = .ok (.iconst (-1), 1) := by decide +kernel
theorem dJ6_compare_7cf53_6 : decode cJ6_compare_7cf53 6 = .ok (.goto 13, 3) := by decide +kernel
theorem dJ6_compare_7cf53_9 : decode cJ6_compare_7cf53 9 = .ok (.iload_n 0, 1) := by decide +kernel
theorem dJ6_compare_7cf53_10 : decode cJ6_compare_7cf53 10 = .ok (.iload_n 1, 1) := by decide +kernel
theorem dJ6_compare_7cf53_11 : decode cJ6_compare_7cf53 11 = .ok (.if_icmp .ne 7, 3) := by decide +kernel
theorem dJ6_compare_7cf53_14 : decode cJ6_compare_7cf53 14 = .ok (.iconst 0, 1) := by decide +kernel
theorem dJ6_compare_7cf53_15 : decode cJ6_compare_7cf53 15 = .ok (.goto 4, 3) := by decide +kernel
theorem dJ6_compare_7cf53_18 : decode cJ6_compare_7cf53 18 = .ok (.iconst 1, 1) := by decide +kernel
theorem dJ6_compare_7cf53_19 : decode cJ6_compare_7cf53 19 = .ok (.ireturn, 1) := by decide +kernel
theorem dJ6_bitCount_0f7a4_0 : decode cJ6_bitCount_0f7a4 0 = .ok (.iload_n 0, 1) := by decide +kernel
theorem dJ6_bitCount_0f7a4_1 : decode cJ6_bitCount_0f7a4 1 = .ok (.iload_n 0, 1) := by decide +kernel
theorem dJ6_bitCount_0f7a4_2 : decode cJ6_bitCount_0f7a4 2 = .ok (.iconst 1, 1) := by decide +kernel
theorem dJ6_bitCount_0f7a4_3 : decode cJ6_bitCount_0f7a4 3 = .ok (.iushr, 1) := by decide +kernel
theorem dJ6_bitCount_0f7a4_4 : decode cJ6_bitCount_0f7a4 4 = .ok (.ldc_w 265, 3) := by decide +kernel
theorem dJ6_bitCount_0f7a4_7 : decode cJ6_bitCount_0f7a4 7 = .ok (.iand, 1) := by decide +kernel
theorem dJ6_bitCount_0f7a4_8 : decode cJ6_bitCount_0f7a4 8 = .ok (.isub, 1) := by decide +kernel
theorem dJ6_bitCount_0f7a4_9 : decode cJ6_bitCount_0f7a4 9 = .ok (.istore_n 0, 1) := by decide +kernel
theorem dJ6_bitCount_0f7a4_10 : decode cJ6_bitCount_0f7a4 10 = .ok (.iload_n 0, 1) := by decide +kernel
theorem dJ6_bitCount_0f7a4_11 : decode cJ6_bitCount_0f7a4 11 = .ok (.ldc_w 266, 3) := by decide +kernel
theorem dJ6_bitCount_0f7a4_14 : decode cJ6_bitCount_0f7a4 14 = .ok (.iand, 1) := by decide +kernel
theorem dJ6_bitCount_0f7a4_15 : decode cJ6_bitCount_0f7a4 15 = .ok (.iload_n 0, 1) := by decide +kernel
theorem dJ6_bitCount_0f7a4_16 : decode cJ6_bitCount_0f7a4 16 = .ok (.iconst 2, 1) := by decide +kernel
theorem dJ6_bitCount_0f7a4_17 : decode cJ6_bitCount_0f7a4 17 = .ok (.iushr, 1) := by decide +kernel
theorem dJ6_bitCount_0f7a4_18 : decode cJ6_bitCount_0f7a4 18 = .ok (.ldc_w 266, 3) := by decide +kernel
theorem dJ6_bitCount_0f7a4_21 : decode cJ6_bitCount_0f7a4 21 = .ok (.iand, 1) := by decide +kernel
theorem dJ6_bitCount_0f7a4_22 : decode cJ6_bitCount_0f7a4 22 = .ok (.iadd, 1) := by decide +kernel
theorem dJ6_bitCount_0f7a4_23 : decode cJ6_bitCount_0f7a4 23 = .ok (.istore_n 0, 1) := by decide +kernel
theorem dJ6_bitCount_0f7a4_24 : decode cJ6_bitCount_0f7a4 24 = .ok (.iload_n 0, 1) := by decide +kernel
theorem dJ6_bitCount_0f7a4_25 : decode cJ6_bitCount_0f7a4 25 = .ok (.iload_n 0, 1) := by decide +kernel
theorem dJ6_bitCount_0f7a4_26 : decode cJ6_bitCount_0f7a4 26 = .ok (.iconst 4, 1) := by decide +kernel
theorem dJ6_bitCount_0f7a4_27 : decode cJ6_bitCount_0f7a4 27 = .ok (.iushr, 1) := by decide +kernel
theorem dJ6_bitCount_0f7a4_28 : decode cJ6_bitCount_0f7a4 28 = .ok (.iadd, 1) := by decide +kernel
theorem dJ6_bitCount_0f7a4_29 : decode cJ6_bitCount_0f7a4 29 = .ok (.ldc_w 267, 3) := by decide +kernel
theorem dJ6_bitCount_0f7a4_32 : decode cJ6_bitCount_0f7a4 32 = .ok (.iand, 1) := by decide +kernel
theorem dJ6_bitCount_0f7a4_33 : decode cJ6_bitCount_0f7a4 33 = .ok (.istore_n 0, 1) := by decide +kernel
theorem dJ6_bitCount_0f7a4_34 : decode cJ6_bitCount_0f7a4 34 = .ok (.iload_n 0, 1) := by decide +kernel
theorem dJ6_bitCount_0f7a4_35 : decode cJ6_bitCount_0f7a4 35 = .ok (.iload_n 0, 1) := by decide +kernel
theorem dJ6_bitCount_0f7a4_36 : decode cJ6_bitCount_0f7a4 36 = .ok (.bipush 8, 2) := by decide +kernel
theorem dJ6_bitCount_0f7a4_38 : decode cJ6_bitCount_0f7a4 38 = .ok (.iushr, 1) := by decide +kernel
theorem dJ6_bitCount_0f7a4_39 : decode cJ6_bitCount_0f7a4 39 = .ok (.iadd, 1) := by decide +kernel
theorem dJ6_bitCount_0f7a4_40 : decode cJ6_bitCount_0f7a4 40 = .ok (.istore_n 0, 1) := by decide +kernel
theorem dJ6_bitCount_0f7a4_41 : decode cJ6_bitCount_0f7a4 41 = .ok (.iload_n 0, 1) := by decide +kernel
theorem dJ6_bitCount_0f7a4_42 : decode cJ6_bitCount_0f7a4 42 = .ok (.iload_n 0, 1) := by decide +kernel
theorem dJ6_bitCount_0f7a4_43 : decode cJ6_bitCount_0f7a4 43 = .ok (.bipush 16, 2) := by decide +kernel
theorem dJ6_bitCount_0f7a4_45 : decode cJ6_bitCount_0f7a4 45 = .ok (.iushr, 1) := by decide +kernel
theorem dJ6_bitCount_0f7a4_46 : decode cJ6_bitCount_0f7a4 46 = .ok (.iadd, 1) := by decide +kernel
theorem dJ6_bitCount_0f7a4_47 : decode cJ6_bitCount_0f7a4 47 = .ok (.istore_n 0, 1) := by decide +kernel
theorem dJ6_bitCount_0f7a4_48 : decode cJ6_bitCount_0f7a4 48 = .ok (.iload_n 0, 1) := by decide +kernel
theorem dJ6_bitCount_0f7a4_49 : decode cJ6_bitCount_0f7a4 49 = .ok (.bipush 63, 2) := by decide +kernel
theorem dJ6_bitCount_0f7a4_51 : decode cJ6_bitCount_0f7a4 51 = .ok (.iand, 1) := by decide +kernel
theorem dJ6_bitCount_0f7a4_52 : decode cJ6_bitCount_0f7a4 52 = .ok (.ireturn, 1) := by decide +kernel
theorem dJ13_bitCount_95d88_0 : decode cJ13_bitCount_95d88 0 = .ok (.lload_n 0, 1) := by decide +kernel
theorem dJ13_bitCount_95d88_1 : decode cJ13_bitCount_95d88 1 = .ok (.lload_n 0, 1) := by decide +kernel
theorem dJ13_bitCount_95d88_2 : decode cJ13_bitCount_95d88 2 = .ok (.iconst 1, 1) := by decide +kernel
theorem dJ13_bitCount_95d88_3 : decode cJ13_bitCount_95d88 3 = .ok (.lushr, 1) := by decide +kernel
theorem dJ13_bitCount_95d88_4 : decode cJ13_bitCount_95d88 4 = .ok (.ldc2_w 314, 3) := by decide +kernel
theorem dJ13_bitCount_95d88_7 : decode cJ13_bitCount_95d88 7 = .ok (.land, 1) := by decide +kernel
theorem dJ13_bitCount_95d88_8 : decode cJ13_bitCount_95d88 8 = .ok (.lsub, 1) := by decide +kernel
theorem dJ13_bitCount_95d88_9 : decode cJ13_bitCount_95d88 9 = .ok (.lstore_n 0, 1) := by decide +kernel
theorem dJ13_bitCount_95d88_10 : decode cJ13_bitCount_95d88 10 = .ok (.lload_n 0, 1) := by decide +kernel
theorem dJ13_bitCount_95d88_11 : decode cJ13_bitCount_95d88 11 = .ok (.ldc2_w 316, 3) := by decide +kernel
theorem dJ13_bitCount_95d88_14 : decode cJ13_bitCount_95d88 14 = .ok (.land, 1) := by decide +kernel
theorem dJ13_bitCount_95d88_15 : decode cJ13_bitCount_95d88 15 = .ok (.lload_n 0, 1) := by decide +kernel
theorem dJ13_bitCount_95d88_16 : decode cJ13_bitCount_95d88 16 = .ok (.iconst 2, 1) := by decide +kernel
theorem dJ13_bitCount_95d88_17 : decode cJ13_bitCount_95d88 17 = .ok (.lushr, 1) := by decide +kernel
theorem dJ13_bitCount_95d88_18 : decode cJ13_bitCount_95d88 18 = .ok (.ldc2_w 316, 3) := by decide +kernel
theorem dJ13_bitCount_95d88_21 : decode cJ13_bitCount_95d88 21 = .ok (.land, 1) := by decide +kernel
theorem dJ13_bitCount_95d88_22 : decode cJ13_bitCount_95d88 22 = .ok (.ladd, 1) := by decide +kernel
theorem dJ13_bitCount_95d88_23 : decode cJ13_bitCount_95d88 23 = .ok (.lstore_n 0, 1) := by decide +kernel
theorem dJ13_bitCount_95d88_24 : decode cJ13_bitCount_95d88 24 = .ok (.lload_n 0, 1) := by decide +kernel
theorem dJ13_bitCount_95d88_25 : decode cJ13_bitCount_95d88 25 = .ok (.lload_n 0, 1) := by decide +kernel
theorem dJ13_bitCount_95d88_26 : decode cJ13_bitCount_95d88 26 = .ok (.iconst 4, 1) := by decide +kernel
theorem dJ13_bitCount_95d88_27 : decode cJ13_bitCount_95d88 27 = .ok (.lushr, 1) := by decide +kernel
theorem dJ13_bitCount_95d88_28 : decode cJ13_bitCount_95d88 28 = .ok (.ladd, 1) := by decide +kernel
theorem dJ13_bitCount_95d88_29 : decode cJ13_bitCount_95d88 29 = .ok (.ldc2_w 318, 3) := by decide +kernel
theorem dJ13_bitCount_95d88_32 : decode cJ13_bitCount_95d88 32 = .ok (.land, 1) := by decide +kernel
theorem dJ13_bitCount_95d88_33 : decode cJ13_bitCount_95d88 33 = .ok (.lstore_n 0, 1) := by decide +kernel
theorem dJ13_bitCount_95d88_34 : decode cJ13_bitCount_95d88 34 = .ok (.lload_n 0, 1) := by decide +kernel
theorem dJ13_bitCount_95d88_35 : decode cJ13_bitCount_95d88 35 = .ok (.lload_n 0, 1) := by decide +kernel
theorem dJ13_bitCount_95d88_36 : decode cJ13_bitCount_95d88 36 = .ok (.bipush 8, 2) := by decide +kernel
theorem dJ13_bitCount_95d88_38 : decode cJ13_bitCount_95d88 38 = .ok (.lushr, 1) := by decide +kernel
theorem dJ13_bitCount_95d88_39 : decode cJ13_bitCount_95d88 39 = .ok (.ladd, 1) := by decide +kernel
theorem dJ13_bitCount_95d88_40 : decode cJ13_bitCount_95d88 40 = .ok (.lstore_n 0, 1) := by decide +kernel
theorem dJ13_bitCount_95d88_41 : decode cJ13_bitCount_95d88 41 = .ok (.lload_n 0, 1) := by decide +kernel
theorem dJ13_bitCount_95d88_42 : decode cJ13_bitCount_95d88 42 = .ok (.lload_n 0, 1) := by decide +kernel
theorem dJ13_bitCount_95d88_43 : decode cJ13_bitCount_95d88 43 = .ok (.bipush 16, 2) := by decide +kernel
theorem dJ13_bitCount_95d88_45 : decode cJ13_bitCount_95d88 45 = .ok (.lushr, 1) := by decide +kernel
theorem dJ13_bitCount_95d88_46 : decode cJ13_bitCount_95d88 46 = .ok (.ladd, 1) := by decide +kernel
theorem dJ13_bitCount_95d88_47 : decode cJ13_bitCount_95d88 47 = .ok (.lstore_n 0, 1) := by decide +kernel
theorem dJ13_bitCount_95d88_48 : decode cJ13_bitCount_95d88 48 = .ok (.lload_n 0, 1) := by decide +kernel
theorem dJ13_bitCount_95d88_49 : decode cJ13_bitCount_95d88 49 = .ok (.lload_n 0, 1) := by decide +kernel
theorem dJ13_bitCount_95d88_50 : decode cJ13_bitCount_95d88 50 = .ok (.bipush 32, 2) := by decide +kernel
theorem dJ13_bitCount_95d88_52 : decode cJ13_bitCount_95d88 52 = .ok (.lushr, 1) := by decide +kernel
theorem dJ13_bitCount_95d88_53 : decode cJ13_bitCount_95d88 53 = .ok (.ladd, 1) := by decide +kernel
theorem dJ13_bitCount_95d88_54 : decode cJ13_bitCount_95d88 54 = .ok (.lstore_n 0, 1) := by decide +kernel
theorem dJ13_bitCount_95d88_55 : decode cJ13_bitCount_95d88 55 = .ok (.lload_n 0, 1) := by decide +kernel
theorem dJ13_bitCount_95d88_56 : decode cJ13_bitCount_95d88 56 = .ok (.l2i, 1) := by decide +kernel
theorem dJ13_bitCount_95d88_57 : decode cJ13_bitCount_95d88 57 = .ok (.bipush 127, 2) := by decide +kernel
theorem dJ13_bitCount_95d88_59 : decode cJ13_bitCount_95d88 59 = .ok (.iand, 1) := by decide +kernel
theorem dJ13_bitCount_95d88_60 : decode cJ13_bitCount_95d88 60 = .ok (.ireturn, 1) := by decide +kernel
theorem dJ9_max_7cf53_0 : decode cJ9_max_7cf53 0 = .ok (.iload_n 0, 1) := by decide +kernel
theorem dJ9_max_7cf53_1 : decode cJ9_max_7cf53 1 = .ok (.iload_n 1, 1) := by decide +kernel
theorem dJ9_max_7cf53_2 : decode cJ9_max_7cf53 2 = .ok (.if_icmp .lt 7, 3) := by decide +kernel
theorem dJ9_max_7cf53_5 : decode cJ9_max_7cf53 5 = .ok (.iload_n 0, 1) := by decide +kernel
theorem dJ9_max_7cf53_6 : decode cJ9_max_7cf53 6 = .ok (.goto 4, 3) := by decide +kernel
theorem dJ9_max_7cf53_9 : decode cJ9_max_7cf53 9 = .ok (.iload_n 1, 1) := by decide +kernel
theorem dJ9_max_7cf53_10 : decode cJ9_max_7cf53 10 = .ok (.ireturn, 1) := by decide +kernel
theorem dJ9_min_7cf53_0 : decode cJ9_min_7cf53 0 = .ok (.iload_n 0, 1) := by decide +kernel
theorem dJ9_min_7cf53_1 : decode cJ9_min_7cf53 1 = .ok (.iload_n 1, 1) := by decide +kernel
theorem dJ9_min_7cf53_2 : decode cJ9_min_7cf53 2 = .ok (.if_icmp .gt 7, 3) := by decide +kernel
theorem dJ9_min_7cf53_5 : decode cJ9_min_7cf53 5 = .ok (.iload_n 0, 1) := by decide +kernel
theorem dJ9_min_7cf53_6 : decode cJ9_min_7cf53 6 = .ok (.goto 4, 3) := by decide +kernel
theorem dJ9_min_7cf53_9 : decode cJ9_min_7cf53 9 = .ok (.iload_n 1, 1) := by decide +kernel
theorem dJ9_min_7cf53_10 : decode cJ9_min_7cf53 10 = .ok (.ireturn, 1) := by decide +kernel
theorem dL_law_0 : decode cL_law 0 = .ok (.new 7, 3) := by decide +kernel
theorem dL_law_3 : decode cL_law 3 = .ok (.dup, 1) := by decide +kernel
theorem dL_law_4 : decode cL_law 4 = .ok (.invokespecial 9, 3) := by decide +kernel
theorem dL_law_7 : decode cL_law 7 = .ok (.astore_n 1, 1) := by decide +kernel
theorem dL_law_8 : decode cL_law 8 = .ok (.new 10, 3) := by decide +kernel
theorem dL_law_11 : decode cL_law 11 = .ok (.dup, 1) := by decide +kernel
theorem dL_law_12 : decode cL_law 12 = .ok (.invokespecial 12, 3) := by decide +kernel
theorem dL_law_15 : decode cL_law 15 = .ok (.astore_n 2, 1) := by decide +kernel
theorem dL_law_16 : decode cL_law 16 = .ok (.iconst 0, 1) := by decide +kernel
theorem dL_law_17 : decode cL_law 17 = .ok (.istore_n 3, 1) := by decide +kernel
theorem dL_law_18 : decode cL_law 18 = .ok (.iload_n 3, 1) := by decide +kernel
theorem dL_law_19 : decode cL_law 19 = .ok (.aload_n 0, 1) := by decide +kernel
theorem dL_law_20 : decode cL_law 20 = .ok (.arraylength, 1) := by decide +kernel
theorem dL_law_21 : decode cL_law 21 = .ok (.iconst 5, 1) := by decide +kernel
theorem dL_law_22 : decode cL_law 22 = .ok (.isub, 1) := by decide +kernel
theorem dL_law_23 : decode cL_law 23 = .ok (.if_icmp .gt 952, 3) := by decide +kernel
theorem dL_law_26 : decode cL_law 26 = .ok (.aload_n 0, 1) := by decide +kernel
theorem dL_law_27 : decode cL_law 27 = .ok (.iload_n 3, 1) := by decide +kernel
theorem dL_law_28 : decode cL_law 28 = .ok (.iaload, 1) := by decide +kernel
theorem dL_law_29 : decode cL_law 29 = .ok (.bipush 31, 2) := by decide +kernel
theorem dL_law_31 : decode cL_law 31 = .ok (.iand, 1) := by decide +kernel
theorem dL_law_32 : decode cL_law 32 = .ok (.tableswitch 937 0 25 #[120, 153, 206, 259, 282, 325, 348, 381, 404, 427, 496, 529, 542, 575, 598, 631, 665, 719, 732, 755, 798, 812, 835, 848, 871, 914], 120) := by decide +kernel
theorem dL_law_152 : decode cL_law 152 = .ok (.aload_n 1, 1) := by decide +kernel
theorem dL_law_153 : decode cL_law 153 = .ok (.aload_n 0, 1) := by decide +kernel
theorem dL_law_154 : decode cL_law 154 = .ok (.iload_n 3, 1) := by decide +kernel
theorem dL_law_155 : decode cL_law 155 = .ok (.iconst 1, 1) := by decide +kernel
theorem dL_law_156 : decode cL_law 156 = .ok (.iadd, 1) := by decide +kernel
theorem dL_law_157 : decode cL_law 157 = .ok (.iaload, 1) := by decide +kernel
theorem dL_law_158 : decode cL_law 158 = .ok (.aload_n 0, 1) := by decide +kernel
theorem dL_law_159 : decode cL_law 159 = .ok (.iload_n 3, 1) := by decide +kernel
theorem dL_law_160 : decode cL_law 160 = .ok (.iconst 2, 1) := by decide +kernel
theorem dL_law_161 : decode cL_law 161 = .ok (.iadd, 1) := by decide +kernel
theorem dL_law_162 : decode cL_law 162 = .ok (.iaload, 1) := by decide +kernel
theorem dL_law_163 : decode cL_law 163 = .ok (.invokevirtual 13, 3) := by decide +kernel
theorem dL_law_166 : decode cL_law 166 = .ok (.aload_n 2, 1) := by decide +kernel
theorem dL_law_167 : decode cL_law 167 = .ok (.aload_n 0, 1) := by decide +kernel
theorem dL_law_168 : decode cL_law 168 = .ok (.iload_n 3, 1) := by decide +kernel
theorem dL_law_169 : decode cL_law 169 = .ok (.iconst 1, 1) := by decide +kernel
theorem dL_law_170 : decode cL_law 170 = .ok (.iadd, 1) := by decide +kernel
theorem dL_law_171 : decode cL_law 171 = .ok (.iaload, 1) := by decide +kernel
theorem dL_law_172 : decode cL_law 172 = .ok (.aload_n 0, 1) := by decide +kernel
theorem dL_law_173 : decode cL_law 173 = .ok (.iload_n 3, 1) := by decide +kernel
theorem dL_law_174 : decode cL_law 174 = .ok (.iconst 2, 1) := by decide +kernel
theorem dL_law_175 : decode cL_law 175 = .ok (.iadd, 1) := by decide +kernel
theorem dL_law_176 : decode cL_law 176 = .ok (.iaload, 1) := by decide +kernel
theorem dL_law_177 : decode cL_law 177 = .ok (.invokevirtual 17, 3) := by decide +kernel
theorem dL_law_180 : decode cL_law 180 = .ok (.if_icmp .eq 789, 3) := by decide +kernel
theorem dL_law_183 : decode cL_law 183 = .ok (.iconst 0, 1) := by decide +kernel
theorem dL_law_184 : decode cL_law 184 = .ok (.ireturn, 1) := by decide +kernel
theorem dL_law_185 : decode cL_law 185 = .ok (.aload_n 1, 1) := by decide +kernel
theorem dL_law_186 : decode cL_law 186 = .ok (.aload_n 0, 1) := by decide +kernel
theorem dL_law_187 : decode cL_law 187 = .ok (.iload_n 3, 1) := by decide +kernel
theorem dL_law_188 : decode cL_law 188 = .ok (.iconst 1, 1) := by decide +kernel
theorem dL_law_189 : decode cL_law 189 = .ok (.iadd, 1) := by decide +kernel
theorem dL_law_190 : decode cL_law 190 = .ok (.iaload, 1) := by decide +kernel
theorem dL_law_191 : decode cL_law 191 = .ok (.aload_n 0, 1) := by decide +kernel
theorem dL_law_192 : decode cL_law 192 = .ok (.iload_n 3, 1) := by decide +kernel
theorem dL_law_193 : decode cL_law 193 = .ok (.iconst 2, 1) := by decide +kernel
theorem dL_law_194 : decode cL_law 194 = .ok (.iadd, 1) := by decide +kernel
theorem dL_law_195 : decode cL_law 195 = .ok (.iaload, 1) := by decide +kernel
theorem dL_law_196 : decode cL_law 196 = .ok (.aload_n 0, 1) := by decide +kernel
theorem dL_law_197 : decode cL_law 197 = .ok (.iload_n 3, 1) := by decide +kernel
theorem dL_law_198 : decode cL_law 198 = .ok (.iconst 3, 1) := by decide +kernel
theorem dL_law_199 : decode cL_law 199 = .ok (.iadd, 1) := by decide +kernel
theorem dL_law_200 : decode cL_law 200 = .ok (.iaload, 1) := by decide +kernel
theorem dL_law_201 : decode cL_law 201 = .ok (.aload_n 0, 1) := by decide +kernel
theorem dL_law_202 : decode cL_law 202 = .ok (.iload_n 3, 1) := by decide +kernel
theorem dL_law_203 : decode cL_law 203 = .ok (.iconst 4, 1) := by decide +kernel
theorem dL_law_204 : decode cL_law 204 = .ok (.iadd, 1) := by decide +kernel
theorem dL_law_205 : decode cL_law 205 = .ok (.iaload, 1) := by decide +kernel
theorem dL_law_206 : decode cL_law 206 = .ok (.invokevirtual 18, 3) := by decide +kernel
theorem dL_law_209 : decode cL_law 209 = .ok (.aload_n 2, 1) := by decide +kernel
theorem dL_law_210 : decode cL_law 210 = .ok (.aload_n 0, 1) := by decide +kernel
theorem dL_law_211 : decode cL_law 211 = .ok (.iload_n 3, 1) := by decide +kernel
theorem dL_law_212 : decode cL_law 212 = .ok (.iconst 1, 1) := by decide +kernel
theorem dL_law_213 : decode cL_law 213 = .ok (.iadd, 1) := by decide +kernel
theorem dL_law_214 : decode cL_law 214 = .ok (.iaload, 1) := by decide +kernel
theorem dL_law_215 : decode cL_law 215 = .ok (.aload_n 0, 1) := by decide +kernel
theorem dL_law_216 : decode cL_law 216 = .ok (.iload_n 3, 1) := by decide +kernel
theorem dL_law_217 : decode cL_law 217 = .ok (.iconst 2, 1) := by decide +kernel
theorem dL_law_218 : decode cL_law 218 = .ok (.iadd, 1) := by decide +kernel
theorem dL_law_219 : decode cL_law 219 = .ok (.iaload, 1) := by decide +kernel
theorem dL_law_220 : decode cL_law 220 = .ok (.aload_n 0, 1) := by decide +kernel
theorem dL_law_221 : decode cL_law 221 = .ok (.iload_n 3, 1) := by decide +kernel
theorem dL_law_222 : decode cL_law 222 = .ok (.iconst 3, 1) := by decide +kernel
theorem dL_law_223 : decode cL_law 223 = .ok (.iadd, 1) := by decide +kernel
theorem dL_law_224 : decode cL_law 224 = .ok (.iaload, 1) := by decide +kernel
theorem dL_law_225 : decode cL_law 225 = .ok (.aload_n 0, 1) := by decide +kernel
theorem dL_law_226 : decode cL_law 226 = .ok (.iload_n 3, 1) := by decide +kernel
theorem dL_law_227 : decode cL_law 227 = .ok (.iconst 4, 1) := by decide +kernel
theorem dL_law_228 : decode cL_law 228 = .ok (.iadd, 1) := by decide +kernel
theorem dL_law_229 : decode cL_law 229 = .ok (.iaload, 1) := by decide +kernel
theorem dL_law_230 : decode cL_law 230 = .ok (.invokevirtual 22, 3) := by decide +kernel
theorem dL_law_233 : decode cL_law 233 = .ok (.if_icmp .eq 736, 3) := by decide +kernel
theorem dL_law_236 : decode cL_law 236 = .ok (.iconst 0, 1) := by decide +kernel
theorem dL_law_237 : decode cL_law 237 = .ok (.ireturn, 1) := by decide +kernel
theorem dL_law_238 : decode cL_law 238 = .ok (.aload_n 1, 1) := by decide +kernel
theorem dL_law_239 : decode cL_law 239 = .ok (.aload_n 0, 1) := by decide +kernel
theorem dL_law_240 : decode cL_law 240 = .ok (.iload_n 3, 1) := by decide +kernel
theorem dL_law_241 : decode cL_law 241 = .ok (.iconst 1, 1) := by decide +kernel
theorem dL_law_242 : decode cL_law 242 = .ok (.iadd, 1) := by decide +kernel
theorem dL_law_243 : decode cL_law 243 = .ok (.iaload, 1) := by decide +kernel
theorem dL_law_244 : decode cL_law 244 = .ok (.aload_n 0, 1) := by decide +kernel
theorem dL_law_245 : decode cL_law 245 = .ok (.iload_n 3, 1) := by decide +kernel
theorem dL_law_246 : decode cL_law 246 = .ok (.iconst 2, 1) := by decide +kernel
theorem dL_law_247 : decode cL_law 247 = .ok (.iadd, 1) := by decide +kernel
theorem dL_law_248 : decode cL_law 248 = .ok (.iaload, 1) := by decide +kernel
theorem dL_law_249 : decode cL_law 249 = .ok (.aload_n 0, 1) := by decide +kernel
theorem dL_law_250 : decode cL_law 250 = .ok (.iload_n 3, 1) := by decide +kernel
theorem dL_law_251 : decode cL_law 251 = .ok (.iconst 3, 1) := by decide +kernel
theorem dL_law_252 : decode cL_law 252 = .ok (.iadd, 1) := by decide +kernel
theorem dL_law_253 : decode cL_law 253 = .ok (.iaload, 1) := by decide +kernel
theorem dL_law_254 : decode cL_law 254 = .ok (.aload_n 0, 1) := by decide +kernel
theorem dL_law_255 : decode cL_law 255 = .ok (.iload_n 3, 1) := by decide +kernel
theorem dL_law_256 : decode cL_law 256 = .ok (.iconst 4, 1) := by decide +kernel
theorem dL_law_257 : decode cL_law 257 = .ok (.iadd, 1) := by decide +kernel
theorem dL_law_258 : decode cL_law 258 = .ok (.iaload, 1) := by decide +kernel
theorem dL_law_259 : decode cL_law 259 = .ok (.invokevirtual 23, 3) := by decide +kernel
theorem dL_law_262 : decode cL_law 262 = .ok (.aload_n 2, 1) := by decide +kernel
theorem dL_law_263 : decode cL_law 263 = .ok (.aload_n 0, 1) := by decide +kernel
theorem dL_law_264 : decode cL_law 264 = .ok (.iload_n 3, 1) := by decide +kernel
theorem dL_law_265 : decode cL_law 265 = .ok (.iconst 1, 1) := by decide +kernel
theorem dL_law_266 : decode cL_law 266 = .ok (.iadd, 1) := by decide +kernel
theorem dL_law_267 : decode cL_law 267 = .ok (.iaload, 1) := by decide +kernel
theorem dL_law_268 : decode cL_law 268 = .ok (.aload_n 0, 1) := by decide +kernel
theorem dL_law_269 : decode cL_law 269 = .ok (.iload_n 3, 1) := by decide +kernel
theorem dL_law_270 : decode cL_law 270 = .ok (.iconst 2, 1) := by decide +kernel
theorem dL_law_271 : decode cL_law 271 = .ok (.iadd, 1) := by decide +kernel
theorem dL_law_272 : decode cL_law 272 = .ok (.iaload, 1) := by decide +kernel
theorem dL_law_273 : decode cL_law 273 = .ok (.aload_n 0, 1) := by decide +kernel
theorem dL_law_274 : decode cL_law 274 = .ok (.iload_n 3, 1) := by decide +kernel
theorem dL_law_275 : decode cL_law 275 = .ok (.iconst 3, 1) := by decide +kernel
theorem dL_law_276 : decode cL_law 276 = .ok (.iadd, 1) := by decide +kernel
theorem dL_law_277 : decode cL_law 277 = .ok (.iaload, 1) := by decide +kernel
theorem dL_law_278 : decode cL_law 278 = .ok (.aload_n 0, 1) := by decide +kernel
theorem dL_law_279 : decode cL_law 279 = .ok (.iload_n 3, 1) := by decide +kernel
theorem dL_law_280 : decode cL_law 280 = .ok (.iconst 4, 1) := by decide +kernel
theorem dL_law_281 : decode cL_law 281 = .ok (.iadd, 1) := by decide +kernel
theorem dL_law_282 : decode cL_law 282 = .ok (.iaload, 1) := by decide +kernel
theorem dL_law_283 : decode cL_law 283 = .ok (.invokevirtual 27, 3) := by decide +kernel
theorem dL_law_286 : decode cL_law 286 = .ok (.if_icmp .eq 683, 3) := by decide +kernel
theorem dL_law_289 : decode cL_law 289 = .ok (.iconst 0, 1) := by decide +kernel
theorem dL_law_290 : decode cL_law 290 = .ok (.ireturn, 1) := by decide +kernel
theorem dL_law_291 : decode cL_law 291 = .ok (.aload_n 1, 1) := by decide +kernel
theorem dL_law_292 : decode cL_law 292 = .ok (.aload_n 0, 1) := by decide +kernel
theorem dL_law_293 : decode cL_law 293 = .ok (.iload_n 3, 1) := by decide +kernel
theorem dL_law_294 : decode cL_law 294 = .ok (.iconst 1, 1) := by decide +kernel
theorem dL_law_295 : decode cL_law 295 = .ok (.iadd, 1) := by decide +kernel
theorem dL_law_296 : decode cL_law 296 = .ok (.iaload, 1) := by decide +kernel
theorem dL_law_297 : decode cL_law 297 = .ok (.invokevirtual 28, 3) := by decide +kernel
theorem dL_law_300 : decode cL_law 300 = .ok (.aload_n 2, 1) := by decide +kernel
theorem dL_law_301 : decode cL_law 301 = .ok (.aload_n 0, 1) := by decide +kernel
theorem dL_law_302 : decode cL_law 302 = .ok (.iload_n 3, 1) := by decide +kernel
theorem dL_law_303 : decode cL_law 303 = .ok (.iconst 1, 1) := by decide +kernel
theorem dL_law_304 : decode cL_law 304 = .ok (.iadd, 1) := by decide +kernel
theorem dL_law_305 : decode cL_law 305 = .ok (.iaload, 1) := by decide +kernel
theorem dL_law_306 : decode cL_law 306 = .ok (.invokevirtual 32, 3) := by decide +kernel
theorem dL_law_309 : decode cL_law 309 = .ok (.if_icmp .eq 660, 3) := by decide +kernel
theorem dL_law_312 : decode cL_law 312 = .ok (.iconst 0, 1) := by decide +kernel
theorem dL_law_313 : decode cL_law 313 = .ok (.ireturn, 1) := by decide +kernel
theorem dL_law_314 : decode cL_law 314 = .ok (.aload_n 1, 1) := by decide +kernel
theorem dL_law_315 : decode cL_law 315 = .ok (.aload_n 0, 1) := by decide +kernel
theorem dL_law_316 : decode cL_law 316 = .ok (.iload_n 3, 1) := by decide +kernel
theorem dL_law_317 : decode cL_law 317 = .ok (.iconst 1, 1) := by decide +kernel
theorem dL_law_318 : decode cL_law 318 = .ok (.iadd, 1) := by decide +kernel
theorem dL_law_319 : decode cL_law 319 = .ok (.iaload, 1) := by decide +kernel
theorem dL_law_320 : decode cL_law 320 = .ok (.aload_n 0, 1) := by decide +kernel
theorem dL_law_321 : decode cL_law 321 = .ok (.iload_n 3, 1) := by decide +kernel
theorem dL_law_322 : decode cL_law 322 = .ok (.iconst 2, 1) := by decide +kernel
theorem dL_law_323 : decode cL_law 323 = .ok (.iadd, 1) := by decide +kernel
theorem dL_law_324 : decode cL_law 324 = .ok (.iaload, 1) := by decide +kernel
theorem dL_law_325 : decode cL_law 325 = .ok (.aload_n 0, 1) := by decide +kernel
theorem dL_law_326 : decode cL_law 326 = .ok (.iload_n 3, 1) := by decide +kernel
theorem dL_law_327 : decode cL_law 327 = .ok (.iconst 3, 1) := by decide +kernel
theorem dL_law_328 : decode cL_law 328 = .ok (.iadd, 1) := by decide +kernel
theorem dL_law_329 : decode cL_law 329 = .ok (.iaload, 1) := by decide +kernel
theorem dL_law_330 : decode cL_law 330 = .ok (.invokevirtual 33, 3) := by decide +kernel
theorem dL_law_333 : decode cL_law 333 = .ok (.aload_n 2, 1) := by decide +kernel
theorem dL_law_334 : decode cL_law 334 = .ok (.aload_n 0, 1) := by decide +kernel
theorem dL_law_335 : decode cL_law 335 = .ok (.iload_n 3, 1) := by decide +kernel
theorem dL_law_336 : decode cL_law 336 = .ok (.iconst 1, 1) := by decide +kernel
theorem dL_law_337 : decode cL_law 337 = .ok (.iadd, 1) := by decide +kernel
theorem dL_law_338 : decode cL_law 338 = .ok (.iaload, 1) := by decide +kernel
theorem dL_law_339 : decode cL_law 339 = .ok (.aload_n 0, 1) := by decide +kernel
theorem dL_law_340 : decode cL_law 340 = .ok (.iload_n 3, 1) := by decide +kernel
theorem dL_law_341 : decode cL_law 341 = .ok (.iconst 2, 1) := by decide +kernel
theorem dL_law_342 : decode cL_law 342 = .ok (.iadd, 1) := by decide +kernel
theorem dL_law_343 : decode cL_law 343 = .ok (.iaload, 1) := by decide +kernel
theorem dL_law_344 : decode cL_law 344 = .ok (.aload_n 0, 1) := by decide +kernel
theorem dL_law_345 : decode cL_law 345 = .ok (.iload_n 3, 1) := by decide +kernel
theorem dL_law_346 : decode cL_law 346 = .ok (.iconst 3, 1) := by decide +kernel
theorem dL_law_347 : decode cL_law 347 = .ok (.iadd, 1) := by decide +kernel
theorem dL_law_348 : decode cL_law 348 = .ok (.iaload, 1) := by decide +kernel
theorem dL_law_349 : decode cL_law 349 = .ok (.invokevirtual 37, 3) := by decide +kernel
theorem dL_law_352 : decode cL_law 352 = .ok (.if_icmp .eq 617, 3) := by decide +kernel
theorem dL_law_355 : decode cL_law 355 = .ok (.iconst 0, 1) := by decide +kernel
theorem dL_law_356 : decode cL_law 356 = .ok (.ireturn, 1) := by decide +kernel
theorem dL_law_357 : decode cL_law 357 = .ok (.aload_n 1, 1) := by decide +kernel
theorem dL_law_358 : decode cL_law 358 = .ok (.aload_n 0, 1) := by decide +kernel
theorem dL_law_359 : decode cL_law 359 = .ok (.iload_n 3, 1) := by decide +kernel
theorem dL_law_360 : decode cL_law 360 = .ok (.iconst 1, 1) := by decide +kernel
theorem dL_law_361 : decode cL_law 361 = .ok (.iadd, 1) := by decide +kernel
theorem dL_law_362 : decode cL_law 362 = .ok (.iaload, 1) := by decide +kernel
theorem dL_law_363 : decode cL_law 363 = .ok (.invokevirtual 38, 3) := by decide +kernel
theorem dL_law_366 : decode cL_law 366 = .ok (.aload_n 2, 1) := by decide +kernel
theorem dL_law_367 : decode cL_law 367 = .ok (.aload_n 0, 1) := by decide +kernel
theorem dL_law_368 : decode cL_law 368 = .ok (.iload_n 3, 1) := by decide +kernel
theorem dL_law_369 : decode cL_law 369 = .ok (.iconst 1, 1) := by decide +kernel
theorem dL_law_370 : decode cL_law 370 = .ok (.iadd, 1) := by decide +kernel
theorem dL_law_371 : decode cL_law 371 = .ok (.iaload, 1) := by decide +kernel
theorem dL_law_372 : decode cL_law 372 = .ok (.invokevirtual 42, 3) := by decide +kernel
theorem dL_law_375 : decode cL_law 375 = .ok (.if_icmp .eq 594, 3) := by decide +kernel
theorem dL_law_378 : decode cL_law 378 = .ok (.iconst 0, 1) := by decide +kernel
theorem dL_law_379 : decode cL_law 379 = .ok (.ireturn, 1) := by decide +kernel
theorem dL_law_380 : decode cL_law 380 = .ok (.aload_n 1, 1) := by decide +kernel
theorem dL_law_381 : decode cL_law 381 = .ok (.aload_n 0, 1) := by decide +kernel
theorem dL_law_382 : decode cL_law 382 = .ok (.iload_n 3, 1) := by decide +kernel
theorem dL_law_383 : decode cL_law 383 = .ok (.iconst 1, 1) := by decide +kernel
theorem dL_law_384 : decode cL_law 384 = .ok (.iadd, 1) := by decide +kernel
theorem dL_law_385 : decode cL_law 385 = .ok (.iaload, 1) := by decide +kernel
theorem dL_law_386 : decode cL_law 386 = .ok (.aload_n 0, 1) := by decide +kernel
theorem dL_law_387 : decode cL_law 387 = .ok (.iload_n 3, 1) := by decide +kernel
theorem dL_law_388 : decode cL_law 388 = .ok (.iconst 2, 1) := by decide +kernel
theorem dL_law_389 : decode cL_law 389 = .ok (.iadd, 1) := by decide +kernel
theorem dL_law_390 : decode cL_law 390 = .ok (.iaload, 1) := by decide +kernel
theorem dL_law_391 : decode cL_law 391 = .ok (.invokevirtual 43, 3) := by decide +kernel
theorem dL_law_394 : decode cL_law 394 = .ok (.aload_n 2, 1) := by decide +kernel
theorem dL_law_395 : decode cL_law 395 = .ok (.aload_n 0, 1) := by decide +kernel
theorem dL_law_396 : decode cL_law 396 = .ok (.iload_n 3, 1) := by decide +kernel
theorem dL_law_397 : decode cL_law 397 = .ok (.iconst 1, 1) := by decide +kernel
theorem dL_law_398 : decode cL_law 398 = .ok (.iadd, 1) := by decide +kernel
theorem dL_law_399 : decode cL_law 399 = .ok (.iaload, 1) := by decide +kernel
theorem dL_law_400 : decode cL_law 400 = .ok (.aload_n 0, 1) := by decide +kernel
theorem dL_law_401 : decode cL_law 401 = .ok (.iload_n 3, 1) := by decide +kernel
theorem dL_law_402 : decode cL_law 402 = .ok (.iconst 2, 1) := by decide +kernel
theorem dL_law_403 : decode cL_law 403 = .ok (.iadd, 1) := by decide +kernel
theorem dL_law_404 : decode cL_law 404 = .ok (.iaload, 1) := by decide +kernel
theorem dL_law_405 : decode cL_law 405 = .ok (.invokevirtual 47, 3) := by decide +kernel
theorem dL_law_408 : decode cL_law 408 = .ok (.if_icmp .eq 561, 3) := by decide +kernel
theorem dL_law_411 : decode cL_law 411 = .ok (.iconst 0, 1) := by decide +kernel
theorem dL_law_412 : decode cL_law 412 = .ok (.ireturn, 1) := by decide +kernel
theorem dL_law_413 : decode cL_law 413 = .ok (.aload_n 1, 1) := by decide +kernel
theorem dL_law_414 : decode cL_law 414 = .ok (.aload_n 0, 1) := by decide +kernel
theorem dL_law_415 : decode cL_law 415 = .ok (.iload_n 3, 1) := by decide +kernel
theorem dL_law_416 : decode cL_law 416 = .ok (.iconst 1, 1) := by decide +kernel
theorem dL_law_417 : decode cL_law 417 = .ok (.iadd, 1) := by decide +kernel
theorem dL_law_418 : decode cL_law 418 = .ok (.iaload, 1) := by decide +kernel
theorem dL_law_419 : decode cL_law 419 = .ok (.invokevirtual 48, 3) := by decide +kernel
theorem dL_law_422 : decode cL_law 422 = .ok (.aload_n 2, 1) := by decide +kernel
theorem dL_law_423 : decode cL_law 423 = .ok (.aload_n 0, 1) := by decide +kernel
theorem dL_law_424 : decode cL_law 424 = .ok (.iload_n 3, 1) := by decide +kernel
theorem dL_law_425 : decode cL_law 425 = .ok (.iconst 1, 1) := by decide +kernel
theorem dL_law_426 : decode cL_law 426 = .ok (.iadd, 1) := by decide +kernel
theorem dL_law_427 : decode cL_law 427 = .ok (.iaload, 1) := by decide +kernel
theorem dL_law_428 : decode cL_law 428 = .ok (.invokevirtual 51, 3) := by decide +kernel
theorem dL_law_431 : decode cL_law 431 = .ok (.if_icmp .eq 538, 3) := by decide +kernel
theorem dL_law_434 : decode cL_law 434 = .ok (.iconst 0, 1) := by decide +kernel
theorem dL_law_435 : decode cL_law 435 = .ok (.ireturn, 1) := by decide +kernel
theorem dL_law_436 : decode cL_law 436 = .ok (.aload_n 1, 1) := by decide +kernel
theorem dL_law_437 : decode cL_law 437 = .ok (.aload_n 0, 1) := by decide +kernel
theorem dL_law_438 : decode cL_law 438 = .ok (.iload_n 3, 1) := by decide +kernel
theorem dL_law_439 : decode cL_law 439 = .ok (.iconst 1, 1) := by decide +kernel
theorem dL_law_440 : decode cL_law 440 = .ok (.iadd, 1) := by decide +kernel
theorem dL_law_441 : decode cL_law 441 = .ok (.iaload, 1) := by decide +kernel
theorem dL_law_442 : decode cL_law 442 = .ok (.invokevirtual 52, 3) := by decide +kernel
theorem dL_law_445 : decode cL_law 445 = .ok (.aload_n 2, 1) := by decide +kernel
theorem dL_law_446 : decode cL_law 446 = .ok (.aload_n 0, 1) := by decide +kernel
theorem dL_law_447 : decode cL_law 447 = .ok (.iload_n 3, 1) := by decide +kernel
theorem dL_law_448 : decode cL_law 448 = .ok (.iconst 1, 1) := by decide +kernel
theorem dL_law_449 : decode cL_law 449 = .ok (.iadd, 1) := by decide +kernel
theorem dL_law_450 : decode cL_law 450 = .ok (.iaload, 1) := by decide +kernel
theorem dL_law_451 : decode cL_law 451 = .ok (.invokevirtual 55, 3) := by decide +kernel
theorem dL_law_454 : decode cL_law 454 = .ok (.if_icmp .eq 515, 3) := by decide +kernel
theorem dL_law_457 : decode cL_law 457 = .ok (.iconst 0, 1) := by decide +kernel
theorem dL_law_458 : decode cL_law 458 = .ok (.ireturn, 1) := by decide +kernel
theorem dL_law_459 : decode cL_law 459 = .ok (.aload_n 1, 1) := by decide +kernel
theorem dL_law_460 : decode cL_law 460 = .ok (.aload_n 0, 1) := by decide +kernel
theorem dL_law_461 : decode cL_law 461 = .ok (.iload_n 3, 1) := by decide +kernel
theorem dL_law_462 : decode cL_law 462 = .ok (.iconst 1, 1) := by decide +kernel
theorem dL_law_463 : decode cL_law 463 = .ok (.iadd, 1) := by decide +kernel
theorem dL_law_464 : decode cL_law 464 = .ok (.iaload, 1) := by decide +kernel
theorem dL_law_465 : decode cL_law 465 = .ok (.aload_n 0, 1) := by decide +kernel
theorem dL_law_466 : decode cL_law 466 = .ok (.iload_n 3, 1) := by decide +kernel
theorem dL_law_467 : decode cL_law 467 = .ok (.iconst 2, 1) := by decide +kernel
theorem dL_law_468 : decode cL_law 468 = .ok (.iadd, 1) := by decide +kernel
theorem dL_law_469 : decode cL_law 469 = .ok (.iaload, 1) := by decide +kernel
theorem dL_law_470 : decode cL_law 470 = .ok (.aload_n 0, 1) := by decide +kernel
theorem dL_law_471 : decode cL_law 471 = .ok (.iload_n 3, 1) := by decide +kernel
theorem dL_law_472 : decode cL_law 472 = .ok (.iconst 3, 1) := by decide +kernel
theorem dL_law_473 : decode cL_law 473 = .ok (.iadd, 1) := by decide +kernel
theorem dL_law_474 : decode cL_law 474 = .ok (.iaload, 1) := by decide +kernel
theorem dL_law_475 : decode cL_law 475 = .ok (.ifCond .eq 7, 3) := by decide +kernel
theorem dL_law_478 : decode cL_law 478 = .ok (.iconst 1, 1) := by decide +kernel
theorem dL_law_479 : decode cL_law 479 = .ok (.goto 4, 3) := by decide +kernel
theorem dL_law_482 : decode cL_law 482 = .ok (.iconst 0, 1) := by decide +kernel
theorem dL_law_483 : decode cL_law 483 = .ok (.aload_n 0, 1) := by decide +kernel
theorem dL_law_484 : decode cL_law 484 = .ok (.iload_n 3, 1) := by decide +kernel
theorem dL_law_485 : decode cL_law 485 = .ok (.iconst 4, 1) := by decide +kernel
theorem dL_law_486 : decode cL_law 486 = .ok (.iadd, 1) := by decide +kernel
theorem dL_law_487 : decode cL_law 487 = .ok (.iaload, 1) := by decide +kernel
theorem dL_law_488 : decode cL_law 488 = .ok (.invokevirtual 56, 3) := by decide +kernel
theorem dL_law_491 : decode cL_law 491 = .ok (.aload_n 2, 1) := by decide +kernel
theorem dL_law_492 : decode cL_law 492 = .ok (.aload_n 0, 1) := by decide +kernel
theorem dL_law_493 : decode cL_law 493 = .ok (.iload_n 3, 1) := by decide +kernel
theorem dL_law_494 : decode cL_law 494 = .ok (.iconst 1, 1) := by decide +kernel
theorem dL_law_495 : decode cL_law 495 = .ok (.iadd, 1) := by decide +kernel
theorem dL_law_496 : decode cL_law 496 = .ok (.iaload, 1) := by decide +kernel
theorem dL_law_497 : decode cL_law 497 = .ok (.aload_n 0, 1) := by decide +kernel
theorem dL_law_498 : decode cL_law 498 = .ok (.iload_n 3, 1) := by decide +kernel
theorem dL_law_499 : decode cL_law 499 = .ok (.iconst 2, 1) := by decide +kernel
theorem dL_law_500 : decode cL_law 500 = .ok (.iadd, 1) := by decide +kernel
theorem dL_law_501 : decode cL_law 501 = .ok (.iaload, 1) := by decide +kernel
theorem dL_law_502 : decode cL_law 502 = .ok (.aload_n 0, 1) := by decide +kernel
theorem dL_law_503 : decode cL_law 503 = .ok (.iload_n 3, 1) := by decide +kernel
theorem dL_law_504 : decode cL_law 504 = .ok (.iconst 3, 1) := by decide +kernel
theorem dL_law_505 : decode cL_law 505 = .ok (.iadd, 1) := by decide +kernel
theorem dL_law_506 : decode cL_law 506 = .ok (.iaload, 1) := by decide +kernel
theorem dL_law_507 : decode cL_law 507 = .ok (.ifCond .eq 7, 3) := by decide +kernel
theorem dL_law_510 : decode cL_law 510 = .ok (.iconst 1, 1) := by decide +kernel
theorem dL_law_511 : decode cL_law 511 = .ok (.goto 4, 3) := by decide +kernel
theorem dL_law_514 : decode cL_law 514 = .ok (.iconst 0, 1) := by decide +kernel
theorem dL_law_515 : decode cL_law 515 = .ok (.aload_n 0, 1) := by decide +kernel
theorem dL_law_516 : decode cL_law 516 = .ok (.iload_n 3, 1) := by decide +kernel
theorem dL_law_517 : decode cL_law 517 = .ok (.iconst 4, 1) := by decide +kernel
theorem dL_law_518 : decode cL_law 518 = .ok (.iadd, 1) := by decide +kernel
theorem dL_law_519 : decode cL_law 519 = .ok (.iaload, 1) := by decide +kernel
theorem dL_law_520 : decode cL_law 520 = .ok (.invokevirtual 60, 3) := by decide +kernel
theorem dL_law_523 : decode cL_law 523 = .ok (.if_icmp .eq 446, 3) := by decide +kernel
theorem dL_law_526 : decode cL_law 526 = .ok (.iconst 0, 1) := by decide +kernel
theorem dL_law_527 : decode cL_law 527 = .ok (.ireturn, 1) := by decide +kernel
theorem dL_law_528 : decode cL_law 528 = .ok (.aload_n 1, 1) := by decide +kernel
theorem dL_law_529 : decode cL_law 529 = .ok (.aload_n 0, 1) := by decide +kernel
theorem dL_law_530 : decode cL_law 530 = .ok (.iload_n 3, 1) := by decide +kernel
theorem dL_law_531 : decode cL_law 531 = .ok (.iconst 1, 1) := by decide +kernel
theorem dL_law_532 : decode cL_law 532 = .ok (.iadd, 1) := by decide +kernel
theorem dL_law_533 : decode cL_law 533 = .ok (.iaload, 1) := by decide +kernel
theorem dL_law_534 : decode cL_law 534 = .ok (.aload_n 0, 1) := by decide +kernel
theorem dL_law_535 : decode cL_law 535 = .ok (.iload_n 3, 1) := by decide +kernel
theorem dL_law_536 : decode cL_law 536 = .ok (.iconst 2, 1) := by decide +kernel
theorem dL_law_537 : decode cL_law 537 = .ok (.iadd, 1) := by decide +kernel
theorem dL_law_538 : decode cL_law 538 = .ok (.iaload, 1) := by decide +kernel
theorem dL_law_539 : decode cL_law 539 = .ok (.invokevirtual 61, 3) := by decide +kernel
theorem dL_law_542 : decode cL_law 542 = .ok (.aload_n 2, 1) := by decide +kernel
theorem dL_law_543 : decode cL_law 543 = .ok (.aload_n 0, 1) := by decide +kernel
theorem dL_law_544 : decode cL_law 544 = .ok (.iload_n 3, 1) := by decide +kernel
theorem dL_law_545 : decode cL_law 545 = .ok (.iconst 1, 1) := by decide +kernel
theorem dL_law_546 : decode cL_law 546 = .ok (.iadd, 1) := by decide +kernel
theorem dL_law_547 : decode cL_law 547 = .ok (.iaload, 1) := by decide +kernel
theorem dL_law_548 : decode cL_law 548 = .ok (.aload_n 0, 1) := by decide +kernel
theorem dL_law_549 : decode cL_law 549 = .ok (.iload_n 3, 1) := by decide +kernel
theorem dL_law_550 : decode cL_law 550 = .ok (.iconst 2, 1) := by decide +kernel
theorem dL_law_551 : decode cL_law 551 = .ok (.iadd, 1) := by decide +kernel
theorem dL_law_552 : decode cL_law 552 = .ok (.iaload, 1) := by decide +kernel
theorem dL_law_553 : decode cL_law 553 = .ok (.invokevirtual 64, 3) := by decide +kernel
theorem dL_law_556 : decode cL_law 556 = .ok (.if_icmp .eq 413, 3) := by decide +kernel
theorem dL_law_559 : decode cL_law 559 = .ok (.iconst 0, 1) := by decide +kernel
theorem dL_law_560 : decode cL_law 560 = .ok (.ireturn, 1) := by decide +kernel
theorem dL_law_561 : decode cL_law 561 = .ok (.aload_n 1, 1) := by decide +kernel
theorem dL_law_562 : decode cL_law 562 = .ok (.invokevirtual 65, 3) := by decide +kernel
theorem dL_law_565 : decode cL_law 565 = .ok (.aload_n 2, 1) := by decide +kernel
theorem dL_law_566 : decode cL_law 566 = .ok (.invokevirtual 69, 3) := by decide +kernel
theorem dL_law_569 : decode cL_law 569 = .ok (.if_icmp .eq 400, 3) := by decide +kernel
theorem dL_law_572 : decode cL_law 572 = .ok (.iconst 0, 1) := by decide +kernel
theorem dL_law_573 : decode cL_law 573 = .ok (.ireturn, 1) := by decide +kernel
theorem dL_law_574 : decode cL_law 574 = .ok (.aload_n 1, 1) := by decide +kernel
theorem dL_law_575 : decode cL_law 575 = .ok (.aload_n 0, 1) := by decide +kernel
theorem dL_law_576 : decode cL_law 576 = .ok (.iload_n 3, 1) := by decide +kernel
theorem dL_law_577 : decode cL_law 577 = .ok (.iconst 1, 1) := by decide +kernel
theorem dL_law_578 : decode cL_law 578 = .ok (.iadd, 1) := by decide +kernel
theorem dL_law_579 : decode cL_law 579 = .ok (.iaload, 1) := by decide +kernel
theorem dL_law_580 : decode cL_law 580 = .ok (.aload_n 0, 1) := by decide +kernel
theorem dL_law_581 : decode cL_law 581 = .ok (.iload_n 3, 1) := by decide +kernel
theorem dL_law_582 : decode cL_law 582 = .ok (.iconst 2, 1) := by decide +kernel
theorem dL_law_583 : decode cL_law 583 = .ok (.iadd, 1) := by decide +kernel
theorem dL_law_584 : decode cL_law 584 = .ok (.iaload, 1) := by decide +kernel
theorem dL_law_585 : decode cL_law 585 = .ok (.invokevirtual 70, 3) := by decide +kernel
theorem dL_law_588 : decode cL_law 588 = .ok (.aload_n 2, 1) := by decide +kernel
theorem dL_law_589 : decode cL_law 589 = .ok (.aload_n 0, 1) := by decide +kernel
theorem dL_law_590 : decode cL_law 590 = .ok (.iload_n 3, 1) := by decide +kernel
theorem dL_law_591 : decode cL_law 591 = .ok (.iconst 1, 1) := by decide +kernel
theorem dL_law_592 : decode cL_law 592 = .ok (.iadd, 1) := by decide +kernel
theorem dL_law_593 : decode cL_law 593 = .ok (.iaload, 1) := by decide +kernel
theorem dL_law_594 : decode cL_law 594 = .ok (.aload_n 0, 1) := by decide +kernel
theorem dL_law_595 : decode cL_law 595 = .ok (.iload_n 3, 1) := by decide +kernel
theorem dL_law_596 : decode cL_law 596 = .ok (.iconst 2, 1) := by decide +kernel
theorem dL_law_597 : decode cL_law 597 = .ok (.iadd, 1) := by decide +kernel
theorem dL_law_598 : decode cL_law 598 = .ok (.iaload, 1) := by decide +kernel
theorem dL_law_599 : decode cL_law 599 = .ok (.invokevirtual 73, 3) := by decide +kernel
theorem dL_law_602 : decode cL_law 602 = .ok (.if_icmp .eq 367, 3) := by decide +kernel
theorem dL_law_605 : decode cL_law 605 = .ok (.iconst 0, 1) := by decide +kernel
theorem dL_law_606 : decode cL_law 606 = .ok (.ireturn, 1) := by decide +kernel
theorem dL_law_607 : decode cL_law 607 = .ok (.aload_n 1, 1) := by decide +kernel
theorem dL_law_608 : decode cL_law 608 = .ok (.aload_n 0, 1) := by decide +kernel
theorem dL_law_609 : decode cL_law 609 = .ok (.iload_n 3, 1) := by decide +kernel
theorem dL_law_610 : decode cL_law 610 = .ok (.iconst 1, 1) := by decide +kernel
theorem dL_law_611 : decode cL_law 611 = .ok (.iadd, 1) := by decide +kernel
theorem dL_law_612 : decode cL_law 612 = .ok (.iaload, 1) := by decide +kernel
theorem dL_law_613 : decode cL_law 613 = .ok (.invokevirtual 74, 3) := by decide +kernel
theorem dL_law_616 : decode cL_law 616 = .ok (.aload_n 2, 1) := by decide +kernel
theorem dL_law_617 : decode cL_law 617 = .ok (.aload_n 0, 1) := by decide +kernel
theorem dL_law_618 : decode cL_law 618 = .ok (.iload_n 3, 1) := by decide +kernel
theorem dL_law_619 : decode cL_law 619 = .ok (.iconst 1, 1) := by decide +kernel
theorem dL_law_620 : decode cL_law 620 = .ok (.iadd, 1) := by decide +kernel
theorem dL_law_621 : decode cL_law 621 = .ok (.iaload, 1) := by decide +kernel
theorem dL_law_622 : decode cL_law 622 = .ok (.invokevirtual 77, 3) := by decide +kernel
theorem dL_law_625 : decode cL_law 625 = .ok (.if_icmp .eq 344, 3) := by decide +kernel
theorem dL_law_628 : decode cL_law 628 = .ok (.iconst 0, 1) := by decide +kernel
theorem dL_law_629 : decode cL_law 629 = .ok (.ireturn, 1) := by decide +kernel
theorem dL_law_630 : decode cL_law 630 = .ok (.aload_n 1, 1) := by decide +kernel
theorem dL_law_631 : decode cL_law 631 = .ok (.aload_n 0, 1) := by decide +kernel
theorem dL_law_632 : decode cL_law 632 = .ok (.iload_n 3, 1) := by decide +kernel
theorem dL_law_633 : decode cL_law 633 = .ok (.iconst 1, 1) := by decide +kernel
theorem dL_law_634 : decode cL_law 634 = .ok (.iadd, 1) := by decide +kernel
theorem dL_law_635 : decode cL_law 635 = .ok (.iaload, 1) := by decide +kernel
theorem dL_law_636 : decode cL_law 636 = .ok (.aload_n 0, 1) := by decide +kernel
theorem dL_law_637 : decode cL_law 637 = .ok (.iload_n 3, 1) := by decide +kernel
theorem dL_law_638 : decode cL_law 638 = .ok (.iconst 2, 1) := by decide +kernel
theorem dL_law_639 : decode cL_law 639 = .ok (.iadd, 1) := by decide +kernel
theorem dL_law_640 : decode cL_law 640 = .ok (.iaload, 1) := by decide +kernel
theorem dL_law_641 : decode cL_law 641 = .ok (.invokevirtual 78, 3) := by decide +kernel
theorem dL_law_644 : decode cL_law 644 = .ok (.aload_n 2, 1) := by decide +kernel
theorem dL_law_645 : decode cL_law 645 = .ok (.aload_n 0, 1) := by decide +kernel
theorem dL_law_646 : decode cL_law 646 = .ok (.iload_n 3, 1) := by decide +kernel
theorem dL_law_647 : decode cL_law 647 = .ok (.iconst 1, 1) := by decide +kernel
theorem dL_law_648 : decode cL_law 648 = .ok (.iadd, 1) := by decide +kernel
theorem dL_law_649 : decode cL_law 649 = .ok (.iaload, 1) := by decide +kernel
theorem dL_law_650 : decode cL_law 650 = .ok (.aload_n 0, 1) := by decide +kernel
theorem dL_law_651 : decode cL_law 651 = .ok (.iload_n 3, 1) := by decide +kernel
theorem dL_law_652 : decode cL_law 652 = .ok (.iconst 2, 1) := by decide +kernel
theorem dL_law_653 : decode cL_law 653 = .ok (.iadd, 1) := by decide +kernel
theorem dL_law_654 : decode cL_law 654 = .ok (.iaload, 1) := by decide +kernel
theorem dL_law_655 : decode cL_law 655 = .ok (.invokevirtual 81, 3) := by decide +kernel
theorem dL_law_658 : decode cL_law 658 = .ok (.if_icmp .eq 311, 3) := by decide +kernel
theorem dL_law_661 : decode cL_law 661 = .ok (.iconst 0, 1) := by decide +kernel
theorem dL_law_662 : decode cL_law 662 = .ok (.ireturn, 1) := by decide +kernel
theorem dL_law_663 : decode cL_law 663 = .ok (.aload_n 1, 1) := by decide +kernel
theorem dL_law_664 : decode cL_law 664 = .ok (.aload_n 0, 1) := by decide +kernel
theorem dL_law_665 : decode cL_law 665 = .ok (.iload_n 3, 1) := by decide +kernel
theorem dL_law_666 : decode cL_law 666 = .ok (.iconst 1, 1) := by decide +kernel
theorem dL_law_667 : decode cL_law 667 = .ok (.iadd, 1) := by decide +kernel
theorem dL_law_668 : decode cL_law 668 = .ok (.iaload, 1) := by decide +kernel
theorem dL_law_669 : decode cL_law 669 = .ok (.aload_n 0, 1) := by decide +kernel
theorem dL_law_670 : decode cL_law 670 = .ok (.iload_n 3, 1) := by decide +kernel
theorem dL_law_671 : decode cL_law 671 = .ok (.iconst 2, 1) := by decide +kernel
theorem dL_law_672 : decode cL_law 672 = .ok (.iadd, 1) := by decide +kernel
theorem dL_law_673 : decode cL_law 673 = .ok (.iaload, 1) := by decide +kernel
theorem dL_law_674 : decode cL_law 674 = .ok (.invokevirtual 82, 3) := by decide +kernel
theorem dL_law_677 : decode cL_law 677 = .ok (.aload_n 2, 1) := by decide +kernel
theorem dL_law_678 : decode cL_law 678 = .ok (.aload_n 0, 1) := by decide +kernel
theorem dL_law_679 : decode cL_law 679 = .ok (.iload_n 3, 1) := by decide +kernel
theorem dL_law_680 : decode cL_law 680 = .ok (.iconst 1, 1) := by decide +kernel
theorem dL_law_681 : decode cL_law 681 = .ok (.iadd, 1) := by decide +kernel
theorem dL_law_682 : decode cL_law 682 = .ok (.iaload, 1) := by decide +kernel
theorem dL_law_683 : decode cL_law 683 = .ok (.aload_n 0, 1) := by decide +kernel
theorem dL_law_684 : decode cL_law 684 = .ok (.iload_n 3, 1) := by decide +kernel
theorem dL_law_685 : decode cL_law 685 = .ok (.iconst 2, 1) := by decide +kernel
theorem dL_law_686 : decode cL_law 686 = .ok (.iadd, 1) := by decide +kernel
theorem dL_law_687 : decode cL_law 687 = .ok (.iaload, 1) := by decide +kernel
theorem dL_law_688 : decode cL_law 688 = .ok (.invokevirtual 86, 3) := by decide +kernel
theorem dL_law_691 : decode cL_law 691 = .ok (.lcmp, 1) := by decide +kernel
theorem dL_law_692 : decode cL_law 692 = .ok (.ifCond .eq 277, 3) := by decide +kernel
theorem dL_law_695 : decode cL_law 695 = .ok (.iconst 0, 1) := by decide +kernel
theorem dL_law_696 : decode cL_law 696 = .ok (.ireturn, 1) := by decide +kernel
theorem dL_law_697 : decode cL_law 697 = .ok (.aload_n 1, 1) := by decide +kernel
theorem dL_law_698 : decode cL_law 698 = .ok (.aload_n 0, 1) := by decide +kernel
theorem dL_law_699 : decode cL_law 699 = .ok (.iload_n 3, 1) := by decide +kernel
theorem dL_law_700 : decode cL_law 700 = .ok (.iconst 1, 1) := by decide +kernel
theorem dL_law_701 : decode cL_law 701 = .ok (.iadd, 1) := by decide +kernel
theorem dL_law_702 : decode cL_law 702 = .ok (.iaload, 1) := by decide +kernel
theorem dL_law_703 : decode cL_law 703 = .ok (.aload_n 0, 1) := by decide +kernel
theorem dL_law_704 : decode cL_law 704 = .ok (.iload_n 3, 1) := by decide +kernel
theorem dL_law_705 : decode cL_law 705 = .ok (.iconst 2, 1) := by decide +kernel
theorem dL_law_706 : decode cL_law 706 = .ok (.iadd, 1) := by decide +kernel
theorem dL_law_707 : decode cL_law 707 = .ok (.iaload, 1) := by decide +kernel
theorem dL_law_708 : decode cL_law 708 = .ok (.aload_n 0, 1) := by decide +kernel
theorem dL_law_709 : decode cL_law 709 = .ok (.iload_n 3, 1) := by decide +kernel
theorem dL_law_710 : decode cL_law 710 = .ok (.iconst 3, 1) := by decide +kernel
theorem dL_law_711 : decode cL_law 711 = .ok (.iadd, 1) := by decide +kernel
theorem dL_law_712 : decode cL_law 712 = .ok (.iaload, 1) := by decide +kernel
theorem dL_law_713 : decode cL_law 713 = .ok (.aload_n 0, 1) := by decide +kernel
theorem dL_law_714 : decode cL_law 714 = .ok (.iload_n 3, 1) := by decide +kernel
theorem dL_law_715 : decode cL_law 715 = .ok (.iconst 4, 1) := by decide +kernel
theorem dL_law_716 : decode cL_law 716 = .ok (.iadd, 1) := by decide +kernel
theorem dL_law_717 : decode cL_law 717 = .ok (.iaload, 1) := by decide +kernel
theorem dL_law_718 : decode cL_law 718 = .ok (.invokevirtual 87, 3) := by decide +kernel
theorem dL_law_721 : decode cL_law 721 = .ok (.aload_n 2, 1) := by decide +kernel
theorem dL_law_722 : decode cL_law 722 = .ok (.aload_n 0, 1) := by decide +kernel
theorem dL_law_723 : decode cL_law 723 = .ok (.iload_n 3, 1) := by decide +kernel
theorem dL_law_724 : decode cL_law 724 = .ok (.iconst 1, 1) := by decide +kernel
theorem dL_law_725 : decode cL_law 725 = .ok (.iadd, 1) := by decide +kernel
theorem dL_law_726 : decode cL_law 726 = .ok (.iaload, 1) := by decide +kernel
theorem dL_law_727 : decode cL_law 727 = .ok (.aload_n 0, 1) := by decide +kernel
theorem dL_law_728 : decode cL_law 728 = .ok (.iload_n 3, 1) := by decide +kernel
theorem dL_law_729 : decode cL_law 729 = .ok (.iconst 2, 1) := by decide +kernel
theorem dL_law_730 : decode cL_law 730 = .ok (.iadd, 1) := by decide +kernel
theorem dL_law_731 : decode cL_law 731 = .ok (.iaload, 1) := by decide +kernel
theorem dL_law_732 : decode cL_law 732 = .ok (.aload_n 0, 1) := by decide +kernel
theorem dL_law_733 : decode cL_law 733 = .ok (.iload_n 3, 1) := by decide +kernel
theorem dL_law_734 : decode cL_law 734 = .ok (.iconst 3, 1) := by decide +kernel
theorem dL_law_735 : decode cL_law 735 = .ok (.iadd, 1) := by decide +kernel
theorem dL_law_736 : decode cL_law 736 = .ok (.iaload, 1) := by decide +kernel
theorem dL_law_737 : decode cL_law 737 = .ok (.aload_n 0, 1) := by decide +kernel
theorem dL_law_738 : decode cL_law 738 = .ok (.iload_n 3, 1) := by decide +kernel
theorem dL_law_739 : decode cL_law 739 = .ok (.iconst 4, 1) := by decide +kernel
theorem dL_law_740 : decode cL_law 740 = .ok (.iadd, 1) := by decide +kernel
theorem dL_law_741 : decode cL_law 741 = .ok (.iaload, 1) := by decide +kernel
theorem dL_law_742 : decode cL_law 742 = .ok (.invokevirtual 91, 3) := by decide +kernel
theorem dL_law_745 : decode cL_law 745 = .ok (.lcmp, 1) := by decide +kernel
theorem dL_law_746 : decode cL_law 746 = .ok (.ifCond .eq 223, 3) := by decide +kernel
theorem dL_law_749 : decode cL_law 749 = .ok (.iconst 0, 1) := by decide +kernel
theorem dL_law_750 : decode cL_law 750 = .ok (.ireturn, 1) := by decide +kernel
theorem dL_law_751 : decode cL_law 751 = .ok (.aload_n 1, 1) := by decide +kernel
theorem dL_law_752 : decode cL_law 752 = .ok (.invokevirtual 92, 3) := by decide +kernel
theorem dL_law_755 : decode cL_law 755 = .ok (.aload_n 2, 1) := by decide +kernel
theorem dL_law_756 : decode cL_law 756 = .ok (.invokevirtual 95, 3) := by decide +kernel
theorem dL_law_759 : decode cL_law 759 = .ok (.if_icmp .eq 210, 3) := by decide +kernel
theorem dL_law_762 : decode cL_law 762 = .ok (.iconst 0, 1) := by decide +kernel
theorem dL_law_763 : decode cL_law 763 = .ok (.ireturn, 1) := by decide +kernel
theorem dL_law_764 : decode cL_law 764 = .ok (.aload_n 1, 1) := by decide +kernel
theorem dL_law_765 : decode cL_law 765 = .ok (.aload_n 0, 1) := by decide +kernel
theorem dL_law_766 : decode cL_law 766 = .ok (.iload_n 3, 1) := by decide +kernel
theorem dL_law_767 : decode cL_law 767 = .ok (.iconst 1, 1) := by decide +kernel
theorem dL_law_768 : decode cL_law 768 = .ok (.iadd, 1) := by decide +kernel
theorem dL_law_769 : decode cL_law 769 = .ok (.iaload, 1) := by decide +kernel
theorem dL_law_770 : decode cL_law 770 = .ok (.invokevirtual 96, 3) := by decide +kernel
theorem dL_law_773 : decode cL_law 773 = .ok (.aload_n 2, 1) := by decide +kernel
theorem dL_law_774 : decode cL_law 774 = .ok (.aload_n 0, 1) := by decide +kernel
theorem dL_law_775 : decode cL_law 775 = .ok (.iload_n 3, 1) := by decide +kernel
theorem dL_law_776 : decode cL_law 776 = .ok (.iconst 1, 1) := by decide +kernel
theorem dL_law_777 : decode cL_law 777 = .ok (.iadd, 1) := by decide +kernel
theorem dL_law_778 : decode cL_law 778 = .ok (.iaload, 1) := by decide +kernel
theorem dL_law_779 : decode cL_law 779 = .ok (.invokevirtual 99, 3) := by decide +kernel
theorem dL_law_782 : decode cL_law 782 = .ok (.if_icmp .eq 187, 3) := by decide +kernel
theorem dL_law_785 : decode cL_law 785 = .ok (.iconst 0, 1) := by decide +kernel
theorem dL_law_786 : decode cL_law 786 = .ok (.ireturn, 1) := by decide +kernel
theorem dL_law_787 : decode cL_law 787 = .ok (.aload_n 1, 1) := by decide +kernel
theorem dL_law_788 : decode cL_law 788 = .ok (.aload_n 0, 1) := by decide +kernel
theorem dL_law_789 : decode cL_law 789 = .ok (.iload_n 3, 1) := by decide +kernel
theorem dL_law_790 : decode cL_law 790 = .ok (.iconst 1, 1) := by decide +kernel
theorem dL_law_791 : decode cL_law 791 = .ok (.iadd, 1) := by decide +kernel
theorem dL_law_792 : decode cL_law 792 = .ok (.iaload, 1) := by decide +kernel
theorem dL_law_793 : decode cL_law 793 = .ok (.aload_n 0, 1) := by decide +kernel
theorem dL_law_794 : decode cL_law 794 = .ok (.iload_n 3, 1) := by decide +kernel
theorem dL_law_795 : decode cL_law 795 = .ok (.iconst 2, 1) := by decide +kernel
theorem dL_law_796 : decode cL_law 796 = .ok (.iadd, 1) := by decide +kernel
theorem dL_law_797 : decode cL_law 797 = .ok (.iaload, 1) := by decide +kernel
theorem dL_law_798 : decode cL_law 798 = .ok (.aload_n 0, 1) := by decide +kernel
theorem dL_law_799 : decode cL_law 799 = .ok (.iload_n 3, 1) := by decide +kernel
theorem dL_law_800 : decode cL_law 800 = .ok (.iconst 3, 1) := by decide +kernel
theorem dL_law_801 : decode cL_law 801 = .ok (.iadd, 1) := by decide +kernel
theorem dL_law_802 : decode cL_law 802 = .ok (.iaload, 1) := by decide +kernel
theorem dL_law_803 : decode cL_law 803 = .ok (.invokevirtual 100, 3) := by decide +kernel
theorem dL_law_806 : decode cL_law 806 = .ok (.aload_n 2, 1) := by decide +kernel
theorem dL_law_807 : decode cL_law 807 = .ok (.aload_n 0, 1) := by decide +kernel
theorem dL_law_808 : decode cL_law 808 = .ok (.iload_n 3, 1) := by decide +kernel
theorem dL_law_809 : decode cL_law 809 = .ok (.iconst 1, 1) := by decide +kernel
theorem dL_law_810 : decode cL_law 810 = .ok (.iadd, 1) := by decide +kernel
theorem dL_law_811 : decode cL_law 811 = .ok (.iaload, 1) := by decide +kernel
theorem dL_law_812 : decode cL_law 812 = .ok (.aload_n 0, 1) := by decide +kernel
theorem dL_law_813 : decode cL_law 813 = .ok (.iload_n 3, 1) := by decide +kernel
theorem dL_law_814 : decode cL_law 814 = .ok (.iconst 2, 1) := by decide +kernel
theorem dL_law_815 : decode cL_law 815 = .ok (.iadd, 1) := by decide +kernel
theorem dL_law_816 : decode cL_law 816 = .ok (.iaload, 1) := by decide +kernel
theorem dL_law_817 : decode cL_law 817 = .ok (.aload_n 0, 1) := by decide +kernel
theorem dL_law_818 : decode cL_law 818 = .ok (.iload_n 3, 1) := by decide +kernel
theorem dL_law_819 : decode cL_law 819 = .ok (.iconst 3, 1) := by decide +kernel
theorem dL_law_820 : decode cL_law 820 = .ok (.iadd, 1) := by decide +kernel
theorem dL_law_821 : decode cL_law 821 = .ok (.iaload, 1) := by decide +kernel
theorem dL_law_822 : decode cL_law 822 = .ok (.invokevirtual 103, 3) := by decide +kernel
theorem dL_law_825 : decode cL_law 825 = .ok (.if_icmp .eq 144, 3) := by decide +kernel
theorem dL_law_828 : decode cL_law 828 = .ok (.iconst 0, 1) := by decide +kernel
theorem dL_law_829 : decode cL_law 829 = .ok (.ireturn, 1) := by decide +kernel
theorem dL_law_830 : decode cL_law 830 = .ok (.aload_n 1, 1) := by decide +kernel
theorem dL_law_831 : decode cL_law 831 = .ok (.invokevirtual 104, 3) := by decide +kernel
theorem dL_law_834 : decode cL_law 834 = .ok (.aload_n 2, 1) := by decide +kernel
theorem dL_law_835 : decode cL_law 835 = .ok (.invokevirtual 108, 3) := by decide +kernel
theorem dL_law_838 : decode cL_law 838 = .ok (.lcmp, 1) := by decide +kernel
theorem dL_law_839 : decode cL_law 839 = .ok (.ifCond .eq 130, 3) := by decide +kernel
theorem dL_law_842 : decode cL_law 842 = .ok (.iconst 0, 1) := by decide +kernel
theorem dL_law_843 : decode cL_law 843 = .ok (.ireturn, 1) := by decide +kernel
theorem dL_law_844 : decode cL_law 844 = .ok (.aload_n 1, 1) := by decide +kernel
theorem dL_law_845 : decode cL_law 845 = .ok (.aload_n 0, 1) := by decide +kernel
theorem dL_law_846 : decode cL_law 846 = .ok (.iload_n 3, 1) := by decide +kernel
theorem dL_law_847 : decode cL_law 847 = .ok (.iconst 1, 1) := by decide +kernel
theorem dL_law_848 : decode cL_law 848 = .ok (.iadd, 1) := by decide +kernel
theorem dL_law_849 : decode cL_law 849 = .ok (.iaload, 1) := by decide +kernel
theorem dL_law_850 : decode cL_law 850 = .ok (.invokevirtual 109, 3) := by decide +kernel
theorem dL_law_853 : decode cL_law 853 = .ok (.aload_n 2, 1) := by decide +kernel
theorem dL_law_854 : decode cL_law 854 = .ok (.aload_n 0, 1) := by decide +kernel
theorem dL_law_855 : decode cL_law 855 = .ok (.iload_n 3, 1) := by decide +kernel
theorem dL_law_856 : decode cL_law 856 = .ok (.iconst 1, 1) := by decide +kernel
theorem dL_law_857 : decode cL_law 857 = .ok (.iadd, 1) := by decide +kernel
theorem dL_law_858 : decode cL_law 858 = .ok (.iaload, 1) := by decide +kernel
theorem dL_law_859 : decode cL_law 859 = .ok (.invokevirtual 112, 3) := by decide +kernel
theorem dL_law_862 : decode cL_law 862 = .ok (.if_icmp .eq 107, 3) := by decide +kernel
theorem dL_law_865 : decode cL_law 865 = .ok (.iconst 0, 1) := by decide +kernel
theorem dL_law_866 : decode cL_law 866 = .ok (.ireturn, 1) := by decide +kernel
theorem dL_law_867 : decode cL_law 867 = .ok (.aload_n 1, 1) := by decide +kernel
theorem dL_law_868 : decode cL_law 868 = .ok (.invokevirtual 113, 3) := by decide +kernel
theorem dL_law_871 : decode cL_law 871 = .ok (.aload_n 2, 1) := by decide +kernel
theorem dL_law_872 : decode cL_law 872 = .ok (.invokevirtual 116, 3) := by decide +kernel
theorem dL_law_875 : decode cL_law 875 = .ok (.if_icmp .eq 94, 3) := by decide +kernel
theorem dL_law_878 : decode cL_law 878 = .ok (.iconst 0, 1) := by decide +kernel
theorem dL_law_879 : decode cL_law 879 = .ok (.ireturn, 1) := by decide +kernel
theorem dL_law_880 : decode cL_law 880 = .ok (.aload_n 1, 1) := by decide +kernel
theorem dL_law_881 : decode cL_law 881 = .ok (.aload_n 0, 1) := by decide +kernel
theorem dL_law_882 : decode cL_law 882 = .ok (.iload_n 3, 1) := by decide +kernel
theorem dL_law_883 : decode cL_law 883 = .ok (.iconst 1, 1) := by decide +kernel
theorem dL_law_884 : decode cL_law 884 = .ok (.iadd, 1) := by decide +kernel
theorem dL_law_885 : decode cL_law 885 = .ok (.iaload, 1) := by decide +kernel
theorem dL_law_886 : decode cL_law 886 = .ok (.invokevirtual 117, 3) := by decide +kernel
theorem dL_law_889 : decode cL_law 889 = .ok (.aload_n 2, 1) := by decide +kernel
theorem dL_law_890 : decode cL_law 890 = .ok (.aload_n 0, 1) := by decide +kernel
theorem dL_law_891 : decode cL_law 891 = .ok (.iload_n 3, 1) := by decide +kernel
theorem dL_law_892 : decode cL_law 892 = .ok (.iconst 1, 1) := by decide +kernel
theorem dL_law_893 : decode cL_law 893 = .ok (.iadd, 1) := by decide +kernel
theorem dL_law_894 : decode cL_law 894 = .ok (.iaload, 1) := by decide +kernel
theorem dL_law_895 : decode cL_law 895 = .ok (.invokevirtual 120, 3) := by decide +kernel
theorem dL_law_898 : decode cL_law 898 = .ok (.if_icmp .eq 71, 3) := by decide +kernel
theorem dL_law_901 : decode cL_law 901 = .ok (.iconst 0, 1) := by decide +kernel
theorem dL_law_902 : decode cL_law 902 = .ok (.ireturn, 1) := by decide +kernel
theorem dL_law_903 : decode cL_law 903 = .ok (.aload_n 1, 1) := by decide +kernel
theorem dL_law_904 : decode cL_law 904 = .ok (.aload_n 0, 1) := by decide +kernel
theorem dL_law_905 : decode cL_law 905 = .ok (.iload_n 3, 1) := by decide +kernel
theorem dL_law_906 : decode cL_law 906 = .ok (.iconst 1, 1) := by decide +kernel
theorem dL_law_907 : decode cL_law 907 = .ok (.iadd, 1) := by decide +kernel
theorem dL_law_908 : decode cL_law 908 = .ok (.iaload, 1) := by decide +kernel
theorem dL_law_909 : decode cL_law 909 = .ok (.aload_n 0, 1) := by decide +kernel
theorem dL_law_910 : decode cL_law 910 = .ok (.iload_n 3, 1) := by decide +kernel
theorem dL_law_911 : decode cL_law 911 = .ok (.iconst 2, 1) := by decide +kernel
theorem dL_law_912 : decode cL_law 912 = .ok (.iadd, 1) := by decide +kernel
theorem dL_law_913 : decode cL_law 913 = .ok (.iaload, 1) := by decide +kernel
theorem dL_law_914 : decode cL_law 914 = .ok (.aload_n 0, 1) := by decide +kernel
theorem dL_law_915 : decode cL_law 915 = .ok (.iload_n 3, 1) := by decide +kernel
theorem dL_law_916 : decode cL_law 916 = .ok (.iconst 3, 1) := by decide +kernel
theorem dL_law_917 : decode cL_law 917 = .ok (.iadd, 1) := by decide +kernel
theorem dL_law_918 : decode cL_law 918 = .ok (.iaload, 1) := by decide +kernel
theorem dL_law_919 : decode cL_law 919 = .ok (.invokevirtual 121, 3) := by decide +kernel
theorem dL_law_922 : decode cL_law 922 = .ok (.aload_n 2, 1) := by decide +kernel
theorem dL_law_923 : decode cL_law 923 = .ok (.aload_n 0, 1) := by decide +kernel
theorem dL_law_924 : decode cL_law 924 = .ok (.iload_n 3, 1) := by decide +kernel
theorem dL_law_925 : decode cL_law 925 = .ok (.iconst 1, 1) := by decide +kernel
theorem dL_law_926 : decode cL_law 926 = .ok (.iadd, 1) := by decide +kernel
theorem dL_law_927 : decode cL_law 927 = .ok (.iaload, 1) := by decide +kernel
theorem dL_law_928 : decode cL_law 928 = .ok (.aload_n 0, 1) := by decide +kernel
theorem dL_law_929 : decode cL_law 929 = .ok (.iload_n 3, 1) := by decide +kernel
theorem dL_law_930 : decode cL_law 930 = .ok (.iconst 2, 1) := by decide +kernel
theorem dL_law_931 : decode cL_law 931 = .ok (.iadd, 1) := by decide +kernel
theorem dL_law_932 : decode cL_law 932 = .ok (.iaload, 1) := by decide +kernel
theorem dL_law_933 : decode cL_law 933 = .ok (.aload_n 0, 1) := by decide +kernel
theorem dL_law_934 : decode cL_law 934 = .ok (.iload_n 3, 1) := by decide +kernel
theorem dL_law_935 : decode cL_law 935 = .ok (.iconst 3, 1) := by decide +kernel
theorem dL_law_936 : decode cL_law 936 = .ok (.iadd, 1) := by decide +kernel
theorem dL_law_937 : decode cL_law 937 = .ok (.iaload, 1) := by decide +kernel
theorem dL_law_938 : decode cL_law 938 = .ok (.invokevirtual 124, 3) := by decide +kernel
theorem dL_law_941 : decode cL_law 941 = .ok (.if_icmp .eq 28, 3) := by decide +kernel
theorem dL_law_944 : decode cL_law 944 = .ok (.iconst 0, 1) := by decide +kernel
theorem dL_law_945 : decode cL_law 945 = .ok (.ireturn, 1) := by decide +kernel
theorem dL_law_946 : decode cL_law 946 = .ok (.aload_n 1, 1) := by decide +kernel
theorem dL_law_947 : decode cL_law 947 = .ok (.aload_n 0, 1) := by decide +kernel
theorem dL_law_948 : decode cL_law 948 = .ok (.iload_n 3, 1) := by decide +kernel
theorem dL_law_949 : decode cL_law 949 = .ok (.iconst 1, 1) := by decide +kernel
theorem dL_law_950 : decode cL_law 950 = .ok (.iadd, 1) := by decide +kernel
theorem dL_law_951 : decode cL_law 951 = .ok (.iaload, 1) := by decide +kernel
theorem dL_law_952 : decode cL_law 952 = .ok (.invokevirtual 125, 3) := by decide +kernel
theorem dL_law_955 : decode cL_law 955 = .ok (.aload_n 2, 1) := by decide +kernel
theorem dL_law_956 : decode cL_law 956 = .ok (.aload_n 0, 1) := by decide +kernel
theorem dL_law_957 : decode cL_law 957 = .ok (.iload_n 3, 1) := by decide +kernel
theorem dL_law_958 : decode cL_law 958 = .ok (.iconst 1, 1) := by decide +kernel
theorem dL_law_959 : decode cL_law 959 = .ok (.iadd, 1) := by decide +kernel
theorem dL_law_960 : decode cL_law 960 = .ok (.iaload, 1) := by decide +kernel
theorem dL_law_961 : decode cL_law 961 = .ok (.invokevirtual 128, 3) := by decide +kernel
theorem dL_law_964 : decode cL_law 964 = .ok (.if_icmp .eq 5, 3) := by decide +kernel
theorem dL_law_967 : decode cL_law 967 = .ok (.iconst 0, 1) := by decide +kernel
theorem dL_law_968 : decode cL_law 968 = .ok (.ireturn, 1) := by decide +kernel
theorem dL_law_969 : decode cL_law 969 = .ok (.iinc 3 5, 3) := by decide +kernel
theorem dL_law_972 : decode cL_law 972 = .ok (.goto (-954), 3) := by decide +kernel
theorem dL_law_975 : decode cL_law 975 = .ok (.iconst 1, 1) := by decide +kernel
theorem dL_law_976 : decode cL_law 976 = .ok (.ireturn, 1) := by decide +kernel
