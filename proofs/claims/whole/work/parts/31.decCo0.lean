/-! decode rows, written by gen/dec.py -/
theorem d_Co_init_0 : decode Y_Co_init.2.2.1 0 = .ok (.aload_n 0, 1) := by decide +kernel
theorem d_Co_init_1 : decode Y_Co_init.2.2.1 1 = .ok (.invokespecial 3, 3) := by decide +kernel
theorem d_Co_init_4 : decode Y_Co_init.2.2.1 4 = .ok (.aload_n 0, 1) := by decide +kernel
theorem d_Co_init_5 : decode Y_Co_init.2.2.1 5 = .ok (.iload_n 1, 1) := by decide +kernel
theorem d_Co_init_6 : decode Y_Co_init.2.2.1 6 = .ok (.putfield 9, 3) := by decide +kernel
theorem d_Co_init_9 : decode Y_Co_init.2.2.1 9 = .ok (.aload_n 0, 1) := by decide +kernel
theorem d_Co_init_10 : decode Y_Co_init.2.2.1 10 = .ok (.iconst 0, 1) := by decide +kernel
theorem d_Co_init_11 : decode Y_Co_init.2.2.1 11 = .ok (.putfield 15, 3) := by decide +kernel
theorem d_Co_init_14 : decode Y_Co_init.2.2.1 14 = .ok (.aload_n 0, 1) := by decide +kernel
theorem d_Co_init_15 : decode Y_Co_init.2.2.1 15 = .ok (.iload_n 1, 1) := by decide +kernel
theorem d_Co_init_16 : decode Y_Co_init.2.2.1 16 = .ok (.iload_n 1, 1) := by decide +kernel
theorem d_Co_init_17 : decode Y_Co_init.2.2.1 17 = .ok (.multianewarray 18 2, 4) := by decide +kernel
theorem d_Co_init_21 : decode Y_Co_init.2.2.1 21 = .ok (.putfield 20, 3) := by decide +kernel
theorem d_Co_init_24 : decode Y_Co_init.2.2.1 24 = .ok (.return_, 1) := by decide +kernel
theorem d_Co_copy_0 : decode Y_Co_copy.2.2.1 0 = .ok (.aload_n 0, 1) := by decide +kernel
theorem d_Co_copy_1 : decode Y_Co_copy.2.2.1 1 = .ok (.aload_n 1, 1) := by decide +kernel
theorem d_Co_copy_2 : decode Y_Co_copy.2.2.1 2 = .ok (.getfield 15, 3) := by decide +kernel
theorem d_Co_copy_5 : decode Y_Co_copy.2.2.1 5 = .ok (.putfield 15, 3) := by decide +kernel
theorem d_Co_copy_8 : decode Y_Co_copy.2.2.1 8 = .ok (.iconst 0, 1) := by decide +kernel
theorem d_Co_copy_9 : decode Y_Co_copy.2.2.1 9 = .ok (.istore_n 2, 1) := by decide +kernel
theorem d_Co_copy_10 : decode Y_Co_copy.2.2.1 10 = .ok (.iload_n 2, 1) := by decide +kernel
theorem d_Co_copy_11 : decode Y_Co_copy.2.2.1 11 = .ok (.aload_n 0, 1) := by decide +kernel
theorem d_Co_copy_12 : decode Y_Co_copy.2.2.1 12 = .ok (.getfield 9, 3) := by decide +kernel
theorem d_Co_copy_15 : decode Y_Co_copy.2.2.1 15 = .ok (.if_icmp .ge 30, 3) := by decide +kernel
theorem d_Co_copy_18 : decode Y_Co_copy.2.2.1 18 = .ok (.aload_n 1, 1) := by decide +kernel
theorem d_Co_copy_19 : decode Y_Co_copy.2.2.1 19 = .ok (.getfield 20, 3) := by decide +kernel
theorem d_Co_copy_22 : decode Y_Co_copy.2.2.1 22 = .ok (.iload_n 2, 1) := by decide +kernel
theorem d_Co_copy_23 : decode Y_Co_copy.2.2.1 23 = .ok (.aaload, 1) := by decide +kernel
theorem d_Co_copy_24 : decode Y_Co_copy.2.2.1 24 = .ok (.iconst 0, 1) := by decide +kernel
theorem d_Co_copy_25 : decode Y_Co_copy.2.2.1 25 = .ok (.aload_n 0, 1) := by decide +kernel
theorem d_Co_copy_26 : decode Y_Co_copy.2.2.1 26 = .ok (.getfield 20, 3) := by decide +kernel
theorem d_Co_copy_29 : decode Y_Co_copy.2.2.1 29 = .ok (.iload_n 2, 1) := by decide +kernel
theorem d_Co_copy_30 : decode Y_Co_copy.2.2.1 30 = .ok (.aaload, 1) := by decide +kernel
theorem d_Co_copy_31 : decode Y_Co_copy.2.2.1 31 = .ok (.iconst 0, 1) := by decide +kernel
theorem d_Co_copy_32 : decode Y_Co_copy.2.2.1 32 = .ok (.aload_n 0, 1) := by decide +kernel
theorem d_Co_copy_33 : decode Y_Co_copy.2.2.1 33 = .ok (.getfield 9, 3) := by decide +kernel
theorem d_Co_copy_36 : decode Y_Co_copy.2.2.1 36 = .ok (.invokestatic 23, 3) := by decide +kernel
theorem d_Co_copy_39 : decode Y_Co_copy.2.2.1 39 = .ok (.iinc 2 1, 3) := by decide +kernel
theorem d_Co_copy_42 : decode Y_Co_copy.2.2.1 42 = .ok (.goto (-32), 3) := by decide +kernel
theorem d_Co_copy_45 : decode Y_Co_copy.2.2.1 45 = .ok (.return_, 1) := by decide +kernel
theorem d_Co_putIn_0 : decode Y_Co_putIn.2.2.1 0 = .ok (.iconst 0, 1) := by decide +kernel
theorem d_Co_putIn_1 : decode Y_Co_putIn.2.2.1 1 = .ok (.istore_n 2, 1) := by decide +kernel
theorem d_Co_putIn_2 : decode Y_Co_putIn.2.2.1 2 = .ok (.iload_n 2, 1) := by decide +kernel
theorem d_Co_putIn_3 : decode Y_Co_putIn.2.2.1 3 = .ok (.aload_n 1, 1) := by decide +kernel
theorem d_Co_putIn_4 : decode Y_Co_putIn.2.2.1 4 = .ok (.getfield 29, 3) := by decide +kernel
theorem d_Co_putIn_7 : decode Y_Co_putIn.2.2.1 7 = .ok (.if_icmp .ge 25, 3) := by decide +kernel
theorem d_Co_putIn_10 : decode Y_Co_putIn.2.2.1 10 = .ok (.aload_n 0, 1) := by decide +kernel
theorem d_Co_putIn_11 : decode Y_Co_putIn.2.2.1 11 = .ok (.aload_n 1, 1) := by decide +kernel
theorem d_Co_putIn_12 : decode Y_Co_putIn.2.2.1 12 = .ok (.getfield 34, 3) := by decide +kernel
theorem d_Co_putIn_15 : decode Y_Co_putIn.2.2.1 15 = .ok (.iload_n 2, 1) := by decide +kernel
theorem d_Co_putIn_16 : decode Y_Co_putIn.2.2.1 16 = .ok (.iaload, 1) := by decide +kernel
theorem d_Co_putIn_17 : decode Y_Co_putIn.2.2.1 17 = .ok (.aload_n 1, 1) := by decide +kernel
theorem d_Co_putIn_18 : decode Y_Co_putIn.2.2.1 18 = .ok (.getfield 38, 3) := by decide +kernel
theorem d_Co_putIn_21 : decode Y_Co_putIn.2.2.1 21 = .ok (.iload_n 2, 1) := by decide +kernel
theorem d_Co_putIn_22 : decode Y_Co_putIn.2.2.1 22 = .ok (.iaload, 1) := by decide +kernel
theorem d_Co_putIn_23 : decode Y_Co_putIn.2.2.1 23 = .ok (.invokevirtual 41, 3) := by decide +kernel
theorem d_Co_putIn_26 : decode Y_Co_putIn.2.2.1 26 = .ok (.iinc 2 1, 3) := by decide +kernel
theorem d_Co_putIn_29 : decode Y_Co_putIn.2.2.1 29 = .ok (.goto (-27), 3) := by decide +kernel
theorem d_Co_putIn_32 : decode Y_Co_putIn.2.2.1 32 = .ok (.return_, 1) := by decide +kernel
theorem d_Co_takeOut_0 : decode Y_Co_takeOut.2.2.1 0 = .ok (.iconst 0, 1) := by decide +kernel
theorem d_Co_takeOut_1 : decode Y_Co_takeOut.2.2.1 1 = .ok (.istore_n 2, 1) := by decide +kernel
theorem d_Co_takeOut_2 : decode Y_Co_takeOut.2.2.1 2 = .ok (.iload_n 2, 1) := by decide +kernel
theorem d_Co_takeOut_3 : decode Y_Co_takeOut.2.2.1 3 = .ok (.aload_n 1, 1) := by decide +kernel
theorem d_Co_takeOut_4 : decode Y_Co_takeOut.2.2.1 4 = .ok (.getfield 29, 3) := by decide +kernel
theorem d_Co_takeOut_7 : decode Y_Co_takeOut.2.2.1 7 = .ok (.if_icmp .ge 26, 3) := by decide +kernel
theorem d_Co_takeOut_10 : decode Y_Co_takeOut.2.2.1 10 = .ok (.aload_n 0, 1) := by decide +kernel
theorem d_Co_takeOut_11 : decode Y_Co_takeOut.2.2.1 11 = .ok (.aload_n 1, 1) := by decide +kernel
theorem d_Co_takeOut_12 : decode Y_Co_takeOut.2.2.1 12 = .ok (.getfield 34, 3) := by decide +kernel
theorem d_Co_takeOut_15 : decode Y_Co_takeOut.2.2.1 15 = .ok (.iload_n 2, 1) := by decide +kernel
theorem d_Co_takeOut_16 : decode Y_Co_takeOut.2.2.1 16 = .ok (.iaload, 1) := by decide +kernel
theorem d_Co_takeOut_17 : decode Y_Co_takeOut.2.2.1 17 = .ok (.aload_n 1, 1) := by decide +kernel
theorem d_Co_takeOut_18 : decode Y_Co_takeOut.2.2.1 18 = .ok (.getfield 38, 3) := by decide +kernel
theorem d_Co_takeOut_21 : decode Y_Co_takeOut.2.2.1 21 = .ok (.iload_n 2, 1) := by decide +kernel
theorem d_Co_takeOut_22 : decode Y_Co_takeOut.2.2.1 22 = .ok (.iaload, 1) := by decide +kernel
theorem d_Co_takeOut_23 : decode Y_Co_takeOut.2.2.1 23 = .ok (.ineg, 1) := by decide +kernel
theorem d_Co_takeOut_24 : decode Y_Co_takeOut.2.2.1 24 = .ok (.invokevirtual 41, 3) := by decide +kernel
theorem d_Co_takeOut_27 : decode Y_Co_takeOut.2.2.1 27 = .ok (.iinc 2 1, 3) := by decide +kernel
theorem d_Co_takeOut_30 : decode Y_Co_takeOut.2.2.1 30 = .ok (.goto (-28), 3) := by decide +kernel
theorem d_Co_takeOut_33 : decode Y_Co_takeOut.2.2.1 33 = .ok (.return_, 1) := by decide +kernel
theorem d_Co_add_0 : decode Y_Co_add.2.2.1 0 = .ok (.aload_n 0, 1) := by decide +kernel
theorem d_Co_add_1 : decode Y_Co_add.2.2.1 1 = .ok (.dup, 1) := by decide +kernel
theorem d_Co_add_2 : decode Y_Co_add.2.2.1 2 = .ok (.getfield 15, 3) := by decide +kernel
theorem d_Co_add_5 : decode Y_Co_add.2.2.1 5 = .ok (.iload_n 2, 1) := by decide +kernel
theorem d_Co_add_6 : decode Y_Co_add.2.2.1 6 = .ok (.iadd, 1) := by decide +kernel
theorem d_Co_add_7 : decode Y_Co_add.2.2.1 7 = .ok (.putfield 15, 3) := by decide +kernel
theorem d_Co_add_10 : decode Y_Co_add.2.2.1 10 = .ok (.iconst 0, 1) := by decide +kernel
theorem d_Co_add_11 : decode Y_Co_add.2.2.1 11 = .ok (.istore_n 3, 1) := by decide +kernel
theorem d_Co_add_12 : decode Y_Co_add.2.2.1 12 = .ok (.iload_n 3, 1) := by decide +kernel
theorem d_Co_add_13 : decode Y_Co_add.2.2.1 13 = .ok (.aload_n 0, 1) := by decide +kernel
theorem d_Co_add_14 : decode Y_Co_add.2.2.1 14 = .ok (.getfield 9, 3) := by decide +kernel
theorem d_Co_add_17 : decode Y_Co_add.2.2.1 17 = .ok (.if_icmp .ge 50, 3) := by decide +kernel
theorem d_Co_add_20 : decode Y_Co_add.2.2.1 20 = .ok (.iconst 0, 1) := by decide +kernel
theorem d_Co_add_21 : decode Y_Co_add.2.2.1 21 = .ok (.istore 4, 2) := by decide +kernel
theorem d_Co_add_23 : decode Y_Co_add.2.2.1 23 = .ok (.iload 4, 2) := by decide +kernel
theorem d_Co_add_25 : decode Y_Co_add.2.2.1 25 = .ok (.aload_n 0, 1) := by decide +kernel
theorem d_Co_add_26 : decode Y_Co_add.2.2.1 26 = .ok (.getfield 9, 3) := by decide +kernel
theorem d_Co_add_29 : decode Y_Co_add.2.2.1 29 = .ok (.if_icmp .ge 32, 3) := by decide +kernel
theorem d_Co_add_32 : decode Y_Co_add.2.2.1 32 = .ok (.iload_n 1, 1) := by decide +kernel
theorem d_Co_add_33 : decode Y_Co_add.2.2.1 33 = .ok (.iload_n 3, 1) := by decide +kernel
theorem d_Co_add_34 : decode Y_Co_add.2.2.1 34 = .ok (.iload 4, 2) := by decide +kernel
theorem d_Co_add_36 : decode Y_Co_add.2.2.1 36 = .ok (.invokestatic 45, 3) := by decide +kernel
theorem d_Co_add_39 : decode Y_Co_add.2.2.1 39 = .ok (.ifCond .eq 16, 3) := by decide +kernel
theorem d_Co_add_42 : decode Y_Co_add.2.2.1 42 = .ok (.aload_n 0, 1) := by decide +kernel
theorem d_Co_add_43 : decode Y_Co_add.2.2.1 43 = .ok (.getfield 20, 3) := by decide +kernel
theorem d_Co_add_46 : decode Y_Co_add.2.2.1 46 = .ok (.iload_n 3, 1) := by decide +kernel
theorem d_Co_add_47 : decode Y_Co_add.2.2.1 47 = .ok (.aaload, 1) := by decide +kernel
theorem d_Co_add_48 : decode Y_Co_add.2.2.1 48 = .ok (.iload 4, 2) := by decide +kernel
theorem d_Co_add_50 : decode Y_Co_add.2.2.1 50 = .ok (.dup2, 1) := by decide +kernel
theorem d_Co_add_51 : decode Y_Co_add.2.2.1 51 = .ok (.iaload, 1) := by decide +kernel
theorem d_Co_add_52 : decode Y_Co_add.2.2.1 52 = .ok (.iload_n 2, 1) := by decide +kernel
theorem d_Co_add_53 : decode Y_Co_add.2.2.1 53 = .ok (.iadd, 1) := by decide +kernel
theorem d_Co_add_54 : decode Y_Co_add.2.2.1 54 = .ok (.iastore, 1) := by decide +kernel
theorem d_Co_add_55 : decode Y_Co_add.2.2.1 55 = .ok (.iinc 4 1, 3) := by decide +kernel
theorem d_Co_add_58 : decode Y_Co_add.2.2.1 58 = .ok (.goto (-35), 3) := by decide +kernel
theorem d_Co_add_61 : decode Y_Co_add.2.2.1 61 = .ok (.iinc 3 1, 3) := by decide +kernel
theorem d_Co_add_64 : decode Y_Co_add.2.2.1 64 = .ok (.goto (-52), 3) := by decide +kernel
theorem d_Co_add_67 : decode Y_Co_add.2.2.1 67 = .ok (.return_, 1) := by decide +kernel
theorem d_Co_comesBefore_0 : decode Y_Co_comesBefore.2.2.1 0 = .ok (.iload_n 0, 1) := by decide +kernel
theorem d_Co_comesBefore_1 : decode Y_Co_comesBefore.2.2.1 1 = .ok (.iload_n 1, 1) := by decide +kernel
theorem d_Co_comesBefore_2 : decode Y_Co_comesBefore.2.2.1 2 = .ok (.invokestatic 49, 3) := by decide +kernel
theorem d_Co_comesBefore_5 : decode Y_Co_comesBefore.2.2.1 5 = .ok (.istore_n 3, 1) := by decide +kernel
theorem d_Co_comesBefore_6 : decode Y_Co_comesBefore.2.2.1 6 = .ok (.iload_n 0, 1) := by decide +kernel
theorem d_Co_comesBefore_7 : decode Y_Co_comesBefore.2.2.1 7 = .ok (.iload_n 2, 1) := by decide +kernel
theorem d_Co_comesBefore_8 : decode Y_Co_comesBefore.2.2.1 8 = .ok (.invokestatic 49, 3) := by decide +kernel
theorem d_Co_comesBefore_11 : decode Y_Co_comesBefore.2.2.1 11 = .ok (.istore 4, 2) := by decide +kernel
theorem d_Co_comesBefore_13 : decode Y_Co_comesBefore.2.2.1 13 = .ok (.iload_n 3, 1) := by decide +kernel
theorem d_Co_comesBefore_14 : decode Y_Co_comesBefore.2.2.1 14 = .ok (.ifCond .eq 18, 3) := by decide +kernel
theorem d_Co_comesBefore_17 : decode Y_Co_comesBefore.2.2.1 17 = .ok (.iload 4, 2) := by decide +kernel
theorem d_Co_comesBefore_19 : decode Y_Co_comesBefore.2.2.1 19 = .ok (.ifCond .eq 9, 3) := by decide +kernel
theorem d_Co_comesBefore_22 : decode Y_Co_comesBefore.2.2.1 22 = .ok (.iload_n 3, 1) := by decide +kernel
theorem d_Co_comesBefore_23 : decode Y_Co_comesBefore.2.2.1 23 = .ok (.iload 4, 2) := by decide +kernel
theorem d_Co_comesBefore_25 : decode Y_Co_comesBefore.2.2.1 25 = .ok (.if_icmp .ge 7, 3) := by decide +kernel
theorem d_Co_comesBefore_28 : decode Y_Co_comesBefore.2.2.1 28 = .ok (.iconst 1, 1) := by decide +kernel
theorem d_Co_comesBefore_29 : decode Y_Co_comesBefore.2.2.1 29 = .ok (.goto 4, 3) := by decide +kernel
theorem d_Co_comesBefore_32 : decode Y_Co_comesBefore.2.2.1 32 = .ok (.iconst 0, 1) := by decide +kernel
theorem d_Co_comesBefore_33 : decode Y_Co_comesBefore.2.2.1 33 = .ok (.ireturn, 1) := by decide +kernel
theorem d_Co_direct_0 : decode Y_Co_direct.2.2.1 0 = .ok (.aload_n 0, 1) := by decide +kernel
theorem d_Co_direct_1 : decode Y_Co_direct.2.2.1 1 = .ok (.getfield 20, 3) := by decide +kernel
theorem d_Co_direct_4 : decode Y_Co_direct.2.2.1 4 = .ok (.iload_n 1, 1) := by decide +kernel
theorem d_Co_direct_5 : decode Y_Co_direct.2.2.1 5 = .ok (.aaload, 1) := by decide +kernel
theorem d_Co_direct_6 : decode Y_Co_direct.2.2.1 6 = .ok (.iload_n 2, 1) := by decide +kernel
theorem d_Co_direct_7 : decode Y_Co_direct.2.2.1 7 = .ok (.iaload, 1) := by decide +kernel
theorem d_Co_direct_8 : decode Y_Co_direct.2.2.1 8 = .ok (.aload_n 0, 1) := by decide +kernel
theorem d_Co_direct_9 : decode Y_Co_direct.2.2.1 9 = .ok (.getfield 20, 3) := by decide +kernel
theorem d_Co_direct_12 : decode Y_Co_direct.2.2.1 12 = .ok (.iload_n 2, 1) := by decide +kernel
theorem d_Co_direct_13 : decode Y_Co_direct.2.2.1 13 = .ok (.aaload, 1) := by decide +kernel
theorem d_Co_direct_14 : decode Y_Co_direct.2.2.1 14 = .ok (.iload_n 1, 1) := by decide +kernel
theorem d_Co_direct_15 : decode Y_Co_direct.2.2.1 15 = .ok (.iaload, 1) := by decide +kernel
theorem d_Co_direct_16 : decode Y_Co_direct.2.2.1 16 = .ok (.if_icmp .le 14, 3) := by decide +kernel
theorem d_Co_direct_19 : decode Y_Co_direct.2.2.1 19 = .ok (.aload_n 0, 1) := by decide +kernel
theorem d_Co_direct_20 : decode Y_Co_direct.2.2.1 20 = .ok (.getfield 20, 3) := by decide +kernel
theorem d_Co_direct_23 : decode Y_Co_direct.2.2.1 23 = .ok (.iload_n 1, 1) := by decide +kernel
theorem d_Co_direct_24 : decode Y_Co_direct.2.2.1 24 = .ok (.aaload, 1) := by decide +kernel
theorem d_Co_direct_25 : decode Y_Co_direct.2.2.1 25 = .ok (.iload_n 2, 1) := by decide +kernel
theorem d_Co_direct_26 : decode Y_Co_direct.2.2.1 26 = .ok (.iaload, 1) := by decide +kernel
theorem d_Co_direct_27 : decode Y_Co_direct.2.2.1 27 = .ok (.goto 4, 3) := by decide +kernel
theorem d_Co_direct_30 : decode Y_Co_direct.2.2.1 30 = .ok (.iconst 0, 1) := by decide +kernel
theorem d_Co_direct_31 : decode Y_Co_direct.2.2.1 31 = .ok (.ireturn, 1) := by decide +kernel
theorem d_Co_isWay_0 : decode Y_Co_isWay.2.2.1 0 = .ok (.iload 4, 2) := by decide +kernel
theorem d_Co_isWay_2 : decode Y_Co_isWay.2.2.1 2 = .ok (.iconst 0, 1) := by decide +kernel
theorem d_Co_isWay_3 : decode Y_Co_isWay.2.2.1 3 = .ok (.invokestatic 49, 3) := by decide +kernel
theorem d_Co_isWay_6 : decode Y_Co_isWay.2.2.1 6 = .ok (.iload_n 1, 1) := by decide +kernel
theorem d_Co_isWay_7 : decode Y_Co_isWay.2.2.1 7 = .ok (.iconst 1, 1) := by decide +kernel
theorem d_Co_isWay_8 : decode Y_Co_isWay.2.2.1 8 = .ok (.iadd, 1) := by decide +kernel
theorem d_Co_isWay_9 : decode Y_Co_isWay.2.2.1 9 = .ok (.if_icmp .eq 5, 3) := by decide +kernel
theorem d_Co_isWay_12 : decode Y_Co_isWay.2.2.1 12 = .ok (.iconst 0, 1) := by decide +kernel
theorem d_Co_isWay_13 : decode Y_Co_isWay.2.2.1 13 = .ok (.ireturn, 1) := by decide +kernel
theorem d_Co_isWay_14 : decode Y_Co_isWay.2.2.1 14 = .ok (.iload_n 1, 1) := by decide +kernel
theorem d_Co_isWay_15 : decode Y_Co_isWay.2.2.1 15 = .ok (.istore 5, 2) := by decide +kernel
theorem d_Co_isWay_17 : decode Y_Co_isWay.2.2.1 17 = .ok (.iload 4, 2) := by decide +kernel
theorem d_Co_isWay_19 : decode Y_Co_isWay.2.2.1 19 = .ok (.iconst 4, 1) := by decide +kernel
theorem d_Co_isWay_20 : decode Y_Co_isWay.2.2.1 20 = .ok (.iushr, 1) := by decide +kernel
theorem d_Co_isWay_21 : decode Y_Co_isWay.2.2.1 21 = .ok (.istore 6, 2) := by decide +kernel
theorem d_Co_isWay_23 : decode Y_Co_isWay.2.2.1 23 = .ok (.iconst 1, 1) := by decide +kernel
theorem d_Co_isWay_24 : decode Y_Co_isWay.2.2.1 24 = .ok (.istore 7, 2) := by decide +kernel
theorem d_Co_isWay_26 : decode Y_Co_isWay.2.2.1 26 = .ok (.iload 7, 2) := by decide +kernel
theorem d_Co_isWay_28 : decode Y_Co_isWay.2.2.1 28 = .ok (.bipush 8, 2) := by decide +kernel
theorem d_Co_isWay_30 : decode Y_Co_isWay.2.2.1 30 = .ok (.if_icmp .ge 62, 3) := by decide +kernel
theorem d_Co_isWay_33 : decode Y_Co_isWay.2.2.1 33 = .ok (.iload 6, 2) := by decide +kernel
theorem d_Co_isWay_35 : decode Y_Co_isWay.2.2.1 35 = .ok (.ifCond .eq 57, 3) := by decide +kernel
theorem d_Co_isWay_38 : decode Y_Co_isWay.2.2.1 38 = .ok (.iload 6, 2) := by decide +kernel
theorem d_Co_isWay_40 : decode Y_Co_isWay.2.2.1 40 = .ok (.iconst 0, 1) := by decide +kernel
theorem d_Co_isWay_41 : decode Y_Co_isWay.2.2.1 41 = .ok (.invokestatic 49, 3) := by decide +kernel
theorem d_Co_isWay_44 : decode Y_Co_isWay.2.2.1 44 = .ok (.iconst 1, 1) := by decide +kernel
theorem d_Co_isWay_45 : decode Y_Co_isWay.2.2.1 45 = .ok (.isub, 1) := by decide +kernel
theorem d_Co_isWay_46 : decode Y_Co_isWay.2.2.1 46 = .ok (.istore 8, 2) := by decide +kernel
theorem d_Co_isWay_48 : decode Y_Co_isWay.2.2.1 48 = .ok (.iload 8, 2) := by decide +kernel
theorem d_Co_isWay_50 : decode Y_Co_isWay.2.2.1 50 = .ok (.ifCond .lt 24, 3) := by decide +kernel
theorem d_Co_isWay_53 : decode Y_Co_isWay.2.2.1 53 = .ok (.iload 8, 2) := by decide +kernel
theorem d_Co_isWay_55 : decode Y_Co_isWay.2.2.1 55 = .ok (.aload_n 0, 1) := by decide +kernel
theorem d_Co_isWay_56 : decode Y_Co_isWay.2.2.1 56 = .ok (.getfield 9, 3) := by decide +kernel
theorem d_Co_isWay_59 : decode Y_Co_isWay.2.2.1 59 = .ok (.if_icmp .ge 15, 3) := by decide +kernel
theorem d_Co_isWay_62 : decode Y_Co_isWay.2.2.1 62 = .ok (.aload_n 0, 1) := by decide +kernel
theorem d_Co_isWay_63 : decode Y_Co_isWay.2.2.1 63 = .ok (.iload 5, 2) := by decide +kernel
theorem d_Co_isWay_65 : decode Y_Co_isWay.2.2.1 65 = .ok (.iload 8, 2) := by decide +kernel
theorem d_Co_isWay_67 : decode Y_Co_isWay.2.2.1 67 = .ok (.invokevirtual 53, 3) := by decide +kernel
theorem d_Co_isWay_70 : decode Y_Co_isWay.2.2.1 70 = .ok (.iload_n 3, 1) := by decide +kernel
theorem d_Co_isWay_71 : decode Y_Co_isWay.2.2.1 71 = .ok (.if_icmp .ge 5, 3) := by decide +kernel
theorem d_Co_isWay_74 : decode Y_Co_isWay.2.2.1 74 = .ok (.iconst 0, 1) := by decide +kernel
theorem d_Co_isWay_75 : decode Y_Co_isWay.2.2.1 75 = .ok (.ireturn, 1) := by decide +kernel
theorem d_Co_isWay_76 : decode Y_Co_isWay.2.2.1 76 = .ok (.iload 8, 2) := by decide +kernel
theorem d_Co_isWay_78 : decode Y_Co_isWay.2.2.1 78 = .ok (.istore 5, 2) := by decide +kernel
theorem d_Co_isWay_80 : decode Y_Co_isWay.2.2.1 80 = .ok (.iload 6, 2) := by decide +kernel
theorem d_Co_isWay_82 : decode Y_Co_isWay.2.2.1 82 = .ok (.iconst 4, 1) := by decide +kernel
theorem d_Co_isWay_83 : decode Y_Co_isWay.2.2.1 83 = .ok (.iushr, 1) := by decide +kernel
theorem d_Co_isWay_84 : decode Y_Co_isWay.2.2.1 84 = .ok (.istore 6, 2) := by decide +kernel
theorem d_Co_isWay_86 : decode Y_Co_isWay.2.2.1 86 = .ok (.iinc 7 1, 3) := by decide +kernel
theorem d_Co_isWay_89 : decode Y_Co_isWay.2.2.1 89 = .ok (.goto (-63), 3) := by decide +kernel
theorem d_Co_isWay_92 : decode Y_Co_isWay.2.2.1 92 = .ok (.iload 5, 2) := by decide +kernel
theorem d_Co_isWay_94 : decode Y_Co_isWay.2.2.1 94 = .ok (.iload_n 2, 1) := by decide +kernel
theorem d_Co_isWay_95 : decode Y_Co_isWay.2.2.1 95 = .ok (.if_icmp .ne 7, 3) := by decide +kernel
theorem d_Co_isWay_98 : decode Y_Co_isWay.2.2.1 98 = .ok (.iconst 1, 1) := by decide +kernel
theorem d_Co_isWay_99 : decode Y_Co_isWay.2.2.1 99 = .ok (.goto 4, 3) := by decide +kernel
theorem d_Co_isWay_102 : decode Y_Co_isWay.2.2.1 102 = .ok (.iconst 0, 1) := by decide +kernel
theorem d_Co_isWay_103 : decode Y_Co_isWay.2.2.1 103 = .ok (.ireturn, 1) := by decide +kernel
theorem d_Co_isHeldIn_0 : decode Y_Co_isHeldIn.2.2.1 0 = .ok (.iload_n 1, 1) := by decide +kernel
theorem d_Co_isHeldIn_1 : decode Y_Co_isHeldIn.2.2.1 1 = .ok (.aload_n 0, 1) := by decide +kernel
theorem d_Co_isHeldIn_2 : decode Y_Co_isHeldIn.2.2.1 2 = .ok (.getfield 9, 3) := by decide +kernel
theorem d_Co_isHeldIn_5 : decode Y_Co_isHeldIn.2.2.1 5 = .ok (.iushr, 1) := by decide +kernel
theorem d_Co_isHeldIn_6 : decode Y_Co_isHeldIn.2.2.1 6 = .ok (.ifCond .eq 5, 3) := by decide +kernel
theorem d_Co_isHeldIn_9 : decode Y_Co_isHeldIn.2.2.1 9 = .ok (.iconst 0, 1) := by decide +kernel
theorem d_Co_isHeldIn_10 : decode Y_Co_isHeldIn.2.2.1 10 = .ok (.ireturn, 1) := by decide +kernel
theorem d_Co_isHeldIn_11 : decode Y_Co_isHeldIn.2.2.1 11 = .ok (.iconst 0, 1) := by decide +kernel
theorem d_Co_isHeldIn_12 : decode Y_Co_isHeldIn.2.2.1 12 = .ok (.istore_n 3, 1) := by decide +kernel
theorem d_Co_isHeldIn_13 : decode Y_Co_isHeldIn.2.2.1 13 = .ok (.iload_n 3, 1) := by decide +kernel
theorem d_Co_isHeldIn_14 : decode Y_Co_isHeldIn.2.2.1 14 = .ok (.aload_n 0, 1) := by decide +kernel
theorem d_Co_isHeldIn_15 : decode Y_Co_isHeldIn.2.2.1 15 = .ok (.getfield 9, 3) := by decide +kernel
theorem d_Co_isHeldIn_18 : decode Y_Co_isHeldIn.2.2.1 18 = .ok (.if_icmp .ge 57, 3) := by decide +kernel
theorem d_Co_isHeldIn_21 : decode Y_Co_isHeldIn.2.2.1 21 = .ok (.iconst 0, 1) := by decide +kernel
theorem d_Co_isHeldIn_22 : decode Y_Co_isHeldIn.2.2.1 22 = .ok (.istore 4, 2) := by decide +kernel
theorem d_Co_isHeldIn_24 : decode Y_Co_isHeldIn.2.2.1 24 = .ok (.iload 4, 2) := by decide +kernel
theorem d_Co_isHeldIn_26 : decode Y_Co_isHeldIn.2.2.1 26 = .ok (.aload_n 0, 1) := by decide +kernel
theorem d_Co_isHeldIn_27 : decode Y_Co_isHeldIn.2.2.1 27 = .ok (.getfield 9, 3) := by decide +kernel
theorem d_Co_isHeldIn_30 : decode Y_Co_isHeldIn.2.2.1 30 = .ok (.if_icmp .ge 39, 3) := by decide +kernel
theorem d_Co_isHeldIn_33 : decode Y_Co_isHeldIn.2.2.1 33 = .ok (.iload_n 1, 1) := by decide +kernel
theorem d_Co_isHeldIn_34 : decode Y_Co_isHeldIn.2.2.1 34 = .ok (.iload_n 3, 1) := by decide +kernel
theorem d_Co_isHeldIn_35 : decode Y_Co_isHeldIn.2.2.1 35 = .ok (.invokestatic 56, 3) := by decide +kernel
theorem d_Co_isHeldIn_38 : decode Y_Co_isHeldIn.2.2.1 38 = .ok (.ifCond .eq 25, 3) := by decide +kernel
theorem d_Co_isHeldIn_41 : decode Y_Co_isHeldIn.2.2.1 41 = .ok (.iload_n 1, 1) := by decide +kernel
theorem d_Co_isHeldIn_42 : decode Y_Co_isHeldIn.2.2.1 42 = .ok (.iload 4, 2) := by decide +kernel
theorem d_Co_isHeldIn_44 : decode Y_Co_isHeldIn.2.2.1 44 = .ok (.invokestatic 56, 3) := by decide +kernel
theorem d_Co_isHeldIn_47 : decode Y_Co_isHeldIn.2.2.1 47 = .ok (.ifCond .ne 16, 3) := by decide +kernel
theorem d_Co_isHeldIn_50 : decode Y_Co_isHeldIn.2.2.1 50 = .ok (.aload_n 0, 1) := by decide +kernel
theorem d_Co_isHeldIn_51 : decode Y_Co_isHeldIn.2.2.1 51 = .ok (.iload_n 3, 1) := by decide +kernel
theorem d_Co_isHeldIn_52 : decode Y_Co_isHeldIn.2.2.1 52 = .ok (.iload 4, 2) := by decide +kernel
theorem d_Co_isHeldIn_54 : decode Y_Co_isHeldIn.2.2.1 54 = .ok (.invokevirtual 53, 3) := by decide +kernel
theorem d_Co_isHeldIn_57 : decode Y_Co_isHeldIn.2.2.1 57 = .ok (.iload_n 2, 1) := by decide +kernel
theorem d_Co_isHeldIn_58 : decode Y_Co_isHeldIn.2.2.1 58 = .ok (.if_icmp .le 5, 3) := by decide +kernel
theorem d_Co_isHeldIn_61 : decode Y_Co_isHeldIn.2.2.1 61 = .ok (.iconst 0, 1) := by decide +kernel
theorem d_Co_isHeldIn_62 : decode Y_Co_isHeldIn.2.2.1 62 = .ok (.ireturn, 1) := by decide +kernel
theorem d_Co_isHeldIn_63 : decode Y_Co_isHeldIn.2.2.1 63 = .ok (.iinc 4 1, 3) := by decide +kernel
theorem d_Co_isHeldIn_66 : decode Y_Co_isHeldIn.2.2.1 66 = .ok (.goto (-42), 3) := by decide +kernel
theorem d_Co_isHeldIn_69 : decode Y_Co_isHeldIn.2.2.1 69 = .ok (.iinc 3 1, 3) := by decide +kernel
theorem d_Co_isHeldIn_72 : decode Y_Co_isHeldIn.2.2.1 72 = .ok (.goto (-59), 3) := by decide +kernel
theorem d_Co_isHeldIn_75 : decode Y_Co_isHeldIn.2.2.1 75 = .ok (.iconst 1, 1) := by decide +kernel
theorem d_Co_isHeldIn_76 : decode Y_Co_isHeldIn.2.2.1 76 = .ok (.ireturn, 1) := by decide +kernel
theorem d_Co_topSet_0 : decode Y_Co_topSet.2.2.1 0 = .ok (.aload_n 0, 1) := by decide +kernel
theorem d_Co_topSet_1 : decode Y_Co_topSet.2.2.1 1 = .ok (.iconst 0, 1) := by decide +kernel
theorem d_Co_topSet_2 : decode Y_Co_topSet.2.2.1 2 = .ok (.invokevirtual 60, 3) := by decide +kernel
theorem d_Co_topSet_5 : decode Y_Co_topSet.2.2.1 5 = .ok (.istore_n 1, 1) := by decide +kernel
theorem d_Co_topSet_6 : decode Y_Co_topSet.2.2.1 6 = .ok (.iconst 1, 1) := by decide +kernel
theorem d_Co_topSet_7 : decode Y_Co_topSet.2.2.1 7 = .ok (.istore_n 2, 1) := by decide +kernel
theorem d_Co_topSet_8 : decode Y_Co_topSet.2.2.1 8 = .ok (.iload_n 2, 1) := by decide +kernel
theorem d_Co_topSet_9 : decode Y_Co_topSet.2.2.1 9 = .ok (.aload_n 0, 1) := by decide +kernel
theorem d_Co_topSet_10 : decode Y_Co_topSet.2.2.1 10 = .ok (.getfield 9, 3) := by decide +kernel
theorem d_Co_topSet_13 : decode Y_Co_topSet.2.2.1 13 = .ok (.if_icmp .ge 28, 3) := by decide +kernel
theorem d_Co_topSet_16 : decode Y_Co_topSet.2.2.1 16 = .ok (.aload_n 0, 1) := by decide +kernel
theorem d_Co_topSet_17 : decode Y_Co_topSet.2.2.1 17 = .ok (.iload_n 2, 1) := by decide +kernel
theorem d_Co_topSet_18 : decode Y_Co_topSet.2.2.1 18 = .ok (.invokevirtual 60, 3) := by decide +kernel
theorem d_Co_topSet_21 : decode Y_Co_topSet.2.2.1 21 = .ok (.istore_n 3, 1) := by decide +kernel
theorem d_Co_topSet_22 : decode Y_Co_topSet.2.2.1 22 = .ok (.iload_n 3, 1) := by decide +kernel
theorem d_Co_topSet_23 : decode Y_Co_topSet.2.2.1 23 = .ok (.invokestatic 64, 3) := by decide +kernel
theorem d_Co_topSet_26 : decode Y_Co_topSet.2.2.1 26 = .ok (.iload_n 1, 1) := by decide +kernel
theorem d_Co_topSet_27 : decode Y_Co_topSet.2.2.1 27 = .ok (.invokestatic 64, 3) := by decide +kernel
theorem d_Co_topSet_30 : decode Y_Co_topSet.2.2.1 30 = .ok (.if_icmp .ge 5, 3) := by decide +kernel
theorem d_Co_topSet_33 : decode Y_Co_topSet.2.2.1 33 = .ok (.iload_n 3, 1) := by decide +kernel
theorem d_Co_topSet_34 : decode Y_Co_topSet.2.2.1 34 = .ok (.istore_n 1, 1) := by decide +kernel
theorem d_Co_topSet_35 : decode Y_Co_topSet.2.2.1 35 = .ok (.iinc 2 1, 3) := by decide +kernel
theorem d_Co_topSet_38 : decode Y_Co_topSet.2.2.1 38 = .ok (.goto (-30), 3) := by decide +kernel
theorem d_Co_topSet_41 : decode Y_Co_topSet.2.2.1 41 = .ok (.iload_n 1, 1) := by decide +kernel
theorem d_Co_topSet_42 : decode Y_Co_topSet.2.2.1 42 = .ok (.ireturn, 1) := by decide +kernel
theorem d_Co_beatingSetAround_0 : decode Y_Co_beatingSetAround.2.2.1 0 = .ok (.iconst 1, 1) := by decide +kernel
theorem d_Co_beatingSetAround_1 : decode Y_Co_beatingSetAround.2.2.1 1 = .ok (.iload_n 1, 1) := by decide +kernel
theorem d_Co_beatingSetAround_2 : decode Y_Co_beatingSetAround.2.2.1 2 = .ok (.ishl, 1) := by decide +kernel
theorem d_Co_beatingSetAround_3 : decode Y_Co_beatingSetAround.2.2.1 3 = .ok (.istore_n 2, 1) := by decide +kernel
theorem d_Co_beatingSetAround_4 : decode Y_Co_beatingSetAround.2.2.1 4 = .ok (.iconst 0, 1) := by decide +kernel
theorem d_Co_beatingSetAround_5 : decode Y_Co_beatingSetAround.2.2.1 5 = .ok (.istore_n 3, 1) := by decide +kernel
theorem d_Co_beatingSetAround_6 : decode Y_Co_beatingSetAround.2.2.1 6 = .ok (.iload_n 3, 1) := by decide +kernel
theorem d_Co_beatingSetAround_7 : decode Y_Co_beatingSetAround.2.2.1 7 = .ok (.aload_n 0, 1) := by decide +kernel
theorem d_Co_beatingSetAround_8 : decode Y_Co_beatingSetAround.2.2.1 8 = .ok (.getfield 9, 3) := by decide +kernel
theorem d_Co_beatingSetAround_11 : decode Y_Co_beatingSetAround.2.2.1 11 = .ok (.if_icmp .ge 45, 3) := by decide +kernel
theorem d_Co_beatingSetAround_14 : decode Y_Co_beatingSetAround.2.2.1 14 = .ok (.iconst 0, 1) := by decide +kernel
theorem d_Co_beatingSetAround_15 : decode Y_Co_beatingSetAround.2.2.1 15 = .ok (.istore 4, 2) := by decide +kernel
theorem d_Co_beatingSetAround_17 : decode Y_Co_beatingSetAround.2.2.1 17 = .ok (.iload 4, 2) := by decide +kernel
theorem d_Co_beatingSetAround_19 : decode Y_Co_beatingSetAround.2.2.1 19 = .ok (.aload_n 0, 1) := by decide +kernel
theorem d_Co_beatingSetAround_20 : decode Y_Co_beatingSetAround.2.2.1 20 = .ok (.getfield 9, 3) := by decide +kernel
theorem d_Co_beatingSetAround_23 : decode Y_Co_beatingSetAround.2.2.1 23 = .ok (.if_icmp .ge 27, 3) := by decide +kernel
theorem d_Co_beatingSetAround_26 : decode Y_Co_beatingSetAround.2.2.1 26 = .ok (.iload_n 2, 1) := by decide +kernel
theorem d_Co_beatingSetAround_27 : decode Y_Co_beatingSetAround.2.2.1 27 = .ok (.iload 4, 2) := by decide +kernel
theorem d_Co_beatingSetAround_29 : decode Y_Co_beatingSetAround.2.2.1 29 = .ok (.invokestatic 56, 3) := by decide +kernel
theorem d_Co_beatingSetAround_32 : decode Y_Co_beatingSetAround.2.2.1 32 = .ok (.ifCond .eq 12, 3) := by decide +kernel
theorem d_Co_beatingSetAround_35 : decode Y_Co_beatingSetAround.2.2.1 35 = .ok (.iload_n 2, 1) := by decide +kernel
theorem d_Co_beatingSetAround_36 : decode Y_Co_beatingSetAround.2.2.1 36 = .ok (.aload_n 0, 1) := by decide +kernel
theorem d_Co_beatingSetAround_37 : decode Y_Co_beatingSetAround.2.2.1 37 = .ok (.iload 4, 2) := by decide +kernel
theorem d_Co_beatingSetAround_39 : decode Y_Co_beatingSetAround.2.2.1 39 = .ok (.invokevirtual 69, 3) := by decide +kernel
theorem d_Co_beatingSetAround_42 : decode Y_Co_beatingSetAround.2.2.1 42 = .ok (.ior, 1) := by decide +kernel
theorem d_Co_beatingSetAround_43 : decode Y_Co_beatingSetAround.2.2.1 43 = .ok (.istore_n 2, 1) := by decide +kernel
theorem d_Co_beatingSetAround_44 : decode Y_Co_beatingSetAround.2.2.1 44 = .ok (.iinc 4 1, 3) := by decide +kernel
theorem d_Co_beatingSetAround_47 : decode Y_Co_beatingSetAround.2.2.1 47 = .ok (.goto (-30), 3) := by decide +kernel
theorem d_Co_beatingSetAround_50 : decode Y_Co_beatingSetAround.2.2.1 50 = .ok (.iinc 3 1, 3) := by decide +kernel
theorem d_Co_beatingSetAround_53 : decode Y_Co_beatingSetAround.2.2.1 53 = .ok (.goto (-47), 3) := by decide +kernel
theorem d_Co_beatingSetAround_56 : decode Y_Co_beatingSetAround.2.2.1 56 = .ok (.iload_n 2, 1) := by decide +kernel
theorem d_Co_beatingSetAround_57 : decode Y_Co_beatingSetAround.2.2.1 57 = .ok (.ireturn, 1) := by decide +kernel
theorem d_Co_notBeatenBy_0 : decode Y_Co_notBeatenBy.2.2.1 0 = .ok (.iconst 0, 1) := by decide +kernel
theorem d_Co_notBeatenBy_1 : decode Y_Co_notBeatenBy.2.2.1 1 = .ok (.istore_n 2, 1) := by decide +kernel
theorem d_Co_notBeatenBy_2 : decode Y_Co_notBeatenBy.2.2.1 2 = .ok (.iconst 0, 1) := by decide +kernel
theorem d_Co_notBeatenBy_3 : decode Y_Co_notBeatenBy.2.2.1 3 = .ok (.istore_n 3, 1) := by decide +kernel
theorem d_Co_notBeatenBy_4 : decode Y_Co_notBeatenBy.2.2.1 4 = .ok (.iload_n 3, 1) := by decide +kernel
theorem d_Co_notBeatenBy_5 : decode Y_Co_notBeatenBy.2.2.1 5 = .ok (.aload_n 0, 1) := by decide +kernel
theorem d_Co_notBeatenBy_6 : decode Y_Co_notBeatenBy.2.2.1 6 = .ok (.getfield 9, 3) := by decide +kernel
theorem d_Co_notBeatenBy_9 : decode Y_Co_notBeatenBy.2.2.1 9 = .ok (.if_icmp .ge 24, 3) := by decide +kernel
theorem d_Co_notBeatenBy_12 : decode Y_Co_notBeatenBy.2.2.1 12 = .ok (.aload_n 0, 1) := by decide +kernel
theorem d_Co_notBeatenBy_13 : decode Y_Co_notBeatenBy.2.2.1 13 = .ok (.iload_n 1, 1) := by decide +kernel
theorem d_Co_notBeatenBy_14 : decode Y_Co_notBeatenBy.2.2.1 14 = .ok (.iload_n 3, 1) := by decide +kernel
theorem d_Co_notBeatenBy_15 : decode Y_Co_notBeatenBy.2.2.1 15 = .ok (.invokevirtual 53, 3) := by decide +kernel
theorem d_Co_notBeatenBy_18 : decode Y_Co_notBeatenBy.2.2.1 18 = .ok (.ifCond .ne 9, 3) := by decide +kernel
theorem d_Co_notBeatenBy_21 : decode Y_Co_notBeatenBy.2.2.1 21 = .ok (.iload_n 2, 1) := by decide +kernel
theorem d_Co_notBeatenBy_22 : decode Y_Co_notBeatenBy.2.2.1 22 = .ok (.iconst 1, 1) := by decide +kernel
theorem d_Co_notBeatenBy_23 : decode Y_Co_notBeatenBy.2.2.1 23 = .ok (.iload_n 3, 1) := by decide +kernel
theorem d_Co_notBeatenBy_24 : decode Y_Co_notBeatenBy.2.2.1 24 = .ok (.ishl, 1) := by decide +kernel
theorem d_Co_notBeatenBy_25 : decode Y_Co_notBeatenBy.2.2.1 25 = .ok (.ior, 1) := by decide +kernel
theorem d_Co_notBeatenBy_26 : decode Y_Co_notBeatenBy.2.2.1 26 = .ok (.istore_n 2, 1) := by decide +kernel
theorem d_Co_notBeatenBy_27 : decode Y_Co_notBeatenBy.2.2.1 27 = .ok (.iinc 3 1, 3) := by decide +kernel
theorem d_Co_notBeatenBy_30 : decode Y_Co_notBeatenBy.2.2.1 30 = .ok (.goto (-26), 3) := by decide +kernel
theorem d_Co_notBeatenBy_33 : decode Y_Co_notBeatenBy.2.2.1 33 = .ok (.iload_n 2, 1) := by decide +kernel
theorem d_Co_notBeatenBy_34 : decode Y_Co_notBeatenBy.2.2.1 34 = .ok (.ireturn, 1) := by decide +kernel
theorem d_Ar_fill_0 : decode Y_Ar_fill.2.2.1 0 = .ok (.iconst 0, 1) := by decide +kernel
theorem d_Ar_fill_1 : decode Y_Ar_fill.2.2.1 1 = .ok (.istore_n 2, 1) := by decide +kernel
theorem d_Ar_fill_2 : decode Y_Ar_fill.2.2.1 2 = .ok (.aload_n 0, 1) := by decide +kernel
theorem d_Ar_fill_3 : decode Y_Ar_fill.2.2.1 3 = .ok (.arraylength, 1) := by decide +kernel
theorem d_Ar_fill_4 : decode Y_Ar_fill.2.2.1 4 = .ok (.istore_n 3, 1) := by decide +kernel
theorem d_Ar_fill_5 : decode Y_Ar_fill.2.2.1 5 = .ok (.iload_n 2, 1) := by decide +kernel
theorem d_Ar_fill_6 : decode Y_Ar_fill.2.2.1 6 = .ok (.iload_n 3, 1) := by decide +kernel
theorem d_Ar_fill_7 : decode Y_Ar_fill.2.2.1 7 = .ok (.if_icmp .ge 13, 3) := by decide +kernel
theorem d_Ar_fill_10 : decode Y_Ar_fill.2.2.1 10 = .ok (.aload_n 0, 1) := by decide +kernel
theorem d_Ar_fill_11 : decode Y_Ar_fill.2.2.1 11 = .ok (.iload_n 2, 1) := by decide +kernel
theorem d_Ar_fill_12 : decode Y_Ar_fill.2.2.1 12 = .ok (.iload_n 1, 1) := by decide +kernel
theorem d_Ar_fill_13 : decode Y_Ar_fill.2.2.1 13 = .ok (.iastore, 1) := by decide +kernel
theorem d_Ar_fill_14 : decode Y_Ar_fill.2.2.1 14 = .ok (.iinc 2 1, 3) := by decide +kernel
theorem d_Ar_fill_17 : decode Y_Ar_fill.2.2.1 17 = .ok (.goto (-12), 3) := by decide +kernel
theorem d_Ar_fill_20 : decode Y_Ar_fill.2.2.1 20 = .ok (.return_, 1) := by decide +kernel
theorem d_In_bitCount_0 : decode Y_In_bitCount.2.2.1 0 = .ok (.iload_n 0, 1) := by decide +kernel
theorem d_In_bitCount_1 : decode Y_In_bitCount.2.2.1 1 = .ok (.iload_n 0, 1) := by decide +kernel
theorem d_In_bitCount_2 : decode Y_In_bitCount.2.2.1 2 = .ok (.iconst 1, 1) := by decide +kernel
theorem d_In_bitCount_3 : decode Y_In_bitCount.2.2.1 3 = .ok (.iushr, 1) := by decide +kernel
theorem d_In_bitCount_4 : decode Y_In_bitCount.2.2.1 4 = .ok (.ldc_w 265, 3) := by decide +kernel
theorem d_In_bitCount_7 : decode Y_In_bitCount.2.2.1 7 = .ok (.iand, 1) := by decide +kernel
theorem d_In_bitCount_8 : decode Y_In_bitCount.2.2.1 8 = .ok (.isub, 1) := by decide +kernel
theorem d_In_bitCount_9 : decode Y_In_bitCount.2.2.1 9 = .ok (.istore_n 0, 1) := by decide +kernel
theorem d_In_bitCount_10 : decode Y_In_bitCount.2.2.1 10 = .ok (.iload_n 0, 1) := by decide +kernel
theorem d_In_bitCount_11 : decode Y_In_bitCount.2.2.1 11 = .ok (.ldc_w 266, 3) := by decide +kernel
theorem d_In_bitCount_14 : decode Y_In_bitCount.2.2.1 14 = .ok (.iand, 1) := by decide +kernel
theorem d_In_bitCount_15 : decode Y_In_bitCount.2.2.1 15 = .ok (.iload_n 0, 1) := by decide +kernel
theorem d_In_bitCount_16 : decode Y_In_bitCount.2.2.1 16 = .ok (.iconst 2, 1) := by decide +kernel
theorem d_In_bitCount_17 : decode Y_In_bitCount.2.2.1 17 = .ok (.iushr, 1) := by decide +kernel
theorem d_In_bitCount_18 : decode Y_In_bitCount.2.2.1 18 = .ok (.ldc_w 266, 3) := by decide +kernel
theorem d_In_bitCount_21 : decode Y_In_bitCount.2.2.1 21 = .ok (.iand, 1) := by decide +kernel
theorem d_In_bitCount_22 : decode Y_In_bitCount.2.2.1 22 = .ok (.iadd, 1) := by decide +kernel
theorem d_In_bitCount_23 : decode Y_In_bitCount.2.2.1 23 = .ok (.istore_n 0, 1) := by decide +kernel
theorem d_In_bitCount_24 : decode Y_In_bitCount.2.2.1 24 = .ok (.iload_n 0, 1) := by decide +kernel
theorem d_In_bitCount_25 : decode Y_In_bitCount.2.2.1 25 = .ok (.iload_n 0, 1) := by decide +kernel
theorem d_In_bitCount_26 : decode Y_In_bitCount.2.2.1 26 = .ok (.iconst 4, 1) := by decide +kernel
theorem d_In_bitCount_27 : decode Y_In_bitCount.2.2.1 27 = .ok (.iushr, 1) := by decide +kernel
theorem d_In_bitCount_28 : decode Y_In_bitCount.2.2.1 28 = .ok (.iadd, 1) := by decide +kernel
theorem d_In_bitCount_29 : decode Y_In_bitCount.2.2.1 29 = .ok (.ldc_w 267, 3) := by decide +kernel
theorem d_In_bitCount_32 : decode Y_In_bitCount.2.2.1 32 = .ok (.iand, 1) := by decide +kernel
theorem d_In_bitCount_33 : decode Y_In_bitCount.2.2.1 33 = .ok (.istore_n 0, 1) := by decide +kernel
theorem d_In_bitCount_34 : decode Y_In_bitCount.2.2.1 34 = .ok (.iload_n 0, 1) := by decide +kernel
theorem d_In_bitCount_35 : decode Y_In_bitCount.2.2.1 35 = .ok (.iload_n 0, 1) := by decide +kernel
theorem d_In_bitCount_36 : decode Y_In_bitCount.2.2.1 36 = .ok (.bipush 8, 2) := by decide +kernel
theorem d_In_bitCount_38 : decode Y_In_bitCount.2.2.1 38 = .ok (.iushr, 1) := by decide +kernel
theorem d_In_bitCount_39 : decode Y_In_bitCount.2.2.1 39 = .ok (.iadd, 1) := by decide +kernel
theorem d_In_bitCount_40 : decode Y_In_bitCount.2.2.1 40 = .ok (.istore_n 0, 1) := by decide +kernel
theorem d_In_bitCount_41 : decode Y_In_bitCount.2.2.1 41 = .ok (.iload_n 0, 1) := by decide +kernel
theorem d_In_bitCount_42 : decode Y_In_bitCount.2.2.1 42 = .ok (.iload_n 0, 1) := by decide +kernel
theorem d_In_bitCount_43 : decode Y_In_bitCount.2.2.1 43 = .ok (.bipush 16, 2) := by decide +kernel
theorem d_In_bitCount_45 : decode Y_In_bitCount.2.2.1 45 = .ok (.iushr, 1) := by decide +kernel
theorem d_In_bitCount_46 : decode Y_In_bitCount.2.2.1 46 = .ok (.iadd, 1) := by decide +kernel
theorem d_In_bitCount_47 : decode Y_In_bitCount.2.2.1 47 = .ok (.istore_n 0, 1) := by decide +kernel
theorem d_In_bitCount_48 : decode Y_In_bitCount.2.2.1 48 = .ok (.iload_n 0, 1) := by decide +kernel
theorem d_In_bitCount_49 : decode Y_In_bitCount.2.2.1 49 = .ok (.bipush 63, 2) := by decide +kernel
theorem d_In_bitCount_51 : decode Y_In_bitCount.2.2.1 51 = .ok (.iand, 1) := by decide +kernel
theorem d_In_bitCount_52 : decode Y_In_bitCount.2.2.1 52 = .ok (.ireturn, 1) := by decide +kernel
