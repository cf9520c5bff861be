/-! decode rows, written by gen/dec.py -/
theorem d_Pa_init_0 : decode Y_Pa_init.2.2.1 0 = .ok (.aload_n 0, 1) := by decide +kernel
theorem d_Pa_init_1 : decode Y_Pa_init.2.2.1 1 = .ok (.invokespecial 3, 3) := by decide +kernel
theorem d_Pa_init_4 : decode Y_Pa_init.2.2.1 4 = .ok (.aload_n 0, 1) := by decide +kernel
theorem d_Pa_init_5 : decode Y_Pa_init.2.2.1 5 = .ok (.iload_n 1, 1) := by decide +kernel
theorem d_Pa_init_6 : decode Y_Pa_init.2.2.1 6 = .ok (.putfield 9, 3) := by decide +kernel
theorem d_Pa_init_9 : decode Y_Pa_init.2.2.1 9 = .ok (.aload_n 0, 1) := by decide +kernel
theorem d_Pa_init_10 : decode Y_Pa_init.2.2.1 10 = .ok (.iload_n 1, 1) := by decide +kernel
theorem d_Pa_init_11 : decode Y_Pa_init.2.2.1 11 = .ok (.iload_n 1, 1) := by decide +kernel
theorem d_Pa_init_12 : decode Y_Pa_init.2.2.1 12 = .ok (.multianewarray 15 2, 4) := by decide +kernel
theorem d_Pa_init_16 : decode Y_Pa_init.2.2.1 16 = .ok (.putfield 17, 3) := by decide +kernel
theorem d_Pa_init_19 : decode Y_Pa_init.2.2.1 19 = .ok (.aload_n 0, 1) := by decide +kernel
theorem d_Pa_init_20 : decode Y_Pa_init.2.2.1 20 = .ok (.iload_n 1, 1) := by decide +kernel
theorem d_Pa_init_21 : decode Y_Pa_init.2.2.1 21 = .ok (.newarray .int, 2) := by decide +kernel
theorem d_Pa_init_23 : decode Y_Pa_init.2.2.1 23 = .ok (.putfield 20, 3) := by decide +kernel
theorem d_Pa_init_26 : decode Y_Pa_init.2.2.1 26 = .ok (.return_, 1) := by decide +kernel
theorem d_Pa_weigh_0 : decode Y_Pa_weigh.2.2.1 0 = .ok (.iconst 0, 1) := by decide +kernel
theorem d_Pa_weigh_1 : decode Y_Pa_weigh.2.2.1 1 = .ok (.istore_n 2, 1) := by decide +kernel
theorem d_Pa_weigh_2 : decode Y_Pa_weigh.2.2.1 2 = .ok (.iload_n 2, 1) := by decide +kernel
theorem d_Pa_weigh_3 : decode Y_Pa_weigh.2.2.1 3 = .ok (.aload_n 0, 1) := by decide +kernel
theorem d_Pa_weigh_4 : decode Y_Pa_weigh.2.2.1 4 = .ok (.getfield 9, 3) := by decide +kernel
theorem d_Pa_weigh_7 : decode Y_Pa_weigh.2.2.1 7 = .ok (.if_icmp .ge 39, 3) := by decide +kernel
theorem d_Pa_weigh_10 : decode Y_Pa_weigh.2.2.1 10 = .ok (.iconst 0, 1) := by decide +kernel
theorem d_Pa_weigh_11 : decode Y_Pa_weigh.2.2.1 11 = .ok (.istore_n 3, 1) := by decide +kernel
theorem d_Pa_weigh_12 : decode Y_Pa_weigh.2.2.1 12 = .ok (.iload_n 3, 1) := by decide +kernel
theorem d_Pa_weigh_13 : decode Y_Pa_weigh.2.2.1 13 = .ok (.aload_n 0, 1) := by decide +kernel
theorem d_Pa_weigh_14 : decode Y_Pa_weigh.2.2.1 14 = .ok (.getfield 9, 3) := by decide +kernel
theorem d_Pa_weigh_17 : decode Y_Pa_weigh.2.2.1 17 = .ok (.if_icmp .ge 23, 3) := by decide +kernel
theorem d_Pa_weigh_20 : decode Y_Pa_weigh.2.2.1 20 = .ok (.aload_n 0, 1) := by decide +kernel
theorem d_Pa_weigh_21 : decode Y_Pa_weigh.2.2.1 21 = .ok (.getfield 17, 3) := by decide +kernel
theorem d_Pa_weigh_24 : decode Y_Pa_weigh.2.2.1 24 = .ok (.iload_n 2, 1) := by decide +kernel
theorem d_Pa_weigh_25 : decode Y_Pa_weigh.2.2.1 25 = .ok (.aaload, 1) := by decide +kernel
theorem d_Pa_weigh_26 : decode Y_Pa_weigh.2.2.1 26 = .ok (.iload_n 3, 1) := by decide +kernel
theorem d_Pa_weigh_27 : decode Y_Pa_weigh.2.2.1 27 = .ok (.aload_n 1, 1) := by decide +kernel
theorem d_Pa_weigh_28 : decode Y_Pa_weigh.2.2.1 28 = .ok (.iload_n 2, 1) := by decide +kernel
theorem d_Pa_weigh_29 : decode Y_Pa_weigh.2.2.1 29 = .ok (.iload_n 3, 1) := by decide +kernel
theorem d_Pa_weigh_30 : decode Y_Pa_weigh.2.2.1 30 = .ok (.invokevirtual 24, 3) := by decide +kernel
theorem d_Pa_weigh_33 : decode Y_Pa_weigh.2.2.1 33 = .ok (.iastore, 1) := by decide +kernel
theorem d_Pa_weigh_34 : decode Y_Pa_weigh.2.2.1 34 = .ok (.iinc 3 1, 3) := by decide +kernel
theorem d_Pa_weigh_37 : decode Y_Pa_weigh.2.2.1 37 = .ok (.goto (-25), 3) := by decide +kernel
theorem d_Pa_weigh_40 : decode Y_Pa_weigh.2.2.1 40 = .ok (.iinc 2 1, 3) := by decide +kernel
theorem d_Pa_weigh_43 : decode Y_Pa_weigh.2.2.1 43 = .ok (.goto (-41), 3) := by decide +kernel
theorem d_Pa_weigh_46 : decode Y_Pa_weigh.2.2.1 46 = .ok (.iconst 0, 1) := by decide +kernel
theorem d_Pa_weigh_47 : decode Y_Pa_weigh.2.2.1 47 = .ok (.istore_n 2, 1) := by decide +kernel
theorem d_Pa_weigh_48 : decode Y_Pa_weigh.2.2.1 48 = .ok (.iload_n 2, 1) := by decide +kernel
theorem d_Pa_weigh_49 : decode Y_Pa_weigh.2.2.1 49 = .ok (.aload_n 0, 1) := by decide +kernel
theorem d_Pa_weigh_50 : decode Y_Pa_weigh.2.2.1 50 = .ok (.getfield 9, 3) := by decide +kernel
theorem d_Pa_weigh_53 : decode Y_Pa_weigh.2.2.1 53 = .ok (.if_icmp .ge 31, 3) := by decide +kernel
theorem d_Pa_weigh_56 : decode Y_Pa_weigh.2.2.1 56 = .ok (.iconst 0, 1) := by decide +kernel
theorem d_Pa_weigh_57 : decode Y_Pa_weigh.2.2.1 57 = .ok (.istore_n 3, 1) := by decide +kernel
theorem d_Pa_weigh_58 : decode Y_Pa_weigh.2.2.1 58 = .ok (.iload_n 3, 1) := by decide +kernel
theorem d_Pa_weigh_59 : decode Y_Pa_weigh.2.2.1 59 = .ok (.aload_n 0, 1) := by decide +kernel
theorem d_Pa_weigh_60 : decode Y_Pa_weigh.2.2.1 60 = .ok (.getfield 9, 3) := by decide +kernel
theorem d_Pa_weigh_63 : decode Y_Pa_weigh.2.2.1 63 = .ok (.if_icmp .ge 15, 3) := by decide +kernel
theorem d_Pa_weigh_66 : decode Y_Pa_weigh.2.2.1 66 = .ok (.aload_n 0, 1) := by decide +kernel
theorem d_Pa_weigh_67 : decode Y_Pa_weigh.2.2.1 67 = .ok (.iload_n 3, 1) := by decide +kernel
theorem d_Pa_weigh_68 : decode Y_Pa_weigh.2.2.1 68 = .ok (.iload_n 2, 1) := by decide +kernel
theorem d_Pa_weigh_69 : decode Y_Pa_weigh.2.2.1 69 = .ok (.invokevirtual 30, 3) := by decide +kernel
theorem d_Pa_weigh_72 : decode Y_Pa_weigh.2.2.1 72 = .ok (.iinc 3 1, 3) := by decide +kernel
theorem d_Pa_weigh_75 : decode Y_Pa_weigh.2.2.1 75 = .ok (.goto (-17), 3) := by decide +kernel
theorem d_Pa_weigh_78 : decode Y_Pa_weigh.2.2.1 78 = .ok (.iinc 2 1, 3) := by decide +kernel
theorem d_Pa_weigh_81 : decode Y_Pa_weigh.2.2.1 81 = .ok (.goto (-33), 3) := by decide +kernel
theorem d_Pa_weigh_84 : decode Y_Pa_weigh.2.2.1 84 = .ok (.return_, 1) := by decide +kernel
theorem d_Pa_widen_0 : decode Y_Pa_widen.2.2.1 0 = .ok (.iconst 0, 1) := by decide +kernel
theorem d_Pa_widen_1 : decode Y_Pa_widen.2.2.1 1 = .ok (.istore_n 3, 1) := by decide +kernel
theorem d_Pa_widen_2 : decode Y_Pa_widen.2.2.1 2 = .ok (.iload_n 3, 1) := by decide +kernel
theorem d_Pa_widen_3 : decode Y_Pa_widen.2.2.1 3 = .ok (.aload_n 0, 1) := by decide +kernel
theorem d_Pa_widen_4 : decode Y_Pa_widen.2.2.1 4 = .ok (.getfield 9, 3) := by decide +kernel
theorem d_Pa_widen_7 : decode Y_Pa_widen.2.2.1 7 = .ok (.if_icmp .ge 51, 3) := by decide +kernel
theorem d_Pa_widen_10 : decode Y_Pa_widen.2.2.1 10 = .ok (.aload_n 0, 1) := by decide +kernel
theorem d_Pa_widen_11 : decode Y_Pa_widen.2.2.1 11 = .ok (.getfield 17, 3) := by decide +kernel
theorem d_Pa_widen_14 : decode Y_Pa_widen.2.2.1 14 = .ok (.iload_n 1, 1) := by decide +kernel
theorem d_Pa_widen_15 : decode Y_Pa_widen.2.2.1 15 = .ok (.aaload, 1) := by decide +kernel
theorem d_Pa_widen_16 : decode Y_Pa_widen.2.2.1 16 = .ok (.iload_n 2, 1) := by decide +kernel
theorem d_Pa_widen_17 : decode Y_Pa_widen.2.2.1 17 = .ok (.iaload, 1) := by decide +kernel
theorem d_Pa_widen_18 : decode Y_Pa_widen.2.2.1 18 = .ok (.aload_n 0, 1) := by decide +kernel
theorem d_Pa_widen_19 : decode Y_Pa_widen.2.2.1 19 = .ok (.getfield 17, 3) := by decide +kernel
theorem d_Pa_widen_22 : decode Y_Pa_widen.2.2.1 22 = .ok (.iload_n 2, 1) := by decide +kernel
theorem d_Pa_widen_23 : decode Y_Pa_widen.2.2.1 23 = .ok (.aaload, 1) := by decide +kernel
theorem d_Pa_widen_24 : decode Y_Pa_widen.2.2.1 24 = .ok (.iload_n 3, 1) := by decide +kernel
theorem d_Pa_widen_25 : decode Y_Pa_widen.2.2.1 25 = .ok (.iaload, 1) := by decide +kernel
theorem d_Pa_widen_26 : decode Y_Pa_widen.2.2.1 26 = .ok (.invokestatic 34, 3) := by decide +kernel
theorem d_Pa_widen_29 : decode Y_Pa_widen.2.2.1 29 = .ok (.istore 4, 2) := by decide +kernel
theorem d_Pa_widen_31 : decode Y_Pa_widen.2.2.1 31 = .ok (.aload_n 0, 1) := by decide +kernel
theorem d_Pa_widen_32 : decode Y_Pa_widen.2.2.1 32 = .ok (.getfield 17, 3) := by decide +kernel
theorem d_Pa_widen_35 : decode Y_Pa_widen.2.2.1 35 = .ok (.iload_n 1, 1) := by decide +kernel
theorem d_Pa_widen_36 : decode Y_Pa_widen.2.2.1 36 = .ok (.aaload, 1) := by decide +kernel
theorem d_Pa_widen_37 : decode Y_Pa_widen.2.2.1 37 = .ok (.iload_n 3, 1) := by decide +kernel
theorem d_Pa_widen_38 : decode Y_Pa_widen.2.2.1 38 = .ok (.aload_n 0, 1) := by decide +kernel
theorem d_Pa_widen_39 : decode Y_Pa_widen.2.2.1 39 = .ok (.getfield 17, 3) := by decide +kernel
theorem d_Pa_widen_42 : decode Y_Pa_widen.2.2.1 42 = .ok (.iload_n 1, 1) := by decide +kernel
theorem d_Pa_widen_43 : decode Y_Pa_widen.2.2.1 43 = .ok (.aaload, 1) := by decide +kernel
theorem d_Pa_widen_44 : decode Y_Pa_widen.2.2.1 44 = .ok (.iload_n 3, 1) := by decide +kernel
theorem d_Pa_widen_45 : decode Y_Pa_widen.2.2.1 45 = .ok (.iaload, 1) := by decide +kernel
theorem d_Pa_widen_46 : decode Y_Pa_widen.2.2.1 46 = .ok (.iload 4, 2) := by decide +kernel
theorem d_Pa_widen_48 : decode Y_Pa_widen.2.2.1 48 = .ok (.invokestatic 39, 3) := by decide +kernel
theorem d_Pa_widen_51 : decode Y_Pa_widen.2.2.1 51 = .ok (.iastore, 1) := by decide +kernel
theorem d_Pa_widen_52 : decode Y_Pa_widen.2.2.1 52 = .ok (.iinc 3 1, 3) := by decide +kernel
theorem d_Pa_widen_55 : decode Y_Pa_widen.2.2.1 55 = .ok (.goto (-53), 3) := by decide +kernel
theorem d_Pa_widen_58 : decode Y_Pa_widen.2.2.1 58 = .ok (.return_, 1) := by decide +kernel
theorem d_Pa_reachedAbove_0 : decode Y_Pa_reachedAbove.2.2.1 0 = .ok (.iconst 1, 1) := by decide +kernel
theorem d_Pa_reachedAbove_1 : decode Y_Pa_reachedAbove.2.2.1 1 = .ok (.iload_n 1, 1) := by decide +kernel
theorem d_Pa_reachedAbove_2 : decode Y_Pa_reachedAbove.2.2.1 2 = .ok (.ishl, 1) := by decide +kernel
theorem d_Pa_reachedAbove_3 : decode Y_Pa_reachedAbove.2.2.1 3 = .ok (.istore_n 3, 1) := by decide +kernel
theorem d_Pa_reachedAbove_4 : decode Y_Pa_reachedAbove.2.2.1 4 = .ok (.iconst 0, 1) := by decide +kernel
theorem d_Pa_reachedAbove_5 : decode Y_Pa_reachedAbove.2.2.1 5 = .ok (.istore 4, 2) := by decide +kernel
theorem d_Pa_reachedAbove_7 : decode Y_Pa_reachedAbove.2.2.1 7 = .ok (.iload 4, 2) := by decide +kernel
theorem d_Pa_reachedAbove_9 : decode Y_Pa_reachedAbove.2.2.1 9 = .ok (.aload_n 0, 1) := by decide +kernel
theorem d_Pa_reachedAbove_10 : decode Y_Pa_reachedAbove.2.2.1 10 = .ok (.getfield 9, 3) := by decide +kernel
theorem d_Pa_reachedAbove_13 : decode Y_Pa_reachedAbove.2.2.1 13 = .ok (.if_icmp .ge 29, 3) := by decide +kernel
theorem d_Pa_reachedAbove_16 : decode Y_Pa_reachedAbove.2.2.1 16 = .ok (.aload_n 0, 1) := by decide +kernel
theorem d_Pa_reachedAbove_17 : decode Y_Pa_reachedAbove.2.2.1 17 = .ok (.getfield 17, 3) := by decide +kernel
theorem d_Pa_reachedAbove_20 : decode Y_Pa_reachedAbove.2.2.1 20 = .ok (.iload_n 1, 1) := by decide +kernel
theorem d_Pa_reachedAbove_21 : decode Y_Pa_reachedAbove.2.2.1 21 = .ok (.aaload, 1) := by decide +kernel
theorem d_Pa_reachedAbove_22 : decode Y_Pa_reachedAbove.2.2.1 22 = .ok (.iload 4, 2) := by decide +kernel
theorem d_Pa_reachedAbove_24 : decode Y_Pa_reachedAbove.2.2.1 24 = .ok (.iaload, 1) := by decide +kernel
theorem d_Pa_reachedAbove_25 : decode Y_Pa_reachedAbove.2.2.1 25 = .ok (.iload_n 2, 1) := by decide +kernel
theorem d_Pa_reachedAbove_26 : decode Y_Pa_reachedAbove.2.2.1 26 = .ok (.if_icmp .le 10, 3) := by decide +kernel
theorem d_Pa_reachedAbove_29 : decode Y_Pa_reachedAbove.2.2.1 29 = .ok (.iload_n 3, 1) := by decide +kernel
theorem d_Pa_reachedAbove_30 : decode Y_Pa_reachedAbove.2.2.1 30 = .ok (.iconst 1, 1) := by decide +kernel
theorem d_Pa_reachedAbove_31 : decode Y_Pa_reachedAbove.2.2.1 31 = .ok (.iload 4, 2) := by decide +kernel
theorem d_Pa_reachedAbove_33 : decode Y_Pa_reachedAbove.2.2.1 33 = .ok (.ishl, 1) := by decide +kernel
theorem d_Pa_reachedAbove_34 : decode Y_Pa_reachedAbove.2.2.1 34 = .ok (.ior, 1) := by decide +kernel
theorem d_Pa_reachedAbove_35 : decode Y_Pa_reachedAbove.2.2.1 35 = .ok (.istore_n 3, 1) := by decide +kernel
theorem d_Pa_reachedAbove_36 : decode Y_Pa_reachedAbove.2.2.1 36 = .ok (.iinc 4 1, 3) := by decide +kernel
theorem d_Pa_reachedAbove_39 : decode Y_Pa_reachedAbove.2.2.1 39 = .ok (.goto (-32), 3) := by decide +kernel
theorem d_Pa_reachedAbove_42 : decode Y_Pa_reachedAbove.2.2.1 42 = .ok (.iload_n 3, 1) := by decide +kernel
theorem d_Pa_reachedAbove_43 : decode Y_Pa_reachedAbove.2.2.1 43 = .ok (.ireturn, 1) := by decide +kernel
theorem d_Pa_unbeaten_0 : decode Y_Pa_unbeaten.2.2.1 0 = .ok (.iconst 0, 1) := by decide +kernel
theorem d_Pa_unbeaten_1 : decode Y_Pa_unbeaten.2.2.1 1 = .ok (.istore_n 1, 1) := by decide +kernel
theorem d_Pa_unbeaten_2 : decode Y_Pa_unbeaten.2.2.1 2 = .ok (.iconst 0, 1) := by decide +kernel
theorem d_Pa_unbeaten_3 : decode Y_Pa_unbeaten.2.2.1 3 = .ok (.istore_n 2, 1) := by decide +kernel
theorem d_Pa_unbeaten_4 : decode Y_Pa_unbeaten.2.2.1 4 = .ok (.iload_n 2, 1) := by decide +kernel
theorem d_Pa_unbeaten_5 : decode Y_Pa_unbeaten.2.2.1 5 = .ok (.aload_n 0, 1) := by decide +kernel
theorem d_Pa_unbeaten_6 : decode Y_Pa_unbeaten.2.2.1 6 = .ok (.getfield 9, 3) := by decide +kernel
theorem d_Pa_unbeaten_9 : decode Y_Pa_unbeaten.2.2.1 9 = .ok (.if_icmp .ge 23, 3) := by decide +kernel
theorem d_Pa_unbeaten_12 : decode Y_Pa_unbeaten.2.2.1 12 = .ok (.aload_n 0, 1) := by decide +kernel
theorem d_Pa_unbeaten_13 : decode Y_Pa_unbeaten.2.2.1 13 = .ok (.iload_n 2, 1) := by decide +kernel
theorem d_Pa_unbeaten_14 : decode Y_Pa_unbeaten.2.2.1 14 = .ok (.invokevirtual 42, 3) := by decide +kernel
theorem d_Pa_unbeaten_17 : decode Y_Pa_unbeaten.2.2.1 17 = .ok (.ifCond .eq 9, 3) := by decide +kernel
theorem d_Pa_unbeaten_20 : decode Y_Pa_unbeaten.2.2.1 20 = .ok (.iload_n 1, 1) := by decide +kernel
theorem d_Pa_unbeaten_21 : decode Y_Pa_unbeaten.2.2.1 21 = .ok (.iconst 1, 1) := by decide +kernel
theorem d_Pa_unbeaten_22 : decode Y_Pa_unbeaten.2.2.1 22 = .ok (.iload_n 2, 1) := by decide +kernel
theorem d_Pa_unbeaten_23 : decode Y_Pa_unbeaten.2.2.1 23 = .ok (.ishl, 1) := by decide +kernel
theorem d_Pa_unbeaten_24 : decode Y_Pa_unbeaten.2.2.1 24 = .ok (.ior, 1) := by decide +kernel
theorem d_Pa_unbeaten_25 : decode Y_Pa_unbeaten.2.2.1 25 = .ok (.istore_n 1, 1) := by decide +kernel
theorem d_Pa_unbeaten_26 : decode Y_Pa_unbeaten.2.2.1 26 = .ok (.iinc 2 1, 3) := by decide +kernel
theorem d_Pa_unbeaten_29 : decode Y_Pa_unbeaten.2.2.1 29 = .ok (.goto (-25), 3) := by decide +kernel
theorem d_Pa_unbeaten_32 : decode Y_Pa_unbeaten.2.2.1 32 = .ok (.iload_n 1, 1) := by decide +kernel
theorem d_Pa_unbeaten_33 : decode Y_Pa_unbeaten.2.2.1 33 = .ok (.ireturn, 1) := by decide +kernel
theorem d_Pa_isUnbeaten_0 : decode Y_Pa_isUnbeaten.2.2.1 0 = .ok (.iconst 0, 1) := by decide +kernel
theorem d_Pa_isUnbeaten_1 : decode Y_Pa_isUnbeaten.2.2.1 1 = .ok (.istore_n 2, 1) := by decide +kernel
theorem d_Pa_isUnbeaten_2 : decode Y_Pa_isUnbeaten.2.2.1 2 = .ok (.iload_n 2, 1) := by decide +kernel
theorem d_Pa_isUnbeaten_3 : decode Y_Pa_isUnbeaten.2.2.1 3 = .ok (.aload_n 0, 1) := by decide +kernel
theorem d_Pa_isUnbeaten_4 : decode Y_Pa_isUnbeaten.2.2.1 4 = .ok (.getfield 9, 3) := by decide +kernel
theorem d_Pa_isUnbeaten_7 : decode Y_Pa_isUnbeaten.2.2.1 7 = .ok (.if_icmp .ge 30, 3) := by decide +kernel
theorem d_Pa_isUnbeaten_10 : decode Y_Pa_isUnbeaten.2.2.1 10 = .ok (.aload_n 0, 1) := by decide +kernel
theorem d_Pa_isUnbeaten_11 : decode Y_Pa_isUnbeaten.2.2.1 11 = .ok (.getfield 17, 3) := by decide +kernel
theorem d_Pa_isUnbeaten_14 : decode Y_Pa_isUnbeaten.2.2.1 14 = .ok (.iload_n 1, 1) := by decide +kernel
theorem d_Pa_isUnbeaten_15 : decode Y_Pa_isUnbeaten.2.2.1 15 = .ok (.aaload, 1) := by decide +kernel
theorem d_Pa_isUnbeaten_16 : decode Y_Pa_isUnbeaten.2.2.1 16 = .ok (.iload_n 2, 1) := by decide +kernel
theorem d_Pa_isUnbeaten_17 : decode Y_Pa_isUnbeaten.2.2.1 17 = .ok (.iaload, 1) := by decide +kernel
theorem d_Pa_isUnbeaten_18 : decode Y_Pa_isUnbeaten.2.2.1 18 = .ok (.aload_n 0, 1) := by decide +kernel
theorem d_Pa_isUnbeaten_19 : decode Y_Pa_isUnbeaten.2.2.1 19 = .ok (.getfield 17, 3) := by decide +kernel
theorem d_Pa_isUnbeaten_22 : decode Y_Pa_isUnbeaten.2.2.1 22 = .ok (.iload_n 2, 1) := by decide +kernel
theorem d_Pa_isUnbeaten_23 : decode Y_Pa_isUnbeaten.2.2.1 23 = .ok (.aaload, 1) := by decide +kernel
theorem d_Pa_isUnbeaten_24 : decode Y_Pa_isUnbeaten.2.2.1 24 = .ok (.iload_n 1, 1) := by decide +kernel
theorem d_Pa_isUnbeaten_25 : decode Y_Pa_isUnbeaten.2.2.1 25 = .ok (.iaload, 1) := by decide +kernel
theorem d_Pa_isUnbeaten_26 : decode Y_Pa_isUnbeaten.2.2.1 26 = .ok (.if_icmp .ge 5, 3) := by decide +kernel
theorem d_Pa_isUnbeaten_29 : decode Y_Pa_isUnbeaten.2.2.1 29 = .ok (.iconst 0, 1) := by decide +kernel
theorem d_Pa_isUnbeaten_30 : decode Y_Pa_isUnbeaten.2.2.1 30 = .ok (.ireturn, 1) := by decide +kernel
theorem d_Pa_isUnbeaten_31 : decode Y_Pa_isUnbeaten.2.2.1 31 = .ok (.iinc 2 1, 3) := by decide +kernel
theorem d_Pa_isUnbeaten_34 : decode Y_Pa_isUnbeaten.2.2.1 34 = .ok (.goto (-32), 3) := by decide +kernel
theorem d_Pa_isUnbeaten_37 : decode Y_Pa_isUnbeaten.2.2.1 37 = .ok (.iconst 1, 1) := by decide +kernel
theorem d_Pa_isUnbeaten_38 : decode Y_Pa_isUnbeaten.2.2.1 38 = .ok (.ireturn, 1) := by decide +kernel
theorem d_Pa_strongestWay_0 : decode Y_Pa_strongestWay.2.2.1 0 = .ok (.aload_n 0, 1) := by decide +kernel
theorem d_Pa_strongestWay_1 : decode Y_Pa_strongestWay.2.2.1 1 = .ok (.getfield 17, 3) := by decide +kernel
theorem d_Pa_strongestWay_4 : decode Y_Pa_strongestWay.2.2.1 4 = .ok (.iload_n 2, 1) := by decide +kernel
theorem d_Pa_strongestWay_5 : decode Y_Pa_strongestWay.2.2.1 5 = .ok (.aaload, 1) := by decide +kernel
theorem d_Pa_strongestWay_6 : decode Y_Pa_strongestWay.2.2.1 6 = .ok (.iload_n 3, 1) := by decide +kernel
theorem d_Pa_strongestWay_7 : decode Y_Pa_strongestWay.2.2.1 7 = .ok (.iaload, 1) := by decide +kernel
theorem d_Pa_strongestWay_8 : decode Y_Pa_strongestWay.2.2.1 8 = .ok (.istore 4, 2) := by decide +kernel
theorem d_Pa_strongestWay_10 : decode Y_Pa_strongestWay.2.2.1 10 = .ok (.iload 4, 2) := by decide +kernel
theorem d_Pa_strongestWay_12 : decode Y_Pa_strongestWay.2.2.1 12 = .ok (.ifCond .ne 5, 3) := by decide +kernel
theorem d_Pa_strongestWay_15 : decode Y_Pa_strongestWay.2.2.1 15 = .ok (.iconst 0, 1) := by decide +kernel
theorem d_Pa_strongestWay_16 : decode Y_Pa_strongestWay.2.2.1 16 = .ok (.ireturn, 1) := by decide +kernel
theorem d_Pa_strongestWay_17 : decode Y_Pa_strongestWay.2.2.1 17 = .ok (.aload_n 0, 1) := by decide +kernel
theorem d_Pa_strongestWay_18 : decode Y_Pa_strongestWay.2.2.1 18 = .ok (.aload_n 1, 1) := by decide +kernel
theorem d_Pa_strongestWay_19 : decode Y_Pa_strongestWay.2.2.1 19 = .ok (.iload_n 3, 1) := by decide +kernel
theorem d_Pa_strongestWay_20 : decode Y_Pa_strongestWay.2.2.1 20 = .ok (.iload 4, 2) := by decide +kernel
theorem d_Pa_strongestWay_22 : decode Y_Pa_strongestWay.2.2.1 22 = .ok (.invokevirtual 46, 3) := by decide +kernel
theorem d_Pa_strongestWay_25 : decode Y_Pa_strongestWay.2.2.1 25 = .ok (.iload_n 2, 1) := by decide +kernel
theorem d_Pa_strongestWay_26 : decode Y_Pa_strongestWay.2.2.1 26 = .ok (.iconst 1, 1) := by decide +kernel
theorem d_Pa_strongestWay_27 : decode Y_Pa_strongestWay.2.2.1 27 = .ok (.iadd, 1) := by decide +kernel
theorem d_Pa_strongestWay_28 : decode Y_Pa_strongestWay.2.2.1 28 = .ok (.istore 5, 2) := by decide +kernel
theorem d_Pa_strongestWay_30 : decode Y_Pa_strongestWay.2.2.1 30 = .ok (.iload_n 2, 1) := by decide +kernel
theorem d_Pa_strongestWay_31 : decode Y_Pa_strongestWay.2.2.1 31 = .ok (.istore 6, 2) := by decide +kernel
theorem d_Pa_strongestWay_33 : decode Y_Pa_strongestWay.2.2.1 33 = .ok (.iconst 1, 1) := by decide +kernel
theorem d_Pa_strongestWay_34 : decode Y_Pa_strongestWay.2.2.1 34 = .ok (.istore 7, 2) := by decide +kernel
theorem d_Pa_strongestWay_36 : decode Y_Pa_strongestWay.2.2.1 36 = .ok (.iload 7, 2) := by decide +kernel
theorem d_Pa_strongestWay_38 : decode Y_Pa_strongestWay.2.2.1 38 = .ok (.aload_n 0, 1) := by decide +kernel
theorem d_Pa_strongestWay_39 : decode Y_Pa_strongestWay.2.2.1 39 = .ok (.getfield 9, 3) := by decide +kernel
theorem d_Pa_strongestWay_42 : decode Y_Pa_strongestWay.2.2.1 42 = .ok (.if_icmp .ge 40, 3) := by decide +kernel
theorem d_Pa_strongestWay_45 : decode Y_Pa_strongestWay.2.2.1 45 = .ok (.iload 6, 2) := by decide +kernel
theorem d_Pa_strongestWay_47 : decode Y_Pa_strongestWay.2.2.1 47 = .ok (.iload_n 3, 1) := by decide +kernel
theorem d_Pa_strongestWay_48 : decode Y_Pa_strongestWay.2.2.1 48 = .ok (.if_icmp .eq 34, 3) := by decide +kernel
theorem d_Pa_strongestWay_51 : decode Y_Pa_strongestWay.2.2.1 51 = .ok (.aload_n 0, 1) := by decide +kernel
theorem d_Pa_strongestWay_52 : decode Y_Pa_strongestWay.2.2.1 52 = .ok (.aload_n 1, 1) := by decide +kernel
theorem d_Pa_strongestWay_53 : decode Y_Pa_strongestWay.2.2.1 53 = .ok (.iload 6, 2) := by decide +kernel
theorem d_Pa_strongestWay_55 : decode Y_Pa_strongestWay.2.2.1 55 = .ok (.iload 4, 2) := by decide +kernel
theorem d_Pa_strongestWay_57 : decode Y_Pa_strongestWay.2.2.1 57 = .ok (.invokevirtual 50, 3) := by decide +kernel
theorem d_Pa_strongestWay_60 : decode Y_Pa_strongestWay.2.2.1 60 = .ok (.istore 6, 2) := by decide +kernel
theorem d_Pa_strongestWay_62 : decode Y_Pa_strongestWay.2.2.1 62 = .ok (.iload 5, 2) := by decide +kernel
theorem d_Pa_strongestWay_64 : decode Y_Pa_strongestWay.2.2.1 64 = .ok (.iload 6, 2) := by decide +kernel
theorem d_Pa_strongestWay_66 : decode Y_Pa_strongestWay.2.2.1 66 = .ok (.iconst 1, 1) := by decide +kernel
theorem d_Pa_strongestWay_67 : decode Y_Pa_strongestWay.2.2.1 67 = .ok (.iadd, 1) := by decide +kernel
theorem d_Pa_strongestWay_68 : decode Y_Pa_strongestWay.2.2.1 68 = .ok (.iconst 4, 1) := by decide +kernel
theorem d_Pa_strongestWay_69 : decode Y_Pa_strongestWay.2.2.1 69 = .ok (.iload 7, 2) := by decide +kernel
theorem d_Pa_strongestWay_71 : decode Y_Pa_strongestWay.2.2.1 71 = .ok (.imul, 1) := by decide +kernel
theorem d_Pa_strongestWay_72 : decode Y_Pa_strongestWay.2.2.1 72 = .ok (.ishl, 1) := by decide +kernel
theorem d_Pa_strongestWay_73 : decode Y_Pa_strongestWay.2.2.1 73 = .ok (.ior, 1) := by decide +kernel
theorem d_Pa_strongestWay_74 : decode Y_Pa_strongestWay.2.2.1 74 = .ok (.istore 5, 2) := by decide +kernel
theorem d_Pa_strongestWay_76 : decode Y_Pa_strongestWay.2.2.1 76 = .ok (.iinc 7 1, 3) := by decide +kernel
theorem d_Pa_strongestWay_79 : decode Y_Pa_strongestWay.2.2.1 79 = .ok (.goto (-43), 3) := by decide +kernel
theorem d_Pa_strongestWay_82 : decode Y_Pa_strongestWay.2.2.1 82 = .ok (.iload 5, 2) := by decide +kernel
theorem d_Pa_strongestWay_84 : decode Y_Pa_strongestWay.2.2.1 84 = .ok (.ireturn, 1) := by decide +kernel
theorem d_Pa_countSteps_0 : decode Y_Pa_countSteps.2.2.1 0 = .ok (.aload_n 0, 1) := by decide +kernel
theorem d_Pa_countSteps_1 : decode Y_Pa_countSteps.2.2.1 1 = .ok (.getfield 20, 3) := by decide +kernel
theorem d_Pa_countSteps_4 : decode Y_Pa_countSteps.2.2.1 4 = .ok (.aload_n 0, 1) := by decide +kernel
theorem d_Pa_countSteps_5 : decode Y_Pa_countSteps.2.2.1 5 = .ok (.getfield 9, 3) := by decide +kernel
theorem d_Pa_countSteps_8 : decode Y_Pa_countSteps.2.2.1 8 = .ok (.invokestatic 54, 3) := by decide +kernel
theorem d_Pa_countSteps_11 : decode Y_Pa_countSteps.2.2.1 11 = .ok (.aload_n 0, 1) := by decide +kernel
theorem d_Pa_countSteps_12 : decode Y_Pa_countSteps.2.2.1 12 = .ok (.getfield 20, 3) := by decide +kernel
theorem d_Pa_countSteps_15 : decode Y_Pa_countSteps.2.2.1 15 = .ok (.iload_n 2, 1) := by decide +kernel
theorem d_Pa_countSteps_16 : decode Y_Pa_countSteps.2.2.1 16 = .ok (.iconst 0, 1) := by decide +kernel
theorem d_Pa_countSteps_17 : decode Y_Pa_countSteps.2.2.1 17 = .ok (.iastore, 1) := by decide +kernel
theorem d_Pa_countSteps_18 : decode Y_Pa_countSteps.2.2.1 18 = .ok (.iconst 1, 1) := by decide +kernel
theorem d_Pa_countSteps_19 : decode Y_Pa_countSteps.2.2.1 19 = .ok (.istore 4, 2) := by decide +kernel
theorem d_Pa_countSteps_21 : decode Y_Pa_countSteps.2.2.1 21 = .ok (.iload 4, 2) := by decide +kernel
theorem d_Pa_countSteps_23 : decode Y_Pa_countSteps.2.2.1 23 = .ok (.aload_n 0, 1) := by decide +kernel
theorem d_Pa_countSteps_24 : decode Y_Pa_countSteps.2.2.1 24 = .ok (.getfield 9, 3) := by decide +kernel
theorem d_Pa_countSteps_27 : decode Y_Pa_countSteps.2.2.1 27 = .ok (.if_icmp .ge 66, 3) := by decide +kernel
theorem d_Pa_countSteps_30 : decode Y_Pa_countSteps.2.2.1 30 = .ok (.iconst 0, 1) := by decide +kernel
theorem d_Pa_countSteps_31 : decode Y_Pa_countSteps.2.2.1 31 = .ok (.istore 5, 2) := by decide +kernel
theorem d_Pa_countSteps_33 : decode Y_Pa_countSteps.2.2.1 33 = .ok (.iload 5, 2) := by decide +kernel
theorem d_Pa_countSteps_35 : decode Y_Pa_countSteps.2.2.1 35 = .ok (.aload_n 0, 1) := by decide +kernel
theorem d_Pa_countSteps_36 : decode Y_Pa_countSteps.2.2.1 36 = .ok (.getfield 9, 3) := by decide +kernel
theorem d_Pa_countSteps_39 : decode Y_Pa_countSteps.2.2.1 39 = .ok (.if_icmp .ge 48, 3) := by decide +kernel
theorem d_Pa_countSteps_42 : decode Y_Pa_countSteps.2.2.1 42 = .ok (.aload_n 0, 1) := by decide +kernel
theorem d_Pa_countSteps_43 : decode Y_Pa_countSteps.2.2.1 43 = .ok (.getfield 20, 3) := by decide +kernel
theorem d_Pa_countSteps_46 : decode Y_Pa_countSteps.2.2.1 46 = .ok (.iload 5, 2) := by decide +kernel
theorem d_Pa_countSteps_48 : decode Y_Pa_countSteps.2.2.1 48 = .ok (.iaload, 1) := by decide +kernel
theorem d_Pa_countSteps_49 : decode Y_Pa_countSteps.2.2.1 49 = .ok (.aload_n 0, 1) := by decide +kernel
theorem d_Pa_countSteps_50 : decode Y_Pa_countSteps.2.2.1 50 = .ok (.getfield 9, 3) := by decide +kernel
theorem d_Pa_countSteps_53 : decode Y_Pa_countSteps.2.2.1 53 = .ok (.if_icmp .ne 28, 3) := by decide +kernel
theorem d_Pa_countSteps_56 : decode Y_Pa_countSteps.2.2.1 56 = .ok (.aload_n 0, 1) := by decide +kernel
theorem d_Pa_countSteps_57 : decode Y_Pa_countSteps.2.2.1 57 = .ok (.aload_n 1, 1) := by decide +kernel
theorem d_Pa_countSteps_58 : decode Y_Pa_countSteps.2.2.1 58 = .ok (.iload 5, 2) := by decide +kernel
theorem d_Pa_countSteps_60 : decode Y_Pa_countSteps.2.2.1 60 = .ok (.iload_n 3, 1) := by decide +kernel
theorem d_Pa_countSteps_61 : decode Y_Pa_countSteps.2.2.1 61 = .ok (.iload 4, 2) := by decide +kernel
theorem d_Pa_countSteps_63 : decode Y_Pa_countSteps.2.2.1 63 = .ok (.iconst 1, 1) := by decide +kernel
theorem d_Pa_countSteps_64 : decode Y_Pa_countSteps.2.2.1 64 = .ok (.isub, 1) := by decide +kernel
theorem d_Pa_countSteps_65 : decode Y_Pa_countSteps.2.2.1 65 = .ok (.invokevirtual 60, 3) := by decide +kernel
theorem d_Pa_countSteps_68 : decode Y_Pa_countSteps.2.2.1 68 = .ok (.iconst (-1), 1) := by decide +kernel
theorem d_Pa_countSteps_69 : decode Y_Pa_countSteps.2.2.1 69 = .ok (.if_icmp .eq 12, 3) := by decide +kernel
theorem d_Pa_countSteps_72 : decode Y_Pa_countSteps.2.2.1 72 = .ok (.aload_n 0, 1) := by decide +kernel
theorem d_Pa_countSteps_73 : decode Y_Pa_countSteps.2.2.1 73 = .ok (.getfield 20, 3) := by decide +kernel
theorem d_Pa_countSteps_76 : decode Y_Pa_countSteps.2.2.1 76 = .ok (.iload 5, 2) := by decide +kernel
theorem d_Pa_countSteps_78 : decode Y_Pa_countSteps.2.2.1 78 = .ok (.iload 4, 2) := by decide +kernel
theorem d_Pa_countSteps_80 : decode Y_Pa_countSteps.2.2.1 80 = .ok (.iastore, 1) := by decide +kernel
theorem d_Pa_countSteps_81 : decode Y_Pa_countSteps.2.2.1 81 = .ok (.iinc 5 1, 3) := by decide +kernel
theorem d_Pa_countSteps_84 : decode Y_Pa_countSteps.2.2.1 84 = .ok (.goto (-51), 3) := by decide +kernel
theorem d_Pa_countSteps_87 : decode Y_Pa_countSteps.2.2.1 87 = .ok (.iinc 4 1, 3) := by decide +kernel
theorem d_Pa_countSteps_90 : decode Y_Pa_countSteps.2.2.1 90 = .ok (.goto (-69), 3) := by decide +kernel
theorem d_Pa_countSteps_93 : decode Y_Pa_countSteps.2.2.1 93 = .ok (.return_, 1) := by decide +kernel
theorem d_Pa_nextTowards_0 : decode Y_Pa_nextTowards.2.2.1 0 = .ok (.aload_n 0, 1) := by decide +kernel
theorem d_Pa_nextTowards_1 : decode Y_Pa_nextTowards.2.2.1 1 = .ok (.aload_n 1, 1) := by decide +kernel
theorem d_Pa_nextTowards_2 : decode Y_Pa_nextTowards.2.2.1 2 = .ok (.iload_n 2, 1) := by decide +kernel
theorem d_Pa_nextTowards_3 : decode Y_Pa_nextTowards.2.2.1 3 = .ok (.iload_n 3, 1) := by decide +kernel
theorem d_Pa_nextTowards_4 : decode Y_Pa_nextTowards.2.2.1 4 = .ok (.aload_n 0, 1) := by decide +kernel
theorem d_Pa_nextTowards_5 : decode Y_Pa_nextTowards.2.2.1 5 = .ok (.getfield 20, 3) := by decide +kernel
theorem d_Pa_nextTowards_8 : decode Y_Pa_nextTowards.2.2.1 8 = .ok (.iload_n 2, 1) := by decide +kernel
theorem d_Pa_nextTowards_9 : decode Y_Pa_nextTowards.2.2.1 9 = .ok (.iaload, 1) := by decide +kernel
theorem d_Pa_nextTowards_10 : decode Y_Pa_nextTowards.2.2.1 10 = .ok (.iconst 1, 1) := by decide +kernel
theorem d_Pa_nextTowards_11 : decode Y_Pa_nextTowards.2.2.1 11 = .ok (.isub, 1) := by decide +kernel
theorem d_Pa_nextTowards_12 : decode Y_Pa_nextTowards.2.2.1 12 = .ok (.invokevirtual 60, 3) := by decide +kernel
theorem d_Pa_nextTowards_15 : decode Y_Pa_nextTowards.2.2.1 15 = .ok (.istore 4, 2) := by decide +kernel
theorem d_Pa_nextTowards_17 : decode Y_Pa_nextTowards.2.2.1 17 = .ok (.iload 4, 2) := by decide +kernel
theorem d_Pa_nextTowards_19 : decode Y_Pa_nextTowards.2.2.1 19 = .ok (.iconst (-1), 1) := by decide +kernel
theorem d_Pa_nextTowards_20 : decode Y_Pa_nextTowards.2.2.1 20 = .ok (.if_icmp .ne 7, 3) := by decide +kernel
theorem d_Pa_nextTowards_23 : decode Y_Pa_nextTowards.2.2.1 23 = .ok (.iload_n 2, 1) := by decide +kernel
theorem d_Pa_nextTowards_24 : decode Y_Pa_nextTowards.2.2.1 24 = .ok (.goto 5, 3) := by decide +kernel
theorem d_Pa_nextTowards_27 : decode Y_Pa_nextTowards.2.2.1 27 = .ok (.iload 4, 2) := by decide +kernel
theorem d_Pa_nextTowards_29 : decode Y_Pa_nextTowards.2.2.1 29 = .ok (.ireturn, 1) := by decide +kernel
theorem d_Pa_nextAt_0 : decode Y_Pa_nextAt.2.2.1 0 = .ok (.iconst 0, 1) := by decide +kernel
theorem d_Pa_nextAt_1 : decode Y_Pa_nextAt.2.2.1 1 = .ok (.istore 5, 2) := by decide +kernel
theorem d_Pa_nextAt_3 : decode Y_Pa_nextAt.2.2.1 3 = .ok (.iload 5, 2) := by decide +kernel
theorem d_Pa_nextAt_5 : decode Y_Pa_nextAt.2.2.1 5 = .ok (.aload_n 0, 1) := by decide +kernel
theorem d_Pa_nextAt_6 : decode Y_Pa_nextAt.2.2.1 6 = .ok (.getfield 9, 3) := by decide +kernel
theorem d_Pa_nextAt_9 : decode Y_Pa_nextAt.2.2.1 9 = .ok (.if_icmp .ge 35, 3) := by decide +kernel
theorem d_Pa_nextAt_12 : decode Y_Pa_nextAt.2.2.1 12 = .ok (.aload_n 0, 1) := by decide +kernel
theorem d_Pa_nextAt_13 : decode Y_Pa_nextAt.2.2.1 13 = .ok (.getfield 20, 3) := by decide +kernel
theorem d_Pa_nextAt_16 : decode Y_Pa_nextAt.2.2.1 16 = .ok (.iload 5, 2) := by decide +kernel
theorem d_Pa_nextAt_18 : decode Y_Pa_nextAt.2.2.1 18 = .ok (.iaload, 1) := by decide +kernel
theorem d_Pa_nextAt_19 : decode Y_Pa_nextAt.2.2.1 19 = .ok (.iload 4, 2) := by decide +kernel
theorem d_Pa_nextAt_21 : decode Y_Pa_nextAt.2.2.1 21 = .ok (.if_icmp .ne 17, 3) := by decide +kernel
theorem d_Pa_nextAt_24 : decode Y_Pa_nextAt.2.2.1 24 = .ok (.aload_n 1, 1) := by decide +kernel
theorem d_Pa_nextAt_25 : decode Y_Pa_nextAt.2.2.1 25 = .ok (.iload_n 2, 1) := by decide +kernel
theorem d_Pa_nextAt_26 : decode Y_Pa_nextAt.2.2.1 26 = .ok (.iload 5, 2) := by decide +kernel
theorem d_Pa_nextAt_28 : decode Y_Pa_nextAt.2.2.1 28 = .ok (.invokevirtual 24, 3) := by decide +kernel
theorem d_Pa_nextAt_31 : decode Y_Pa_nextAt.2.2.1 31 = .ok (.iload_n 3, 1) := by decide +kernel
theorem d_Pa_nextAt_32 : decode Y_Pa_nextAt.2.2.1 32 = .ok (.if_icmp .lt 6, 3) := by decide +kernel
theorem d_Pa_nextAt_35 : decode Y_Pa_nextAt.2.2.1 35 = .ok (.iload 5, 2) := by decide +kernel
theorem d_Pa_nextAt_37 : decode Y_Pa_nextAt.2.2.1 37 = .ok (.ireturn, 1) := by decide +kernel
theorem d_Pa_nextAt_38 : decode Y_Pa_nextAt.2.2.1 38 = .ok (.iinc 5 1, 3) := by decide +kernel
theorem d_Pa_nextAt_41 : decode Y_Pa_nextAt.2.2.1 41 = .ok (.goto (-38), 3) := by decide +kernel
theorem d_Pa_nextAt_44 : decode Y_Pa_nextAt.2.2.1 44 = .ok (.iconst (-1), 1) := by decide +kernel
theorem d_Pa_nextAt_45 : decode Y_Pa_nextAt.2.2.1 45 = .ok (.ireturn, 1) := by decide +kernel
