/-! decode rows, written by gen/dec.py -/
theorem d_Lo_init_0 : decode Y_Lo_init.2.2.1 0 = .ok (.aload_n 0, 1) := by decide +kernel
theorem d_Lo_init_1 : decode Y_Lo_init.2.2.1 1 = .ok (.invokespecial 3, 3) := by decide +kernel
theorem d_Lo_init_4 : decode Y_Lo_init.2.2.1 4 = .ok (.aload_n 0, 1) := by decide +kernel
theorem d_Lo_init_5 : decode Y_Lo_init.2.2.1 5 = .ok (.iload_n 1, 1) := by decide +kernel
theorem d_Lo_init_6 : decode Y_Lo_init.2.2.1 6 = .ok (.putfield 9, 3) := by decide +kernel
theorem d_Lo_init_9 : decode Y_Lo_init.2.2.1 9 = .ok (.aload_n 0, 1) := by decide +kernel
theorem d_Lo_init_10 : decode Y_Lo_init.2.2.1 10 = .ok (.iload_n 1, 1) := by decide +kernel
theorem d_Lo_init_11 : decode Y_Lo_init.2.2.1 11 = .ok (.newarray .int, 2) := by decide +kernel
theorem d_Lo_init_13 : decode Y_Lo_init.2.2.1 13 = .ok (.putfield 15, 3) := by decide +kernel
theorem d_Lo_init_16 : decode Y_Lo_init.2.2.1 16 = .ok (.aload_n 0, 1) := by decide +kernel
theorem d_Lo_init_17 : decode Y_Lo_init.2.2.1 17 = .ok (.iload_n 1, 1) := by decide +kernel
theorem d_Lo_init_18 : decode Y_Lo_init.2.2.1 18 = .ok (.newarray .int, 2) := by decide +kernel
theorem d_Lo_init_20 : decode Y_Lo_init.2.2.1 20 = .ok (.putfield 19, 3) := by decide +kernel
theorem d_Lo_init_23 : decode Y_Lo_init.2.2.1 23 = .ok (.aload_n 0, 1) := by decide +kernel
theorem d_Lo_init_24 : decode Y_Lo_init.2.2.1 24 = .ok (.iload_n 1, 1) := by decide +kernel
theorem d_Lo_init_25 : decode Y_Lo_init.2.2.1 25 = .ok (.iload_n 1, 1) := by decide +kernel
theorem d_Lo_init_26 : decode Y_Lo_init.2.2.1 26 = .ok (.imul, 1) := by decide +kernel
theorem d_Lo_init_27 : decode Y_Lo_init.2.2.1 27 = .ok (.newarray .int, 2) := by decide +kernel
theorem d_Lo_init_29 : decode Y_Lo_init.2.2.1 29 = .ok (.putfield 22, 3) := by decide +kernel
theorem d_Lo_init_32 : decode Y_Lo_init.2.2.1 32 = .ok (.aload_n 0, 1) := by decide +kernel
theorem d_Lo_init_33 : decode Y_Lo_init.2.2.1 33 = .ok (.iload_n 1, 1) := by decide +kernel
theorem d_Lo_init_34 : decode Y_Lo_init.2.2.1 34 = .ok (.iload_n 1, 1) := by decide +kernel
theorem d_Lo_init_35 : decode Y_Lo_init.2.2.1 35 = .ok (.imul, 1) := by decide +kernel
theorem d_Lo_init_36 : decode Y_Lo_init.2.2.1 36 = .ok (.newarray .int, 2) := by decide +kernel
theorem d_Lo_init_38 : decode Y_Lo_init.2.2.1 38 = .ok (.putfield 25, 3) := by decide +kernel
theorem d_Lo_init_41 : decode Y_Lo_init.2.2.1 41 = .ok (.aload_n 0, 1) := by decide +kernel
theorem d_Lo_init_42 : decode Y_Lo_init.2.2.1 42 = .ok (.iconst 0, 1) := by decide +kernel
theorem d_Lo_init_43 : decode Y_Lo_init.2.2.1 43 = .ok (.putfield 28, 3) := by decide +kernel
theorem d_Lo_init_46 : decode Y_Lo_init.2.2.1 46 = .ok (.return_, 1) := by decide +kernel
theorem d_Lo_lockPairs_0 : decode Y_Lo_lockPairs.2.2.1 0 = .ok (.aload_n 0, 1) := by decide +kernel
theorem d_Lo_lockPairs_1 : decode Y_Lo_lockPairs.2.2.1 1 = .ok (.getfield 15, 3) := by decide +kernel
theorem d_Lo_lockPairs_4 : decode Y_Lo_lockPairs.2.2.1 4 = .ok (.iconst 0, 1) := by decide +kernel
theorem d_Lo_lockPairs_5 : decode Y_Lo_lockPairs.2.2.1 5 = .ok (.invokestatic 31, 3) := by decide +kernel
theorem d_Lo_lockPairs_8 : decode Y_Lo_lockPairs.2.2.1 8 = .ok (.aload_n 0, 1) := by decide +kernel
theorem d_Lo_lockPairs_9 : decode Y_Lo_lockPairs.2.2.1 9 = .ok (.getfield 19, 3) := by decide +kernel
theorem d_Lo_lockPairs_12 : decode Y_Lo_lockPairs.2.2.1 12 = .ok (.iconst 0, 1) := by decide +kernel
theorem d_Lo_lockPairs_13 : decode Y_Lo_lockPairs.2.2.1 13 = .ok (.invokestatic 31, 3) := by decide +kernel
theorem d_Lo_lockPairs_16 : decode Y_Lo_lockPairs.2.2.1 16 = .ok (.aload_n 0, 1) := by decide +kernel
theorem d_Lo_lockPairs_17 : decode Y_Lo_lockPairs.2.2.1 17 = .ok (.aload_n 1, 1) := by decide +kernel
theorem d_Lo_lockPairs_18 : decode Y_Lo_lockPairs.2.2.1 18 = .ok (.aload_n 2, 1) := by decide +kernel
theorem d_Lo_lockPairs_19 : decode Y_Lo_lockPairs.2.2.1 19 = .ok (.invokevirtual 37, 3) := by decide +kernel
theorem d_Lo_lockPairs_22 : decode Y_Lo_lockPairs.2.2.1 22 = .ok (.iconst 0, 1) := by decide +kernel
theorem d_Lo_lockPairs_23 : decode Y_Lo_lockPairs.2.2.1 23 = .ok (.istore_n 3, 1) := by decide +kernel
theorem d_Lo_lockPairs_24 : decode Y_Lo_lockPairs.2.2.1 24 = .ok (.iload_n 3, 1) := by decide +kernel
theorem d_Lo_lockPairs_25 : decode Y_Lo_lockPairs.2.2.1 25 = .ok (.aload_n 0, 1) := by decide +kernel
theorem d_Lo_lockPairs_26 : decode Y_Lo_lockPairs.2.2.1 26 = .ok (.getfield 28, 3) := by decide +kernel
theorem d_Lo_lockPairs_29 : decode Y_Lo_lockPairs.2.2.1 29 = .ok (.if_icmp .ge 48, 3) := by decide +kernel
theorem d_Lo_lockPairs_32 : decode Y_Lo_lockPairs.2.2.1 32 = .ok (.aload_n 0, 1) := by decide +kernel
theorem d_Lo_lockPairs_33 : decode Y_Lo_lockPairs.2.2.1 33 = .ok (.getfield 19, 3) := by decide +kernel
theorem d_Lo_lockPairs_36 : decode Y_Lo_lockPairs.2.2.1 36 = .ok (.aload_n 0, 1) := by decide +kernel
theorem d_Lo_lockPairs_37 : decode Y_Lo_lockPairs.2.2.1 37 = .ok (.getfield 25, 3) := by decide +kernel
theorem d_Lo_lockPairs_40 : decode Y_Lo_lockPairs.2.2.1 40 = .ok (.iload_n 3, 1) := by decide +kernel
theorem d_Lo_lockPairs_41 : decode Y_Lo_lockPairs.2.2.1 41 = .ok (.iaload, 1) := by decide +kernel
theorem d_Lo_lockPairs_42 : decode Y_Lo_lockPairs.2.2.1 42 = .ok (.iaload, 1) := by decide +kernel
theorem d_Lo_lockPairs_43 : decode Y_Lo_lockPairs.2.2.1 43 = .ok (.aload_n 0, 1) := by decide +kernel
theorem d_Lo_lockPairs_44 : decode Y_Lo_lockPairs.2.2.1 44 = .ok (.getfield 22, 3) := by decide +kernel
theorem d_Lo_lockPairs_47 : decode Y_Lo_lockPairs.2.2.1 47 = .ok (.iload_n 3, 1) := by decide +kernel
theorem d_Lo_lockPairs_48 : decode Y_Lo_lockPairs.2.2.1 48 = .ok (.iaload, 1) := by decide +kernel
theorem d_Lo_lockPairs_49 : decode Y_Lo_lockPairs.2.2.1 49 = .ok (.invokestatic 41, 3) := by decide +kernel
theorem d_Lo_lockPairs_52 : decode Y_Lo_lockPairs.2.2.1 52 = .ok (.ifCond .ne 19, 3) := by decide +kernel
theorem d_Lo_lockPairs_55 : decode Y_Lo_lockPairs.2.2.1 55 = .ok (.aload_n 0, 1) := by decide +kernel
theorem d_Lo_lockPairs_56 : decode Y_Lo_lockPairs.2.2.1 56 = .ok (.aload_n 0, 1) := by decide +kernel
theorem d_Lo_lockPairs_57 : decode Y_Lo_lockPairs.2.2.1 57 = .ok (.getfield 22, 3) := by decide +kernel
theorem d_Lo_lockPairs_60 : decode Y_Lo_lockPairs.2.2.1 60 = .ok (.iload_n 3, 1) := by decide +kernel
theorem d_Lo_lockPairs_61 : decode Y_Lo_lockPairs.2.2.1 61 = .ok (.iaload, 1) := by decide +kernel
theorem d_Lo_lockPairs_62 : decode Y_Lo_lockPairs.2.2.1 62 = .ok (.aload_n 0, 1) := by decide +kernel
theorem d_Lo_lockPairs_63 : decode Y_Lo_lockPairs.2.2.1 63 = .ok (.getfield 25, 3) := by decide +kernel
theorem d_Lo_lockPairs_66 : decode Y_Lo_lockPairs.2.2.1 66 = .ok (.iload_n 3, 1) := by decide +kernel
theorem d_Lo_lockPairs_67 : decode Y_Lo_lockPairs.2.2.1 67 = .ok (.iaload, 1) := by decide +kernel
theorem d_Lo_lockPairs_68 : decode Y_Lo_lockPairs.2.2.1 68 = .ok (.invokevirtual 45, 3) := by decide +kernel
theorem d_Lo_lockPairs_71 : decode Y_Lo_lockPairs.2.2.1 71 = .ok (.iinc 3 1, 3) := by decide +kernel
theorem d_Lo_lockPairs_74 : decode Y_Lo_lockPairs.2.2.1 74 = .ok (.goto (-50), 3) := by decide +kernel
theorem d_Lo_lockPairs_77 : decode Y_Lo_lockPairs.2.2.1 77 = .ok (.return_, 1) := by decide +kernel
theorem d_Lo_sortPairs_0 : decode Y_Lo_sortPairs.2.2.1 0 = .ok (.aload_n 0, 1) := by decide +kernel
theorem d_Lo_sortPairs_1 : decode Y_Lo_sortPairs.2.2.1 1 = .ok (.iconst 0, 1) := by decide +kernel
theorem d_Lo_sortPairs_2 : decode Y_Lo_sortPairs.2.2.1 2 = .ok (.putfield 28, 3) := by decide +kernel
theorem d_Lo_sortPairs_5 : decode Y_Lo_sortPairs.2.2.1 5 = .ok (.iconst 0, 1) := by decide +kernel
theorem d_Lo_sortPairs_6 : decode Y_Lo_sortPairs.2.2.1 6 = .ok (.istore_n 3, 1) := by decide +kernel
theorem d_Lo_sortPairs_7 : decode Y_Lo_sortPairs.2.2.1 7 = .ok (.iload_n 3, 1) := by decide +kernel
theorem d_Lo_sortPairs_8 : decode Y_Lo_sortPairs.2.2.1 8 = .ok (.aload_n 0, 1) := by decide +kernel
theorem d_Lo_sortPairs_9 : decode Y_Lo_sortPairs.2.2.1 9 = .ok (.getfield 9, 3) := by decide +kernel
theorem d_Lo_sortPairs_12 : decode Y_Lo_sortPairs.2.2.1 12 = .ok (.if_icmp .ge 53, 3) := by decide +kernel
theorem d_Lo_sortPairs_15 : decode Y_Lo_sortPairs.2.2.1 15 = .ok (.iconst 0, 1) := by decide +kernel
theorem d_Lo_sortPairs_16 : decode Y_Lo_sortPairs.2.2.1 16 = .ok (.istore 4, 2) := by decide +kernel
theorem d_Lo_sortPairs_18 : decode Y_Lo_sortPairs.2.2.1 18 = .ok (.iload 4, 2) := by decide +kernel
theorem d_Lo_sortPairs_20 : decode Y_Lo_sortPairs.2.2.1 20 = .ok (.aload_n 0, 1) := by decide +kernel
theorem d_Lo_sortPairs_21 : decode Y_Lo_sortPairs.2.2.1 21 = .ok (.getfield 9, 3) := by decide +kernel
theorem d_Lo_sortPairs_24 : decode Y_Lo_sortPairs.2.2.1 24 = .ok (.if_icmp .ge 35, 3) := by decide +kernel
theorem d_Lo_sortPairs_27 : decode Y_Lo_sortPairs.2.2.1 27 = .ok (.aload_n 1, 1) := by decide +kernel
theorem d_Lo_sortPairs_28 : decode Y_Lo_sortPairs.2.2.1 28 = .ok (.aload_n 2, 1) := by decide +kernel
theorem d_Lo_sortPairs_29 : decode Y_Lo_sortPairs.2.2.1 29 = .ok (.iload_n 3, 1) := by decide +kernel
theorem d_Lo_sortPairs_30 : decode Y_Lo_sortPairs.2.2.1 30 = .ok (.iaload, 1) := by decide +kernel
theorem d_Lo_sortPairs_31 : decode Y_Lo_sortPairs.2.2.1 31 = .ok (.aload_n 2, 1) := by decide +kernel
theorem d_Lo_sortPairs_32 : decode Y_Lo_sortPairs.2.2.1 32 = .ok (.iload 4, 2) := by decide +kernel
theorem d_Lo_sortPairs_34 : decode Y_Lo_sortPairs.2.2.1 34 = .ok (.iaload, 1) := by decide +kernel
theorem d_Lo_sortPairs_35 : decode Y_Lo_sortPairs.2.2.1 35 = .ok (.invokevirtual 49, 3) := by decide +kernel
theorem d_Lo_sortPairs_38 : decode Y_Lo_sortPairs.2.2.1 38 = .ok (.ifCond .le 15, 3) := by decide +kernel
theorem d_Lo_sortPairs_41 : decode Y_Lo_sortPairs.2.2.1 41 = .ok (.aload_n 0, 1) := by decide +kernel
theorem d_Lo_sortPairs_42 : decode Y_Lo_sortPairs.2.2.1 42 = .ok (.aload_n 1, 1) := by decide +kernel
theorem d_Lo_sortPairs_43 : decode Y_Lo_sortPairs.2.2.1 43 = .ok (.aload_n 2, 1) := by decide +kernel
theorem d_Lo_sortPairs_44 : decode Y_Lo_sortPairs.2.2.1 44 = .ok (.iload_n 3, 1) := by decide +kernel
theorem d_Lo_sortPairs_45 : decode Y_Lo_sortPairs.2.2.1 45 = .ok (.iaload, 1) := by decide +kernel
theorem d_Lo_sortPairs_46 : decode Y_Lo_sortPairs.2.2.1 46 = .ok (.aload_n 2, 1) := by decide +kernel
theorem d_Lo_sortPairs_47 : decode Y_Lo_sortPairs.2.2.1 47 = .ok (.iload 4, 2) := by decide +kernel
theorem d_Lo_sortPairs_49 : decode Y_Lo_sortPairs.2.2.1 49 = .ok (.iaload, 1) := by decide +kernel
theorem d_Lo_sortPairs_50 : decode Y_Lo_sortPairs.2.2.1 50 = .ok (.invokevirtual 55, 3) := by decide +kernel
theorem d_Lo_sortPairs_53 : decode Y_Lo_sortPairs.2.2.1 53 = .ok (.iinc 4 1, 3) := by decide +kernel
theorem d_Lo_sortPairs_56 : decode Y_Lo_sortPairs.2.2.1 56 = .ok (.goto (-38), 3) := by decide +kernel
theorem d_Lo_sortPairs_59 : decode Y_Lo_sortPairs.2.2.1 59 = .ok (.iinc 3 1, 3) := by decide +kernel
theorem d_Lo_sortPairs_62 : decode Y_Lo_sortPairs.2.2.1 62 = .ok (.goto (-55), 3) := by decide +kernel
theorem d_Lo_sortPairs_65 : decode Y_Lo_sortPairs.2.2.1 65 = .ok (.return_, 1) := by decide +kernel
theorem d_Lo_insert_0 : decode Y_Lo_insert.2.2.1 0 = .ok (.aload_n 0, 1) := by decide +kernel
theorem d_Lo_insert_1 : decode Y_Lo_insert.2.2.1 1 = .ok (.getfield 28, 3) := by decide +kernel
theorem d_Lo_insert_4 : decode Y_Lo_insert.2.2.1 4 = .ok (.istore 4, 2) := by decide +kernel
theorem d_Lo_insert_6 : decode Y_Lo_insert.2.2.1 6 = .ok (.iload 4, 2) := by decide +kernel
theorem d_Lo_insert_8 : decode Y_Lo_insert.2.2.1 8 = .ok (.ifCond .le 55, 3) := by decide +kernel
theorem d_Lo_insert_11 : decode Y_Lo_insert.2.2.1 11 = .ok (.aload_n 0, 1) := by decide +kernel
theorem d_Lo_insert_12 : decode Y_Lo_insert.2.2.1 12 = .ok (.aload_n 1, 1) := by decide +kernel
theorem d_Lo_insert_13 : decode Y_Lo_insert.2.2.1 13 = .ok (.iload_n 2, 1) := by decide +kernel
theorem d_Lo_insert_14 : decode Y_Lo_insert.2.2.1 14 = .ok (.iload_n 3, 1) := by decide +kernel
theorem d_Lo_insert_15 : decode Y_Lo_insert.2.2.1 15 = .ok (.iload 4, 2) := by decide +kernel
theorem d_Lo_insert_17 : decode Y_Lo_insert.2.2.1 17 = .ok (.iconst 1, 1) := by decide +kernel
theorem d_Lo_insert_18 : decode Y_Lo_insert.2.2.1 18 = .ok (.isub, 1) := by decide +kernel
theorem d_Lo_insert_19 : decode Y_Lo_insert.2.2.1 19 = .ok (.invokevirtual 59, 3) := by decide +kernel
theorem d_Lo_insert_22 : decode Y_Lo_insert.2.2.1 22 = .ok (.ifCond .eq 41, 3) := by decide +kernel
theorem d_Lo_insert_25 : decode Y_Lo_insert.2.2.1 25 = .ok (.aload_n 0, 1) := by decide +kernel
theorem d_Lo_insert_26 : decode Y_Lo_insert.2.2.1 26 = .ok (.getfield 22, 3) := by decide +kernel
theorem d_Lo_insert_29 : decode Y_Lo_insert.2.2.1 29 = .ok (.iload 4, 2) := by decide +kernel
theorem d_Lo_insert_31 : decode Y_Lo_insert.2.2.1 31 = .ok (.aload_n 0, 1) := by decide +kernel
theorem d_Lo_insert_32 : decode Y_Lo_insert.2.2.1 32 = .ok (.getfield 22, 3) := by decide +kernel
theorem d_Lo_insert_35 : decode Y_Lo_insert.2.2.1 35 = .ok (.iload 4, 2) := by decide +kernel
theorem d_Lo_insert_37 : decode Y_Lo_insert.2.2.1 37 = .ok (.iconst 1, 1) := by decide +kernel
theorem d_Lo_insert_38 : decode Y_Lo_insert.2.2.1 38 = .ok (.isub, 1) := by decide +kernel
theorem d_Lo_insert_39 : decode Y_Lo_insert.2.2.1 39 = .ok (.iaload, 1) := by decide +kernel
theorem d_Lo_insert_40 : decode Y_Lo_insert.2.2.1 40 = .ok (.iastore, 1) := by decide +kernel
theorem d_Lo_insert_41 : decode Y_Lo_insert.2.2.1 41 = .ok (.aload_n 0, 1) := by decide +kernel
theorem d_Lo_insert_42 : decode Y_Lo_insert.2.2.1 42 = .ok (.getfield 25, 3) := by decide +kernel
theorem d_Lo_insert_45 : decode Y_Lo_insert.2.2.1 45 = .ok (.iload 4, 2) := by decide +kernel
theorem d_Lo_insert_47 : decode Y_Lo_insert.2.2.1 47 = .ok (.aload_n 0, 1) := by decide +kernel
theorem d_Lo_insert_48 : decode Y_Lo_insert.2.2.1 48 = .ok (.getfield 25, 3) := by decide +kernel
theorem d_Lo_insert_51 : decode Y_Lo_insert.2.2.1 51 = .ok (.iload 4, 2) := by decide +kernel
theorem d_Lo_insert_53 : decode Y_Lo_insert.2.2.1 53 = .ok (.iconst 1, 1) := by decide +kernel
theorem d_Lo_insert_54 : decode Y_Lo_insert.2.2.1 54 = .ok (.isub, 1) := by decide +kernel
theorem d_Lo_insert_55 : decode Y_Lo_insert.2.2.1 55 = .ok (.iaload, 1) := by decide +kernel
theorem d_Lo_insert_56 : decode Y_Lo_insert.2.2.1 56 = .ok (.iastore, 1) := by decide +kernel
theorem d_Lo_insert_57 : decode Y_Lo_insert.2.2.1 57 = .ok (.iinc 4 (-1), 3) := by decide +kernel
theorem d_Lo_insert_60 : decode Y_Lo_insert.2.2.1 60 = .ok (.goto (-54), 3) := by decide +kernel
theorem d_Lo_insert_63 : decode Y_Lo_insert.2.2.1 63 = .ok (.aload_n 0, 1) := by decide +kernel
theorem d_Lo_insert_64 : decode Y_Lo_insert.2.2.1 64 = .ok (.getfield 22, 3) := by decide +kernel
theorem d_Lo_insert_67 : decode Y_Lo_insert.2.2.1 67 = .ok (.iload 4, 2) := by decide +kernel
theorem d_Lo_insert_69 : decode Y_Lo_insert.2.2.1 69 = .ok (.iload_n 2, 1) := by decide +kernel
theorem d_Lo_insert_70 : decode Y_Lo_insert.2.2.1 70 = .ok (.iastore, 1) := by decide +kernel
theorem d_Lo_insert_71 : decode Y_Lo_insert.2.2.1 71 = .ok (.aload_n 0, 1) := by decide +kernel
theorem d_Lo_insert_72 : decode Y_Lo_insert.2.2.1 72 = .ok (.getfield 25, 3) := by decide +kernel
theorem d_Lo_insert_75 : decode Y_Lo_insert.2.2.1 75 = .ok (.iload 4, 2) := by decide +kernel
theorem d_Lo_insert_77 : decode Y_Lo_insert.2.2.1 77 = .ok (.iload_n 3, 1) := by decide +kernel
theorem d_Lo_insert_78 : decode Y_Lo_insert.2.2.1 78 = .ok (.iastore, 1) := by decide +kernel
theorem d_Lo_insert_79 : decode Y_Lo_insert.2.2.1 79 = .ok (.aload_n 0, 1) := by decide +kernel
theorem d_Lo_insert_80 : decode Y_Lo_insert.2.2.1 80 = .ok (.dup, 1) := by decide +kernel
theorem d_Lo_insert_81 : decode Y_Lo_insert.2.2.1 81 = .ok (.getfield 28, 3) := by decide +kernel
theorem d_Lo_insert_84 : decode Y_Lo_insert.2.2.1 84 = .ok (.iconst 1, 1) := by decide +kernel
theorem d_Lo_insert_85 : decode Y_Lo_insert.2.2.1 85 = .ok (.iadd, 1) := by decide +kernel
theorem d_Lo_insert_86 : decode Y_Lo_insert.2.2.1 86 = .ok (.putfield 28, 3) := by decide +kernel
theorem d_Lo_insert_89 : decode Y_Lo_insert.2.2.1 89 = .ok (.return_, 1) := by decide +kernel
theorem d_Lo_overtakes_0 : decode Y_Lo_overtakes.2.2.1 0 = .ok (.aload_n 1, 1) := by decide +kernel
theorem d_Lo_overtakes_1 : decode Y_Lo_overtakes.2.2.1 1 = .ok (.iload_n 2, 1) := by decide +kernel
theorem d_Lo_overtakes_2 : decode Y_Lo_overtakes.2.2.1 2 = .ok (.iload_n 3, 1) := by decide +kernel
theorem d_Lo_overtakes_3 : decode Y_Lo_overtakes.2.2.1 3 = .ok (.invokevirtual 49, 3) := by decide +kernel
theorem d_Lo_overtakes_6 : decode Y_Lo_overtakes.2.2.1 6 = .ok (.istore 5, 2) := by decide +kernel
theorem d_Lo_overtakes_8 : decode Y_Lo_overtakes.2.2.1 8 = .ok (.aload_n 1, 1) := by decide +kernel
theorem d_Lo_overtakes_9 : decode Y_Lo_overtakes.2.2.1 9 = .ok (.aload_n 0, 1) := by decide +kernel
theorem d_Lo_overtakes_10 : decode Y_Lo_overtakes.2.2.1 10 = .ok (.getfield 22, 3) := by decide +kernel
theorem d_Lo_overtakes_13 : decode Y_Lo_overtakes.2.2.1 13 = .ok (.iload 4, 2) := by decide +kernel
theorem d_Lo_overtakes_15 : decode Y_Lo_overtakes.2.2.1 15 = .ok (.iaload, 1) := by decide +kernel
theorem d_Lo_overtakes_16 : decode Y_Lo_overtakes.2.2.1 16 = .ok (.aload_n 0, 1) := by decide +kernel
theorem d_Lo_overtakes_17 : decode Y_Lo_overtakes.2.2.1 17 = .ok (.getfield 25, 3) := by decide +kernel
theorem d_Lo_overtakes_20 : decode Y_Lo_overtakes.2.2.1 20 = .ok (.iload 4, 2) := by decide +kernel
theorem d_Lo_overtakes_22 : decode Y_Lo_overtakes.2.2.1 22 = .ok (.iaload, 1) := by decide +kernel
theorem d_Lo_overtakes_23 : decode Y_Lo_overtakes.2.2.1 23 = .ok (.invokevirtual 49, 3) := by decide +kernel
theorem d_Lo_overtakes_26 : decode Y_Lo_overtakes.2.2.1 26 = .ok (.istore 6, 2) := by decide +kernel
theorem d_Lo_overtakes_28 : decode Y_Lo_overtakes.2.2.1 28 = .ok (.iload 5, 2) := by decide +kernel
theorem d_Lo_overtakes_30 : decode Y_Lo_overtakes.2.2.1 30 = .ok (.iload 6, 2) := by decide +kernel
theorem d_Lo_overtakes_32 : decode Y_Lo_overtakes.2.2.1 32 = .ok (.if_icmp .eq 16, 3) := by decide +kernel
theorem d_Lo_overtakes_35 : decode Y_Lo_overtakes.2.2.1 35 = .ok (.iload 5, 2) := by decide +kernel
theorem d_Lo_overtakes_37 : decode Y_Lo_overtakes.2.2.1 37 = .ok (.iload 6, 2) := by decide +kernel
theorem d_Lo_overtakes_39 : decode Y_Lo_overtakes.2.2.1 39 = .ok (.if_icmp .le 7, 3) := by decide +kernel
theorem d_Lo_overtakes_42 : decode Y_Lo_overtakes.2.2.1 42 = .ok (.iconst 1, 1) := by decide +kernel
theorem d_Lo_overtakes_43 : decode Y_Lo_overtakes.2.2.1 43 = .ok (.goto 4, 3) := by decide +kernel
theorem d_Lo_overtakes_46 : decode Y_Lo_overtakes.2.2.1 46 = .ok (.iconst 0, 1) := by decide +kernel
theorem d_Lo_overtakes_47 : decode Y_Lo_overtakes.2.2.1 47 = .ok (.ireturn, 1) := by decide +kernel
theorem d_Lo_overtakes_48 : decode Y_Lo_overtakes.2.2.1 48 = .ok (.aload_n 1, 1) := by decide +kernel
theorem d_Lo_overtakes_49 : decode Y_Lo_overtakes.2.2.1 49 = .ok (.getfield 63, 3) := by decide +kernel
theorem d_Lo_overtakes_52 : decode Y_Lo_overtakes.2.2.1 52 = .ok (.iload_n 3, 1) := by decide +kernel
theorem d_Lo_overtakes_53 : decode Y_Lo_overtakes.2.2.1 53 = .ok (.aaload, 1) := by decide +kernel
theorem d_Lo_overtakes_54 : decode Y_Lo_overtakes.2.2.1 54 = .ok (.iload_n 2, 1) := by decide +kernel
theorem d_Lo_overtakes_55 : decode Y_Lo_overtakes.2.2.1 55 = .ok (.iaload, 1) := by decide +kernel
theorem d_Lo_overtakes_56 : decode Y_Lo_overtakes.2.2.1 56 = .ok (.aload_n 1, 1) := by decide +kernel
theorem d_Lo_overtakes_57 : decode Y_Lo_overtakes.2.2.1 57 = .ok (.getfield 63, 3) := by decide +kernel
theorem d_Lo_overtakes_60 : decode Y_Lo_overtakes.2.2.1 60 = .ok (.aload_n 0, 1) := by decide +kernel
theorem d_Lo_overtakes_61 : decode Y_Lo_overtakes.2.2.1 61 = .ok (.getfield 25, 3) := by decide +kernel
theorem d_Lo_overtakes_64 : decode Y_Lo_overtakes.2.2.1 64 = .ok (.iload 4, 2) := by decide +kernel
theorem d_Lo_overtakes_66 : decode Y_Lo_overtakes.2.2.1 66 = .ok (.iaload, 1) := by decide +kernel
theorem d_Lo_overtakes_67 : decode Y_Lo_overtakes.2.2.1 67 = .ok (.aaload, 1) := by decide +kernel
theorem d_Lo_overtakes_68 : decode Y_Lo_overtakes.2.2.1 68 = .ok (.aload_n 0, 1) := by decide +kernel
theorem d_Lo_overtakes_69 : decode Y_Lo_overtakes.2.2.1 69 = .ok (.getfield 22, 3) := by decide +kernel
theorem d_Lo_overtakes_72 : decode Y_Lo_overtakes.2.2.1 72 = .ok (.iload 4, 2) := by decide +kernel
theorem d_Lo_overtakes_74 : decode Y_Lo_overtakes.2.2.1 74 = .ok (.iaload, 1) := by decide +kernel
theorem d_Lo_overtakes_75 : decode Y_Lo_overtakes.2.2.1 75 = .ok (.iaload, 1) := by decide +kernel
theorem d_Lo_overtakes_76 : decode Y_Lo_overtakes.2.2.1 76 = .ok (.if_icmp .ge 7, 3) := by decide +kernel
theorem d_Lo_overtakes_79 : decode Y_Lo_overtakes.2.2.1 79 = .ok (.iconst 1, 1) := by decide +kernel
theorem d_Lo_overtakes_80 : decode Y_Lo_overtakes.2.2.1 80 = .ok (.goto 4, 3) := by decide +kernel
theorem d_Lo_overtakes_83 : decode Y_Lo_overtakes.2.2.1 83 = .ok (.iconst 0, 1) := by decide +kernel
theorem d_Lo_overtakes_84 : decode Y_Lo_overtakes.2.2.1 84 = .ok (.ireturn, 1) := by decide +kernel
theorem d_Lo_lock_0 : decode Y_Lo_lock.2.2.1 0 = .ok (.aload_n 0, 1) := by decide +kernel
theorem d_Lo_lock_1 : decode Y_Lo_lock.2.2.1 1 = .ok (.getfield 15, 3) := by decide +kernel
theorem d_Lo_lock_4 : decode Y_Lo_lock.2.2.1 4 = .ok (.iload_n 2, 1) := by decide +kernel
theorem d_Lo_lock_5 : decode Y_Lo_lock.2.2.1 5 = .ok (.dup2, 1) := by decide +kernel
theorem d_Lo_lock_6 : decode Y_Lo_lock.2.2.1 6 = .ok (.iaload, 1) := by decide +kernel
theorem d_Lo_lock_7 : decode Y_Lo_lock.2.2.1 7 = .ok (.iconst 1, 1) := by decide +kernel
theorem d_Lo_lock_8 : decode Y_Lo_lock.2.2.1 8 = .ok (.iload_n 1, 1) := by decide +kernel
theorem d_Lo_lock_9 : decode Y_Lo_lock.2.2.1 9 = .ok (.ishl, 1) := by decide +kernel
theorem d_Lo_lock_10 : decode Y_Lo_lock.2.2.1 10 = .ok (.ior, 1) := by decide +kernel
theorem d_Lo_lock_11 : decode Y_Lo_lock.2.2.1 11 = .ok (.iastore, 1) := by decide +kernel
theorem d_Lo_lock_12 : decode Y_Lo_lock.2.2.1 12 = .ok (.aload_n 0, 1) := by decide +kernel
theorem d_Lo_lock_13 : decode Y_Lo_lock.2.2.1 13 = .ok (.getfield 19, 3) := by decide +kernel
theorem d_Lo_lock_16 : decode Y_Lo_lock.2.2.1 16 = .ok (.iload_n 2, 1) := by decide +kernel
theorem d_Lo_lock_17 : decode Y_Lo_lock.2.2.1 17 = .ok (.iaload, 1) := by decide +kernel
theorem d_Lo_lock_18 : decode Y_Lo_lock.2.2.1 18 = .ok (.iconst 1, 1) := by decide +kernel
theorem d_Lo_lock_19 : decode Y_Lo_lock.2.2.1 19 = .ok (.iload_n 2, 1) := by decide +kernel
theorem d_Lo_lock_20 : decode Y_Lo_lock.2.2.1 20 = .ok (.ishl, 1) := by decide +kernel
theorem d_Lo_lock_21 : decode Y_Lo_lock.2.2.1 21 = .ok (.ior, 1) := by decide +kernel
theorem d_Lo_lock_22 : decode Y_Lo_lock.2.2.1 22 = .ok (.istore_n 3, 1) := by decide +kernel
theorem d_Lo_lock_23 : decode Y_Lo_lock.2.2.1 23 = .ok (.iconst 0, 1) := by decide +kernel
theorem d_Lo_lock_24 : decode Y_Lo_lock.2.2.1 24 = .ok (.istore 4, 2) := by decide +kernel
theorem d_Lo_lock_26 : decode Y_Lo_lock.2.2.1 26 = .ok (.iload 4, 2) := by decide +kernel
theorem d_Lo_lock_28 : decode Y_Lo_lock.2.2.1 28 = .ok (.aload_n 0, 1) := by decide +kernel
theorem d_Lo_lock_29 : decode Y_Lo_lock.2.2.1 29 = .ok (.getfield 9, 3) := by decide +kernel
theorem d_Lo_lock_32 : decode Y_Lo_lock.2.2.1 32 = .ok (.if_icmp .ge 40, 3) := by decide +kernel
theorem d_Lo_lock_35 : decode Y_Lo_lock.2.2.1 35 = .ok (.iload 4, 2) := by decide +kernel
theorem d_Lo_lock_37 : decode Y_Lo_lock.2.2.1 37 = .ok (.iload_n 1, 1) := by decide +kernel
theorem d_Lo_lock_38 : decode Y_Lo_lock.2.2.1 38 = .ok (.if_icmp .eq 17, 3) := by decide +kernel
theorem d_Lo_lock_41 : decode Y_Lo_lock.2.2.1 41 = .ok (.aload_n 0, 1) := by decide +kernel
theorem d_Lo_lock_42 : decode Y_Lo_lock.2.2.1 42 = .ok (.getfield 19, 3) := by decide +kernel
theorem d_Lo_lock_45 : decode Y_Lo_lock.2.2.1 45 = .ok (.iload 4, 2) := by decide +kernel
theorem d_Lo_lock_47 : decode Y_Lo_lock.2.2.1 47 = .ok (.iaload, 1) := by decide +kernel
theorem d_Lo_lock_48 : decode Y_Lo_lock.2.2.1 48 = .ok (.iload_n 1, 1) := by decide +kernel
theorem d_Lo_lock_49 : decode Y_Lo_lock.2.2.1 49 = .ok (.invokestatic 41, 3) := by decide +kernel
theorem d_Lo_lock_52 : decode Y_Lo_lock.2.2.1 52 = .ok (.ifCond .eq 14, 3) := by decide +kernel
theorem d_Lo_lock_55 : decode Y_Lo_lock.2.2.1 55 = .ok (.aload_n 0, 1) := by decide +kernel
theorem d_Lo_lock_56 : decode Y_Lo_lock.2.2.1 56 = .ok (.getfield 19, 3) := by decide +kernel
theorem d_Lo_lock_59 : decode Y_Lo_lock.2.2.1 59 = .ok (.iload 4, 2) := by decide +kernel
theorem d_Lo_lock_61 : decode Y_Lo_lock.2.2.1 61 = .ok (.dup2, 1) := by decide +kernel
theorem d_Lo_lock_62 : decode Y_Lo_lock.2.2.1 62 = .ok (.iaload, 1) := by decide +kernel
theorem d_Lo_lock_63 : decode Y_Lo_lock.2.2.1 63 = .ok (.iload_n 3, 1) := by decide +kernel
theorem d_Lo_lock_64 : decode Y_Lo_lock.2.2.1 64 = .ok (.ior, 1) := by decide +kernel
theorem d_Lo_lock_65 : decode Y_Lo_lock.2.2.1 65 = .ok (.iastore, 1) := by decide +kernel
theorem d_Lo_lock_66 : decode Y_Lo_lock.2.2.1 66 = .ok (.iinc 4 1, 3) := by decide +kernel
theorem d_Lo_lock_69 : decode Y_Lo_lock.2.2.1 69 = .ok (.goto (-43), 3) := by decide +kernel
theorem d_Lo_lock_72 : decode Y_Lo_lock.2.2.1 72 = .ok (.return_, 1) := by decide +kernel
theorem d_Lo_lineUp_0 : decode Y_Lo_lineUp.2.2.1 0 = .ok (.iconst 1, 1) := by decide +kernel
theorem d_Lo_lineUp_1 : decode Y_Lo_lineUp.2.2.1 1 = .ok (.aload_n 0, 1) := by decide +kernel
theorem d_Lo_lineUp_2 : decode Y_Lo_lineUp.2.2.1 2 = .ok (.getfield 9, 3) := by decide +kernel
theorem d_Lo_lineUp_5 : decode Y_Lo_lineUp.2.2.1 5 = .ok (.ishl, 1) := by decide +kernel
theorem d_Lo_lineUp_6 : decode Y_Lo_lineUp.2.2.1 6 = .ok (.iconst 1, 1) := by decide +kernel
theorem d_Lo_lineUp_7 : decode Y_Lo_lineUp.2.2.1 7 = .ok (.isub, 1) := by decide +kernel
theorem d_Lo_lineUp_8 : decode Y_Lo_lineUp.2.2.1 8 = .ok (.istore_n 3, 1) := by decide +kernel
theorem d_Lo_lineUp_9 : decode Y_Lo_lineUp.2.2.1 9 = .ok (.iconst (-1), 1) := by decide +kernel
theorem d_Lo_lineUp_10 : decode Y_Lo_lineUp.2.2.1 10 = .ok (.istore 4, 2) := by decide +kernel
theorem d_Lo_lineUp_12 : decode Y_Lo_lineUp.2.2.1 12 = .ok (.iconst 0, 1) := by decide +kernel
theorem d_Lo_lineUp_13 : decode Y_Lo_lineUp.2.2.1 13 = .ok (.istore 5, 2) := by decide +kernel
theorem d_Lo_lineUp_15 : decode Y_Lo_lineUp.2.2.1 15 = .ok (.iload 5, 2) := by decide +kernel
theorem d_Lo_lineUp_17 : decode Y_Lo_lineUp.2.2.1 17 = .ok (.iload_n 2, 1) := by decide +kernel
theorem d_Lo_lineUp_18 : decode Y_Lo_lineUp.2.2.1 18 = .ok (.if_icmp .gt 26, 3) := by decide +kernel
theorem d_Lo_lineUp_21 : decode Y_Lo_lineUp.2.2.1 21 = .ok (.aload_n 0, 1) := by decide +kernel
theorem d_Lo_lineUp_22 : decode Y_Lo_lineUp.2.2.1 22 = .ok (.aload_n 1, 1) := by decide +kernel
theorem d_Lo_lineUp_23 : decode Y_Lo_lineUp.2.2.1 23 = .ok (.iload_n 3, 1) := by decide +kernel
theorem d_Lo_lineUp_24 : decode Y_Lo_lineUp.2.2.1 24 = .ok (.invokevirtual 67, 3) := by decide +kernel
theorem d_Lo_lineUp_27 : decode Y_Lo_lineUp.2.2.1 27 = .ok (.istore 4, 2) := by decide +kernel
theorem d_Lo_lineUp_29 : decode Y_Lo_lineUp.2.2.1 29 = .ok (.iload_n 3, 1) := by decide +kernel
theorem d_Lo_lineUp_30 : decode Y_Lo_lineUp.2.2.1 30 = .ok (.iconst 1, 1) := by decide +kernel
theorem d_Lo_lineUp_31 : decode Y_Lo_lineUp.2.2.1 31 = .ok (.iload 4, 2) := by decide +kernel
theorem d_Lo_lineUp_33 : decode Y_Lo_lineUp.2.2.1 33 = .ok (.ishl, 1) := by decide +kernel
theorem d_Lo_lineUp_34 : decode Y_Lo_lineUp.2.2.1 34 = .ok (.iconst (-1), 1) := by decide +kernel
theorem d_Lo_lineUp_35 : decode Y_Lo_lineUp.2.2.1 35 = .ok (.ixor, 1) := by decide +kernel
theorem d_Lo_lineUp_36 : decode Y_Lo_lineUp.2.2.1 36 = .ok (.iand, 1) := by decide +kernel
theorem d_Lo_lineUp_37 : decode Y_Lo_lineUp.2.2.1 37 = .ok (.istore_n 3, 1) := by decide +kernel
theorem d_Lo_lineUp_38 : decode Y_Lo_lineUp.2.2.1 38 = .ok (.iinc 5 1, 3) := by decide +kernel
theorem d_Lo_lineUp_41 : decode Y_Lo_lineUp.2.2.1 41 = .ok (.goto (-26), 3) := by decide +kernel
theorem d_Lo_lineUp_44 : decode Y_Lo_lineUp.2.2.1 44 = .ok (.iload 4, 2) := by decide +kernel
theorem d_Lo_lineUp_46 : decode Y_Lo_lineUp.2.2.1 46 = .ok (.ireturn, 1) := by decide +kernel
theorem d_Lo_firstFree_0 : decode Y_Lo_firstFree.2.2.1 0 = .ok (.iconst 0, 1) := by decide +kernel
theorem d_Lo_firstFree_1 : decode Y_Lo_firstFree.2.2.1 1 = .ok (.istore_n 3, 1) := by decide +kernel
theorem d_Lo_firstFree_2 : decode Y_Lo_firstFree.2.2.1 2 = .ok (.iload_n 3, 1) := by decide +kernel
theorem d_Lo_firstFree_3 : decode Y_Lo_firstFree.2.2.1 3 = .ok (.aload_n 0, 1) := by decide +kernel
theorem d_Lo_firstFree_4 : decode Y_Lo_firstFree.2.2.1 4 = .ok (.getfield 9, 3) := by decide +kernel
theorem d_Lo_firstFree_7 : decode Y_Lo_firstFree.2.2.1 7 = .ok (.if_icmp .ge 36, 3) := by decide +kernel
theorem d_Lo_firstFree_10 : decode Y_Lo_firstFree.2.2.1 10 = .ok (.iload_n 2, 1) := by decide +kernel
theorem d_Lo_firstFree_11 : decode Y_Lo_firstFree.2.2.1 11 = .ok (.aload_n 1, 1) := by decide +kernel
theorem d_Lo_firstFree_12 : decode Y_Lo_firstFree.2.2.1 12 = .ok (.iload_n 3, 1) := by decide +kernel
theorem d_Lo_firstFree_13 : decode Y_Lo_firstFree.2.2.1 13 = .ok (.iaload, 1) := by decide +kernel
theorem d_Lo_firstFree_14 : decode Y_Lo_firstFree.2.2.1 14 = .ok (.invokestatic 41, 3) := by decide +kernel
theorem d_Lo_firstFree_17 : decode Y_Lo_firstFree.2.2.1 17 = .ok (.ifCond .eq 20, 3) := by decide +kernel
theorem d_Lo_firstFree_20 : decode Y_Lo_firstFree.2.2.1 20 = .ok (.aload_n 0, 1) := by decide +kernel
theorem d_Lo_firstFree_21 : decode Y_Lo_firstFree.2.2.1 21 = .ok (.getfield 15, 3) := by decide +kernel
theorem d_Lo_firstFree_24 : decode Y_Lo_firstFree.2.2.1 24 = .ok (.aload_n 1, 1) := by decide +kernel
theorem d_Lo_firstFree_25 : decode Y_Lo_firstFree.2.2.1 25 = .ok (.iload_n 3, 1) := by decide +kernel
theorem d_Lo_firstFree_26 : decode Y_Lo_firstFree.2.2.1 26 = .ok (.iaload, 1) := by decide +kernel
theorem d_Lo_firstFree_27 : decode Y_Lo_firstFree.2.2.1 27 = .ok (.iaload, 1) := by decide +kernel
theorem d_Lo_firstFree_28 : decode Y_Lo_firstFree.2.2.1 28 = .ok (.iload_n 2, 1) := by decide +kernel
theorem d_Lo_firstFree_29 : decode Y_Lo_firstFree.2.2.1 29 = .ok (.iand, 1) := by decide +kernel
theorem d_Lo_firstFree_30 : decode Y_Lo_firstFree.2.2.1 30 = .ok (.ifCond .ne 7, 3) := by decide +kernel
theorem d_Lo_firstFree_33 : decode Y_Lo_firstFree.2.2.1 33 = .ok (.aload_n 1, 1) := by decide +kernel
theorem d_Lo_firstFree_34 : decode Y_Lo_firstFree.2.2.1 34 = .ok (.iload_n 3, 1) := by decide +kernel
theorem d_Lo_firstFree_35 : decode Y_Lo_firstFree.2.2.1 35 = .ok (.iaload, 1) := by decide +kernel
theorem d_Lo_firstFree_36 : decode Y_Lo_firstFree.2.2.1 36 = .ok (.ireturn, 1) := by decide +kernel
theorem d_Lo_firstFree_37 : decode Y_Lo_firstFree.2.2.1 37 = .ok (.iinc 3 1, 3) := by decide +kernel
theorem d_Lo_firstFree_40 : decode Y_Lo_firstFree.2.2.1 40 = .ok (.goto (-38), 3) := by decide +kernel
theorem d_Lo_firstFree_43 : decode Y_Lo_firstFree.2.2.1 43 = .ok (.iconst (-1), 1) := by decide +kernel
theorem d_Lo_firstFree_44 : decode Y_Lo_firstFree.2.2.1 44 = .ok (.ireturn, 1) := by decide +kernel
